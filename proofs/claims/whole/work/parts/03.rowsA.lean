theorem dX0_init_0 : decode cX0_init 0 = .ok (.aload_n 0, 1) := by decide +kernel
theorem dX0_init_1 : decode cX0_init 1 = .ok (.invokespecial 3, 3) := by decide +kernel
theorem dX0_init_4 : decode cX0_init 4 = .ok (.aload_n 0, 1) := by decide +kernel
theorem dX0_init_5 : decode cX0_init 5 = .ok (.bipush 20, 2) := by decide +kernel
theorem dX0_init_7 : decode cX0_init 7 = .ok (.newarray .int, 2) := by decide +kernel
theorem dX0_init_9 : decode cX0_init 9 = .ok (.putfield 11, 3) := by decide +kernel
theorem dX0_init_12 : decode cX0_init 12 = .ok (.aload_n 0, 1) := by decide +kernel
theorem dX0_init_13 : decode cX0_init 13 = .ok (.iconst 0, 1) := by decide +kernel
theorem dX0_init_14 : decode cX0_init 14 = .ok (.putfield 15, 3) := by decide +kernel
theorem dX0_init_17 : decode cX0_init 17 = .ok (.return_, 1) := by decide +kernel
theorem dX0_forget_0 : decode cX0_forget 0 = .ok (.aload_n 0, 1) := by decide +kernel
theorem dX0_forget_1 : decode cX0_forget 1 = .ok (.iconst 0, 1) := by decide +kernel
theorem dX0_forget_2 : decode cX0_forget 2 = .ok (.putfield 15, 3) := by decide +kernel
theorem dX0_forget_5 : decode cX0_forget 5 = .ok (.return_, 1) := by decide +kernel
theorem dX0_tell_0 : decode cX0_tell 0 = .ok (.iload_n 1, 1) := by decide +kernel
theorem dX0_tell_1 : decode cX0_tell 1 = .ok (.ifCond .lt 26, 3) := by decide +kernel
theorem dX0_tell_4 : decode cX0_tell 4 = .ok (.iload_n 1, 1) := by decide +kernel
theorem dX0_tell_5 : decode cX0_tell 5 = .ok (.aload_n 0, 1) := by decide +kernel
theorem dX0_tell_6 : decode cX0_tell 6 = .ok (.getfield 15, 3) := by decide +kernel
theorem dX0_tell_9 : decode cX0_tell 9 = .ok (.if_icmp .ge 18, 3) := by decide +kernel
theorem dX0_tell_12 : decode cX0_tell 12 = .ok (.iload_n 1, 1) := by decide +kernel
theorem dX0_tell_13 : decode cX0_tell 13 = .ok (.bipush 20, 2) := by decide +kernel
theorem dX0_tell_15 : decode cX0_tell 15 = .ok (.if_icmp .ge 12, 3) := by decide +kernel
theorem dX0_tell_18 : decode cX0_tell 18 = .ok (.aload_n 0, 1) := by decide +kernel
theorem dX0_tell_19 : decode cX0_tell 19 = .ok (.getfield 11, 3) := by decide +kernel
theorem dX0_tell_22 : decode cX0_tell 22 = .ok (.iload_n 1, 1) := by decide +kernel
theorem dX0_tell_23 : decode cX0_tell 23 = .ok (.iaload, 1) := by decide +kernel
theorem dX0_tell_24 : decode cX0_tell 24 = .ok (.goto 4, 3) := by decide +kernel
theorem dX0_tell_27 : decode cX0_tell 27 = .ok (.iconst (-1), 1) := by decide +kernel
theorem dX0_tell_28 : decode cX0_tell 28 = .ok (.ireturn, 1) := by decide +kernel
theorem dX0_start_0 : decode cX0_start 0 = .ok (.aload_n 0, 1) := by decide +kernel
theorem dX0_start_1 : decode cX0_start 1 = .ok (.aload_n 1, 1) := by decide +kernel
theorem dX0_start_2 : decode cX0_start 2 = .ok (.iload_n 2, 1) := by decide +kernel
theorem dX0_start_3 : decode cX0_start 3 = .ok (.aload_n 1, 1) := by decide +kernel
theorem dX0_start_4 : decode cX0_start 4 = .ok (.getfield 19, 3) := by decide +kernel
theorem dX0_start_7 : decode cX0_start 7 = .ok (.iload_n 3, 1) := by decide +kernel
theorem dX0_start_8 : decode cX0_start 8 = .ok (.iconst 0, 1) := by decide +kernel
theorem dX0_start_9 : decode cX0_start 9 = .ok (.invokevirtual 24, 3) := by decide +kernel
theorem dX0_start_12 : decode cX0_start 12 = .ok (.ireturn, 1) := by decide +kernel
theorem dX0_run_0 : decode cX0_run 0 = .ok (.iload_n 2, 1) := by decide +kernel
theorem dX0_run_1 : decode cX0_run 1 = .ok (.iload_n 3, 1) := by decide +kernel
theorem dX0_run_2 : decode cX0_run 2 = .ok (.invokestatic 28, 3) := by decide +kernel
theorem dX0_run_5 : decode cX0_run 5 = .ok (.istore 6, 2) := by decide +kernel
theorem dX0_run_7 : decode cX0_run 7 = .ok (.iload 6, 2) := by decide +kernel
theorem dX0_run_9 : decode cX0_run 9 = .ok (.iconst (-1), 1) := by decide +kernel
theorem dX0_run_10 : decode cX0_run 10 = .ok (.if_icmp .eq 10, 3) := by decide +kernel
theorem dX0_run_13 : decode cX0_run 13 = .ok (.iload 5, 2) := by decide +kernel
theorem dX0_run_15 : decode cX0_run 15 = .ok (.bipush 12, 2) := by decide +kernel
theorem dX0_run_17 : decode cX0_run 17 = .ok (.if_icmp .le 5, 3) := by decide +kernel
theorem dX0_run_20 : decode cX0_run 20 = .ok (.iconst 0, 1) := by decide +kernel
theorem dX0_run_21 : decode cX0_run 21 = .ok (.ireturn, 1) := by decide +kernel
theorem dX0_run_22 : decode cX0_run 22 = .ok (.iload_n 2, 1) := by decide +kernel
theorem dX0_run_23 : decode cX0_run 23 = .ok (.iload 6, 2) := by decide +kernel
theorem dX0_run_25 : decode cX0_run 25 = .ok (.invokestatic 32, 3) := by decide +kernel
theorem dX0_run_28 : decode cX0_run 28 = .ok (.istore 7, 2) := by decide +kernel
theorem dX0_run_30 : decode cX0_run 30 = .ok (.aload_n 0, 1) := by decide +kernel
theorem dX0_run_31 : decode cX0_run 31 = .ok (.iload 7, 2) := by decide +kernel
theorem dX0_run_33 : decode cX0_run 33 = .ok (.invokevirtual 35, 3) := by decide +kernel
theorem dX0_run_36 : decode cX0_run 36 = .ok (.aload_n 0, 1) := by decide +kernel
theorem dX0_run_37 : decode cX0_run 37 = .ok (.iload 7, 2) := by decide +kernel
theorem dX0_run_39 : decode cX0_run 39 = .ok (.aload_n 1, 1) := by decide +kernel
theorem dX0_run_40 : decode cX0_run 40 = .ok (.getstatic 39, 3) := by decide +kernel
theorem dX0_run_43 : decode cX0_run 43 = .ok (.iload 6, 2) := by decide +kernel
theorem dX0_run_45 : decode cX0_run 45 = .ok (.iaload, 1) := by decide +kernel
theorem dX0_run_46 : decode cX0_run 46 = .ok (.iload 4, 2) := by decide +kernel
theorem dX0_run_48 : decode cX0_run 48 = .ok (.iload 5, 2) := by decide +kernel
theorem dX0_run_50 : decode cX0_run 50 = .ok (.iconst 1, 1) := by decide +kernel
theorem dX0_run_51 : decode cX0_run 51 = .ok (.iadd, 1) := by decide +kernel
theorem dX0_run_52 : decode cX0_run 52 = .ok (.invokevirtual 42, 3) := by decide +kernel
theorem dX0_run_55 : decode cX0_run 55 = .ok (.ireturn, 1) := by decide +kernel
theorem dX0_answerOf_0 : decode cX0_answerOf 0 = .ok (.aload_n 2, 1) := by decide +kernel
theorem dX0_answerOf_1 : decode cX0_answerOf 1 = .ok (.getfield 46, 3) := by decide +kernel
theorem dX0_answerOf_4 : decode cX0_answerOf 4 = .ok (.istore 6, 2) := by decide +kernel
theorem dX0_answerOf_6 : decode cX0_answerOf 6 = .ok (.aload_n 2, 1) := by decide +kernel
theorem dX0_answerOf_7 : decode cX0_answerOf 7 = .ok (.getfield 49, 3) := by decide +kernel
theorem dX0_answerOf_10 : decode cX0_answerOf 10 = .ok (.istore 7, 2) := by decide +kernel
theorem dX0_answerOf_12 : decode cX0_answerOf 12 = .ok (.iload_n 1, 1) := by decide +kernel
theorem dX0_answerOf_13 : decode cX0_answerOf 13 = .ok (.lookupswitch 246 #[(10, 91), (11, 97), (12, 114), (20, 147), (30, 162), (40, 176), (50, 190), (51, 203), (60, 218), (70, 232)], 91) := by decide +kernel
theorem dX0_answerOf_104 : decode cX0_answerOf 104 = .ok (.iload 4, 2) := by decide +kernel
theorem dX0_answerOf_106 : decode cX0_answerOf 106 = .ok (.iload 6, 2) := by decide +kernel
theorem dX0_answerOf_108 : decode cX0_answerOf 108 = .ok (.iadd, 1) := by decide +kernel
theorem dX0_answerOf_109 : decode cX0_answerOf 109 = .ok (.ireturn, 1) := by decide +kernel
theorem dX0_answerOf_110 : decode cX0_answerOf 110 = .ok (.aload_n 0, 1) := by decide +kernel
theorem dX0_answerOf_111 : decode cX0_answerOf 111 = .ok (.aload_n 2, 1) := by decide +kernel
theorem dX0_answerOf_112 : decode cX0_answerOf 112 = .ok (.iconst 0, 1) := by decide +kernel
theorem dX0_answerOf_113 : decode cX0_answerOf 113 = .ok (.aload_n 2, 1) := by decide +kernel
theorem dX0_answerOf_114 : decode cX0_answerOf 114 = .ok (.getfield 19, 3) := by decide +kernel
theorem dX0_answerOf_117 : decode cX0_answerOf 117 = .ok (.iload 4, 2) := by decide +kernel
theorem dX0_answerOf_119 : decode cX0_answerOf 119 = .ok (.iload 5, 2) := by decide +kernel
theorem dX0_answerOf_121 : decode cX0_answerOf 121 = .ok (.invokevirtual 24, 3) := by decide +kernel
theorem dX0_answerOf_124 : decode cX0_answerOf 124 = .ok (.iconst 2, 1) := by decide +kernel
theorem dX0_answerOf_125 : decode cX0_answerOf 125 = .ok (.imul, 1) := by decide +kernel
theorem dX0_answerOf_126 : decode cX0_answerOf 126 = .ok (.ireturn, 1) := by decide +kernel
theorem dX0_answerOf_127 : decode cX0_answerOf 127 = .ok (.aload_n 0, 1) := by decide +kernel
theorem dX0_answerOf_128 : decode cX0_answerOf 128 = .ok (.aload_n 2, 1) := by decide +kernel
theorem dX0_answerOf_129 : decode cX0_answerOf 129 = .ok (.iconst 1, 1) := by decide +kernel
theorem dX0_answerOf_130 : decode cX0_answerOf 130 = .ok (.aload_n 2, 1) := by decide +kernel
theorem dX0_answerOf_131 : decode cX0_answerOf 131 = .ok (.getfield 19, 3) := by decide +kernel
theorem dX0_answerOf_134 : decode cX0_answerOf 134 = .ok (.iload 4, 2) := by decide +kernel
theorem dX0_answerOf_136 : decode cX0_answerOf 136 = .ok (.iload 5, 2) := by decide +kernel
theorem dX0_answerOf_138 : decode cX0_answerOf 138 = .ok (.invokevirtual 24, 3) := by decide +kernel
theorem dX0_answerOf_141 : decode cX0_answerOf 141 = .ok (.aload_n 0, 1) := by decide +kernel
theorem dX0_answerOf_142 : decode cX0_answerOf 142 = .ok (.aload_n 2, 1) := by decide +kernel
theorem dX0_answerOf_143 : decode cX0_answerOf 143 = .ok (.iconst 0, 1) := by decide +kernel
theorem dX0_answerOf_144 : decode cX0_answerOf 144 = .ok (.aload_n 2, 1) := by decide +kernel
theorem dX0_answerOf_145 : decode cX0_answerOf 145 = .ok (.getfield 19, 3) := by decide +kernel
theorem dX0_answerOf_148 : decode cX0_answerOf 148 = .ok (.iload 4, 2) := by decide +kernel
theorem dX0_answerOf_150 : decode cX0_answerOf 150 = .ok (.iload 7, 2) := by decide +kernel
theorem dX0_answerOf_152 : decode cX0_answerOf 152 = .ok (.isub, 1) := by decide +kernel
theorem dX0_answerOf_153 : decode cX0_answerOf 153 = .ok (.iload 5, 2) := by decide +kernel
theorem dX0_answerOf_155 : decode cX0_answerOf 155 = .ok (.invokevirtual 24, 3) := by decide +kernel
theorem dX0_answerOf_158 : decode cX0_answerOf 158 = .ok (.ixor, 1) := by decide +kernel
theorem dX0_answerOf_159 : decode cX0_answerOf 159 = .ok (.ireturn, 1) := by decide +kernel
theorem dX0_answerOf_160 : decode cX0_answerOf 160 = .ok (.aload_n 0, 1) := by decide +kernel
theorem dX0_answerOf_161 : decode cX0_answerOf 161 = .ok (.aload_n 2, 1) := by decide +kernel
theorem dX0_answerOf_162 : decode cX0_answerOf 162 = .ok (.iconst 0, 1) := by decide +kernel
theorem dX0_answerOf_163 : decode cX0_answerOf 163 = .ok (.iload_n 3, 1) := by decide +kernel
theorem dX0_answerOf_164 : decode cX0_answerOf 164 = .ok (.iload 4, 2) := by decide +kernel
theorem dX0_answerOf_166 : decode cX0_answerOf 166 = .ok (.iload 5, 2) := by decide +kernel
theorem dX0_answerOf_168 : decode cX0_answerOf 168 = .ok (.invokevirtual 24, 3) := by decide +kernel
theorem dX0_answerOf_171 : decode cX0_answerOf 171 = .ok (.iload 7, 2) := by decide +kernel
theorem dX0_answerOf_173 : decode cX0_answerOf 173 = .ok (.iadd, 1) := by decide +kernel
theorem dX0_answerOf_174 : decode cX0_answerOf 174 = .ok (.ireturn, 1) := by decide +kernel
theorem dX0_answerOf_175 : decode cX0_answerOf 175 = .ok (.aload_n 0, 1) := by decide +kernel
theorem dX0_answerOf_176 : decode cX0_answerOf 176 = .ok (.aload_n 2, 1) := by decide +kernel
theorem dX0_answerOf_177 : decode cX0_answerOf 177 = .ok (.iconst 1, 1) := by decide +kernel
theorem dX0_answerOf_178 : decode cX0_answerOf 178 = .ok (.iload_n 3, 1) := by decide +kernel
theorem dX0_answerOf_179 : decode cX0_answerOf 179 = .ok (.iload 4, 2) := by decide +kernel
theorem dX0_answerOf_181 : decode cX0_answerOf 181 = .ok (.iload 5, 2) := by decide +kernel
theorem dX0_answerOf_183 : decode cX0_answerOf 183 = .ok (.invokevirtual 24, 3) := by decide +kernel
theorem dX0_answerOf_186 : decode cX0_answerOf 186 = .ok (.iconst 3, 1) := by decide +kernel
theorem dX0_answerOf_187 : decode cX0_answerOf 187 = .ok (.imul, 1) := by decide +kernel
theorem dX0_answerOf_188 : decode cX0_answerOf 188 = .ok (.ireturn, 1) := by decide +kernel
theorem dX0_answerOf_189 : decode cX0_answerOf 189 = .ok (.aload_n 0, 1) := by decide +kernel
theorem dX0_answerOf_190 : decode cX0_answerOf 190 = .ok (.aload_n 2, 1) := by decide +kernel
theorem dX0_answerOf_191 : decode cX0_answerOf 191 = .ok (.iconst 0, 1) := by decide +kernel
theorem dX0_answerOf_192 : decode cX0_answerOf 192 = .ok (.iload_n 3, 1) := by decide +kernel
theorem dX0_answerOf_193 : decode cX0_answerOf 193 = .ok (.iload 4, 2) := by decide +kernel
theorem dX0_answerOf_195 : decode cX0_answerOf 195 = .ok (.iconst 1, 1) := by decide +kernel
theorem dX0_answerOf_196 : decode cX0_answerOf 196 = .ok (.iadd, 1) := by decide +kernel
theorem dX0_answerOf_197 : decode cX0_answerOf 197 = .ok (.iload 5, 2) := by decide +kernel
theorem dX0_answerOf_199 : decode cX0_answerOf 199 = .ok (.invokevirtual 24, 3) := by decide +kernel
theorem dX0_answerOf_202 : decode cX0_answerOf 202 = .ok (.ireturn, 1) := by decide +kernel
theorem dX0_answerOf_203 : decode cX0_answerOf 203 = .ok (.aload_n 0, 1) := by decide +kernel
theorem dX0_answerOf_204 : decode cX0_answerOf 204 = .ok (.aload_n 2, 1) := by decide +kernel
theorem dX0_answerOf_205 : decode cX0_answerOf 205 = .ok (.iconst 2, 1) := by decide +kernel
theorem dX0_answerOf_206 : decode cX0_answerOf 206 = .ok (.iload_n 3, 1) := by decide +kernel
theorem dX0_answerOf_207 : decode cX0_answerOf 207 = .ok (.iload 4, 2) := by decide +kernel
theorem dX0_answerOf_209 : decode cX0_answerOf 209 = .ok (.iload 5, 2) := by decide +kernel
theorem dX0_answerOf_211 : decode cX0_answerOf 211 = .ok (.invokevirtual 24, 3) := by decide +kernel
theorem dX0_answerOf_214 : decode cX0_answerOf 214 = .ok (.ineg, 1) := by decide +kernel
theorem dX0_answerOf_215 : decode cX0_answerOf 215 = .ok (.ireturn, 1) := by decide +kernel
theorem dX0_answerOf_216 : decode cX0_answerOf 216 = .ok (.aload_n 0, 1) := by decide +kernel
theorem dX0_answerOf_217 : decode cX0_answerOf 217 = .ok (.aload_n 2, 1) := by decide +kernel
theorem dX0_answerOf_218 : decode cX0_answerOf 218 = .ok (.iconst 0, 1) := by decide +kernel
theorem dX0_answerOf_219 : decode cX0_answerOf 219 = .ok (.iload_n 3, 1) := by decide +kernel
theorem dX0_answerOf_220 : decode cX0_answerOf 220 = .ok (.iload 4, 2) := by decide +kernel
theorem dX0_answerOf_222 : decode cX0_answerOf 222 = .ok (.iload 5, 2) := by decide +kernel
theorem dX0_answerOf_224 : decode cX0_answerOf 224 = .ok (.invokevirtual 24, 3) := by decide +kernel
theorem dX0_answerOf_227 : decode cX0_answerOf 227 = .ok (.iload 6, 2) := by decide +kernel
theorem dX0_answerOf_229 : decode cX0_answerOf 229 = .ok (.isub, 1) := by decide +kernel
theorem dX0_answerOf_230 : decode cX0_answerOf 230 = .ok (.ireturn, 1) := by decide +kernel
theorem dX0_answerOf_231 : decode cX0_answerOf 231 = .ok (.aload_n 0, 1) := by decide +kernel
theorem dX0_answerOf_232 : decode cX0_answerOf 232 = .ok (.aload_n 2, 1) := by decide +kernel
theorem dX0_answerOf_233 : decode cX0_answerOf 233 = .ok (.iconst 2, 1) := by decide +kernel
theorem dX0_answerOf_234 : decode cX0_answerOf 234 = .ok (.iload_n 3, 1) := by decide +kernel
theorem dX0_answerOf_235 : decode cX0_answerOf 235 = .ok (.iload 4, 2) := by decide +kernel
theorem dX0_answerOf_237 : decode cX0_answerOf 237 = .ok (.iload 5, 2) := by decide +kernel
theorem dX0_answerOf_239 : decode cX0_answerOf 239 = .ok (.invokevirtual 24, 3) := by decide +kernel
theorem dX0_answerOf_242 : decode cX0_answerOf 242 = .ok (.iconst 5, 1) := by decide +kernel
theorem dX0_answerOf_243 : decode cX0_answerOf 243 = .ok (.ixor, 1) := by decide +kernel
theorem dX0_answerOf_244 : decode cX0_answerOf 244 = .ok (.ireturn, 1) := by decide +kernel
theorem dX0_answerOf_245 : decode cX0_answerOf 245 = .ok (.aload_n 0, 1) := by decide +kernel
theorem dX0_answerOf_246 : decode cX0_answerOf 246 = .ok (.aload_n 2, 1) := by decide +kernel
theorem dX0_answerOf_247 : decode cX0_answerOf 247 = .ok (.iconst 0, 1) := by decide +kernel
theorem dX0_answerOf_248 : decode cX0_answerOf 248 = .ok (.iload_n 3, 1) := by decide +kernel
theorem dX0_answerOf_249 : decode cX0_answerOf 249 = .ok (.iload 4, 2) := by decide +kernel
theorem dX0_answerOf_251 : decode cX0_answerOf 251 = .ok (.iload 5, 2) := by decide +kernel
theorem dX0_answerOf_253 : decode cX0_answerOf 253 = .ok (.invokevirtual 24, 3) := by decide +kernel
theorem dX0_answerOf_256 : decode cX0_answerOf 256 = .ok (.iconst 2, 1) := by decide +kernel
theorem dX0_answerOf_257 : decode cX0_answerOf 257 = .ok (.imul, 1) := by decide +kernel
theorem dX0_answerOf_258 : decode cX0_answerOf 258 = .ok (.ireturn, 1) := by decide +kernel
theorem dX0_answerOf_259 : decode cX0_answerOf 259 = .ok (.aload_n 0, 1) := by decide +kernel
theorem dX0_answerOf_260 : decode cX0_answerOf 260 = .ok (.aload_n 2, 1) := by decide +kernel
theorem dX0_answerOf_261 : decode cX0_answerOf 261 = .ok (.iconst 1, 1) := by decide +kernel
theorem dX0_answerOf_262 : decode cX0_answerOf 262 = .ok (.iload_n 3, 1) := by decide +kernel
theorem dX0_answerOf_263 : decode cX0_answerOf 263 = .ok (.iload 4, 2) := by decide +kernel
theorem dX0_answerOf_265 : decode cX0_answerOf 265 = .ok (.iload 7, 2) := by decide +kernel
theorem dX0_answerOf_267 : decode cX0_answerOf 267 = .ok (.isub, 1) := by decide +kernel
theorem dX0_answerOf_268 : decode cX0_answerOf 268 = .ok (.iload 5, 2) := by decide +kernel
theorem dX0_answerOf_270 : decode cX0_answerOf 270 = .ok (.invokevirtual 24, 3) := by decide +kernel
theorem dX0_answerOf_273 : decode cX0_answerOf 273 = .ok (.ireturn, 1) := by decide +kernel
theorem dX0_nextWithBody_0 : decode cX0_nextWithBody 0 = .ok (.iload_n 1, 1) := by decide +kernel
theorem dX0_nextWithBody_1 : decode cX0_nextWithBody 1 = .ok (.istore_n 2, 1) := by decide +kernel
theorem dX0_nextWithBody_2 : decode cX0_nextWithBody 2 = .ok (.iconst 0, 1) := by decide +kernel
theorem dX0_nextWithBody_3 : decode cX0_nextWithBody 3 = .ok (.istore_n 3, 1) := by decide +kernel
theorem dX0_nextWithBody_4 : decode cX0_nextWithBody 4 = .ok (.iload_n 3, 1) := by decide +kernel
theorem dX0_nextWithBody_5 : decode cX0_nextWithBody 5 = .ok (.bipush 7, 2) := by decide +kernel
theorem dX0_nextWithBody_7 : decode cX0_nextWithBody 7 = .ok (.if_icmp .ge 32, 3) := by decide +kernel
theorem dX0_nextWithBody_10 : decode cX0_nextWithBody 10 = .ok (.iload_n 2, 1) := by decide +kernel
theorem dX0_nextWithBody_11 : decode cX0_nextWithBody 11 = .ok (.invokestatic 52, 3) := by decide +kernel
theorem dX0_nextWithBody_14 : decode cX0_nextWithBody 14 = .ok (.ifCond .eq 25, 3) := by decide +kernel
theorem dX0_nextWithBody_17 : decode cX0_nextWithBody 17 = .ok (.iload_n 0, 1) := by decide +kernel
theorem dX0_nextWithBody_18 : decode cX0_nextWithBody 18 = .ok (.iload_n 2, 1) := by decide +kernel
theorem dX0_nextWithBody_19 : decode cX0_nextWithBody 19 = .ok (.invokestatic 32, 3) := by decide +kernel
theorem dX0_nextWithBody_22 : decode cX0_nextWithBody 22 = .ok (.ifCond .eq 5, 3) := by decide +kernel
theorem dX0_nextWithBody_25 : decode cX0_nextWithBody 25 = .ok (.iload_n 2, 1) := by decide +kernel
theorem dX0_nextWithBody_26 : decode cX0_nextWithBody 26 = .ok (.ireturn, 1) := by decide +kernel
theorem dX0_nextWithBody_27 : decode cX0_nextWithBody 27 = .ok (.getstatic 39, 3) := by decide +kernel
theorem dX0_nextWithBody_30 : decode cX0_nextWithBody 30 = .ok (.iload_n 2, 1) := by decide +kernel
theorem dX0_nextWithBody_31 : decode cX0_nextWithBody 31 = .ok (.iaload, 1) := by decide +kernel
theorem dX0_nextWithBody_32 : decode cX0_nextWithBody 32 = .ok (.istore_n 2, 1) := by decide +kernel
theorem dX0_nextWithBody_33 : decode cX0_nextWithBody 33 = .ok (.iinc 3 1, 3) := by decide +kernel
theorem dX0_nextWithBody_36 : decode cX0_nextWithBody 36 = .ok (.goto (-32), 3) := by decide +kernel
theorem dX0_nextWithBody_39 : decode cX0_nextWithBody 39 = .ok (.iconst (-1), 1) := by decide +kernel
theorem dX0_nextWithBody_40 : decode cX0_nextWithBody 40 = .ok (.ireturn, 1) := by decide +kernel
theorem dX0_bodyOf_0 : decode cX0_bodyOf 0 = .ok (.iload_n 0, 1) := by decide +kernel
theorem dX0_bodyOf_1 : decode cX0_bodyOf 1 = .ok (.bipush 7, 2) := by decide +kernel
theorem dX0_bodyOf_3 : decode cX0_bodyOf 3 = .ok (.imul, 1) := by decide +kernel
theorem dX0_bodyOf_4 : decode cX0_bodyOf 4 = .ok (.iload_n 1, 1) := by decide +kernel
theorem dX0_bodyOf_5 : decode cX0_bodyOf 5 = .ok (.iadd, 1) := by decide +kernel
theorem dX0_bodyOf_6 : decode cX0_bodyOf 6 = .ok (.istore_n 2, 1) := by decide +kernel
theorem dX0_bodyOf_7 : decode cX0_bodyOf 7 = .ok (.iload_n 2, 1) := by decide +kernel
theorem dX0_bodyOf_8 : decode cX0_bodyOf 8 = .ok (.iconst 0, 1) := by decide +kernel
theorem dX0_bodyOf_9 : decode cX0_bodyOf 9 = .ok (.getstatic 56, 3) := by decide +kernel
theorem dX0_bodyOf_12 : decode cX0_bodyOf 12 = .ok (.arraylength, 1) := by decide +kernel
theorem dX0_bodyOf_13 : decode cX0_bodyOf 13 = .ok (.iconst 1, 1) := by decide +kernel
theorem dX0_bodyOf_14 : decode cX0_bodyOf 14 = .ok (.isub, 1) := by decide +kernel
theorem dX0_bodyOf_15 : decode cX0_bodyOf 15 = .ok (.invokestatic 59, 3) := by decide +kernel
theorem dX0_bodyOf_18 : decode cX0_bodyOf 18 = .ok (.ifCond .eq 11, 3) := by decide +kernel
theorem dX0_bodyOf_21 : decode cX0_bodyOf 21 = .ok (.getstatic 56, 3) := by decide +kernel
theorem dX0_bodyOf_24 : decode cX0_bodyOf 24 = .ok (.iload_n 2, 1) := by decide +kernel
theorem dX0_bodyOf_25 : decode cX0_bodyOf 25 = .ok (.iaload, 1) := by decide +kernel
theorem dX0_bodyOf_26 : decode cX0_bodyOf 26 = .ok (.goto 4, 3) := by decide +kernel
theorem dX0_bodyOf_29 : decode cX0_bodyOf 29 = .ok (.iconst 0, 1) := by decide +kernel
theorem dX0_bodyOf_30 : decode cX0_bodyOf 30 = .ok (.ireturn, 1) := by decide +kernel
theorem dX0_begin_0 : decode cX0_begin 0 = .ok (.aload_n 0, 1) := by decide +kernel
theorem dX0_begin_1 : decode cX0_begin 1 = .ok (.getfield 15, 3) := by decide +kernel
theorem dX0_begin_4 : decode cX0_begin 4 = .ok (.ifCond .lt 22, 3) := by decide +kernel
theorem dX0_begin_7 : decode cX0_begin 7 = .ok (.aload_n 0, 1) := by decide +kernel
theorem dX0_begin_8 : decode cX0_begin 8 = .ok (.getfield 15, 3) := by decide +kernel
theorem dX0_begin_11 : decode cX0_begin 11 = .ok (.bipush 20, 2) := by decide +kernel
theorem dX0_begin_13 : decode cX0_begin 13 = .ok (.if_icmp .ge 13, 3) := by decide +kernel
theorem dX0_begin_16 : decode cX0_begin 16 = .ok (.aload_n 0, 1) := by decide +kernel
theorem dX0_begin_17 : decode cX0_begin 17 = .ok (.getfield 11, 3) := by decide +kernel
theorem dX0_begin_20 : decode cX0_begin 20 = .ok (.aload_n 0, 1) := by decide +kernel
theorem dX0_begin_21 : decode cX0_begin 21 = .ok (.getfield 15, 3) := by decide +kernel
theorem dX0_begin_24 : decode cX0_begin 24 = .ok (.iload_n 1, 1) := by decide +kernel
theorem dX0_begin_25 : decode cX0_begin 25 = .ok (.iastore, 1) := by decide +kernel
theorem dX0_begin_26 : decode cX0_begin 26 = .ok (.aload_n 0, 1) := by decide +kernel
theorem dX0_begin_27 : decode cX0_begin 27 = .ok (.dup, 1) := by decide +kernel
theorem dX0_begin_28 : decode cX0_begin 28 = .ok (.getfield 15, 3) := by decide +kernel
theorem dX0_begin_31 : decode cX0_begin 31 = .ok (.iconst 1, 1) := by decide +kernel
theorem dX0_begin_32 : decode cX0_begin 32 = .ok (.iadd, 1) := by decide +kernel
theorem dX0_begin_33 : decode cX0_begin 33 = .ok (.putfield 15, 3) := by decide +kernel
theorem dX0_begin_36 : decode cX0_begin 36 = .ok (.return_, 1) := by decide +kernel
theorem dX1_init_0 : decode cX1_init 0 = .ok (.aload_n 0, 1) := by decide +kernel
theorem dX1_init_1 : decode cX1_init 1 = .ok (.invokespecial 3, 3) := by decide +kernel
theorem dX1_init_4 : decode cX1_init 4 = .ok (.aload_n 0, 1) := by decide +kernel
theorem dX1_init_5 : decode cX1_init 5 = .ok (.bipush 8, 2) := by decide +kernel
theorem dX1_init_7 : decode cX1_init 7 = .ok (.anewarray 9, 3) := by decide +kernel
theorem dX1_init_10 : decode cX1_init 10 = .ok (.putfield 11, 3) := by decide +kernel
theorem dX1_init_13 : decode cX1_init 13 = .ok (.aload_n 0, 1) := by decide +kernel
theorem dX1_init_14 : decode cX1_init 14 = .ok (.bipush 6, 2) := by decide +kernel
theorem dX1_init_16 : decode cX1_init 16 = .ok (.anewarray 17, 3) := by decide +kernel
theorem dX1_init_19 : decode cX1_init 19 = .ok (.putfield 19, 3) := by decide +kernel
theorem dX1_init_22 : decode cX1_init 22 = .ok (.aload_n 0, 1) := by decide +kernel
theorem dX1_init_23 : decode cX1_init 23 = .ok (.bipush 6, 2) := by decide +kernel
theorem dX1_init_25 : decode cX1_init 25 = .ok (.newarray .int, 2) := by decide +kernel
theorem dX1_init_27 : decode cX1_init 27 = .ok (.putfield 23, 3) := by decide +kernel
theorem dX1_init_30 : decode cX1_init 30 = .ok (.aload_n 0, 1) := by decide +kernel
theorem dX1_init_31 : decode cX1_init 31 = .ok (.iconst 0, 1) := by decide +kernel
theorem dX1_init_32 : decode cX1_init 32 = .ok (.putfield 27, 3) := by decide +kernel
theorem dX1_init_35 : decode cX1_init 35 = .ok (.aload_n 0, 1) := by decide +kernel
theorem dX1_init_36 : decode cX1_init 36 = .ok (.iconst 0, 1) := by decide +kernel
theorem dX1_init_37 : decode cX1_init 37 = .ok (.putfield 31, 3) := by decide +kernel
theorem dX1_init_40 : decode cX1_init 40 = .ok (.aload_n 0, 1) := by decide +kernel
theorem dX1_init_41 : decode cX1_init 41 = .ok (.iconst 1, 1) := by decide +kernel
theorem dX1_init_42 : decode cX1_init 42 = .ok (.putfield 34, 3) := by decide +kernel
theorem dX1_init_45 : decode cX1_init 45 = .ok (.aload_n 0, 1) := by decide +kernel
theorem dX1_init_46 : decode cX1_init 46 = .ok (.iconst 0, 1) := by decide +kernel
theorem dX1_init_47 : decode cX1_init 47 = .ok (.putfield 37, 3) := by decide +kernel
theorem dX1_init_50 : decode cX1_init 50 = .ok (.aload_n 0, 1) := by decide +kernel
theorem dX1_init_51 : decode cX1_init 51 = .ok (.iconst 0, 1) := by decide +kernel
theorem dX1_init_52 : decode cX1_init 52 = .ok (.putfield 40, 3) := by decide +kernel
theorem dX1_init_55 : decode cX1_init 55 = .ok (.aload_n 0, 1) := by decide +kernel
theorem dX1_init_56 : decode cX1_init 56 = .ok (.iconst 0, 1) := by decide +kernel
theorem dX1_init_57 : decode cX1_init 57 = .ok (.putfield 43, 3) := by decide +kernel
theorem dX1_init_60 : decode cX1_init 60 = .ok (.aload_n 0, 1) := by decide +kernel
theorem dX1_init_61 : decode cX1_init 61 = .ok (.iconst 1, 1) := by decide +kernel
theorem dX1_init_62 : decode cX1_init 62 = .ok (.putfield 46, 3) := by decide +kernel
theorem dX1_init_65 : decode cX1_init 65 = .ok (.iconst 0, 1) := by decide +kernel
theorem dX1_init_66 : decode cX1_init 66 = .ok (.istore_n 1, 1) := by decide +kernel
theorem dX1_init_67 : decode cX1_init 67 = .ok (.iload_n 1, 1) := by decide +kernel
theorem dX1_init_68 : decode cX1_init 68 = .ok (.bipush 8, 2) := by decide +kernel
theorem dX1_init_70 : decode cX1_init 70 = .ok (.if_icmp .ge 22, 3) := by decide +kernel
theorem dX1_init_73 : decode cX1_init 73 = .ok (.aload_n 0, 1) := by decide +kernel
theorem dX1_init_74 : decode cX1_init 74 = .ok (.getfield 11, 3) := by decide +kernel
theorem dX1_init_77 : decode cX1_init 77 = .ok (.iload_n 1, 1) := by decide +kernel
theorem dX1_init_78 : decode cX1_init 78 = .ok (.new 9, 3) := by decide +kernel
theorem dX1_init_81 : decode cX1_init 81 = .ok (.dup, 1) := by decide +kernel
theorem dX1_init_82 : decode cX1_init 82 = .ok (.invokespecial 49, 3) := by decide +kernel
theorem dX1_init_85 : decode cX1_init 85 = .ok (.aastore, 1) := by decide +kernel
theorem dX1_init_86 : decode cX1_init 86 = .ok (.iinc 1 1, 3) := by decide +kernel
theorem dX1_init_89 : decode cX1_init 89 = .ok (.goto (-22), 3) := by decide +kernel
theorem dX1_init_92 : decode cX1_init 92 = .ok (.iconst 0, 1) := by decide +kernel
theorem dX1_init_93 : decode cX1_init 93 = .ok (.istore_n 1, 1) := by decide +kernel
theorem dX1_init_94 : decode cX1_init 94 = .ok (.iload_n 1, 1) := by decide +kernel
theorem dX1_init_95 : decode cX1_init 95 = .ok (.bipush 6, 2) := by decide +kernel
theorem dX1_init_97 : decode cX1_init 97 = .ok (.if_icmp .ge 23, 3) := by decide +kernel
theorem dX1_init_100 : decode cX1_init 100 = .ok (.aload_n 0, 1) := by decide +kernel
theorem dX1_init_101 : decode cX1_init 101 = .ok (.getfield 19, 3) := by decide +kernel
theorem dX1_init_104 : decode cX1_init 104 = .ok (.iload_n 1, 1) := by decide +kernel
theorem dX1_init_105 : decode cX1_init 105 = .ok (.new 17, 3) := by decide +kernel
theorem dX1_init_108 : decode cX1_init 108 = .ok (.dup, 1) := by decide +kernel
theorem dX1_init_109 : decode cX1_init 109 = .ok (.iload_n 1, 1) := by decide +kernel
theorem dX1_init_110 : decode cX1_init 110 = .ok (.invokespecial 50, 3) := by decide +kernel
theorem dX1_init_113 : decode cX1_init 113 = .ok (.aastore, 1) := by decide +kernel
theorem dX1_init_114 : decode cX1_init 114 = .ok (.iinc 1 1, 3) := by decide +kernel
theorem dX1_init_117 : decode cX1_init 117 = .ok (.goto (-23), 3) := by decide +kernel
theorem dX1_init_120 : decode cX1_init 120 = .ok (.return_, 1) := by decide +kernel
theorem dX1_become_0 : decode cX1_become 0 = .ok (.iconst 0, 1) := by decide +kernel
theorem dX1_become_1 : decode cX1_become 1 = .ok (.istore_n 2, 1) := by decide +kernel
theorem dX1_become_2 : decode cX1_become 2 = .ok (.iload_n 2, 1) := by decide +kernel
theorem dX1_become_3 : decode cX1_become 3 = .ok (.bipush 8, 2) := by decide +kernel
theorem dX1_become_5 : decode cX1_become 5 = .ok (.if_icmp .ge 24, 3) := by decide +kernel
theorem dX1_become_8 : decode cX1_become 8 = .ok (.aload_n 0, 1) := by decide +kernel
theorem dX1_become_9 : decode cX1_become 9 = .ok (.getfield 11, 3) := by decide +kernel
theorem dX1_become_12 : decode cX1_become 12 = .ok (.iload_n 2, 1) := by decide +kernel
theorem dX1_become_13 : decode cX1_become 13 = .ok (.aaload, 1) := by decide +kernel
theorem dX1_become_14 : decode cX1_become 14 = .ok (.aload_n 1, 1) := by decide +kernel
theorem dX1_become_15 : decode cX1_become 15 = .ok (.getfield 11, 3) := by decide +kernel
theorem dX1_become_18 : decode cX1_become 18 = .ok (.iload_n 2, 1) := by decide +kernel
theorem dX1_become_19 : decode cX1_become 19 = .ok (.aaload, 1) := by decide +kernel
theorem dX1_become_20 : decode cX1_become 20 = .ok (.invokevirtual 53, 3) := by decide +kernel
theorem dX1_become_23 : decode cX1_become 23 = .ok (.iinc 2 1, 3) := by decide +kernel
theorem dX1_become_26 : decode cX1_become 26 = .ok (.goto (-24), 3) := by decide +kernel
theorem dX1_become_29 : decode cX1_become 29 = .ok (.iconst 0, 1) := by decide +kernel
theorem dX1_become_30 : decode cX1_become 30 = .ok (.istore_n 2, 1) := by decide +kernel
theorem dX1_become_31 : decode cX1_become 31 = .ok (.iload_n 2, 1) := by decide +kernel
theorem dX1_become_32 : decode cX1_become 32 = .ok (.bipush 6, 2) := by decide +kernel
theorem dX1_become_34 : decode cX1_become 34 = .ok (.if_icmp .ge 24, 3) := by decide +kernel
theorem dX1_become_37 : decode cX1_become 37 = .ok (.aload_n 0, 1) := by decide +kernel
theorem dX1_become_38 : decode cX1_become 38 = .ok (.getfield 19, 3) := by decide +kernel
theorem dX1_become_41 : decode cX1_become 41 = .ok (.iload_n 2, 1) := by decide +kernel
theorem dX1_become_42 : decode cX1_become 42 = .ok (.aaload, 1) := by decide +kernel
theorem dX1_become_43 : decode cX1_become 43 = .ok (.aload_n 1, 1) := by decide +kernel
theorem dX1_become_44 : decode cX1_become 44 = .ok (.getfield 19, 3) := by decide +kernel
theorem dX1_become_47 : decode cX1_become 47 = .ok (.iload_n 2, 1) := by decide +kernel
theorem dX1_become_48 : decode cX1_become 48 = .ok (.aaload, 1) := by decide +kernel
theorem dX1_become_49 : decode cX1_become 49 = .ok (.invokevirtual 57, 3) := by decide +kernel
theorem dX1_become_52 : decode cX1_become 52 = .ok (.iinc 2 1, 3) := by decide +kernel
theorem dX1_become_55 : decode cX1_become 55 = .ok (.goto (-24), 3) := by decide +kernel
theorem dX1_become_58 : decode cX1_become 58 = .ok (.aload_n 0, 1) := by decide +kernel
theorem dX1_become_59 : decode cX1_become 59 = .ok (.aload_n 1, 1) := by decide +kernel
theorem dX1_become_60 : decode cX1_become 60 = .ok (.getfield 27, 3) := by decide +kernel
theorem dX1_become_63 : decode cX1_become 63 = .ok (.putfield 27, 3) := by decide +kernel
theorem dX1_become_66 : decode cX1_become 66 = .ok (.aload_n 0, 1) := by decide +kernel
theorem dX1_become_67 : decode cX1_become 67 = .ok (.aload_n 1, 1) := by decide +kernel
theorem dX1_become_68 : decode cX1_become 68 = .ok (.getfield 31, 3) := by decide +kernel
theorem dX1_become_71 : decode cX1_become 71 = .ok (.putfield 31, 3) := by decide +kernel
theorem dX1_become_74 : decode cX1_become 74 = .ok (.aload_n 0, 1) := by decide +kernel
theorem dX1_become_75 : decode cX1_become 75 = .ok (.aload_n 1, 1) := by decide +kernel
theorem dX1_become_76 : decode cX1_become 76 = .ok (.getfield 34, 3) := by decide +kernel
theorem dX1_become_79 : decode cX1_become 79 = .ok (.putfield 34, 3) := by decide +kernel
theorem dX1_become_82 : decode cX1_become 82 = .ok (.aload_n 0, 1) := by decide +kernel
theorem dX1_become_83 : decode cX1_become 83 = .ok (.aload_n 1, 1) := by decide +kernel
theorem dX1_become_84 : decode cX1_become 84 = .ok (.getfield 37, 3) := by decide +kernel
theorem dX1_become_87 : decode cX1_become 87 = .ok (.putfield 37, 3) := by decide +kernel
theorem dX1_become_90 : decode cX1_become 90 = .ok (.aload_n 0, 1) := by decide +kernel
theorem dX1_become_91 : decode cX1_become 91 = .ok (.aload_n 1, 1) := by decide +kernel
theorem dX1_become_92 : decode cX1_become 92 = .ok (.getfield 40, 3) := by decide +kernel
theorem dX1_become_95 : decode cX1_become 95 = .ok (.putfield 40, 3) := by decide +kernel
theorem dX1_become_98 : decode cX1_become 98 = .ok (.aload_n 0, 1) := by decide +kernel
theorem dX1_become_99 : decode cX1_become 99 = .ok (.aload_n 1, 1) := by decide +kernel
theorem dX1_become_100 : decode cX1_become 100 = .ok (.getfield 43, 3) := by decide +kernel
theorem dX1_become_103 : decode cX1_become 103 = .ok (.putfield 43, 3) := by decide +kernel
theorem dX1_become_106 : decode cX1_become 106 = .ok (.aload_n 0, 1) := by decide +kernel
theorem dX1_become_107 : decode cX1_become 107 = .ok (.aload_n 1, 1) := by decide +kernel
theorem dX1_become_108 : decode cX1_become 108 = .ok (.getfield 46, 3) := by decide +kernel
theorem dX1_become_111 : decode cX1_become 111 = .ok (.putfield 46, 3) := by decide +kernel
theorem dX1_become_114 : decode cX1_become 114 = .ok (.return_, 1) := by decide +kernel
theorem dX1_hasThing_0 : decode cX1_hasThing 0 = .ok (.iload_n 1, 1) := by decide +kernel
theorem dX1_hasThing_1 : decode cX1_hasThing 1 = .ok (.ifCond .lt 21, 3) := by decide +kernel
theorem dX1_hasThing_4 : decode cX1_hasThing 4 = .ok (.iload_n 1, 1) := by decide +kernel
theorem dX1_hasThing_5 : decode cX1_hasThing 5 = .ok (.aload_n 0, 1) := by decide +kernel
theorem dX1_hasThing_6 : decode cX1_hasThing 6 = .ok (.getfield 27, 3) := by decide +kernel
theorem dX1_hasThing_9 : decode cX1_hasThing 9 = .ok (.if_icmp .ge 13, 3) := by decide +kernel
theorem dX1_hasThing_12 : decode cX1_hasThing 12 = .ok (.iload_n 1, 1) := by decide +kernel
theorem dX1_hasThing_13 : decode cX1_hasThing 13 = .ok (.bipush 8, 2) := by decide +kernel
theorem dX1_hasThing_15 : decode cX1_hasThing 15 = .ok (.if_icmp .ge 7, 3) := by decide +kernel
theorem dX1_hasThing_18 : decode cX1_hasThing 18 = .ok (.iconst 1, 1) := by decide +kernel
theorem dX1_hasThing_19 : decode cX1_hasThing 19 = .ok (.goto 4, 3) := by decide +kernel
theorem dX1_hasThing_22 : decode cX1_hasThing 22 = .ok (.iconst 0, 1) := by decide +kernel
theorem dX1_hasThing_23 : decode cX1_hasThing 23 = .ok (.ireturn, 1) := by decide +kernel
theorem dX1_hasWaiter_0 : decode cX1_hasWaiter 0 = .ok (.iload_n 1, 1) := by decide +kernel
theorem dX1_hasWaiter_1 : decode cX1_hasWaiter 1 = .ok (.ifCond .lt 21, 3) := by decide +kernel
theorem dX1_hasWaiter_4 : decode cX1_hasWaiter 4 = .ok (.iload_n 1, 1) := by decide +kernel
theorem dX1_hasWaiter_5 : decode cX1_hasWaiter 5 = .ok (.aload_n 0, 1) := by decide +kernel
theorem dX1_hasWaiter_6 : decode cX1_hasWaiter 6 = .ok (.getfield 31, 3) := by decide +kernel
theorem dX1_hasWaiter_9 : decode cX1_hasWaiter 9 = .ok (.if_icmp .ge 13, 3) := by decide +kernel
theorem dX1_hasWaiter_12 : decode cX1_hasWaiter 12 = .ok (.iload_n 1, 1) := by decide +kernel
theorem dX1_hasWaiter_13 : decode cX1_hasWaiter 13 = .ok (.bipush 6, 2) := by decide +kernel
theorem dX1_hasWaiter_15 : decode cX1_hasWaiter 15 = .ok (.if_icmp .ge 7, 3) := by decide +kernel
theorem dX1_hasWaiter_18 : decode cX1_hasWaiter 18 = .ok (.iconst 1, 1) := by decide +kernel
theorem dX1_hasWaiter_19 : decode cX1_hasWaiter 19 = .ok (.goto 4, 3) := by decide +kernel
theorem dX1_hasWaiter_22 : decode cX1_hasWaiter 22 = .ok (.iconst 0, 1) := by decide +kernel
theorem dX1_hasWaiter_23 : decode cX1_hasWaiter 23 = .ok (.ireturn, 1) := by decide +kernel
theorem dX1_hasRoomForThing_0 : decode cX1_hasRoomForThing 0 = .ok (.aload_n 0, 1) := by decide +kernel
theorem dX1_hasRoomForThing_1 : decode cX1_hasRoomForThing 1 = .ok (.getfield 27, 3) := by decide +kernel
theorem dX1_hasRoomForThing_4 : decode cX1_hasRoomForThing 4 = .ok (.bipush 8, 2) := by decide +kernel
theorem dX1_hasRoomForThing_6 : decode cX1_hasRoomForThing 6 = .ok (.if_icmp .ge 7, 3) := by decide +kernel
theorem dX1_hasRoomForThing_9 : decode cX1_hasRoomForThing 9 = .ok (.iconst 1, 1) := by decide +kernel
theorem dX1_hasRoomForThing_10 : decode cX1_hasRoomForThing 10 = .ok (.goto 4, 3) := by decide +kernel
theorem dX1_hasRoomForThing_13 : decode cX1_hasRoomForThing 13 = .ok (.iconst 0, 1) := by decide +kernel
theorem dX1_hasRoomForThing_14 : decode cX1_hasRoomForThing 14 = .ok (.ireturn, 1) := by decide +kernel
theorem dX1_hasRoomForWaiter_0 : decode cX1_hasRoomForWaiter 0 = .ok (.aload_n 0, 1) := by decide +kernel
theorem dX1_hasRoomForWaiter_1 : decode cX1_hasRoomForWaiter 1 = .ok (.getfield 31, 3) := by decide +kernel
theorem dX1_hasRoomForWaiter_4 : decode cX1_hasRoomForWaiter 4 = .ok (.bipush 6, 2) := by decide +kernel
theorem dX1_hasRoomForWaiter_6 : decode cX1_hasRoomForWaiter 6 = .ok (.if_icmp .ge 7, 3) := by decide +kernel
theorem dX1_hasRoomForWaiter_9 : decode cX1_hasRoomForWaiter 9 = .ok (.iconst 1, 1) := by decide +kernel
theorem dX1_hasRoomForWaiter_10 : decode cX1_hasRoomForWaiter 10 = .ok (.goto 4, 3) := by decide +kernel
theorem dX1_hasRoomForWaiter_13 : decode cX1_hasRoomForWaiter 13 = .ok (.iconst 0, 1) := by decide +kernel
theorem dX1_hasRoomForWaiter_14 : decode cX1_hasRoomForWaiter 14 = .ok (.ireturn, 1) := by decide +kernel
theorem dX1_addThing_0 : decode cX1_addThing 0 = .ok (.aload_n 0, 1) := by decide +kernel
theorem dX1_addThing_1 : decode cX1_addThing 1 = .ok (.invokevirtual 60, 3) := by decide +kernel
theorem dX1_addThing_4 : decode cX1_addThing 4 = .ok (.ifCond .ne 5, 3) := by decide +kernel
theorem dX1_addThing_7 : decode cX1_addThing 7 = .ok (.iconst (-1), 1) := by decide +kernel
theorem dX1_addThing_8 : decode cX1_addThing 8 = .ok (.ireturn, 1) := by decide +kernel
theorem dX1_addThing_9 : decode cX1_addThing 9 = .ok (.aload_n 0, 1) := by decide +kernel
theorem dX1_addThing_10 : decode cX1_addThing 10 = .ok (.getfield 11, 3) := by decide +kernel
theorem dX1_addThing_13 : decode cX1_addThing 13 = .ok (.aload_n 0, 1) := by decide +kernel
theorem dX1_addThing_14 : decode cX1_addThing 14 = .ok (.getfield 27, 3) := by decide +kernel
theorem dX1_addThing_17 : decode cX1_addThing 17 = .ok (.aaload, 1) := by decide +kernel
theorem dX1_addThing_18 : decode cX1_addThing 18 = .ok (.astore 8, 2) := by decide +kernel
theorem dX1_addThing_20 : decode cX1_addThing 20 = .ok (.aload 8, 2) := by decide +kernel
theorem dX1_addThing_22 : decode cX1_addThing 22 = .ok (.iload_n 1, 1) := by decide +kernel
theorem dX1_addThing_23 : decode cX1_addThing 23 = .ok (.putfield 64, 3) := by decide +kernel
theorem dX1_addThing_26 : decode cX1_addThing 26 = .ok (.aload 8, 2) := by decide +kernel
theorem dX1_addThing_28 : decode cX1_addThing 28 = .ok (.iload_n 2, 1) := by decide +kernel
theorem dX1_addThing_29 : decode cX1_addThing 29 = .ok (.putfield 67, 3) := by decide +kernel
theorem dX1_addThing_32 : decode cX1_addThing 32 = .ok (.aload 8, 2) := by decide +kernel
theorem dX1_addThing_34 : decode cX1_addThing 34 = .ok (.iload_n 3, 1) := by decide +kernel
theorem dX1_addThing_35 : decode cX1_addThing 35 = .ok (.putfield 70, 3) := by decide +kernel
theorem dX1_addThing_38 : decode cX1_addThing 38 = .ok (.aload 8, 2) := by decide +kernel
theorem dX1_addThing_40 : decode cX1_addThing 40 = .ok (.iload 4, 2) := by decide +kernel
theorem dX1_addThing_42 : decode cX1_addThing 42 = .ok (.putfield 73, 3) := by decide +kernel
theorem dX1_addThing_45 : decode cX1_addThing 45 = .ok (.aload 8, 2) := by decide +kernel
theorem dX1_addThing_47 : decode cX1_addThing 47 = .ok (.iload 5, 2) := by decide +kernel
theorem dX1_addThing_49 : decode cX1_addThing 49 = .ok (.putfield 76, 3) := by decide +kernel
theorem dX1_addThing_52 : decode cX1_addThing 52 = .ok (.aload 8, 2) := by decide +kernel
theorem dX1_addThing_54 : decode cX1_addThing 54 = .ok (.iload 6, 2) := by decide +kernel
theorem dX1_addThing_56 : decode cX1_addThing 56 = .ok (.putfield 79, 3) := by decide +kernel
theorem dX1_addThing_59 : decode cX1_addThing 59 = .ok (.aload 8, 2) := by decide +kernel
theorem dX1_addThing_61 : decode cX1_addThing 61 = .ok (.iload 7, 2) := by decide +kernel
theorem dX1_addThing_63 : decode cX1_addThing 63 = .ok (.putfield 82, 3) := by decide +kernel
theorem dX1_addThing_66 : decode cX1_addThing 66 = .ok (.aload_n 0, 1) := by decide +kernel
theorem dX1_addThing_67 : decode cX1_addThing 67 = .ok (.dup, 1) := by decide +kernel
theorem dX1_addThing_68 : decode cX1_addThing 68 = .ok (.getfield 27, 3) := by decide +kernel
theorem dX1_addThing_71 : decode cX1_addThing 71 = .ok (.dup_x1, 1) := by decide +kernel
theorem dX1_addThing_72 : decode cX1_addThing 72 = .ok (.iconst 1, 1) := by decide +kernel
theorem dX1_addThing_73 : decode cX1_addThing 73 = .ok (.iadd, 1) := by decide +kernel
theorem dX1_addThing_74 : decode cX1_addThing 74 = .ok (.putfield 27, 3) := by decide +kernel
theorem dX1_addThing_77 : decode cX1_addThing 77 = .ok (.ireturn, 1) := by decide +kernel
theorem dX1_addWaiter_0 : decode cX1_addWaiter 0 = .ok (.aload_n 0, 1) := by decide +kernel
theorem dX1_addWaiter_1 : decode cX1_addWaiter 1 = .ok (.invokevirtual 85, 3) := by decide +kernel
theorem dX1_addWaiter_4 : decode cX1_addWaiter 4 = .ok (.ifCond .ne 5, 3) := by decide +kernel
theorem dX1_addWaiter_7 : decode cX1_addWaiter 7 = .ok (.iconst (-1), 1) := by decide +kernel
theorem dX1_addWaiter_8 : decode cX1_addWaiter 8 = .ok (.ireturn, 1) := by decide +kernel
theorem dX1_addWaiter_9 : decode cX1_addWaiter 9 = .ok (.aload_n 0, 1) := by decide +kernel
theorem dX1_addWaiter_10 : decode cX1_addWaiter 10 = .ok (.getfield 19, 3) := by decide +kernel
theorem dX1_addWaiter_13 : decode cX1_addWaiter 13 = .ok (.aload_n 0, 1) := by decide +kernel
theorem dX1_addWaiter_14 : decode cX1_addWaiter 14 = .ok (.getfield 31, 3) := by decide +kernel
theorem dX1_addWaiter_17 : decode cX1_addWaiter 17 = .ok (.aaload, 1) := by decide +kernel
theorem dX1_addWaiter_18 : decode cX1_addWaiter 18 = .ok (.astore 6, 2) := by decide +kernel
theorem dX1_addWaiter_20 : decode cX1_addWaiter 20 = .ok (.aload 6, 2) := by decide +kernel
theorem dX1_addWaiter_22 : decode cX1_addWaiter 22 = .ok (.iload_n 1, 1) := by decide +kernel
theorem dX1_addWaiter_23 : decode cX1_addWaiter 23 = .ok (.putfield 88, 3) := by decide +kernel
theorem dX1_addWaiter_26 : decode cX1_addWaiter 26 = .ok (.aload 6, 2) := by decide +kernel
theorem dX1_addWaiter_28 : decode cX1_addWaiter 28 = .ok (.iload_n 2, 1) := by decide +kernel
theorem dX1_addWaiter_29 : decode cX1_addWaiter 29 = .ok (.putfield 91, 3) := by decide +kernel
theorem dX1_addWaiter_32 : decode cX1_addWaiter 32 = .ok (.aload 6, 2) := by decide +kernel
theorem dX1_addWaiter_34 : decode cX1_addWaiter 34 = .ok (.iload_n 3, 1) := by decide +kernel
theorem dX1_addWaiter_35 : decode cX1_addWaiter 35 = .ok (.putfield 94, 3) := by decide +kernel
theorem dX1_addWaiter_38 : decode cX1_addWaiter 38 = .ok (.aload 6, 2) := by decide +kernel
theorem dX1_addWaiter_40 : decode cX1_addWaiter 40 = .ok (.iload 4, 2) := by decide +kernel
theorem dX1_addWaiter_42 : decode cX1_addWaiter 42 = .ok (.putfield 97, 3) := by decide +kernel
theorem dX1_addWaiter_45 : decode cX1_addWaiter 45 = .ok (.aload 6, 2) := by decide +kernel
theorem dX1_addWaiter_47 : decode cX1_addWaiter 47 = .ok (.iload 5, 2) := by decide +kernel
theorem dX1_addWaiter_49 : decode cX1_addWaiter 49 = .ok (.putfield 100, 3) := by decide +kernel
theorem dX1_addWaiter_52 : decode cX1_addWaiter 52 = .ok (.aload_n 0, 1) := by decide +kernel
theorem dX1_addWaiter_53 : decode cX1_addWaiter 53 = .ok (.dup, 1) := by decide +kernel
theorem dX1_addWaiter_54 : decode cX1_addWaiter 54 = .ok (.getfield 31, 3) := by decide +kernel
theorem dX1_addWaiter_57 : decode cX1_addWaiter 57 = .ok (.dup_x1, 1) := by decide +kernel
theorem dX1_addWaiter_58 : decode cX1_addWaiter 58 = .ok (.iconst 1, 1) := by decide +kernel
theorem dX1_addWaiter_59 : decode cX1_addWaiter 59 = .ok (.iadd, 1) := by decide +kernel
theorem dX1_addWaiter_60 : decode cX1_addWaiter 60 = .ok (.putfield 31, 3) := by decide +kernel
theorem dX1_addWaiter_63 : decode cX1_addWaiter 63 = .ok (.ireturn, 1) := by decide +kernel
theorem dX1_gainBy_0 : decode cX1_gainBy 0 = .ok (.iconst 0, 1) := by decide +kernel
theorem dX1_gainBy_1 : decode cX1_gainBy 1 = .ok (.istore 4, 2) := by decide +kernel
theorem dX1_gainBy_3 : decode cX1_gainBy 3 = .ok (.iconst 0, 1) := by decide +kernel
theorem dX1_gainBy_4 : decode cX1_gainBy 4 = .ok (.istore 5, 2) := by decide +kernel
theorem dX1_gainBy_6 : decode cX1_gainBy 6 = .ok (.aload_n 1, 1) := by decide +kernel
theorem dX1_gainBy_7 : decode cX1_gainBy 7 = .ok (.getfield 67, 3) := by decide +kernel
theorem dX1_gainBy_10 : decode cX1_gainBy 10 = .ok (.istore 6, 2) := by decide +kernel
theorem dX1_gainBy_12 : decode cX1_gainBy 12 = .ok (.iload 6, 2) := by decide +kernel
theorem dX1_gainBy_14 : decode cX1_gainBy 14 = .ok (.iload_n 3, 1) := by decide +kernel
theorem dX1_gainBy_15 : decode cX1_gainBy 15 = .ok (.if_icmp .gt 27, 3) := by decide +kernel
theorem dX1_gainBy_18 : decode cX1_gainBy 18 = .ok (.iinc 4 1, 3) := by decide +kernel
theorem dX1_gainBy_21 : decode cX1_gainBy 21 = .ok (.iload 5, 2) := by decide +kernel
theorem dX1_gainBy_23 : decode cX1_gainBy 23 = .ok (.aload_n 2, 1) := by decide +kernel
theorem dX1_gainBy_24 : decode cX1_gainBy 24 = .ok (.iload 4, 2) := by decide +kernel
theorem dX1_gainBy_26 : decode cX1_gainBy 26 = .ok (.aload_n 0, 1) := by decide +kernel
theorem dX1_gainBy_27 : decode cX1_gainBy 27 = .ok (.getfield 34, 3) := by decide +kernel
theorem dX1_gainBy_30 : decode cX1_gainBy 30 = .ok (.invokevirtual 103, 3) := by decide +kernel
theorem dX1_gainBy_33 : decode cX1_gainBy 33 = .ok (.iadd, 1) := by decide +kernel
theorem dX1_gainBy_34 : decode cX1_gainBy 34 = .ok (.istore 5, 2) := by decide +kernel
theorem dX1_gainBy_36 : decode cX1_gainBy 36 = .ok (.iinc 6 1, 3) := by decide +kernel
theorem dX1_gainBy_39 : decode cX1_gainBy 39 = .ok (.goto (-27), 3) := by decide +kernel
theorem dX1_gainBy_42 : decode cX1_gainBy 42 = .ok (.aload_n 1, 1) := by decide +kernel
theorem dX1_gainBy_43 : decode cX1_gainBy 43 = .ok (.iload_n 3, 1) := by decide +kernel
theorem dX1_gainBy_44 : decode cX1_gainBy 44 = .ok (.invokevirtual 107, 3) := by decide +kernel
theorem dX1_gainBy_47 : decode cX1_gainBy 47 = .ok (.istore 6, 2) := by decide +kernel
theorem dX1_gainBy_49 : decode cX1_gainBy 49 = .ok (.aload_n 1, 1) := by decide +kernel
theorem dX1_gainBy_50 : decode cX1_gainBy 50 = .ok (.invokevirtual 111, 3) := by decide +kernel
theorem dX1_gainBy_53 : decode cX1_gainBy 53 = .ok (.iload 6, 2) := by decide +kernel
theorem dX1_gainBy_55 : decode cX1_gainBy 55 = .ok (.isub, 1) := by decide +kernel
theorem dX1_gainBy_56 : decode cX1_gainBy 56 = .ok (.istore 7, 2) := by decide +kernel
theorem dX1_gainBy_58 : decode cX1_gainBy 58 = .ok (.aload_n 1, 1) := by decide +kernel
theorem dX1_gainBy_59 : decode cX1_gainBy 59 = .ok (.getfield 76, 3) := by decide +kernel
theorem dX1_gainBy_62 : decode cX1_gainBy 62 = .ok (.iload 6, 2) := by decide +kernel
theorem dX1_gainBy_64 : decode cX1_gainBy 64 = .ok (.imul, 1) := by decide +kernel
theorem dX1_gainBy_65 : decode cX1_gainBy 65 = .ok (.iload 5, 2) := by decide +kernel
theorem dX1_gainBy_67 : decode cX1_gainBy 67 = .ok (.isub, 1) := by decide +kernel
theorem dX1_gainBy_68 : decode cX1_gainBy 68 = .ok (.iload 7, 2) := by decide +kernel
theorem dX1_gainBy_70 : decode cX1_gainBy 70 = .ok (.aload_n 2, 1) := by decide +kernel
theorem dX1_gainBy_71 : decode cX1_gainBy 71 = .ok (.iload 4, 2) := by decide +kernel
theorem dX1_gainBy_73 : decode cX1_gainBy 73 = .ok (.aload_n 0, 1) := by decide +kernel
theorem dX1_gainBy_74 : decode cX1_gainBy 74 = .ok (.getfield 34, 3) := by decide +kernel
theorem dX1_gainBy_77 : decode cX1_gainBy 77 = .ok (.invokevirtual 103, 3) := by decide +kernel
theorem dX1_gainBy_80 : decode cX1_gainBy 80 = .ok (.imul, 1) := by decide +kernel
theorem dX1_gainBy_81 : decode cX1_gainBy 81 = .ok (.isub, 1) := by decide +kernel
theorem dX1_gainBy_82 : decode cX1_gainBy 82 = .ok (.ireturn, 1) := by decide +kernel
theorem dX1_stopQuarter_0 : decode cX1_stopQuarter 0 = .ok (.aload_n 1, 1) := by decide +kernel
theorem dX1_stopQuarter_1 : decode cX1_stopQuarter 1 = .ok (.getfield 70, 3) := by decide +kernel
theorem dX1_stopQuarter_4 : decode cX1_stopQuarter 4 = .ok (.aload_n 1, 1) := by decide +kernel
theorem dX1_stopQuarter_5 : decode cX1_stopQuarter 5 = .ok (.getfield 67, 3) := by decide +kernel
theorem dX1_stopQuarter_8 : decode cX1_stopQuarter 8 = .ok (.aload_n 2, 1) := by decide +kernel
theorem dX1_stopQuarter_9 : decode cX1_stopQuarter 9 = .ok (.aload_n 0, 1) := by decide +kernel
theorem dX1_stopQuarter_10 : decode cX1_stopQuarter 10 = .ok (.getfield 34, 3) := by decide +kernel
theorem dX1_stopQuarter_13 : decode cX1_stopQuarter 13 = .ok (.invokevirtual 115, 3) := by decide +kernel
theorem dX1_stopQuarter_16 : decode cX1_stopQuarter 16 = .ok (.iadd, 1) := by decide +kernel
theorem dX1_stopQuarter_17 : decode cX1_stopQuarter 17 = .ok (.iconst 1, 1) := by decide +kernel
theorem dX1_stopQuarter_18 : decode cX1_stopQuarter 18 = .ok (.isub, 1) := by decide +kernel
theorem dX1_stopQuarter_19 : decode cX1_stopQuarter 19 = .ok (.invokestatic 118, 3) := by decide +kernel
theorem dX1_stopQuarter_22 : decode cX1_stopQuarter 22 = .ok (.istore_n 3, 1) := by decide +kernel
theorem dX1_stopQuarter_23 : decode cX1_stopQuarter 23 = .ok (.iconst (-1), 1) := by decide +kernel
theorem dX1_stopQuarter_24 : decode cX1_stopQuarter 24 = .ok (.istore 4, 2) := by decide +kernel
theorem dX1_stopQuarter_26 : decode cX1_stopQuarter 26 = .ok (.iconst 0, 1) := by decide +kernel
theorem dX1_stopQuarter_27 : decode cX1_stopQuarter 27 = .ok (.istore 5, 2) := by decide +kernel
theorem dX1_stopQuarter_29 : decode cX1_stopQuarter 29 = .ok (.aload_n 1, 1) := by decide +kernel
theorem dX1_stopQuarter_30 : decode cX1_stopQuarter 30 = .ok (.getfield 67, 3) := by decide +kernel
theorem dX1_stopQuarter_33 : decode cX1_stopQuarter 33 = .ok (.istore 6, 2) := by decide +kernel
theorem dX1_stopQuarter_35 : decode cX1_stopQuarter 35 = .ok (.iload 6, 2) := by decide +kernel
theorem dX1_stopQuarter_37 : decode cX1_stopQuarter 37 = .ok (.iload_n 3, 1) := by decide +kernel
theorem dX1_stopQuarter_38 : decode cX1_stopQuarter 38 = .ok (.if_icmp .gt 34, 3) := by decide +kernel
theorem dX1_stopQuarter_41 : decode cX1_stopQuarter 41 = .ok (.aload_n 0, 1) := by decide +kernel
theorem dX1_stopQuarter_42 : decode cX1_stopQuarter 42 = .ok (.aload_n 1, 1) := by decide +kernel
theorem dX1_stopQuarter_43 : decode cX1_stopQuarter 43 = .ok (.aload_n 2, 1) := by decide +kernel
theorem dX1_stopQuarter_44 : decode cX1_stopQuarter 44 = .ok (.iload 6, 2) := by decide +kernel
theorem dX1_stopQuarter_46 : decode cX1_stopQuarter 46 = .ok (.invokevirtual 123, 3) := by decide +kernel
theorem dX1_stopQuarter_49 : decode cX1_stopQuarter 49 = .ok (.istore 7, 2) := by decide +kernel
theorem dX1_stopQuarter_51 : decode cX1_stopQuarter 51 = .ok (.iload 7, 2) := by decide +kernel
theorem dX1_stopQuarter_53 : decode cX1_stopQuarter 53 = .ok (.iload 5, 2) := by decide +kernel
theorem dX1_stopQuarter_55 : decode cX1_stopQuarter 55 = .ok (.if_icmp .le 11, 3) := by decide +kernel
theorem dX1_stopQuarter_58 : decode cX1_stopQuarter 58 = .ok (.iload 7, 2) := by decide +kernel
theorem dX1_stopQuarter_60 : decode cX1_stopQuarter 60 = .ok (.istore 5, 2) := by decide +kernel
theorem dX1_stopQuarter_62 : decode cX1_stopQuarter 62 = .ok (.iload 6, 2) := by decide +kernel
theorem dX1_stopQuarter_64 : decode cX1_stopQuarter 64 = .ok (.istore 4, 2) := by decide +kernel
theorem dX1_stopQuarter_66 : decode cX1_stopQuarter 66 = .ok (.iinc 6 1, 3) := by decide +kernel
theorem dX1_stopQuarter_69 : decode cX1_stopQuarter 69 = .ok (.goto (-34), 3) := by decide +kernel
theorem dX1_stopQuarter_72 : decode cX1_stopQuarter 72 = .ok (.iload 4, 2) := by decide +kernel
theorem dX1_stopQuarter_74 : decode cX1_stopQuarter 74 = .ok (.ireturn, 1) := by decide +kernel
theorem dX1_bestGain_0 : decode cX1_bestGain 0 = .ok (.aload_n 0, 1) := by decide +kernel
theorem dX1_bestGain_1 : decode cX1_bestGain 1 = .ok (.aload_n 1, 1) := by decide +kernel
theorem dX1_bestGain_2 : decode cX1_bestGain 2 = .ok (.aload_n 2, 1) := by decide +kernel
theorem dX1_bestGain_3 : decode cX1_bestGain 3 = .ok (.invokevirtual 127, 3) := by decide +kernel
theorem dX1_bestGain_6 : decode cX1_bestGain 6 = .ok (.istore_n 3, 1) := by decide +kernel
theorem dX1_bestGain_7 : decode cX1_bestGain 7 = .ok (.iload_n 3, 1) := by decide +kernel
theorem dX1_bestGain_8 : decode cX1_bestGain 8 = .ok (.iconst (-1), 1) := by decide +kernel
theorem dX1_bestGain_9 : decode cX1_bestGain 9 = .ok (.if_icmp .ne 7, 3) := by decide +kernel
theorem dX1_bestGain_12 : decode cX1_bestGain 12 = .ok (.iconst 0, 1) := by decide +kernel
theorem dX1_bestGain_13 : decode cX1_bestGain 13 = .ok (.goto 10, 3) := by decide +kernel
theorem dX1_bestGain_16 : decode cX1_bestGain 16 = .ok (.aload_n 0, 1) := by decide +kernel
theorem dX1_bestGain_17 : decode cX1_bestGain 17 = .ok (.aload_n 1, 1) := by decide +kernel
theorem dX1_bestGain_18 : decode cX1_bestGain 18 = .ok (.aload_n 2, 1) := by decide +kernel
theorem dX1_bestGain_19 : decode cX1_bestGain 19 = .ok (.iload_n 3, 1) := by decide +kernel
theorem dX1_bestGain_20 : decode cX1_bestGain 20 = .ok (.invokevirtual 123, 3) := by decide +kernel
theorem dX1_bestGain_23 : decode cX1_bestGain 23 = .ok (.ireturn, 1) := by decide +kernel
theorem dX1_bestWaiter_0 : decode cX1_bestWaiter 0 = .ok (.iconst (-1), 1) := by decide +kernel
theorem dX1_bestWaiter_1 : decode cX1_bestWaiter 1 = .ok (.istore_n 2, 1) := by decide +kernel
theorem dX1_bestWaiter_2 : decode cX1_bestWaiter 2 = .ok (.iconst 0, 1) := by decide +kernel
theorem dX1_bestWaiter_3 : decode cX1_bestWaiter 3 = .ok (.istore_n 3, 1) := by decide +kernel
theorem dX1_bestWaiter_4 : decode cX1_bestWaiter 4 = .ok (.iconst 0, 1) := by decide +kernel
theorem dX1_bestWaiter_5 : decode cX1_bestWaiter 5 = .ok (.istore 4, 2) := by decide +kernel
theorem dX1_bestWaiter_7 : decode cX1_bestWaiter 7 = .ok (.iload 4, 2) := by decide +kernel
theorem dX1_bestWaiter_9 : decode cX1_bestWaiter 9 = .ok (.aload_n 0, 1) := by decide +kernel
theorem dX1_bestWaiter_10 : decode cX1_bestWaiter 10 = .ok (.getfield 31, 3) := by decide +kernel
theorem dX1_bestWaiter_13 : decode cX1_bestWaiter 13 = .ok (.if_icmp .ge 35, 3) := by decide +kernel
theorem dX1_bestWaiter_16 : decode cX1_bestWaiter 16 = .ok (.aload_n 0, 1) := by decide +kernel
theorem dX1_bestWaiter_17 : decode cX1_bestWaiter 17 = .ok (.aload_n 1, 1) := by decide +kernel
theorem dX1_bestWaiter_18 : decode cX1_bestWaiter 18 = .ok (.aload_n 0, 1) := by decide +kernel
theorem dX1_bestWaiter_19 : decode cX1_bestWaiter 19 = .ok (.getfield 19, 3) := by decide +kernel
theorem dX1_bestWaiter_22 : decode cX1_bestWaiter 22 = .ok (.iload 4, 2) := by decide +kernel
theorem dX1_bestWaiter_24 : decode cX1_bestWaiter 24 = .ok (.aaload, 1) := by decide +kernel
theorem dX1_bestWaiter_25 : decode cX1_bestWaiter 25 = .ok (.invokevirtual 131, 3) := by decide +kernel
theorem dX1_bestWaiter_28 : decode cX1_bestWaiter 28 = .ok (.istore 5, 2) := by decide +kernel
theorem dX1_bestWaiter_30 : decode cX1_bestWaiter 30 = .ok (.iload 5, 2) := by decide +kernel
theorem dX1_bestWaiter_32 : decode cX1_bestWaiter 32 = .ok (.iload_n 3, 1) := by decide +kernel
theorem dX1_bestWaiter_33 : decode cX1_bestWaiter 33 = .ok (.if_icmp .le 9, 3) := by decide +kernel
theorem dX1_bestWaiter_36 : decode cX1_bestWaiter 36 = .ok (.iload 5, 2) := by decide +kernel
theorem dX1_bestWaiter_38 : decode cX1_bestWaiter 38 = .ok (.istore_n 3, 1) := by decide +kernel
theorem dX1_bestWaiter_39 : decode cX1_bestWaiter 39 = .ok (.iload 4, 2) := by decide +kernel
theorem dX1_bestWaiter_41 : decode cX1_bestWaiter 41 = .ok (.istore_n 2, 1) := by decide +kernel
theorem dX1_bestWaiter_42 : decode cX1_bestWaiter 42 = .ok (.iinc 4 1, 3) := by decide +kernel
theorem dX1_bestWaiter_45 : decode cX1_bestWaiter 45 = .ok (.goto (-38), 3) := by decide +kernel
theorem dX1_bestWaiter_48 : decode cX1_bestWaiter 48 = .ok (.iload_n 2, 1) := by decide +kernel
theorem dX1_bestWaiter_49 : decode cX1_bestWaiter 49 = .ok (.ireturn, 1) := by decide +kernel
theorem dX1_thingsSeen_0 : decode cX1_thingsSeen 0 = .ok (.iconst 0, 1) := by decide +kernel
theorem dX1_thingsSeen_1 : decode cX1_thingsSeen 1 = .ok (.istore_n 3, 1) := by decide +kernel
theorem dX1_thingsSeen_2 : decode cX1_thingsSeen 2 = .ok (.iconst 0, 1) := by decide +kernel
theorem dX1_thingsSeen_3 : decode cX1_thingsSeen 3 = .ok (.istore 4, 2) := by decide +kernel
theorem dX1_thingsSeen_5 : decode cX1_thingsSeen 5 = .ok (.iload 4, 2) := by decide +kernel
theorem dX1_thingsSeen_7 : decode cX1_thingsSeen 7 = .ok (.aload_n 0, 1) := by decide +kernel
theorem dX1_thingsSeen_8 : decode cX1_thingsSeen 8 = .ok (.getfield 27, 3) := by decide +kernel
theorem dX1_thingsSeen_11 : decode cX1_thingsSeen 11 = .ok (.if_icmp .ge 38, 3) := by decide +kernel
theorem dX1_thingsSeen_14 : decode cX1_thingsSeen 14 = .ok (.aload_n 0, 1) := by decide +kernel
theorem dX1_thingsSeen_15 : decode cX1_thingsSeen 15 = .ok (.getfield 11, 3) := by decide +kernel
theorem dX1_thingsSeen_18 : decode cX1_thingsSeen 18 = .ok (.iload 4, 2) := by decide +kernel
theorem dX1_thingsSeen_20 : decode cX1_thingsSeen 20 = .ok (.aaload, 1) := by decide +kernel
theorem dX1_thingsSeen_21 : decode cX1_thingsSeen 21 = .ok (.getfield 64, 3) := by decide +kernel
theorem dX1_thingsSeen_24 : decode cX1_thingsSeen 24 = .ok (.iload_n 2, 1) := by decide +kernel
theorem dX1_thingsSeen_25 : decode cX1_thingsSeen 25 = .ok (.isub, 1) := by decide +kernel
theorem dX1_thingsSeen_26 : decode cX1_thingsSeen 26 = .ok (.invokestatic 134, 3) := by decide +kernel
theorem dX1_thingsSeen_29 : decode cX1_thingsSeen 29 = .ok (.aload_n 1, 1) := by decide +kernel
theorem dX1_thingsSeen_30 : decode cX1_thingsSeen 30 = .ok (.invokevirtual 137, 3) := by decide +kernel
theorem dX1_thingsSeen_33 : decode cX1_thingsSeen 33 = .ok (.if_icmp .gt 10, 3) := by decide +kernel
theorem dX1_thingsSeen_36 : decode cX1_thingsSeen 36 = .ok (.iload_n 3, 1) := by decide +kernel
theorem dX1_thingsSeen_37 : decode cX1_thingsSeen 37 = .ok (.iconst 1, 1) := by decide +kernel
theorem dX1_thingsSeen_38 : decode cX1_thingsSeen 38 = .ok (.iload 4, 2) := by decide +kernel
theorem dX1_thingsSeen_40 : decode cX1_thingsSeen 40 = .ok (.ishl, 1) := by decide +kernel
theorem dX1_thingsSeen_41 : decode cX1_thingsSeen 41 = .ok (.ior, 1) := by decide +kernel
theorem dX1_thingsSeen_42 : decode cX1_thingsSeen 42 = .ok (.istore_n 3, 1) := by decide +kernel
theorem dX1_thingsSeen_43 : decode cX1_thingsSeen 43 = .ok (.iinc 4 1, 3) := by decide +kernel
theorem dX1_thingsSeen_46 : decode cX1_thingsSeen 46 = .ok (.goto (-41), 3) := by decide +kernel
theorem dX1_thingsSeen_49 : decode cX1_thingsSeen 49 = .ok (.iload_n 3, 1) := by decide +kernel
theorem dX1_thingsSeen_50 : decode cX1_thingsSeen 50 = .ok (.ireturn, 1) := by decide +kernel
theorem dX1_cornersWithSight_0 : decode cX1_cornersWithSight 0 = .ok (.iconst 0, 1) := by decide +kernel
theorem dX1_cornersWithSight_1 : decode cX1_cornersWithSight 1 = .ok (.istore_n 2, 1) := by decide +kernel
theorem dX1_cornersWithSight_2 : decode cX1_cornersWithSight 2 = .ok (.iconst 0, 1) := by decide +kernel
theorem dX1_cornersWithSight_3 : decode cX1_cornersWithSight 3 = .ok (.istore_n 3, 1) := by decide +kernel
theorem dX1_cornersWithSight_4 : decode cX1_cornersWithSight 4 = .ok (.iload_n 3, 1) := by decide +kernel
theorem dX1_cornersWithSight_5 : decode cX1_cornersWithSight 5 = .ok (.bipush 9, 2) := by decide +kernel
theorem dX1_cornersWithSight_7 : decode cX1_cornersWithSight 7 = .ok (.if_icmp .gt 24, 3) := by decide +kernel
theorem dX1_cornersWithSight_10 : decode cX1_cornersWithSight 10 = .ok (.aload_n 0, 1) := by decide +kernel
theorem dX1_cornersWithSight_11 : decode cX1_cornersWithSight 11 = .ok (.aload_n 1, 1) := by decide +kernel
theorem dX1_cornersWithSight_12 : decode cX1_cornersWithSight 12 = .ok (.iload_n 3, 1) := by decide +kernel
theorem dX1_cornersWithSight_13 : decode cX1_cornersWithSight 13 = .ok (.invokevirtual 140, 3) := by decide +kernel
theorem dX1_cornersWithSight_16 : decode cX1_cornersWithSight 16 = .ok (.ifCond .eq 9, 3) := by decide +kernel
theorem dX1_cornersWithSight_19 : decode cX1_cornersWithSight 19 = .ok (.iload_n 2, 1) := by decide +kernel
theorem dX1_cornersWithSight_20 : decode cX1_cornersWithSight 20 = .ok (.iconst 1, 1) := by decide +kernel
theorem dX1_cornersWithSight_21 : decode cX1_cornersWithSight 21 = .ok (.iload_n 3, 1) := by decide +kernel
theorem dX1_cornersWithSight_22 : decode cX1_cornersWithSight 22 = .ok (.ishl, 1) := by decide +kernel
theorem dX1_cornersWithSight_23 : decode cX1_cornersWithSight 23 = .ok (.ior, 1) := by decide +kernel
theorem dX1_cornersWithSight_24 : decode cX1_cornersWithSight 24 = .ok (.istore_n 2, 1) := by decide +kernel
theorem dX1_cornersWithSight_25 : decode cX1_cornersWithSight 25 = .ok (.iinc 3 1, 3) := by decide +kernel
theorem dX1_cornersWithSight_28 : decode cX1_cornersWithSight 28 = .ok (.goto (-24), 3) := by decide +kernel
theorem dX1_cornersWithSight_31 : decode cX1_cornersWithSight 31 = .ok (.iload_n 2, 1) := by decide +kernel
theorem dX1_cornersWithSight_32 : decode cX1_cornersWithSight 32 = .ok (.ireturn, 1) := by decide +kernel
theorem dX1_bestStand_0 : decode cX1_bestStand 0 = .ok (.iconst 0, 1) := by decide +kernel
theorem dX1_bestStand_1 : decode cX1_bestStand 1 = .ok (.istore_n 2, 1) := by decide +kernel
theorem dX1_bestStand_2 : decode cX1_bestStand 2 = .ok (.iconst 0, 1) := by decide +kernel
theorem dX1_bestStand_3 : decode cX1_bestStand 3 = .ok (.istore_n 3, 1) := by decide +kernel
theorem dX1_bestStand_4 : decode cX1_bestStand 4 = .ok (.iconst 0, 1) := by decide +kernel
theorem dX1_bestStand_5 : decode cX1_bestStand 5 = .ok (.istore 4, 2) := by decide +kernel
theorem dX1_bestStand_7 : decode cX1_bestStand 7 = .ok (.iload 4, 2) := by decide +kernel
theorem dX1_bestStand_9 : decode cX1_bestStand 9 = .ok (.bipush 9, 2) := by decide +kernel
theorem dX1_bestStand_11 : decode cX1_bestStand 11 = .ok (.if_icmp .gt 34, 3) := by decide +kernel
theorem dX1_bestStand_14 : decode cX1_bestStand 14 = .ok (.aload_n 0, 1) := by decide +kernel
theorem dX1_bestStand_15 : decode cX1_bestStand 15 = .ok (.aload_n 0, 1) := by decide +kernel
theorem dX1_bestStand_16 : decode cX1_bestStand 16 = .ok (.aload_n 1, 1) := by decide +kernel
theorem dX1_bestStand_17 : decode cX1_bestStand 17 = .ok (.iload 4, 2) := by decide +kernel
theorem dX1_bestStand_19 : decode cX1_bestStand 19 = .ok (.invokevirtual 140, 3) := by decide +kernel
theorem dX1_bestStand_22 : decode cX1_bestStand 22 = .ok (.invokevirtual 144, 3) := by decide +kernel
theorem dX1_bestStand_25 : decode cX1_bestStand 25 = .ok (.istore 5, 2) := by decide +kernel
theorem dX1_bestStand_27 : decode cX1_bestStand 27 = .ok (.iload 5, 2) := by decide +kernel
theorem dX1_bestStand_29 : decode cX1_bestStand 29 = .ok (.iload_n 3, 1) := by decide +kernel
theorem dX1_bestStand_30 : decode cX1_bestStand 30 = .ok (.if_icmp .le 9, 3) := by decide +kernel
theorem dX1_bestStand_33 : decode cX1_bestStand 33 = .ok (.iload 5, 2) := by decide +kernel
theorem dX1_bestStand_35 : decode cX1_bestStand 35 = .ok (.istore_n 3, 1) := by decide +kernel
theorem dX1_bestStand_36 : decode cX1_bestStand 36 = .ok (.iload 4, 2) := by decide +kernel
theorem dX1_bestStand_38 : decode cX1_bestStand 38 = .ok (.istore_n 2, 1) := by decide +kernel
theorem dX1_bestStand_39 : decode cX1_bestStand 39 = .ok (.iinc 4 1, 3) := by decide +kernel
theorem dX1_bestStand_42 : decode cX1_bestStand 42 = .ok (.goto (-35), 3) := by decide +kernel
theorem dX1_bestStand_45 : decode cX1_bestStand 45 = .ok (.iload_n 2, 1) := by decide +kernel
theorem dX1_bestStand_46 : decode cX1_bestStand 46 = .ok (.ireturn, 1) := by decide +kernel
theorem dX1_worthOf_0 : decode cX1_worthOf 0 = .ok (.iconst 0, 1) := by decide +kernel
theorem dX1_worthOf_1 : decode cX1_worthOf 1 = .ok (.istore_n 2, 1) := by decide +kernel
theorem dX1_worthOf_2 : decode cX1_worthOf 2 = .ok (.iconst 0, 1) := by decide +kernel
theorem dX1_worthOf_3 : decode cX1_worthOf 3 = .ok (.istore_n 3, 1) := by decide +kernel
theorem dX1_worthOf_4 : decode cX1_worthOf 4 = .ok (.iload_n 3, 1) := by decide +kernel
theorem dX1_worthOf_5 : decode cX1_worthOf 5 = .ok (.aload_n 0, 1) := by decide +kernel
theorem dX1_worthOf_6 : decode cX1_worthOf 6 = .ok (.getfield 27, 3) := by decide +kernel
theorem dX1_worthOf_9 : decode cX1_worthOf 9 = .ok (.if_icmp .ge 29, 3) := by decide +kernel
theorem dX1_worthOf_12 : decode cX1_worthOf 12 = .ok (.iload_n 1, 1) := by decide +kernel
theorem dX1_worthOf_13 : decode cX1_worthOf 13 = .ok (.iload_n 3, 1) := by decide +kernel
theorem dX1_worthOf_14 : decode cX1_worthOf 14 = .ok (.ishr, 1) := by decide +kernel
theorem dX1_worthOf_15 : decode cX1_worthOf 15 = .ok (.iconst 1, 1) := by decide +kernel
theorem dX1_worthOf_16 : decode cX1_worthOf 16 = .ok (.iand, 1) := by decide +kernel
theorem dX1_worthOf_17 : decode cX1_worthOf 17 = .ok (.ifCond .eq 15, 3) := by decide +kernel
theorem dX1_worthOf_20 : decode cX1_worthOf 20 = .ok (.iload_n 2, 1) := by decide +kernel
theorem dX1_worthOf_21 : decode cX1_worthOf 21 = .ok (.aload_n 0, 1) := by decide +kernel
theorem dX1_worthOf_22 : decode cX1_worthOf 22 = .ok (.getfield 11, 3) := by decide +kernel
theorem dX1_worthOf_25 : decode cX1_worthOf 25 = .ok (.iload_n 3, 1) := by decide +kernel
theorem dX1_worthOf_26 : decode cX1_worthOf 26 = .ok (.aaload, 1) := by decide +kernel
theorem dX1_worthOf_27 : decode cX1_worthOf 27 = .ok (.getfield 76, 3) := by decide +kernel
theorem dX1_worthOf_30 : decode cX1_worthOf 30 = .ok (.iadd, 1) := by decide +kernel
theorem dX1_worthOf_31 : decode cX1_worthOf 31 = .ok (.istore_n 2, 1) := by decide +kernel
theorem dX1_worthOf_32 : decode cX1_worthOf 32 = .ok (.iinc 3 1, 3) := by decide +kernel
theorem dX1_worthOf_35 : decode cX1_worthOf 35 = .ok (.goto (-31), 3) := by decide +kernel
theorem dX1_worthOf_38 : decode cX1_worthOf 38 = .ok (.iload_n 2, 1) := by decide +kernel
theorem dX1_worthOf_39 : decode cX1_worthOf 39 = .ok (.ireturn, 1) := by decide +kernel
theorem dX1_fewestPosts_0 : decode cX1_fewestPosts 0 = .ok (.iconst 0, 1) := by decide +kernel
theorem dX1_fewestPosts_1 : decode cX1_fewestPosts 1 = .ok (.istore_n 1, 1) := by decide +kernel
theorem dX1_fewestPosts_2 : decode cX1_fewestPosts 2 = .ok (.iload_n 1, 1) := by decide +kernel
theorem dX1_fewestPosts_3 : decode cX1_fewestPosts 3 = .ok (.aload_n 0, 1) := by decide +kernel
theorem dX1_fewestPosts_4 : decode cX1_fewestPosts 4 = .ok (.getfield 31, 3) := by decide +kernel
theorem dX1_fewestPosts_7 : decode cX1_fewestPosts 7 = .ok (.if_icmp .ge 34, 3) := by decide +kernel
theorem dX1_fewestPosts_10 : decode cX1_fewestPosts 10 = .ok (.aload_n 0, 1) := by decide +kernel
theorem dX1_fewestPosts_11 : decode cX1_fewestPosts 11 = .ok (.getfield 23, 3) := by decide +kernel
theorem dX1_fewestPosts_14 : decode cX1_fewestPosts 14 = .ok (.iload_n 1, 1) := by decide +kernel
theorem dX1_fewestPosts_15 : decode cX1_fewestPosts 15 = .ok (.aload_n 0, 1) := by decide +kernel
theorem dX1_fewestPosts_16 : decode cX1_fewestPosts 16 = .ok (.aload_n 0, 1) := by decide +kernel
theorem dX1_fewestPosts_17 : decode cX1_fewestPosts 17 = .ok (.getfield 19, 3) := by decide +kernel
theorem dX1_fewestPosts_20 : decode cX1_fewestPosts 20 = .ok (.iload_n 1, 1) := by decide +kernel
theorem dX1_fewestPosts_21 : decode cX1_fewestPosts 21 = .ok (.aaload, 1) := by decide +kernel
theorem dX1_fewestPosts_22 : decode cX1_fewestPosts 22 = .ok (.aload_n 0, 1) := by decide +kernel
theorem dX1_fewestPosts_23 : decode cX1_fewestPosts 23 = .ok (.getfield 19, 3) := by decide +kernel
theorem dX1_fewestPosts_26 : decode cX1_fewestPosts 26 = .ok (.iload_n 1, 1) := by decide +kernel
theorem dX1_fewestPosts_27 : decode cX1_fewestPosts 27 = .ok (.aaload, 1) := by decide +kernel
theorem dX1_fewestPosts_28 : decode cX1_fewestPosts 28 = .ok (.getfield 100, 3) := by decide +kernel
theorem dX1_fewestPosts_31 : decode cX1_fewestPosts 31 = .ok (.invokevirtual 140, 3) := by decide +kernel
theorem dX1_fewestPosts_34 : decode cX1_fewestPosts 34 = .ok (.iastore, 1) := by decide +kernel
theorem dX1_fewestPosts_35 : decode cX1_fewestPosts 35 = .ok (.iinc 1 1, 3) := by decide +kernel
theorem dX1_fewestPosts_38 : decode cX1_fewestPosts 38 = .ok (.goto (-36), 3) := by decide +kernel
theorem dX1_fewestPosts_41 : decode cX1_fewestPosts 41 = .ok (.iconst 1, 1) := by decide +kernel
theorem dX1_fewestPosts_42 : decode cX1_fewestPosts 42 = .ok (.aload_n 0, 1) := by decide +kernel
theorem dX1_fewestPosts_43 : decode cX1_fewestPosts 43 = .ok (.getfield 27, 3) := by decide +kernel
theorem dX1_fewestPosts_46 : decode cX1_fewestPosts 46 = .ok (.ishl, 1) := by decide +kernel
theorem dX1_fewestPosts_47 : decode cX1_fewestPosts 47 = .ok (.iconst 1, 1) := by decide +kernel
theorem dX1_fewestPosts_48 : decode cX1_fewestPosts 48 = .ok (.isub, 1) := by decide +kernel
theorem dX1_fewestPosts_49 : decode cX1_fewestPosts 49 = .ok (.istore_n 1, 1) := by decide +kernel
theorem dX1_fewestPosts_50 : decode cX1_fewestPosts 50 = .ok (.iconst (-1), 1) := by decide +kernel
theorem dX1_fewestPosts_51 : decode cX1_fewestPosts 51 = .ok (.istore_n 2, 1) := by decide +kernel
theorem dX1_fewestPosts_52 : decode cX1_fewestPosts 52 = .ok (.bipush 7, 2) := by decide +kernel
theorem dX1_fewestPosts_54 : decode cX1_fewestPosts 54 = .ok (.istore_n 3, 1) := by decide +kernel
theorem dX1_fewestPosts_55 : decode cX1_fewestPosts 55 = .ok (.iconst 0, 1) := by decide +kernel
theorem dX1_fewestPosts_56 : decode cX1_fewestPosts 56 = .ok (.istore 4, 2) := by decide +kernel
theorem dX1_fewestPosts_58 : decode cX1_fewestPosts 58 = .ok (.iload 4, 2) := by decide +kernel
theorem dX1_fewestPosts_60 : decode cX1_fewestPosts 60 = .ok (.iconst 1, 1) := by decide +kernel
theorem dX1_fewestPosts_61 : decode cX1_fewestPosts 61 = .ok (.aload_n 0, 1) := by decide +kernel
theorem dX1_fewestPosts_62 : decode cX1_fewestPosts 62 = .ok (.getfield 31, 3) := by decide +kernel
theorem dX1_fewestPosts_65 : decode cX1_fewestPosts 65 = .ok (.ishl, 1) := by decide +kernel
theorem dX1_fewestPosts_66 : decode cX1_fewestPosts 66 = .ok (.if_icmp .ge 38, 3) := by decide +kernel
theorem dX1_fewestPosts_69 : decode cX1_fewestPosts 69 = .ok (.iload 4, 2) := by decide +kernel
theorem dX1_fewestPosts_71 : decode cX1_fewestPosts 71 = .ok (.invokestatic 147, 3) := by decide +kernel
theorem dX1_fewestPosts_74 : decode cX1_fewestPosts 74 = .ok (.istore 5, 2) := by decide +kernel
theorem dX1_fewestPosts_76 : decode cX1_fewestPosts 76 = .ok (.iload 5, 2) := by decide +kernel
theorem dX1_fewestPosts_78 : decode cX1_fewestPosts 78 = .ok (.iload_n 3, 1) := by decide +kernel
theorem dX1_fewestPosts_79 : decode cX1_fewestPosts 79 = .ok (.if_icmp .ge 19, 3) := by decide +kernel
theorem dX1_fewestPosts_82 : decode cX1_fewestPosts 82 = .ok (.aload_n 0, 1) := by decide +kernel
theorem dX1_fewestPosts_83 : decode cX1_fewestPosts 83 = .ok (.iload 4, 2) := by decide +kernel
theorem dX1_fewestPosts_85 : decode cX1_fewestPosts 85 = .ok (.invokevirtual 152, 3) := by decide +kernel
theorem dX1_fewestPosts_88 : decode cX1_fewestPosts 88 = .ok (.iload_n 1, 1) := by decide +kernel
theorem dX1_fewestPosts_89 : decode cX1_fewestPosts 89 = .ok (.if_icmp .ne 9, 3) := by decide +kernel
theorem dX1_fewestPosts_92 : decode cX1_fewestPosts 92 = .ok (.iload 5, 2) := by decide +kernel
theorem dX1_fewestPosts_94 : decode cX1_fewestPosts 94 = .ok (.istore_n 3, 1) := by decide +kernel
theorem dX1_fewestPosts_95 : decode cX1_fewestPosts 95 = .ok (.iload 4, 2) := by decide +kernel
theorem dX1_fewestPosts_97 : decode cX1_fewestPosts 97 = .ok (.istore_n 2, 1) := by decide +kernel
theorem dX1_fewestPosts_98 : decode cX1_fewestPosts 98 = .ok (.iinc 4 1, 3) := by decide +kernel
theorem dX1_fewestPosts_101 : decode cX1_fewestPosts 101 = .ok (.goto (-43), 3) := by decide +kernel
theorem dX1_fewestPosts_104 : decode cX1_fewestPosts 104 = .ok (.iload_n 2, 1) := by decide +kernel
theorem dX1_fewestPosts_105 : decode cX1_fewestPosts 105 = .ok (.ireturn, 1) := by decide +kernel
theorem dX1_seenFromPosts_0 : decode cX1_seenFromPosts 0 = .ok (.iconst 0, 1) := by decide +kernel
theorem dX1_seenFromPosts_1 : decode cX1_seenFromPosts 1 = .ok (.istore_n 2, 1) := by decide +kernel
theorem dX1_seenFromPosts_2 : decode cX1_seenFromPosts 2 = .ok (.iconst 0, 1) := by decide +kernel
theorem dX1_seenFromPosts_3 : decode cX1_seenFromPosts 3 = .ok (.istore_n 3, 1) := by decide +kernel
theorem dX1_seenFromPosts_4 : decode cX1_seenFromPosts 4 = .ok (.iload_n 3, 1) := by decide +kernel
theorem dX1_seenFromPosts_5 : decode cX1_seenFromPosts 5 = .ok (.aload_n 0, 1) := by decide +kernel
theorem dX1_seenFromPosts_6 : decode cX1_seenFromPosts 6 = .ok (.getfield 31, 3) := by decide +kernel
theorem dX1_seenFromPosts_9 : decode cX1_seenFromPosts 9 = .ok (.if_icmp .ge 26, 3) := by decide +kernel
theorem dX1_seenFromPosts_12 : decode cX1_seenFromPosts 12 = .ok (.iload_n 1, 1) := by decide +kernel
theorem dX1_seenFromPosts_13 : decode cX1_seenFromPosts 13 = .ok (.iload_n 3, 1) := by decide +kernel
theorem dX1_seenFromPosts_14 : decode cX1_seenFromPosts 14 = .ok (.ishr, 1) := by decide +kernel
theorem dX1_seenFromPosts_15 : decode cX1_seenFromPosts 15 = .ok (.iconst 1, 1) := by decide +kernel
theorem dX1_seenFromPosts_16 : decode cX1_seenFromPosts 16 = .ok (.iand, 1) := by decide +kernel
theorem dX1_seenFromPosts_17 : decode cX1_seenFromPosts 17 = .ok (.ifCond .eq 12, 3) := by decide +kernel
theorem dX1_seenFromPosts_20 : decode cX1_seenFromPosts 20 = .ok (.iload_n 2, 1) := by decide +kernel
theorem dX1_seenFromPosts_21 : decode cX1_seenFromPosts 21 = .ok (.aload_n 0, 1) := by decide +kernel
theorem dX1_seenFromPosts_22 : decode cX1_seenFromPosts 22 = .ok (.getfield 23, 3) := by decide +kernel
theorem dX1_seenFromPosts_25 : decode cX1_seenFromPosts 25 = .ok (.iload_n 3, 1) := by decide +kernel
theorem dX1_seenFromPosts_26 : decode cX1_seenFromPosts 26 = .ok (.iaload, 1) := by decide +kernel
theorem dX1_seenFromPosts_27 : decode cX1_seenFromPosts 27 = .ok (.ior, 1) := by decide +kernel
theorem dX1_seenFromPosts_28 : decode cX1_seenFromPosts 28 = .ok (.istore_n 2, 1) := by decide +kernel
theorem dX1_seenFromPosts_29 : decode cX1_seenFromPosts 29 = .ok (.iinc 3 1, 3) := by decide +kernel
theorem dX1_seenFromPosts_32 : decode cX1_seenFromPosts 32 = .ok (.goto (-28), 3) := by decide +kernel
theorem dX1_seenFromPosts_35 : decode cX1_seenFromPosts 35 = .ok (.iload_n 2, 1) := by decide +kernel
theorem dX1_seenFromPosts_36 : decode cX1_seenFromPosts 36 = .ok (.ireturn, 1) := by decide +kernel
theorem dX1_worthMet_0 : decode cX1_worthMet 0 = .ok (.iconst 0, 1) := by decide +kernel
theorem dX1_worthMet_1 : decode cX1_worthMet 1 = .ok (.istore_n 2, 1) := by decide +kernel
theorem dX1_worthMet_2 : decode cX1_worthMet 2 = .ok (.iconst 0, 1) := by decide +kernel
theorem dX1_worthMet_3 : decode cX1_worthMet 3 = .ok (.istore_n 3, 1) := by decide +kernel
theorem dX1_worthMet_4 : decode cX1_worthMet 4 = .ok (.iload_n 3, 1) := by decide +kernel
theorem dX1_worthMet_5 : decode cX1_worthMet 5 = .ok (.aload_n 0, 1) := by decide +kernel
theorem dX1_worthMet_6 : decode cX1_worthMet 6 = .ok (.getfield 27, 3) := by decide +kernel
theorem dX1_worthMet_9 : decode cX1_worthMet 9 = .ok (.if_icmp .ge 46, 3) := by decide +kernel
theorem dX1_worthMet_12 : decode cX1_worthMet 12 = .ok (.aload_n 0, 1) := by decide +kernel
theorem dX1_worthMet_13 : decode cX1_worthMet 13 = .ok (.getfield 11, 3) := by decide +kernel
theorem dX1_worthMet_16 : decode cX1_worthMet 16 = .ok (.iload_n 3, 1) := by decide +kernel
theorem dX1_worthMet_17 : decode cX1_worthMet 17 = .ok (.aaload, 1) := by decide +kernel
theorem dX1_worthMet_18 : decode cX1_worthMet 18 = .ok (.iload_n 1, 1) := by decide +kernel
theorem dX1_worthMet_19 : decode cX1_worthMet 19 = .ok (.iload_n 3, 1) := by decide +kernel
theorem dX1_worthMet_20 : decode cX1_worthMet 20 = .ok (.ishr, 1) := by decide +kernel
theorem dX1_worthMet_21 : decode cX1_worthMet 21 = .ok (.iconst 1, 1) := by decide +kernel
theorem dX1_worthMet_22 : decode cX1_worthMet 22 = .ok (.iand, 1) := by decide +kernel
theorem dX1_worthMet_23 : decode cX1_worthMet 23 = .ok (.ifCond .eq 7, 3) := by decide +kernel
theorem dX1_worthMet_26 : decode cX1_worthMet 26 = .ok (.iconst 1, 1) := by decide +kernel
theorem dX1_worthMet_27 : decode cX1_worthMet 27 = .ok (.goto 4, 3) := by decide +kernel
theorem dX1_worthMet_30 : decode cX1_worthMet 30 = .ok (.iconst 0, 1) := by decide +kernel
theorem dX1_worthMet_31 : decode cX1_worthMet 31 = .ok (.invokevirtual 155, 3) := by decide +kernel
theorem dX1_worthMet_34 : decode cX1_worthMet 34 = .ok (.ifCond .eq 15, 3) := by decide +kernel
theorem dX1_worthMet_37 : decode cX1_worthMet 37 = .ok (.iload_n 2, 1) := by decide +kernel
theorem dX1_worthMet_38 : decode cX1_worthMet 38 = .ok (.aload_n 0, 1) := by decide +kernel
theorem dX1_worthMet_39 : decode cX1_worthMet 39 = .ok (.getfield 11, 3) := by decide +kernel
theorem dX1_worthMet_42 : decode cX1_worthMet 42 = .ok (.iload_n 3, 1) := by decide +kernel
theorem dX1_worthMet_43 : decode cX1_worthMet 43 = .ok (.aaload, 1) := by decide +kernel
theorem dX1_worthMet_44 : decode cX1_worthMet 44 = .ok (.getfield 76, 3) := by decide +kernel
theorem dX1_worthMet_47 : decode cX1_worthMet 47 = .ok (.iadd, 1) := by decide +kernel
theorem dX1_worthMet_48 : decode cX1_worthMet 48 = .ok (.istore_n 2, 1) := by decide +kernel
theorem dX1_worthMet_49 : decode cX1_worthMet 49 = .ok (.iinc 3 1, 3) := by decide +kernel
theorem dX1_worthMet_52 : decode cX1_worthMet 52 = .ok (.goto (-48), 3) := by decide +kernel
theorem dX1_worthMet_55 : decode cX1_worthMet 55 = .ok (.iload_n 2, 1) := by decide +kernel
theorem dX1_worthMet_56 : decode cX1_worthMet 56 = .ok (.ireturn, 1) := by decide +kernel
theorem dX1_thingsToRunFor_0 : decode cX1_thingsToRunFor 0 = .ok (.iconst 0, 1) := by decide +kernel
theorem dX1_thingsToRunFor_1 : decode cX1_thingsToRunFor 1 = .ok (.istore_n 2, 1) := by decide +kernel
theorem dX1_thingsToRunFor_2 : decode cX1_thingsToRunFor 2 = .ok (.iconst 0, 1) := by decide +kernel
theorem dX1_thingsToRunFor_3 : decode cX1_thingsToRunFor 3 = .ok (.istore_n 3, 1) := by decide +kernel
theorem dX1_thingsToRunFor_4 : decode cX1_thingsToRunFor 4 = .ok (.iload_n 3, 1) := by decide +kernel
theorem dX1_thingsToRunFor_5 : decode cX1_thingsToRunFor 5 = .ok (.iload_n 1, 1) := by decide +kernel
theorem dX1_thingsToRunFor_6 : decode cX1_thingsToRunFor 6 = .ok (.if_icmp .ge 29, 3) := by decide +kernel
theorem dX1_thingsToRunFor_9 : decode cX1_thingsToRunFor 9 = .ok (.aload_n 0, 1) := by decide +kernel
theorem dX1_thingsToRunFor_10 : decode cX1_thingsToRunFor 10 = .ok (.iload_n 2, 1) := by decide +kernel
theorem dX1_thingsToRunFor_11 : decode cX1_thingsToRunFor 11 = .ok (.invokevirtual 159, 3) := by decide +kernel
theorem dX1_thingsToRunFor_14 : decode cX1_thingsToRunFor 14 = .ok (.istore 4, 2) := by decide +kernel
theorem dX1_thingsToRunFor_16 : decode cX1_thingsToRunFor 16 = .ok (.iload 4, 2) := by decide +kernel
theorem dX1_thingsToRunFor_18 : decode cX1_thingsToRunFor 18 = .ok (.iconst (-1), 1) := by decide +kernel
theorem dX1_thingsToRunFor_19 : decode cX1_thingsToRunFor 19 = .ok (.if_icmp .eq 10, 3) := by decide +kernel
theorem dX1_thingsToRunFor_22 : decode cX1_thingsToRunFor 22 = .ok (.iload_n 2, 1) := by decide +kernel
theorem dX1_thingsToRunFor_23 : decode cX1_thingsToRunFor 23 = .ok (.iconst 1, 1) := by decide +kernel
theorem dX1_thingsToRunFor_24 : decode cX1_thingsToRunFor 24 = .ok (.iload 4, 2) := by decide +kernel
theorem dX1_thingsToRunFor_26 : decode cX1_thingsToRunFor 26 = .ok (.ishl, 1) := by decide +kernel
theorem dX1_thingsToRunFor_27 : decode cX1_thingsToRunFor 27 = .ok (.ior, 1) := by decide +kernel
theorem dX1_thingsToRunFor_28 : decode cX1_thingsToRunFor 28 = .ok (.istore_n 2, 1) := by decide +kernel
theorem dX1_thingsToRunFor_29 : decode cX1_thingsToRunFor 29 = .ok (.iinc 3 1, 3) := by decide +kernel
theorem dX1_thingsToRunFor_32 : decode cX1_thingsToRunFor 32 = .ok (.goto (-28), 3) := by decide +kernel
theorem dX1_thingsToRunFor_35 : decode cX1_thingsToRunFor 35 = .ok (.iload_n 2, 1) := by decide +kernel
theorem dX1_thingsToRunFor_36 : decode cX1_thingsToRunFor 36 = .ok (.ireturn, 1) := by decide +kernel
theorem dX1_worthiestInNeed_0 : decode cX1_worthiestInNeed 0 = .ok (.iconst (-1), 1) := by decide +kernel
theorem dX1_worthiestInNeed_1 : decode cX1_worthiestInNeed 1 = .ok (.istore_n 2, 1) := by decide +kernel
theorem dX1_worthiestInNeed_2 : decode cX1_worthiestInNeed 2 = .ok (.iconst 0, 1) := by decide +kernel
theorem dX1_worthiestInNeed_3 : decode cX1_worthiestInNeed 3 = .ok (.istore_n 3, 1) := by decide +kernel
theorem dX1_worthiestInNeed_4 : decode cX1_worthiestInNeed 4 = .ok (.iconst 0, 1) := by decide +kernel
theorem dX1_worthiestInNeed_5 : decode cX1_worthiestInNeed 5 = .ok (.istore 4, 2) := by decide +kernel
theorem dX1_worthiestInNeed_7 : decode cX1_worthiestInNeed 7 = .ok (.iload 4, 2) := by decide +kernel
theorem dX1_worthiestInNeed_9 : decode cX1_worthiestInNeed 9 = .ok (.aload_n 0, 1) := by decide +kernel
theorem dX1_worthiestInNeed_10 : decode cX1_worthiestInNeed 10 = .ok (.getfield 27, 3) := by decide +kernel
theorem dX1_worthiestInNeed_13 : decode cX1_worthiestInNeed 13 = .ok (.if_icmp .ge 71, 3) := by decide +kernel
theorem dX1_worthiestInNeed_16 : decode cX1_worthiestInNeed 16 = .ok (.iload_n 1, 1) := by decide +kernel
theorem dX1_worthiestInNeed_17 : decode cX1_worthiestInNeed 17 = .ok (.iload 4, 2) := by decide +kernel
theorem dX1_worthiestInNeed_19 : decode cX1_worthiestInNeed 19 = .ok (.ishr, 1) := by decide +kernel
theorem dX1_worthiestInNeed_20 : decode cX1_worthiestInNeed 20 = .ok (.iconst 1, 1) := by decide +kernel
theorem dX1_worthiestInNeed_21 : decode cX1_worthiestInNeed 21 = .ok (.iand, 1) := by decide +kernel
theorem dX1_worthiestInNeed_22 : decode cX1_worthiestInNeed 22 = .ok (.ifCond .ne 20, 3) := by decide +kernel
theorem dX1_worthiestInNeed_25 : decode cX1_worthiestInNeed 25 = .ok (.aload_n 0, 1) := by decide +kernel
theorem dX1_worthiestInNeed_26 : decode cX1_worthiestInNeed 26 = .ok (.getfield 11, 3) := by decide +kernel
theorem dX1_worthiestInNeed_29 : decode cX1_worthiestInNeed 29 = .ok (.iload 4, 2) := by decide +kernel
theorem dX1_worthiestInNeed_31 : decode cX1_worthiestInNeed 31 = .ok (.aaload, 1) := by decide +kernel
theorem dX1_worthiestInNeed_32 : decode cX1_worthiestInNeed 32 = .ok (.invokevirtual 162, 3) := by decide +kernel
theorem dX1_worthiestInNeed_35 : decode cX1_worthiestInNeed 35 = .ok (.ifCond .eq 7, 3) := by decide +kernel
theorem dX1_worthiestInNeed_38 : decode cX1_worthiestInNeed 38 = .ok (.iconst 1, 1) := by decide +kernel
theorem dX1_worthiestInNeed_39 : decode cX1_worthiestInNeed 39 = .ok (.goto 4, 3) := by decide +kernel
theorem dX1_worthiestInNeed_42 : decode cX1_worthiestInNeed 42 = .ok (.iconst 0, 1) := by decide +kernel
theorem dX1_worthiestInNeed_43 : decode cX1_worthiestInNeed 43 = .ok (.istore 5, 2) := by decide +kernel
theorem dX1_worthiestInNeed_45 : decode cX1_worthiestInNeed 45 = .ok (.iload 5, 2) := by decide +kernel
theorem dX1_worthiestInNeed_47 : decode cX1_worthiestInNeed 47 = .ok (.ifCond .eq 31, 3) := by decide +kernel
theorem dX1_worthiestInNeed_50 : decode cX1_worthiestInNeed 50 = .ok (.aload_n 0, 1) := by decide +kernel
theorem dX1_worthiestInNeed_51 : decode cX1_worthiestInNeed 51 = .ok (.getfield 11, 3) := by decide +kernel
theorem dX1_worthiestInNeed_54 : decode cX1_worthiestInNeed 54 = .ok (.iload 4, 2) := by decide +kernel
theorem dX1_worthiestInNeed_56 : decode cX1_worthiestInNeed 56 = .ok (.aaload, 1) := by decide +kernel
theorem dX1_worthiestInNeed_57 : decode cX1_worthiestInNeed 57 = .ok (.getfield 76, 3) := by decide +kernel
theorem dX1_worthiestInNeed_60 : decode cX1_worthiestInNeed 60 = .ok (.iload_n 3, 1) := by decide +kernel
theorem dX1_worthiestInNeed_61 : decode cX1_worthiestInNeed 61 = .ok (.if_icmp .le 17, 3) := by decide +kernel
theorem dX1_worthiestInNeed_64 : decode cX1_worthiestInNeed 64 = .ok (.aload_n 0, 1) := by decide +kernel
theorem dX1_worthiestInNeed_65 : decode cX1_worthiestInNeed 65 = .ok (.getfield 11, 3) := by decide +kernel
theorem dX1_worthiestInNeed_68 : decode cX1_worthiestInNeed 68 = .ok (.iload 4, 2) := by decide +kernel
theorem dX1_worthiestInNeed_70 : decode cX1_worthiestInNeed 70 = .ok (.aaload, 1) := by decide +kernel
theorem dX1_worthiestInNeed_71 : decode cX1_worthiestInNeed 71 = .ok (.getfield 76, 3) := by decide +kernel
theorem dX1_worthiestInNeed_74 : decode cX1_worthiestInNeed 74 = .ok (.istore_n 3, 1) := by decide +kernel
theorem dX1_worthiestInNeed_75 : decode cX1_worthiestInNeed 75 = .ok (.iload 4, 2) := by decide +kernel
theorem dX1_worthiestInNeed_77 : decode cX1_worthiestInNeed 77 = .ok (.istore_n 2, 1) := by decide +kernel
theorem dX1_worthiestInNeed_78 : decode cX1_worthiestInNeed 78 = .ok (.iinc 4 1, 3) := by decide +kernel
theorem dX1_worthiestInNeed_81 : decode cX1_worthiestInNeed 81 = .ok (.goto (-74), 3) := by decide +kernel
theorem dX1_worthiestInNeed_84 : decode cX1_worthiestInNeed 84 = .ok (.iload_n 2, 1) := by decide +kernel
theorem dX1_worthiestInNeed_85 : decode cX1_worthiestInNeed 85 = .ok (.ireturn, 1) := by decide +kernel
theorem dX1_thingsIn_0 : decode cX1_thingsIn 0 = .ok (.iconst 0, 1) := by decide +kernel
theorem dX1_thingsIn_1 : decode cX1_thingsIn 1 = .ok (.istore_n 2, 1) := by decide +kernel
theorem dX1_thingsIn_2 : decode cX1_thingsIn 2 = .ok (.iconst 0, 1) := by decide +kernel
theorem dX1_thingsIn_3 : decode cX1_thingsIn 3 = .ok (.istore_n 3, 1) := by decide +kernel
theorem dX1_thingsIn_4 : decode cX1_thingsIn 4 = .ok (.iload_n 3, 1) := by decide +kernel
theorem dX1_thingsIn_5 : decode cX1_thingsIn 5 = .ok (.aload_n 0, 1) := by decide +kernel
theorem dX1_thingsIn_6 : decode cX1_thingsIn 6 = .ok (.getfield 27, 3) := by decide +kernel
theorem dX1_thingsIn_9 : decode cX1_thingsIn 9 = .ok (.if_icmp .ge 28, 3) := by decide +kernel
theorem dX1_thingsIn_12 : decode cX1_thingsIn 12 = .ok (.aload_n 0, 1) := by decide +kernel
theorem dX1_thingsIn_13 : decode cX1_thingsIn 13 = .ok (.getfield 11, 3) := by decide +kernel
theorem dX1_thingsIn_16 : decode cX1_thingsIn 16 = .ok (.iload_n 3, 1) := by decide +kernel
theorem dX1_thingsIn_17 : decode cX1_thingsIn 17 = .ok (.aaload, 1) := by decide +kernel
theorem dX1_thingsIn_18 : decode cX1_thingsIn 18 = .ok (.iload_n 1, 1) := by decide +kernel
theorem dX1_thingsIn_19 : decode cX1_thingsIn 19 = .ok (.invokevirtual 165, 3) := by decide +kernel
theorem dX1_thingsIn_22 : decode cX1_thingsIn 22 = .ok (.ifCond .eq 9, 3) := by decide +kernel
theorem dX1_thingsIn_25 : decode cX1_thingsIn 25 = .ok (.iload_n 2, 1) := by decide +kernel
theorem dX1_thingsIn_26 : decode cX1_thingsIn 26 = .ok (.iconst 1, 1) := by decide +kernel
theorem dX1_thingsIn_27 : decode cX1_thingsIn 27 = .ok (.iload_n 3, 1) := by decide +kernel
theorem dX1_thingsIn_28 : decode cX1_thingsIn 28 = .ok (.ishl, 1) := by decide +kernel
theorem dX1_thingsIn_29 : decode cX1_thingsIn 29 = .ok (.ior, 1) := by decide +kernel
theorem dX1_thingsIn_30 : decode cX1_thingsIn 30 = .ok (.istore_n 2, 1) := by decide +kernel
theorem dX1_thingsIn_31 : decode cX1_thingsIn 31 = .ok (.iinc 3 1, 3) := by decide +kernel
theorem dX1_thingsIn_34 : decode cX1_thingsIn 34 = .ok (.goto (-30), 3) := by decide +kernel
theorem dX1_thingsIn_37 : decode cX1_thingsIn 37 = .ok (.iload_n 2, 1) := by decide +kernel
theorem dX1_thingsIn_38 : decode cX1_thingsIn 38 = .ok (.ireturn, 1) := by decide +kernel
theorem dX1_fullestQuarter_0 : decode cX1_fullestQuarter 0 = .ok (.iconst 0, 1) := by decide +kernel
theorem dX1_fullestQuarter_1 : decode cX1_fullestQuarter 1 = .ok (.istore_n 1, 1) := by decide +kernel
theorem dX1_fullestQuarter_2 : decode cX1_fullestQuarter 2 = .ok (.iconst 0, 1) := by decide +kernel
theorem dX1_fullestQuarter_3 : decode cX1_fullestQuarter 3 = .ok (.istore_n 2, 1) := by decide +kernel
theorem dX1_fullestQuarter_4 : decode cX1_fullestQuarter 4 = .ok (.iconst 0, 1) := by decide +kernel
theorem dX1_fullestQuarter_5 : decode cX1_fullestQuarter 5 = .ok (.istore_n 3, 1) := by decide +kernel
theorem dX1_fullestQuarter_6 : decode cX1_fullestQuarter 6 = .ok (.iload_n 3, 1) := by decide +kernel
theorem dX1_fullestQuarter_7 : decode cX1_fullestQuarter 7 = .ok (.bipush 23, 2) := by decide +kernel
theorem dX1_fullestQuarter_9 : decode cX1_fullestQuarter 9 = .ok (.if_icmp .gt 30, 3) := by decide +kernel
theorem dX1_fullestQuarter_12 : decode cX1_fullestQuarter 12 = .ok (.aload_n 0, 1) := by decide +kernel
theorem dX1_fullestQuarter_13 : decode cX1_fullestQuarter 13 = .ok (.iload_n 3, 1) := by decide +kernel
theorem dX1_fullestQuarter_14 : decode cX1_fullestQuarter 14 = .ok (.invokevirtual 169, 3) := by decide +kernel
theorem dX1_fullestQuarter_17 : decode cX1_fullestQuarter 17 = .ok (.invokestatic 147, 3) := by decide +kernel
theorem dX1_fullestQuarter_20 : decode cX1_fullestQuarter 20 = .ok (.istore 4, 2) := by decide +kernel
theorem dX1_fullestQuarter_22 : decode cX1_fullestQuarter 22 = .ok (.iload 4, 2) := by decide +kernel
theorem dX1_fullestQuarter_24 : decode cX1_fullestQuarter 24 = .ok (.iload_n 2, 1) := by decide +kernel
theorem dX1_fullestQuarter_25 : decode cX1_fullestQuarter 25 = .ok (.if_icmp .le 8, 3) := by decide +kernel
theorem dX1_fullestQuarter_28 : decode cX1_fullestQuarter 28 = .ok (.iload 4, 2) := by decide +kernel
theorem dX1_fullestQuarter_30 : decode cX1_fullestQuarter 30 = .ok (.istore_n 2, 1) := by decide +kernel
theorem dX1_fullestQuarter_31 : decode cX1_fullestQuarter 31 = .ok (.iload_n 3, 1) := by decide +kernel
theorem dX1_fullestQuarter_32 : decode cX1_fullestQuarter 32 = .ok (.istore_n 1, 1) := by decide +kernel
theorem dX1_fullestQuarter_33 : decode cX1_fullestQuarter 33 = .ok (.iinc 3 1, 3) := by decide +kernel
theorem dX1_fullestQuarter_36 : decode cX1_fullestQuarter 36 = .ok (.goto (-30), 3) := by decide +kernel
theorem dX1_fullestQuarter_39 : decode cX1_fullestQuarter 39 = .ok (.iload_n 1, 1) := by decide +kernel
theorem dX1_fullestQuarter_40 : decode cX1_fullestQuarter 40 = .ok (.ireturn, 1) := by decide +kernel
theorem dX1_mayBeTold_0 : decode cX1_mayBeTold 0 = .ok (.iload_n 1, 1) := by decide +kernel
theorem dX1_mayBeTold_1 : decode cX1_mayBeTold 1 = .ok (.ifCond .ge 5, 3) := by decide +kernel
theorem dX1_mayBeTold_4 : decode cX1_mayBeTold 4 = .ok (.iconst 0, 1) := by decide +kernel
theorem dX1_mayBeTold_5 : decode cX1_mayBeTold 5 = .ok (.ireturn, 1) := by decide +kernel
theorem dX1_mayBeTold_6 : decode cX1_mayBeTold 6 = .ok (.iload_n 1, 1) := by decide +kernel
theorem dX1_mayBeTold_7 : decode cX1_mayBeTold 7 = .ok (.bipush 100, 2) := by decide +kernel
theorem dX1_mayBeTold_9 : decode cX1_mayBeTold 9 = .ok (.idiv, 1) := by decide +kernel
theorem dX1_mayBeTold_10 : decode cX1_mayBeTold 10 = .ok (.istore_n 2, 1) := by decide +kernel
theorem dX1_mayBeTold_11 : decode cX1_mayBeTold 11 = .ok (.aload_n 0, 1) := by decide +kernel
theorem dX1_mayBeTold_12 : decode cX1_mayBeTold 12 = .ok (.iload_n 2, 1) := by decide +kernel
theorem dX1_mayBeTold_13 : decode cX1_mayBeTold 13 = .ok (.invokevirtual 172, 3) := by decide +kernel
theorem dX1_mayBeTold_16 : decode cX1_mayBeTold 16 = .ok (.ifCond .eq 23, 3) := by decide +kernel
theorem dX1_mayBeTold_19 : decode cX1_mayBeTold 19 = .ok (.aload_n 0, 1) := by decide +kernel
theorem dX1_mayBeTold_20 : decode cX1_mayBeTold 20 = .ok (.getfield 11, 3) := by decide +kernel
theorem dX1_mayBeTold_23 : decode cX1_mayBeTold 23 = .ok (.iload_n 2, 1) := by decide +kernel
theorem dX1_mayBeTold_24 : decode cX1_mayBeTold 24 = .ok (.aaload, 1) := by decide +kernel
theorem dX1_mayBeTold_25 : decode cX1_mayBeTold 25 = .ok (.iload_n 1, 1) := by decide +kernel
theorem dX1_mayBeTold_26 : decode cX1_mayBeTold 26 = .ok (.bipush 100, 2) := by decide +kernel
theorem dX1_mayBeTold_28 : decode cX1_mayBeTold 28 = .ok (.irem, 1) := by decide +kernel
theorem dX1_mayBeTold_29 : decode cX1_mayBeTold 29 = .ok (.invokevirtual 175, 3) := by decide +kernel
theorem dX1_mayBeTold_32 : decode cX1_mayBeTold 32 = .ok (.ifCond .eq 7, 3) := by decide +kernel
theorem dX1_mayBeTold_35 : decode cX1_mayBeTold 35 = .ok (.iconst 1, 1) := by decide +kernel
theorem dX1_mayBeTold_36 : decode cX1_mayBeTold 36 = .ok (.goto 4, 3) := by decide +kernel
theorem dX1_mayBeTold_39 : decode cX1_mayBeTold 39 = .ok (.iconst 0, 1) := by decide +kernel
theorem dX1_mayBeTold_40 : decode cX1_mayBeTold 40 = .ok (.ireturn, 1) := by decide +kernel
theorem dX1_isMetAsTold_0 : decode cX1_isMetAsTold 0 = .ok (.aload_n 0, 1) := by decide +kernel
theorem dX1_isMetAsTold_1 : decode cX1_isMetAsTold 1 = .ok (.iload_n 1, 1) := by decide +kernel
theorem dX1_isMetAsTold_2 : decode cX1_isMetAsTold 2 = .ok (.invokevirtual 178, 3) := by decide +kernel
theorem dX1_isMetAsTold_5 : decode cX1_isMetAsTold 5 = .ok (.ifCond .eq 32, 3) := by decide +kernel
theorem dX1_isMetAsTold_8 : decode cX1_isMetAsTold 8 = .ok (.iload_n 1, 1) := by decide +kernel
theorem dX1_isMetAsTold_9 : decode cX1_isMetAsTold 9 = .ok (.bipush 100, 2) := by decide +kernel
theorem dX1_isMetAsTold_11 : decode cX1_isMetAsTold 11 = .ok (.irem, 1) := by decide +kernel
theorem dX1_isMetAsTold_12 : decode cX1_isMetAsTold 12 = .ok (.bipush 99, 2) := by decide +kernel
theorem dX1_isMetAsTold_14 : decode cX1_isMetAsTold 14 = .ok (.if_icmp .eq 23, 3) := by decide +kernel
theorem dX1_isMetAsTold_17 : decode cX1_isMetAsTold 17 = .ok (.aload_n 0, 1) := by decide +kernel
theorem dX1_isMetAsTold_18 : decode cX1_isMetAsTold 18 = .ok (.getfield 11, 3) := by decide +kernel
theorem dX1_isMetAsTold_21 : decode cX1_isMetAsTold 21 = .ok (.iload_n 1, 1) := by decide +kernel
theorem dX1_isMetAsTold_22 : decode cX1_isMetAsTold 22 = .ok (.bipush 100, 2) := by decide +kernel
theorem dX1_isMetAsTold_24 : decode cX1_isMetAsTold 24 = .ok (.idiv, 1) := by decide +kernel
theorem dX1_isMetAsTold_25 : decode cX1_isMetAsTold 25 = .ok (.aaload, 1) := by decide +kernel
theorem dX1_isMetAsTold_26 : decode cX1_isMetAsTold 26 = .ok (.iconst 0, 1) := by decide +kernel
theorem dX1_isMetAsTold_27 : decode cX1_isMetAsTold 27 = .ok (.invokevirtual 155, 3) := by decide +kernel
theorem dX1_isMetAsTold_30 : decode cX1_isMetAsTold 30 = .ok (.ifCond .eq 7, 3) := by decide +kernel
theorem dX1_isMetAsTold_33 : decode cX1_isMetAsTold 33 = .ok (.iconst 1, 1) := by decide +kernel
theorem dX1_isMetAsTold_34 : decode cX1_isMetAsTold 34 = .ok (.goto 4, 3) := by decide +kernel
theorem dX1_isMetAsTold_37 : decode cX1_isMetAsTold 37 = .ok (.iconst 0, 1) := by decide +kernel
theorem dX1_isMetAsTold_38 : decode cX1_isMetAsTold 38 = .ok (.ireturn, 1) := by decide +kernel
theorem dX1_worthAsTold_0 : decode cX1_worthAsTold 0 = .ok (.aload_n 0, 1) := by decide +kernel
theorem dX1_worthAsTold_1 : decode cX1_worthAsTold 1 = .ok (.iload_n 1, 1) := by decide +kernel
theorem dX1_worthAsTold_2 : decode cX1_worthAsTold 2 = .ok (.invokevirtual 178, 3) := by decide +kernel
theorem dX1_worthAsTold_5 : decode cX1_worthAsTold 5 = .ok (.ifCond .eq 18, 3) := by decide +kernel
theorem dX1_worthAsTold_8 : decode cX1_worthAsTold 8 = .ok (.aload_n 0, 1) := by decide +kernel
theorem dX1_worthAsTold_9 : decode cX1_worthAsTold 9 = .ok (.getfield 11, 3) := by decide +kernel
theorem dX1_worthAsTold_12 : decode cX1_worthAsTold 12 = .ok (.iload_n 1, 1) := by decide +kernel
theorem dX1_worthAsTold_13 : decode cX1_worthAsTold 13 = .ok (.bipush 100, 2) := by decide +kernel
theorem dX1_worthAsTold_15 : decode cX1_worthAsTold 15 = .ok (.idiv, 1) := by decide +kernel
theorem dX1_worthAsTold_16 : decode cX1_worthAsTold 16 = .ok (.aaload, 1) := by decide +kernel
theorem dX1_worthAsTold_17 : decode cX1_worthAsTold 17 = .ok (.getfield 76, 3) := by decide +kernel
theorem dX1_worthAsTold_20 : decode cX1_worthAsTold 20 = .ok (.goto 4, 3) := by decide +kernel
theorem dX1_worthAsTold_23 : decode cX1_worthAsTold 23 = .ok (.iconst 0, 1) := by decide +kernel
theorem dX1_worthAsTold_24 : decode cX1_worthAsTold 24 = .ok (.ireturn, 1) := by decide +kernel
theorem dX1_passDay_0 : decode cX1_passDay 0 = .ok (.iconst 0, 1) := by decide +kernel
theorem dX1_passDay_1 : decode cX1_passDay 1 = .ok (.istore_n 1, 1) := by decide +kernel
theorem dX1_passDay_2 : decode cX1_passDay 2 = .ok (.iload_n 1, 1) := by decide +kernel
theorem dX1_passDay_3 : decode cX1_passDay 3 = .ok (.aload_n 0, 1) := by decide +kernel
theorem dX1_passDay_4 : decode cX1_passDay 4 = .ok (.getfield 27, 3) := by decide +kernel
theorem dX1_passDay_7 : decode cX1_passDay 7 = .ok (.if_icmp .ge 59, 3) := by decide +kernel
theorem dX1_passDay_10 : decode cX1_passDay 10 = .ok (.aload_n 0, 1) := by decide +kernel
theorem dX1_passDay_11 : decode cX1_passDay 11 = .ok (.getfield 11, 3) := by decide +kernel
theorem dX1_passDay_14 : decode cX1_passDay 14 = .ok (.iload_n 1, 1) := by decide +kernel
theorem dX1_passDay_15 : decode cX1_passDay 15 = .ok (.aaload, 1) := by decide +kernel
theorem dX1_passDay_16 : decode cX1_passDay 16 = .ok (.astore_n 2, 1) := by decide +kernel
theorem dX1_passDay_17 : decode cX1_passDay 17 = .ok (.aload_n 2, 1) := by decide +kernel
theorem dX1_passDay_18 : decode cX1_passDay 18 = .ok (.getfield 67, 3) := by decide +kernel
theorem dX1_passDay_21 : decode cX1_passDay 21 = .ok (.aload_n 0, 1) := by decide +kernel
theorem dX1_passDay_22 : decode cX1_passDay 22 = .ok (.aload_n 2, 1) := by decide +kernel
theorem dX1_passDay_23 : decode cX1_passDay 23 = .ok (.invokevirtual 111, 3) := by decide +kernel
theorem dX1_passDay_26 : decode cX1_passDay 26 = .ok (.invokevirtual 181, 3) := by decide +kernel
theorem dX1_passDay_29 : decode cX1_passDay 29 = .ok (.iadd, 1) := by decide +kernel
theorem dX1_passDay_30 : decode cX1_passDay 30 = .ok (.istore_n 3, 1) := by decide +kernel
theorem dX1_passDay_31 : decode cX1_passDay 31 = .ok (.aload_n 2, 1) := by decide +kernel
theorem dX1_passDay_32 : decode cX1_passDay 32 = .ok (.iload_n 3, 1) := by decide +kernel
theorem dX1_passDay_33 : decode cX1_passDay 33 = .ok (.invokevirtual 165, 3) := by decide +kernel
theorem dX1_passDay_36 : decode cX1_passDay 36 = .ok (.ifCond .eq 24, 3) := by decide +kernel
theorem dX1_passDay_39 : decode cX1_passDay 39 = .ok (.aload_n 2, 1) := by decide +kernel
theorem dX1_passDay_40 : decode cX1_passDay 40 = .ok (.iconst 0, 1) := by decide +kernel
theorem dX1_passDay_41 : decode cX1_passDay 41 = .ok (.invokevirtual 155, 3) := by decide +kernel
theorem dX1_passDay_44 : decode cX1_passDay 44 = .ok (.ifCond .eq 16, 3) := by decide +kernel
theorem dX1_passDay_47 : decode cX1_passDay 47 = .ok (.aload_n 0, 1) := by decide +kernel
theorem dX1_passDay_48 : decode cX1_passDay 48 = .ok (.dup, 1) := by decide +kernel
theorem dX1_passDay_49 : decode cX1_passDay 49 = .ok (.getfield 40, 3) := by decide +kernel
theorem dX1_passDay_52 : decode cX1_passDay 52 = .ok (.aload_n 2, 1) := by decide +kernel
theorem dX1_passDay_53 : decode cX1_passDay 53 = .ok (.getfield 76, 3) := by decide +kernel
theorem dX1_passDay_56 : decode cX1_passDay 56 = .ok (.iadd, 1) := by decide +kernel
theorem dX1_passDay_57 : decode cX1_passDay 57 = .ok (.putfield 40, 3) := by decide +kernel
theorem dX1_passDay_60 : decode cX1_passDay 60 = .ok (.iinc 1 1, 3) := by decide +kernel
theorem dX1_passDay_63 : decode cX1_passDay 63 = .ok (.goto (-61), 3) := by decide +kernel
theorem dX1_passDay_66 : decode cX1_passDay 66 = .ok (.iconst 0, 1) := by decide +kernel
theorem dX1_passDay_67 : decode cX1_passDay 67 = .ok (.istore_n 1, 1) := by decide +kernel
theorem dX1_passDay_68 : decode cX1_passDay 68 = .ok (.iload_n 1, 1) := by decide +kernel
theorem dX1_passDay_69 : decode cX1_passDay 69 = .ok (.aload_n 0, 1) := by decide +kernel
theorem dX1_passDay_70 : decode cX1_passDay 70 = .ok (.getfield 31, 3) := by decide +kernel
theorem dX1_passDay_73 : decode cX1_passDay 73 = .ok (.if_icmp .ge 44, 3) := by decide +kernel
theorem dX1_passDay_76 : decode cX1_passDay 76 = .ok (.aload_n 0, 1) := by decide +kernel
theorem dX1_passDay_77 : decode cX1_passDay 77 = .ok (.dup, 1) := by decide +kernel
theorem dX1_passDay_78 : decode cX1_passDay 78 = .ok (.getfield 43, 3) := by decide +kernel
theorem dX1_passDay_81 : decode cX1_passDay 81 = .ok (.aload_n 0, 1) := by decide +kernel
theorem dX1_passDay_82 : decode cX1_passDay 82 = .ok (.getfield 19, 3) := by decide +kernel
theorem dX1_passDay_85 : decode cX1_passDay 85 = .ok (.iload_n 1, 1) := by decide +kernel
theorem dX1_passDay_86 : decode cX1_passDay 86 = .ok (.aaload, 1) := by decide +kernel
theorem dX1_passDay_87 : decode cX1_passDay 87 = .ok (.aload_n 0, 1) := by decide +kernel
theorem dX1_passDay_88 : decode cX1_passDay 88 = .ok (.getfield 19, 3) := by decide +kernel
theorem dX1_passDay_91 : decode cX1_passDay 91 = .ok (.iload_n 1, 1) := by decide +kernel
theorem dX1_passDay_92 : decode cX1_passDay 92 = .ok (.aaload, 1) := by decide +kernel
theorem dX1_passDay_93 : decode cX1_passDay 93 = .ok (.aload_n 0, 1) := by decide +kernel
theorem dX1_passDay_94 : decode cX1_passDay 94 = .ok (.getfield 34, 3) := by decide +kernel
theorem dX1_passDay_97 : decode cX1_passDay 97 = .ok (.invokevirtual 115, 3) := by decide +kernel
theorem dX1_passDay_100 : decode cX1_passDay 100 = .ok (.aload_n 0, 1) := by decide +kernel
theorem dX1_passDay_101 : decode cX1_passDay 101 = .ok (.getfield 34, 3) := by decide +kernel
theorem dX1_passDay_104 : decode cX1_passDay 104 = .ok (.invokevirtual 103, 3) := by decide +kernel
theorem dX1_passDay_107 : decode cX1_passDay 107 = .ok (.iadd, 1) := by decide +kernel
theorem dX1_passDay_108 : decode cX1_passDay 108 = .ok (.putfield 43, 3) := by decide +kernel
theorem dX1_passDay_111 : decode cX1_passDay 111 = .ok (.iinc 1 1, 3) := by decide +kernel
theorem dX1_passDay_114 : decode cX1_passDay 114 = .ok (.goto (-46), 3) := by decide +kernel
theorem dX1_passDay_117 : decode cX1_passDay 117 = .ok (.aload_n 0, 1) := by decide +kernel
theorem dX1_passDay_118 : decode cX1_passDay 118 = .ok (.dup, 1) := by decide +kernel
theorem dX1_passDay_119 : decode cX1_passDay 119 = .ok (.getfield 37, 3) := by decide +kernel
theorem dX1_passDay_122 : decode cX1_passDay 122 = .ok (.iconst 1, 1) := by decide +kernel
theorem dX1_passDay_123 : decode cX1_passDay 123 = .ok (.iadd, 1) := by decide +kernel
theorem dX1_passDay_124 : decode cX1_passDay 124 = .ok (.putfield 37, 3) := by decide +kernel
theorem dX1_passDay_127 : decode cX1_passDay 127 = .ok (.return_, 1) := by decide +kernel
theorem dX1_draw_0 : decode cX1_draw 0 = .ok (.aload_n 0, 1) := by decide +kernel
theorem dX1_draw_1 : decode cX1_draw 1 = .ok (.aload_n 0, 1) := by decide +kernel
theorem dX1_draw_2 : decode cX1_draw 2 = .ok (.getfield 46, 3) := by decide +kernel
theorem dX1_draw_5 : decode cX1_draw 5 = .ok (.ldc 184, 2) := by decide +kernel
theorem dX1_draw_7 : decode cX1_draw 7 = .ok (.imul, 1) := by decide +kernel
theorem dX1_draw_8 : decode cX1_draw 8 = .ok (.sipush 12345, 3) := by decide +kernel
theorem dX1_draw_11 : decode cX1_draw 11 = .ok (.iadd, 1) := by decide +kernel
theorem dX1_draw_12 : decode cX1_draw 12 = .ok (.putfield 46, 3) := by decide +kernel
theorem dX1_draw_15 : decode cX1_draw 15 = .ok (.iload_n 1, 1) := by decide +kernel
theorem dX1_draw_16 : decode cX1_draw 16 = .ok (.ifCond .le 15, 3) := by decide +kernel
theorem dX1_draw_19 : decode cX1_draw 19 = .ok (.aload_n 0, 1) := by decide +kernel
theorem dX1_draw_20 : decode cX1_draw 20 = .ok (.getfield 46, 3) := by decide +kernel
theorem dX1_draw_23 : decode cX1_draw 23 = .ok (.bipush 16, 2) := by decide +kernel
theorem dX1_draw_25 : decode cX1_draw 25 = .ok (.iushr, 1) := by decide +kernel
theorem dX1_draw_26 : decode cX1_draw 26 = .ok (.iload_n 1, 1) := by decide +kernel
theorem dX1_draw_27 : decode cX1_draw 27 = .ok (.irem, 1) := by decide +kernel
theorem dX1_draw_28 : decode cX1_draw 28 = .ok (.goto 4, 3) := by decide +kernel
theorem dX1_draw_31 : decode cX1_draw 31 = .ok (.iconst 0, 1) := by decide +kernel
theorem dX1_draw_32 : decode cX1_draw 32 = .ok (.ireturn, 1) := by decide +kernel
theorem dX2_init_0 : decode cX2_init 0 = .ok (.aload_n 0, 1) := by decide +kernel
theorem dX2_init_1 : decode cX2_init 1 = .ok (.invokespecial 3, 3) := by decide +kernel
theorem dX2_init_4 : decode cX2_init 4 = .ok (.aload_n 0, 1) := by decide +kernel
theorem dX2_init_5 : decode cX2_init 5 = .ok (.new 9, 3) := by decide +kernel
theorem dX2_init_8 : decode cX2_init 8 = .ok (.dup, 1) := by decide +kernel
theorem dX2_init_9 : decode cX2_init 9 = .ok (.invokespecial 11, 3) := by decide +kernel
theorem dX2_init_12 : decode cX2_init 12 = .ok (.putfield 12, 3) := by decide +kernel
theorem dX2_init_15 : decode cX2_init 15 = .ok (.aload_n 0, 1) := by decide +kernel
theorem dX2_init_16 : decode cX2_init 16 = .ok (.iconst 0, 1) := by decide +kernel
theorem dX2_init_17 : decode cX2_init 17 = .ok (.putfield 18, 3) := by decide +kernel
theorem dX2_init_20 : decode cX2_init 20 = .ok (.aload_n 0, 1) := by decide +kernel
theorem dX2_init_21 : decode cX2_init 21 = .ok (.sipush 160, 3) := by decide +kernel
theorem dX2_init_24 : decode cX2_init 24 = .ok (.newarray .int, 2) := by decide +kernel
theorem dX2_init_26 : decode cX2_init 26 = .ok (.putfield 22, 3) := by decide +kernel
theorem dX2_init_29 : decode cX2_init 29 = .ok (.aload_n 0, 1) := by decide +kernel
theorem dX2_init_30 : decode cX2_init 30 = .ok (.iconst 0, 1) := by decide +kernel
theorem dX2_init_31 : decode cX2_init 31 = .ok (.putfield 26, 3) := by decide +kernel
theorem dX2_init_34 : decode cX2_init 34 = .ok (.aload_n 0, 1) := by decide +kernel
theorem dX2_init_35 : decode cX2_init 35 = .ok (.iconst 0, 1) := by decide +kernel
theorem dX2_init_36 : decode cX2_init 36 = .ok (.putfield 29, 3) := by decide +kernel
theorem dX2_init_39 : decode cX2_init 39 = .ok (.aload_n 0, 1) := by decide +kernel
theorem dX2_init_40 : decode cX2_init 40 = .ok (.iconst (-1), 1) := by decide +kernel
theorem dX2_init_41 : decode cX2_init 41 = .ok (.putfield 32, 3) := by decide +kernel
theorem dX2_init_44 : decode cX2_init 44 = .ok (.return_, 1) := by decide +kernel
theorem dX2_readFault_0 : decode cX2_readFault 0 = .ok (.aload_n 0, 1) := by decide +kernel
theorem dX2_readFault_1 : decode cX2_readFault 1 = .ok (.getfield 12, 3) := by decide +kernel
theorem dX2_readFault_4 : decode cX2_readFault 4 = .ok (.aload_n 2, 1) := by decide +kernel
theorem dX2_readFault_5 : decode cX2_readFault 5 = .ok (.invokevirtual 35, 3) := by decide +kernel
theorem dX2_readFault_8 : decode cX2_readFault 8 = .ok (.aload_n 0, 1) := by decide +kernel
theorem dX2_readFault_9 : decode cX2_readFault 9 = .ok (.iconst 0, 1) := by decide +kernel
theorem dX2_readFault_10 : decode cX2_readFault 10 = .ok (.putfield 18, 3) := by decide +kernel
theorem dX2_readFault_13 : decode cX2_readFault 13 = .ok (.aload_n 0, 1) := by decide +kernel
theorem dX2_readFault_14 : decode cX2_readFault 14 = .ok (.iconst 0, 1) := by decide +kernel
theorem dX2_readFault_15 : decode cX2_readFault 15 = .ok (.putfield 29, 3) := by decide +kernel
theorem dX2_readFault_18 : decode cX2_readFault 18 = .ok (.aload_n 0, 1) := by decide +kernel
theorem dX2_readFault_19 : decode cX2_readFault 19 = .ok (.iconst (-1), 1) := by decide +kernel
theorem dX2_readFault_20 : decode cX2_readFault 20 = .ok (.putfield 32, 3) := by decide +kernel
theorem dX2_readFault_23 : decode cX2_readFault 23 = .ok (.aload_n 0, 1) := by decide +kernel
theorem dX2_readFault_24 : decode cX2_readFault 24 = .ok (.aload_n 1, 1) := by decide +kernel
theorem dX2_readFault_25 : decode cX2_readFault 25 = .ok (.getfield 39, 3) := by decide +kernel
theorem dX2_readFault_28 : decode cX2_readFault 28 = .ok (.putfield 26, 3) := by decide +kernel
theorem dX2_readFault_31 : decode cX2_readFault 31 = .ok (.iconst 0, 1) := by decide +kernel
theorem dX2_readFault_32 : decode cX2_readFault 32 = .ok (.istore_n 3, 1) := by decide +kernel
theorem dX2_readFault_33 : decode cX2_readFault 33 = .ok (.iload_n 3, 1) := by decide +kernel
theorem dX2_readFault_34 : decode cX2_readFault 34 = .ok (.aload_n 0, 1) := by decide +kernel
theorem dX2_readFault_35 : decode cX2_readFault 35 = .ok (.getfield 26, 3) := by decide +kernel
theorem dX2_readFault_38 : decode cX2_readFault 38 = .ok (.if_icmp .ge 27, 3) := by decide +kernel
theorem dX2_readFault_41 : decode cX2_readFault 41 = .ok (.iload_n 3, 1) := by decide +kernel
theorem dX2_readFault_42 : decode cX2_readFault 42 = .ok (.sipush 160, 3) := by decide +kernel
theorem dX2_readFault_45 : decode cX2_readFault 45 = .ok (.if_icmp .ge 20, 3) := by decide +kernel
theorem dX2_readFault_48 : decode cX2_readFault 48 = .ok (.aload_n 0, 1) := by decide +kernel
theorem dX2_readFault_49 : decode cX2_readFault 49 = .ok (.getfield 22, 3) := by decide +kernel
theorem dX2_readFault_52 : decode cX2_readFault 52 = .ok (.iload_n 3, 1) := by decide +kernel
theorem dX2_readFault_53 : decode cX2_readFault 53 = .ok (.aload_n 1, 1) := by decide +kernel
theorem dX2_readFault_54 : decode cX2_readFault 54 = .ok (.iload_n 3, 1) := by decide +kernel
theorem dX2_readFault_55 : decode cX2_readFault 55 = .ok (.invokevirtual 42, 3) := by decide +kernel
theorem dX2_readFault_58 : decode cX2_readFault 58 = .ok (.iastore, 1) := by decide +kernel
theorem dX2_readFault_59 : decode cX2_readFault 59 = .ok (.iinc 3 1, 3) := by decide +kernel
theorem dX2_readFault_62 : decode cX2_readFault 62 = .ok (.goto (-29), 3) := by decide +kernel
theorem dX2_readFault_65 : decode cX2_readFault 65 = .ok (.aload_n 0, 1) := by decide +kernel
theorem dX2_readFault_66 : decode cX2_readFault 66 = .ok (.invokevirtual 46, 3) := by decide +kernel
theorem dX2_readFault_69 : decode cX2_readFault 69 = .ok (.iconst 0, 1) := by decide +kernel
theorem dX2_readFault_70 : decode cX2_readFault 70 = .ok (.istore_n 3, 1) := by decide +kernel
theorem dX2_readFault_71 : decode cX2_readFault 71 = .ok (.iload_n 3, 1) := by decide +kernel
theorem dX2_readFault_72 : decode cX2_readFault 72 = .ok (.sipush 160, 3) := by decide +kernel
theorem dX2_readFault_75 : decode cX2_readFault 75 = .ok (.if_icmp .ge 38, 3) := by decide +kernel
theorem dX2_readFault_78 : decode cX2_readFault 78 = .ok (.aload_n 0, 1) := by decide +kernel
theorem dX2_readFault_79 : decode cX2_readFault 79 = .ok (.getfield 32, 3) := by decide +kernel
theorem dX2_readFault_82 : decode cX2_readFault 82 = .ok (.iconst (-1), 1) := by decide +kernel
theorem dX2_readFault_83 : decode cX2_readFault 83 = .ok (.if_icmp .ne 30, 3) := by decide +kernel
theorem dX2_readFault_86 : decode cX2_readFault 86 = .ok (.aload_n 0, 1) := by decide +kernel
theorem dX2_readFault_87 : decode cX2_readFault 87 = .ok (.getfield 29, 3) := by decide +kernel
theorem dX2_readFault_90 : decode cX2_readFault 90 = .ok (.aload_n 0, 1) := by decide +kernel
theorem dX2_readFault_91 : decode cX2_readFault 91 = .ok (.getfield 26, 3) := by decide +kernel
theorem dX2_readFault_94 : decode cX2_readFault 94 = .ok (.if_icmp .ge 19, 3) := by decide +kernel
theorem dX2_readFault_97 : decode cX2_readFault 97 = .ok (.aload_n 0, 1) := by decide +kernel
theorem dX2_readFault_98 : decode cX2_readFault 98 = .ok (.bipush 59, 2) := by decide +kernel
theorem dX2_readFault_100 : decode cX2_readFault 100 = .ok (.invokevirtual 49, 3) := by decide +kernel
theorem dX2_readFault_103 : decode cX2_readFault 103 = .ok (.aload_n 0, 1) := by decide +kernel
theorem dX2_readFault_104 : decode cX2_readFault 104 = .ok (.invokevirtual 46, 3) := by decide +kernel
theorem dX2_readFault_107 : decode cX2_readFault 107 = .ok (.iinc 3 1, 3) := by decide +kernel
theorem dX2_readFault_110 : decode cX2_readFault 110 = .ok (.goto (-39), 3) := by decide +kernel
theorem dX2_readFault_113 : decode cX2_readFault 113 = .ok (.aload_n 0, 1) := by decide +kernel
theorem dX2_readFault_114 : decode cX2_readFault 114 = .ok (.getfield 32, 3) := by decide +kernel
theorem dX2_readFault_117 : decode cX2_readFault 117 = .ok (.ireturn, 1) := by decide +kernel
theorem dX2_readItem_0 : decode cX2_readItem 0 = .ok (.aload_n 0, 1) := by decide +kernel
theorem dX2_readItem_1 : decode cX2_readItem 1 = .ok (.getfield 32, 3) := by decide +kernel
theorem dX2_readItem_4 : decode cX2_readItem 4 = .ok (.iconst (-1), 1) := by decide +kernel
theorem dX2_readItem_5 : decode cX2_readItem 5 = .ok (.if_icmp .eq 4, 3) := by decide +kernel
theorem dX2_readItem_8 : decode cX2_readItem 8 = .ok (.return_, 1) := by decide +kernel
theorem dX2_readItem_9 : decode cX2_readItem 9 = .ok (.aload_n 0, 1) := by decide +kernel
theorem dX2_readItem_10 : decode cX2_readItem 10 = .ok (.dup, 1) := by decide +kernel
theorem dX2_readItem_11 : decode cX2_readItem 11 = .ok (.getfield 18, 3) := by decide +kernel
theorem dX2_readItem_14 : decode cX2_readItem 14 = .ok (.iconst 1, 1) := by decide +kernel
theorem dX2_readItem_15 : decode cX2_readItem 15 = .ok (.iadd, 1) := by decide +kernel
theorem dX2_readItem_16 : decode cX2_readItem 16 = .ok (.putfield 18, 3) := by decide +kernel
theorem dX2_readItem_19 : decode cX2_readItem 19 = .ok (.aload_n 0, 1) := by decide +kernel
theorem dX2_readItem_20 : decode cX2_readItem 20 = .ok (.invokevirtual 53, 3) := by decide +kernel
theorem dX2_readItem_23 : decode cX2_readItem 23 = .ok (.lookupswitch 69 #[(104, 62), (109, 55), (116, 41), (119, 48)], 41) := by decide +kernel
theorem dX2_readItem_64 : decode cX2_readItem 64 = .ok (.aload_n 0, 1) := by decide +kernel
theorem dX2_readItem_65 : decode cX2_readItem 65 = .ok (.invokevirtual 57, 3) := by decide +kernel
theorem dX2_readItem_68 : decode cX2_readItem 68 = .ok (.goto 33, 3) := by decide +kernel
theorem dX2_readItem_71 : decode cX2_readItem 71 = .ok (.aload_n 0, 1) := by decide +kernel
theorem dX2_readItem_72 : decode cX2_readItem 72 = .ok (.invokevirtual 60, 3) := by decide +kernel
theorem dX2_readItem_75 : decode cX2_readItem 75 = .ok (.goto 26, 3) := by decide +kernel
theorem dX2_readItem_78 : decode cX2_readItem 78 = .ok (.aload_n 0, 1) := by decide +kernel
theorem dX2_readItem_79 : decode cX2_readItem 79 = .ok (.invokevirtual 63, 3) := by decide +kernel
theorem dX2_readItem_82 : decode cX2_readItem 82 = .ok (.goto 19, 3) := by decide +kernel
theorem dX2_readItem_85 : decode cX2_readItem 85 = .ok (.aload_n 0, 1) := by decide +kernel
theorem dX2_readItem_86 : decode cX2_readItem 86 = .ok (.invokevirtual 66, 3) := by decide +kernel
theorem dX2_readItem_89 : decode cX2_readItem 89 = .ok (.goto 12, 3) := by decide +kernel
theorem dX2_readItem_92 : decode cX2_readItem 92 = .ok (.aload_n 0, 1) := by decide +kernel
theorem dX2_readItem_93 : decode cX2_readItem 93 = .ok (.aload_n 0, 1) := by decide +kernel
theorem dX2_readItem_94 : decode cX2_readItem 94 = .ok (.getfield 29, 3) := by decide +kernel
theorem dX2_readItem_97 : decode cX2_readItem 97 = .ok (.invokevirtual 69, 3) := by decide +kernel
theorem dX2_readItem_100 : decode cX2_readItem 100 = .ok (.pop, 1) := by decide +kernel
theorem dX2_readItem_101 : decode cX2_readItem 101 = .ok (.return_, 1) := by decide +kernel
theorem dX2_readThing_0 : decode cX2_readThing 0 = .ok (.aload_n 0, 1) := by decide +kernel
theorem dX2_readThing_1 : decode cX2_readThing 1 = .ok (.ldc 72, 2) := by decide +kernel
theorem dX2_readThing_3 : decode cX2_readThing 3 = .ok (.aload_n 0, 1) := by decide +kernel
theorem dX2_readThing_4 : decode cX2_readThing 4 = .ok (.getfield 12, 3) := by decide +kernel
theorem dX2_readThing_7 : decode cX2_readThing 7 = .ok (.invokevirtual 74, 3) := by decide +kernel
theorem dX2_readThing_10 : decode cX2_readThing 10 = .ok (.invokevirtual 78, 3) := by decide +kernel
theorem dX2_readThing_13 : decode cX2_readThing 13 = .ok (.aload_n 0, 1) := by decide +kernel
theorem dX2_readThing_14 : decode cX2_readThing 14 = .ok (.iconst 0, 1) := by decide +kernel
theorem dX2_readThing_15 : decode cX2_readThing 15 = .ok (.bipush 9, 2) := by decide +kernel
theorem dX2_readThing_17 : decode cX2_readThing 17 = .ok (.invokevirtual 82, 3) := by decide +kernel
theorem dX2_readThing_20 : decode cX2_readThing 20 = .ok (.istore_n 1, 1) := by decide +kernel
theorem dX2_readThing_21 : decode cX2_readThing 21 = .ok (.aload_n 0, 1) := by decide +kernel
theorem dX2_readThing_22 : decode cX2_readThing 22 = .ok (.iconst 0, 1) := by decide +kernel
theorem dX2_readThing_23 : decode cX2_readThing 23 = .ok (.bipush 23, 2) := by decide +kernel
theorem dX2_readThing_25 : decode cX2_readThing 25 = .ok (.invokevirtual 82, 3) := by decide +kernel
theorem dX2_readThing_28 : decode cX2_readThing 28 = .ok (.istore_n 2, 1) := by decide +kernel
theorem dX2_readThing_29 : decode cX2_readThing 29 = .ok (.aload_n 0, 1) := by decide +kernel
theorem dX2_readThing_30 : decode cX2_readThing 30 = .ok (.iload_n 2, 1) := by decide +kernel
theorem dX2_readThing_31 : decode cX2_readThing 31 = .ok (.bipush 23, 2) := by decide +kernel
theorem dX2_readThing_33 : decode cX2_readThing 33 = .ok (.invokevirtual 82, 3) := by decide +kernel
theorem dX2_readThing_36 : decode cX2_readThing 36 = .ok (.istore_n 3, 1) := by decide +kernel
theorem dX2_readThing_37 : decode cX2_readThing 37 = .ok (.aload_n 0, 1) := by decide +kernel
theorem dX2_readThing_38 : decode cX2_readThing 38 = .ok (.iconst 0, 1) := by decide +kernel
theorem dX2_readThing_39 : decode cX2_readThing 39 = .ok (.bipush 9, 2) := by decide +kernel
theorem dX2_readThing_41 : decode cX2_readThing 41 = .ok (.invokevirtual 82, 3) := by decide +kernel
theorem dX2_readThing_44 : decode cX2_readThing 44 = .ok (.istore 4, 2) := by decide +kernel
theorem dX2_readThing_46 : decode cX2_readThing 46 = .ok (.aload_n 0, 1) := by decide +kernel
theorem dX2_readThing_47 : decode cX2_readThing 47 = .ok (.iconst 0, 1) := by decide +kernel
theorem dX2_readThing_48 : decode cX2_readThing 48 = .ok (.bipush 99, 2) := by decide +kernel
theorem dX2_readThing_50 : decode cX2_readThing 50 = .ok (.invokevirtual 82, 3) := by decide +kernel
theorem dX2_readThing_53 : decode cX2_readThing 53 = .ok (.istore 5, 2) := by decide +kernel
theorem dX2_readThing_55 : decode cX2_readThing 55 = .ok (.aload_n 0, 1) := by decide +kernel
theorem dX2_readThing_56 : decode cX2_readThing 56 = .ok (.iconst 0, 1) := by decide +kernel
theorem dX2_readThing_57 : decode cX2_readThing 57 = .ok (.bipush 9, 2) := by decide +kernel
theorem dX2_readThing_59 : decode cX2_readThing 59 = .ok (.invokevirtual 82, 3) := by decide +kernel
theorem dX2_readThing_62 : decode cX2_readThing 62 = .ok (.istore 6, 2) := by decide +kernel
theorem dX2_readThing_64 : decode cX2_readThing 64 = .ok (.aload_n 0, 1) := by decide +kernel
theorem dX2_readThing_65 : decode cX2_readThing 65 = .ok (.iconst 0, 1) := by decide +kernel
theorem dX2_readThing_66 : decode cX2_readThing 66 = .ok (.bipush 20, 2) := by decide +kernel
theorem dX2_readThing_68 : decode cX2_readThing 68 = .ok (.invokevirtual 82, 3) := by decide +kernel
theorem dX2_readThing_71 : decode cX2_readThing 71 = .ok (.istore 7, 2) := by decide +kernel
theorem dX2_readThing_73 : decode cX2_readThing 73 = .ok (.aload_n 0, 1) := by decide +kernel
theorem dX2_readThing_74 : decode cX2_readThing 74 = .ok (.getfield 32, 3) := by decide +kernel
theorem dX2_readThing_77 : decode cX2_readThing 77 = .ok (.iconst (-1), 1) := by decide +kernel
theorem dX2_readThing_78 : decode cX2_readThing 78 = .ok (.if_icmp .ne 22, 3) := by decide +kernel
theorem dX2_readThing_81 : decode cX2_readThing 81 = .ok (.aload_n 0, 1) := by decide +kernel
theorem dX2_readThing_82 : decode cX2_readThing 82 = .ok (.getfield 12, 3) := by decide +kernel
theorem dX2_readThing_85 : decode cX2_readThing 85 = .ok (.iload_n 1, 1) := by decide +kernel
theorem dX2_readThing_86 : decode cX2_readThing 86 = .ok (.iload_n 2, 1) := by decide +kernel
theorem dX2_readThing_87 : decode cX2_readThing 87 = .ok (.iload_n 3, 1) := by decide +kernel
theorem dX2_readThing_88 : decode cX2_readThing 88 = .ok (.iload 4, 2) := by decide +kernel
theorem dX2_readThing_90 : decode cX2_readThing 90 = .ok (.iload 5, 2) := by decide +kernel
theorem dX2_readThing_92 : decode cX2_readThing 92 = .ok (.iload 6, 2) := by decide +kernel
theorem dX2_readThing_94 : decode cX2_readThing 94 = .ok (.iload 7, 2) := by decide +kernel
theorem dX2_readThing_96 : decode cX2_readThing 96 = .ok (.invokevirtual 86, 3) := by decide +kernel
theorem dX2_readThing_99 : decode cX2_readThing 99 = .ok (.pop, 1) := by decide +kernel
theorem dX2_readThing_100 : decode cX2_readThing 100 = .ok (.return_, 1) := by decide +kernel
theorem dX2_readWaiter_0 : decode cX2_readWaiter 0 = .ok (.aload_n 0, 1) := by decide +kernel
theorem dX2_readWaiter_1 : decode cX2_readWaiter 1 = .ok (.ldc 90, 2) := by decide +kernel
theorem dX2_readWaiter_3 : decode cX2_readWaiter 3 = .ok (.aload_n 0, 1) := by decide +kernel
theorem dX2_readWaiter_4 : decode cX2_readWaiter 4 = .ok (.getfield 12, 3) := by decide +kernel
theorem dX2_readWaiter_7 : decode cX2_readWaiter 7 = .ok (.invokevirtual 92, 3) := by decide +kernel
theorem dX2_readWaiter_10 : decode cX2_readWaiter 10 = .ok (.invokevirtual 78, 3) := by decide +kernel
theorem dX2_readWaiter_13 : decode cX2_readWaiter 13 = .ok (.aload_n 0, 1) := by decide +kernel
theorem dX2_readWaiter_14 : decode cX2_readWaiter 14 = .ok (.iconst 0, 1) := by decide +kernel
theorem dX2_readWaiter_15 : decode cX2_readWaiter 15 = .ok (.bipush 6, 2) := by decide +kernel
theorem dX2_readWaiter_17 : decode cX2_readWaiter 17 = .ok (.invokevirtual 82, 3) := by decide +kernel
theorem dX2_readWaiter_20 : decode cX2_readWaiter 20 = .ok (.istore_n 1, 1) := by decide +kernel
theorem dX2_readWaiter_21 : decode cX2_readWaiter 21 = .ok (.aload_n 0, 1) := by decide +kernel
theorem dX2_readWaiter_22 : decode cX2_readWaiter 22 = .ok (.iconst 0, 1) := by decide +kernel
theorem dX2_readWaiter_23 : decode cX2_readWaiter 23 = .ok (.bipush 9, 2) := by decide +kernel
theorem dX2_readWaiter_25 : decode cX2_readWaiter 25 = .ok (.invokevirtual 82, 3) := by decide +kernel
theorem dX2_readWaiter_28 : decode cX2_readWaiter 28 = .ok (.istore_n 2, 1) := by decide +kernel
theorem dX2_readWaiter_29 : decode cX2_readWaiter 29 = .ok (.aload_n 0, 1) := by decide +kernel
theorem dX2_readWaiter_30 : decode cX2_readWaiter 30 = .ok (.iconst 1, 1) := by decide +kernel
theorem dX2_readWaiter_31 : decode cX2_readWaiter 31 = .ok (.bipush 9, 2) := by decide +kernel
theorem dX2_readWaiter_33 : decode cX2_readWaiter 33 = .ok (.invokevirtual 82, 3) := by decide +kernel
theorem dX2_readWaiter_36 : decode cX2_readWaiter 36 = .ok (.istore_n 3, 1) := by decide +kernel
theorem dX2_readWaiter_37 : decode cX2_readWaiter 37 = .ok (.aload_n 0, 1) := by decide +kernel
theorem dX2_readWaiter_38 : decode cX2_readWaiter 38 = .ok (.iconst 1, 1) := by decide +kernel
theorem dX2_readWaiter_39 : decode cX2_readWaiter 39 = .ok (.bipush 24, 2) := by decide +kernel
theorem dX2_readWaiter_41 : decode cX2_readWaiter 41 = .ok (.invokevirtual 82, 3) := by decide +kernel
theorem dX2_readWaiter_44 : decode cX2_readWaiter 44 = .ok (.istore 4, 2) := by decide +kernel
theorem dX2_readWaiter_46 : decode cX2_readWaiter 46 = .ok (.aload_n 0, 1) := by decide +kernel
theorem dX2_readWaiter_47 : decode cX2_readWaiter 47 = .ok (.iconst 0, 1) := by decide +kernel
theorem dX2_readWaiter_48 : decode cX2_readWaiter 48 = .ok (.bipush 9, 2) := by decide +kernel
theorem dX2_readWaiter_50 : decode cX2_readWaiter 50 = .ok (.invokevirtual 82, 3) := by decide +kernel
theorem dX2_readWaiter_53 : decode cX2_readWaiter 53 = .ok (.istore 5, 2) := by decide +kernel
theorem dX2_readWaiter_55 : decode cX2_readWaiter 55 = .ok (.aload_n 0, 1) := by decide +kernel
theorem dX2_readWaiter_56 : decode cX2_readWaiter 56 = .ok (.getfield 32, 3) := by decide +kernel
theorem dX2_readWaiter_59 : decode cX2_readWaiter 59 = .ok (.iconst (-1), 1) := by decide +kernel
theorem dX2_readWaiter_60 : decode cX2_readWaiter 60 = .ok (.if_icmp .ne 18, 3) := by decide +kernel
theorem dX2_readWaiter_63 : decode cX2_readWaiter 63 = .ok (.aload_n 0, 1) := by decide +kernel
theorem dX2_readWaiter_64 : decode cX2_readWaiter 64 = .ok (.getfield 12, 3) := by decide +kernel
theorem dX2_readWaiter_67 : decode cX2_readWaiter 67 = .ok (.iload_n 1, 1) := by decide +kernel
theorem dX2_readWaiter_68 : decode cX2_readWaiter 68 = .ok (.iload_n 2, 1) := by decide +kernel
theorem dX2_readWaiter_69 : decode cX2_readWaiter 69 = .ok (.iload_n 3, 1) := by decide +kernel
theorem dX2_readWaiter_70 : decode cX2_readWaiter 70 = .ok (.iload 4, 2) := by decide +kernel
theorem dX2_readWaiter_72 : decode cX2_readWaiter 72 = .ok (.iload 5, 2) := by decide +kernel
theorem dX2_readWaiter_74 : decode cX2_readWaiter 74 = .ok (.invokevirtual 95, 3) := by decide +kernel
theorem dX2_readWaiter_77 : decode cX2_readWaiter 77 = .ok (.pop, 1) := by decide +kernel
theorem dX2_readWaiter_78 : decode cX2_readWaiter 78 = .ok (.return_, 1) := by decide +kernel
theorem dX2_readMoves_0 : decode cX2_readMoves 0 = .ok (.aload_n 0, 1) := by decide +kernel
theorem dX2_readMoves_1 : decode cX2_readMoves 1 = .ok (.ldc 99, 2) := by decide +kernel
theorem dX2_readMoves_3 : decode cX2_readMoves 3 = .ok (.iconst 1, 1) := by decide +kernel
theorem dX2_readMoves_4 : decode cX2_readMoves 4 = .ok (.invokevirtual 78, 3) := by decide +kernel
theorem dX2_readMoves_7 : decode cX2_readMoves 7 = .ok (.aload_n 0, 1) := by decide +kernel
theorem dX2_readMoves_8 : decode cX2_readMoves 8 = .ok (.iconst 0, 1) := by decide +kernel
theorem dX2_readMoves_9 : decode cX2_readMoves 9 = .ok (.aload_n 0, 1) := by decide +kernel
theorem dX2_readMoves_10 : decode cX2_readMoves 10 = .ok (.getfield 12, 3) := by decide +kernel
theorem dX2_readMoves_13 : decode cX2_readMoves 13 = .ok (.getfield 101, 3) := by decide +kernel
theorem dX2_readMoves_16 : decode cX2_readMoves 16 = .ok (.iconst 1, 1) := by decide +kernel
theorem dX2_readMoves_17 : decode cX2_readMoves 17 = .ok (.isub, 1) := by decide +kernel
theorem dX2_readMoves_18 : decode cX2_readMoves 18 = .ok (.invokevirtual 82, 3) := by decide +kernel
theorem dX2_readMoves_21 : decode cX2_readMoves 21 = .ok (.istore_n 1, 1) := by decide +kernel
theorem dX2_readMoves_22 : decode cX2_readMoves 22 = .ok (.aload_n 0, 1) := by decide +kernel
theorem dX2_readMoves_23 : decode cX2_readMoves 23 = .ok (.iconst 0, 1) := by decide +kernel
theorem dX2_readMoves_24 : decode cX2_readMoves 24 = .ok (.bipush 9, 2) := by decide +kernel
theorem dX2_readMoves_26 : decode cX2_readMoves 26 = .ok (.invokevirtual 82, 3) := by decide +kernel
theorem dX2_readMoves_29 : decode cX2_readMoves 29 = .ok (.istore_n 2, 1) := by decide +kernel
theorem dX2_readMoves_30 : decode cX2_readMoves 30 = .ok (.aload_n 0, 1) := by decide +kernel
theorem dX2_readMoves_31 : decode cX2_readMoves 31 = .ok (.getfield 32, 3) := by decide +kernel
theorem dX2_readMoves_34 : decode cX2_readMoves 34 = .ok (.iconst (-1), 1) := by decide +kernel
theorem dX2_readMoves_35 : decode cX2_readMoves 35 = .ok (.if_icmp .ne 27, 3) := by decide +kernel
theorem dX2_readMoves_38 : decode cX2_readMoves 38 = .ok (.aload_n 0, 1) := by decide +kernel
theorem dX2_readMoves_39 : decode cX2_readMoves 39 = .ok (.getfield 12, 3) := by decide +kernel
theorem dX2_readMoves_42 : decode cX2_readMoves 42 = .ok (.iload_n 1, 1) := by decide +kernel
theorem dX2_readMoves_43 : decode cX2_readMoves 43 = .ok (.invokevirtual 104, 3) := by decide +kernel
theorem dX2_readMoves_46 : decode cX2_readMoves 46 = .ok (.ifCond .eq 16, 3) := by decide +kernel
theorem dX2_readMoves_49 : decode cX2_readMoves 49 = .ok (.aload_n 0, 1) := by decide +kernel
theorem dX2_readMoves_50 : decode cX2_readMoves 50 = .ok (.getfield 12, 3) := by decide +kernel
theorem dX2_readMoves_53 : decode cX2_readMoves 53 = .ok (.getfield 108, 3) := by decide +kernel
theorem dX2_readMoves_56 : decode cX2_readMoves 56 = .ok (.iload_n 1, 1) := by decide +kernel
theorem dX2_readMoves_57 : decode cX2_readMoves 57 = .ok (.aaload, 1) := by decide +kernel
theorem dX2_readMoves_58 : decode cX2_readMoves 58 = .ok (.iload_n 2, 1) := by decide +kernel
theorem dX2_readMoves_59 : decode cX2_readMoves 59 = .ok (.putfield 112, 3) := by decide +kernel
theorem dX2_readMoves_62 : decode cX2_readMoves 62 = .ok (.return_, 1) := by decide +kernel
theorem dX2_readHope_0 : decode cX2_readHope 0 = .ok (.aload_n 0, 1) := by decide +kernel
theorem dX2_readHope_1 : decode cX2_readHope 1 = .ok (.ldc 117, 2) := by decide +kernel
theorem dX2_readHope_3 : decode cX2_readHope 3 = .ok (.iconst 1, 1) := by decide +kernel
theorem dX2_readHope_4 : decode cX2_readHope 4 = .ok (.invokevirtual 78, 3) := by decide +kernel
theorem dX2_readHope_7 : decode cX2_readHope 7 = .ok (.aload_n 0, 1) := by decide +kernel
theorem dX2_readHope_8 : decode cX2_readHope 8 = .ok (.iconst 0, 1) := by decide +kernel
theorem dX2_readHope_9 : decode cX2_readHope 9 = .ok (.bipush 9, 2) := by decide +kernel
theorem dX2_readHope_11 : decode cX2_readHope 11 = .ok (.invokevirtual 82, 3) := by decide +kernel
theorem dX2_readHope_14 : decode cX2_readHope 14 = .ok (.istore_n 1, 1) := by decide +kernel
theorem dX2_readHope_15 : decode cX2_readHope 15 = .ok (.aload_n 0, 1) := by decide +kernel
theorem dX2_readHope_16 : decode cX2_readHope 16 = .ok (.getfield 32, 3) := by decide +kernel
theorem dX2_readHope_19 : decode cX2_readHope 19 = .ok (.iconst (-1), 1) := by decide +kernel
theorem dX2_readHope_20 : decode cX2_readHope 20 = .ok (.if_icmp .ne 11, 3) := by decide +kernel
theorem dX2_readHope_23 : decode cX2_readHope 23 = .ok (.aload_n 0, 1) := by decide +kernel
theorem dX2_readHope_24 : decode cX2_readHope 24 = .ok (.getfield 12, 3) := by decide +kernel
theorem dX2_readHope_27 : decode cX2_readHope 27 = .ok (.iload_n 1, 1) := by decide +kernel
theorem dX2_readHope_28 : decode cX2_readHope 28 = .ok (.putfield 119, 3) := by decide +kernel
theorem dX2_readHope_31 : decode cX2_readHope 31 = .ok (.return_, 1) := by decide +kernel
theorem dX2_readWord_0 : decode cX2_readWord 0 = .ok (.aload_n 0, 1) := by decide +kernel
theorem dX2_readWord_1 : decode cX2_readWord 1 = .ok (.getfield 29, 3) := by decide +kernel
theorem dX2_readWord_4 : decode cX2_readWord 4 = .ok (.istore_n 3, 1) := by decide +kernel
theorem dX2_readWord_5 : decode cX2_readWord 5 = .ok (.iconst 0, 1) := by decide +kernel
theorem dX2_readWord_6 : decode cX2_readWord 6 = .ok (.istore 4, 2) := by decide +kernel
theorem dX2_readWord_8 : decode cX2_readWord 8 = .ok (.iload 4, 2) := by decide +kernel
theorem dX2_readWord_10 : decode cX2_readWord 10 = .ok (.aload_n 1, 1) := by decide +kernel
theorem dX2_readWord_11 : decode cX2_readWord 11 = .ok (.invokevirtual 121, 3) := by decide +kernel
theorem dX2_readWord_14 : decode cX2_readWord 14 = .ok (.if_icmp .ge 19, 3) := by decide +kernel
theorem dX2_readWord_17 : decode cX2_readWord 17 = .ok (.aload_n 0, 1) := by decide +kernel
theorem dX2_readWord_18 : decode cX2_readWord 18 = .ok (.aload_n 1, 1) := by decide +kernel
theorem dX2_readWord_19 : decode cX2_readWord 19 = .ok (.iload 4, 2) := by decide +kernel
theorem dX2_readWord_21 : decode cX2_readWord 21 = .ok (.invokevirtual 126, 3) := by decide +kernel
theorem dX2_readWord_24 : decode cX2_readWord 24 = .ok (.invokevirtual 49, 3) := by decide +kernel
theorem dX2_readWord_27 : decode cX2_readWord 27 = .ok (.iinc 4 1, 3) := by decide +kernel
theorem dX2_readWord_30 : decode cX2_readWord 30 = .ok (.goto (-22), 3) := by decide +kernel
theorem dX2_readWord_33 : decode cX2_readWord 33 = .ok (.aload_n 0, 1) := by decide +kernel
theorem dX2_readWord_34 : decode cX2_readWord 34 = .ok (.getfield 32, 3) := by decide +kernel
theorem dX2_readWord_37 : decode cX2_readWord 37 = .ok (.iconst (-1), 1) := by decide +kernel
theorem dX2_readWord_38 : decode cX2_readWord 38 = .ok (.if_icmp .ne 13, 3) := by decide +kernel
theorem dX2_readWord_41 : decode cX2_readWord 41 = .ok (.iload_n 2, 1) := by decide +kernel
theorem dX2_readWord_42 : decode cX2_readWord 42 = .ok (.ifCond .ne 9, 3) := by decide +kernel
theorem dX2_readWord_45 : decode cX2_readWord 45 = .ok (.aload_n 0, 1) := by decide +kernel
theorem dX2_readWord_46 : decode cX2_readWord 46 = .ok (.iload_n 3, 1) := by decide +kernel
theorem dX2_readWord_47 : decode cX2_readWord 47 = .ok (.invokevirtual 69, 3) := by decide +kernel
theorem dX2_readWord_50 : decode cX2_readWord 50 = .ok (.pop, 1) := by decide +kernel
theorem dX2_readWord_51 : decode cX2_readWord 51 = .ok (.return_, 1) := by decide +kernel
theorem dX2_letter_0 : decode cX2_letter 0 = .ok (.aload_n 0, 1) := by decide +kernel
theorem dX2_letter_1 : decode cX2_letter 1 = .ok (.getfield 29, 3) := by decide +kernel
theorem dX2_letter_4 : decode cX2_letter 4 = .ok (.ifCond .lt 36, 3) := by decide +kernel
theorem dX2_letter_7 : decode cX2_letter 7 = .ok (.aload_n 0, 1) := by decide +kernel
theorem dX2_letter_8 : decode cX2_letter 8 = .ok (.getfield 29, 3) := by decide +kernel
theorem dX2_letter_11 : decode cX2_letter 11 = .ok (.aload_n 0, 1) := by decide +kernel
theorem dX2_letter_12 : decode cX2_letter 12 = .ok (.getfield 26, 3) := by decide +kernel
theorem dX2_letter_15 : decode cX2_letter 15 = .ok (.if_icmp .ge 25, 3) := by decide +kernel
theorem dX2_letter_18 : decode cX2_letter 18 = .ok (.aload_n 0, 1) := by decide +kernel
theorem dX2_letter_19 : decode cX2_letter 19 = .ok (.getfield 29, 3) := by decide +kernel
theorem dX2_letter_22 : decode cX2_letter 22 = .ok (.sipush 160, 3) := by decide +kernel
theorem dX2_letter_25 : decode cX2_letter 25 = .ok (.if_icmp .ge 15, 3) := by decide +kernel
theorem dX2_letter_28 : decode cX2_letter 28 = .ok (.aload_n 0, 1) := by decide +kernel
theorem dX2_letter_29 : decode cX2_letter 29 = .ok (.getfield 22, 3) := by decide +kernel
theorem dX2_letter_32 : decode cX2_letter 32 = .ok (.aload_n 0, 1) := by decide +kernel
theorem dX2_letter_33 : decode cX2_letter 33 = .ok (.getfield 29, 3) := by decide +kernel
theorem dX2_letter_36 : decode cX2_letter 36 = .ok (.iaload, 1) := by decide +kernel
theorem dX2_letter_37 : decode cX2_letter 37 = .ok (.goto 4, 3) := by decide +kernel
theorem dX2_letter_40 : decode cX2_letter 40 = .ok (.iconst 0, 1) := by decide +kernel
theorem dX2_letter_41 : decode cX2_letter 41 = .ok (.ireturn, 1) := by decide +kernel
theorem dX2_readSign_0 : decode cX2_readSign 0 = .ok (.aload_n 0, 1) := by decide +kernel
theorem dX2_readSign_1 : decode cX2_readSign 1 = .ok (.getfield 32, 3) := by decide +kernel
theorem dX2_readSign_4 : decode cX2_readSign 4 = .ok (.iconst (-1), 1) := by decide +kernel
theorem dX2_readSign_5 : decode cX2_readSign 5 = .ok (.if_icmp .eq 4, 3) := by decide +kernel
theorem dX2_readSign_8 : decode cX2_readSign 8 = .ok (.return_, 1) := by decide +kernel
theorem dX2_readSign_9 : decode cX2_readSign 9 = .ok (.aload_n 0, 1) := by decide +kernel
theorem dX2_readSign_10 : decode cX2_readSign 10 = .ok (.invokevirtual 53, 3) := by decide +kernel
theorem dX2_readSign_13 : decode cX2_readSign 13 = .ok (.iload_n 1, 1) := by decide +kernel
theorem dX2_readSign_14 : decode cX2_readSign 14 = .ok (.if_icmp .ne 16, 3) := by decide +kernel
theorem dX2_readSign_17 : decode cX2_readSign 17 = .ok (.aload_n 0, 1) := by decide +kernel
theorem dX2_readSign_18 : decode cX2_readSign 18 = .ok (.dup, 1) := by decide +kernel
theorem dX2_readSign_19 : decode cX2_readSign 19 = .ok (.getfield 29, 3) := by decide +kernel
theorem dX2_readSign_22 : decode cX2_readSign 22 = .ok (.iconst 1, 1) := by decide +kernel
theorem dX2_readSign_23 : decode cX2_readSign 23 = .ok (.iadd, 1) := by decide +kernel
theorem dX2_readSign_24 : decode cX2_readSign 24 = .ok (.putfield 29, 3) := by decide +kernel
theorem dX2_readSign_27 : decode cX2_readSign 27 = .ok (.goto 12, 3) := by decide +kernel
theorem dX2_readSign_30 : decode cX2_readSign 30 = .ok (.aload_n 0, 1) := by decide +kernel
theorem dX2_readSign_31 : decode cX2_readSign 31 = .ok (.aload_n 0, 1) := by decide +kernel
theorem dX2_readSign_32 : decode cX2_readSign 32 = .ok (.getfield 29, 3) := by decide +kernel
theorem dX2_readSign_35 : decode cX2_readSign 35 = .ok (.invokevirtual 69, 3) := by decide +kernel
theorem dX2_readSign_38 : decode cX2_readSign 38 = .ok (.pop, 1) := by decide +kernel
theorem dX2_readSign_39 : decode cX2_readSign 39 = .ok (.return_, 1) := by decide +kernel
theorem dX2_readNumber_0 : decode cX2_readNumber 0 = .ok (.aload_n 0, 1) := by decide +kernel
theorem dX2_readNumber_1 : decode cX2_readNumber 1 = .ok (.bipush 32, 2) := by decide +kernel
theorem dX2_readNumber_3 : decode cX2_readNumber 3 = .ok (.invokevirtual 49, 3) := by decide +kernel
theorem dX2_readNumber_6 : decode cX2_readNumber 6 = .ok (.aload_n 0, 1) := by decide +kernel
theorem dX2_readNumber_7 : decode cX2_readNumber 7 = .ok (.getfield 32, 3) := by decide +kernel
theorem dX2_readNumber_10 : decode cX2_readNumber 10 = .ok (.iconst (-1), 1) := by decide +kernel
theorem dX2_readNumber_11 : decode cX2_readNumber 11 = .ok (.if_icmp .eq 5, 3) := by decide +kernel
theorem dX2_readNumber_14 : decode cX2_readNumber 14 = .ok (.iconst (-1), 1) := by decide +kernel
theorem dX2_readNumber_15 : decode cX2_readNumber 15 = .ok (.ireturn, 1) := by decide +kernel
theorem dX2_readNumber_16 : decode cX2_readNumber 16 = .ok (.aload_n 0, 1) := by decide +kernel
theorem dX2_readNumber_17 : decode cX2_readNumber 17 = .ok (.getfield 29, 3) := by decide +kernel
theorem dX2_readNumber_20 : decode cX2_readNumber 20 = .ok (.istore_n 3, 1) := by decide +kernel
theorem dX2_readNumber_21 : decode cX2_readNumber 21 = .ok (.aload_n 0, 1) := by decide +kernel
theorem dX2_readNumber_22 : decode cX2_readNumber 22 = .ok (.invokevirtual 130, 3) := by decide +kernel
theorem dX2_readNumber_25 : decode cX2_readNumber 25 = .ok (.ifCond .ne 9, 3) := by decide +kernel
theorem dX2_readNumber_28 : decode cX2_readNumber 28 = .ok (.aload_n 0, 1) := by decide +kernel
theorem dX2_readNumber_29 : decode cX2_readNumber 29 = .ok (.iload_n 3, 1) := by decide +kernel
theorem dX2_readNumber_30 : decode cX2_readNumber 30 = .ok (.invokevirtual 69, 3) := by decide +kernel
theorem dX2_readNumber_33 : decode cX2_readNumber 33 = .ok (.ireturn, 1) := by decide +kernel
theorem dX2_readNumber_34 : decode cX2_readNumber 34 = .ok (.aload_n 0, 1) := by decide +kernel
theorem dX2_readNumber_35 : decode cX2_readNumber 35 = .ok (.invokevirtual 133, 3) := by decide +kernel
theorem dX2_readNumber_38 : decode cX2_readNumber 38 = .ok (.istore 4, 2) := by decide +kernel
theorem dX2_readNumber_40 : decode cX2_readNumber 40 = .ok (.aload_n 0, 1) := by decide +kernel
theorem dX2_readNumber_41 : decode cX2_readNumber 41 = .ok (.invokevirtual 130, 3) := by decide +kernel
theorem dX2_readNumber_44 : decode cX2_readNumber 44 = .ok (.ifCond .eq 15, 3) := by decide +kernel
theorem dX2_readNumber_47 : decode cX2_readNumber 47 = .ok (.iload 4, 2) := by decide +kernel
theorem dX2_readNumber_49 : decode cX2_readNumber 49 = .ok (.bipush 10, 2) := by decide +kernel
theorem dX2_readNumber_51 : decode cX2_readNumber 51 = .ok (.imul, 1) := by decide +kernel
theorem dX2_readNumber_52 : decode cX2_readNumber 52 = .ok (.aload_n 0, 1) := by decide +kernel
theorem dX2_readNumber_53 : decode cX2_readNumber 53 = .ok (.invokevirtual 133, 3) := by decide +kernel
theorem dX2_readNumber_56 : decode cX2_readNumber 56 = .ok (.iadd, 1) := by decide +kernel
theorem dX2_readNumber_57 : decode cX2_readNumber 57 = .ok (.istore 4, 2) := by decide +kernel
theorem dX2_readNumber_59 : decode cX2_readNumber 59 = .ok (.iload 4, 2) := by decide +kernel
theorem dX2_readNumber_61 : decode cX2_readNumber 61 = .ok (.iload_n 1, 1) := by decide +kernel
theorem dX2_readNumber_62 : decode cX2_readNumber 62 = .ok (.iload_n 2, 1) := by decide +kernel
theorem dX2_readNumber_63 : decode cX2_readNumber 63 = .ok (.invokestatic 136, 3) := by decide +kernel
theorem dX2_readNumber_66 : decode cX2_readNumber 66 = .ok (.ifCond .eq 8, 3) := by decide +kernel
theorem dX2_readNumber_69 : decode cX2_readNumber 69 = .ok (.iload 4, 2) := by decide +kernel
theorem dX2_readNumber_71 : decode cX2_readNumber 71 = .ok (.goto 8, 3) := by decide +kernel
theorem dX2_readNumber_74 : decode cX2_readNumber 74 = .ok (.aload_n 0, 1) := by decide +kernel
theorem dX2_readNumber_75 : decode cX2_readNumber 75 = .ok (.iload_n 3, 1) := by decide +kernel
theorem dX2_readNumber_76 : decode cX2_readNumber 76 = .ok (.invokevirtual 69, 3) := by decide +kernel
theorem dX2_readNumber_79 : decode cX2_readNumber 79 = .ok (.ireturn, 1) := by decide +kernel
theorem dX2_isAtDigit_0 : decode cX2_isAtDigit 0 = .ok (.aload_n 0, 1) := by decide +kernel
theorem dX2_isAtDigit_1 : decode cX2_isAtDigit 1 = .ok (.invokevirtual 53, 3) := by decide +kernel
theorem dX2_isAtDigit_4 : decode cX2_isAtDigit 4 = .ok (.bipush 48, 2) := by decide +kernel
theorem dX2_isAtDigit_6 : decode cX2_isAtDigit 6 = .ok (.bipush 57, 2) := by decide +kernel
theorem dX2_isAtDigit_8 : decode cX2_isAtDigit 8 = .ok (.invokestatic 136, 3) := by decide +kernel
theorem dX2_isAtDigit_11 : decode cX2_isAtDigit 11 = .ok (.ireturn, 1) := by decide +kernel
theorem dX2_readDigit_0 : decode cX2_readDigit 0 = .ok (.aload_n 0, 1) := by decide +kernel
theorem dX2_readDigit_1 : decode cX2_readDigit 1 = .ok (.invokevirtual 53, 3) := by decide +kernel
theorem dX2_readDigit_4 : decode cX2_readDigit 4 = .ok (.bipush 48, 2) := by decide +kernel
theorem dX2_readDigit_6 : decode cX2_readDigit 6 = .ok (.isub, 1) := by decide +kernel
theorem dX2_readDigit_7 : decode cX2_readDigit 7 = .ok (.istore_n 1, 1) := by decide +kernel
theorem dX2_readDigit_8 : decode cX2_readDigit 8 = .ok (.aload_n 0, 1) := by decide +kernel
theorem dX2_readDigit_9 : decode cX2_readDigit 9 = .ok (.dup, 1) := by decide +kernel
theorem dX2_readDigit_10 : decode cX2_readDigit 10 = .ok (.getfield 29, 3) := by decide +kernel
theorem dX2_readDigit_13 : decode cX2_readDigit 13 = .ok (.iconst 1, 1) := by decide +kernel
theorem dX2_readDigit_14 : decode cX2_readDigit 14 = .ok (.iadd, 1) := by decide +kernel
theorem dX2_readDigit_15 : decode cX2_readDigit 15 = .ok (.putfield 29, 3) := by decide +kernel
theorem dX2_readDigit_18 : decode cX2_readDigit 18 = .ok (.iload_n 1, 1) := by decide +kernel
theorem dX2_readDigit_19 : decode cX2_readDigit 19 = .ok (.ireturn, 1) := by decide +kernel
theorem dX2_failAt_0 : decode cX2_failAt 0 = .ok (.aload_n 0, 1) := by decide +kernel
theorem dX2_failAt_1 : decode cX2_failAt 1 = .ok (.iload_n 1, 1) := by decide +kernel
theorem dX2_failAt_2 : decode cX2_failAt 2 = .ok (.putfield 32, 3) := by decide +kernel
theorem dX2_failAt_5 : decode cX2_failAt 5 = .ok (.iconst (-1), 1) := by decide +kernel
theorem dX2_failAt_6 : decode cX2_failAt 6 = .ok (.ireturn, 1) := by decide +kernel
theorem dX3_init_0 : decode cX3_init 0 = .ok (.aload_n 0, 1) := by decide +kernel
theorem dX3_init_1 : decode cX3_init 1 = .ok (.invokespecial 3, 3) := by decide +kernel
theorem dX3_init_4 : decode cX3_init 4 = .ok (.aload_n 0, 1) := by decide +kernel
theorem dX3_init_5 : decode cX3_init 5 = .ok (.bipush 7, 2) := by decide +kernel
theorem dX3_init_7 : decode cX3_init 7 = .ok (.bipush 25, 2) := by decide +kernel
theorem dX3_init_9 : decode cX3_init 9 = .ok (.multianewarray 9 2, 4) := by decide +kernel
theorem dX3_init_13 : decode cX3_init 13 = .ok (.putfield 11, 3) := by decide +kernel
theorem dX3_init_16 : decode cX3_init 16 = .ok (.aload_n 0, 1) := by decide +kernel
theorem dX3_init_17 : decode cX3_init 17 = .ok (.iconst 0, 1) := by decide +kernel
theorem dX3_init_18 : decode cX3_init 18 = .ok (.putfield 16, 3) := by decide +kernel
theorem dX3_init_21 : decode cX3_init 21 = .ok (.return_, 1) := by decide +kernel
theorem dX3_layOut_0 : decode cX3_layOut 0 = .ok (.aload_n 0, 1) := by decide +kernel
theorem dX3_layOut_1 : decode cX3_layOut 1 = .ok (.iconst 0, 1) := by decide +kernel
theorem dX3_layOut_2 : decode cX3_layOut 2 = .ok (.iload_n 2, 1) := by decide +kernel
theorem dX3_layOut_3 : decode cX3_layOut 3 = .ok (.bipush 24, 2) := by decide +kernel
theorem dX3_layOut_5 : decode cX3_layOut 5 = .ok (.invokestatic 20, 3) := by decide +kernel
theorem dX3_layOut_8 : decode cX3_layOut 8 = .ok (.invokestatic 26, 3) := by decide +kernel
theorem dX3_layOut_11 : decode cX3_layOut 11 = .ok (.putfield 16, 3) := by decide +kernel
theorem dX3_layOut_14 : decode cX3_layOut 14 = .ok (.iconst 0, 1) := by decide +kernel
theorem dX3_layOut_15 : decode cX3_layOut 15 = .ok (.istore_n 3, 1) := by decide +kernel
theorem dX3_layOut_16 : decode cX3_layOut 16 = .ok (.iload_n 3, 1) := by decide +kernel
theorem dX3_layOut_17 : decode cX3_layOut 17 = .ok (.bipush 24, 2) := by decide +kernel
theorem dX3_layOut_19 : decode cX3_layOut 19 = .ok (.if_icmp .gt 30, 3) := by decide +kernel
theorem dX3_layOut_22 : decode cX3_layOut 22 = .ok (.aload_n 0, 1) := by decide +kernel
theorem dX3_layOut_23 : decode cX3_layOut 23 = .ok (.getfield 11, 3) := by decide +kernel
theorem dX3_layOut_26 : decode cX3_layOut 26 = .ok (.aload_n 1, 1) := by decide +kernel
theorem dX3_layOut_27 : decode cX3_layOut 27 = .ok (.getfield 29, 3) := by decide +kernel
theorem dX3_layOut_30 : decode cX3_layOut 30 = .ok (.aaload, 1) := by decide +kernel
theorem dX3_layOut_31 : decode cX3_layOut 31 = .ok (.iload_n 3, 1) := by decide +kernel
theorem dX3_layOut_32 : decode cX3_layOut 32 = .ok (.iload_n 3, 1) := by decide +kernel
theorem dX3_layOut_33 : decode cX3_layOut 33 = .ok (.ifCond .ne 7, 3) := by decide +kernel
theorem dX3_layOut_36 : decode cX3_layOut 36 = .ok (.iconst 0, 1) := by decide +kernel
theorem dX3_layOut_37 : decode cX3_layOut 37 = .ok (.goto 5, 3) := by decide +kernel
theorem dX3_layOut_40 : decode cX3_layOut 40 = .ok (.ldc 34, 2) := by decide +kernel
theorem dX3_layOut_42 : decode cX3_layOut 42 = .ok (.iastore, 1) := by decide +kernel
theorem dX3_layOut_43 : decode cX3_layOut 43 = .ok (.iinc 3 1, 3) := by decide +kernel
theorem dX3_layOut_46 : decode cX3_layOut 46 = .ok (.goto (-30), 3) := by decide +kernel
theorem dX3_layOut_49 : decode cX3_layOut 49 = .ok (.aload_n 1, 1) := by decide +kernel
theorem dX3_layOut_50 : decode cX3_layOut 50 = .ok (.getfield 29, 3) := by decide +kernel
theorem dX3_layOut_53 : decode cX3_layOut 53 = .ok (.iconst 1, 1) := by decide +kernel
theorem dX3_layOut_54 : decode cX3_layOut 54 = .ok (.isub, 1) := by decide +kernel
theorem dX3_layOut_55 : decode cX3_layOut 55 = .ok (.istore_n 3, 1) := by decide +kernel
theorem dX3_layOut_56 : decode cX3_layOut 56 = .ok (.iload_n 3, 1) := by decide +kernel
theorem dX3_layOut_57 : decode cX3_layOut 57 = .ok (.ifCond .lt 52, 3) := by decide +kernel
theorem dX3_layOut_60 : decode cX3_layOut 60 = .ok (.iconst 0, 1) := by decide +kernel
theorem dX3_layOut_61 : decode cX3_layOut 61 = .ok (.istore 4, 2) := by decide +kernel
theorem dX3_layOut_63 : decode cX3_layOut 63 = .ok (.iload 4, 2) := by decide +kernel
theorem dX3_layOut_65 : decode cX3_layOut 65 = .ok (.aload_n 0, 1) := by decide +kernel
theorem dX3_layOut_66 : decode cX3_layOut 66 = .ok (.getfield 16, 3) := by decide +kernel
theorem dX3_layOut_69 : decode cX3_layOut 69 = .ok (.if_icmp .gt 34, 3) := by decide +kernel
theorem dX3_layOut_72 : decode cX3_layOut 72 = .ok (.aload_n 0, 1) := by decide +kernel
theorem dX3_layOut_73 : decode cX3_layOut 73 = .ok (.getfield 11, 3) := by decide +kernel
theorem dX3_layOut_76 : decode cX3_layOut 76 = .ok (.iload_n 3, 1) := by decide +kernel
theorem dX3_layOut_77 : decode cX3_layOut 77 = .ok (.aaload, 1) := by decide +kernel
theorem dX3_layOut_78 : decode cX3_layOut 78 = .ok (.iload 4, 2) := by decide +kernel
theorem dX3_layOut_80 : decode cX3_layOut 80 = .ok (.aload_n 0, 1) := by decide +kernel
theorem dX3_layOut_81 : decode cX3_layOut 81 = .ok (.aload_n 1, 1) := by decide +kernel
theorem dX3_layOut_82 : decode cX3_layOut 82 = .ok (.iload_n 3, 1) := by decide +kernel
theorem dX3_layOut_83 : decode cX3_layOut 83 = .ok (.iload 4, 2) := by decide +kernel
theorem dX3_layOut_85 : decode cX3_layOut 85 = .ok (.aload_n 0, 1) := by decide +kernel
theorem dX3_layOut_86 : decode cX3_layOut 86 = .ok (.aload_n 1, 1) := by decide +kernel
theorem dX3_layOut_87 : decode cX3_layOut 87 = .ok (.iload_n 3, 1) := by decide +kernel
theorem dX3_layOut_88 : decode cX3_layOut 88 = .ok (.iload 4, 2) := by decide +kernel
theorem dX3_layOut_90 : decode cX3_layOut 90 = .ok (.invokevirtual 35, 3) := by decide +kernel
theorem dX3_layOut_93 : decode cX3_layOut 93 = .ok (.invokevirtual 39, 3) := by decide +kernel
theorem dX3_layOut_96 : decode cX3_layOut 96 = .ok (.iastore, 1) := by decide +kernel
theorem dX3_layOut_97 : decode cX3_layOut 97 = .ok (.iinc 4 1, 3) := by decide +kernel
theorem dX3_layOut_100 : decode cX3_layOut 100 = .ok (.goto (-37), 3) := by decide +kernel
theorem dX3_layOut_103 : decode cX3_layOut 103 = .ok (.iinc 3 (-1), 3) := by decide +kernel
theorem dX3_layOut_106 : decode cX3_layOut 106 = .ok (.goto (-50), 3) := by decide +kernel
theorem dX3_layOut_109 : decode cX3_layOut 109 = .ok (.return_, 1) := by decide +kernel
theorem dX3_leastCost_0 : decode cX3_leastCost 0 = .ok (.aload_n 0, 1) := by decide +kernel
theorem dX3_leastCost_1 : decode cX3_leastCost 1 = .ok (.getfield 11, 3) := by decide +kernel
theorem dX3_leastCost_4 : decode cX3_leastCost 4 = .ok (.iconst 0, 1) := by decide +kernel
theorem dX3_leastCost_5 : decode cX3_leastCost 5 = .ok (.aaload, 1) := by decide +kernel
theorem dX3_leastCost_6 : decode cX3_leastCost 6 = .ok (.aload_n 0, 1) := by decide +kernel
theorem dX3_leastCost_7 : decode cX3_leastCost 7 = .ok (.getfield 16, 3) := by decide +kernel
theorem dX3_leastCost_10 : decode cX3_leastCost 10 = .ok (.iaload, 1) := by decide +kernel
theorem dX3_leastCost_11 : decode cX3_leastCost 11 = .ok (.istore_n 1, 1) := by decide +kernel
theorem dX3_leastCost_12 : decode cX3_leastCost 12 = .ok (.iload_n 1, 1) := by decide +kernel
theorem dX3_leastCost_13 : decode cX3_leastCost 13 = .ok (.ldc 34, 2) := by decide +kernel
theorem dX3_leastCost_15 : decode cX3_leastCost 15 = .ok (.if_icmp .ge 7, 3) := by decide +kernel
theorem dX3_leastCost_18 : decode cX3_leastCost 18 = .ok (.iload_n 1, 1) := by decide +kernel
theorem dX3_leastCost_19 : decode cX3_leastCost 19 = .ok (.goto 4, 3) := by decide +kernel
theorem dX3_leastCost_22 : decode cX3_leastCost 22 = .ok (.iconst (-1), 1) := by decide +kernel
theorem dX3_leastCost_23 : decode cX3_leastCost 23 = .ok (.ireturn, 1) := by decide +kernel
theorem dX3_shareOf_0 : decode cX3_shareOf 0 = .ok (.aload_n 0, 1) := by decide +kernel
theorem dX3_shareOf_1 : decode cX3_shareOf 1 = .ok (.invokevirtual 43, 3) := by decide +kernel
theorem dX3_shareOf_4 : decode cX3_shareOf 4 = .ok (.iconst (-1), 1) := by decide +kernel
theorem dX3_shareOf_5 : decode cX3_shareOf 5 = .ok (.if_icmp .ne 5, 3) := by decide +kernel
theorem dX3_shareOf_8 : decode cX3_shareOf 8 = .ok (.iconst (-1), 1) := by decide +kernel
theorem dX3_shareOf_9 : decode cX3_shareOf 9 = .ok (.ireturn, 1) := by decide +kernel
theorem dX3_shareOf_10 : decode cX3_shareOf 10 = .ok (.aload_n 0, 1) := by decide +kernel
theorem dX3_shareOf_11 : decode cX3_shareOf 11 = .ok (.getfield 16, 3) := by decide +kernel
theorem dX3_shareOf_14 : decode cX3_shareOf 14 = .ok (.istore_n 3, 1) := by decide +kernel
theorem dX3_shareOf_15 : decode cX3_shareOf 15 = .ok (.iconst 0, 1) := by decide +kernel
theorem dX3_shareOf_16 : decode cX3_shareOf 16 = .ok (.istore 4, 2) := by decide +kernel
theorem dX3_shareOf_18 : decode cX3_shareOf 18 = .ok (.iconst 0, 1) := by decide +kernel
theorem dX3_shareOf_19 : decode cX3_shareOf 19 = .ok (.istore 5, 2) := by decide +kernel
theorem dX3_shareOf_21 : decode cX3_shareOf 21 = .ok (.iload 5, 2) := by decide +kernel
theorem dX3_shareOf_23 : decode cX3_shareOf 23 = .ok (.iload_n 2, 1) := by decide +kernel
theorem dX3_shareOf_24 : decode cX3_shareOf 24 = .ok (.if_icmp .gt 33, 3) := by decide +kernel
theorem dX3_shareOf_27 : decode cX3_shareOf 27 = .ok (.iload 5, 2) := by decide +kernel
theorem dX3_shareOf_29 : decode cX3_shareOf 29 = .ok (.aload_n 1, 1) := by decide +kernel
theorem dX3_shareOf_30 : decode cX3_shareOf 30 = .ok (.getfield 29, 3) := by decide +kernel
theorem dX3_shareOf_33 : decode cX3_shareOf 33 = .ok (.if_icmp .ge 24, 3) := by decide +kernel
theorem dX3_shareOf_36 : decode cX3_shareOf 36 = .ok (.aload_n 0, 1) := by decide +kernel
theorem dX3_shareOf_37 : decode cX3_shareOf 37 = .ok (.aload_n 1, 1) := by decide +kernel
theorem dX3_shareOf_38 : decode cX3_shareOf 38 = .ok (.iload 5, 2) := by decide +kernel
theorem dX3_shareOf_40 : decode cX3_shareOf 40 = .ok (.iload_n 3, 1) := by decide +kernel
theorem dX3_shareOf_41 : decode cX3_shareOf 41 = .ok (.invokevirtual 35, 3) := by decide +kernel
theorem dX3_shareOf_44 : decode cX3_shareOf 44 = .ok (.istore 4, 2) := by decide +kernel
theorem dX3_shareOf_46 : decode cX3_shareOf 46 = .ok (.iload_n 3, 1) := by decide +kernel
theorem dX3_shareOf_47 : decode cX3_shareOf 47 = .ok (.iload 4, 2) := by decide +kernel
theorem dX3_shareOf_49 : decode cX3_shareOf 49 = .ok (.isub, 1) := by decide +kernel
theorem dX3_shareOf_50 : decode cX3_shareOf 50 = .ok (.istore_n 3, 1) := by decide +kernel
theorem dX3_shareOf_51 : decode cX3_shareOf 51 = .ok (.iinc 5 1, 3) := by decide +kernel
theorem dX3_shareOf_54 : decode cX3_shareOf 54 = .ok (.goto (-33), 3) := by decide +kernel
theorem dX3_shareOf_57 : decode cX3_shareOf 57 = .ok (.iload 4, 2) := by decide +kernel
theorem dX3_shareOf_59 : decode cX3_shareOf 59 = .ok (.ireturn, 1) := by decide +kernel
theorem dX3_firstBest_0 : decode cX3_firstBest 0 = .ok (.iload_n 3, 1) := by decide +kernel
theorem dX3_firstBest_1 : decode cX3_firstBest 1 = .ok (.aload_n 1, 1) := by decide +kernel
theorem dX3_firstBest_2 : decode cX3_firstBest 2 = .ok (.getfield 47, 3) := by decide +kernel
theorem dX3_firstBest_5 : decode cX3_firstBest 5 = .ok (.iload_n 2, 1) := by decide +kernel
theorem dX3_firstBest_6 : decode cX3_firstBest 6 = .ok (.aaload, 1) := by decide +kernel
theorem dX3_firstBest_7 : decode cX3_firstBest 7 = .ok (.aload_n 1, 1) := by decide +kernel
theorem dX3_firstBest_8 : decode cX3_firstBest 8 = .ok (.getfield 51, 3) := by decide +kernel
theorem dX3_firstBest_11 : decode cX3_firstBest 11 = .ok (.invokevirtual 54, 3) := by decide +kernel
theorem dX3_firstBest_14 : decode cX3_firstBest 14 = .ok (.invokestatic 20, 3) := by decide +kernel
theorem dX3_firstBest_17 : decode cX3_firstBest 17 = .ok (.istore 4, 2) := by decide +kernel
theorem dX3_firstBest_19 : decode cX3_firstBest 19 = .ok (.iconst 0, 1) := by decide +kernel
theorem dX3_firstBest_20 : decode cX3_firstBest 20 = .ok (.istore 5, 2) := by decide +kernel
theorem dX3_firstBest_22 : decode cX3_firstBest 22 = .ok (.iconst 1, 1) := by decide +kernel
theorem dX3_firstBest_23 : decode cX3_firstBest 23 = .ok (.istore 6, 2) := by decide +kernel
theorem dX3_firstBest_25 : decode cX3_firstBest 25 = .ok (.iload 6, 2) := by decide +kernel
theorem dX3_firstBest_27 : decode cX3_firstBest 27 = .ok (.iload 4, 2) := by decide +kernel
theorem dX3_firstBest_29 : decode cX3_firstBest 29 = .ok (.if_icmp .gt 34, 3) := by decide +kernel
theorem dX3_firstBest_32 : decode cX3_firstBest 32 = .ok (.aload_n 0, 1) := by decide +kernel
theorem dX3_firstBest_33 : decode cX3_firstBest 33 = .ok (.aload_n 1, 1) := by decide +kernel
theorem dX3_firstBest_34 : decode cX3_firstBest 34 = .ok (.iload_n 2, 1) := by decide +kernel
theorem dX3_firstBest_35 : decode cX3_firstBest 35 = .ok (.iload_n 3, 1) := by decide +kernel
theorem dX3_firstBest_36 : decode cX3_firstBest 36 = .ok (.iload 6, 2) := by decide +kernel
theorem dX3_firstBest_38 : decode cX3_firstBest 38 = .ok (.invokevirtual 39, 3) := by decide +kernel
theorem dX3_firstBest_41 : decode cX3_firstBest 41 = .ok (.aload_n 0, 1) := by decide +kernel
theorem dX3_firstBest_42 : decode cX3_firstBest 42 = .ok (.aload_n 1, 1) := by decide +kernel
theorem dX3_firstBest_43 : decode cX3_firstBest 43 = .ok (.iload_n 2, 1) := by decide +kernel
theorem dX3_firstBest_44 : decode cX3_firstBest 44 = .ok (.iload_n 3, 1) := by decide +kernel
theorem dX3_firstBest_45 : decode cX3_firstBest 45 = .ok (.iload 5, 2) := by decide +kernel
theorem dX3_firstBest_47 : decode cX3_firstBest 47 = .ok (.invokevirtual 39, 3) := by decide +kernel
theorem dX3_firstBest_50 : decode cX3_firstBest 50 = .ok (.if_icmp .ge 7, 3) := by decide +kernel
theorem dX3_firstBest_53 : decode cX3_firstBest 53 = .ok (.iload 6, 2) := by decide +kernel
theorem dX3_firstBest_55 : decode cX3_firstBest 55 = .ok (.istore 5, 2) := by decide +kernel
theorem dX3_firstBest_57 : decode cX3_firstBest 57 = .ok (.iinc 6 1, 3) := by decide +kernel
theorem dX3_firstBest_60 : decode cX3_firstBest 60 = .ok (.goto (-35), 3) := by decide +kernel
theorem dX3_firstBest_63 : decode cX3_firstBest 63 = .ok (.iload 5, 2) := by decide +kernel
theorem dX3_firstBest_65 : decode cX3_firstBest 65 = .ok (.ireturn, 1) := by decide +kernel
theorem dX3_payWith_0 : decode cX3_payWith 0 = .ok (.aload_n 1, 1) := by decide +kernel
theorem dX3_payWith_1 : decode cX3_payWith 1 = .ok (.getfield 47, 3) := by decide +kernel
theorem dX3_payWith_4 : decode cX3_payWith 4 = .ok (.iload_n 2, 1) := by decide +kernel
theorem dX3_payWith_5 : decode cX3_payWith 5 = .ok (.aaload, 1) := by decide +kernel
theorem dX3_payWith_6 : decode cX3_payWith 6 = .ok (.iload 4, 2) := by decide +kernel
theorem dX3_payWith_8 : decode cX3_payWith 8 = .ok (.aload_n 1, 1) := by decide +kernel
theorem dX3_payWith_9 : decode cX3_payWith 9 = .ok (.getfield 51, 3) := by decide +kernel
theorem dX3_payWith_12 : decode cX3_payWith 12 = .ok (.invokevirtual 60, 3) := by decide +kernel
theorem dX3_payWith_15 : decode cX3_payWith 15 = .ok (.aload_n 0, 1) := by decide +kernel
theorem dX3_payWith_16 : decode cX3_payWith 16 = .ok (.getfield 11, 3) := by decide +kernel
theorem dX3_payWith_19 : decode cX3_payWith 19 = .ok (.iload_n 2, 1) := by decide +kernel
theorem dX3_payWith_20 : decode cX3_payWith 20 = .ok (.iconst 1, 1) := by decide +kernel
theorem dX3_payWith_21 : decode cX3_payWith 21 = .ok (.iadd, 1) := by decide +kernel
theorem dX3_payWith_22 : decode cX3_payWith 22 = .ok (.aaload, 1) := by decide +kernel
theorem dX3_payWith_23 : decode cX3_payWith 23 = .ok (.iload_n 3, 1) := by decide +kernel
theorem dX3_payWith_24 : decode cX3_payWith 24 = .ok (.iload 4, 2) := by decide +kernel
theorem dX3_payWith_26 : decode cX3_payWith 26 = .ok (.isub, 1) := by decide +kernel
theorem dX3_payWith_27 : decode cX3_payWith 27 = .ok (.iaload, 1) := by decide +kernel
theorem dX3_payWith_28 : decode cX3_payWith 28 = .ok (.iadd, 1) := by decide +kernel
theorem dX3_payWith_29 : decode cX3_payWith 29 = .ok (.ireturn, 1) := by decide +kernel
theorem dX4_init_0 : decode cX4_init 0 = .ok (.aload_n 0, 1) := by decide +kernel
theorem dX4_init_1 : decode cX4_init 1 = .ok (.invokespecial 3, 3) := by decide +kernel
theorem dX4_init_4 : decode cX4_init 4 = .ok (.aload_n 0, 1) := by decide +kernel
theorem dX4_init_5 : decode cX4_init 5 = .ok (.sipush 160, 3) := by decide +kernel
theorem dX4_init_8 : decode cX4_init 8 = .ok (.newarray .long, 2) := by decide +kernel
theorem dX4_init_10 : decode cX4_init 10 = .ok (.putfield 9, 3) := by decide +kernel
theorem dX4_init_13 : decode cX4_init 13 = .ok (.aload_n 0, 1) := by decide +kernel
theorem dX4_init_14 : decode cX4_init 14 = .ok (.iconst (-1), 1) := by decide +kernel
theorem dX4_init_15 : decode cX4_init 15 = .ok (.putfield 15, 3) := by decide +kernel
theorem dX4_init_18 : decode cX4_init 18 = .ok (.aload_n 0, 1) := by decide +kernel
theorem dX4_init_19 : decode cX4_init 19 = .ok (.iconst 0, 1) := by decide +kernel
theorem dX4_init_20 : decode cX4_init 20 = .ok (.putfield 19, 3) := by decide +kernel
theorem dX4_init_23 : decode cX4_init 23 = .ok (.return_, 1) := by decide +kernel
theorem dX4_isRow_0 : decode cX4_isRow 0 = .ok (.aload_n 0, 1) := by decide +kernel
theorem dX4_isRow_1 : decode cX4_isRow 1 = .ok (.getfield 15, 3) := by decide +kernel
theorem dX4_isRow_4 : decode cX4_isRow 4 = .ok (.bipush 100, 2) := by decide +kernel
theorem dX4_isRow_6 : decode cX4_isRow 6 = .ok (.if_icmp .lt 7, 3) := by decide +kernel
theorem dX4_isRow_9 : decode cX4_isRow 9 = .ok (.iconst 1, 1) := by decide +kernel
theorem dX4_isRow_10 : decode cX4_isRow 10 = .ok (.goto 4, 3) := by decide +kernel
theorem dX4_isRow_13 : decode cX4_isRow 13 = .ok (.iconst 0, 1) := by decide +kernel
theorem dX4_isRow_14 : decode cX4_isRow 14 = .ok (.ireturn, 1) := by decide +kernel
theorem dX4_layRow_0 : decode cX4_layRow 0 = .ok (.aload_n 0, 1) := by decide +kernel
theorem dX4_layRow_1 : decode cX4_layRow 1 = .ok (.bipush 100, 2) := by decide +kernel
theorem dX4_layRow_3 : decode cX4_layRow 3 = .ok (.iload_n 1, 1) := by decide +kernel
theorem dX4_layRow_4 : decode cX4_layRow 4 = .ok (.iadd, 1) := by decide +kernel
theorem dX4_layRow_5 : decode cX4_layRow 5 = .ok (.putfield 15, 3) := by decide +kernel
theorem dX4_layRow_8 : decode cX4_layRow 8 = .ok (.aload_n 0, 1) := by decide +kernel
theorem dX4_layRow_9 : decode cX4_layRow 9 = .ok (.iload_n 2, 1) := by decide +kernel
theorem dX4_layRow_10 : decode cX4_layRow 10 = .ok (.putfield 19, 3) := by decide +kernel
theorem dX4_layRow_13 : decode cX4_layRow 13 = .ok (.iconst 0, 1) := by decide +kernel
theorem dX4_layRow_14 : decode cX4_layRow 14 = .ok (.istore_n 3, 1) := by decide +kernel
theorem dX4_layRow_15 : decode cX4_layRow 15 = .ok (.iload_n 3, 1) := by decide +kernel
theorem dX4_layRow_16 : decode cX4_layRow 16 = .ok (.sipush 160, 3) := by decide +kernel
theorem dX4_layRow_19 : decode cX4_layRow 19 = .ok (.if_icmp .ge 16, 3) := by decide +kernel
theorem dX4_layRow_22 : decode cX4_layRow 22 = .ok (.aload_n 0, 1) := by decide +kernel
theorem dX4_layRow_23 : decode cX4_layRow 23 = .ok (.getfield 9, 3) := by decide +kernel
theorem dX4_layRow_26 : decode cX4_layRow 26 = .ok (.iload_n 3, 1) := by decide +kernel
theorem dX4_layRow_27 : decode cX4_layRow 27 = .ok (.lconst 0, 1) := by decide +kernel
theorem dX4_layRow_28 : decode cX4_layRow 28 = .ok (.lastore, 1) := by decide +kernel
theorem dX4_layRow_29 : decode cX4_layRow 29 = .ok (.iinc 3 1, 3) := by decide +kernel
theorem dX4_layRow_32 : decode cX4_layRow 32 = .ok (.goto (-17), 3) := by decide +kernel
theorem dX4_layRow_35 : decode cX4_layRow 35 = .ok (.return_, 1) := by decide +kernel
theorem dX4_hold_0 : decode cX4_hold 0 = .ok (.aload_n 0, 1) := by decide +kernel
theorem dX4_hold_1 : decode cX4_hold 1 = .ok (.iload_n 1, 1) := by decide +kernel
theorem dX4_hold_2 : decode cX4_hold 2 = .ok (.putfield 15, 3) := by decide +kernel
theorem dX4_hold_5 : decode cX4_hold 5 = .ok (.aload_n 0, 1) := by decide +kernel
theorem dX4_hold_6 : decode cX4_hold 6 = .ok (.iconst 0, 1) := by decide +kernel
theorem dX4_hold_7 : decode cX4_hold 7 = .ok (.putfield 19, 3) := by decide +kernel
theorem dX4_hold_10 : decode cX4_hold 10 = .ok (.return_, 1) := by decide +kernel
theorem dX4_hasElement_0 : decode cX4_hasElement 0 = .ok (.iload_n 1, 1) := by decide +kernel
theorem dX4_hasElement_1 : decode cX4_hasElement 1 = .ok (.ifCond .lt 22, 3) := by decide +kernel
theorem dX4_hasElement_4 : decode cX4_hasElement 4 = .ok (.iload_n 1, 1) := by decide +kernel
theorem dX4_hasElement_5 : decode cX4_hasElement 5 = .ok (.aload_n 0, 1) := by decide +kernel
theorem dX4_hasElement_6 : decode cX4_hasElement 6 = .ok (.getfield 19, 3) := by decide +kernel
theorem dX4_hasElement_9 : decode cX4_hasElement 9 = .ok (.if_icmp .ge 14, 3) := by decide +kernel
theorem dX4_hasElement_12 : decode cX4_hasElement 12 = .ok (.iload_n 1, 1) := by decide +kernel
theorem dX4_hasElement_13 : decode cX4_hasElement 13 = .ok (.sipush 160, 3) := by decide +kernel
theorem dX4_hasElement_16 : decode cX4_hasElement 16 = .ok (.if_icmp .ge 7, 3) := by decide +kernel
theorem dX4_hasElement_19 : decode cX4_hasElement 19 = .ok (.iconst 1, 1) := by decide +kernel
theorem dX4_hasElement_20 : decode cX4_hasElement 20 = .ok (.goto 4, 3) := by decide +kernel
theorem dX4_hasElement_23 : decode cX4_hasElement 23 = .ok (.iconst 0, 1) := by decide +kernel
theorem dX4_hasElement_24 : decode cX4_hasElement 24 = .ok (.ireturn, 1) := by decide +kernel
theorem dX4_hasPart_0 : decode cX4_hasPart 0 = .ok (.iload_n 1, 1) := by decide +kernel
theorem dX4_hasPart_1 : decode cX4_hasPart 1 = .ok (.ifCond .lt 29, 3) := by decide +kernel
theorem dX4_hasPart_4 : decode cX4_hasPart 4 = .ok (.iload_n 1, 1) := by decide +kernel
theorem dX4_hasPart_5 : decode cX4_hasPart 5 = .ok (.aload_n 0, 1) := by decide +kernel
theorem dX4_hasPart_6 : decode cX4_hasPart 6 = .ok (.getfield 19, 3) := by decide +kernel
theorem dX4_hasPart_9 : decode cX4_hasPart 9 = .ok (.if_icmp .gt 21, 3) := by decide +kernel
theorem dX4_hasPart_12 : decode cX4_hasPart 12 = .ok (.iload_n 2, 1) := by decide +kernel
theorem dX4_hasPart_13 : decode cX4_hasPart 13 = .ok (.ifCond .lt 17, 3) := by decide +kernel
theorem dX4_hasPart_16 : decode cX4_hasPart 16 = .ok (.iload_n 2, 1) := by decide +kernel
theorem dX4_hasPart_17 : decode cX4_hasPart 17 = .ok (.aload_n 0, 1) := by decide +kernel
theorem dX4_hasPart_18 : decode cX4_hasPart 18 = .ok (.getfield 19, 3) := by decide +kernel
theorem dX4_hasPart_21 : decode cX4_hasPart 21 = .ok (.iload_n 1, 1) := by decide +kernel
theorem dX4_hasPart_22 : decode cX4_hasPart 22 = .ok (.isub, 1) := by decide +kernel
theorem dX4_hasPart_23 : decode cX4_hasPart 23 = .ok (.if_icmp .gt 7, 3) := by decide +kernel
theorem dX4_hasPart_26 : decode cX4_hasPart 26 = .ok (.iconst 1, 1) := by decide +kernel
theorem dX4_hasPart_27 : decode cX4_hasPart 27 = .ok (.goto 4, 3) := by decide +kernel
theorem dX4_hasPart_30 : decode cX4_hasPart 30 = .ok (.iconst 0, 1) := by decide +kernel
theorem dX4_hasPart_31 : decode cX4_hasPart 31 = .ok (.ireturn, 1) := by decide +kernel
theorem dX4_put_0 : decode cX4_put 0 = .ok (.aload_n 0, 1) := by decide +kernel
theorem dX4_put_1 : decode cX4_put 1 = .ok (.iload_n 1, 1) := by decide +kernel
theorem dX4_put_2 : decode cX4_put 2 = .ok (.invokevirtual 22, 3) := by decide +kernel
theorem dX4_put_5 : decode cX4_put 5 = .ok (.ifCond .eq 14, 3) := by decide +kernel
theorem dX4_put_8 : decode cX4_put 8 = .ok (.aload_n 0, 1) := by decide +kernel
theorem dX4_put_9 : decode cX4_put 9 = .ok (.getfield 9, 3) := by decide +kernel
theorem dX4_put_12 : decode cX4_put 12 = .ok (.iload_n 1, 1) := by decide +kernel
theorem dX4_put_13 : decode cX4_put 13 = .ok (.aload_n 0, 1) := by decide +kernel
theorem dX4_put_14 : decode cX4_put 14 = .ok (.lload_n 2, 1) := by decide +kernel
theorem dX4_put_15 : decode cX4_put 15 = .ok (.invokevirtual 26, 3) := by decide +kernel
theorem dX4_put_18 : decode cX4_put 18 = .ok (.lastore, 1) := by decide +kernel
theorem dX4_put_19 : decode cX4_put 19 = .ok (.return_, 1) := by decide +kernel
theorem dX4_lowestBits_0 : decode cX4_lowestBits 0 = .ok (.aload_n 0, 1) := by decide +kernel
theorem dX4_lowestBits_1 : decode cX4_lowestBits 1 = .ok (.getfield 15, 3) := by decide +kernel
theorem dX4_lowestBits_4 : decode cX4_lowestBits 4 = .ok (.bipush 100, 2) := by decide +kernel
theorem dX4_lowestBits_6 : decode cX4_lowestBits 6 = .ok (.isub, 1) := by decide +kernel
theorem dX4_lowestBits_7 : decode cX4_lowestBits 7 = .ok (.tableswitch 39 0 2 #[25, 30, 35], 25) := by decide +kernel
theorem dX4_lowestBits_32 : decode cX4_lowestBits 32 = .ok (.lload_n 1, 1) := by decide +kernel
theorem dX4_lowestBits_33 : decode cX4_lowestBits 33 = .ok (.l2i, 1) := by decide +kernel
theorem dX4_lowestBits_34 : decode cX4_lowestBits 34 = .ok (.i2b, 1) := by decide +kernel
theorem dX4_lowestBits_35 : decode cX4_lowestBits 35 = .ok (.i2l, 1) := by decide +kernel
theorem dX4_lowestBits_36 : decode cX4_lowestBits 36 = .ok (.lreturn, 1) := by decide +kernel
theorem dX4_lowestBits_37 : decode cX4_lowestBits 37 = .ok (.lload_n 1, 1) := by decide +kernel
theorem dX4_lowestBits_38 : decode cX4_lowestBits 38 = .ok (.l2i, 1) := by decide +kernel
theorem dX4_lowestBits_39 : decode cX4_lowestBits 39 = .ok (.i2s, 1) := by decide +kernel
theorem dX4_lowestBits_40 : decode cX4_lowestBits 40 = .ok (.i2l, 1) := by decide +kernel
theorem dX4_lowestBits_41 : decode cX4_lowestBits 41 = .ok (.lreturn, 1) := by decide +kernel
theorem dX4_lowestBits_42 : decode cX4_lowestBits 42 = .ok (.lload_n 1, 1) := by decide +kernel
theorem dX4_lowestBits_43 : decode cX4_lowestBits 43 = .ok (.l2i, 1) := by decide +kernel
theorem dX4_lowestBits_44 : decode cX4_lowestBits 44 = .ok (.i2l, 1) := by decide +kernel
theorem dX4_lowestBits_45 : decode cX4_lowestBits 45 = .ok (.lreturn, 1) := by decide +kernel
theorem dX4_lowestBits_46 : decode cX4_lowestBits 46 = .ok (.lload_n 1, 1) := by decide +kernel
theorem dX4_lowestBits_47 : decode cX4_lowestBits 47 = .ok (.lreturn, 1) := by decide +kernel
theorem dX4_at_0 : decode cX4_at 0 = .ok (.aload_n 0, 1) := by decide +kernel
theorem dX4_at_1 : decode cX4_at 1 = .ok (.iload_n 1, 1) := by decide +kernel
theorem dX4_at_2 : decode cX4_at 2 = .ok (.invokevirtual 22, 3) := by decide +kernel
theorem dX4_at_5 : decode cX4_at 5 = .ok (.ifCond .eq 12, 3) := by decide +kernel
theorem dX4_at_8 : decode cX4_at 8 = .ok (.aload_n 0, 1) := by decide +kernel
theorem dX4_at_9 : decode cX4_at 9 = .ok (.getfield 9, 3) := by decide +kernel
theorem dX4_at_12 : decode cX4_at 12 = .ok (.iload_n 1, 1) := by decide +kernel
theorem dX4_at_13 : decode cX4_at 13 = .ok (.laload, 1) := by decide +kernel
theorem dX4_at_14 : decode cX4_at 14 = .ok (.goto 4, 3) := by decide +kernel
theorem dX4_at_17 : decode cX4_at 17 = .ok (.lconst 0, 1) := by decide +kernel
theorem dX4_at_18 : decode cX4_at 18 = .ok (.lreturn, 1) := by decide +kernel
theorem dX4_number_0 : decode cX4_number 0 = .ok (.aload_n 0, 1) := by decide +kernel
theorem dX4_number_1 : decode cX4_number 1 = .ok (.iload_n 1, 1) := by decide +kernel
theorem dX4_number_2 : decode cX4_number 2 = .ok (.invokevirtual 30, 3) := by decide +kernel
theorem dX4_number_5 : decode cX4_number 5 = .ok (.l2i, 1) := by decide +kernel
theorem dX4_number_6 : decode cX4_number 6 = .ok (.ireturn, 1) := by decide +kernel
theorem dX5_init_0 : decode cX5_init 0 = .ok (.aload_n 0, 1) := by decide +kernel
theorem dX5_init_1 : decode cX5_init 1 = .ok (.invokespecial 3, 3) := by decide +kernel
theorem dX5_init_4 : decode cX5_init 4 = .ok (.return_, 1) := by decide +kernel
theorem dX5_become_0 : decode cX5_become 0 = .ok (.aload_n 0, 1) := by decide +kernel
theorem dX5_become_1 : decode cX5_become 1 = .ok (.aload_n 1, 1) := by decide +kernel
theorem dX5_become_2 : decode cX5_become 2 = .ok (.getfield 9, 3) := by decide +kernel
theorem dX5_become_5 : decode cX5_become 5 = .ok (.putfield 9, 3) := by decide +kernel
theorem dX5_become_8 : decode cX5_become 8 = .ok (.aload_n 0, 1) := by decide +kernel
theorem dX5_become_9 : decode cX5_become 9 = .ok (.aload_n 1, 1) := by decide +kernel
theorem dX5_become_10 : decode cX5_become 10 = .ok (.getfield 15, 3) := by decide +kernel
theorem dX5_become_13 : decode cX5_become 13 = .ok (.putfield 15, 3) := by decide +kernel
theorem dX5_become_16 : decode cX5_become 16 = .ok (.aload_n 0, 1) := by decide +kernel
theorem dX5_become_17 : decode cX5_become 17 = .ok (.aload_n 1, 1) := by decide +kernel
theorem dX5_become_18 : decode cX5_become 18 = .ok (.getfield 18, 3) := by decide +kernel
theorem dX5_become_21 : decode cX5_become 21 = .ok (.putfield 18, 3) := by decide +kernel
theorem dX5_become_24 : decode cX5_become 24 = .ok (.aload_n 0, 1) := by decide +kernel
theorem dX5_become_25 : decode cX5_become 25 = .ok (.aload_n 1, 1) := by decide +kernel
theorem dX5_become_26 : decode cX5_become 26 = .ok (.getfield 21, 3) := by decide +kernel
theorem dX5_become_29 : decode cX5_become 29 = .ok (.putfield 21, 3) := by decide +kernel
theorem dX5_become_32 : decode cX5_become 32 = .ok (.aload_n 0, 1) := by decide +kernel
theorem dX5_become_33 : decode cX5_become 33 = .ok (.aload_n 1, 1) := by decide +kernel
theorem dX5_become_34 : decode cX5_become 34 = .ok (.getfield 24, 3) := by decide +kernel
theorem dX5_become_37 : decode cX5_become 37 = .ok (.putfield 24, 3) := by decide +kernel
theorem dX5_become_40 : decode cX5_become 40 = .ok (.aload_n 0, 1) := by decide +kernel
theorem dX5_become_41 : decode cX5_become 41 = .ok (.aload_n 1, 1) := by decide +kernel
theorem dX5_become_42 : decode cX5_become 42 = .ok (.getfield 27, 3) := by decide +kernel
theorem dX5_become_45 : decode cX5_become 45 = .ok (.putfield 27, 3) := by decide +kernel
theorem dX5_become_48 : decode cX5_become 48 = .ok (.aload_n 0, 1) := by decide +kernel
theorem dX5_become_49 : decode cX5_become 49 = .ok (.aload_n 1, 1) := by decide +kernel
theorem dX5_become_50 : decode cX5_become 50 = .ok (.getfield 30, 3) := by decide +kernel
theorem dX5_become_53 : decode cX5_become 53 = .ok (.putfield 30, 3) := by decide +kernel
theorem dX5_become_56 : decode cX5_become 56 = .ok (.return_, 1) := by decide +kernel
theorem dX5_quarters_0 : decode cX5_quarters 0 = .ok (.aload_n 0, 1) := by decide +kernel
theorem dX5_quarters_1 : decode cX5_quarters 1 = .ok (.getfield 18, 3) := by decide +kernel
theorem dX5_quarters_4 : decode cX5_quarters 4 = .ok (.aload_n 0, 1) := by decide +kernel
theorem dX5_quarters_5 : decode cX5_quarters 5 = .ok (.getfield 15, 3) := by decide +kernel
theorem dX5_quarters_8 : decode cX5_quarters 8 = .ok (.isub, 1) := by decide +kernel
theorem dX5_quarters_9 : decode cX5_quarters 9 = .ok (.iconst 1, 1) := by decide +kernel
theorem dX5_quarters_10 : decode cX5_quarters 10 = .ok (.iadd, 1) := by decide +kernel
theorem dX5_quarters_11 : decode cX5_quarters 11 = .ok (.ireturn, 1) := by decide +kernel
theorem dX5_cases_0 : decode cX5_cases 0 = .ok (.aload_n 0, 1) := by decide +kernel
theorem dX5_cases_1 : decode cX5_cases 1 = .ok (.invokevirtual 33, 3) := by decide +kernel
theorem dX5_cases_4 : decode cX5_cases 4 = .ok (.aload_n 0, 1) := by decide +kernel
theorem dX5_cases_5 : decode cX5_cases 5 = .ok (.getfield 21, 3) := by decide +kernel
theorem dX5_cases_8 : decode cX5_cases 8 = .ok (.iadd, 1) := by decide +kernel
theorem dX5_cases_9 : decode cX5_cases 9 = .ok (.ireturn, 1) := by decide +kernel
theorem dX5_casesBy_0 : decode cX5_casesBy 0 = .ok (.iconst 0, 1) := by decide +kernel
theorem dX5_casesBy_1 : decode cX5_casesBy 1 = .ok (.iload_n 1, 1) := by decide +kernel
theorem dX5_casesBy_2 : decode cX5_casesBy 2 = .ok (.aload_n 0, 1) := by decide +kernel
theorem dX5_casesBy_3 : decode cX5_casesBy 3 = .ok (.getfield 18, 3) := by decide +kernel
theorem dX5_casesBy_6 : decode cX5_casesBy 6 = .ok (.invokestatic 37, 3) := by decide +kernel
theorem dX5_casesBy_9 : decode cX5_casesBy 9 = .ok (.aload_n 0, 1) := by decide +kernel
theorem dX5_casesBy_10 : decode cX5_casesBy 10 = .ok (.getfield 15, 3) := by decide +kernel
theorem dX5_casesBy_13 : decode cX5_casesBy 13 = .ok (.isub, 1) := by decide +kernel
theorem dX5_casesBy_14 : decode cX5_casesBy 14 = .ok (.iconst 1, 1) := by decide +kernel
theorem dX5_casesBy_15 : decode cX5_casesBy 15 = .ok (.iadd, 1) := by decide +kernel
theorem dX5_casesBy_16 : decode cX5_casesBy 16 = .ok (.invokestatic 43, 3) := by decide +kernel
theorem dX5_casesBy_19 : decode cX5_casesBy 19 = .ok (.ireturn, 1) := by decide +kernel
theorem dX5_canComeIn_0 : decode cX5_canComeIn 0 = .ok (.iload_n 1, 1) := by decide +kernel
theorem dX5_canComeIn_1 : decode cX5_canComeIn 1 = .ok (.aload_n 0, 1) := by decide +kernel
theorem dX5_canComeIn_2 : decode cX5_canComeIn 2 = .ok (.getfield 15, 3) := by decide +kernel
theorem dX5_canComeIn_5 : decode cX5_canComeIn 5 = .ok (.aload_n 0, 1) := by decide +kernel
theorem dX5_canComeIn_6 : decode cX5_canComeIn 6 = .ok (.getfield 18, 3) := by decide +kernel
theorem dX5_canComeIn_9 : decode cX5_canComeIn 9 = .ok (.invokestatic 46, 3) := by decide +kernel
theorem dX5_canComeIn_12 : decode cX5_canComeIn 12 = .ok (.ireturn, 1) := by decide +kernel
theorem dX5_mayHave_0 : decode cX5_mayHave 0 = .ok (.aload_n 0, 1) := by decide +kernel
theorem dX5_mayHave_1 : decode cX5_mayHave 1 = .ok (.iload_n 1, 1) := by decide +kernel
theorem dX5_mayHave_2 : decode cX5_mayHave 2 = .ok (.invokevirtual 50, 3) := by decide +kernel
theorem dX5_mayHave_5 : decode cX5_mayHave 5 = .ok (.ifCond .ne 16, 3) := by decide +kernel
theorem dX5_mayHave_8 : decode cX5_mayHave 8 = .ok (.iload_n 1, 1) := by decide +kernel
theorem dX5_mayHave_9 : decode cX5_mayHave 9 = .ok (.bipush 99, 2) := by decide +kernel
theorem dX5_mayHave_11 : decode cX5_mayHave 11 = .ok (.if_icmp .ne 14, 3) := by decide +kernel
theorem dX5_mayHave_14 : decode cX5_mayHave 14 = .ok (.aload_n 0, 1) := by decide +kernel
theorem dX5_mayHave_15 : decode cX5_mayHave 15 = .ok (.getfield 21, 3) := by decide +kernel
theorem dX5_mayHave_18 : decode cX5_mayHave 18 = .ok (.ifCond .le 7, 3) := by decide +kernel
theorem dX5_mayHave_21 : decode cX5_mayHave 21 = .ok (.iconst 1, 1) := by decide +kernel
theorem dX5_mayHave_22 : decode cX5_mayHave 22 = .ok (.goto 4, 3) := by decide +kernel
theorem dX5_mayHave_25 : decode cX5_mayHave 25 = .ok (.iconst 0, 1) := by decide +kernel
theorem dX5_mayHave_26 : decode cX5_mayHave 26 = .ok (.ireturn, 1) := by decide +kernel
theorem dX5_isMet_0 : decode cX5_isMet 0 = .ok (.iload_n 1, 1) := by decide +kernel
theorem dX5_isMet_1 : decode cX5_isMet 1 = .ok (.ifCond .eq 12, 3) := by decide +kernel
theorem dX5_isMet_4 : decode cX5_isMet 4 = .ok (.aload_n 0, 1) := by decide +kernel
theorem dX5_isMet_5 : decode cX5_isMet 5 = .ok (.getfield 30, 3) := by decide +kernel
theorem dX5_isMet_8 : decode cX5_isMet 8 = .ok (.iconst 2, 1) := by decide +kernel
theorem dX5_isMet_9 : decode cX5_isMet 9 = .ok (.idiv, 1) := by decide +kernel
theorem dX5_isMet_10 : decode cX5_isMet 10 = .ok (.goto 7, 3) := by decide +kernel
theorem dX5_isMet_13 : decode cX5_isMet 13 = .ok (.aload_n 0, 1) := by decide +kernel
theorem dX5_isMet_14 : decode cX5_isMet 14 = .ok (.getfield 30, 3) := by decide +kernel
theorem dX5_isMet_17 : decode cX5_isMet 17 = .ok (.aload_n 0, 1) := by decide +kernel
theorem dX5_isMet_18 : decode cX5_isMet 18 = .ok (.getfield 27, 3) := by decide +kernel
theorem dX5_isMet_21 : decode cX5_isMet 21 = .ok (.if_icmp .gt 7, 3) := by decide +kernel
theorem dX5_isMet_24 : decode cX5_isMet 24 = .ok (.iconst 1, 1) := by decide +kernel
theorem dX5_isMet_25 : decode cX5_isMet 25 = .ok (.goto 4, 3) := by decide +kernel
theorem dX5_isMet_28 : decode cX5_isMet 28 = .ok (.iconst 0, 1) := by decide +kernel
theorem dX5_isMet_29 : decode cX5_isMet 29 = .ok (.ireturn, 1) := by decide +kernel
theorem dX5_needsRunner_0 : decode cX5_needsRunner 0 = .ok (.aload_n 0, 1) := by decide +kernel
theorem dX5_needsRunner_1 : decode cX5_needsRunner 1 = .ok (.iconst 0, 1) := by decide +kernel
theorem dX5_needsRunner_2 : decode cX5_needsRunner 2 = .ok (.invokevirtual 54, 3) := by decide +kernel
theorem dX5_needsRunner_5 : decode cX5_needsRunner 5 = .ok (.ifCond .ne 15, 3) := by decide +kernel
theorem dX5_needsRunner_8 : decode cX5_needsRunner 8 = .ok (.aload_n 0, 1) := by decide +kernel
theorem dX5_needsRunner_9 : decode cX5_needsRunner 9 = .ok (.iconst 1, 1) := by decide +kernel
theorem dX5_needsRunner_10 : decode cX5_needsRunner 10 = .ok (.invokevirtual 54, 3) := by decide +kernel
theorem dX5_needsRunner_13 : decode cX5_needsRunner 13 = .ok (.ifCond .eq 7, 3) := by decide +kernel
theorem dX5_needsRunner_16 : decode cX5_needsRunner 16 = .ok (.iconst 1, 1) := by decide +kernel
theorem dX5_needsRunner_17 : decode cX5_needsRunner 17 = .ok (.goto 4, 3) := by decide +kernel
theorem dX5_needsRunner_20 : decode cX5_needsRunner 20 = .ok (.iconst 0, 1) := by decide +kernel
theorem dX5_needsRunner_21 : decode cX5_needsRunner 21 = .ok (.ireturn, 1) := by decide +kernel
theorem dX5_tell_0 : decode cX5_tell 0 = .ok (.iload_n 1, 1) := by decide +kernel
theorem dX5_tell_1 : decode cX5_tell 1 = .ok (.tableswitch 78 0 6 #[43, 48, 53, 58, 63, 68, 73], 43) := by decide +kernel
theorem dX5_tell_44 : decode cX5_tell 44 = .ok (.aload_n 0, 1) := by decide +kernel
theorem dX5_tell_45 : decode cX5_tell 45 = .ok (.getfield 9, 3) := by decide +kernel
theorem dX5_tell_48 : decode cX5_tell 48 = .ok (.ireturn, 1) := by decide +kernel
theorem dX5_tell_49 : decode cX5_tell 49 = .ok (.aload_n 0, 1) := by decide +kernel
theorem dX5_tell_50 : decode cX5_tell 50 = .ok (.getfield 15, 3) := by decide +kernel
theorem dX5_tell_53 : decode cX5_tell 53 = .ok (.ireturn, 1) := by decide +kernel
theorem dX5_tell_54 : decode cX5_tell 54 = .ok (.aload_n 0, 1) := by decide +kernel
theorem dX5_tell_55 : decode cX5_tell 55 = .ok (.getfield 18, 3) := by decide +kernel
theorem dX5_tell_58 : decode cX5_tell 58 = .ok (.ireturn, 1) := by decide +kernel
theorem dX5_tell_59 : decode cX5_tell 59 = .ok (.aload_n 0, 1) := by decide +kernel
theorem dX5_tell_60 : decode cX5_tell 60 = .ok (.getfield 21, 3) := by decide +kernel
theorem dX5_tell_63 : decode cX5_tell 63 = .ok (.ireturn, 1) := by decide +kernel
theorem dX5_tell_64 : decode cX5_tell 64 = .ok (.aload_n 0, 1) := by decide +kernel
theorem dX5_tell_65 : decode cX5_tell 65 = .ok (.getfield 24, 3) := by decide +kernel
theorem dX5_tell_68 : decode cX5_tell 68 = .ok (.ireturn, 1) := by decide +kernel
theorem dX5_tell_69 : decode cX5_tell 69 = .ok (.aload_n 0, 1) := by decide +kernel
theorem dX5_tell_70 : decode cX5_tell 70 = .ok (.getfield 27, 3) := by decide +kernel
theorem dX5_tell_73 : decode cX5_tell 73 = .ok (.ireturn, 1) := by decide +kernel
theorem dX5_tell_74 : decode cX5_tell 74 = .ok (.aload_n 0, 1) := by decide +kernel
theorem dX5_tell_75 : decode cX5_tell 75 = .ok (.getfield 30, 3) := by decide +kernel
theorem dX5_tell_78 : decode cX5_tell 78 = .ok (.ireturn, 1) := by decide +kernel
theorem dX5_tell_79 : decode cX5_tell 79 = .ok (.aload_n 0, 1) := by decide +kernel
theorem dX5_tell_80 : decode cX5_tell 80 = .ok (.invokevirtual 58, 3) := by decide +kernel
theorem dX5_tell_83 : decode cX5_tell 83 = .ok (.ireturn, 1) := by decide +kernel
theorem dX6_init_0 : decode cX6_init 0 = .ok (.aload_n 0, 1) := by decide +kernel
theorem dX6_init_1 : decode cX6_init 1 = .ok (.invokespecial 3, 3) := by decide +kernel
theorem dX6_init_4 : decode cX6_init 4 = .ok (.aload_n 0, 1) := by decide +kernel
theorem dX6_init_5 : decode cX6_init 5 = .ok (.iload_n 1, 1) := by decide +kernel
theorem dX6_init_6 : decode cX6_init 6 = .ok (.putfield 9, 3) := by decide +kernel
theorem dX6_init_9 : decode cX6_init 9 = .ok (.return_, 1) := by decide +kernel
theorem dX6_become_0 : decode cX6_become 0 = .ok (.aload_n 0, 1) := by decide +kernel
theorem dX6_become_1 : decode cX6_become 1 = .ok (.aload_n 1, 1) := by decide +kernel
theorem dX6_become_2 : decode cX6_become 2 = .ok (.getfield 15, 3) := by decide +kernel
theorem dX6_become_5 : decode cX6_become 5 = .ok (.putfield 15, 3) := by decide +kernel
theorem dX6_become_8 : decode cX6_become 8 = .ok (.aload_n 0, 1) := by decide +kernel
theorem dX6_become_9 : decode cX6_become 9 = .ok (.aload_n 1, 1) := by decide +kernel
theorem dX6_become_10 : decode cX6_become 10 = .ok (.getfield 18, 3) := by decide +kernel
theorem dX6_become_13 : decode cX6_become 13 = .ok (.putfield 18, 3) := by decide +kernel
theorem dX6_become_16 : decode cX6_become 16 = .ok (.aload_n 0, 1) := by decide +kernel
theorem dX6_become_17 : decode cX6_become 17 = .ok (.aload_n 1, 1) := by decide +kernel
theorem dX6_become_18 : decode cX6_become 18 = .ok (.getfield 21, 3) := by decide +kernel
theorem dX6_become_21 : decode cX6_become 21 = .ok (.putfield 21, 3) := by decide +kernel
theorem dX6_become_24 : decode cX6_become 24 = .ok (.aload_n 0, 1) := by decide +kernel
theorem dX6_become_25 : decode cX6_become 25 = .ok (.aload_n 1, 1) := by decide +kernel
theorem dX6_become_26 : decode cX6_become 26 = .ok (.getfield 24, 3) := by decide +kernel
theorem dX6_become_29 : decode cX6_become 29 = .ok (.putfield 24, 3) := by decide +kernel
theorem dX6_become_32 : decode cX6_become 32 = .ok (.aload_n 0, 1) := by decide +kernel
theorem dX6_become_33 : decode cX6_become 33 = .ok (.aload_n 1, 1) := by decide +kernel
theorem dX6_become_34 : decode cX6_become 34 = .ok (.getfield 27, 3) := by decide +kernel
theorem dX6_become_37 : decode cX6_become 37 = .ok (.putfield 27, 3) := by decide +kernel
theorem dX6_become_40 : decode cX6_become 40 = .ok (.return_, 1) := by decide +kernel
theorem dX6_quartersHeld_0 : decode cX6_quartersHeld 0 = .ok (.bipush 24, 2) := by decide +kernel
theorem dX6_quartersHeld_2 : decode cX6_quartersHeld 2 = .ok (.aload_n 0, 1) := by decide +kernel
theorem dX6_quartersHeld_3 : decode cX6_quartersHeld 3 = .ok (.iload_n 1, 1) := by decide +kernel
theorem dX6_quartersHeld_4 : decode cX6_quartersHeld 4 = .ok (.invokevirtual 30, 3) := by decide +kernel
theorem dX6_quartersHeld_7 : decode cX6_quartersHeld 7 = .ok (.invokestatic 34, 3) := by decide +kernel
theorem dX6_quartersHeld_10 : decode cX6_quartersHeld 10 = .ok (.ireturn, 1) := by decide +kernel
theorem dX6_wouldHold_0 : decode cX6_wouldHold 0 = .ok (.aload_n 0, 1) := by decide +kernel
theorem dX6_wouldHold_1 : decode cX6_wouldHold 1 = .ok (.getfield 15, 3) := by decide +kernel
theorem dX6_wouldHold_4 : decode cX6_wouldHold 4 = .ok (.tableswitch 96 1 6 #[40, 50, 47, 76, 60, 85], 40) := by decide +kernel
theorem dX6_wouldHold_44 : decode cX6_wouldHold 44 = .ok (.iconst 2, 1) := by decide +kernel
theorem dX6_wouldHold_45 : decode cX6_wouldHold 45 = .ok (.aload_n 0, 1) := by decide +kernel
theorem dX6_wouldHold_46 : decode cX6_wouldHold 46 = .ok (.getfield 24, 3) := by decide +kernel
theorem dX6_wouldHold_49 : decode cX6_wouldHold 49 = .ok (.imul, 1) := by decide +kernel
theorem dX6_wouldHold_50 : decode cX6_wouldHold 50 = .ok (.ireturn, 1) := by decide +kernel
theorem dX6_wouldHold_51 : decode cX6_wouldHold 51 = .ok (.bipush 24, 2) := by decide +kernel
theorem dX6_wouldHold_53 : decode cX6_wouldHold 53 = .ok (.ireturn, 1) := by decide +kernel
theorem dX6_wouldHold_54 : decode cX6_wouldHold 54 = .ok (.aload_n 0, 1) := by decide +kernel
theorem dX6_wouldHold_55 : decode cX6_wouldHold 55 = .ok (.getfield 24, 3) := by decide +kernel
theorem dX6_wouldHold_58 : decode cX6_wouldHold 58 = .ok (.aload_n 0, 1) := by decide +kernel
theorem dX6_wouldHold_59 : decode cX6_wouldHold 59 = .ok (.getfield 18, 3) := by decide +kernel
theorem dX6_wouldHold_62 : decode cX6_wouldHold 62 = .ok (.iadd, 1) := by decide +kernel
theorem dX6_wouldHold_63 : decode cX6_wouldHold 63 = .ok (.ireturn, 1) := by decide +kernel
theorem dX6_wouldHold_64 : decode cX6_wouldHold 64 = .ok (.iconst 1, 1) := by decide +kernel
theorem dX6_wouldHold_65 : decode cX6_wouldHold 65 = .ok (.aload_n 0, 1) := by decide +kernel
theorem dX6_wouldHold_66 : decode cX6_wouldHold 66 = .ok (.getfield 24, 3) := by decide +kernel
theorem dX6_wouldHold_69 : decode cX6_wouldHold 69 = .ok (.aload_n 0, 1) := by decide +kernel
theorem dX6_wouldHold_70 : decode cX6_wouldHold 70 = .ok (.getfield 18, 3) := by decide +kernel
theorem dX6_wouldHold_73 : decode cX6_wouldHold 73 = .ok (.iadd, 1) := by decide +kernel
theorem dX6_wouldHold_74 : decode cX6_wouldHold 74 = .ok (.iconst 1, 1) := by decide +kernel
theorem dX6_wouldHold_75 : decode cX6_wouldHold 75 = .ok (.isub, 1) := by decide +kernel
theorem dX6_wouldHold_76 : decode cX6_wouldHold 76 = .ok (.invokestatic 40, 3) := by decide +kernel
theorem dX6_wouldHold_79 : decode cX6_wouldHold 79 = .ok (.ireturn, 1) := by decide +kernel
theorem dX6_wouldHold_80 : decode cX6_wouldHold 80 = .ok (.aload_n 0, 1) := by decide +kernel
theorem dX6_wouldHold_81 : decode cX6_wouldHold 81 = .ok (.getfield 24, 3) := by decide +kernel
theorem dX6_wouldHold_84 : decode cX6_wouldHold 84 = .ok (.iconst 1, 1) := by decide +kernel
theorem dX6_wouldHold_85 : decode cX6_wouldHold 85 = .ok (.iadd, 1) := by decide +kernel
theorem dX6_wouldHold_86 : decode cX6_wouldHold 86 = .ok (.iconst 2, 1) := by decide +kernel
theorem dX6_wouldHold_87 : decode cX6_wouldHold 87 = .ok (.idiv, 1) := by decide +kernel
theorem dX6_wouldHold_88 : decode cX6_wouldHold 88 = .ok (.ireturn, 1) := by decide +kernel
theorem dX6_wouldHold_89 : decode cX6_wouldHold 89 = .ok (.aload_n 0, 1) := by decide +kernel
theorem dX6_wouldHold_90 : decode cX6_wouldHold 90 = .ok (.getfield 24, 3) := by decide +kernel
theorem dX6_wouldHold_93 : decode cX6_wouldHold 93 = .ok (.iconst 1, 1) := by decide +kernel
theorem dX6_wouldHold_94 : decode cX6_wouldHold 94 = .ok (.iadd, 1) := by decide +kernel
theorem dX6_wouldHold_95 : decode cX6_wouldHold 95 = .ok (.iconst 2, 1) := by decide +kernel
theorem dX6_wouldHold_96 : decode cX6_wouldHold 96 = .ok (.idiv, 1) := by decide +kernel
theorem dX6_wouldHold_97 : decode cX6_wouldHold 97 = .ok (.iload_n 1, 1) := by decide +kernel
theorem dX6_wouldHold_98 : decode cX6_wouldHold 98 = .ok (.iadd, 1) := by decide +kernel
theorem dX6_wouldHold_99 : decode cX6_wouldHold 99 = .ok (.ireturn, 1) := by decide +kernel
theorem dX6_wouldHold_100 : decode cX6_wouldHold 100 = .ok (.aload_n 0, 1) := by decide +kernel
theorem dX6_wouldHold_101 : decode cX6_wouldHold 101 = .ok (.getfield 24, 3) := by decide +kernel
theorem dX6_wouldHold_104 : decode cX6_wouldHold 104 = .ok (.ireturn, 1) := by decide +kernel
theorem dX6_wageFor_0 : decode cX6_wageFor 0 = .ok (.aload_n 0, 1) := by decide +kernel
theorem dX6_wageFor_1 : decode cX6_wageFor 1 = .ok (.getfield 15, 3) := by decide +kernel
theorem dX6_wageFor_4 : decode cX6_wageFor 4 = .ok (.tableswitch 117 1 6 #[40, 59, 46, 81, 65, 97], 40) := by decide +kernel
theorem dX6_wageFor_44 : decode cX6_wageFor 44 = .ok (.aload_n 0, 1) := by decide +kernel
theorem dX6_wageFor_45 : decode cX6_wageFor 45 = .ok (.iload_n 1, 1) := by decide +kernel
theorem dX6_wageFor_46 : decode cX6_wageFor 46 = .ok (.invokevirtual 43, 3) := by decide +kernel
theorem dX6_wageFor_49 : decode cX6_wageFor 49 = .ok (.ireturn, 1) := by decide +kernel
theorem dX6_wageFor_50 : decode cX6_wageFor 50 = .ok (.aload_n 0, 1) := by decide +kernel
theorem dX6_wageFor_51 : decode cX6_wageFor 51 = .ok (.iload_n 1, 1) := by decide +kernel
theorem dX6_wageFor_52 : decode cX6_wageFor 52 = .ok (.aload_n 0, 1) := by decide +kernel
theorem dX6_wageFor_53 : decode cX6_wageFor 53 = .ok (.getfield 24, 3) := by decide +kernel
theorem dX6_wageFor_56 : decode cX6_wageFor 56 = .ok (.invokestatic 34, 3) := by decide +kernel
theorem dX6_wageFor_59 : decode cX6_wageFor 59 = .ok (.invokevirtual 43, 3) := by decide +kernel
theorem dX6_wageFor_62 : decode cX6_wageFor 62 = .ok (.ireturn, 1) := by decide +kernel
theorem dX6_wageFor_63 : decode cX6_wageFor 63 = .ok (.aload_n 0, 1) := by decide +kernel
theorem dX6_wageFor_64 : decode cX6_wageFor 64 = .ok (.iload_n 1, 1) := by decide +kernel
theorem dX6_wageFor_65 : decode cX6_wageFor 65 = .ok (.invokevirtual 46, 3) := by decide +kernel
theorem dX6_wageFor_68 : decode cX6_wageFor 68 = .ok (.ireturn, 1) := by decide +kernel
theorem dX6_wageFor_69 : decode cX6_wageFor 69 = .ok (.iload_n 1, 1) := by decide +kernel
theorem dX6_wageFor_70 : decode cX6_wageFor 70 = .ok (.ifCond .ne 7, 3) := by decide +kernel
theorem dX6_wageFor_73 : decode cX6_wageFor 73 = .ok (.iconst 0, 1) := by decide +kernel
theorem dX6_wageFor_74 : decode cX6_wageFor 74 = .ok (.goto 10, 3) := by decide +kernel
theorem dX6_wageFor_77 : decode cX6_wageFor 77 = .ok (.aload_n 0, 1) := by decide +kernel
theorem dX6_wageFor_78 : decode cX6_wageFor 78 = .ok (.iload_n 1, 1) := by decide +kernel
theorem dX6_wageFor_79 : decode cX6_wageFor 79 = .ok (.invokevirtual 46, 3) := by decide +kernel
theorem dX6_wageFor_82 : decode cX6_wageFor 82 = .ok (.iconst 1, 1) := by decide +kernel
theorem dX6_wageFor_83 : decode cX6_wageFor 83 = .ok (.iadd, 1) := by decide +kernel
theorem dX6_wageFor_84 : decode cX6_wageFor 84 = .ok (.ireturn, 1) := by decide +kernel
theorem dX6_wageFor_85 : decode cX6_wageFor 85 = .ok (.aload_n 0, 1) := by decide +kernel
theorem dX6_wageFor_86 : decode cX6_wageFor 86 = .ok (.getfield 21, 3) := by decide +kernel
theorem dX6_wageFor_89 : decode cX6_wageFor 89 = .ok (.iconst 0, 1) := by decide +kernel
theorem dX6_wageFor_90 : decode cX6_wageFor 90 = .ok (.iload_n 1, 1) := by decide +kernel
theorem dX6_wageFor_91 : decode cX6_wageFor 91 = .ok (.aload_n 0, 1) := by decide +kernel
theorem dX6_wageFor_92 : decode cX6_wageFor 92 = .ok (.getfield 18, 3) := by decide +kernel
theorem dX6_wageFor_95 : decode cX6_wageFor 95 = .ok (.isub, 1) := by decide +kernel
theorem dX6_wageFor_96 : decode cX6_wageFor 96 = .ok (.invokestatic 40, 3) := by decide +kernel
theorem dX6_wageFor_99 : decode cX6_wageFor 99 = .ok (.imul, 1) := by decide +kernel
theorem dX6_wageFor_100 : decode cX6_wageFor 100 = .ok (.ireturn, 1) := by decide +kernel
theorem dX6_wageFor_101 : decode cX6_wageFor 101 = .ok (.aload_n 0, 1) := by decide +kernel
theorem dX6_wageFor_102 : decode cX6_wageFor 102 = .ok (.getfield 21, 3) := by decide +kernel
theorem dX6_wageFor_105 : decode cX6_wageFor 105 = .ok (.iconst 0, 1) := by decide +kernel
theorem dX6_wageFor_106 : decode cX6_wageFor 106 = .ok (.iload_n 1, 1) := by decide +kernel
theorem dX6_wageFor_107 : decode cX6_wageFor 107 = .ok (.aload_n 0, 1) := by decide +kernel
theorem dX6_wageFor_108 : decode cX6_wageFor 108 = .ok (.getfield 18, 3) := by decide +kernel
theorem dX6_wageFor_111 : decode cX6_wageFor 111 = .ok (.isub, 1) := by decide +kernel
theorem dX6_wageFor_112 : decode cX6_wageFor 112 = .ok (.invokestatic 40, 3) := by decide +kernel
theorem dX6_wageFor_115 : decode cX6_wageFor 115 = .ok (.imul, 1) := by decide +kernel
theorem dX6_wageFor_116 : decode cX6_wageFor 116 = .ok (.iload_n 2, 1) := by decide +kernel
theorem dX6_wageFor_117 : decode cX6_wageFor 117 = .ok (.iload_n 1, 1) := by decide +kernel
theorem dX6_wageFor_118 : decode cX6_wageFor 118 = .ok (.imul, 1) := by decide +kernel
theorem dX6_wageFor_119 : decode cX6_wageFor 119 = .ok (.iadd, 1) := by decide +kernel
theorem dX6_wageFor_120 : decode cX6_wageFor 120 = .ok (.ireturn, 1) := by decide +kernel
theorem dX6_wageFor_121 : decode cX6_wageFor 121 = .ok (.aload_n 0, 1) := by decide +kernel
theorem dX6_wageFor_122 : decode cX6_wageFor 122 = .ok (.getfield 21, 3) := by decide +kernel
theorem dX6_wageFor_125 : decode cX6_wageFor 125 = .ok (.iload_n 1, 1) := by decide +kernel
theorem dX6_wageFor_126 : decode cX6_wageFor 126 = .ok (.imul, 1) := by decide +kernel
theorem dX6_wageFor_127 : decode cX6_wageFor 127 = .ok (.ireturn, 1) := by decide +kernel
theorem dX6_masterWage_0 : decode cX6_masterWage 0 = .ok (.iload_n 1, 1) := by decide +kernel
theorem dX6_masterWage_1 : decode cX6_masterWage 1 = .ok (.ifCond .ne 7, 3) := by decide +kernel
theorem dX6_masterWage_4 : decode cX6_masterWage 4 = .ok (.iconst 0, 1) := by decide +kernel
theorem dX6_masterWage_5 : decode cX6_masterWage 5 = .ok (.goto 14, 3) := by decide +kernel
theorem dX6_masterWage_8 : decode cX6_masterWage 8 = .ok (.aload_n 0, 1) := by decide +kernel
theorem dX6_masterWage_9 : decode cX6_masterWage 9 = .ok (.getfield 21, 3) := by decide +kernel
theorem dX6_masterWage_12 : decode cX6_masterWage 12 = .ok (.iload_n 1, 1) := by decide +kernel
theorem dX6_masterWage_13 : decode cX6_masterWage 13 = .ok (.imul, 1) := by decide +kernel
theorem dX6_masterWage_14 : decode cX6_masterWage 14 = .ok (.aload_n 0, 1) := by decide +kernel
theorem dX6_masterWage_15 : decode cX6_masterWage 15 = .ok (.getfield 18, 3) := by decide +kernel
theorem dX6_masterWage_18 : decode cX6_masterWage 18 = .ok (.iadd, 1) := by decide +kernel
theorem dX6_masterWage_19 : decode cX6_masterWage 19 = .ok (.ireturn, 1) := by decide +kernel
theorem dX6_loverWage_0 : decode cX6_loverWage 0 = .ok (.aload_n 0, 1) := by decide +kernel
theorem dX6_loverWage_1 : decode cX6_loverWage 1 = .ok (.getfield 21, 3) := by decide +kernel
theorem dX6_loverWage_4 : decode cX6_loverWage 4 = .ok (.iload_n 1, 1) := by decide +kernel
theorem dX6_loverWage_5 : decode cX6_loverWage 5 = .ok (.imul, 1) := by decide +kernel
theorem dX6_loverWage_6 : decode cX6_loverWage 6 = .ok (.iconst 1, 1) := by decide +kernel
theorem dX6_loverWage_7 : decode cX6_loverWage 7 = .ok (.iadd, 1) := by decide +kernel
theorem dX6_loverWage_8 : decode cX6_loverWage 8 = .ok (.iconst 2, 1) := by decide +kernel
theorem dX6_loverWage_9 : decode cX6_loverWage 9 = .ok (.idiv, 1) := by decide +kernel
theorem dX6_loverWage_10 : decode cX6_loverWage 10 = .ok (.ireturn, 1) := by decide +kernel
theorem dX6_sight_0 : decode cX6_sight 0 = .ok (.aload_n 0, 1) := by decide +kernel
theorem dX6_sight_1 : decode cX6_sight 1 = .ok (.getfield 15, 3) := by decide +kernel
theorem dX6_sight_4 : decode cX6_sight 4 = .ok (.lookupswitch 42 #[(1, 36), (3, 40), (6, 38)], 36) := by decide +kernel
theorem dX6_sight_40 : decode cX6_sight 40 = .ok (.iconst 1, 1) := by decide +kernel
theorem dX6_sight_41 : decode cX6_sight 41 = .ok (.ireturn, 1) := by decide +kernel
theorem dX6_sight_42 : decode cX6_sight 42 = .ok (.iconst 1, 1) := by decide +kernel
theorem dX6_sight_43 : decode cX6_sight 43 = .ok (.ireturn, 1) := by decide +kernel
theorem dX6_sight_44 : decode cX6_sight 44 = .ok (.iconst 2, 1) := by decide +kernel
theorem dX6_sight_45 : decode cX6_sight 45 = .ok (.ireturn, 1) := by decide +kernel
theorem dX6_sight_46 : decode cX6_sight 46 = .ok (.iconst 0, 1) := by decide +kernel
theorem dX6_sight_47 : decode cX6_sight 47 = .ok (.ireturn, 1) := by decide +kernel
theorem dX6_wordAs_0 : decode cX6_wordAs 0 = .ok (.iload_n 1, 1) := by decide +kernel
theorem dX6_wordAs_1 : decode cX6_wordAs 1 = .ok (.tableswitch 69 1 6 #[39, 49, 44, 59, 54, 64], 39) := by decide +kernel
theorem dX6_wordAs_40 : decode cX6_wordAs 40 = .ok (.aload_n 0, 1) := by decide +kernel
theorem dX6_wordAs_41 : decode cX6_wordAs 41 = .ok (.getfield 24, 3) := by decide +kernel
theorem dX6_wordAs_44 : decode cX6_wordAs 44 = .ok (.ireturn, 1) := by decide +kernel
theorem dX6_wordAs_45 : decode cX6_wordAs 45 = .ok (.aload_n 0, 1) := by decide +kernel
theorem dX6_wordAs_46 : decode cX6_wordAs 46 = .ok (.getfield 24, 3) := by decide +kernel
theorem dX6_wordAs_49 : decode cX6_wordAs 49 = .ok (.ireturn, 1) := by decide +kernel
theorem dX6_wordAs_50 : decode cX6_wordAs 50 = .ok (.aload_n 0, 1) := by decide +kernel
theorem dX6_wordAs_51 : decode cX6_wordAs 51 = .ok (.getfield 18, 3) := by decide +kernel
theorem dX6_wordAs_54 : decode cX6_wordAs 54 = .ok (.ireturn, 1) := by decide +kernel
theorem dX6_wordAs_55 : decode cX6_wordAs 55 = .ok (.aload_n 0, 1) := by decide +kernel
theorem dX6_wordAs_56 : decode cX6_wordAs 56 = .ok (.getfield 18, 3) := by decide +kernel
theorem dX6_wordAs_59 : decode cX6_wordAs 59 = .ok (.ireturn, 1) := by decide +kernel
theorem dX6_wordAs_60 : decode cX6_wordAs 60 = .ok (.aload_n 0, 1) := by decide +kernel
theorem dX6_wordAs_61 : decode cX6_wordAs 61 = .ok (.getfield 21, 3) := by decide +kernel
theorem dX6_wordAs_64 : decode cX6_wordAs 64 = .ok (.ireturn, 1) := by decide +kernel
theorem dX6_wordAs_65 : decode cX6_wordAs 65 = .ok (.aload_n 0, 1) := by decide +kernel
theorem dX6_wordAs_66 : decode cX6_wordAs 66 = .ok (.getfield 21, 3) := by decide +kernel
theorem dX6_wordAs_69 : decode cX6_wordAs 69 = .ok (.ireturn, 1) := by decide +kernel
theorem dX6_wordAs_70 : decode cX6_wordAs 70 = .ok (.aload_n 0, 1) := by decide +kernel
theorem dX6_wordAs_71 : decode cX6_wordAs 71 = .ok (.getfield 27, 3) := by decide +kernel
theorem dX6_wordAs_74 : decode cX6_wordAs 74 = .ok (.ireturn, 1) := by decide +kernel
theorem dX6_tell_0 : decode cX6_tell 0 = .ok (.iload_n 1, 1) := by decide +kernel
theorem dX6_tell_1 : decode cX6_tell 1 = .ok (.tableswitch 70 0 5 #[39, 44, 49, 54, 59, 64], 39) := by decide +kernel
theorem dX6_tell_40 : decode cX6_tell 40 = .ok (.aload_n 0, 1) := by decide +kernel
theorem dX6_tell_41 : decode cX6_tell 41 = .ok (.getfield 15, 3) := by decide +kernel
theorem dX6_tell_44 : decode cX6_tell 44 = .ok (.ireturn, 1) := by decide +kernel
theorem dX6_tell_45 : decode cX6_tell 45 = .ok (.aload_n 0, 1) := by decide +kernel
theorem dX6_tell_46 : decode cX6_tell 46 = .ok (.getfield 18, 3) := by decide +kernel
theorem dX6_tell_49 : decode cX6_tell 49 = .ok (.ireturn, 1) := by decide +kernel
theorem dX6_tell_50 : decode cX6_tell 50 = .ok (.aload_n 0, 1) := by decide +kernel
theorem dX6_tell_51 : decode cX6_tell 51 = .ok (.getfield 21, 3) := by decide +kernel
theorem dX6_tell_54 : decode cX6_tell 54 = .ok (.ireturn, 1) := by decide +kernel
theorem dX6_tell_55 : decode cX6_tell 55 = .ok (.aload_n 0, 1) := by decide +kernel
theorem dX6_tell_56 : decode cX6_tell 56 = .ok (.getfield 24, 3) := by decide +kernel
theorem dX6_tell_59 : decode cX6_tell 59 = .ok (.ireturn, 1) := by decide +kernel
theorem dX6_tell_60 : decode cX6_tell 60 = .ok (.aload_n 0, 1) := by decide +kernel
theorem dX6_tell_61 : decode cX6_tell 61 = .ok (.getfield 27, 3) := by decide +kernel
theorem dX6_tell_64 : decode cX6_tell 64 = .ok (.ireturn, 1) := by decide +kernel
theorem dX6_tell_65 : decode cX6_tell 65 = .ok (.aload_n 0, 1) := by decide +kernel
theorem dX6_tell_66 : decode cX6_tell 66 = .ok (.iload_n 2, 1) := by decide +kernel
theorem dX6_tell_67 : decode cX6_tell 67 = .ok (.invokevirtual 49, 3) := by decide +kernel
theorem dX6_tell_70 : decode cX6_tell 70 = .ok (.ireturn, 1) := by decide +kernel
theorem dX6_tell_71 : decode cX6_tell 71 = .ok (.aload_n 0, 1) := by decide +kernel
theorem dX6_tell_72 : decode cX6_tell 72 = .ok (.invokevirtual 52, 3) := by decide +kernel
theorem dX6_tell_75 : decode cX6_tell 75 = .ok (.ireturn, 1) := by decide +kernel

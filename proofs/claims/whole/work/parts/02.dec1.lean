theorem dX0_init_0 : decode cX0_init 0 = .ok (.aload_n 0, 1) := by decide +kernel
theorem dX0_init_1 : decode cX0_init 1 = .ok (.invokespecial 3, 3) := by decide +kernel
theorem dX0_init_4 : decode cX0_init 4 = .ok (.aload_n 0, 1) := by decide +kernel
theorem dX0_init_5 : decode cX0_init 5 = .ok (.bipush 20, 2) := by decide +kernel
theorem dX0_init_7 : decode cX0_init 7 = .ok (.newarray .int, 2) := by decide +kernel
theorem dX0_init_9 : decode cX0_init 9 = .ok (.putfield 11, 3) := by decide +kernel
theorem dX0_init_12 : decode cX0_init 12 = .ok (.aload_n 0, 1) := by decide +kernel
theorem dX0_init_13 : decode cX0_init 13 = .ok (.iconst 0, 1) := by decide +kernel
theorem dX0_init_14 : decode cX0_init 14 = .ok (.putfield 15, 3) := by decide +kernel
theorem dX0_init_17 : decode cX0_init 17 = .ok (.return_, 1) := by decide +kernel
theorem dX0_forget_0 : decode cX0_forget 0 = .ok (.aload_n 0, 1) := by decide +kernel
theorem dX0_forget_1 : decode cX0_forget 1 = .ok (.iconst 0, 1) := by decide +kernel
theorem dX0_forget_2 : decode cX0_forget 2 = .ok (.putfield 15, 3) := by decide +kernel
theorem dX0_forget_5 : decode cX0_forget 5 = .ok (.return_, 1) := by decide +kernel
theorem dX0_keptCount_0 : decode cX0_keptCount 0 = .ok (.aload_n 0, 1) := by decide +kernel
theorem dX0_keptCount_1 : decode cX0_keptCount 1 = .ok (.getfield 15, 3) := by decide +kernel
theorem dX0_keptCount_4 : decode cX0_keptCount 4 = .ok (.bipush 20, 2) := by decide +kernel
theorem dX0_keptCount_6 : decode cX0_keptCount 6 = .ok (.invokestatic 19, 3) := by decide +kernel
theorem dX0_keptCount_9 : decode cX0_keptCount 9 = .ok (.ireturn, 1) := by decide +kernel
theorem dX0_note_0 : decode cX0_note 0 = .ok (.aload_n 0, 1) := by decide +kernel
theorem dX0_note_1 : decode cX0_note 1 = .ok (.getfield 15, 3) := by decide +kernel
theorem dX0_note_4 : decode cX0_note 4 = .ok (.bipush 20, 2) := by decide +kernel
theorem dX0_note_6 : decode cX0_note 6 = .ok (.if_icmp .ge 13, 3) := by decide +kernel
theorem dX0_note_9 : decode cX0_note 9 = .ok (.aload_n 0, 1) := by decide +kernel
theorem dX0_note_10 : decode cX0_note 10 = .ok (.getfield 11, 3) := by decide +kernel
theorem dX0_note_13 : decode cX0_note 13 = .ok (.aload_n 0, 1) := by decide +kernel
theorem dX0_note_14 : decode cX0_note 14 = .ok (.getfield 15, 3) := by decide +kernel
theorem dX0_note_17 : decode cX0_note 17 = .ok (.iload_n 1, 1) := by decide +kernel
theorem dX0_note_18 : decode cX0_note 18 = .ok (.iastore, 1) := by decide +kernel
theorem dX0_note_19 : decode cX0_note 19 = .ok (.aload_n 0, 1) := by decide +kernel
theorem dX0_note_20 : decode cX0_note 20 = .ok (.dup, 1) := by decide +kernel
theorem dX0_note_21 : decode cX0_note 21 = .ok (.getfield 15, 3) := by decide +kernel
theorem dX0_note_24 : decode cX0_note 24 = .ok (.iconst 1, 1) := by decide +kernel
theorem dX0_note_25 : decode cX0_note 25 = .ok (.iadd, 1) := by decide +kernel
theorem dX0_note_26 : decode cX0_note 26 = .ok (.putfield 15, 3) := by decide +kernel
theorem dX0_note_29 : decode cX0_note 29 = .ok (.return_, 1) := by decide +kernel
theorem dX0_bodyFrom_0 : decode cX0_bodyFrom 0 = .ok (.iload_n 0, 1) := by decide +kernel
theorem dX0_bodyFrom_1 : decode cX0_bodyFrom 1 = .ok (.istore_n 2, 1) := by decide +kernel
theorem dX0_bodyFrom_2 : decode cX0_bodyFrom 2 = .ok (.iconst 0, 1) := by decide +kernel
theorem dX0_bodyFrom_3 : decode cX0_bodyFrom 3 = .ok (.istore_n 3, 1) := by decide +kernel
theorem dX0_bodyFrom_4 : decode cX0_bodyFrom 4 = .ok (.iload_n 3, 1) := by decide +kernel
theorem dX0_bodyFrom_5 : decode cX0_bodyFrom 5 = .ok (.bipush 7, 2) := by decide +kernel
theorem dX0_bodyFrom_7 : decode cX0_bodyFrom 7 = .ok (.if_icmp .ge 31, 3) := by decide +kernel
theorem dX0_bodyFrom_10 : decode cX0_bodyFrom 10 = .ok (.iload_n 2, 1) := by decide +kernel
theorem dX0_bodyFrom_11 : decode cX0_bodyFrom 11 = .ok (.ifCond .le 27, 3) := by decide +kernel
theorem dX0_bodyFrom_14 : decode cX0_bodyFrom 14 = .ok (.getstatic 25, 3) := by decide +kernel
theorem dX0_bodyFrom_17 : decode cX0_bodyFrom 17 = .ok (.iconst 3, 1) := by decide +kernel
theorem dX0_bodyFrom_18 : decode cX0_bodyFrom 18 = .ok (.iload_n 2, 1) := by decide +kernel
theorem dX0_bodyFrom_19 : decode cX0_bodyFrom 19 = .ok (.imul, 1) := by decide +kernel
theorem dX0_bodyFrom_20 : decode cX0_bodyFrom 20 = .ok (.iload_n 1, 1) := by decide +kernel
theorem dX0_bodyFrom_21 : decode cX0_bodyFrom 21 = .ok (.iadd, 1) := by decide +kernel
theorem dX0_bodyFrom_22 : decode cX0_bodyFrom 22 = .ok (.iaload, 1) := by decide +kernel
theorem dX0_bodyFrom_23 : decode cX0_bodyFrom 23 = .ok (.ifCond .ne 15, 3) := by decide +kernel
theorem dX0_bodyFrom_26 : decode cX0_bodyFrom 26 = .ok (.getstatic 28, 3) := by decide +kernel
theorem dX0_bodyFrom_29 : decode cX0_bodyFrom 29 = .ok (.iload_n 2, 1) := by decide +kernel
theorem dX0_bodyFrom_30 : decode cX0_bodyFrom 30 = .ok (.iaload, 1) := by decide +kernel
theorem dX0_bodyFrom_31 : decode cX0_bodyFrom 31 = .ok (.istore_n 2, 1) := by decide +kernel
theorem dX0_bodyFrom_32 : decode cX0_bodyFrom 32 = .ok (.iinc 3 1, 3) := by decide +kernel
theorem dX0_bodyFrom_35 : decode cX0_bodyFrom 35 = .ok (.goto (-31), 3) := by decide +kernel
theorem dX0_bodyFrom_38 : decode cX0_bodyFrom 38 = .ok (.iload_n 2, 1) := by decide +kernel
theorem dX0_bodyFrom_39 : decode cX0_bodyFrom 39 = .ok (.ifCond .ge 7, 3) := by decide +kernel
theorem dX0_bodyFrom_42 : decode cX0_bodyFrom 42 = .ok (.iconst 0, 1) := by decide +kernel
theorem dX0_bodyFrom_43 : decode cX0_bodyFrom 43 = .ok (.goto 12, 3) := by decide +kernel
theorem dX0_bodyFrom_46 : decode cX0_bodyFrom 46 = .ok (.getstatic 25, 3) := by decide +kernel
theorem dX0_bodyFrom_49 : decode cX0_bodyFrom 49 = .ok (.iconst 3, 1) := by decide +kernel
theorem dX0_bodyFrom_50 : decode cX0_bodyFrom 50 = .ok (.iload_n 2, 1) := by decide +kernel
theorem dX0_bodyFrom_51 : decode cX0_bodyFrom 51 = .ok (.imul, 1) := by decide +kernel
theorem dX0_bodyFrom_52 : decode cX0_bodyFrom 52 = .ok (.iload_n 1, 1) := by decide +kernel
theorem dX0_bodyFrom_53 : decode cX0_bodyFrom 53 = .ok (.iadd, 1) := by decide +kernel
theorem dX0_bodyFrom_54 : decode cX0_bodyFrom 54 = .ok (.iaload, 1) := by decide +kernel
theorem dX0_bodyFrom_55 : decode cX0_bodyFrom 55 = .ok (.ireturn, 1) := by decide +kernel
theorem dX0_perform_0 : decode cX0_perform 0 = .ok (.iload 5, 2) := by decide +kernel
theorem dX0_perform_2 : decode cX0_perform 2 = .ok (.bipush 20, 2) := by decide +kernel
theorem dX0_perform_4 : decode cX0_perform 4 = .ok (.if_icmp .lt 5, 3) := by decide +kernel
theorem dX0_perform_7 : decode cX0_perform 7 = .ok (.iconst 0, 1) := by decide +kernel
theorem dX0_perform_8 : decode cX0_perform 8 = .ok (.ireturn, 1) := by decide +kernel
theorem dX0_perform_9 : decode cX0_perform 9 = .ok (.iload_n 2, 1) := by decide +kernel
theorem dX0_perform_10 : decode cX0_perform 10 = .ok (.iload_n 3, 1) := by decide +kernel
theorem dX0_perform_11 : decode cX0_perform 11 = .ok (.invokestatic 31, 3) := by decide +kernel
theorem dX0_perform_14 : decode cX0_perform 14 = .ok (.istore 6, 2) := by decide +kernel
theorem dX0_perform_16 : decode cX0_perform 16 = .ok (.iload 5, 2) := by decide +kernel
theorem dX0_perform_18 : decode cX0_perform 18 = .ok (.iconst 1, 1) := by decide +kernel
theorem dX0_perform_19 : decode cX0_perform 19 = .ok (.iadd, 1) := by decide +kernel
theorem dX0_perform_20 : decode cX0_perform 20 = .ok (.istore 7, 2) := by decide +kernel
theorem dX0_perform_22 : decode cX0_perform 22 = .ok (.aload_n 0, 1) := by decide +kernel
theorem dX0_perform_23 : decode cX0_perform 23 = .ok (.iload 6, 2) := by decide +kernel
theorem dX0_perform_25 : decode cX0_perform 25 = .ok (.invokevirtual 34, 3) := by decide +kernel
theorem dX0_perform_28 : decode cX0_perform 28 = .ok (.iload 6, 2) := by decide +kernel
theorem dX0_perform_30 : decode cX0_perform 30 = .ok (.lookupswitch 282 #[(10, 98), (11, 106), (12, 126), (20, 143), (30, 158), (40, 172), (50, 198), (51, 211), (60, 225), (70, 242), (71, 265)], 98) := by decide +kernel
theorem dX0_perform_128 : decode cX0_perform 128 = .ok (.iload 4, 2) := by decide +kernel
theorem dX0_perform_130 : decode cX0_perform 130 = .ok (.aload_n 1, 1) := by decide +kernel
theorem dX0_perform_131 : decode cX0_perform 131 = .ok (.getfield 38, 3) := by decide +kernel
theorem dX0_perform_134 : decode cX0_perform 134 = .ok (.iadd, 1) := by decide +kernel
theorem dX0_perform_135 : decode cX0_perform 135 = .ok (.ireturn, 1) := by decide +kernel
theorem dX0_perform_136 : decode cX0_perform 136 = .ok (.aload_n 0, 1) := by decide +kernel
theorem dX0_perform_137 : decode cX0_perform 137 = .ok (.aload_n 1, 1) := by decide +kernel
theorem dX0_perform_138 : decode cX0_perform 138 = .ok (.aload_n 1, 1) := by decide +kernel
theorem dX0_perform_139 : decode cX0_perform 139 = .ok (.getfield 43, 3) := by decide +kernel
theorem dX0_perform_142 : decode cX0_perform 142 = .ok (.iconst 0, 1) := by decide +kernel
theorem dX0_perform_143 : decode cX0_perform 143 = .ok (.iload 4, 2) := by decide +kernel
theorem dX0_perform_145 : decode cX0_perform 145 = .ok (.iload 7, 2) := by decide +kernel
theorem dX0_perform_147 : decode cX0_perform 147 = .ok (.invokevirtual 46, 3) := by decide +kernel
theorem dX0_perform_150 : decode cX0_perform 150 = .ok (.aload_n 1, 1) := by decide +kernel
theorem dX0_perform_151 : decode cX0_perform 151 = .ok (.getfield 50, 3) := by decide +kernel
theorem dX0_perform_154 : decode cX0_perform 154 = .ok (.isub, 1) := by decide +kernel
theorem dX0_perform_155 : decode cX0_perform 155 = .ok (.ireturn, 1) := by decide +kernel
theorem dX0_perform_156 : decode cX0_perform 156 = .ok (.aload_n 0, 1) := by decide +kernel
theorem dX0_perform_157 : decode cX0_perform 157 = .ok (.aload_n 1, 1) := by decide +kernel
theorem dX0_perform_158 : decode cX0_perform 158 = .ok (.aload_n 1, 1) := by decide +kernel
theorem dX0_perform_159 : decode cX0_perform 159 = .ok (.getfield 43, 3) := by decide +kernel
theorem dX0_perform_162 : decode cX0_perform 162 = .ok (.iconst 1, 1) := by decide +kernel
theorem dX0_perform_163 : decode cX0_perform 163 = .ok (.iload 4, 2) := by decide +kernel
theorem dX0_perform_165 : decode cX0_perform 165 = .ok (.iload 7, 2) := by decide +kernel
theorem dX0_perform_167 : decode cX0_perform 167 = .ok (.invokevirtual 46, 3) := by decide +kernel
theorem dX0_perform_170 : decode cX0_perform 170 = .ok (.iconst 2, 1) := by decide +kernel
theorem dX0_perform_171 : decode cX0_perform 171 = .ok (.imul, 1) := by decide +kernel
theorem dX0_perform_172 : decode cX0_perform 172 = .ok (.ireturn, 1) := by decide +kernel
theorem dX0_perform_173 : decode cX0_perform 173 = .ok (.aload_n 0, 1) := by decide +kernel
theorem dX0_perform_174 : decode cX0_perform 174 = .ok (.aload_n 1, 1) := by decide +kernel
theorem dX0_perform_175 : decode cX0_perform 175 = .ok (.iconst 0, 1) := by decide +kernel
theorem dX0_perform_176 : decode cX0_perform 176 = .ok (.iconst 1, 1) := by decide +kernel
theorem dX0_perform_177 : decode cX0_perform 177 = .ok (.iload 4, 2) := by decide +kernel
theorem dX0_perform_179 : decode cX0_perform 179 = .ok (.iload 7, 2) := by decide +kernel
theorem dX0_perform_181 : decode cX0_perform 181 = .ok (.invokevirtual 46, 3) := by decide +kernel
theorem dX0_perform_184 : decode cX0_perform 184 = .ok (.bipush 6, 2) := by decide +kernel
theorem dX0_perform_186 : decode cX0_perform 186 = .ok (.ixor, 1) := by decide +kernel
theorem dX0_perform_187 : decode cX0_perform 187 = .ok (.ireturn, 1) := by decide +kernel
theorem dX0_perform_188 : decode cX0_perform 188 = .ok (.aload_n 0, 1) := by decide +kernel
theorem dX0_perform_189 : decode cX0_perform 189 = .ok (.aload_n 1, 1) := by decide +kernel
theorem dX0_perform_190 : decode cX0_perform 190 = .ok (.iconst 0, 1) := by decide +kernel
theorem dX0_perform_191 : decode cX0_perform 191 = .ok (.iconst 0, 1) := by decide +kernel
theorem dX0_perform_192 : decode cX0_perform 192 = .ok (.iload 4, 2) := by decide +kernel
theorem dX0_perform_194 : decode cX0_perform 194 = .ok (.iconst 3, 1) := by decide +kernel
theorem dX0_perform_195 : decode cX0_perform 195 = .ok (.imul, 1) := by decide +kernel
theorem dX0_perform_196 : decode cX0_perform 196 = .ok (.iload 7, 2) := by decide +kernel
theorem dX0_perform_198 : decode cX0_perform 198 = .ok (.invokevirtual 46, 3) := by decide +kernel
theorem dX0_perform_201 : decode cX0_perform 201 = .ok (.ireturn, 1) := by decide +kernel
theorem dX0_perform_202 : decode cX0_perform 202 = .ok (.aload_n 0, 1) := by decide +kernel
theorem dX0_perform_203 : decode cX0_perform 203 = .ok (.aload_n 1, 1) := by decide +kernel
theorem dX0_perform_204 : decode cX0_perform 204 = .ok (.iconst 0, 1) := by decide +kernel
theorem dX0_perform_205 : decode cX0_perform 205 = .ok (.iconst 2, 1) := by decide +kernel
theorem dX0_perform_206 : decode cX0_perform 206 = .ok (.iload 4, 2) := by decide +kernel
theorem dX0_perform_208 : decode cX0_perform 208 = .ok (.iload 7, 2) := by decide +kernel
theorem dX0_perform_210 : decode cX0_perform 210 = .ok (.invokevirtual 46, 3) := by decide +kernel
theorem dX0_perform_213 : decode cX0_perform 213 = .ok (.aload_n 0, 1) := by decide +kernel
theorem dX0_perform_214 : decode cX0_perform 214 = .ok (.aload_n 1, 1) := by decide +kernel
theorem dX0_perform_215 : decode cX0_perform 215 = .ok (.aload_n 1, 1) := by decide +kernel
theorem dX0_perform_216 : decode cX0_perform 216 = .ok (.getfield 43, 3) := by decide +kernel
theorem dX0_perform_219 : decode cX0_perform 219 = .ok (.iconst 1, 1) := by decide +kernel
theorem dX0_perform_220 : decode cX0_perform 220 = .ok (.iconst 1, 1) := by decide +kernel
theorem dX0_perform_221 : decode cX0_perform 221 = .ok (.iload 7, 2) := by decide +kernel
theorem dX0_perform_223 : decode cX0_perform 223 = .ok (.invokevirtual 46, 3) := by decide +kernel
theorem dX0_perform_226 : decode cX0_perform 226 = .ok (.iadd, 1) := by decide +kernel
theorem dX0_perform_227 : decode cX0_perform 227 = .ok (.ireturn, 1) := by decide +kernel
theorem dX0_perform_228 : decode cX0_perform 228 = .ok (.aload_n 0, 1) := by decide +kernel
theorem dX0_perform_229 : decode cX0_perform 229 = .ok (.aload_n 1, 1) := by decide +kernel
theorem dX0_perform_230 : decode cX0_perform 230 = .ok (.iconst 1, 1) := by decide +kernel
theorem dX0_perform_231 : decode cX0_perform 231 = .ok (.iconst 0, 1) := by decide +kernel
theorem dX0_perform_232 : decode cX0_perform 232 = .ok (.iload 4, 2) := by decide +kernel
theorem dX0_perform_234 : decode cX0_perform 234 = .ok (.iload 7, 2) := by decide +kernel
theorem dX0_perform_236 : decode cX0_perform 236 = .ok (.invokevirtual 46, 3) := by decide +kernel
theorem dX0_perform_239 : decode cX0_perform 239 = .ok (.ineg, 1) := by decide +kernel
theorem dX0_perform_240 : decode cX0_perform 240 = .ok (.ireturn, 1) := by decide +kernel
theorem dX0_perform_241 : decode cX0_perform 241 = .ok (.aload_n 0, 1) := by decide +kernel
theorem dX0_perform_242 : decode cX0_perform 242 = .ok (.aload_n 1, 1) := by decide +kernel
theorem dX0_perform_243 : decode cX0_perform 243 = .ok (.iconst 1, 1) := by decide +kernel
theorem dX0_perform_244 : decode cX0_perform 244 = .ok (.iconst 1, 1) := by decide +kernel
theorem dX0_perform_245 : decode cX0_perform 245 = .ok (.iload 4, 2) := by decide +kernel
theorem dX0_perform_247 : decode cX0_perform 247 = .ok (.iconst 1, 1) := by decide +kernel
theorem dX0_perform_248 : decode cX0_perform 248 = .ok (.iadd, 1) := by decide +kernel
theorem dX0_perform_249 : decode cX0_perform 249 = .ok (.iload 7, 2) := by decide +kernel
theorem dX0_perform_251 : decode cX0_perform 251 = .ok (.invokevirtual 46, 3) := by decide +kernel
theorem dX0_perform_254 : decode cX0_perform 254 = .ok (.ireturn, 1) := by decide +kernel
theorem dX0_perform_255 : decode cX0_perform 255 = .ok (.aload_n 0, 1) := by decide +kernel
theorem dX0_perform_256 : decode cX0_perform 256 = .ok (.aload_n 1, 1) := by decide +kernel
theorem dX0_perform_257 : decode cX0_perform 257 = .ok (.iconst 2, 1) := by decide +kernel
theorem dX0_perform_258 : decode cX0_perform 258 = .ok (.iconst 2, 1) := by decide +kernel
theorem dX0_perform_259 : decode cX0_perform 259 = .ok (.iload 4, 2) := by decide +kernel
theorem dX0_perform_261 : decode cX0_perform 261 = .ok (.aload_n 1, 1) := by decide +kernel
theorem dX0_perform_262 : decode cX0_perform 262 = .ok (.getfield 38, 3) := by decide +kernel
theorem dX0_perform_265 : decode cX0_perform 265 = .ok (.isub, 1) := by decide +kernel
theorem dX0_perform_266 : decode cX0_perform 266 = .ok (.iload 7, 2) := by decide +kernel
theorem dX0_perform_268 : decode cX0_perform 268 = .ok (.invokevirtual 46, 3) := by decide +kernel
theorem dX0_perform_271 : decode cX0_perform 271 = .ok (.ireturn, 1) := by decide +kernel
theorem dX0_perform_272 : decode cX0_perform 272 = .ok (.aload_n 0, 1) := by decide +kernel
theorem dX0_perform_273 : decode cX0_perform 273 = .ok (.aload_n 1, 1) := by decide +kernel
theorem dX0_perform_274 : decode cX0_perform 274 = .ok (.iconst 3, 1) := by decide +kernel
theorem dX0_perform_275 : decode cX0_perform 275 = .ok (.iconst 1, 1) := by decide +kernel
theorem dX0_perform_276 : decode cX0_perform 276 = .ok (.iload 4, 2) := by decide +kernel
theorem dX0_perform_278 : decode cX0_perform 278 = .ok (.iload 7, 2) := by decide +kernel
theorem dX0_perform_280 : decode cX0_perform 280 = .ok (.invokevirtual 46, 3) := by decide +kernel
theorem dX0_perform_283 : decode cX0_perform 283 = .ok (.aload_n 0, 1) := by decide +kernel
theorem dX0_perform_284 : decode cX0_perform 284 = .ok (.aload_n 1, 1) := by decide +kernel
theorem dX0_perform_285 : decode cX0_perform 285 = .ok (.iconst 3, 1) := by decide +kernel
theorem dX0_perform_286 : decode cX0_perform 286 = .ok (.iconst 0, 1) := by decide +kernel
theorem dX0_perform_287 : decode cX0_perform 287 = .ok (.iconst 2, 1) := by decide +kernel
theorem dX0_perform_288 : decode cX0_perform 288 = .ok (.iload 7, 2) := by decide +kernel
theorem dX0_perform_290 : decode cX0_perform 290 = .ok (.invokevirtual 46, 3) := by decide +kernel
theorem dX0_perform_293 : decode cX0_perform 293 = .ok (.iadd, 1) := by decide +kernel
theorem dX0_perform_294 : decode cX0_perform 294 = .ok (.ireturn, 1) := by decide +kernel
theorem dX0_perform_295 : decode cX0_perform 295 = .ok (.aload_n 0, 1) := by decide +kernel
theorem dX0_perform_296 : decode cX0_perform 296 = .ok (.aload_n 1, 1) := by decide +kernel
theorem dX0_perform_297 : decode cX0_perform 297 = .ok (.iconst 3, 1) := by decide +kernel
theorem dX0_perform_298 : decode cX0_perform 298 = .ok (.iconst 0, 1) := by decide +kernel
theorem dX0_perform_299 : decode cX0_perform 299 = .ok (.iload 4, 2) := by decide +kernel
theorem dX0_perform_301 : decode cX0_perform 301 = .ok (.iload 7, 2) := by decide +kernel
theorem dX0_perform_303 : decode cX0_perform 303 = .ok (.invokevirtual 46, 3) := by decide +kernel
theorem dX0_perform_306 : decode cX0_perform 306 = .ok (.aload_n 1, 1) := by decide +kernel
theorem dX0_perform_307 : decode cX0_perform 307 = .ok (.getfield 50, 3) := by decide +kernel
theorem dX0_perform_310 : decode cX0_perform 310 = .ok (.ixor, 1) := by decide +kernel
theorem dX0_perform_311 : decode cX0_perform 311 = .ok (.ireturn, 1) := by decide +kernel
theorem dX0_perform_312 : decode cX0_perform 312 = .ok (.iconst 0, 1) := by decide +kernel
theorem dX0_perform_313 : decode cX0_perform 313 = .ok (.ireturn, 1) := by decide +kernel
theorem dX1_init_0 : decode cX1_init 0 = .ok (.aload_n 0, 1) := by decide +kernel
theorem dX1_init_1 : decode cX1_init 1 = .ok (.invokespecial 1, 3) := by decide +kernel
theorem dX1_init_4 : decode cX1_init 4 = .ok (.aload_n 0, 1) := by decide +kernel
theorem dX1_init_5 : decode cX1_init 5 = .ok (.bipush 100, 2) := by decide +kernel
theorem dX1_init_7 : decode cX1_init 7 = .ok (.newarray .int, 2) := by decide +kernel
theorem dX1_init_9 : decode cX1_init 9 = .ok (.putfield 9, 3) := by decide +kernel
theorem dX1_init_12 : decode cX1_init 12 = .ok (.aload_n 0, 1) := by decide +kernel
theorem dX1_init_13 : decode cX1_init 13 = .ok (.iconst 0, 1) := by decide +kernel
theorem dX1_init_14 : decode cX1_init 14 = .ok (.putfield 15, 3) := by decide +kernel
theorem dX1_init_17 : decode cX1_init 17 = .ok (.aload_n 0, 1) := by decide +kernel
theorem dX1_init_18 : decode cX1_init 18 = .ok (.iconst 5, 1) := by decide +kernel
theorem dX1_init_19 : decode cX1_init 19 = .ok (.putfield 19, 3) := by decide +kernel
theorem dX1_init_22 : decode cX1_init 22 = .ok (.return_, 1) := by decide +kernel
theorem dX1_startAnew_0 : decode cX1_startAnew 0 = .ok (.aload_n 0, 1) := by decide +kernel
theorem dX1_startAnew_1 : decode cX1_startAnew 1 = .ok (.iconst 0, 1) := by decide +kernel
theorem dX1_startAnew_2 : decode cX1_startAnew 2 = .ok (.putfield 15, 3) := by decide +kernel
theorem dX1_startAnew_5 : decode cX1_startAnew 5 = .ok (.aload_n 0, 1) := by decide +kernel
theorem dX1_startAnew_6 : decode cX1_startAnew 6 = .ok (.iconst 5, 1) := by decide +kernel
theorem dX1_startAnew_7 : decode cX1_startAnew 7 = .ok (.putfield 19, 3) := by decide +kernel
theorem dX1_startAnew_10 : decode cX1_startAnew 10 = .ok (.return_, 1) := by decide +kernel
theorem dX1_append_0 : decode cX1_append 0 = .ok (.aload_n 0, 1) := by decide +kernel
theorem dX1_append_1 : decode cX1_append 1 = .ok (.getfield 15, 3) := by decide +kernel
theorem dX1_append_4 : decode cX1_append 4 = .ok (.aload_n 0, 1) := by decide +kernel
theorem dX1_append_5 : decode cX1_append 5 = .ok (.getfield 9, 3) := by decide +kernel
theorem dX1_append_8 : decode cX1_append 8 = .ok (.arraylength, 1) := by decide +kernel
theorem dX1_append_9 : decode cX1_append 9 = .ok (.if_icmp .ge 28, 3) := by decide +kernel
theorem dX1_append_12 : decode cX1_append 12 = .ok (.aload_n 0, 1) := by decide +kernel
theorem dX1_append_13 : decode cX1_append 13 = .ok (.getfield 9, 3) := by decide +kernel
theorem dX1_append_16 : decode cX1_append 16 = .ok (.aload_n 0, 1) := by decide +kernel
theorem dX1_append_17 : decode cX1_append 17 = .ok (.getfield 15, 3) := by decide +kernel
theorem dX1_append_20 : decode cX1_append 20 = .ok (.bipush 100, 2) := by decide +kernel
theorem dX1_append_22 : decode cX1_append 22 = .ok (.iload_n 1, 1) := by decide +kernel
theorem dX1_append_23 : decode cX1_append 23 = .ok (.imul, 1) := by decide +kernel
theorem dX1_append_24 : decode cX1_append 24 = .ok (.iload_n 2, 1) := by decide +kernel
theorem dX1_append_25 : decode cX1_append 25 = .ok (.iadd, 1) := by decide +kernel
theorem dX1_append_26 : decode cX1_append 26 = .ok (.iastore, 1) := by decide +kernel
theorem dX1_append_27 : decode cX1_append 27 = .ok (.aload_n 0, 1) := by decide +kernel
theorem dX1_append_28 : decode cX1_append 28 = .ok (.dup, 1) := by decide +kernel
theorem dX1_append_29 : decode cX1_append 29 = .ok (.getfield 15, 3) := by decide +kernel
theorem dX1_append_32 : decode cX1_append 32 = .ok (.iconst 1, 1) := by decide +kernel
theorem dX1_append_33 : decode cX1_append 33 = .ok (.iadd, 1) := by decide +kernel
theorem dX1_append_34 : decode cX1_append 34 = .ok (.putfield 15, 3) := by decide +kernel
theorem dX1_append_37 : decode cX1_append 37 = .ok (.return_, 1) := by decide +kernel
theorem dX1_sum_0 : decode cX1_sum 0 = .ok (.aload_n 1, 1) := by decide +kernel
theorem dX1_sum_1 : decode cX1_sum 1 = .ok (.getfield 22, 3) := by decide +kernel
theorem dX1_sum_4 : decode cX1_sum 4 = .ok (.istore_n 3, 1) := by decide +kernel
theorem dX1_sum_5 : decode cX1_sum 5 = .ok (.iconst 0, 1) := by decide +kernel
theorem dX1_sum_6 : decode cX1_sum 6 = .ok (.istore 4, 2) := by decide +kernel
theorem dX1_sum_8 : decode cX1_sum 8 = .ok (.iconst 0, 1) := by decide +kernel
theorem dX1_sum_9 : decode cX1_sum 9 = .ok (.istore 5, 2) := by decide +kernel
theorem dX1_sum_11 : decode cX1_sum 11 = .ok (.iload 5, 2) := by decide +kernel
theorem dX1_sum_13 : decode cX1_sum 13 = .ok (.aload_n 0, 1) := by decide +kernel
theorem dX1_sum_14 : decode cX1_sum 14 = .ok (.getfield 15, 3) := by decide +kernel
theorem dX1_sum_17 : decode cX1_sum 17 = .ok (.if_icmp .ge 171, 3) := by decide +kernel
theorem dX1_sum_20 : decode cX1_sum 20 = .ok (.aload_n 0, 1) := by decide +kernel
theorem dX1_sum_21 : decode cX1_sum 21 = .ok (.getfield 9, 3) := by decide +kernel
theorem dX1_sum_24 : decode cX1_sum 24 = .ok (.iload 5, 2) := by decide +kernel
theorem dX1_sum_26 : decode cX1_sum 26 = .ok (.iaload, 1) := by decide +kernel
theorem dX1_sum_27 : decode cX1_sum 27 = .ok (.bipush 100, 2) := by decide +kernel
theorem dX1_sum_29 : decode cX1_sum 29 = .ok (.idiv, 1) := by decide +kernel
theorem dX1_sum_30 : decode cX1_sum 30 = .ok (.istore 6, 2) := by decide +kernel
theorem dX1_sum_32 : decode cX1_sum 32 = .ok (.aload_n 0, 1) := by decide +kernel
theorem dX1_sum_33 : decode cX1_sum 33 = .ok (.getfield 9, 3) := by decide +kernel
theorem dX1_sum_36 : decode cX1_sum 36 = .ok (.iload 5, 2) := by decide +kernel
theorem dX1_sum_38 : decode cX1_sum 38 = .ok (.iaload, 1) := by decide +kernel
theorem dX1_sum_39 : decode cX1_sum 39 = .ok (.bipush 100, 2) := by decide +kernel
theorem dX1_sum_41 : decode cX1_sum 41 = .ok (.irem, 1) := by decide +kernel
theorem dX1_sum_42 : decode cX1_sum 42 = .ok (.istore 7, 2) := by decide +kernel
theorem dX1_sum_44 : decode cX1_sum 44 = .ok (.iload 4, 2) := by decide +kernel
theorem dX1_sum_46 : decode cX1_sum 46 = .ok (.iconst 1, 1) := by decide +kernel
theorem dX1_sum_47 : decode cX1_sum 47 = .ok (.iand, 1) := by decide +kernel
theorem dX1_sum_48 : decode cX1_sum 48 = .ok (.istore 8, 2) := by decide +kernel
theorem dX1_sum_50 : decode cX1_sum 50 = .ok (.iload 6, 2) := by decide +kernel
theorem dX1_sum_52 : decode cX1_sum 52 = .ok (.tableswitch 106 18 22 #[36, 45, 60, 72, 89], 36) := by decide +kernel
theorem dX1_sum_88 : decode cX1_sum 88 = .ok (.iload 4, 2) := by decide +kernel
theorem dX1_sum_90 : decode cX1_sum 90 = .ok (.iconst 1, 1) := by decide +kernel
theorem dX1_sum_91 : decode cX1_sum 91 = .ok (.ixor, 1) := by decide +kernel
theorem dX1_sum_92 : decode cX1_sum 92 = .ok (.istore 4, 2) := by decide +kernel
theorem dX1_sum_94 : decode cX1_sum 94 = .ok (.goto 88, 3) := by decide +kernel
theorem dX1_sum_97 : decode cX1_sum 97 = .ok (.iload 4, 2) := by decide +kernel
theorem dX1_sum_99 : decode cX1_sum 99 = .ok (.iconst 1, 1) := by decide +kernel
theorem dX1_sum_100 : decode cX1_sum 100 = .ok (.ishr, 1) := by decide +kernel
theorem dX1_sum_101 : decode cX1_sum 101 = .ok (.bipush (-2), 2) := by decide +kernel
theorem dX1_sum_103 : decode cX1_sum 103 = .ok (.iload 8, 2) := by decide +kernel
theorem dX1_sum_105 : decode cX1_sum 105 = .ok (.ior, 1) := by decide +kernel
theorem dX1_sum_106 : decode cX1_sum 106 = .ok (.iand, 1) := by decide +kernel
theorem dX1_sum_107 : decode cX1_sum 107 = .ok (.istore 4, 2) := by decide +kernel
theorem dX1_sum_109 : decode cX1_sum 109 = .ok (.goto 73, 3) := by decide +kernel
theorem dX1_sum_112 : decode cX1_sum 112 = .ok (.iload 4, 2) := by decide +kernel
theorem dX1_sum_114 : decode cX1_sum 114 = .ok (.iconst 1, 1) := by decide +kernel
theorem dX1_sum_115 : decode cX1_sum 115 = .ok (.ishr, 1) := by decide +kernel
theorem dX1_sum_116 : decode cX1_sum 116 = .ok (.iload 8, 2) := by decide +kernel
theorem dX1_sum_118 : decode cX1_sum 118 = .ok (.ior, 1) := by decide +kernel
theorem dX1_sum_119 : decode cX1_sum 119 = .ok (.istore 4, 2) := by decide +kernel
theorem dX1_sum_121 : decode cX1_sum 121 = .ok (.goto 61, 3) := by decide +kernel
theorem dX1_sum_124 : decode cX1_sum 124 = .ok (.iload_n 3, 1) := by decide +kernel
theorem dX1_sum_125 : decode cX1_sum 125 = .ok (.iload 8, 2) := by decide +kernel
theorem dX1_sum_127 : decode cX1_sum 127 = .ok (.iload 7, 2) := by decide +kernel
theorem dX1_sum_129 : decode cX1_sum 129 = .ok (.imul, 1) := by decide +kernel
theorem dX1_sum_130 : decode cX1_sum 130 = .ok (.iadd, 1) := by decide +kernel
theorem dX1_sum_131 : decode cX1_sum 131 = .ok (.istore_n 3, 1) := by decide +kernel
theorem dX1_sum_132 : decode cX1_sum 132 = .ok (.iload 4, 2) := by decide +kernel
theorem dX1_sum_134 : decode cX1_sum 134 = .ok (.iconst 1, 1) := by decide +kernel
theorem dX1_sum_135 : decode cX1_sum 135 = .ok (.ishr, 1) := by decide +kernel
theorem dX1_sum_136 : decode cX1_sum 136 = .ok (.istore 4, 2) := by decide +kernel
theorem dX1_sum_138 : decode cX1_sum 138 = .ok (.goto 44, 3) := by decide +kernel
theorem dX1_sum_141 : decode cX1_sum 141 = .ok (.iload_n 3, 1) := by decide +kernel
theorem dX1_sum_142 : decode cX1_sum 142 = .ok (.iload 8, 2) := by decide +kernel
theorem dX1_sum_144 : decode cX1_sum 144 = .ok (.iload 7, 2) := by decide +kernel
theorem dX1_sum_146 : decode cX1_sum 146 = .ok (.imul, 1) := by decide +kernel
theorem dX1_sum_147 : decode cX1_sum 147 = .ok (.isub, 1) := by decide +kernel
theorem dX1_sum_148 : decode cX1_sum 148 = .ok (.istore_n 3, 1) := by decide +kernel
theorem dX1_sum_149 : decode cX1_sum 149 = .ok (.iload 4, 2) := by decide +kernel
theorem dX1_sum_151 : decode cX1_sum 151 = .ok (.iconst 1, 1) := by decide +kernel
theorem dX1_sum_152 : decode cX1_sum 152 = .ok (.ishr, 1) := by decide +kernel
theorem dX1_sum_153 : decode cX1_sum 153 = .ok (.istore 4, 2) := by decide +kernel
theorem dX1_sum_155 : decode cX1_sum 155 = .ok (.goto 27, 3) := by decide +kernel
theorem dX1_sum_158 : decode cX1_sum 158 = .ok (.iload 4, 2) := by decide +kernel
theorem dX1_sum_160 : decode cX1_sum 160 = .ok (.iconst 1, 1) := by decide +kernel
theorem dX1_sum_161 : decode cX1_sum 161 = .ok (.ishl, 1) := by decide +kernel
theorem dX1_sum_162 : decode cX1_sum 162 = .ok (.iload 6, 2) := by decide +kernel
theorem dX1_sum_164 : decode cX1_sum 164 = .ok (.iload 7, 2) := by decide +kernel
theorem dX1_sum_166 : decode cX1_sum 166 = .ok (.aload_n 1, 1) := by decide +kernel
theorem dX1_sum_167 : decode cX1_sum 167 = .ok (.iload_n 2, 1) := by decide +kernel
theorem dX1_sum_168 : decode cX1_sum 168 = .ok (.invokestatic 27, 3) := by decide +kernel
theorem dX1_sum_171 : decode cX1_sum 171 = .ok (.ifCond .eq 7, 3) := by decide +kernel
theorem dX1_sum_174 : decode cX1_sum 174 = .ok (.iconst 1, 1) := by decide +kernel
theorem dX1_sum_175 : decode cX1_sum 175 = .ok (.goto 4, 3) := by decide +kernel
theorem dX1_sum_178 : decode cX1_sum 178 = .ok (.iconst 0, 1) := by decide +kernel
theorem dX1_sum_179 : decode cX1_sum 179 = .ok (.ior, 1) := by decide +kernel
theorem dX1_sum_180 : decode cX1_sum 180 = .ok (.istore 4, 2) := by decide +kernel
theorem dX1_sum_182 : decode cX1_sum 182 = .ok (.iinc 5 1, 3) := by decide +kernel
theorem dX1_sum_185 : decode cX1_sum 185 = .ok (.goto (-174), 3) := by decide +kernel
theorem dX1_sum_188 : decode cX1_sum 188 = .ok (.iload_n 3, 1) := by decide +kernel
theorem dX1_sum_189 : decode cX1_sum 189 = .ok (.ireturn, 1) := by decide +kernel
theorem dX1_holds_0 : decode cX1_holds 0 = .ok (.iload_n 0, 1) := by decide +kernel
theorem dX1_holds_1 : decode cX1_holds 1 = .ok (.iconst 3, 1) := by decide +kernel
theorem dX1_holds_2 : decode cX1_holds 2 = .ok (.idiv, 1) := by decide +kernel
theorem dX1_holds_3 : decode cX1_holds 3 = .ok (.tableswitch 75 0 4 #[33, 42, 51, 60, 66], 33) := by decide +kernel
theorem dX1_holds_36 : decode cX1_holds 36 = .ok (.aload_n 2, 1) := by decide +kernel
theorem dX1_holds_37 : decode cX1_holds 37 = .ok (.getfield 31, 3) := by decide +kernel
theorem dX1_holds_40 : decode cX1_holds 40 = .ok (.istore 4, 2) := by decide +kernel
theorem dX1_holds_42 : decode cX1_holds 42 = .ok (.goto 45, 3) := by decide +kernel
theorem dX1_holds_45 : decode cX1_holds 45 = .ok (.aload_n 2, 1) := by decide +kernel
theorem dX1_holds_46 : decode cX1_holds 46 = .ok (.getfield 34, 3) := by decide +kernel
theorem dX1_holds_49 : decode cX1_holds 49 = .ok (.istore 4, 2) := by decide +kernel
theorem dX1_holds_51 : decode cX1_holds 51 = .ok (.goto 36, 3) := by decide +kernel
theorem dX1_holds_54 : decode cX1_holds 54 = .ok (.aload_n 2, 1) := by decide +kernel
theorem dX1_holds_55 : decode cX1_holds 55 = .ok (.getfield 37, 3) := by decide +kernel
theorem dX1_holds_58 : decode cX1_holds 58 = .ok (.istore 4, 2) := by decide +kernel
theorem dX1_holds_60 : decode cX1_holds 60 = .ok (.goto 27, 3) := by decide +kernel
theorem dX1_holds_63 : decode cX1_holds 63 = .ok (.iload_n 3, 1) := by decide +kernel
theorem dX1_holds_64 : decode cX1_holds 64 = .ok (.istore 4, 2) := by decide +kernel
theorem dX1_holds_66 : decode cX1_holds 66 = .ok (.goto 21, 3) := by decide +kernel
theorem dX1_holds_69 : decode cX1_holds 69 = .ok (.aload_n 2, 1) := by decide +kernel
theorem dX1_holds_70 : decode cX1_holds 70 = .ok (.getfield 22, 3) := by decide +kernel
theorem dX1_holds_73 : decode cX1_holds 73 = .ok (.istore 4, 2) := by decide +kernel
theorem dX1_holds_75 : decode cX1_holds 75 = .ok (.goto 12, 3) := by decide +kernel
theorem dX1_holds_78 : decode cX1_holds 78 = .ok (.aload_n 2, 1) := by decide +kernel
theorem dX1_holds_79 : decode cX1_holds 79 = .ok (.getfield 40, 3) := by decide +kernel
theorem dX1_holds_82 : decode cX1_holds 82 = .ok (.bipush 10, 2) := by decide +kernel
theorem dX1_holds_84 : decode cX1_holds 84 = .ok (.irem, 1) := by decide +kernel
theorem dX1_holds_85 : decode cX1_holds 85 = .ok (.istore 4, 2) := by decide +kernel
theorem dX1_holds_87 : decode cX1_holds 87 = .ok (.iload_n 0, 1) := by decide +kernel
theorem dX1_holds_88 : decode cX1_holds 88 = .ok (.iconst 3, 1) := by decide +kernel
theorem dX1_holds_89 : decode cX1_holds 89 = .ok (.irem, 1) := by decide +kernel
theorem dX1_holds_90 : decode cX1_holds 90 = .ok (.istore 5, 2) := by decide +kernel
theorem dX1_holds_92 : decode cX1_holds 92 = .ok (.iload 5, 2) := by decide +kernel
theorem dX1_holds_94 : decode cX1_holds 94 = .ok (.ifCond .ne 17, 3) := by decide +kernel
theorem dX1_holds_97 : decode cX1_holds 97 = .ok (.iload 4, 2) := by decide +kernel
theorem dX1_holds_99 : decode cX1_holds 99 = .ok (.iload_n 1, 1) := by decide +kernel
theorem dX1_holds_100 : decode cX1_holds 100 = .ok (.if_icmp .ge 7, 3) := by decide +kernel
theorem dX1_holds_103 : decode cX1_holds 103 = .ok (.iconst 1, 1) := by decide +kernel
theorem dX1_holds_104 : decode cX1_holds 104 = .ok (.goto 38, 3) := by decide +kernel
theorem dX1_holds_107 : decode cX1_holds 107 = .ok (.iconst 0, 1) := by decide +kernel
theorem dX1_holds_108 : decode cX1_holds 108 = .ok (.goto 34, 3) := by decide +kernel
theorem dX1_holds_111 : decode cX1_holds 111 = .ok (.iload 5, 2) := by decide +kernel
theorem dX1_holds_113 : decode cX1_holds 113 = .ok (.iconst 1, 1) := by decide +kernel
theorem dX1_holds_114 : decode cX1_holds 114 = .ok (.if_icmp .ne 17, 3) := by decide +kernel
theorem dX1_holds_117 : decode cX1_holds 117 = .ok (.iload 4, 2) := by decide +kernel
theorem dX1_holds_119 : decode cX1_holds 119 = .ok (.iload_n 1, 1) := by decide +kernel
theorem dX1_holds_120 : decode cX1_holds 120 = .ok (.if_icmp .ne 7, 3) := by decide +kernel
theorem dX1_holds_123 : decode cX1_holds 123 = .ok (.iconst 1, 1) := by decide +kernel
theorem dX1_holds_124 : decode cX1_holds 124 = .ok (.goto 18, 3) := by decide +kernel
theorem dX1_holds_127 : decode cX1_holds 127 = .ok (.iconst 0, 1) := by decide +kernel
theorem dX1_holds_128 : decode cX1_holds 128 = .ok (.goto 14, 3) := by decide +kernel
theorem dX1_holds_131 : decode cX1_holds 131 = .ok (.iload 4, 2) := by decide +kernel
theorem dX1_holds_133 : decode cX1_holds 133 = .ok (.iload_n 1, 1) := by decide +kernel
theorem dX1_holds_134 : decode cX1_holds 134 = .ok (.if_icmp .le 7, 3) := by decide +kernel
theorem dX1_holds_137 : decode cX1_holds 137 = .ok (.iconst 1, 1) := by decide +kernel
theorem dX1_holds_138 : decode cX1_holds 138 = .ok (.goto 4, 3) := by decide +kernel
theorem dX1_holds_141 : decode cX1_holds 141 = .ok (.iconst 0, 1) := by decide +kernel
theorem dX1_holds_142 : decode cX1_holds 142 = .ok (.ireturn, 1) := by decide +kernel
theorem dX2_init_0 : decode cX2_init 0 = .ok (.aload_n 0, 1) := by decide +kernel
theorem dX2_init_1 : decode cX2_init 1 = .ok (.invokespecial 3, 3) := by decide +kernel
theorem dX2_init_4 : decode cX2_init 4 = .ok (.return_, 1) := by decide +kernel
theorem dX2_startAnew_0 : decode cX2_startAnew 0 = .ok (.aload_n 0, 1) := by decide +kernel
theorem dX2_startAnew_1 : decode cX2_startAnew 1 = .ok (.iconst 1, 1) := by decide +kernel
theorem dX2_startAnew_2 : decode cX2_startAnew 2 = .ok (.putfield 9, 3) := by decide +kernel
theorem dX2_startAnew_5 : decode cX2_startAnew 5 = .ok (.aload_n 0, 1) := by decide +kernel
theorem dX2_startAnew_6 : decode cX2_startAnew 6 = .ok (.iconst 0, 1) := by decide +kernel
theorem dX2_startAnew_7 : decode cX2_startAnew 7 = .ok (.putfield 15, 3) := by decide +kernel
theorem dX2_startAnew_10 : decode cX2_startAnew 10 = .ok (.aload_n 0, 1) := by decide +kernel
theorem dX2_startAnew_11 : decode cX2_startAnew 11 = .ok (.iconst 0, 1) := by decide +kernel
theorem dX2_startAnew_12 : decode cX2_startAnew 12 = .ok (.putfield 19, 3) := by decide +kernel
theorem dX2_startAnew_15 : decode cX2_startAnew 15 = .ok (.return_, 1) := by decide +kernel
theorem dX2_narrow_0 : decode cX2_narrow 0 = .ok (.iload_n 2, 1) := by decide +kernel
theorem dX2_narrow_1 : decode cX2_narrow 1 = .ok (.ifCond .eq 7, 3) := by decide +kernel
theorem dX2_narrow_4 : decode cX2_narrow 4 = .ok (.iload_n 3, 1) := by decide +kernel
theorem dX2_narrow_5 : decode cX2_narrow 5 = .ok (.ifCond .ge 28, 3) := by decide +kernel
theorem dX2_narrow_8 : decode cX2_narrow 8 = .ok (.aload_n 0, 1) := by decide +kernel
theorem dX2_narrow_9 : decode cX2_narrow 9 = .ok (.aload_n 0, 1) := by decide +kernel
theorem dX2_narrow_10 : decode cX2_narrow 10 = .ok (.getfield 9, 3) := by decide +kernel
theorem dX2_narrow_13 : decode cX2_narrow 13 = .ok (.ifCond .eq 15, 3) := by decide +kernel
theorem dX2_narrow_16 : decode cX2_narrow 16 = .ok (.iload_n 2, 1) := by decide +kernel
theorem dX2_narrow_17 : decode cX2_narrow 17 = .ok (.ifCond .ne 11, 3) := by decide +kernel
theorem dX2_narrow_20 : decode cX2_narrow 20 = .ok (.iload_n 3, 1) := by decide +kernel
theorem dX2_narrow_21 : decode cX2_narrow 21 = .ok (.ifCond .ge 7, 3) := by decide +kernel
theorem dX2_narrow_24 : decode cX2_narrow 24 = .ok (.iconst 1, 1) := by decide +kernel
theorem dX2_narrow_25 : decode cX2_narrow 25 = .ok (.goto 4, 3) := by decide +kernel
theorem dX2_narrow_28 : decode cX2_narrow 28 = .ok (.iconst 0, 1) := by decide +kernel
theorem dX2_narrow_29 : decode cX2_narrow 29 = .ok (.putfield 9, 3) := by decide +kernel
theorem dX2_narrow_32 : decode cX2_narrow 32 = .ok (.return_, 1) := by decide +kernel
theorem dX2_narrow_33 : decode cX2_narrow 33 = .ok (.iconst 1, 1) := by decide +kernel
theorem dX2_narrow_34 : decode cX2_narrow 34 = .ok (.iload_n 1, 1) := by decide +kernel
theorem dX2_narrow_35 : decode cX2_narrow 35 = .ok (.ishl, 1) := by decide +kernel
theorem dX2_narrow_36 : decode cX2_narrow 36 = .ok (.istore 4, 2) := by decide +kernel
theorem dX2_narrow_38 : decode cX2_narrow 38 = .ok (.iload_n 2, 1) := by decide +kernel
theorem dX2_narrow_39 : decode cX2_narrow 39 = .ok (.ifCond .le 7, 3) := by decide +kernel
theorem dX2_narrow_42 : decode cX2_narrow 42 = .ok (.iconst 1, 1) := by decide +kernel
theorem dX2_narrow_43 : decode cX2_narrow 43 = .ok (.goto 4, 3) := by decide +kernel
theorem dX2_narrow_46 : decode cX2_narrow 46 = .ok (.iconst 0, 1) := by decide +kernel
theorem dX2_narrow_47 : decode cX2_narrow 47 = .ok (.iload_n 3, 1) := by decide +kernel
theorem dX2_narrow_48 : decode cX2_narrow 48 = .ok (.iconst 1, 1) := by decide +kernel
theorem dX2_narrow_49 : decode cX2_narrow 49 = .ok (.if_icmp .ne 7, 3) := by decide +kernel
theorem dX2_narrow_52 : decode cX2_narrow 52 = .ok (.iconst 1, 1) := by decide +kernel
theorem dX2_narrow_53 : decode cX2_narrow 53 = .ok (.goto 4, 3) := by decide +kernel
theorem dX2_narrow_56 : decode cX2_narrow 56 = .ok (.iconst 0, 1) := by decide +kernel
theorem dX2_narrow_57 : decode cX2_narrow 57 = .ok (.if_icmp .ne 8, 3) := by decide +kernel
theorem dX2_narrow_60 : decode cX2_narrow 60 = .ok (.iload 4, 2) := by decide +kernel
theorem dX2_narrow_62 : decode cX2_narrow 62 = .ok (.goto 4, 3) := by decide +kernel
theorem dX2_narrow_65 : decode cX2_narrow 65 = .ok (.iconst 0, 1) := by decide +kernel
theorem dX2_narrow_66 : decode cX2_narrow 66 = .ok (.istore 5, 2) := by decide +kernel
theorem dX2_narrow_68 : decode cX2_narrow 68 = .ok (.aload_n 0, 1) := by decide +kernel
theorem dX2_narrow_69 : decode cX2_narrow 69 = .ok (.getfield 15, 3) := by decide +kernel
theorem dX2_narrow_72 : decode cX2_narrow 72 = .ok (.iload 4, 2) := by decide +kernel
theorem dX2_narrow_74 : decode cX2_narrow 74 = .ok (.iand, 1) := by decide +kernel
theorem dX2_narrow_75 : decode cX2_narrow 75 = .ok (.ifCond .eq 20, 3) := by decide +kernel
theorem dX2_narrow_78 : decode cX2_narrow 78 = .ok (.aload_n 0, 1) := by decide +kernel
theorem dX2_narrow_79 : decode cX2_narrow 79 = .ok (.getfield 19, 3) := by decide +kernel
theorem dX2_narrow_82 : decode cX2_narrow 82 = .ok (.iload 4, 2) := by decide +kernel
theorem dX2_narrow_84 : decode cX2_narrow 84 = .ok (.iand, 1) := by decide +kernel
theorem dX2_narrow_85 : decode cX2_narrow 85 = .ok (.iload 5, 2) := by decide +kernel
theorem dX2_narrow_87 : decode cX2_narrow 87 = .ok (.if_icmp .eq 8, 3) := by decide +kernel
theorem dX2_narrow_90 : decode cX2_narrow 90 = .ok (.aload_n 0, 1) := by decide +kernel
theorem dX2_narrow_91 : decode cX2_narrow 91 = .ok (.iconst 0, 1) := by decide +kernel
theorem dX2_narrow_92 : decode cX2_narrow 92 = .ok (.putfield 9, 3) := by decide +kernel
theorem dX2_narrow_95 : decode cX2_narrow 95 = .ok (.aload_n 0, 1) := by decide +kernel
theorem dX2_narrow_96 : decode cX2_narrow 96 = .ok (.dup, 1) := by decide +kernel
theorem dX2_narrow_97 : decode cX2_narrow 97 = .ok (.getfield 15, 3) := by decide +kernel
theorem dX2_narrow_100 : decode cX2_narrow 100 = .ok (.iload 4, 2) := by decide +kernel
theorem dX2_narrow_102 : decode cX2_narrow 102 = .ok (.ior, 1) := by decide +kernel
theorem dX2_narrow_103 : decode cX2_narrow 103 = .ok (.putfield 15, 3) := by decide +kernel
theorem dX2_narrow_106 : decode cX2_narrow 106 = .ok (.aload_n 0, 1) := by decide +kernel
theorem dX2_narrow_107 : decode cX2_narrow 107 = .ok (.dup, 1) := by decide +kernel
theorem dX2_narrow_108 : decode cX2_narrow 108 = .ok (.getfield 19, 3) := by decide +kernel
theorem dX2_narrow_111 : decode cX2_narrow 111 = .ok (.iload 5, 2) := by decide +kernel
theorem dX2_narrow_113 : decode cX2_narrow 113 = .ok (.ior, 1) := by decide +kernel
theorem dX2_narrow_114 : decode cX2_narrow 114 = .ok (.putfield 19, 3) := by decide +kernel
theorem dX2_narrow_117 : decode cX2_narrow 117 = .ok (.return_, 1) := by decide +kernel
theorem dX2_size_0 : decode cX2_size 0 = .ok (.aload_n 0, 1) := by decide +kernel
theorem dX2_size_1 : decode cX2_size 1 = .ok (.getfield 9, 3) := by decide +kernel
theorem dX2_size_4 : decode cX2_size 4 = .ok (.ifCond .eq 18, 3) := by decide +kernel
theorem dX2_size_7 : decode cX2_size 7 = .ok (.iconst 1, 1) := by decide +kernel
theorem dX2_size_8 : decode cX2_size 8 = .ok (.bipush 8, 2) := by decide +kernel
theorem dX2_size_10 : decode cX2_size 10 = .ok (.aload_n 0, 1) := by decide +kernel
theorem dX2_size_11 : decode cX2_size 11 = .ok (.getfield 15, 3) := by decide +kernel
theorem dX2_size_14 : decode cX2_size 14 = .ok (.invokestatic 22, 3) := by decide +kernel
theorem dX2_size_17 : decode cX2_size 17 = .ok (.isub, 1) := by decide +kernel
theorem dX2_size_18 : decode cX2_size 18 = .ok (.ishl, 1) := by decide +kernel
theorem dX2_size_19 : decode cX2_size 19 = .ok (.goto 4, 3) := by decide +kernel
theorem dX2_size_22 : decode cX2_size 22 = .ok (.iconst 0, 1) := by decide +kernel
theorem dX2_size_23 : decode cX2_size 23 = .ok (.ireturn, 1) := by decide +kernel
theorem dX2_leftBy_0 : decode cX2_leftBy 0 = .ok (.iload_n 2, 1) := by decide +kernel
theorem dX2_leftBy_1 : decode cX2_leftBy 1 = .ok (.ifCond .eq 18, 3) := by decide +kernel
theorem dX2_leftBy_4 : decode cX2_leftBy 4 = .ok (.aload_n 0, 1) := by decide +kernel
theorem dX2_leftBy_5 : decode cX2_leftBy 5 = .ok (.getfield 15, 3) := by decide +kernel
theorem dX2_leftBy_8 : decode cX2_leftBy 8 = .ok (.iload_n 1, 1) := by decide +kernel
theorem dX2_leftBy_9 : decode cX2_leftBy 9 = .ok (.invokestatic 28, 3) := by decide +kernel
theorem dX2_leftBy_12 : decode cX2_leftBy 12 = .ok (.ifCond .ne 7, 3) := by decide +kernel
theorem dX2_leftBy_15 : decode cX2_leftBy 15 = .ok (.iconst 1, 1) := by decide +kernel
theorem dX2_leftBy_16 : decode cX2_leftBy 16 = .ok (.goto 4, 3) := by decide +kernel
theorem dX2_leftBy_19 : decode cX2_leftBy 19 = .ok (.iconst 0, 1) := by decide +kernel
theorem dX2_leftBy_20 : decode cX2_leftBy 20 = .ok (.istore_n 3, 1) := by decide +kernel
theorem dX2_leftBy_21 : decode cX2_leftBy 21 = .ok (.iload_n 3, 1) := by decide +kernel
theorem dX2_leftBy_22 : decode cX2_leftBy 22 = .ok (.ifCond .eq 12, 3) := by decide +kernel
theorem dX2_leftBy_25 : decode cX2_leftBy 25 = .ok (.aload_n 0, 1) := by decide +kernel
theorem dX2_leftBy_26 : decode cX2_leftBy 26 = .ok (.invokevirtual 32, 3) := by decide +kernel
theorem dX2_leftBy_29 : decode cX2_leftBy 29 = .ok (.iconst 2, 1) := by decide +kernel
theorem dX2_leftBy_30 : decode cX2_leftBy 30 = .ok (.idiv, 1) := by decide +kernel
theorem dX2_leftBy_31 : decode cX2_leftBy 31 = .ok (.goto 7, 3) := by decide +kernel
theorem dX2_leftBy_34 : decode cX2_leftBy 34 = .ok (.aload_n 0, 1) := by decide +kernel
theorem dX2_leftBy_35 : decode cX2_leftBy 35 = .ok (.invokevirtual 32, 3) := by decide +kernel
theorem dX2_leftBy_38 : decode cX2_leftBy 38 = .ok (.ireturn, 1) := by decide +kernel
theorem dX3_init_0 : decode cX3_init 0 = .ok (.aload_n 0, 1) := by decide +kernel
theorem dX3_init_1 : decode cX3_init 1 = .ok (.invokespecial 3, 3) := by decide +kernel
theorem dX3_init_4 : decode cX3_init 4 = .ok (.aload_n 0, 1) := by decide +kernel
theorem dX3_init_5 : decode cX3_init 5 = .ok (.iconst 4, 1) := by decide +kernel
theorem dX3_init_6 : decode cX3_init 6 = .ok (.newarray .int, 2) := by decide +kernel
theorem dX3_init_8 : decode cX3_init 8 = .ok (.putfield 9, 3) := by decide +kernel
theorem dX3_init_11 : decode cX3_init 11 = .ok (.return_, 1) := by decide +kernel
theorem dX3_begin_0 : decode cX3_begin 0 = .ok (.aload_n 0, 1) := by decide +kernel
theorem dX3_begin_1 : decode cX3_begin 1 = .ok (.iload_n 1, 1) := by decide +kernel
theorem dX3_begin_2 : decode cX3_begin 2 = .ok (.putfield 15, 3) := by decide +kernel
theorem dX3_begin_5 : decode cX3_begin 5 = .ok (.aload_n 0, 1) := by decide +kernel
theorem dX3_begin_6 : decode cX3_begin 6 = .ok (.iload_n 2, 1) := by decide +kernel
theorem dX3_begin_7 : decode cX3_begin 7 = .ok (.putfield 19, 3) := by decide +kernel
theorem dX3_begin_10 : decode cX3_begin 10 = .ok (.aload_n 0, 1) := by decide +kernel
theorem dX3_begin_11 : decode cX3_begin 11 = .ok (.iload_n 3, 1) := by decide +kernel
theorem dX3_begin_12 : decode cX3_begin 12 = .ok (.putfield 22, 3) := by decide +kernel
theorem dX3_begin_15 : decode cX3_begin 15 = .ok (.aload_n 0, 1) := by decide +kernel
theorem dX3_begin_16 : decode cX3_begin 16 = .ok (.iload 4, 2) := by decide +kernel
theorem dX3_begin_18 : decode cX3_begin 18 = .ok (.putfield 25, 3) := by decide +kernel
theorem dX3_begin_21 : decode cX3_begin 21 = .ok (.aload_n 0, 1) := by decide +kernel
theorem dX3_begin_22 : decode cX3_begin 22 = .ok (.iconst 0, 1) := by decide +kernel
theorem dX3_begin_23 : decode cX3_begin 23 = .ok (.putfield 28, 3) := by decide +kernel
theorem dX3_begin_26 : decode cX3_begin 26 = .ok (.aload_n 0, 1) := by decide +kernel
theorem dX3_begin_27 : decode cX3_begin 27 = .ok (.iconst 0, 1) := by decide +kernel
theorem dX3_begin_28 : decode cX3_begin 28 = .ok (.putfield 31, 3) := by decide +kernel
theorem dX3_begin_31 : decode cX3_begin 31 = .ok (.aload_n 0, 1) := by decide +kernel
theorem dX3_begin_32 : decode cX3_begin 32 = .ok (.getfield 9, 3) := by decide +kernel
theorem dX3_begin_35 : decode cX3_begin 35 = .ok (.iconst 0, 1) := by decide +kernel
theorem dX3_begin_36 : decode cX3_begin 36 = .ok (.invokestatic 34, 3) := by decide +kernel
theorem dX3_begin_39 : decode cX3_begin 39 = .ok (.return_, 1) := by decide +kernel
theorem dX3_copyFrom_0 : decode cX3_copyFrom 0 = .ok (.aload_n 0, 1) := by decide +kernel
theorem dX3_copyFrom_1 : decode cX3_copyFrom 1 = .ok (.aload_n 1, 1) := by decide +kernel
theorem dX3_copyFrom_2 : decode cX3_copyFrom 2 = .ok (.getfield 15, 3) := by decide +kernel
theorem dX3_copyFrom_5 : decode cX3_copyFrom 5 = .ok (.putfield 15, 3) := by decide +kernel
theorem dX3_copyFrom_8 : decode cX3_copyFrom 8 = .ok (.aload_n 0, 1) := by decide +kernel
theorem dX3_copyFrom_9 : decode cX3_copyFrom 9 = .ok (.aload_n 1, 1) := by decide +kernel
theorem dX3_copyFrom_10 : decode cX3_copyFrom 10 = .ok (.getfield 19, 3) := by decide +kernel
theorem dX3_copyFrom_13 : decode cX3_copyFrom 13 = .ok (.putfield 19, 3) := by decide +kernel
theorem dX3_copyFrom_16 : decode cX3_copyFrom 16 = .ok (.aload_n 0, 1) := by decide +kernel
theorem dX3_copyFrom_17 : decode cX3_copyFrom 17 = .ok (.aload_n 1, 1) := by decide +kernel
theorem dX3_copyFrom_18 : decode cX3_copyFrom 18 = .ok (.getfield 22, 3) := by decide +kernel
theorem dX3_copyFrom_21 : decode cX3_copyFrom 21 = .ok (.putfield 22, 3) := by decide +kernel
theorem dX3_copyFrom_24 : decode cX3_copyFrom 24 = .ok (.aload_n 0, 1) := by decide +kernel
theorem dX3_copyFrom_25 : decode cX3_copyFrom 25 = .ok (.aload_n 1, 1) := by decide +kernel
theorem dX3_copyFrom_26 : decode cX3_copyFrom 26 = .ok (.getfield 25, 3) := by decide +kernel
theorem dX3_copyFrom_29 : decode cX3_copyFrom 29 = .ok (.putfield 25, 3) := by decide +kernel
theorem dX3_copyFrom_32 : decode cX3_copyFrom 32 = .ok (.aload_n 0, 1) := by decide +kernel
theorem dX3_copyFrom_33 : decode cX3_copyFrom 33 = .ok (.aload_n 1, 1) := by decide +kernel
theorem dX3_copyFrom_34 : decode cX3_copyFrom 34 = .ok (.getfield 28, 3) := by decide +kernel
theorem dX3_copyFrom_37 : decode cX3_copyFrom 37 = .ok (.putfield 28, 3) := by decide +kernel
theorem dX3_copyFrom_40 : decode cX3_copyFrom 40 = .ok (.aload_n 0, 1) := by decide +kernel
theorem dX3_copyFrom_41 : decode cX3_copyFrom 41 = .ok (.aload_n 1, 1) := by decide +kernel
theorem dX3_copyFrom_42 : decode cX3_copyFrom 42 = .ok (.getfield 31, 3) := by decide +kernel
theorem dX3_copyFrom_45 : decode cX3_copyFrom 45 = .ok (.putfield 31, 3) := by decide +kernel
theorem dX3_copyFrom_48 : decode cX3_copyFrom 48 = .ok (.aload_n 1, 1) := by decide +kernel
theorem dX3_copyFrom_49 : decode cX3_copyFrom 49 = .ok (.getfield 9, 3) := by decide +kernel
theorem dX3_copyFrom_52 : decode cX3_copyFrom 52 = .ok (.iconst 0, 1) := by decide +kernel
theorem dX3_copyFrom_53 : decode cX3_copyFrom 53 = .ok (.aload_n 0, 1) := by decide +kernel
theorem dX3_copyFrom_54 : decode cX3_copyFrom 54 = .ok (.getfield 9, 3) := by decide +kernel
theorem dX3_copyFrom_57 : decode cX3_copyFrom 57 = .ok (.iconst 0, 1) := by decide +kernel
theorem dX3_copyFrom_58 : decode cX3_copyFrom 58 = .ok (.iconst 4, 1) := by decide +kernel
theorem dX3_copyFrom_59 : decode cX3_copyFrom 59 = .ok (.invokestatic 40, 3) := by decide +kernel
theorem dX3_copyFrom_62 : decode cX3_copyFrom 62 = .ok (.return_, 1) := by decide +kernel
theorem dX3_clear_0 : decode cX3_clear 0 = .ok (.aload_n 0, 1) := by decide +kernel
theorem dX3_clear_1 : decode cX3_clear 1 = .ok (.getfield 19, 3) := by decide +kernel
theorem dX3_clear_4 : decode cX3_clear 4 = .ok (.tableswitch 120 1 6 #[40, 47, 51, 60, 82, 100], 40) := by decide +kernel
theorem dX3_clear_44 : decode cX3_clear 44 = .ok (.iload_n 1, 1) := by decide +kernel
theorem dX3_clear_45 : decode cX3_clear 45 = .ok (.aload_n 0, 1) := by decide +kernel
theorem dX3_clear_46 : decode cX3_clear 46 = .ok (.getfield 22, 3) := by decide +kernel
theorem dX3_clear_49 : decode cX3_clear 49 = .ok (.iadd, 1) := by decide +kernel
theorem dX3_clear_50 : decode cX3_clear 50 = .ok (.ireturn, 1) := by decide +kernel
theorem dX3_clear_51 : decode cX3_clear 51 = .ok (.iload_n 1, 1) := by decide +kernel
theorem dX3_clear_52 : decode cX3_clear 52 = .ok (.iconst 2, 1) := by decide +kernel
theorem dX3_clear_53 : decode cX3_clear 53 = .ok (.idiv, 1) := by decide +kernel
theorem dX3_clear_54 : decode cX3_clear 54 = .ok (.ireturn, 1) := by decide +kernel
theorem dX3_clear_55 : decode cX3_clear 55 = .ok (.iload_n 1, 1) := by decide +kernel
theorem dX3_clear_56 : decode cX3_clear 56 = .ok (.iconst 2, 1) := by decide +kernel
theorem dX3_clear_57 : decode cX3_clear 57 = .ok (.aload_n 0, 1) := by decide +kernel
theorem dX3_clear_58 : decode cX3_clear 58 = .ok (.getfield 31, 3) := by decide +kernel
theorem dX3_clear_61 : decode cX3_clear 61 = .ok (.imul, 1) := by decide +kernel
theorem dX3_clear_62 : decode cX3_clear 62 = .ok (.isub, 1) := by decide +kernel
theorem dX3_clear_63 : decode cX3_clear 63 = .ok (.ireturn, 1) := by decide +kernel
theorem dX3_clear_64 : decode cX3_clear 64 = .ok (.aload_n 0, 1) := by decide +kernel
theorem dX3_clear_65 : decode cX3_clear 65 = .ok (.getfield 28, 3) := by decide +kernel
theorem dX3_clear_68 : decode cX3_clear 68 = .ok (.aload_n 0, 1) := by decide +kernel
theorem dX3_clear_69 : decode cX3_clear 69 = .ok (.getfield 22, 3) := by decide +kernel
theorem dX3_clear_72 : decode cX3_clear 72 = .ok (.if_icmp .ge 7, 3) := by decide +kernel
theorem dX3_clear_75 : decode cX3_clear 75 = .ok (.iconst 0, 1) := by decide +kernel
theorem dX3_clear_76 : decode cX3_clear 76 = .ok (.goto 9, 3) := by decide +kernel
theorem dX3_clear_79 : decode cX3_clear 79 = .ok (.iload_n 1, 1) := by decide +kernel
theorem dX3_clear_80 : decode cX3_clear 80 = .ok (.aload_n 0, 1) := by decide +kernel
theorem dX3_clear_81 : decode cX3_clear 81 = .ok (.getfield 22, 3) := by decide +kernel
theorem dX3_clear_84 : decode cX3_clear 84 = .ok (.iadd, 1) := by decide +kernel
theorem dX3_clear_85 : decode cX3_clear 85 = .ok (.ireturn, 1) := by decide +kernel
theorem dX3_clear_86 : decode cX3_clear 86 = .ok (.iload_n 1, 1) := by decide +kernel
theorem dX3_clear_87 : decode cX3_clear 87 = .ok (.iconst 2, 1) := by decide +kernel
theorem dX3_clear_88 : decode cX3_clear 88 = .ok (.idiv, 1) := by decide +kernel
theorem dX3_clear_89 : decode cX3_clear 89 = .ok (.iload_n 2, 1) := by decide +kernel
theorem dX3_clear_90 : decode cX3_clear 90 = .ok (.iconst 2, 1) := by decide +kernel
theorem dX3_clear_91 : decode cX3_clear 91 = .ok (.irem, 1) := by decide +kernel
theorem dX3_clear_92 : decode cX3_clear 92 = .ok (.iconst 1, 1) := by decide +kernel
theorem dX3_clear_93 : decode cX3_clear 93 = .ok (.if_icmp .ne 8, 3) := by decide +kernel
theorem dX3_clear_96 : decode cX3_clear 96 = .ok (.bipush 6, 2) := by decide +kernel
theorem dX3_clear_98 : decode cX3_clear 98 = .ok (.goto 4, 3) := by decide +kernel
theorem dX3_clear_101 : decode cX3_clear 101 = .ok (.iconst 0, 1) := by decide +kernel
theorem dX3_clear_102 : decode cX3_clear 102 = .ok (.isub, 1) := by decide +kernel
theorem dX3_clear_103 : decode cX3_clear 103 = .ok (.ireturn, 1) := by decide +kernel
theorem dX3_clear_104 : decode cX3_clear 104 = .ok (.iload_n 1, 1) := by decide +kernel
theorem dX3_clear_105 : decode cX3_clear 105 = .ok (.iconst 2, 1) := by decide +kernel
theorem dX3_clear_106 : decode cX3_clear 106 = .ok (.aload_n 0, 1) := by decide +kernel
theorem dX3_clear_107 : decode cX3_clear 107 = .ok (.getfield 31, 3) := by decide +kernel
theorem dX3_clear_110 : decode cX3_clear 110 = .ok (.imul, 1) := by decide +kernel
theorem dX3_clear_111 : decode cX3_clear 111 = .ok (.isub, 1) := by decide +kernel
theorem dX3_clear_112 : decode cX3_clear 112 = .ok (.aload_n 0, 1) := by decide +kernel
theorem dX3_clear_113 : decode cX3_clear 113 = .ok (.getfield 9, 3) := by decide +kernel
theorem dX3_clear_116 : decode cX3_clear 116 = .ok (.iload_n 2, 1) := by decide +kernel
theorem dX3_clear_117 : decode cX3_clear 117 = .ok (.iconst 3, 1) := by decide +kernel
theorem dX3_clear_118 : decode cX3_clear 118 = .ok (.iand, 1) := by decide +kernel
theorem dX3_clear_119 : decode cX3_clear 119 = .ok (.iaload, 1) := by decide +kernel
theorem dX3_clear_120 : decode cX3_clear 120 = .ok (.iadd, 1) := by decide +kernel
theorem dX3_clear_121 : decode cX3_clear 121 = .ok (.iconst 4, 1) := by decide +kernel
theorem dX3_clear_122 : decode cX3_clear 122 = .ok (.isub, 1) := by decide +kernel
theorem dX3_clear_123 : decode cX3_clear 123 = .ok (.ireturn, 1) := by decide +kernel
theorem dX3_clear_124 : decode cX3_clear 124 = .ok (.iload_n 1, 1) := by decide +kernel
theorem dX3_clear_125 : decode cX3_clear 125 = .ok (.ireturn, 1) := by decide +kernel
theorem dX3_open_0 : decode cX3_open 0 = .ok (.aload_n 0, 1) := by decide +kernel
theorem dX3_open_1 : decode cX3_open 1 = .ok (.aload_n 0, 1) := by decide +kernel
theorem dX3_open_2 : decode cX3_open 2 = .ok (.getfield 31, 3) := by decide +kernel
theorem dX3_open_5 : decode cX3_open 5 = .ok (.iconst 1, 1) := by decide +kernel
theorem dX3_open_6 : decode cX3_open 6 = .ok (.iadd, 1) := by decide +kernel
theorem dX3_open_7 : decode cX3_open 7 = .ok (.bipush 9, 2) := by decide +kernel
theorem dX3_open_9 : decode cX3_open 9 = .ok (.invokestatic 46, 3) := by decide +kernel
theorem dX3_open_12 : decode cX3_open 12 = .ok (.putfield 31, 3) := by decide +kernel
theorem dX3_open_15 : decode cX3_open 15 = .ok (.aload_n 0, 1) := by decide +kernel
theorem dX3_open_16 : decode cX3_open 16 = .ok (.aload_n 0, 1) := by decide +kernel
theorem dX3_open_17 : decode cX3_open 17 = .ok (.getfield 25, 3) := by decide +kernel
theorem dX3_open_20 : decode cX3_open 20 = .ok (.iconst 1, 1) := by decide +kernel
theorem dX3_open_21 : decode cX3_open 21 = .ok (.isub, 1) := by decide +kernel
theorem dX3_open_22 : decode cX3_open 22 = .ok (.iconst 0, 1) := by decide +kernel
theorem dX3_open_23 : decode cX3_open 23 = .ok (.invokestatic 52, 3) := by decide +kernel
theorem dX3_open_26 : decode cX3_open 26 = .ok (.putfield 25, 3) := by decide +kernel
theorem dX3_open_29 : decode cX3_open 29 = .ok (.return_, 1) := by decide +kernel
theorem dX3_ripen_0 : decode cX3_ripen 0 = .ok (.aload_n 0, 1) := by decide +kernel
theorem dX3_ripen_1 : decode cX3_ripen 1 = .ok (.dup, 1) := by decide +kernel
theorem dX3_ripen_2 : decode cX3_ripen 2 = .ok (.getfield 28, 3) := by decide +kernel
theorem dX3_ripen_5 : decode cX3_ripen 5 = .ok (.iconst 1, 1) := by decide +kernel
theorem dX3_ripen_6 : decode cX3_ripen 6 = .ok (.iadd, 1) := by decide +kernel
theorem dX3_ripen_7 : decode cX3_ripen 7 = .ok (.putfield 28, 3) := by decide +kernel
theorem dX3_ripen_10 : decode cX3_ripen 10 = .ok (.iload_n 1, 1) := by decide +kernel
theorem dX3_ripen_11 : decode cX3_ripen 11 = .ok (.ifCond .le 27, 3) := by decide +kernel
theorem dX3_ripen_14 : decode cX3_ripen 14 = .ok (.aload_n 0, 1) := by decide +kernel
theorem dX3_ripen_15 : decode cX3_ripen 15 = .ok (.getfield 28, 3) := by decide +kernel
theorem dX3_ripen_18 : decode cX3_ripen 18 = .ok (.iload_n 1, 1) := by decide +kernel
theorem dX3_ripen_19 : decode cX3_ripen 19 = .ok (.irem, 1) := by decide +kernel
theorem dX3_ripen_20 : decode cX3_ripen 20 = .ok (.ifCond .ne 18, 3) := by decide +kernel
theorem dX3_ripen_23 : decode cX3_ripen 23 = .ok (.aload_n 0, 1) := by decide +kernel
theorem dX3_ripen_24 : decode cX3_ripen 24 = .ok (.aload_n 0, 1) := by decide +kernel
theorem dX3_ripen_25 : decode cX3_ripen 25 = .ok (.getfield 25, 3) := by decide +kernel
theorem dX3_ripen_28 : decode cX3_ripen 28 = .ok (.iconst 1, 1) := by decide +kernel
theorem dX3_ripen_29 : decode cX3_ripen 29 = .ok (.iadd, 1) := by decide +kernel
theorem dX3_ripen_30 : decode cX3_ripen 30 = .ok (.bipush 9, 2) := by decide +kernel
theorem dX3_ripen_32 : decode cX3_ripen 32 = .ok (.invokestatic 46, 3) := by decide +kernel
theorem dX3_ripen_35 : decode cX3_ripen 35 = .ok (.putfield 25, 3) := by decide +kernel
theorem dX3_ripen_38 : decode cX3_ripen 38 = .ok (.return_, 1) := by decide +kernel
theorem dX4_init_0 : decode cX4_init 0 = .ok (.aload_n 0, 1) := by decide +kernel
theorem dX4_init_1 : decode cX4_init 1 = .ok (.invokespecial 3, 3) := by decide +kernel
theorem dX4_init_4 : decode cX4_init 4 = .ok (.aload_n 0, 1) := by decide +kernel
theorem dX4_init_5 : decode cX4_init 5 = .ok (.iconst 0, 1) := by decide +kernel
theorem dX4_init_6 : decode cX4_init 6 = .ok (.putfield 9, 3) := by decide +kernel
theorem dX4_init_9 : decode cX4_init 9 = .ok (.aload_n 0, 1) := by decide +kernel
theorem dX4_init_10 : decode cX4_init 10 = .ok (.iload_n 1, 1) := by decide +kernel
theorem dX4_init_11 : decode cX4_init 11 = .ok (.newarray .int, 2) := by decide +kernel
theorem dX4_init_13 : decode cX4_init 13 = .ok (.putfield 15, 3) := by decide +kernel
theorem dX4_init_16 : decode cX4_init 16 = .ok (.aload_n 0, 1) := by decide +kernel
theorem dX4_init_17 : decode cX4_init 17 = .ok (.iload_n 1, 1) := by decide +kernel
theorem dX4_init_18 : decode cX4_init 18 = .ok (.newarray .int, 2) := by decide +kernel
theorem dX4_init_20 : decode cX4_init 20 = .ok (.putfield 19, 3) := by decide +kernel
theorem dX4_init_23 : decode cX4_init 23 = .ok (.aload_n 0, 1) := by decide +kernel
theorem dX4_init_24 : decode cX4_init 24 = .ok (.iload_n 1, 1) := by decide +kernel
theorem dX4_init_25 : decode cX4_init 25 = .ok (.newarray .int, 2) := by decide +kernel
theorem dX4_init_27 : decode cX4_init 27 = .ok (.putfield 22, 3) := by decide +kernel
theorem dX4_init_30 : decode cX4_init 30 = .ok (.return_, 1) := by decide +kernel
theorem dX4_append_0 : decode cX4_append 0 = .ok (.aload_n 0, 1) := by decide +kernel
theorem dX4_append_1 : decode cX4_append 1 = .ok (.getfield 9, 3) := by decide +kernel
theorem dX4_append_4 : decode cX4_append 4 = .ok (.aload_n 0, 1) := by decide +kernel
theorem dX4_append_5 : decode cX4_append 5 = .ok (.getfield 15, 3) := by decide +kernel
theorem dX4_append_8 : decode cX4_append 8 = .ok (.arraylength, 1) := by decide +kernel
theorem dX4_append_9 : decode cX4_append 9 = .ok (.if_icmp .lt 6, 3) := by decide +kernel
theorem dX4_append_12 : decode cX4_append 12 = .ok (.bipush (-4), 2) := by decide +kernel
theorem dX4_append_14 : decode cX4_append 14 = .ok (.ireturn, 1) := by decide +kernel
theorem dX4_append_15 : decode cX4_append 15 = .ok (.aload_n 0, 1) := by decide +kernel
theorem dX4_append_16 : decode cX4_append 16 = .ok (.getfield 15, 3) := by decide +kernel
theorem dX4_append_19 : decode cX4_append 19 = .ok (.aload_n 0, 1) := by decide +kernel
theorem dX4_append_20 : decode cX4_append 20 = .ok (.getfield 9, 3) := by decide +kernel
theorem dX4_append_23 : decode cX4_append 23 = .ok (.iload_n 1, 1) := by decide +kernel
theorem dX4_append_24 : decode cX4_append 24 = .ok (.iastore, 1) := by decide +kernel
theorem dX4_append_25 : decode cX4_append 25 = .ok (.aload_n 0, 1) := by decide +kernel
theorem dX4_append_26 : decode cX4_append 26 = .ok (.getfield 19, 3) := by decide +kernel
theorem dX4_append_29 : decode cX4_append 29 = .ok (.aload_n 0, 1) := by decide +kernel
theorem dX4_append_30 : decode cX4_append 30 = .ok (.getfield 9, 3) := by decide +kernel
theorem dX4_append_33 : decode cX4_append 33 = .ok (.iload_n 2, 1) := by decide +kernel
theorem dX4_append_34 : decode cX4_append 34 = .ok (.iastore, 1) := by decide +kernel
theorem dX4_append_35 : decode cX4_append 35 = .ok (.aload_n 0, 1) := by decide +kernel
theorem dX4_append_36 : decode cX4_append 36 = .ok (.getfield 22, 3) := by decide +kernel
theorem dX4_append_39 : decode cX4_append 39 = .ok (.aload_n 0, 1) := by decide +kernel
theorem dX4_append_40 : decode cX4_append 40 = .ok (.getfield 9, 3) := by decide +kernel
theorem dX4_append_43 : decode cX4_append 43 = .ok (.iload_n 3, 1) := by decide +kernel
theorem dX4_append_44 : decode cX4_append 44 = .ok (.iastore, 1) := by decide +kernel
theorem dX4_append_45 : decode cX4_append 45 = .ok (.aload_n 0, 1) := by decide +kernel
theorem dX4_append_46 : decode cX4_append 46 = .ok (.dup, 1) := by decide +kernel
theorem dX4_append_47 : decode cX4_append 47 = .ok (.getfield 9, 3) := by decide +kernel
theorem dX4_append_50 : decode cX4_append 50 = .ok (.iconst 1, 1) := by decide +kernel
theorem dX4_append_51 : decode cX4_append 51 = .ok (.iadd, 1) := by decide +kernel
theorem dX4_append_52 : decode cX4_append 52 = .ok (.putfield 9, 3) := by decide +kernel
theorem dX4_append_55 : decode cX4_append 55 = .ok (.aload_n 0, 1) := by decide +kernel
theorem dX4_append_56 : decode cX4_append 56 = .ok (.getfield 9, 3) := by decide +kernel
theorem dX4_append_59 : decode cX4_append 59 = .ok (.ireturn, 1) := by decide +kernel
theorem dX4_empty_0 : decode cX4_empty 0 = .ok (.aload_n 0, 1) := by decide +kernel
theorem dX4_empty_1 : decode cX4_empty 1 = .ok (.iconst 0, 1) := by decide +kernel
theorem dX4_empty_2 : decode cX4_empty 2 = .ok (.putfield 9, 3) := by decide +kernel
theorem dX4_empty_5 : decode cX4_empty 5 = .ok (.iconst 0, 1) := by decide +kernel
theorem dX4_empty_6 : decode cX4_empty 6 = .ok (.ireturn, 1) := by decide +kernel
theorem dX4_copyFrom_0 : decode cX4_copyFrom 0 = .ok (.aload_n 0, 1) := by decide +kernel
theorem dX4_copyFrom_1 : decode cX4_copyFrom 1 = .ok (.aload_n 1, 1) := by decide +kernel
theorem dX4_copyFrom_2 : decode cX4_copyFrom 2 = .ok (.getfield 9, 3) := by decide +kernel
theorem dX4_copyFrom_5 : decode cX4_copyFrom 5 = .ok (.aload_n 0, 1) := by decide +kernel
theorem dX4_copyFrom_6 : decode cX4_copyFrom 6 = .ok (.getfield 15, 3) := by decide +kernel
theorem dX4_copyFrom_9 : decode cX4_copyFrom 9 = .ok (.arraylength, 1) := by decide +kernel
theorem dX4_copyFrom_10 : decode cX4_copyFrom 10 = .ok (.invokestatic 25, 3) := by decide +kernel
theorem dX4_copyFrom_13 : decode cX4_copyFrom 13 = .ok (.putfield 9, 3) := by decide +kernel
theorem dX4_copyFrom_16 : decode cX4_copyFrom 16 = .ok (.aload_n 1, 1) := by decide +kernel
theorem dX4_copyFrom_17 : decode cX4_copyFrom 17 = .ok (.getfield 15, 3) := by decide +kernel
theorem dX4_copyFrom_20 : decode cX4_copyFrom 20 = .ok (.iconst 0, 1) := by decide +kernel
theorem dX4_copyFrom_21 : decode cX4_copyFrom 21 = .ok (.aload_n 0, 1) := by decide +kernel
theorem dX4_copyFrom_22 : decode cX4_copyFrom 22 = .ok (.getfield 15, 3) := by decide +kernel
theorem dX4_copyFrom_25 : decode cX4_copyFrom 25 = .ok (.iconst 0, 1) := by decide +kernel
theorem dX4_copyFrom_26 : decode cX4_copyFrom 26 = .ok (.aload_n 0, 1) := by decide +kernel
theorem dX4_copyFrom_27 : decode cX4_copyFrom 27 = .ok (.getfield 9, 3) := by decide +kernel
theorem dX4_copyFrom_30 : decode cX4_copyFrom 30 = .ok (.invokestatic 31, 3) := by decide +kernel
theorem dX4_copyFrom_33 : decode cX4_copyFrom 33 = .ok (.aload_n 1, 1) := by decide +kernel
theorem dX4_copyFrom_34 : decode cX4_copyFrom 34 = .ok (.getfield 19, 3) := by decide +kernel
theorem dX4_copyFrom_37 : decode cX4_copyFrom 37 = .ok (.iconst 0, 1) := by decide +kernel
theorem dX4_copyFrom_38 : decode cX4_copyFrom 38 = .ok (.aload_n 0, 1) := by decide +kernel
theorem dX4_copyFrom_39 : decode cX4_copyFrom 39 = .ok (.getfield 19, 3) := by decide +kernel
theorem dX4_copyFrom_42 : decode cX4_copyFrom 42 = .ok (.iconst 0, 1) := by decide +kernel
theorem dX4_copyFrom_43 : decode cX4_copyFrom 43 = .ok (.aload_n 0, 1) := by decide +kernel
theorem dX4_copyFrom_44 : decode cX4_copyFrom 44 = .ok (.getfield 9, 3) := by decide +kernel
theorem dX4_copyFrom_47 : decode cX4_copyFrom 47 = .ok (.invokestatic 31, 3) := by decide +kernel
theorem dX4_copyFrom_50 : decode cX4_copyFrom 50 = .ok (.aload_n 1, 1) := by decide +kernel
theorem dX4_copyFrom_51 : decode cX4_copyFrom 51 = .ok (.getfield 22, 3) := by decide +kernel
theorem dX4_copyFrom_54 : decode cX4_copyFrom 54 = .ok (.iconst 0, 1) := by decide +kernel
theorem dX4_copyFrom_55 : decode cX4_copyFrom 55 = .ok (.aload_n 0, 1) := by decide +kernel
theorem dX4_copyFrom_56 : decode cX4_copyFrom 56 = .ok (.getfield 22, 3) := by decide +kernel
theorem dX4_copyFrom_59 : decode cX4_copyFrom 59 = .ok (.iconst 0, 1) := by decide +kernel
theorem dX4_copyFrom_60 : decode cX4_copyFrom 60 = .ok (.aload_n 0, 1) := by decide +kernel
theorem dX4_copyFrom_61 : decode cX4_copyFrom 61 = .ok (.getfield 9, 3) := by decide +kernel
theorem dX4_copyFrom_64 : decode cX4_copyFrom 64 = .ok (.invokestatic 31, 3) := by decide +kernel
theorem dX4_copyFrom_67 : decode cX4_copyFrom 67 = .ok (.return_, 1) := by decide +kernel
theorem dX5_init_0 : decode cX5_init 0 = .ok (.aload_n 0, 1) := by decide +kernel
theorem dX5_init_1 : decode cX5_init 1 = .ok (.invokespecial 3, 3) := by decide +kernel
theorem dX5_init_4 : decode cX5_init 4 = .ok (.aload_n 0, 1) := by decide +kernel
theorem dX5_init_5 : decode cX5_init 5 = .ok (.iconst 0, 1) := by decide +kernel
theorem dX5_init_6 : decode cX5_init 6 = .ok (.putfield 9, 3) := by decide +kernel
theorem dX5_init_9 : decode cX5_init 9 = .ok (.aload_n 0, 1) := by decide +kernel
theorem dX5_init_10 : decode cX5_init 10 = .ok (.iconst 0, 1) := by decide +kernel
theorem dX5_init_11 : decode cX5_init 11 = .ok (.putfield 15, 3) := by decide +kernel
theorem dX5_init_14 : decode cX5_init 14 = .ok (.aload_n 0, 1) := by decide +kernel
theorem dX5_init_15 : decode cX5_init 15 = .ok (.iconst (-1), 1) := by decide +kernel
theorem dX5_init_16 : decode cX5_init 16 = .ok (.putfield 18, 3) := by decide +kernel
theorem dX5_init_19 : decode cX5_init 19 = .ok (.aload_n 0, 1) := by decide +kernel
theorem dX5_init_20 : decode cX5_init 20 = .ok (.bipush 6, 2) := by decide +kernel
theorem dX5_init_22 : decode cX5_init 22 = .ok (.anewarray 21, 3) := by decide +kernel
theorem dX5_init_25 : decode cX5_init 25 = .ok (.putfield 23, 3) := by decide +kernel
theorem dX5_init_28 : decode cX5_init 28 = .ok (.aload_n 0, 1) := by decide +kernel
theorem dX5_init_29 : decode cX5_init 29 = .ok (.iconst 0, 1) := by decide +kernel
theorem dX5_init_30 : decode cX5_init 30 = .ok (.putfield 27, 3) := by decide +kernel
theorem dX5_init_33 : decode cX5_init 33 = .ok (.aload_n 0, 1) := by decide +kernel
theorem dX5_init_34 : decode cX5_init 34 = .ok (.new 30, 3) := by decide +kernel
theorem dX5_init_37 : decode cX5_init 37 = .ok (.dup, 1) := by decide +kernel
theorem dX5_init_38 : decode cX5_init 38 = .ok (.bipush 6, 2) := by decide +kernel
theorem dX5_init_40 : decode cX5_init 40 = .ok (.invokespecial 32, 3) := by decide +kernel
theorem dX5_init_43 : decode cX5_init 43 = .ok (.putfield 35, 3) := by decide +kernel
theorem dX5_init_46 : decode cX5_init 46 = .ok (.aload_n 0, 1) := by decide +kernel
theorem dX5_init_47 : decode cX5_init 47 = .ok (.new 30, 3) := by decide +kernel
theorem dX5_init_50 : decode cX5_init 50 = .ok (.dup, 1) := by decide +kernel
theorem dX5_init_51 : decode cX5_init 51 = .ok (.bipush 10, 2) := by decide +kernel
theorem dX5_init_53 : decode cX5_init 53 = .ok (.invokespecial 32, 3) := by decide +kernel
theorem dX5_init_56 : decode cX5_init 56 = .ok (.putfield 39, 3) := by decide +kernel
theorem dX5_init_59 : decode cX5_init 59 = .ok (.aload_n 0, 1) := by decide +kernel
theorem dX5_init_60 : decode cX5_init 60 = .ok (.new 30, 3) := by decide +kernel
theorem dX5_init_63 : decode cX5_init 63 = .ok (.dup, 1) := by decide +kernel
theorem dX5_init_64 : decode cX5_init 64 = .ok (.bipush 8, 2) := by decide +kernel
theorem dX5_init_66 : decode cX5_init 66 = .ok (.invokespecial 32, 3) := by decide +kernel
theorem dX5_init_69 : decode cX5_init 69 = .ok (.putfield 42, 3) := by decide +kernel
theorem dX5_init_72 : decode cX5_init 72 = .ok (.iconst 0, 1) := by decide +kernel
theorem dX5_init_73 : decode cX5_init 73 = .ok (.istore_n 1, 1) := by decide +kernel
theorem dX5_init_74 : decode cX5_init 74 = .ok (.iload_n 1, 1) := by decide +kernel
theorem dX5_init_75 : decode cX5_init 75 = .ok (.bipush 6, 2) := by decide +kernel
theorem dX5_init_77 : decode cX5_init 77 = .ok (.if_icmp .ge 22, 3) := by decide +kernel
theorem dX5_init_80 : decode cX5_init 80 = .ok (.aload_n 0, 1) := by decide +kernel
theorem dX5_init_81 : decode cX5_init 81 = .ok (.getfield 23, 3) := by decide +kernel
theorem dX5_init_84 : decode cX5_init 84 = .ok (.iload_n 1, 1) := by decide +kernel
theorem dX5_init_85 : decode cX5_init 85 = .ok (.new 21, 3) := by decide +kernel
theorem dX5_init_88 : decode cX5_init 88 = .ok (.dup, 1) := by decide +kernel
theorem dX5_init_89 : decode cX5_init 89 = .ok (.invokespecial 45, 3) := by decide +kernel
theorem dX5_init_92 : decode cX5_init 92 = .ok (.aastore, 1) := by decide +kernel
theorem dX5_init_93 : decode cX5_init 93 = .ok (.iinc 1 1, 3) := by decide +kernel
theorem dX5_init_96 : decode cX5_init 96 = .ok (.goto (-22), 3) := by decide +kernel
theorem dX5_init_99 : decode cX5_init 99 = .ok (.return_, 1) := by decide +kernel
theorem dX5_potAt_0 : decode cX5_potAt 0 = .ok (.iload_n 1, 1) := by decide +kernel
theorem dX5_potAt_1 : decode cX5_potAt 1 = .ok (.ifCond .lt 20, 3) := by decide +kernel
theorem dX5_potAt_4 : decode cX5_potAt 4 = .ok (.iload_n 1, 1) := by decide +kernel
theorem dX5_potAt_5 : decode cX5_potAt 5 = .ok (.aload_n 0, 1) := by decide +kernel
theorem dX5_potAt_6 : decode cX5_potAt 6 = .ok (.getfield 27, 3) := by decide +kernel
theorem dX5_potAt_9 : decode cX5_potAt 9 = .ok (.if_icmp .ge 12, 3) := by decide +kernel
theorem dX5_potAt_12 : decode cX5_potAt 12 = .ok (.aload_n 0, 1) := by decide +kernel
theorem dX5_potAt_13 : decode cX5_potAt 13 = .ok (.getfield 23, 3) := by decide +kernel
theorem dX5_potAt_16 : decode cX5_potAt 16 = .ok (.iload_n 1, 1) := by decide +kernel
theorem dX5_potAt_17 : decode cX5_potAt 17 = .ok (.aaload, 1) := by decide +kernel
theorem dX5_potAt_18 : decode cX5_potAt 18 = .ok (.goto 4, 3) := by decide +kernel
theorem dX5_potAt_21 : decode cX5_potAt 21 = .ok (.aconst_null, 1) := by decide +kernel
theorem dX5_potAt_22 : decode cX5_potAt 22 = .ok (.areturn, 1) := by decide +kernel
theorem dX5_addPot_0 : decode cX5_addPot 0 = .ok (.aload_n 0, 1) := by decide +kernel
theorem dX5_addPot_1 : decode cX5_addPot 1 = .ok (.getfield 27, 3) := by decide +kernel
theorem dX5_addPot_4 : decode cX5_addPot 4 = .ok (.bipush 6, 2) := by decide +kernel
theorem dX5_addPot_6 : decode cX5_addPot 6 = .ok (.if_icmp .lt 6, 3) := by decide +kernel
theorem dX5_addPot_9 : decode cX5_addPot 9 = .ok (.bipush (-4), 2) := by decide +kernel
theorem dX5_addPot_11 : decode cX5_addPot 11 = .ok (.ireturn, 1) := by decide +kernel
theorem dX5_addPot_12 : decode cX5_addPot 12 = .ok (.aload_n 0, 1) := by decide +kernel
theorem dX5_addPot_13 : decode cX5_addPot 13 = .ok (.getfield 27, 3) := by decide +kernel
theorem dX5_addPot_16 : decode cX5_addPot 16 = .ok (.istore 4, 2) := by decide +kernel
theorem dX5_addPot_18 : decode cX5_addPot 18 = .ok (.aload_n 0, 1) := by decide +kernel
theorem dX5_addPot_19 : decode cX5_addPot 19 = .ok (.getfield 23, 3) := by decide +kernel
theorem dX5_addPot_22 : decode cX5_addPot 22 = .ok (.iload 4, 2) := by decide +kernel
theorem dX5_addPot_24 : decode cX5_addPot 24 = .ok (.aaload, 1) := by decide +kernel
theorem dX5_addPot_25 : decode cX5_addPot 25 = .ok (.iload 4, 2) := by decide +kernel
theorem dX5_addPot_27 : decode cX5_addPot 27 = .ok (.iload_n 1, 1) := by decide +kernel
theorem dX5_addPot_28 : decode cX5_addPot 28 = .ok (.iload_n 2, 1) := by decide +kernel
theorem dX5_addPot_29 : decode cX5_addPot 29 = .ok (.iload_n 3, 1) := by decide +kernel
theorem dX5_addPot_30 : decode cX5_addPot 30 = .ok (.invokevirtual 46, 3) := by decide +kernel
theorem dX5_addPot_33 : decode cX5_addPot 33 = .ok (.aload_n 0, 1) := by decide +kernel
theorem dX5_addPot_34 : decode cX5_addPot 34 = .ok (.dup, 1) := by decide +kernel
theorem dX5_addPot_35 : decode cX5_addPot 35 = .ok (.getfield 27, 3) := by decide +kernel
theorem dX5_addPot_38 : decode cX5_addPot 38 = .ok (.iconst 1, 1) := by decide +kernel
theorem dX5_addPot_39 : decode cX5_addPot 39 = .ok (.iadd, 1) := by decide +kernel
theorem dX5_addPot_40 : decode cX5_addPot 40 = .ok (.putfield 27, 3) := by decide +kernel
theorem dX5_addPot_43 : decode cX5_addPot 43 = .ok (.iload 4, 2) := by decide +kernel
theorem dX5_addPot_45 : decode cX5_addPot 45 = .ok (.ireturn, 1) := by decide +kernel
theorem dX5_copyPotsFrom_0 : decode cX5_copyPotsFrom 0 = .ok (.aload_n 0, 1) := by decide +kernel
theorem dX5_copyPotsFrom_1 : decode cX5_copyPotsFrom 1 = .ok (.aload_n 1, 1) := by decide +kernel
theorem dX5_copyPotsFrom_2 : decode cX5_copyPotsFrom 2 = .ok (.getfield 27, 3) := by decide +kernel
theorem dX5_copyPotsFrom_5 : decode cX5_copyPotsFrom 5 = .ok (.putfield 27, 3) := by decide +kernel
theorem dX5_copyPotsFrom_8 : decode cX5_copyPotsFrom 8 = .ok (.iconst 0, 1) := by decide +kernel
theorem dX5_copyPotsFrom_9 : decode cX5_copyPotsFrom 9 = .ok (.istore_n 2, 1) := by decide +kernel
theorem dX5_copyPotsFrom_10 : decode cX5_copyPotsFrom 10 = .ok (.iload_n 2, 1) := by decide +kernel
theorem dX5_copyPotsFrom_11 : decode cX5_copyPotsFrom 11 = .ok (.aload_n 0, 1) := by decide +kernel
theorem dX5_copyPotsFrom_12 : decode cX5_copyPotsFrom 12 = .ok (.getfield 27, 3) := by decide +kernel
theorem dX5_copyPotsFrom_15 : decode cX5_copyPotsFrom 15 = .ok (.if_icmp .ge 24, 3) := by decide +kernel
theorem dX5_copyPotsFrom_18 : decode cX5_copyPotsFrom 18 = .ok (.aload_n 0, 1) := by decide +kernel
theorem dX5_copyPotsFrom_19 : decode cX5_copyPotsFrom 19 = .ok (.getfield 23, 3) := by decide +kernel
theorem dX5_copyPotsFrom_22 : decode cX5_copyPotsFrom 22 = .ok (.iload_n 2, 1) := by decide +kernel
theorem dX5_copyPotsFrom_23 : decode cX5_copyPotsFrom 23 = .ok (.aaload, 1) := by decide +kernel
theorem dX5_copyPotsFrom_24 : decode cX5_copyPotsFrom 24 = .ok (.aload_n 1, 1) := by decide +kernel
theorem dX5_copyPotsFrom_25 : decode cX5_copyPotsFrom 25 = .ok (.getfield 23, 3) := by decide +kernel
theorem dX5_copyPotsFrom_28 : decode cX5_copyPotsFrom 28 = .ok (.iload_n 2, 1) := by decide +kernel
theorem dX5_copyPotsFrom_29 : decode cX5_copyPotsFrom 29 = .ok (.aaload, 1) := by decide +kernel
theorem dX5_copyPotsFrom_30 : decode cX5_copyPotsFrom 30 = .ok (.invokevirtual 50, 3) := by decide +kernel
theorem dX5_copyPotsFrom_33 : decode cX5_copyPotsFrom 33 = .ok (.iinc 2 1, 3) := by decide +kernel
theorem dX5_copyPotsFrom_36 : decode cX5_copyPotsFrom 36 = .ok (.goto (-26), 3) := by decide +kernel
theorem dX5_copyPotsFrom_39 : decode cX5_copyPotsFrom 39 = .ok (.return_, 1) := by decide +kernel
theorem dX5_copyFrom_0 : decode cX5_copyFrom 0 = .ok (.aload_n 0, 1) := by decide +kernel
theorem dX5_copyFrom_1 : decode cX5_copyFrom 1 = .ok (.aload_n 1, 1) := by decide +kernel
theorem dX5_copyFrom_2 : decode cX5_copyFrom 2 = .ok (.getfield 9, 3) := by decide +kernel
theorem dX5_copyFrom_5 : decode cX5_copyFrom 5 = .ok (.putfield 9, 3) := by decide +kernel
theorem dX5_copyFrom_8 : decode cX5_copyFrom 8 = .ok (.aload_n 0, 1) := by decide +kernel
theorem dX5_copyFrom_9 : decode cX5_copyFrom 9 = .ok (.aload_n 1, 1) := by decide +kernel
theorem dX5_copyFrom_10 : decode cX5_copyFrom 10 = .ok (.getfield 15, 3) := by decide +kernel
theorem dX5_copyFrom_13 : decode cX5_copyFrom 13 = .ok (.putfield 15, 3) := by decide +kernel
theorem dX5_copyFrom_16 : decode cX5_copyFrom 16 = .ok (.aload_n 0, 1) := by decide +kernel
theorem dX5_copyFrom_17 : decode cX5_copyFrom 17 = .ok (.aload_n 1, 1) := by decide +kernel
theorem dX5_copyFrom_18 : decode cX5_copyFrom 18 = .ok (.getfield 18, 3) := by decide +kernel
theorem dX5_copyFrom_21 : decode cX5_copyFrom 21 = .ok (.putfield 18, 3) := by decide +kernel
theorem dX5_copyFrom_24 : decode cX5_copyFrom 24 = .ok (.aload_n 0, 1) := by decide +kernel
theorem dX5_copyFrom_25 : decode cX5_copyFrom 25 = .ok (.aload_n 1, 1) := by decide +kernel
theorem dX5_copyFrom_26 : decode cX5_copyFrom 26 = .ok (.invokevirtual 54, 3) := by decide +kernel
theorem dX5_copyFrom_29 : decode cX5_copyFrom 29 = .ok (.aload_n 0, 1) := by decide +kernel
theorem dX5_copyFrom_30 : decode cX5_copyFrom 30 = .ok (.getfield 35, 3) := by decide +kernel
theorem dX5_copyFrom_33 : decode cX5_copyFrom 33 = .ok (.aload_n 1, 1) := by decide +kernel
theorem dX5_copyFrom_34 : decode cX5_copyFrom 34 = .ok (.getfield 35, 3) := by decide +kernel
theorem dX5_copyFrom_37 : decode cX5_copyFrom 37 = .ok (.invokevirtual 58, 3) := by decide +kernel
theorem dX5_copyFrom_40 : decode cX5_copyFrom 40 = .ok (.aload_n 0, 1) := by decide +kernel
theorem dX5_copyFrom_41 : decode cX5_copyFrom 41 = .ok (.getfield 39, 3) := by decide +kernel
theorem dX5_copyFrom_44 : decode cX5_copyFrom 44 = .ok (.aload_n 1, 1) := by decide +kernel
theorem dX5_copyFrom_45 : decode cX5_copyFrom 45 = .ok (.getfield 39, 3) := by decide +kernel
theorem dX5_copyFrom_48 : decode cX5_copyFrom 48 = .ok (.invokevirtual 58, 3) := by decide +kernel
theorem dX5_copyFrom_51 : decode cX5_copyFrom 51 = .ok (.aload_n 0, 1) := by decide +kernel
theorem dX5_copyFrom_52 : decode cX5_copyFrom 52 = .ok (.getfield 42, 3) := by decide +kernel
theorem dX5_copyFrom_55 : decode cX5_copyFrom 55 = .ok (.aload_n 1, 1) := by decide +kernel
theorem dX5_copyFrom_56 : decode cX5_copyFrom 56 = .ok (.getfield 42, 3) := by decide +kernel
theorem dX5_copyFrom_59 : decode cX5_copyFrom 59 = .ok (.invokevirtual 58, 3) := by decide +kernel
theorem dX5_copyFrom_62 : decode cX5_copyFrom 62 = .ok (.return_, 1) := by decide +kernel
theorem dX5_ripenAll_0 : decode cX5_ripenAll 0 = .ok (.iconst 0, 1) := by decide +kernel
theorem dX5_ripenAll_1 : decode cX5_ripenAll 1 = .ok (.istore_n 3, 1) := by decide +kernel
theorem dX5_ripenAll_2 : decode cX5_ripenAll 2 = .ok (.iload_n 3, 1) := by decide +kernel
theorem dX5_ripenAll_3 : decode cX5_ripenAll 3 = .ok (.aload_n 0, 1) := by decide +kernel
theorem dX5_ripenAll_4 : decode cX5_ripenAll 4 = .ok (.getfield 27, 3) := by decide +kernel
theorem dX5_ripenAll_7 : decode cX5_ripenAll 7 = .ok (.if_icmp .ge 34, 3) := by decide +kernel
theorem dX5_ripenAll_10 : decode cX5_ripenAll 10 = .ok (.iconst 0, 1) := by decide +kernel
theorem dX5_ripenAll_11 : decode cX5_ripenAll 11 = .ok (.istore 4, 2) := by decide +kernel
theorem dX5_ripenAll_13 : decode cX5_ripenAll 13 = .ok (.iload 4, 2) := by decide +kernel
theorem dX5_ripenAll_15 : decode cX5_ripenAll 15 = .ok (.iload_n 1, 1) := by decide +kernel
theorem dX5_ripenAll_16 : decode cX5_ripenAll 16 = .ok (.if_icmp .ge 19, 3) := by decide +kernel
theorem dX5_ripenAll_19 : decode cX5_ripenAll 19 = .ok (.aload_n 0, 1) := by decide +kernel
theorem dX5_ripenAll_20 : decode cX5_ripenAll 20 = .ok (.getfield 23, 3) := by decide +kernel
theorem dX5_ripenAll_23 : decode cX5_ripenAll 23 = .ok (.iload_n 3, 1) := by decide +kernel
theorem dX5_ripenAll_24 : decode cX5_ripenAll 24 = .ok (.aaload, 1) := by decide +kernel
theorem dX5_ripenAll_25 : decode cX5_ripenAll 25 = .ok (.iload_n 2, 1) := by decide +kernel
theorem dX5_ripenAll_26 : decode cX5_ripenAll 26 = .ok (.invokevirtual 61, 3) := by decide +kernel
theorem dX5_ripenAll_29 : decode cX5_ripenAll 29 = .ok (.iinc 4 1, 3) := by decide +kernel
theorem dX5_ripenAll_32 : decode cX5_ripenAll 32 = .ok (.goto (-19), 3) := by decide +kernel
theorem dX5_ripenAll_35 : decode cX5_ripenAll 35 = .ok (.iinc 3 1, 3) := by decide +kernel
theorem dX5_ripenAll_38 : decode cX5_ripenAll 38 = .ok (.goto (-36), 3) := by decide +kernel
theorem dX5_ripenAll_41 : decode cX5_ripenAll 41 = .ok (.return_, 1) := by decide +kernel
theorem dX5_sugarOfAll_0 : decode cX5_sugarOfAll 0 = .ok (.iconst 0, 1) := by decide +kernel
theorem dX5_sugarOfAll_1 : decode cX5_sugarOfAll 1 = .ok (.istore_n 1, 1) := by decide +kernel
theorem dX5_sugarOfAll_2 : decode cX5_sugarOfAll 2 = .ok (.iconst 0, 1) := by decide +kernel
theorem dX5_sugarOfAll_3 : decode cX5_sugarOfAll 3 = .ok (.istore_n 2, 1) := by decide +kernel
theorem dX5_sugarOfAll_4 : decode cX5_sugarOfAll 4 = .ok (.iload_n 2, 1) := by decide +kernel
theorem dX5_sugarOfAll_5 : decode cX5_sugarOfAll 5 = .ok (.aload_n 0, 1) := by decide +kernel
theorem dX5_sugarOfAll_6 : decode cX5_sugarOfAll 6 = .ok (.getfield 27, 3) := by decide +kernel
theorem dX5_sugarOfAll_9 : decode cX5_sugarOfAll 9 = .ok (.if_icmp .ge 21, 3) := by decide +kernel
theorem dX5_sugarOfAll_12 : decode cX5_sugarOfAll 12 = .ok (.iload_n 1, 1) := by decide +kernel
theorem dX5_sugarOfAll_13 : decode cX5_sugarOfAll 13 = .ok (.aload_n 0, 1) := by decide +kernel
theorem dX5_sugarOfAll_14 : decode cX5_sugarOfAll 14 = .ok (.getfield 23, 3) := by decide +kernel
theorem dX5_sugarOfAll_17 : decode cX5_sugarOfAll 17 = .ok (.iload_n 2, 1) := by decide +kernel
theorem dX5_sugarOfAll_18 : decode cX5_sugarOfAll 18 = .ok (.aaload, 1) := by decide +kernel
theorem dX5_sugarOfAll_19 : decode cX5_sugarOfAll 19 = .ok (.getfield 64, 3) := by decide +kernel
theorem dX5_sugarOfAll_22 : decode cX5_sugarOfAll 22 = .ok (.iadd, 1) := by decide +kernel
theorem dX5_sugarOfAll_23 : decode cX5_sugarOfAll 23 = .ok (.istore_n 1, 1) := by decide +kernel
theorem dX5_sugarOfAll_24 : decode cX5_sugarOfAll 24 = .ok (.iinc 2 1, 3) := by decide +kernel
theorem dX5_sugarOfAll_27 : decode cX5_sugarOfAll 27 = .ok (.goto (-23), 3) := by decide +kernel
theorem dX5_sugarOfAll_30 : decode cX5_sugarOfAll 30 = .ok (.iload_n 1, 1) := by decide +kernel
theorem dX5_sugarOfAll_31 : decode cX5_sugarOfAll 31 = .ok (.ireturn, 1) := by decide +kernel
theorem dX5_openedOfAll_0 : decode cX5_openedOfAll 0 = .ok (.iconst 0, 1) := by decide +kernel
theorem dX5_openedOfAll_1 : decode cX5_openedOfAll 1 = .ok (.istore_n 1, 1) := by decide +kernel
theorem dX5_openedOfAll_2 : decode cX5_openedOfAll 2 = .ok (.iconst 0, 1) := by decide +kernel
theorem dX5_openedOfAll_3 : decode cX5_openedOfAll 3 = .ok (.istore_n 2, 1) := by decide +kernel
theorem dX5_openedOfAll_4 : decode cX5_openedOfAll 4 = .ok (.iload_n 2, 1) := by decide +kernel
theorem dX5_openedOfAll_5 : decode cX5_openedOfAll 5 = .ok (.aload_n 0, 1) := by decide +kernel
theorem dX5_openedOfAll_6 : decode cX5_openedOfAll 6 = .ok (.getfield 27, 3) := by decide +kernel
theorem dX5_openedOfAll_9 : decode cX5_openedOfAll 9 = .ok (.if_icmp .ge 21, 3) := by decide +kernel
theorem dX5_openedOfAll_12 : decode cX5_openedOfAll 12 = .ok (.iload_n 1, 1) := by decide +kernel
theorem dX5_openedOfAll_13 : decode cX5_openedOfAll 13 = .ok (.aload_n 0, 1) := by decide +kernel
theorem dX5_openedOfAll_14 : decode cX5_openedOfAll 14 = .ok (.getfield 23, 3) := by decide +kernel
theorem dX5_openedOfAll_17 : decode cX5_openedOfAll 17 = .ok (.iload_n 2, 1) := by decide +kernel
theorem dX5_openedOfAll_18 : decode cX5_openedOfAll 18 = .ok (.aaload, 1) := by decide +kernel
theorem dX5_openedOfAll_19 : decode cX5_openedOfAll 19 = .ok (.getfield 67, 3) := by decide +kernel
theorem dX5_openedOfAll_22 : decode cX5_openedOfAll 22 = .ok (.iadd, 1) := by decide +kernel
theorem dX5_openedOfAll_23 : decode cX5_openedOfAll 23 = .ok (.istore_n 1, 1) := by decide +kernel
theorem dX5_openedOfAll_24 : decode cX5_openedOfAll 24 = .ok (.iinc 2 1, 3) := by decide +kernel
theorem dX5_openedOfAll_27 : decode cX5_openedOfAll 27 = .ok (.goto (-23), 3) := by decide +kernel
theorem dX5_openedOfAll_30 : decode cX5_openedOfAll 30 = .ok (.iload_n 1, 1) := by decide +kernel
theorem dX5_openedOfAll_31 : decode cX5_openedOfAll 31 = .ok (.ireturn, 1) := by decide +kernel
theorem dX6_init_0 : decode cX6_init 0 = .ok (.aload_n 0, 1) := by decide +kernel
theorem dX6_init_1 : decode cX6_init 1 = .ok (.invokespecial 1, 3) := by decide +kernel
theorem dX6_init_4 : decode cX6_init 4 = .ok (.aload_n 0, 1) := by decide +kernel
theorem dX6_init_5 : decode cX6_init 5 = .ok (.bipush 60, 2) := by decide +kernel
theorem dX6_init_7 : decode cX6_init 7 = .ok (.newarray .long, 2) := by decide +kernel
theorem dX6_init_9 : decode cX6_init 9 = .ok (.putfield 9, 3) := by decide +kernel
theorem dX6_init_12 : decode cX6_init 12 = .ok (.aload_n 0, 1) := by decide +kernel
theorem dX6_init_13 : decode cX6_init 13 = .ok (.iconst (-1), 1) := by decide +kernel
theorem dX6_init_14 : decode cX6_init 14 = .ok (.putfield 13, 3) := by decide +kernel
theorem dX6_init_17 : decode cX6_init 17 = .ok (.aload_n 0, 1) := by decide +kernel
theorem dX6_init_18 : decode cX6_init 18 = .ok (.iconst 0, 1) := by decide +kernel
theorem dX6_init_19 : decode cX6_init 19 = .ok (.putfield 17, 3) := by decide +kernel
theorem dX6_init_22 : decode cX6_init 22 = .ok (.return_, 1) := by decide +kernel
theorem dX6_become_0 : decode cX6_become 0 = .ok (.aload_n 0, 1) := by decide +kernel
theorem dX6_become_1 : decode cX6_become 1 = .ok (.iload_n 1, 1) := by decide +kernel
theorem dX6_become_2 : decode cX6_become 2 = .ok (.putfield 13, 3) := by decide +kernel
theorem dX6_become_5 : decode cX6_become 5 = .ok (.aload_n 0, 1) := by decide +kernel
theorem dX6_become_6 : decode cX6_become 6 = .ok (.iconst 0, 1) := by decide +kernel
theorem dX6_become_7 : decode cX6_become 7 = .ok (.iload_n 2, 1) := by decide +kernel
theorem dX6_become_8 : decode cX6_become 8 = .ok (.bipush 60, 2) := by decide +kernel
theorem dX6_become_10 : decode cX6_become 10 = .ok (.invokestatic 20, 3) := by decide +kernel
theorem dX6_become_13 : decode cX6_become 13 = .ok (.invokestatic 26, 3) := by decide +kernel
theorem dX6_become_16 : decode cX6_become 16 = .ok (.putfield 17, 3) := by decide +kernel
theorem dX6_become_19 : decode cX6_become 19 = .ok (.aload_n 0, 1) := by decide +kernel
theorem dX6_become_20 : decode cX6_become 20 = .ok (.getfield 9, 3) := by decide +kernel
theorem dX6_become_23 : decode cX6_become 23 = .ok (.lconst 0, 1) := by decide +kernel
theorem dX6_become_24 : decode cX6_become 24 = .ok (.invokestatic 29, 3) := by decide +kernel
theorem dX6_become_27 : decode cX6_become 27 = .ok (.return_, 1) := by decide +kernel
theorem dX6_has_0 : decode cX6_has 0 = .ok (.iload_n 1, 1) := by decide +kernel
theorem dX6_has_1 : decode cX6_has 1 = .ok (.ifCond .lt 15, 3) := by decide +kernel
theorem dX6_has_4 : decode cX6_has 4 = .ok (.iload_n 1, 1) := by decide +kernel
theorem dX6_has_5 : decode cX6_has 5 = .ok (.aload_n 0, 1) := by decide +kernel
theorem dX6_has_6 : decode cX6_has 6 = .ok (.getfield 17, 3) := by decide +kernel
theorem dX6_has_9 : decode cX6_has 9 = .ok (.if_icmp .ge 7, 3) := by decide +kernel
theorem dX6_has_12 : decode cX6_has 12 = .ok (.iconst 1, 1) := by decide +kernel
theorem dX6_has_13 : decode cX6_has 13 = .ok (.goto 4, 3) := by decide +kernel
theorem dX6_has_16 : decode cX6_has 16 = .ok (.iconst 0, 1) := by decide +kernel
theorem dX6_has_17 : decode cX6_has 17 = .ok (.ireturn, 1) := by decide +kernel
theorem dX6_spans_0 : decode cX6_spans 0 = .ok (.iload_n 2, 1) := by decide +kernel
theorem dX6_spans_1 : decode cX6_spans 1 = .ok (.ifCond .lt 29, 3) := by decide +kernel
theorem dX6_spans_4 : decode cX6_spans 4 = .ok (.iload_n 1, 1) := by decide +kernel
theorem dX6_spans_5 : decode cX6_spans 5 = .ok (.ifCond .lt 25, 3) := by decide +kernel
theorem dX6_spans_8 : decode cX6_spans 8 = .ok (.iload_n 2, 1) := by decide +kernel
theorem dX6_spans_9 : decode cX6_spans 9 = .ok (.aload_n 0, 1) := by decide +kernel
theorem dX6_spans_10 : decode cX6_spans 10 = .ok (.getfield 17, 3) := by decide +kernel
theorem dX6_spans_13 : decode cX6_spans 13 = .ok (.if_icmp .gt 17, 3) := by decide +kernel
theorem dX6_spans_16 : decode cX6_spans 16 = .ok (.iload_n 1, 1) := by decide +kernel
theorem dX6_spans_17 : decode cX6_spans 17 = .ok (.aload_n 0, 1) := by decide +kernel
theorem dX6_spans_18 : decode cX6_spans 18 = .ok (.getfield 17, 3) := by decide +kernel
theorem dX6_spans_21 : decode cX6_spans 21 = .ok (.iload_n 2, 1) := by decide +kernel
theorem dX6_spans_22 : decode cX6_spans 22 = .ok (.isub, 1) := by decide +kernel
theorem dX6_spans_23 : decode cX6_spans 23 = .ok (.if_icmp .gt 7, 3) := by decide +kernel
theorem dX6_spans_26 : decode cX6_spans 26 = .ok (.iconst 1, 1) := by decide +kernel
theorem dX6_spans_27 : decode cX6_spans 27 = .ok (.goto 4, 3) := by decide +kernel
theorem dX6_spans_30 : decode cX6_spans 30 = .ok (.iconst 0, 1) := by decide +kernel
theorem dX6_spans_31 : decode cX6_spans 31 = .ok (.ireturn, 1) := by decide +kernel
theorem dX6_lowest_0 : decode cX6_lowest 0 = .ok (.aload_n 0, 1) := by decide +kernel
theorem dX6_lowest_1 : decode cX6_lowest 1 = .ok (.getfield 13, 3) := by decide +kernel
theorem dX6_lowest_4 : decode cX6_lowest 4 = .ok (.tableswitch 62 0 4 #[36, 41, 46, 62, 50], 36) := by decide +kernel
theorem dX6_lowest_40 : decode cX6_lowest 40 = .ok (.lload_n 1, 1) := by decide +kernel
theorem dX6_lowest_41 : decode cX6_lowest 41 = .ok (.l2i, 1) := by decide +kernel
theorem dX6_lowest_42 : decode cX6_lowest 42 = .ok (.i2b, 1) := by decide +kernel
theorem dX6_lowest_43 : decode cX6_lowest 43 = .ok (.i2l, 1) := by decide +kernel
theorem dX6_lowest_44 : decode cX6_lowest 44 = .ok (.lreturn, 1) := by decide +kernel
theorem dX6_lowest_45 : decode cX6_lowest 45 = .ok (.lload_n 1, 1) := by decide +kernel
theorem dX6_lowest_46 : decode cX6_lowest 46 = .ok (.l2i, 1) := by decide +kernel
theorem dX6_lowest_47 : decode cX6_lowest 47 = .ok (.i2s, 1) := by decide +kernel
theorem dX6_lowest_48 : decode cX6_lowest 48 = .ok (.i2l, 1) := by decide +kernel
theorem dX6_lowest_49 : decode cX6_lowest 49 = .ok (.lreturn, 1) := by decide +kernel
theorem dX6_lowest_50 : decode cX6_lowest 50 = .ok (.lload_n 1, 1) := by decide +kernel
theorem dX6_lowest_51 : decode cX6_lowest 51 = .ok (.l2i, 1) := by decide +kernel
theorem dX6_lowest_52 : decode cX6_lowest 52 = .ok (.i2l, 1) := by decide +kernel
theorem dX6_lowest_53 : decode cX6_lowest 53 = .ok (.lreturn, 1) := by decide +kernel
theorem dX6_lowest_54 : decode cX6_lowest 54 = .ok (.lload_n 1, 1) := by decide +kernel
theorem dX6_lowest_55 : decode cX6_lowest 55 = .ok (.lconst 0, 1) := by decide +kernel
theorem dX6_lowest_56 : decode cX6_lowest 56 = .ok (.lcmp, 1) := by decide +kernel
theorem dX6_lowest_57 : decode cX6_lowest 57 = .ok (.ifCond .eq 7, 3) := by decide +kernel
theorem dX6_lowest_60 : decode cX6_lowest 60 = .ok (.lconst 1, 1) := by decide +kernel
theorem dX6_lowest_61 : decode cX6_lowest 61 = .ok (.goto 4, 3) := by decide +kernel
theorem dX6_lowest_64 : decode cX6_lowest 64 = .ok (.lconst 0, 1) := by decide +kernel
theorem dX6_lowest_65 : decode cX6_lowest 65 = .ok (.lreturn, 1) := by decide +kernel
theorem dX6_lowest_66 : decode cX6_lowest 66 = .ok (.lload_n 1, 1) := by decide +kernel
theorem dX6_lowest_67 : decode cX6_lowest 67 = .ok (.lreturn, 1) := by decide +kernel
theorem dX7_init_0 : decode cX7_init 0 = .ok (.aload_n 0, 1) := by decide +kernel
theorem dX7_init_1 : decode cX7_init 1 = .ok (.invokespecial 3, 3) := by decide +kernel
theorem dX7_init_4 : decode cX7_init 4 = .ok (.aload_n 0, 1) := by decide +kernel
theorem dX7_init_5 : decode cX7_init 5 = .ok (.bipush 100, 2) := by decide +kernel
theorem dX7_init_7 : decode cX7_init 7 = .ok (.newarray .byte, 2) := by decide +kernel
theorem dX7_init_9 : decode cX7_init 9 = .ok (.putfield 11, 3) := by decide +kernel
theorem dX7_init_12 : decode cX7_init 12 = .ok (.aload_n 0, 1) := by decide +kernel
theorem dX7_init_13 : decode cX7_init 13 = .ok (.iconst 0, 1) := by decide +kernel
theorem dX7_init_14 : decode cX7_init 14 = .ok (.putfield 15, 3) := by decide +kernel
theorem dX7_init_17 : decode cX7_init 17 = .ok (.aload_n 0, 1) := by decide +kernel
theorem dX7_init_18 : decode cX7_init 18 = .ok (.iconst 0, 1) := by decide +kernel
theorem dX7_init_19 : decode cX7_init 19 = .ok (.putfield 19, 3) := by decide +kernel
theorem dX7_init_22 : decode cX7_init 22 = .ok (.aload_n 0, 1) := by decide +kernel
theorem dX7_init_23 : decode cX7_init 23 = .ok (.iconst 0, 1) := by decide +kernel
theorem dX7_init_24 : decode cX7_init 24 = .ok (.putfield 22, 3) := by decide +kernel
theorem dX7_init_27 : decode cX7_init 27 = .ok (.return_, 1) := by decide +kernel
theorem dX7_append_0 : decode cX7_append 0 = .ok (.aload_n 0, 1) := by decide +kernel
theorem dX7_append_1 : decode cX7_append 1 = .ok (.getfield 15, 3) := by decide +kernel
theorem dX7_append_4 : decode cX7_append 4 = .ok (.bipush 100, 2) := by decide +kernel
theorem dX7_append_6 : decode cX7_append 6 = .ok (.if_icmp .lt 6, 3) := by decide +kernel
theorem dX7_append_9 : decode cX7_append 9 = .ok (.bipush (-4), 2) := by decide +kernel
theorem dX7_append_11 : decode cX7_append 11 = .ok (.ireturn, 1) := by decide +kernel
theorem dX7_append_12 : decode cX7_append 12 = .ok (.aload_n 0, 1) := by decide +kernel
theorem dX7_append_13 : decode cX7_append 13 = .ok (.getfield 11, 3) := by decide +kernel
theorem dX7_append_16 : decode cX7_append 16 = .ok (.aload_n 0, 1) := by decide +kernel
theorem dX7_append_17 : decode cX7_append 17 = .ok (.getfield 15, 3) := by decide +kernel
theorem dX7_append_20 : decode cX7_append 20 = .ok (.iload_n 1, 1) := by decide +kernel
theorem dX7_append_21 : decode cX7_append 21 = .ok (.i2b, 1) := by decide +kernel
theorem dX7_append_22 : decode cX7_append 22 = .ok (.bastore, 1) := by decide +kernel
theorem dX7_append_23 : decode cX7_append 23 = .ok (.aload_n 0, 1) := by decide +kernel
theorem dX7_append_24 : decode cX7_append 24 = .ok (.dup, 1) := by decide +kernel
theorem dX7_append_25 : decode cX7_append 25 = .ok (.getfield 15, 3) := by decide +kernel
theorem dX7_append_28 : decode cX7_append 28 = .ok (.iconst 1, 1) := by decide +kernel
theorem dX7_append_29 : decode cX7_append 29 = .ok (.iadd, 1) := by decide +kernel
theorem dX7_append_30 : decode cX7_append 30 = .ok (.putfield 15, 3) := by decide +kernel
theorem dX7_append_33 : decode cX7_append 33 = .ok (.aload_n 0, 1) := by decide +kernel
theorem dX7_append_34 : decode cX7_append 34 = .ok (.getfield 15, 3) := by decide +kernel
theorem dX7_append_37 : decode cX7_append 37 = .ok (.ireturn, 1) := by decide +kernel
theorem dX7_readInto_0 : decode cX7_readInto 0 = .ok (.aload_n 1, 1) := by decide +kernel
theorem dX7_readInto_1 : decode cX7_readInto 1 = .ok (.invokevirtual 26, 3) := by decide +kernel
theorem dX7_readInto_4 : decode cX7_readInto 4 = .ok (.aload_n 0, 1) := by decide +kernel
theorem dX7_readInto_5 : decode cX7_readInto 5 = .ok (.iconst 0, 1) := by decide +kernel
theorem dX7_readInto_6 : decode cX7_readInto 6 = .ok (.putfield 19, 3) := by decide +kernel
theorem dX7_readInto_9 : decode cX7_readInto 9 = .ok (.aload_n 0, 1) := by decide +kernel
theorem dX7_readInto_10 : decode cX7_readInto 10 = .ok (.iconst 0, 1) := by decide +kernel
theorem dX7_readInto_11 : decode cX7_readInto 11 = .ok (.putfield 22, 3) := by decide +kernel
theorem dX7_readInto_14 : decode cX7_readInto 14 = .ok (.aload_n 0, 1) := by decide +kernel
theorem dX7_readInto_15 : decode cX7_readInto 15 = .ok (.aload_n 1, 1) := by decide +kernel
theorem dX7_readInto_16 : decode cX7_readInto 16 = .ok (.invokevirtual 31, 3) := by decide +kernel
theorem dX7_readInto_19 : decode cX7_readInto 19 = .ok (.iconst 1, 1) := by decide +kernel
theorem dX7_readInto_20 : decode cX7_readInto 20 = .ok (.istore_n 2, 1) := by decide +kernel
theorem dX7_readInto_21 : decode cX7_readInto 21 = .ok (.iload_n 2, 1) := by decide +kernel
theorem dX7_readInto_22 : decode cX7_readInto 22 = .ok (.bipush 10, 2) := by decide +kernel
theorem dX7_readInto_24 : decode cX7_readInto 24 = .ok (.if_icmp .ge 33, 3) := by decide +kernel
theorem dX7_readInto_27 : decode cX7_readInto 27 = .ok (.aload_n 0, 1) := by decide +kernel
theorem dX7_readInto_28 : decode cX7_readInto 28 = .ok (.invokevirtual 35, 3) := by decide +kernel
theorem dX7_readInto_31 : decode cX7_readInto 31 = .ok (.bipush 59, 2) := by decide +kernel
theorem dX7_readInto_33 : decode cX7_readInto 33 = .ok (.if_icmp .ne 24, 3) := by decide +kernel
theorem dX7_readInto_36 : decode cX7_readInto 36 = .ok (.aload_n 0, 1) := by decide +kernel
theorem dX7_readInto_37 : decode cX7_readInto 37 = .ok (.dup, 1) := by decide +kernel
theorem dX7_readInto_38 : decode cX7_readInto 38 = .ok (.getfield 19, 3) := by decide +kernel
theorem dX7_readInto_41 : decode cX7_readInto 41 = .ok (.iconst 1, 1) := by decide +kernel
theorem dX7_readInto_42 : decode cX7_readInto 42 = .ok (.iadd, 1) := by decide +kernel
theorem dX7_readInto_43 : decode cX7_readInto 43 = .ok (.putfield 19, 3) := by decide +kernel
theorem dX7_readInto_46 : decode cX7_readInto 46 = .ok (.aload_n 0, 1) := by decide +kernel
theorem dX7_readInto_47 : decode cX7_readInto 47 = .ok (.aload_n 1, 1) := by decide +kernel
theorem dX7_readInto_48 : decode cX7_readInto 48 = .ok (.invokevirtual 31, 3) := by decide +kernel
theorem dX7_readInto_51 : decode cX7_readInto 51 = .ok (.iinc 2 1, 3) := by decide +kernel
theorem dX7_readInto_54 : decode cX7_readInto 54 = .ok (.goto (-33), 3) := by decide +kernel
theorem dX7_readInto_57 : decode cX7_readInto 57 = .ok (.aload_n 0, 1) := by decide +kernel
theorem dX7_readInto_58 : decode cX7_readInto 58 = .ok (.getfield 22, 3) := by decide +kernel
theorem dX7_readInto_61 : decode cX7_readInto 61 = .ok (.ifCond .ne 18, 3) := by decide +kernel
theorem dX7_readInto_64 : decode cX7_readInto 64 = .ok (.aload_n 0, 1) := by decide +kernel
theorem dX7_readInto_65 : decode cX7_readInto 65 = .ok (.getfield 19, 3) := by decide +kernel
theorem dX7_readInto_68 : decode cX7_readInto 68 = .ok (.aload_n 0, 1) := by decide +kernel
theorem dX7_readInto_69 : decode cX7_readInto 69 = .ok (.getfield 15, 3) := by decide +kernel
theorem dX7_readInto_72 : decode cX7_readInto 72 = .ok (.if_icmp .ne 7, 3) := by decide +kernel
theorem dX7_readInto_75 : decode cX7_readInto 75 = .ok (.iconst 1, 1) := by decide +kernel
theorem dX7_readInto_76 : decode cX7_readInto 76 = .ok (.goto 4, 3) := by decide +kernel
theorem dX7_readInto_79 : decode cX7_readInto 79 = .ok (.iconst 0, 1) := by decide +kernel
theorem dX7_readInto_80 : decode cX7_readInto 80 = .ok (.istore_n 2, 1) := by decide +kernel
theorem dX7_readInto_81 : decode cX7_readInto 81 = .ok (.aload_n 0, 1) := by decide +kernel
theorem dX7_readInto_82 : decode cX7_readInto 82 = .ok (.iconst 0, 1) := by decide +kernel
theorem dX7_readInto_83 : decode cX7_readInto 83 = .ok (.putfield 15, 3) := by decide +kernel
theorem dX7_readInto_86 : decode cX7_readInto 86 = .ok (.iload_n 2, 1) := by decide +kernel
theorem dX7_readInto_87 : decode cX7_readInto 87 = .ok (.ifCond .eq 7, 3) := by decide +kernel
theorem dX7_readInto_90 : decode cX7_readInto 90 = .ok (.iconst (-1), 1) := by decide +kernel
theorem dX7_readInto_91 : decode cX7_readInto 91 = .ok (.goto 7, 3) := by decide +kernel
theorem dX7_readInto_94 : decode cX7_readInto 94 = .ok (.aload_n 0, 1) := by decide +kernel
theorem dX7_readInto_95 : decode cX7_readInto 95 = .ok (.getfield 19, 3) := by decide +kernel
theorem dX7_readInto_98 : decode cX7_readInto 98 = .ok (.ireturn, 1) := by decide +kernel
theorem dX7_next_0 : decode cX7_next 0 = .ok (.aload_n 0, 1) := by decide +kernel
theorem dX7_next_1 : decode cX7_next 1 = .ok (.getfield 22, 3) := by decide +kernel
theorem dX7_next_4 : decode cX7_next 4 = .ok (.ifCond .ne 14, 3) := by decide +kernel
theorem dX7_next_7 : decode cX7_next 7 = .ok (.aload_n 0, 1) := by decide +kernel
theorem dX7_next_8 : decode cX7_next 8 = .ok (.getfield 19, 3) := by decide +kernel
theorem dX7_next_11 : decode cX7_next 11 = .ok (.aload_n 0, 1) := by decide +kernel
theorem dX7_next_12 : decode cX7_next 12 = .ok (.getfield 15, 3) := by decide +kernel
theorem dX7_next_15 : decode cX7_next 15 = .ok (.if_icmp .lt 7, 3) := by decide +kernel
theorem dX7_next_18 : decode cX7_next 18 = .ok (.iconst (-1), 1) := by decide +kernel
theorem dX7_next_19 : decode cX7_next 19 = .ok (.goto 12, 3) := by decide +kernel
theorem dX7_next_22 : decode cX7_next 22 = .ok (.aload_n 0, 1) := by decide +kernel
theorem dX7_next_23 : decode cX7_next 23 = .ok (.getfield 11, 3) := by decide +kernel
theorem dX7_next_26 : decode cX7_next 26 = .ok (.aload_n 0, 1) := by decide +kernel
theorem dX7_next_27 : decode cX7_next 27 = .ok (.getfield 19, 3) := by decide +kernel
theorem dX7_next_30 : decode cX7_next 30 = .ok (.baload, 1) := by decide +kernel
theorem dX7_next_31 : decode cX7_next 31 = .ok (.ireturn, 1) := by decide +kernel
theorem dX7_expect_0 : decode cX7_expect 0 = .ok (.aload_n 0, 1) := by decide +kernel
theorem dX7_expect_1 : decode cX7_expect 1 = .ok (.invokevirtual 35, 3) := by decide +kernel
theorem dX7_expect_4 : decode cX7_expect 4 = .ok (.iload_n 1, 1) := by decide +kernel
theorem dX7_expect_5 : decode cX7_expect 5 = .ok (.if_icmp .ne 16, 3) := by decide +kernel
theorem dX7_expect_8 : decode cX7_expect 8 = .ok (.aload_n 0, 1) := by decide +kernel
theorem dX7_expect_9 : decode cX7_expect 9 = .ok (.dup, 1) := by decide +kernel
theorem dX7_expect_10 : decode cX7_expect 10 = .ok (.getfield 19, 3) := by decide +kernel
theorem dX7_expect_13 : decode cX7_expect 13 = .ok (.iconst 1, 1) := by decide +kernel
theorem dX7_expect_14 : decode cX7_expect 14 = .ok (.iadd, 1) := by decide +kernel
theorem dX7_expect_15 : decode cX7_expect 15 = .ok (.putfield 19, 3) := by decide +kernel
theorem dX7_expect_18 : decode cX7_expect 18 = .ok (.goto 8, 3) := by decide +kernel
theorem dX7_expect_21 : decode cX7_expect 21 = .ok (.aload_n 0, 1) := by decide +kernel
theorem dX7_expect_22 : decode cX7_expect 22 = .ok (.iconst 1, 1) := by decide +kernel
theorem dX7_expect_23 : decode cX7_expect 23 = .ok (.putfield 22, 3) := by decide +kernel
theorem dX7_expect_26 : decode cX7_expect 26 = .ok (.return_, 1) := by decide +kernel
theorem dX7_expectOne_0 : decode cX7_expectOne 0 = .ok (.aload_n 0, 1) := by decide +kernel
theorem dX7_expectOne_1 : decode cX7_expectOne 1 = .ok (.invokevirtual 35, 3) := by decide +kernel
theorem dX7_expectOne_4 : decode cX7_expectOne 4 = .ok (.istore_n 2, 1) := by decide +kernel
theorem dX7_expectOne_5 : decode cX7_expectOne 5 = .ok (.iload_n 2, 1) := by decide +kernel
theorem dX7_expectOne_6 : decode cX7_expectOne 6 = .ok (.iconst (-1), 1) := by decide +kernel
theorem dX7_expectOne_7 : decode cX7_expectOne 7 = .ok (.if_icmp .ne 7, 3) := by decide +kernel
theorem dX7_expectOne_10 : decode cX7_expectOne 10 = .ok (.iconst (-1), 1) := by decide +kernel
theorem dX7_expectOne_11 : decode cX7_expectOne 11 = .ok (.goto 9, 3) := by decide +kernel
theorem dX7_expectOne_14 : decode cX7_expectOne 14 = .ok (.aload_n 1, 1) := by decide +kernel
theorem dX7_expectOne_15 : decode cX7_expectOne 15 = .ok (.iload_n 2, 1) := by decide +kernel
theorem dX7_expectOne_16 : decode cX7_expectOne 16 = .ok (.i2c, 1) := by decide +kernel
theorem dX7_expectOne_17 : decode cX7_expectOne 17 = .ok (.invokevirtual 39, 3) := by decide +kernel
theorem dX7_expectOne_20 : decode cX7_expectOne 20 = .ok (.istore_n 3, 1) := by decide +kernel
theorem dX7_expectOne_21 : decode cX7_expectOne 21 = .ok (.iload_n 3, 1) := by decide +kernel
theorem dX7_expectOne_22 : decode cX7_expectOne 22 = .ok (.ifCond .ge 10, 3) := by decide +kernel
theorem dX7_expectOne_25 : decode cX7_expectOne 25 = .ok (.aload_n 0, 1) := by decide +kernel
theorem dX7_expectOne_26 : decode cX7_expectOne 26 = .ok (.iconst 1, 1) := by decide +kernel
theorem dX7_expectOne_27 : decode cX7_expectOne 27 = .ok (.putfield 22, 3) := by decide +kernel
theorem dX7_expectOne_30 : decode cX7_expectOne 30 = .ok (.iconst 0, 1) := by decide +kernel
theorem dX7_expectOne_31 : decode cX7_expectOne 31 = .ok (.ireturn, 1) := by decide +kernel
theorem dX7_expectOne_32 : decode cX7_expectOne 32 = .ok (.aload_n 0, 1) := by decide +kernel
theorem dX7_expectOne_33 : decode cX7_expectOne 33 = .ok (.dup, 1) := by decide +kernel
theorem dX7_expectOne_34 : decode cX7_expectOne 34 = .ok (.getfield 19, 3) := by decide +kernel
theorem dX7_expectOne_37 : decode cX7_expectOne 37 = .ok (.iconst 1, 1) := by decide +kernel
theorem dX7_expectOne_38 : decode cX7_expectOne 38 = .ok (.iadd, 1) := by decide +kernel
theorem dX7_expectOne_39 : decode cX7_expectOne 39 = .ok (.putfield 19, 3) := by decide +kernel
theorem dX7_expectOne_42 : decode cX7_expectOne 42 = .ok (.iload_n 3, 1) := by decide +kernel
theorem dX7_expectOne_43 : decode cX7_expectOne 43 = .ok (.ireturn, 1) := by decide +kernel
theorem dX7_expectNumber_0 : decode cX7_expectNumber 0 = .ok (.iconst 0, 1) := by decide +kernel
theorem dX7_expectNumber_1 : decode cX7_expectNumber 1 = .ok (.istore_n 1, 1) := by decide +kernel
theorem dX7_expectNumber_2 : decode cX7_expectNumber 2 = .ok (.iconst 0, 1) := by decide +kernel
theorem dX7_expectNumber_3 : decode cX7_expectNumber 3 = .ok (.istore_n 2, 1) := by decide +kernel
theorem dX7_expectNumber_4 : decode cX7_expectNumber 4 = .ok (.aload_n 0, 1) := by decide +kernel
theorem dX7_expectNumber_5 : decode cX7_expectNumber 5 = .ok (.invokevirtual 35, 3) := by decide +kernel
theorem dX7_expectNumber_8 : decode cX7_expectNumber 8 = .ok (.istore_n 3, 1) := by decide +kernel
theorem dX7_expectNumber_9 : decode cX7_expectNumber 9 = .ok (.iload_n 2, 1) := by decide +kernel
theorem dX7_expectNumber_10 : decode cX7_expectNumber 10 = .ok (.iconst 2, 1) := by decide +kernel
theorem dX7_expectNumber_11 : decode cX7_expectNumber 11 = .ok (.if_icmp .ge 46, 3) := by decide +kernel
theorem dX7_expectNumber_14 : decode cX7_expectNumber 14 = .ok (.iload_n 3, 1) := by decide +kernel
theorem dX7_expectNumber_15 : decode cX7_expectNumber 15 = .ok (.bipush 48, 2) := by decide +kernel
theorem dX7_expectNumber_17 : decode cX7_expectNumber 17 = .ok (.if_icmp .lt 40, 3) := by decide +kernel
theorem dX7_expectNumber_20 : decode cX7_expectNumber 20 = .ok (.iload_n 3, 1) := by decide +kernel
theorem dX7_expectNumber_21 : decode cX7_expectNumber 21 = .ok (.bipush 57, 2) := by decide +kernel
theorem dX7_expectNumber_23 : decode cX7_expectNumber 23 = .ok (.if_icmp .gt 34, 3) := by decide +kernel
theorem dX7_expectNumber_26 : decode cX7_expectNumber 26 = .ok (.bipush 10, 2) := by decide +kernel
theorem dX7_expectNumber_28 : decode cX7_expectNumber 28 = .ok (.iload_n 1, 1) := by decide +kernel
theorem dX7_expectNumber_29 : decode cX7_expectNumber 29 = .ok (.imul, 1) := by decide +kernel
theorem dX7_expectNumber_30 : decode cX7_expectNumber 30 = .ok (.iload_n 3, 1) := by decide +kernel
theorem dX7_expectNumber_31 : decode cX7_expectNumber 31 = .ok (.iadd, 1) := by decide +kernel
theorem dX7_expectNumber_32 : decode cX7_expectNumber 32 = .ok (.bipush 48, 2) := by decide +kernel
theorem dX7_expectNumber_34 : decode cX7_expectNumber 34 = .ok (.isub, 1) := by decide +kernel
theorem dX7_expectNumber_35 : decode cX7_expectNumber 35 = .ok (.istore_n 1, 1) := by decide +kernel
theorem dX7_expectNumber_36 : decode cX7_expectNumber 36 = .ok (.iinc 2 1, 3) := by decide +kernel
theorem dX7_expectNumber_39 : decode cX7_expectNumber 39 = .ok (.aload_n 0, 1) := by decide +kernel
theorem dX7_expectNumber_40 : decode cX7_expectNumber 40 = .ok (.dup, 1) := by decide +kernel
theorem dX7_expectNumber_41 : decode cX7_expectNumber 41 = .ok (.getfield 19, 3) := by decide +kernel
theorem dX7_expectNumber_44 : decode cX7_expectNumber 44 = .ok (.iconst 1, 1) := by decide +kernel
theorem dX7_expectNumber_45 : decode cX7_expectNumber 45 = .ok (.iadd, 1) := by decide +kernel
theorem dX7_expectNumber_46 : decode cX7_expectNumber 46 = .ok (.putfield 19, 3) := by decide +kernel
theorem dX7_expectNumber_49 : decode cX7_expectNumber 49 = .ok (.aload_n 0, 1) := by decide +kernel
theorem dX7_expectNumber_50 : decode cX7_expectNumber 50 = .ok (.invokevirtual 35, 3) := by decide +kernel
theorem dX7_expectNumber_53 : decode cX7_expectNumber 53 = .ok (.istore_n 3, 1) := by decide +kernel
theorem dX7_expectNumber_54 : decode cX7_expectNumber 54 = .ok (.goto (-45), 3) := by decide +kernel
theorem dX7_expectNumber_57 : decode cX7_expectNumber 57 = .ok (.aload_n 0, 1) := by decide +kernel
theorem dX7_expectNumber_58 : decode cX7_expectNumber 58 = .ok (.aload_n 0, 1) := by decide +kernel
theorem dX7_expectNumber_59 : decode cX7_expectNumber 59 = .ok (.getfield 22, 3) := by decide +kernel
theorem dX7_expectNumber_62 : decode cX7_expectNumber 62 = .ok (.ifCond .ne 7, 3) := by decide +kernel
theorem dX7_expectNumber_65 : decode cX7_expectNumber 65 = .ok (.iload_n 2, 1) := by decide +kernel
theorem dX7_expectNumber_66 : decode cX7_expectNumber 66 = .ok (.ifCond .ne 7, 3) := by decide +kernel
theorem dX7_expectNumber_69 : decode cX7_expectNumber 69 = .ok (.iconst 1, 1) := by decide +kernel
theorem dX7_expectNumber_70 : decode cX7_expectNumber 70 = .ok (.goto 4, 3) := by decide +kernel
theorem dX7_expectNumber_73 : decode cX7_expectNumber 73 = .ok (.iconst 0, 1) := by decide +kernel
theorem dX7_expectNumber_74 : decode cX7_expectNumber 74 = .ok (.putfield 22, 3) := by decide +kernel
theorem dX7_expectNumber_77 : decode cX7_expectNumber 77 = .ok (.iload_n 1, 1) := by decide +kernel
theorem dX7_expectNumber_78 : decode cX7_expectNumber 78 = .ok (.ireturn, 1) := by decide +kernel
theorem dX7_clause_0 : decode cX7_clause 0 = .ok (.aload_n 0, 1) := by decide +kernel
theorem dX7_clause_1 : decode cX7_clause 1 = .ok (.invokevirtual 35, 3) := by decide +kernel
theorem dX7_clause_4 : decode cX7_clause 4 = .ok (.istore_n 2, 1) := by decide +kernel
theorem dX7_clause_5 : decode cX7_clause 5 = .ok (.iload_n 2, 1) := by decide +kernel
theorem dX7_clause_6 : decode cX7_clause 6 = .ok (.bipush 115, 2) := by decide +kernel
theorem dX7_clause_8 : decode cX7_clause 8 = .ok (.if_icmp .ne 8, 3) := by decide +kernel
theorem dX7_clause_11 : decode cX7_clause 11 = .ok (.ldc 45, 2) := by decide +kernel
theorem dX7_clause_13 : decode cX7_clause 13 = .ok (.goto 16, 3) := by decide +kernel
theorem dX7_clause_16 : decode cX7_clause 16 = .ok (.iload_n 2, 1) := by decide +kernel
theorem dX7_clause_17 : decode cX7_clause 17 = .ok (.bipush 104, 2) := by decide +kernel
theorem dX7_clause_19 : decode cX7_clause 19 = .ok (.if_icmp .ne 8, 3) := by decide +kernel
theorem dX7_clause_22 : decode cX7_clause 22 = .ok (.ldc 47, 2) := by decide +kernel
theorem dX7_clause_24 : decode cX7_clause 24 = .ok (.goto 5, 3) := by decide +kernel
theorem dX7_clause_27 : decode cX7_clause 27 = .ok (.ldc 49, 2) := by decide +kernel
theorem dX7_clause_29 : decode cX7_clause 29 = .ok (.astore_n 3, 1) := by decide +kernel
theorem dX7_clause_30 : decode cX7_clause 30 = .ok (.iconst 0, 1) := by decide +kernel
theorem dX7_clause_31 : decode cX7_clause 31 = .ok (.istore 4, 2) := by decide +kernel
theorem dX7_clause_33 : decode cX7_clause 33 = .ok (.iload 4, 2) := by decide +kernel
theorem dX7_clause_35 : decode cX7_clause 35 = .ok (.aload_n 3, 1) := by decide +kernel
theorem dX7_clause_36 : decode cX7_clause 36 = .ok (.invokevirtual 51, 3) := by decide +kernel
theorem dX7_clause_39 : decode cX7_clause 39 = .ok (.if_icmp .ge 19, 3) := by decide +kernel
theorem dX7_clause_42 : decode cX7_clause 42 = .ok (.aload_n 0, 1) := by decide +kernel
theorem dX7_clause_43 : decode cX7_clause 43 = .ok (.aload_n 3, 1) := by decide +kernel
theorem dX7_clause_44 : decode cX7_clause 44 = .ok (.iload 4, 2) := by decide +kernel
theorem dX7_clause_46 : decode cX7_clause 46 = .ok (.invokevirtual 53, 3) := by decide +kernel
theorem dX7_clause_49 : decode cX7_clause 49 = .ok (.invokevirtual 57, 3) := by decide +kernel
theorem dX7_clause_52 : decode cX7_clause 52 = .ok (.iinc 4 1, 3) := by decide +kernel
theorem dX7_clause_55 : decode cX7_clause 55 = .ok (.goto (-22), 3) := by decide +kernel
theorem dX7_clause_58 : decode cX7_clause 58 = .ok (.aload_n 0, 1) := by decide +kernel
theorem dX7_clause_59 : decode cX7_clause 59 = .ok (.bipush 32, 2) := by decide +kernel
theorem dX7_clause_61 : decode cX7_clause 61 = .ok (.invokevirtual 57, 3) := by decide +kernel
theorem dX7_clause_64 : decode cX7_clause 64 = .ok (.aload_n 0, 1) := by decide +kernel
theorem dX7_clause_65 : decode cX7_clause 65 = .ok (.invokevirtual 61, 3) := by decide +kernel
theorem dX7_clause_68 : decode cX7_clause 68 = .ok (.istore 4, 2) := by decide +kernel
theorem dX7_clause_70 : decode cX7_clause 70 = .ok (.iload_n 2, 1) := by decide +kernel
theorem dX7_clause_71 : decode cX7_clause 71 = .ok (.bipush 115, 2) := by decide +kernel
theorem dX7_clause_73 : decode cX7_clause 73 = .ok (.if_icmp .eq 16, 3) := by decide +kernel
theorem dX7_clause_76 : decode cX7_clause 76 = .ok (.iload_n 2, 1) := by decide +kernel
theorem dX7_clause_77 : decode cX7_clause 77 = .ok (.bipush 104, 2) := by decide +kernel
theorem dX7_clause_79 : decode cX7_clause 79 = .ok (.if_icmp .eq 10, 3) := by decide +kernel
theorem dX7_clause_82 : decode cX7_clause 82 = .ok (.aload_n 1, 1) := by decide +kernel
theorem dX7_clause_83 : decode cX7_clause 83 = .ok (.iload 4, 2) := by decide +kernel
theorem dX7_clause_85 : decode cX7_clause 85 = .ok (.putfield 64, 3) := by decide +kernel
theorem dX7_clause_88 : decode cX7_clause 88 = .ok (.return_, 1) := by decide +kernel
theorem dX7_clause_89 : decode cX7_clause 89 = .ok (.aload_n 0, 1) := by decide +kernel
theorem dX7_clause_90 : decode cX7_clause 90 = .ok (.bipush 32, 2) := by decide +kernel
theorem dX7_clause_92 : decode cX7_clause 92 = .ok (.invokevirtual 57, 3) := by decide +kernel
theorem dX7_clause_95 : decode cX7_clause 95 = .ok (.aload_n 0, 1) := by decide +kernel
theorem dX7_clause_96 : decode cX7_clause 96 = .ok (.aload_n 1, 1) := by decide +kernel
theorem dX7_clause_97 : decode cX7_clause 97 = .ok (.iconst 0, 1) := by decide +kernel
theorem dX7_clause_98 : decode cX7_clause 98 = .ok (.invokevirtual 66, 3) := by decide +kernel
theorem dX7_clause_101 : decode cX7_clause 101 = .ok (.aload_n 1, 1) := by decide +kernel
theorem dX7_clause_102 : decode cX7_clause 102 = .ok (.iload_n 2, 1) := by decide +kernel
theorem dX7_clause_103 : decode cX7_clause 103 = .ok (.bipush 115, 2) := by decide +kernel
theorem dX7_clause_105 : decode cX7_clause 105 = .ok (.if_icmp .ne 8, 3) := by decide +kernel
theorem dX7_clause_108 : decode cX7_clause 108 = .ok (.bipush 21, 2) := by decide +kernel
theorem dX7_clause_110 : decode cX7_clause 110 = .ok (.goto 5, 3) := by decide +kernel
theorem dX7_clause_113 : decode cX7_clause 113 = .ok (.bipush 22, 2) := by decide +kernel
theorem dX7_clause_115 : decode cX7_clause 115 = .ok (.iload 4, 2) := by decide +kernel
theorem dX7_clause_117 : decode cX7_clause 117 = .ok (.invokevirtual 70, 3) := by decide +kernel
theorem dX7_clause_120 : decode cX7_clause 120 = .ok (.return_, 1) := by decide +kernel
theorem dX7_either_0 : decode cX7_either 0 = .ok (.aload_n 0, 1) := by decide +kernel
theorem dX7_either_1 : decode cX7_either 1 = .ok (.aload_n 1, 1) := by decide +kernel
theorem dX7_either_2 : decode cX7_either 2 = .ok (.iload_n 2, 1) := by decide +kernel
theorem dX7_either_3 : decode cX7_either 3 = .ok (.invokevirtual 74, 3) := by decide +kernel
theorem dX7_either_6 : decode cX7_either 6 = .ok (.iconst 0, 1) := by decide +kernel
theorem dX7_either_7 : decode cX7_either 7 = .ok (.istore_n 3, 1) := by decide +kernel
theorem dX7_either_8 : decode cX7_either 8 = .ok (.iload_n 3, 1) := by decide +kernel
theorem dX7_either_9 : decode cX7_either 9 = .ok (.bipush 100, 2) := by decide +kernel
theorem dX7_either_11 : decode cX7_either 11 = .ok (.if_icmp .ge 41, 3) := by decide +kernel
theorem dX7_either_14 : decode cX7_either 14 = .ok (.aload_n 0, 1) := by decide +kernel
theorem dX7_either_15 : decode cX7_either 15 = .ok (.invokevirtual 35, 3) := by decide +kernel
theorem dX7_either_18 : decode cX7_either 18 = .ok (.bipush 124, 2) := by decide +kernel
theorem dX7_either_20 : decode cX7_either 20 = .ok (.if_icmp .ne 32, 3) := by decide +kernel
theorem dX7_either_23 : decode cX7_either 23 = .ok (.aload_n 0, 1) := by decide +kernel
theorem dX7_either_24 : decode cX7_either 24 = .ok (.dup, 1) := by decide +kernel
theorem dX7_either_25 : decode cX7_either 25 = .ok (.getfield 19, 3) := by decide +kernel
theorem dX7_either_28 : decode cX7_either 28 = .ok (.iconst 1, 1) := by decide +kernel
theorem dX7_either_29 : decode cX7_either 29 = .ok (.iadd, 1) := by decide +kernel
theorem dX7_either_30 : decode cX7_either 30 = .ok (.putfield 19, 3) := by decide +kernel
theorem dX7_either_33 : decode cX7_either 33 = .ok (.aload_n 0, 1) := by decide +kernel
theorem dX7_either_34 : decode cX7_either 34 = .ok (.aload_n 1, 1) := by decide +kernel
theorem dX7_either_35 : decode cX7_either 35 = .ok (.iload_n 2, 1) := by decide +kernel
theorem dX7_either_36 : decode cX7_either 36 = .ok (.invokevirtual 74, 3) := by decide +kernel
theorem dX7_either_39 : decode cX7_either 39 = .ok (.aload_n 1, 1) := by decide +kernel
theorem dX7_either_40 : decode cX7_either 40 = .ok (.bipush 20, 2) := by decide +kernel
theorem dX7_either_42 : decode cX7_either 42 = .ok (.iconst 0, 1) := by decide +kernel
theorem dX7_either_43 : decode cX7_either 43 = .ok (.invokevirtual 70, 3) := by decide +kernel
theorem dX7_either_46 : decode cX7_either 46 = .ok (.iinc 3 1, 3) := by decide +kernel
theorem dX7_either_49 : decode cX7_either 49 = .ok (.goto (-41), 3) := by decide +kernel
theorem dX7_either_52 : decode cX7_either 52 = .ok (.return_, 1) := by decide +kernel
theorem dX7_both_0 : decode cX7_both 0 = .ok (.aload_n 0, 1) := by decide +kernel
theorem dX7_both_1 : decode cX7_both 1 = .ok (.aload_n 1, 1) := by decide +kernel
theorem dX7_both_2 : decode cX7_both 2 = .ok (.iload_n 2, 1) := by decide +kernel
theorem dX7_both_3 : decode cX7_both 3 = .ok (.invokevirtual 77, 3) := by decide +kernel
theorem dX7_both_6 : decode cX7_both 6 = .ok (.iconst 0, 1) := by decide +kernel
theorem dX7_both_7 : decode cX7_both 7 = .ok (.istore_n 3, 1) := by decide +kernel
theorem dX7_both_8 : decode cX7_both 8 = .ok (.iload_n 3, 1) := by decide +kernel
theorem dX7_both_9 : decode cX7_both 9 = .ok (.bipush 100, 2) := by decide +kernel
theorem dX7_both_11 : decode cX7_both 11 = .ok (.if_icmp .ge 41, 3) := by decide +kernel
theorem dX7_both_14 : decode cX7_both 14 = .ok (.aload_n 0, 1) := by decide +kernel
theorem dX7_both_15 : decode cX7_both 15 = .ok (.invokevirtual 35, 3) := by decide +kernel
theorem dX7_both_18 : decode cX7_both 18 = .ok (.bipush 38, 2) := by decide +kernel
theorem dX7_both_20 : decode cX7_both 20 = .ok (.if_icmp .ne 32, 3) := by decide +kernel
theorem dX7_both_23 : decode cX7_both 23 = .ok (.aload_n 0, 1) := by decide +kernel
theorem dX7_both_24 : decode cX7_both 24 = .ok (.dup, 1) := by decide +kernel
theorem dX7_both_25 : decode cX7_both 25 = .ok (.getfield 19, 3) := by decide +kernel
theorem dX7_both_28 : decode cX7_both 28 = .ok (.iconst 1, 1) := by decide +kernel
theorem dX7_both_29 : decode cX7_both 29 = .ok (.iadd, 1) := by decide +kernel
theorem dX7_both_30 : decode cX7_both 30 = .ok (.putfield 19, 3) := by decide +kernel
theorem dX7_both_33 : decode cX7_both 33 = .ok (.aload_n 0, 1) := by decide +kernel
theorem dX7_both_34 : decode cX7_both 34 = .ok (.aload_n 1, 1) := by decide +kernel
theorem dX7_both_35 : decode cX7_both 35 = .ok (.iload_n 2, 1) := by decide +kernel
theorem dX7_both_36 : decode cX7_both 36 = .ok (.invokevirtual 77, 3) := by decide +kernel
theorem dX7_both_39 : decode cX7_both 39 = .ok (.aload_n 1, 1) := by decide +kernel
theorem dX7_both_40 : decode cX7_both 40 = .ok (.bipush 19, 2) := by decide +kernel
theorem dX7_both_42 : decode cX7_both 42 = .ok (.iconst 0, 1) := by decide +kernel
theorem dX7_both_43 : decode cX7_both 43 = .ok (.invokevirtual 70, 3) := by decide +kernel
theorem dX7_both_46 : decode cX7_both 46 = .ok (.iinc 3 1, 3) := by decide +kernel
theorem dX7_both_49 : decode cX7_both 49 = .ok (.goto (-41), 3) := by decide +kernel
theorem dX7_both_52 : decode cX7_both 52 = .ok (.return_, 1) := by decide +kernel
theorem dX7_single_0 : decode cX7_single 0 = .ok (.aload_n 0, 1) := by decide +kernel
theorem dX7_single_1 : decode cX7_single 1 = .ok (.invokevirtual 35, 3) := by decide +kernel
theorem dX7_single_4 : decode cX7_single 4 = .ok (.istore_n 3, 1) := by decide +kernel
theorem dX7_single_5 : decode cX7_single 5 = .ok (.iload_n 3, 1) := by decide +kernel
theorem dX7_single_6 : decode cX7_single 6 = .ok (.bipush 33, 2) := by decide +kernel
theorem dX7_single_8 : decode cX7_single 8 = .ok (.if_icmp .eq 41, 3) := by decide +kernel
theorem dX7_single_11 : decode cX7_single 11 = .ok (.iload_n 3, 1) := by decide +kernel
theorem dX7_single_12 : decode cX7_single 12 = .ok (.bipush 40, 2) := by decide +kernel
theorem dX7_single_14 : decode cX7_single 14 = .ok (.if_icmp .eq 35, 3) := by decide +kernel
theorem dX7_single_17 : decode cX7_single 17 = .ok (.aload_n 0, 1) := by decide +kernel
theorem dX7_single_18 : decode cX7_single 18 = .ok (.ldc 80, 2) := by decide +kernel
theorem dX7_single_20 : decode cX7_single 20 = .ok (.invokevirtual 82, 3) := by decide +kernel
theorem dX7_single_23 : decode cX7_single 23 = .ok (.istore 4, 2) := by decide +kernel
theorem dX7_single_25 : decode cX7_single 25 = .ok (.aload_n 0, 1) := by decide +kernel
theorem dX7_single_26 : decode cX7_single 26 = .ok (.ldc 86, 2) := by decide +kernel
theorem dX7_single_28 : decode cX7_single 28 = .ok (.invokevirtual 82, 3) := by decide +kernel
theorem dX7_single_31 : decode cX7_single 31 = .ok (.istore 5, 2) := by decide +kernel
theorem dX7_single_33 : decode cX7_single 33 = .ok (.aload_n 1, 1) := by decide +kernel
theorem dX7_single_34 : decode cX7_single 34 = .ok (.iconst 3, 1) := by decide +kernel

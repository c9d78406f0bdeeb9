/-! decode rows -/
theorem d_Mo_push_39 : decode prog_14_method_8_code 39 = .ok (.getfield 124, 3) := by decide +kernel
theorem d_Mo_push_42 : decode prog_14_method_8_code 42 = .ok (.iastore, 1) := by decide +kernel
theorem d_Mo_push_43 : decode prog_14_method_8_code 43 = .ok (.aload_n 0, 1) := by decide +kernel
theorem d_Mo_push_44 : decode prog_14_method_8_code 44 = .ok (.dup, 1) := by decide +kernel
theorem d_Mo_push_45 : decode prog_14_method_8_code 45 = .ok (.getfield 121, 3) := by decide +kernel
theorem d_Mo_push_48 : decode prog_14_method_8_code 48 = .ok (.iconst 1, 1) := by decide +kernel
theorem d_Mo_push_49 : decode prog_14_method_8_code 49 = .ok (.iadd, 1) := by decide +kernel
theorem d_Mo_push_50 : decode prog_14_method_8_code 50 = .ok (.putfield 121, 3) := by decide +kernel
theorem d_Mo_push_53 : decode prog_14_method_8_code 53 = .ok (.return_, 1) := by decide +kernel
theorem d_Mo_turn_0 : decode prog_14_method_10_code 0 = .ok (.aload_n 0, 1) := by decide +kernel
theorem d_Mo_turn_1 : decode prog_14_method_10_code 1 = .ok (.getfield 13, 3) := by decide +kernel
theorem d_Mo_turn_4 : decode prog_14_method_10_code 4 = .ok (.iload_n 2, 1) := by decide +kernel
theorem d_Mo_turn_5 : decode prog_14_method_10_code 5 = .ok (.iaload, 1) := by decide +kernel
theorem d_Mo_turn_6 : decode prog_14_method_10_code 6 = .ok (.istore_n 3, 1) := by decide +kernel
theorem d_Mo_turn_7 : decode prog_14_method_10_code 7 = .ok (.aload_n 0, 1) := by decide +kernel
theorem d_Mo_turn_8 : decode prog_14_method_10_code 8 = .ok (.getfield 16, 3) := by decide +kernel
theorem d_Mo_turn_11 : decode prog_14_method_10_code 11 = .ok (.iload_n 2, 1) := by decide +kernel
theorem d_Mo_turn_12 : decode prog_14_method_10_code 12 = .ok (.iaload, 1) := by decide +kernel
theorem d_Mo_turn_13 : decode prog_14_method_10_code 13 = .ok (.istore 4, 2) := by decide +kernel
theorem d_Mo_turn_15 : decode prog_14_method_10_code 15 = .ok (.aload_n 0, 1) := by decide +kernel
theorem d_Mo_turn_16 : decode prog_14_method_10_code 16 = .ok (.getfield 46, 3) := by decide +kernel
theorem d_Mo_turn_19 : decode prog_14_method_10_code 19 = .ok (.iload_n 1, 1) := by decide +kernel
theorem d_Mo_turn_20 : decode prog_14_method_10_code 20 = .ok (.dup2, 1) := by decide +kernel
theorem d_Mo_turn_21 : decode prog_14_method_10_code 21 = .ok (.iaload, 1) := by decide +kernel
theorem d_Mo_turn_22 : decode prog_14_method_10_code 22 = .ok (.iconst 1, 1) := by decide +kernel
theorem d_Mo_turn_23 : decode prog_14_method_10_code 23 = .ok (.iadd, 1) := by decide +kernel
theorem d_Mo_turn_24 : decode prog_14_method_10_code 24 = .ok (.iastore, 1) := by decide +kernel
theorem d_Mo_turn_25 : decode prog_14_method_10_code 25 = .ok (.aload_n 0, 1) := by decide +kernel
theorem d_Mo_turn_26 : decode prog_14_method_10_code 26 = .ok (.getfield 7, 3) := by decide +kernel
theorem d_Mo_turn_29 : decode prog_14_method_10_code 29 = .ok (.iload_n 2, 1) := by decide +kernel
theorem d_Mo_turn_30 : decode prog_14_method_10_code 30 = .ok (.iaload, 1) := by decide +kernel
theorem d_Mo_turn_31 : decode prog_14_method_10_code 31 = .ok (.tableswitch 264 0 4 #[33, 104, 162, 208, 253], 33) := by decide +kernel
theorem d_Mo_turn_64 : decode prog_14_method_10_code 64 = .ok (.aload_n 0, 1) := by decide +kernel
theorem d_Mo_turn_65 : decode prog_14_method_10_code 65 = .ok (.iload 4, 2) := by decide +kernel
theorem d_Mo_turn_67 : decode prog_14_method_10_code 67 = .ok (.iload_n 3, 1) := by decide +kernel
theorem d_Mo_turn_68 : decode prog_14_method_10_code 68 = .ok (.isub, 1) := by decide +kernel
theorem d_Mo_turn_69 : decode prog_14_method_10_code 69 = .ok (.iconst 1, 1) := by decide +kernel
theorem d_Mo_turn_70 : decode prog_14_method_10_code 70 = .ok (.invokevirtual 135, 3) := by decide +kernel
theorem d_Mo_turn_73 : decode prog_14_method_10_code 73 = .ok (.istore 5, 2) := by decide +kernel
theorem d_Mo_turn_75 : decode prog_14_method_10_code 75 = .ok (.aload_n 0, 1) := by decide +kernel
theorem d_Mo_turn_76 : decode prog_14_method_10_code 76 = .ok (.dup, 1) := by decide +kernel
theorem d_Mo_turn_77 : decode prog_14_method_10_code 77 = .ok (.getfield 121, 3) := by decide +kernel
theorem d_Mo_turn_80 : decode prog_14_method_10_code 80 = .ok (.iconst 1, 1) := by decide +kernel
theorem d_Mo_turn_81 : decode prog_14_method_10_code 81 = .ok (.isub, 1) := by decide +kernel
theorem d_Mo_turn_82 : decode prog_14_method_10_code 82 = .ok (.putfield 121, 3) := by decide +kernel
theorem d_Mo_turn_85 : decode prog_14_method_10_code 85 = .ok (.aload_n 0, 1) := by decide +kernel
theorem d_Mo_turn_86 : decode prog_14_method_10_code 86 = .ok (.getfield 124, 3) := by decide +kernel
theorem d_Mo_turn_89 : decode prog_14_method_10_code 89 = .ok (.bipush 60, 2) := by decide +kernel
theorem d_Mo_turn_91 : decode prog_14_method_10_code 91 = .ok (.if_icmp .ne 8, 3) := by decide +kernel
theorem d_Mo_turn_94 : decode prog_14_method_10_code 94 = .ok (.aload_n 0, 1) := by decide +kernel
theorem d_Mo_turn_95 : decode prog_14_method_10_code 95 = .ok (.iconst 1, 1) := by decide +kernel
theorem d_Mo_turn_96 : decode prog_14_method_10_code 96 = .ok (.putfield 114, 3) := by decide +kernel
theorem d_Mo_turn_99 : decode prog_14_method_10_code 99 = .ok (.aload_n 0, 1) := by decide +kernel
theorem d_Mo_turn_100 : decode prog_14_method_10_code 100 = .ok (.getfield 114, 3) := by decide +kernel
theorem d_Mo_turn_103 : decode prog_14_method_10_code 103 = .ok (.ifCond .eq 6, 3) := by decide +kernel
theorem d_Mo_turn_106 : decode prog_14_method_10_code 106 = .ok (.goto 262, 3) := by decide +kernel
theorem d_Mo_turn_109 : decode prog_14_method_10_code 109 = .ok (.aload_n 0, 1) := by decide +kernel
theorem d_Mo_turn_110 : decode prog_14_method_10_code 110 = .ok (.getfield 40, 3) := by decide +kernel
theorem d_Mo_turn_113 : decode prog_14_method_10_code 113 = .ok (.aload_n 0, 1) := by decide +kernel
theorem d_Mo_turn_114 : decode prog_14_method_10_code 114 = .ok (.getfield 124, 3) := by decide +kernel
theorem d_Mo_turn_117 : decode prog_14_method_10_code 117 = .ok (.iload_n 3, 1) := by decide +kernel
theorem d_Mo_turn_118 : decode prog_14_method_10_code 118 = .ok (.iload 5, 2) := by decide +kernel
theorem d_Mo_turn_120 : decode prog_14_method_10_code 120 = .ok (.iadd, 1) := by decide +kernel
theorem d_Mo_turn_121 : decode prog_14_method_10_code 121 = .ok (.iastore, 1) := by decide +kernel
theorem d_Mo_turn_122 : decode prog_14_method_10_code 122 = .ok (.aload_n 0, 1) := by decide +kernel
theorem d_Mo_turn_123 : decode prog_14_method_10_code 123 = .ok (.dup, 1) := by decide +kernel
theorem d_Mo_turn_124 : decode prog_14_method_10_code 124 = .ok (.getfield 124, 3) := by decide +kernel
theorem d_Mo_turn_127 : decode prog_14_method_10_code 127 = .ok (.iconst 1, 1) := by decide +kernel
theorem d_Mo_turn_128 : decode prog_14_method_10_code 128 = .ok (.iadd, 1) := by decide +kernel
theorem d_Mo_turn_129 : decode prog_14_method_10_code 129 = .ok (.putfield 124, 3) := by decide +kernel
theorem d_Mo_turn_132 : decode prog_14_method_10_code 132 = .ok (.goto 236, 3) := by decide +kernel
theorem d_Mo_turn_135 : decode prog_14_method_10_code 135 = .ok (.aload_n 0, 1) := by decide +kernel
theorem d_Mo_turn_136 : decode prog_14_method_10_code 136 = .ok (.aload_n 0, 1) := by decide +kernel
theorem d_Mo_turn_137 : decode prog_14_method_10_code 137 = .ok (.getfield 49, 3) := by decide +kernel
theorem d_Mo_turn_140 : decode prog_14_method_10_code 140 = .ok (.iload_n 1, 1) := by decide +kernel
theorem d_Mo_turn_141 : decode prog_14_method_10_code 141 = .ok (.iaload, 1) := by decide +kernel
theorem d_Mo_turn_142 : decode prog_14_method_10_code 142 = .ok (.iload 4, 2) := by decide +kernel
theorem d_Mo_turn_144 : decode prog_14_method_10_code 144 = .ok (.if_icmp .eq 12, 3) := by decide +kernel
theorem d_Mo_turn_147 : decode prog_14_method_10_code 147 = .ok (.aload_n 0, 1) := by decide +kernel
theorem d_Mo_turn_148 : decode prog_14_method_10_code 148 = .ok (.iconst 1, 1) := by decide +kernel
theorem d_Mo_turn_149 : decode prog_14_method_10_code 149 = .ok (.iconst 0, 1) := by decide +kernel
theorem d_Mo_turn_150 : decode prog_14_method_10_code 150 = .ok (.invokevirtual 135, 3) := by decide +kernel
theorem d_Mo_turn_153 : decode prog_14_method_10_code 153 = .ok (.ifCond .ne 7, 3) := by decide +kernel
theorem d_Mo_turn_156 : decode prog_14_method_10_code 156 = .ok (.iload_n 1, 1) := by decide +kernel
theorem d_Mo_turn_157 : decode prog_14_method_10_code 157 = .ok (.goto 7, 3) := by decide +kernel
theorem d_Mo_turn_160 : decode prog_14_method_10_code 160 = .ok (.aload_n 0, 1) := by decide +kernel
theorem d_Mo_turn_161 : decode prog_14_method_10_code 161 = .ok (.getfield 121, 3) := by decide +kernel
theorem d_Mo_turn_164 : decode prog_14_method_10_code 164 = .ok (.putfield 121, 3) := by decide +kernel
theorem d_Mo_turn_167 : decode prog_14_method_10_code 167 = .ok (.aload_n 0, 1) := by decide +kernel
theorem d_Mo_turn_168 : decode prog_14_method_10_code 168 = .ok (.getfield 49, 3) := by decide +kernel
theorem d_Mo_turn_171 : decode prog_14_method_10_code 171 = .ok (.iload_n 1, 1) := by decide +kernel
theorem d_Mo_turn_172 : decode prog_14_method_10_code 172 = .ok (.dup2, 1) := by decide +kernel
theorem d_Mo_turn_173 : decode prog_14_method_10_code 173 = .ok (.iaload, 1) := by decide +kernel
theorem d_Mo_turn_174 : decode prog_14_method_10_code 174 = .ok (.iconst 1, 1) := by decide +kernel
theorem d_Mo_turn_175 : decode prog_14_method_10_code 175 = .ok (.iadd, 1) := by decide +kernel
theorem d_Mo_turn_176 : decode prog_14_method_10_code 176 = .ok (.iastore, 1) := by decide +kernel
theorem d_Mo_turn_177 : decode prog_14_method_10_code 177 = .ok (.aload_n 0, 1) := by decide +kernel
theorem d_Mo_turn_178 : decode prog_14_method_10_code 178 = .ok (.getfield 121, 3) := by decide +kernel
theorem d_Mo_turn_181 : decode prog_14_method_10_code 181 = .ok (.iload_n 1, 1) := by decide +kernel
theorem d_Mo_turn_182 : decode prog_14_method_10_code 182 = .ok (.if_icmp .le 186, 3) := by decide +kernel
theorem d_Mo_turn_185 : decode prog_14_method_10_code 185 = .ok (.aload_n 0, 1) := by decide +kernel
theorem d_Mo_turn_186 : decode prog_14_method_10_code 186 = .ok (.iload_n 3, 1) := by decide +kernel
theorem d_Mo_turn_187 : decode prog_14_method_10_code 187 = .ok (.invokevirtual 127, 3) := by decide +kernel
theorem d_Mo_turn_190 : decode prog_14_method_10_code 190 = .ok (.goto 178, 3) := by decide +kernel
theorem d_Mo_turn_193 : decode prog_14_method_10_code 193 = .ok (.aload_n 0, 1) := by decide +kernel
theorem d_Mo_turn_194 : decode prog_14_method_10_code 194 = .ok (.getfield 46, 3) := by decide +kernel
theorem d_Mo_turn_197 : decode prog_14_method_10_code 197 = .ok (.iload_n 1, 1) := by decide +kernel
theorem d_Mo_turn_198 : decode prog_14_method_10_code 198 = .ok (.iaload, 1) := by decide +kernel
theorem d_Mo_turn_199 : decode prog_14_method_10_code 199 = .ok (.iconst 3, 1) := by decide +kernel
theorem d_Mo_turn_200 : decode prog_14_method_10_code 200 = .ok (.if_icmp .ge 26, 3) := by decide +kernel
theorem d_Mo_turn_203 : decode prog_14_method_10_code 203 = .ok (.aload_n 0, 1) := by decide +kernel
theorem d_Mo_turn_204 : decode prog_14_method_10_code 204 = .ok (.aload_n 0, 1) := by decide +kernel
theorem d_Mo_turn_205 : decode prog_14_method_10_code 205 = .ok (.getfield 46, 3) := by decide +kernel
theorem d_Mo_turn_208 : decode prog_14_method_10_code 208 = .ok (.iload_n 1, 1) := by decide +kernel
theorem d_Mo_turn_209 : decode prog_14_method_10_code 209 = .ok (.iaload, 1) := by decide +kernel
theorem d_Mo_turn_210 : decode prog_14_method_10_code 210 = .ok (.iconst 1, 1) := by decide +kernel
theorem d_Mo_turn_211 : decode prog_14_method_10_code 211 = .ok (.if_icmp .ne 7, 3) := by decide +kernel
theorem d_Mo_turn_214 : decode prog_14_method_10_code 214 = .ok (.iload_n 3, 1) := by decide +kernel
theorem d_Mo_turn_215 : decode prog_14_method_10_code 215 = .ok (.goto 5, 3) := by decide +kernel
theorem d_Mo_turn_218 : decode prog_14_method_10_code 218 = .ok (.iload 4, 2) := by decide +kernel
theorem d_Mo_turn_220 : decode prog_14_method_10_code 220 = .ok (.invokevirtual 127, 3) := by decide +kernel
theorem d_Mo_turn_223 : decode prog_14_method_10_code 223 = .ok (.goto 145, 3) := by decide +kernel
theorem d_Mo_turn_226 : decode prog_14_method_10_code 226 = .ok (.aload_n 0, 1) := by decide +kernel
theorem d_Mo_turn_227 : decode prog_14_method_10_code 227 = .ok (.dup, 1) := by decide +kernel
theorem d_Mo_turn_228 : decode prog_14_method_10_code 228 = .ok (.getfield 121, 3) := by decide +kernel
theorem d_Mo_turn_231 : decode prog_14_method_10_code 231 = .ok (.iconst 1, 1) := by decide +kernel
theorem d_Mo_turn_232 : decode prog_14_method_10_code 232 = .ok (.isub, 1) := by decide +kernel
theorem d_Mo_turn_233 : decode prog_14_method_10_code 233 = .ok (.putfield 121, 3) := by decide +kernel
theorem d_Mo_turn_236 : decode prog_14_method_10_code 236 = .ok (.goto 132, 3) := by decide +kernel
theorem d_Mo_turn_239 : decode prog_14_method_10_code 239 = .ok (.aload_n 0, 1) := by decide +kernel
theorem d_Mo_turn_240 : decode prog_14_method_10_code 240 = .ok (.getfield 46, 3) := by decide +kernel
theorem d_Mo_turn_243 : decode prog_14_method_10_code 243 = .ok (.iload_n 1, 1) := by decide +kernel
theorem d_Mo_turn_244 : decode prog_14_method_10_code 244 = .ok (.iaload, 1) := by decide +kernel
theorem d_Mo_turn_245 : decode prog_14_method_10_code 245 = .ok (.iconst 1, 1) := by decide +kernel
theorem d_Mo_turn_246 : decode prog_14_method_10_code 246 = .ok (.if_icmp .ne 25, 3) := by decide +kernel
theorem d_Mo_turn_249 : decode prog_14_method_10_code 249 = .ok (.aload_n 0, 1) := by decide +kernel
theorem d_Mo_turn_250 : decode prog_14_method_10_code 250 = .ok (.aload_n 0, 1) := by decide +kernel
theorem d_Mo_turn_251 : decode prog_14_method_10_code 251 = .ok (.iconst 1, 1) := by decide +kernel
theorem d_Mo_turn_252 : decode prog_14_method_10_code 252 = .ok (.iconst 0, 1) := by decide +kernel
theorem d_Mo_turn_253 : decode prog_14_method_10_code 253 = .ok (.invokevirtual 135, 3) := by decide +kernel
theorem d_Mo_turn_256 : decode prog_14_method_10_code 256 = .ok (.ifCond .ne 7, 3) := by decide +kernel
theorem d_Mo_turn_259 : decode prog_14_method_10_code 259 = .ok (.iload_n 3, 1) := by decide +kernel
theorem d_Mo_turn_260 : decode prog_14_method_10_code 260 = .ok (.goto 5, 3) := by decide +kernel
theorem d_Mo_turn_263 : decode prog_14_method_10_code 263 = .ok (.iload 4, 2) := by decide +kernel
theorem d_Mo_turn_265 : decode prog_14_method_10_code 265 = .ok (.invokevirtual 127, 3) := by decide +kernel
theorem d_Mo_turn_268 : decode prog_14_method_10_code 268 = .ok (.goto 100, 3) := by decide +kernel
theorem d_Mo_turn_271 : decode prog_14_method_10_code 271 = .ok (.aload_n 0, 1) := by decide +kernel
theorem d_Mo_turn_272 : decode prog_14_method_10_code 272 = .ok (.dup, 1) := by decide +kernel
theorem d_Mo_turn_273 : decode prog_14_method_10_code 273 = .ok (.getfield 121, 3) := by decide +kernel
theorem d_Mo_turn_276 : decode prog_14_method_10_code 276 = .ok (.iconst 1, 1) := by decide +kernel
theorem d_Mo_turn_277 : decode prog_14_method_10_code 277 = .ok (.isub, 1) := by decide +kernel
theorem d_Mo_turn_278 : decode prog_14_method_10_code 278 = .ok (.putfield 121, 3) := by decide +kernel
theorem d_Mo_turn_281 : decode prog_14_method_10_code 281 = .ok (.goto 87, 3) := by decide +kernel
theorem d_Mo_turn_284 : decode prog_14_method_10_code 284 = .ok (.aload_n 0, 1) := by decide +kernel
theorem d_Mo_turn_285 : decode prog_14_method_10_code 285 = .ok (.iload_n 1, 1) := by decide +kernel
theorem d_Mo_turn_286 : decode prog_14_method_10_code 286 = .ok (.iload_n 3, 1) := by decide +kernel
theorem d_Mo_turn_287 : decode prog_14_method_10_code 287 = .ok (.iload 4, 2) := by decide +kernel
theorem d_Mo_turn_289 : decode prog_14_method_10_code 289 = .ok (.invokevirtual 139, 3) := by decide +kernel
theorem d_Mo_turn_292 : decode prog_14_method_10_code 292 = .ok (.goto 76, 3) := by decide +kernel
theorem d_Mo_turn_295 : decode prog_14_method_10_code 295 = .ok (.aload_n 0, 1) := by decide +kernel
theorem d_Mo_turn_296 : decode prog_14_method_10_code 296 = .ok (.getfield 52, 3) := by decide +kernel
theorem d_Mo_turn_299 : decode prog_14_method_10_code 299 = .ok (.iload_n 1, 1) := by decide +kernel
theorem d_Mo_turn_300 : decode prog_14_method_10_code 300 = .ok (.iaload, 1) := by decide +kernel
theorem d_Mo_turn_301 : decode prog_14_method_10_code 301 = .ok (.istore 5, 2) := by decide +kernel
theorem d_Mo_turn_303 : decode prog_14_method_10_code 303 = .ok (.iload 5, 2) := by decide +kernel
theorem d_Mo_turn_305 : decode prog_14_method_10_code 305 = .ok (.aload_n 0, 1) := by decide +kernel
theorem d_Mo_turn_306 : decode prog_14_method_10_code 306 = .ok (.getfield 124, 3) := by decide +kernel
theorem d_Mo_turn_309 : decode prog_14_method_10_code 309 = .ok (.if_icmp .ge 31, 3) := by decide +kernel
theorem d_Mo_turn_312 : decode prog_14_method_10_code 312 = .ok (.aload_n 0, 1) := by decide +kernel
theorem d_Mo_turn_313 : decode prog_14_method_10_code 313 = .ok (.getfield 46, 3) := by decide +kernel
theorem d_Mo_turn_316 : decode prog_14_method_10_code 316 = .ok (.iload_n 1, 1) := by decide +kernel
theorem d_Mo_turn_317 : decode prog_14_method_10_code 317 = .ok (.iaload, 1) := by decide +kernel
theorem d_Mo_turn_318 : decode prog_14_method_10_code 318 = .ok (.iconst 2, 1) := by decide +kernel
theorem d_Mo_turn_319 : decode prog_14_method_10_code 319 = .ok (.if_icmp .ne 21, 3) := by decide +kernel
theorem d_Mo_turn_322 : decode prog_14_method_10_code 322 = .ok (.aload_n 0, 1) := by decide +kernel
theorem d_Mo_turn_323 : decode prog_14_method_10_code 323 = .ok (.getfield 40, 3) := by decide +kernel
theorem d_Mo_turn_326 : decode prog_14_method_10_code 326 = .ok (.iload 5, 2) := by decide +kernel
theorem d_Mo_turn_328 : decode prog_14_method_10_code 328 = .ok (.dup2, 1) := by decide +kernel
theorem d_Mo_turn_329 : decode prog_14_method_10_code 329 = .ok (.iaload, 1) := by decide +kernel
theorem d_Mo_turn_330 : decode prog_14_method_10_code 330 = .ok (.iload 4, 2) := by decide +kernel
theorem d_Mo_turn_332 : decode prog_14_method_10_code 332 = .ok (.iadd, 1) := by decide +kernel
theorem d_Mo_turn_333 : decode prog_14_method_10_code 333 = .ok (.iastore, 1) := by decide +kernel
theorem d_Mo_turn_334 : decode prog_14_method_10_code 334 = .ok (.iinc 5 1, 3) := by decide +kernel
theorem d_Mo_turn_337 : decode prog_14_method_10_code 337 = .ok (.goto (-34), 3) := by decide +kernel
theorem d_Mo_turn_340 : decode prog_14_method_10_code 340 = .ok (.aload_n 0, 1) := by decide +kernel
theorem d_Mo_turn_341 : decode prog_14_method_10_code 341 = .ok (.getfield 46, 3) := by decide +kernel
theorem d_Mo_turn_344 : decode prog_14_method_10_code 344 = .ok (.iload_n 1, 1) := by decide +kernel
theorem d_Mo_turn_345 : decode prog_14_method_10_code 345 = .ok (.iaload, 1) := by decide +kernel
theorem d_Mo_turn_346 : decode prog_14_method_10_code 346 = .ok (.iconst 1, 1) := by decide +kernel
theorem d_Mo_turn_347 : decode prog_14_method_10_code 347 = .ok (.if_icmp .ne 11, 3) := by decide +kernel
theorem d_Mo_turn_350 : decode prog_14_method_10_code 350 = .ok (.aload_n 0, 1) := by decide +kernel
theorem d_Mo_turn_351 : decode prog_14_method_10_code 351 = .ok (.iload_n 3, 1) := by decide +kernel
theorem d_Mo_turn_352 : decode prog_14_method_10_code 352 = .ok (.invokevirtual 127, 3) := by decide +kernel
theorem d_Mo_turn_355 : decode prog_14_method_10_code 355 = .ok (.goto 13, 3) := by decide +kernel
theorem d_Mo_turn_358 : decode prog_14_method_10_code 358 = .ok (.aload_n 0, 1) := by decide +kernel
theorem d_Mo_turn_359 : decode prog_14_method_10_code 359 = .ok (.dup, 1) := by decide +kernel
theorem d_Mo_turn_360 : decode prog_14_method_10_code 360 = .ok (.getfield 121, 3) := by decide +kernel
theorem d_Mo_turn_363 : decode prog_14_method_10_code 363 = .ok (.iconst 1, 1) := by decide +kernel
theorem d_Mo_turn_364 : decode prog_14_method_10_code 364 = .ok (.isub, 1) := by decide +kernel
theorem d_Mo_turn_365 : decode prog_14_method_10_code 365 = .ok (.putfield 121, 3) := by decide +kernel
theorem d_Mo_turn_368 : decode prog_14_method_10_code 368 = .ok (.return_, 1) := by decide +kernel
theorem d_Mo_draw_0 : decode prog_14_method_7_code 0 = .ok (.aload_n 0, 1) := by decide +kernel
theorem d_Mo_draw_1 : decode prog_14_method_7_code 1 = .ok (.getfield 97, 3) := by decide +kernel
theorem d_Mo_draw_4 : decode prog_14_method_7_code 4 = .ok (.iconst 1, 1) := by decide +kernel
theorem d_Mo_draw_5 : decode prog_14_method_7_code 5 = .ok (.if_icmp .ne 19, 3) := by decide +kernel
theorem d_Mo_draw_8 : decode prog_14_method_7_code 8 = .ok (.aload_n 0, 1) := by decide +kernel
theorem d_Mo_draw_9 : decode prog_14_method_7_code 9 = .ok (.aload_n 0, 1) := by decide +kernel
theorem d_Mo_draw_10 : decode prog_14_method_7_code 10 = .ok (.getfield 100, 3) := by decide +kernel
theorem d_Mo_draw_13 : decode prog_14_method_7_code 13 = .ok (.ldc2_w 104, 3) := by decide +kernel
theorem d_Mo_draw_16 : decode prog_14_method_7_code 16 = .ok (.lmul, 1) := by decide +kernel
theorem d_Mo_draw_17 : decode prog_14_method_7_code 17 = .ok (.ldc2_w 106, 3) := by decide +kernel
theorem d_Mo_draw_20 : decode prog_14_method_7_code 20 = .ok (.ladd, 1) := by decide +kernel
theorem d_Mo_draw_21 : decode prog_14_method_7_code 21 = .ok (.putfield 100, 3) := by decide +kernel
theorem d_Mo_draw_24 : decode prog_14_method_7_code 24 = .ok (.aload_n 0, 1) := by decide +kernel
theorem d_Mo_draw_25 : decode prog_14_method_7_code 25 = .ok (.getfield 108, 3) := by decide +kernel
theorem d_Mo_draw_28 : decode prog_14_method_7_code 28 = .ok (.bipush 60, 2) := by decide +kernel
theorem d_Mo_draw_30 : decode prog_14_method_7_code 30 = .ok (.if_icmp .eq 21, 3) := by decide +kernel
theorem d_Mo_draw_33 : decode prog_14_method_7_code 33 = .ok (.aload_n 0, 1) := by decide +kernel
theorem d_Mo_draw_34 : decode prog_14_method_7_code 34 = .ok (.getfield 97, 3) := by decide +kernel
theorem d_Mo_draw_37 : decode prog_14_method_7_code 37 = .ok (.ifCond .ne 21, 3) := by decide +kernel
theorem d_Mo_draw_40 : decode prog_14_method_7_code 40 = .ok (.aload_n 0, 1) := by decide +kernel
theorem d_Mo_draw_41 : decode prog_14_method_7_code 41 = .ok (.getfield 108, 3) := by decide +kernel
theorem d_Mo_draw_44 : decode prog_14_method_7_code 44 = .ok (.aload_n 0, 1) := by decide +kernel
theorem d_Mo_draw_45 : decode prog_14_method_7_code 45 = .ok (.getfield 111, 3) := by decide +kernel
theorem d_Mo_draw_48 : decode prog_14_method_7_code 48 = .ok (.if_icmp .ne 10, 3) := by decide +kernel
theorem d_Mo_draw_51 : decode prog_14_method_7_code 51 = .ok (.aload_n 0, 1) := by decide +kernel
theorem d_Mo_draw_52 : decode prog_14_method_7_code 52 = .ok (.iconst 1, 1) := by decide +kernel
theorem d_Mo_draw_53 : decode prog_14_method_7_code 53 = .ok (.putfield 114, 3) := by decide +kernel
theorem d_Mo_draw_56 : decode prog_14_method_7_code 56 = .ok (.iconst 0, 1) := by decide +kernel
theorem d_Mo_draw_57 : decode prog_14_method_7_code 57 = .ok (.ireturn, 1) := by decide +kernel
theorem d_Mo_draw_58 : decode prog_14_method_7_code 58 = .ok (.iconst 0, 1) := by decide +kernel
theorem d_Mo_draw_59 : decode prog_14_method_7_code 59 = .ok (.istore_n 3, 1) := by decide +kernel
theorem d_Mo_draw_60 : decode prog_14_method_7_code 60 = .ok (.aload_n 0, 1) := by decide +kernel
theorem d_Mo_draw_61 : decode prog_14_method_7_code 61 = .ok (.getfield 97, 3) := by decide +kernel
theorem d_Mo_draw_64 : decode prog_14_method_7_code 64 = .ok (.ifCond .ne 13, 3) := by decide +kernel
theorem d_Mo_draw_67 : decode prog_14_method_7_code 67 = .ok (.aload_n 0, 1) := by decide +kernel
theorem d_Mo_draw_68 : decode prog_14_method_7_code 68 = .ok (.getfield 31, 3) := by decide +kernel
theorem d_Mo_draw_71 : decode prog_14_method_7_code 71 = .ok (.aload_n 0, 1) := by decide +kernel
theorem d_Mo_draw_72 : decode prog_14_method_7_code 72 = .ok (.getfield 108, 3) := by decide +kernel
theorem d_Mo_draw_75 : decode prog_14_method_7_code 75 = .ok (.iaload, 1) := by decide +kernel
theorem d_Mo_draw_76 : decode prog_14_method_7_code 76 = .ok (.istore_n 3, 1) := by decide +kernel
theorem d_Mo_draw_77 : decode prog_14_method_7_code 77 = .ok (.aload_n 0, 1) := by decide +kernel
theorem d_Mo_draw_78 : decode prog_14_method_7_code 78 = .ok (.getfield 97, 3) := by decide +kernel
theorem d_Mo_draw_81 : decode prog_14_method_7_code 81 = .ok (.iconst 1, 1) := by decide +kernel
theorem d_Mo_draw_82 : decode prog_14_method_7_code 82 = .ok (.if_icmp .ne 40, 3) := by decide +kernel
theorem d_Mo_draw_85 : decode prog_14_method_7_code 85 = .ok (.aload_n 0, 1) := by decide +kernel
theorem d_Mo_draw_86 : decode prog_14_method_7_code 86 = .ok (.getfield 100, 3) := by decide +kernel
theorem d_Mo_draw_89 : decode prog_14_method_7_code 89 = .ok (.bipush 33, 2) := by decide +kernel
theorem d_Mo_draw_91 : decode prog_14_method_7_code 91 = .ok (.lushr, 1) := by decide +kernel
theorem d_Mo_draw_92 : decode prog_14_method_7_code 92 = .ok (.iload_n 2, 1) := by decide +kernel
theorem d_Mo_draw_93 : decode prog_14_method_7_code 93 = .ok (.ifCond .eq 22, 3) := by decide +kernel
theorem d_Mo_draw_96 : decode prog_14_method_7_code 96 = .ok (.iload_n 1, 1) := by decide +kernel
theorem d_Mo_draw_97 : decode prog_14_method_7_code 97 = .ok (.aload_n 0, 1) := by decide +kernel
theorem d_Mo_draw_98 : decode prog_14_method_7_code 98 = .ok (.getfield 118, 3) := by decide +kernel
theorem d_Mo_draw_101 : decode prog_14_method_7_code 101 = .ok (.iconst 1, 1) := by decide +kernel
theorem d_Mo_draw_102 : decode prog_14_method_7_code 102 = .ok (.iadd, 1) := by decide +kernel
theorem d_Mo_draw_103 : decode prog_14_method_7_code 103 = .ok (.if_icmp .le 12, 3) := by decide +kernel
theorem d_Mo_draw_106 : decode prog_14_method_7_code 106 = .ok (.aload_n 0, 1) := by decide +kernel
theorem d_Mo_draw_107 : decode prog_14_method_7_code 107 = .ok (.getfield 118, 3) := by decide +kernel
theorem d_Mo_draw_110 : decode prog_14_method_7_code 110 = .ok (.iconst 2, 1) := by decide +kernel
theorem d_Mo_draw_111 : decode prog_14_method_7_code 111 = .ok (.iadd, 1) := by decide +kernel
theorem d_Mo_draw_112 : decode prog_14_method_7_code 112 = .ok (.goto 6, 3) := by decide +kernel
theorem d_Mo_draw_115 : decode prog_14_method_7_code 115 = .ok (.iload_n 1, 1) := by decide +kernel
theorem d_Mo_draw_116 : decode prog_14_method_7_code 116 = .ok (.iconst 1, 1) := by decide +kernel
theorem d_Mo_draw_117 : decode prog_14_method_7_code 117 = .ok (.iadd, 1) := by decide +kernel
theorem d_Mo_draw_118 : decode prog_14_method_7_code 118 = .ok (.i2l, 1) := by decide +kernel
theorem d_Mo_draw_119 : decode prog_14_method_7_code 119 = .ok (.lrem, 1) := by decide +kernel
theorem d_Mo_draw_120 : decode prog_14_method_7_code 120 = .ok (.l2i, 1) := by decide +kernel
theorem d_Mo_draw_121 : decode prog_14_method_7_code 121 = .ok (.istore_n 3, 1) := by decide +kernel
theorem d_Mo_draw_122 : decode prog_14_method_7_code 122 = .ok (.aload_n 0, 1) := by decide +kernel
theorem d_Mo_draw_123 : decode prog_14_method_7_code 123 = .ok (.getfield 97, 3) := by decide +kernel
theorem d_Mo_draw_126 : decode prog_14_method_7_code 126 = .ok (.iconst 2, 1) := by decide +kernel
theorem d_Mo_draw_127 : decode prog_14_method_7_code 127 = .ok (.if_icmp .ne 24, 3) := by decide +kernel
theorem d_Mo_draw_130 : decode prog_14_method_7_code 130 = .ok (.aload_n 0, 1) := by decide +kernel
theorem d_Mo_draw_131 : decode prog_14_method_7_code 131 = .ok (.getfield 108, 3) := by decide +kernel
theorem d_Mo_draw_134 : decode prog_14_method_7_code 134 = .ok (.aload_n 0, 1) := by decide +kernel
theorem d_Mo_draw_135 : decode prog_14_method_7_code 135 = .ok (.getfield 111, 3) := by decide +kernel
theorem d_Mo_draw_138 : decode prog_14_method_7_code 138 = .ok (.if_icmp .ge 13, 3) := by decide +kernel
theorem d_Mo_draw_141 : decode prog_14_method_7_code 141 = .ok (.aload_n 0, 1) := by decide +kernel
theorem d_Mo_draw_142 : decode prog_14_method_7_code 142 = .ok (.getfield 31, 3) := by decide +kernel
theorem d_Mo_draw_145 : decode prog_14_method_7_code 145 = .ok (.aload_n 0, 1) := by decide +kernel
theorem d_Mo_draw_146 : decode prog_14_method_7_code 146 = .ok (.getfield 108, 3) := by decide +kernel
theorem d_Mo_draw_149 : decode prog_14_method_7_code 149 = .ok (.iaload, 1) := by decide +kernel
theorem d_Mo_draw_150 : decode prog_14_method_7_code 150 = .ok (.istore_n 3, 1) := by decide +kernel
theorem d_Mo_draw_151 : decode prog_14_method_7_code 151 = .ok (.iload_n 3, 1) := by decide +kernel
theorem d_Mo_draw_152 : decode prog_14_method_7_code 152 = .ok (.iload_n 1, 1) := by decide +kernel
theorem d_Mo_draw_153 : decode prog_14_method_7_code 153 = .ok (.if_icmp .le 10, 3) := by decide +kernel
theorem d_Mo_draw_156 : decode prog_14_method_7_code 156 = .ok (.aload_n 0, 1) := by decide +kernel
theorem d_Mo_draw_157 : decode prog_14_method_7_code 157 = .ok (.iconst 1, 1) := by decide +kernel
theorem d_Mo_draw_158 : decode prog_14_method_7_code 158 = .ok (.putfield 114, 3) := by decide +kernel
theorem d_Mo_draw_161 : decode prog_14_method_7_code 161 = .ok (.iconst 0, 1) := by decide +kernel
theorem d_Mo_draw_162 : decode prog_14_method_7_code 162 = .ok (.ireturn, 1) := by decide +kernel
theorem d_Mo_draw_163 : decode prog_14_method_7_code 163 = .ok (.aload_n 0, 1) := by decide +kernel
theorem d_Mo_draw_164 : decode prog_14_method_7_code 164 = .ok (.getfield 34, 3) := by decide +kernel
theorem d_Mo_draw_167 : decode prog_14_method_7_code 167 = .ok (.aload_n 0, 1) := by decide +kernel
theorem d_Mo_draw_168 : decode prog_14_method_7_code 168 = .ok (.getfield 108, 3) := by decide +kernel
theorem d_Mo_draw_171 : decode prog_14_method_7_code 171 = .ok (.iload_n 3, 1) := by decide +kernel
theorem d_Mo_draw_172 : decode prog_14_method_7_code 172 = .ok (.iastore, 1) := by decide +kernel
theorem d_Mo_draw_173 : decode prog_14_method_7_code 173 = .ok (.aload_n 0, 1) := by decide +kernel
theorem d_Mo_draw_174 : decode prog_14_method_7_code 174 = .ok (.getfield 37, 3) := by decide +kernel
theorem d_Mo_draw_177 : decode prog_14_method_7_code 177 = .ok (.aload_n 0, 1) := by decide +kernel
theorem d_Mo_draw_178 : decode prog_14_method_7_code 178 = .ok (.getfield 108, 3) := by decide +kernel
theorem d_Mo_draw_181 : decode prog_14_method_7_code 181 = .ok (.iload_n 1, 1) := by decide +kernel
theorem d_Mo_draw_182 : decode prog_14_method_7_code 182 = .ok (.iastore, 1) := by decide +kernel
theorem d_Mo_draw_183 : decode prog_14_method_7_code 183 = .ok (.aload_n 0, 1) := by decide +kernel
theorem d_Mo_draw_184 : decode prog_14_method_7_code 184 = .ok (.dup, 1) := by decide +kernel
theorem d_Mo_draw_185 : decode prog_14_method_7_code 185 = .ok (.getfield 108, 3) := by decide +kernel
theorem d_Mo_draw_188 : decode prog_14_method_7_code 188 = .ok (.iconst 1, 1) := by decide +kernel
theorem d_Mo_draw_189 : decode prog_14_method_7_code 189 = .ok (.iadd, 1) := by decide +kernel
theorem d_Mo_draw_190 : decode prog_14_method_7_code 190 = .ok (.putfield 108, 3) := by decide +kernel
theorem d_Mo_draw_193 : decode prog_14_method_7_code 193 = .ok (.iload_n 3, 1) := by decide +kernel
theorem d_Mo_draw_194 : decode prog_14_method_7_code 194 = .ok (.ireturn, 1) := by decide +kernel
theorem d_Mo_keep_0 : decode prog_14_method_11_code 0 = .ok (.iconst 0, 1) := by decide +kernel
theorem d_Mo_keep_1 : decode prog_14_method_11_code 1 = .ok (.istore 4, 2) := by decide +kernel
theorem d_Mo_keep_3 : decode prog_14_method_11_code 3 = .ok (.aload_n 0, 1) := by decide +kernel
theorem d_Mo_keep_4 : decode prog_14_method_11_code 4 = .ok (.getfield 52, 3) := by decide +kernel
theorem d_Mo_keep_7 : decode prog_14_method_11_code 7 = .ok (.iload_n 1, 1) := by decide +kernel
theorem d_Mo_keep_8 : decode prog_14_method_11_code 8 = .ok (.iaload, 1) := by decide +kernel
theorem d_Mo_keep_9 : decode prog_14_method_11_code 9 = .ok (.istore 5, 2) := by decide +kernel
theorem d_Mo_keep_11 : decode prog_14_method_11_code 11 = .ok (.iload 5, 2) := by decide +kernel
theorem d_Mo_keep_13 : decode prog_14_method_11_code 13 = .ok (.aload_n 0, 1) := by decide +kernel
theorem d_Mo_keep_14 : decode prog_14_method_11_code 14 = .ok (.getfield 124, 3) := by decide +kernel
theorem d_Mo_keep_17 : decode prog_14_method_11_code 17 = .ok (.if_icmp .ge 21, 3) := by decide +kernel
theorem d_Mo_keep_20 : decode prog_14_method_11_code 20 = .ok (.iload 4, 2) := by decide +kernel
theorem d_Mo_keep_22 : decode prog_14_method_11_code 22 = .ok (.aload_n 0, 1) := by decide +kernel
theorem d_Mo_keep_23 : decode prog_14_method_11_code 23 = .ok (.getfield 40, 3) := by decide +kernel
theorem d_Mo_keep_26 : decode prog_14_method_11_code 26 = .ok (.iload 5, 2) := by decide +kernel
theorem d_Mo_keep_28 : decode prog_14_method_11_code 28 = .ok (.iaload, 1) := by decide +kernel
theorem d_Mo_keep_29 : decode prog_14_method_11_code 29 = .ok (.iadd, 1) := by decide +kernel
theorem d_Mo_keep_30 : decode prog_14_method_11_code 30 = .ok (.istore 4, 2) := by decide +kernel
theorem d_Mo_keep_32 : decode prog_14_method_11_code 32 = .ok (.iinc 5 1, 3) := by decide +kernel
theorem d_Mo_keep_35 : decode prog_14_method_11_code 35 = .ok (.goto (-24), 3) := by decide +kernel
theorem d_Mo_keep_38 : decode prog_14_method_11_code 38 = .ok (.aload_n 0, 1) := by decide +kernel
theorem d_Mo_keep_39 : decode prog_14_method_11_code 39 = .ok (.getfield 46, 3) := by decide +kernel
theorem d_Mo_keep_42 : decode prog_14_method_11_code 42 = .ok (.iload_n 1, 1) := by decide +kernel
theorem d_Mo_keep_43 : decode prog_14_method_11_code 43 = .ok (.iaload, 1) := by decide +kernel
theorem d_Mo_keep_44 : decode prog_14_method_11_code 44 = .ok (.iconst 1, 1) := by decide +kernel
theorem d_Mo_keep_45 : decode prog_14_method_11_code 45 = .ok (.if_icmp .le 22, 3) := by decide +kernel
theorem d_Mo_keep_48 : decode prog_14_method_11_code 48 = .ok (.iload 4, 2) := by decide +kernel
theorem d_Mo_keep_50 : decode prog_14_method_11_code 50 = .ok (.iconst 1, 1) := by decide +kernel
theorem d_Mo_keep_51 : decode prog_14_method_11_code 51 = .ok (.iand, 1) := by decide +kernel
theorem d_Mo_keep_52 : decode prog_14_method_11_code 52 = .ok (.iload_n 3, 1) := by decide +kernel
theorem d_Mo_keep_53 : decode prog_14_method_11_code 53 = .ok (.if_icmp .ne 14, 3) := by decide +kernel
theorem d_Mo_keep_56 : decode prog_14_method_11_code 56 = .ok (.aload_n 0, 1) := by decide +kernel
theorem d_Mo_keep_57 : decode prog_14_method_11_code 57 = .ok (.dup, 1) := by decide +kernel
theorem d_Mo_keep_58 : decode prog_14_method_11_code 58 = .ok (.getfield 121, 3) := by decide +kernel
theorem d_Mo_keep_61 : decode prog_14_method_11_code 61 = .ok (.iconst 1, 1) := by decide +kernel
theorem d_Mo_keep_62 : decode prog_14_method_11_code 62 = .ok (.isub, 1) := by decide +kernel
theorem d_Mo_keep_63 : decode prog_14_method_11_code 63 = .ok (.putfield 121, 3) := by decide +kernel
theorem d_Mo_keep_66 : decode prog_14_method_11_code 66 = .ok (.return_, 1) := by decide +kernel
theorem d_Mo_keep_67 : decode prog_14_method_11_code 67 = .ok (.aload_n 0, 1) := by decide +kernel
theorem d_Mo_keep_68 : decode prog_14_method_11_code 68 = .ok (.aload_n 0, 1) := by decide +kernel
theorem d_Mo_keep_69 : decode prog_14_method_11_code 69 = .ok (.getfield 52, 3) := by decide +kernel
theorem d_Mo_keep_72 : decode prog_14_method_11_code 72 = .ok (.iload_n 1, 1) := by decide +kernel
theorem d_Mo_keep_73 : decode prog_14_method_11_code 73 = .ok (.iaload, 1) := by decide +kernel
theorem d_Mo_keep_74 : decode prog_14_method_11_code 74 = .ok (.putfield 124, 3) := by decide +kernel
theorem d_Mo_keep_77 : decode prog_14_method_11_code 77 = .ok (.aload_n 0, 1) := by decide +kernel
theorem d_Mo_keep_78 : decode prog_14_method_11_code 78 = .ok (.getfield 46, 3) := by decide +kernel
theorem d_Mo_keep_81 : decode prog_14_method_11_code 81 = .ok (.iload_n 1, 1) := by decide +kernel
theorem d_Mo_keep_82 : decode prog_14_method_11_code 82 = .ok (.iaload, 1) := by decide +kernel
theorem d_Mo_keep_83 : decode prog_14_method_11_code 83 = .ok (.iconst 4, 1) := by decide +kernel
theorem d_Mo_keep_84 : decode prog_14_method_11_code 84 = .ok (.if_icmp .ne 11, 3) := by decide +kernel
theorem d_Mo_keep_87 : decode prog_14_method_11_code 87 = .ok (.aload_n 0, 1) := by decide +kernel
theorem d_Mo_keep_88 : decode prog_14_method_11_code 88 = .ok (.iconst 1, 1) := by decide +kernel
theorem d_Mo_keep_89 : decode prog_14_method_11_code 89 = .ok (.putfield 114, 3) := by decide +kernel
theorem d_Mo_keep_92 : decode prog_14_method_11_code 92 = .ok (.goto 8, 3) := by decide +kernel
theorem d_Mo_keep_95 : decode prog_14_method_11_code 95 = .ok (.aload_n 0, 1) := by decide +kernel
theorem d_Mo_keep_96 : decode prog_14_method_11_code 96 = .ok (.iload_n 2, 1) := by decide +kernel
theorem d_Mo_keep_97 : decode prog_14_method_11_code 97 = .ok (.invokevirtual 127, 3) := by decide +kernel
theorem d_Mo_keep_100 : decode prog_14_method_11_code 100 = .ok (.return_, 1) := by decide +kernel
theorem d_Mo_does_0 : decode prog_14_method_12_code 0 = .ok (.aload_n 0, 1) := by decide +kernel
theorem d_Mo_does_1 : decode prog_14_method_12_code 1 = .ok (.getfield 114, 3) := by decide +kernel
theorem d_Mo_does_4 : decode prog_14_method_12_code 4 = .ok (.ifCond .eq 5, 3) := by decide +kernel
theorem d_Mo_does_7 : decode prog_14_method_12_code 7 = .ok (.iconst 4, 1) := by decide +kernel
theorem d_Mo_does_8 : decode prog_14_method_12_code 8 = .ok (.ireturn, 1) := by decide +kernel
theorem d_Mo_does_9 : decode prog_14_method_12_code 9 = .ok (.aload_n 0, 1) := by decide +kernel
theorem d_Mo_does_10 : decode prog_14_method_12_code 10 = .ok (.getfield 124, 3) := by decide +kernel
theorem d_Mo_does_13 : decode prog_14_method_12_code 13 = .ok (.aload_n 0, 1) := by decide +kernel
theorem d_Mo_does_14 : decode prog_14_method_12_code 14 = .ok (.getfield 28, 3) := by decide +kernel
theorem d_Mo_does_17 : decode prog_14_method_12_code 17 = .ok (.iload_n 1, 1) := by decide +kernel
theorem d_Mo_does_18 : decode prog_14_method_12_code 18 = .ok (.iaload, 1) := by decide +kernel
theorem d_Mo_does_19 : decode prog_14_method_12_code 19 = .ok (.if_icmp .ge 5, 3) := by decide +kernel
theorem d_Mo_does_22 : decode prog_14_method_12_code 22 = .ok (.iconst 3, 1) := by decide +kernel
theorem d_Mo_does_23 : decode prog_14_method_12_code 23 = .ok (.ireturn, 1) := by decide +kernel
theorem d_Mo_does_24 : decode prog_14_method_12_code 24 = .ok (.aload_n 0, 1) := by decide +kernel
theorem d_Mo_does_25 : decode prog_14_method_12_code 25 = .ok (.getfield 25, 3) := by decide +kernel
theorem d_Mo_does_28 : decode prog_14_method_12_code 28 = .ok (.iload_n 1, 1) := by decide +kernel
theorem d_Mo_does_29 : decode prog_14_method_12_code 29 = .ok (.iaload, 1) := by decide +kernel
theorem d_Mo_does_30 : decode prog_14_method_12_code 30 = .ok (.istore_n 2, 1) := by decide +kernel
theorem d_Mo_does_31 : decode prog_14_method_12_code 31 = .ok (.lconst 0, 1) := by decide +kernel
theorem d_Mo_does_32 : decode prog_14_method_12_code 32 = .ok (.lstore_n 3, 1) := by decide +kernel
theorem d_Mo_does_33 : decode prog_14_method_12_code 33 = .ok (.iconst 0, 1) := by decide +kernel
theorem d_Mo_does_34 : decode prog_14_method_12_code 34 = .ok (.istore 5, 2) := by decide +kernel
theorem d_Mo_does_36 : decode prog_14_method_12_code 36 = .ok (.iconst 0, 1) := by decide +kernel
theorem d_Mo_does_37 : decode prog_14_method_12_code 37 = .ok (.istore 6, 2) := by decide +kernel
theorem d_Mo_does_39 : decode prog_14_method_12_code 39 = .ok (.iconst 0, 1) := by decide +kernel
theorem d_Mo_does_40 : decode prog_14_method_12_code 40 = .ok (.istore 7, 2) := by decide +kernel
theorem d_Mo_does_42 : decode prog_14_method_12_code 42 = .ok (.iload 7, 2) := by decide +kernel
theorem d_Mo_does_44 : decode prog_14_method_12_code 44 = .ok (.aload_n 0, 1) := by decide +kernel
theorem d_Mo_does_45 : decode prog_14_method_12_code 45 = .ok (.getfield 124, 3) := by decide +kernel
theorem d_Mo_does_48 : decode prog_14_method_12_code 48 = .ok (.if_icmp .ge 79, 3) := by decide +kernel
theorem d_Mo_does_51 : decode prog_14_method_12_code 51 = .ok (.lload_n 3, 1) := by decide +kernel
theorem d_Mo_does_52 : decode prog_14_method_12_code 52 = .ok (.aload_n 0, 1) := by decide +kernel
theorem d_Mo_does_53 : decode prog_14_method_12_code 53 = .ok (.getfield 40, 3) := by decide +kernel
theorem d_Mo_does_56 : decode prog_14_method_12_code 56 = .ok (.iload 7, 2) := by decide +kernel
theorem d_Mo_does_58 : decode prog_14_method_12_code 58 = .ok (.iaload, 1) := by decide +kernel
theorem d_Mo_does_59 : decode prog_14_method_12_code 59 = .ok (.i2l, 1) := by decide +kernel
theorem d_Mo_does_60 : decode prog_14_method_12_code 60 = .ok (.ladd, 1) := by decide +kernel
theorem d_Mo_does_61 : decode prog_14_method_12_code 61 = .ok (.lstore_n 3, 1) := by decide +kernel
theorem d_Mo_does_62 : decode prog_14_method_12_code 62 = .ok (.iload 5, 2) := by decide +kernel
theorem d_Mo_does_64 : decode prog_14_method_12_code 64 = .ok (.ifCond .ne 14, 3) := by decide +kernel
theorem d_Mo_does_67 : decode prog_14_method_12_code 67 = .ok (.aload_n 0, 1) := by decide +kernel
theorem d_Mo_does_68 : decode prog_14_method_12_code 68 = .ok (.getfield 40, 3) := by decide +kernel
theorem d_Mo_does_71 : decode prog_14_method_12_code 71 = .ok (.iload 7, 2) := by decide +kernel
theorem d_Mo_does_73 : decode prog_14_method_12_code 73 = .ok (.iaload, 1) := by decide +kernel
theorem d_Mo_does_74 : decode prog_14_method_12_code 74 = .ok (.iload_n 2, 1) := by decide +kernel
theorem d_Mo_does_75 : decode prog_14_method_12_code 75 = .ok (.if_icmp .ne 7, 3) := by decide +kernel
theorem d_Mo_does_78 : decode prog_14_method_12_code 78 = .ok (.iconst 1, 1) := by decide +kernel
theorem d_Mo_does_79 : decode prog_14_method_12_code 79 = .ok (.goto 4, 3) := by decide +kernel
theorem d_Mo_does_82 : decode prog_14_method_12_code 82 = .ok (.iconst 0, 1) := by decide +kernel
theorem d_Mo_does_83 : decode prog_14_method_12_code 83 = .ok (.istore 5, 2) := by decide +kernel
theorem d_Mo_does_85 : decode prog_14_method_12_code 85 = .ok (.iload 6, 2) := by decide +kernel
theorem d_Mo_does_87 : decode prog_14_method_12_code 87 = .ok (.ifCond .ne 27, 3) := by decide +kernel
theorem d_Mo_does_90 : decode prog_14_method_12_code 90 = .ok (.iload 7, 2) := by decide +kernel
theorem d_Mo_does_92 : decode prog_14_method_12_code 92 = .ok (.ifCond .le 26, 3) := by decide +kernel
theorem d_Mo_does_95 : decode prog_14_method_12_code 95 = .ok (.aload_n 0, 1) := by decide +kernel
theorem d_Mo_does_96 : decode prog_14_method_12_code 96 = .ok (.getfield 40, 3) := by decide +kernel
theorem d_Mo_does_99 : decode prog_14_method_12_code 99 = .ok (.iload 7, 2) := by decide +kernel
theorem d_Mo_does_101 : decode prog_14_method_12_code 101 = .ok (.iaload, 1) := by decide +kernel
theorem d_Mo_does_102 : decode prog_14_method_12_code 102 = .ok (.aload_n 0, 1) := by decide +kernel
theorem d_Mo_does_103 : decode prog_14_method_12_code 103 = .ok (.getfield 40, 3) := by decide +kernel
theorem d_Mo_does_106 : decode prog_14_method_12_code 106 = .ok (.iload 7, 2) := by decide +kernel
theorem d_Mo_does_108 : decode prog_14_method_12_code 108 = .ok (.iconst 1, 1) := by decide +kernel
theorem d_Mo_does_109 : decode prog_14_method_12_code 109 = .ok (.isub, 1) := by decide +kernel
theorem d_Mo_does_110 : decode prog_14_method_12_code 110 = .ok (.iaload, 1) := by decide +kernel
theorem d_Mo_does_111 : decode prog_14_method_12_code 111 = .ok (.if_icmp .ge 7, 3) := by decide +kernel
theorem d_Mo_does_114 : decode prog_14_method_12_code 114 = .ok (.iconst 1, 1) := by decide +kernel
theorem d_Mo_does_115 : decode prog_14_method_12_code 115 = .ok (.goto 4, 3) := by decide +kernel
theorem d_Mo_does_118 : decode prog_14_method_12_code 118 = .ok (.iconst 0, 1) := by decide +kernel
theorem d_Mo_does_119 : decode prog_14_method_12_code 119 = .ok (.istore 6, 2) := by decide +kernel
theorem d_Mo_does_121 : decode prog_14_method_12_code 121 = .ok (.iinc 7 1, 3) := by decide +kernel
theorem d_Mo_does_124 : decode prog_14_method_12_code 124 = .ok (.goto (-82), 3) := by decide +kernel
theorem d_Mo_does_127 : decode prog_14_method_12_code 127 = .ok (.aload_n 0, 1) := by decide +kernel
theorem d_Mo_does_128 : decode prog_14_method_12_code 128 = .ok (.getfield 22, 3) := by decide +kernel
theorem d_Mo_does_131 : decode prog_14_method_12_code 131 = .ok (.iload_n 1, 1) := by decide +kernel
theorem d_Mo_does_132 : decode prog_14_method_12_code 132 = .ok (.iaload, 1) := by decide +kernel
theorem d_Mo_does_133 : decode prog_14_method_12_code 133 = .ok (.tableswitch 80 0 3 #[31, 44, 55, 66], 31) := by decide +kernel
theorem d_Mo_does_164 : decode prog_14_method_12_code 164 = .ok (.lload_n 3, 1) := by decide +kernel
theorem d_Mo_does_165 : decode prog_14_method_12_code 165 = .ok (.iload_n 2, 1) := by decide +kernel
theorem d_Mo_does_166 : decode prog_14_method_12_code 166 = .ok (.i2l, 1) := by decide +kernel
theorem d_Mo_does_167 : decode prog_14_method_12_code 167 = .ok (.lcmp, 1) := by decide +kernel
theorem d_Mo_does_168 : decode prog_14_method_12_code 168 = .ok (.ifCond .le 7, 3) := by decide +kernel
theorem d_Mo_does_171 : decode prog_14_method_12_code 171 = .ok (.iconst 1, 1) := by decide +kernel
theorem d_Mo_does_172 : decode prog_14_method_12_code 172 = .ok (.goto 4, 3) := by decide +kernel
theorem d_Mo_does_175 : decode prog_14_method_12_code 175 = .ok (.iconst 0, 1) := by decide +kernel
theorem d_Mo_does_176 : decode prog_14_method_12_code 176 = .ok (.ireturn, 1) := by decide +kernel
theorem d_Mo_does_177 : decode prog_14_method_12_code 177 = .ok (.iload 5, 2) := by decide +kernel
theorem d_Mo_does_179 : decode prog_14_method_12_code 179 = .ok (.ifCond .eq 7, 3) := by decide +kernel
theorem d_Mo_does_182 : decode prog_14_method_12_code 182 = .ok (.iconst 1, 1) := by decide +kernel
theorem d_Mo_does_183 : decode prog_14_method_12_code 183 = .ok (.goto 4, 3) := by decide +kernel
theorem d_Mo_does_186 : decode prog_14_method_12_code 186 = .ok (.iconst 0, 1) := by decide +kernel
theorem d_Mo_does_187 : decode prog_14_method_12_code 187 = .ok (.ireturn, 1) := by decide +kernel
theorem d_Mo_does_188 : decode prog_14_method_12_code 188 = .ok (.iload 6, 2) := by decide +kernel
theorem d_Mo_does_190 : decode prog_14_method_12_code 190 = .ok (.ifCond .eq 7, 3) := by decide +kernel
theorem d_Mo_does_193 : decode prog_14_method_12_code 193 = .ok (.iconst 1, 1) := by decide +kernel
theorem d_Mo_does_194 : decode prog_14_method_12_code 194 = .ok (.goto 4, 3) := by decide +kernel
theorem d_Mo_does_197 : decode prog_14_method_12_code 197 = .ok (.iconst 0, 1) := by decide +kernel
theorem d_Mo_does_198 : decode prog_14_method_12_code 198 = .ok (.ireturn, 1) := by decide +kernel
theorem d_Mo_does_199 : decode prog_14_method_12_code 199 = .ok (.aload_n 0, 1) := by decide +kernel
theorem d_Mo_does_200 : decode prog_14_method_12_code 200 = .ok (.getfield 124, 3) := by decide +kernel
theorem d_Mo_does_203 : decode prog_14_method_12_code 203 = .ok (.iload_n 2, 1) := by decide +kernel
theorem d_Mo_does_204 : decode prog_14_method_12_code 204 = .ok (.if_icmp .lt 7, 3) := by decide +kernel
theorem d_Mo_does_207 : decode prog_14_method_12_code 207 = .ok (.iconst 1, 1) := by decide +kernel
theorem d_Mo_does_208 : decode prog_14_method_12_code 208 = .ok (.goto 4, 3) := by decide +kernel
theorem d_Mo_does_211 : decode prog_14_method_12_code 211 = .ok (.iconst 0, 1) := by decide +kernel
theorem d_Mo_does_212 : decode prog_14_method_12_code 212 = .ok (.ireturn, 1) := by decide +kernel
theorem d_Mo_does_213 : decode prog_14_method_12_code 213 = .ok (.iload 5, 2) := by decide +kernel
theorem d_Mo_does_215 : decode prog_14_method_12_code 215 = .ok (.ifCond .eq 7, 3) := by decide +kernel
theorem d_Mo_does_218 : decode prog_14_method_12_code 218 = .ok (.iconst 2, 1) := by decide +kernel
theorem d_Mo_does_219 : decode prog_14_method_12_code 219 = .ok (.goto 4, 3) := by decide +kernel
theorem d_Mo_does_222 : decode prog_14_method_12_code 222 = .ok (.iconst 0, 1) := by decide +kernel
theorem d_Mo_does_223 : decode prog_14_method_12_code 223 = .ok (.ireturn, 1) := by decide +kernel
theorem d_Mo_isBad_0 : decode prog_14_method_13_code 0 = .ok (.iload_n 0, 1) := by decide +kernel
theorem d_Mo_isBad_1 : decode prog_14_method_13_code 1 = .ok (.iconst 1, 1) := by decide +kernel
theorem d_Mo_isBad_2 : decode prog_14_method_13_code 2 = .ok (.if_icmp .eq 8, 3) := by decide +kernel
theorem d_Mo_isBad_5 : decode prog_14_method_13_code 5 = .ok (.iload_n 0, 1) := by decide +kernel
theorem d_Mo_isBad_6 : decode prog_14_method_13_code 6 = .ok (.iconst 2, 1) := by decide +kernel
theorem d_Mo_isBad_7 : decode prog_14_method_13_code 7 = .ok (.if_icmp .ne 7, 3) := by decide +kernel
theorem d_Mo_isBad_10 : decode prog_14_method_13_code 10 = .ok (.iconst 1, 1) := by decide +kernel
theorem d_Mo_isBad_11 : decode prog_14_method_13_code 11 = .ok (.goto 4, 3) := by decide +kernel
theorem d_Mo_isBad_14 : decode prog_14_method_13_code 14 = .ok (.iconst 0, 1) := by decide +kernel
theorem d_Mo_isBad_15 : decode prog_14_method_13_code 15 = .ok (.ireturn, 1) := by decide +kernel
theorem d_Mo_find_0 : decode prog_14_method_15_code 0 = .ok (.aload_n 0, 1) := by decide +kernel
theorem d_Mo_find_1 : decode prog_14_method_15_code 1 = .ok (.aload_n 0, 1) := by decide +kernel
theorem d_Mo_find_2 : decode prog_14_method_15_code 2 = .ok (.getfield 108, 3) := by decide +kernel
theorem d_Mo_find_5 : decode prog_14_method_15_code 5 = .ok (.putfield 55, 3) := by decide +kernel
theorem d_Mo_find_8 : decode prog_14_method_15_code 8 = .ok (.aload_n 0, 1) := by decide +kernel
theorem d_Mo_find_9 : decode prog_14_method_15_code 9 = .ok (.iload_n 1, 1) := by decide +kernel
theorem d_Mo_find_10 : decode prog_14_method_15_code 10 = .ok (.putfield 146, 3) := by decide +kernel
theorem d_Mo_find_13 : decode prog_14_method_15_code 13 = .ok (.aload_n 0, 1) := by decide +kernel
theorem d_Mo_find_14 : decode prog_14_method_15_code 14 = .ok (.iload_n 2, 1) := by decide +kernel
theorem d_Mo_find_15 : decode prog_14_method_15_code 15 = .ok (.putfield 149, 3) := by decide +kernel
theorem d_Mo_find_18 : decode prog_14_method_15_code 18 = .ok (.aload_n 0, 1) := by decide +kernel
theorem d_Mo_find_19 : decode prog_14_method_15_code 19 = .ok (.iload_n 3, 1) := by decide +kernel
theorem d_Mo_find_20 : decode prog_14_method_15_code 20 = .ok (.putfield 152, 3) := by decide +kernel
theorem d_Mo_find_23 : decode prog_14_method_15_code 23 = .ok (.iconst 0, 1) := by decide +kernel
theorem d_Mo_find_24 : decode prog_14_method_15_code 24 = .ok (.istore 4, 2) := by decide +kernel
theorem d_Mo_find_26 : decode prog_14_method_15_code 26 = .ok (.iload 4, 2) := by decide +kernel
theorem d_Mo_find_28 : decode prog_14_method_15_code 28 = .ok (.aload_n 0, 1) := by decide +kernel
theorem d_Mo_find_29 : decode prog_14_method_15_code 29 = .ok (.getfield 108, 3) := by decide +kernel
theorem d_Mo_find_32 : decode prog_14_method_15_code 32 = .ok (.if_icmp .ge 23, 3) := by decide +kernel
theorem d_Mo_find_35 : decode prog_14_method_15_code 35 = .ok (.aload_n 0, 1) := by decide +kernel
theorem d_Mo_find_36 : decode prog_14_method_15_code 36 = .ok (.getfield 59, 3) := by decide +kernel
theorem d_Mo_find_39 : decode prog_14_method_15_code 39 = .ok (.iload 4, 2) := by decide +kernel
theorem d_Mo_find_41 : decode prog_14_method_15_code 41 = .ok (.aload_n 0, 1) := by decide +kernel
theorem d_Mo_find_42 : decode prog_14_method_15_code 42 = .ok (.getfield 34, 3) := by decide +kernel
theorem d_Mo_find_45 : decode prog_14_method_15_code 45 = .ok (.iload 4, 2) := by decide +kernel
theorem d_Mo_find_47 : decode prog_14_method_15_code 47 = .ok (.iaload, 1) := by decide +kernel
theorem d_Mo_find_48 : decode prog_14_method_15_code 48 = .ok (.iastore, 1) := by decide +kernel
theorem d_Mo_find_49 : decode prog_14_method_15_code 49 = .ok (.iinc 4 1, 3) := by decide +kernel
theorem d_Mo_find_52 : decode prog_14_method_15_code 52 = .ok (.goto (-26), 3) := by decide +kernel
theorem d_Mo_find_55 : decode prog_14_method_15_code 55 = .ok (.aload_n 0, 1) := by decide +kernel
theorem d_Mo_find_56 : decode prog_14_method_15_code 56 = .ok (.invokevirtual 155, 3) := by decide +kernel
theorem d_Mo_find_59 : decode prog_14_method_15_code 59 = .ok (.return_, 1) := by decide +kernel
theorem d_Mo_tell_0 : decode prog_14_method_14_code 0 = .ok (.aload_n 0, 1) := by decide +kernel
theorem d_Mo_tell_1 : decode prog_14_method_14_code 1 = .ok (.aload_n 0, 1) := by decide +kernel
theorem d_Mo_tell_2 : decode prog_14_method_14_code 2 = .ok (.getfield 114, 3) := by decide +kernel
theorem d_Mo_tell_5 : decode prog_14_method_14_code 5 = .ok (.ifCond .eq 7, 3) := by decide +kernel
theorem d_Mo_tell_8 : decode prog_14_method_14_code 8 = .ok (.iconst 0, 1) := by decide +kernel
theorem d_Mo_tell_9 : decode prog_14_method_14_code 9 = .ok (.goto 7, 3) := by decide +kernel
theorem d_Mo_tell_12 : decode prog_14_method_14_code 12 = .ok (.aload_n 0, 1) := by decide +kernel
theorem d_Mo_tell_13 : decode prog_14_method_14_code 13 = .ok (.getfield 124, 3) := by decide +kernel
theorem d_Mo_tell_16 : decode prog_14_method_14_code 16 = .ok (.putfield 143, 3) := by decide +kernel
theorem d_Mo_tell_19 : decode prog_14_method_14_code 19 = .ok (.iconst 0, 1) := by decide +kernel
theorem d_Mo_tell_20 : decode prog_14_method_14_code 20 = .ok (.istore_n 1, 1) := by decide +kernel
theorem d_Mo_tell_21 : decode prog_14_method_14_code 21 = .ok (.iload_n 1, 1) := by decide +kernel
theorem d_Mo_tell_22 : decode prog_14_method_14_code 22 = .ok (.aload_n 0, 1) := by decide +kernel
theorem d_Mo_tell_23 : decode prog_14_method_14_code 23 = .ok (.getfield 143, 3) := by decide +kernel
theorem d_Mo_tell_26 : decode prog_14_method_14_code 26 = .ok (.if_icmp .ge 21, 3) := by decide +kernel
theorem d_Mo_tell_29 : decode prog_14_method_14_code 29 = .ok (.aload_n 0, 1) := by decide +kernel
theorem d_Mo_tell_30 : decode prog_14_method_14_code 30 = .ok (.getfield 74, 3) := by decide +kernel
theorem d_Mo_tell_33 : decode prog_14_method_14_code 33 = .ok (.iload_n 1, 1) := by decide +kernel
theorem d_Mo_tell_34 : decode prog_14_method_14_code 34 = .ok (.aload_n 0, 1) := by decide +kernel
theorem d_Mo_tell_35 : decode prog_14_method_14_code 35 = .ok (.getfield 40, 3) := by decide +kernel
theorem d_Mo_tell_38 : decode prog_14_method_14_code 38 = .ok (.iload_n 1, 1) := by decide +kernel
theorem d_Mo_tell_39 : decode prog_14_method_14_code 39 = .ok (.iaload, 1) := by decide +kernel
theorem d_Mo_tell_40 : decode prog_14_method_14_code 40 = .ok (.iastore, 1) := by decide +kernel
theorem d_Mo_tell_41 : decode prog_14_method_14_code 41 = .ok (.iinc 1 1, 3) := by decide +kernel
theorem d_Mo_tell_44 : decode prog_14_method_14_code 44 = .ok (.goto (-23), 3) := by decide +kernel
theorem d_Mo_tell_47 : decode prog_14_method_14_code 47 = .ok (.return_, 1) := by decide +kernel
theorem d_Mo_keepRow_0 : decode prog_14_method_17_code 0 = .ok (.aload_n 0, 1) := by decide +kernel
theorem d_Mo_keepRow_1 : decode prog_14_method_17_code 1 = .ok (.getfield 62, 3) := by decide +kernel
theorem d_Mo_keepRow_4 : decode prog_14_method_17_code 4 = .ok (.aload_n 0, 1) := by decide +kernel
theorem d_Mo_keepRow_5 : decode prog_14_method_17_code 5 = .ok (.getfield 158, 3) := by decide +kernel
theorem d_Mo_keepRow_8 : decode prog_14_method_17_code 8 = .ok (.aload_n 0, 1) := by decide +kernel
theorem d_Mo_keepRow_9 : decode prog_14_method_17_code 9 = .ok (.getfield 146, 3) := by decide +kernel
theorem d_Mo_keepRow_12 : decode prog_14_method_17_code 12 = .ok (.iastore, 1) := by decide +kernel
theorem d_Mo_keepRow_13 : decode prog_14_method_17_code 13 = .ok (.aload_n 0, 1) := by decide +kernel
theorem d_Mo_keepRow_14 : decode prog_14_method_17_code 14 = .ok (.getfield 65, 3) := by decide +kernel
theorem d_Mo_keepRow_17 : decode prog_14_method_17_code 17 = .ok (.aload_n 0, 1) := by decide +kernel
theorem d_Mo_keepRow_18 : decode prog_14_method_17_code 18 = .ok (.getfield 158, 3) := by decide +kernel
theorem d_Mo_keepRow_21 : decode prog_14_method_17_code 21 = .ok (.aload_n 0, 1) := by decide +kernel
theorem d_Mo_keepRow_22 : decode prog_14_method_17_code 22 = .ok (.getfield 149, 3) := by decide +kernel
theorem d_Mo_keepRow_25 : decode prog_14_method_17_code 25 = .ok (.iastore, 1) := by decide +kernel
theorem d_Mo_keepRow_26 : decode prog_14_method_17_code 26 = .ok (.aload_n 0, 1) := by decide +kernel
theorem d_Mo_keepRow_27 : decode prog_14_method_17_code 27 = .ok (.getfield 68, 3) := by decide +kernel
theorem d_Mo_keepRow_30 : decode prog_14_method_17_code 30 = .ok (.aload_n 0, 1) := by decide +kernel
theorem d_Mo_keepRow_31 : decode prog_14_method_17_code 31 = .ok (.getfield 158, 3) := by decide +kernel
theorem d_Mo_keepRow_34 : decode prog_14_method_17_code 34 = .ok (.aload_n 0, 1) := by decide +kernel
theorem d_Mo_keepRow_35 : decode prog_14_method_17_code 35 = .ok (.getfield 55, 3) := by decide +kernel
theorem d_Mo_keepRow_38 : decode prog_14_method_17_code 38 = .ok (.iastore, 1) := by decide +kernel
theorem d_Mo_keepRow_39 : decode prog_14_method_17_code 39 = .ok (.iconst 0, 1) := by decide +kernel
theorem d_Mo_keepRow_40 : decode prog_14_method_17_code 40 = .ok (.istore_n 1, 1) := by decide +kernel
theorem d_Mo_keepRow_41 : decode prog_14_method_17_code 41 = .ok (.iload_n 1, 1) := by decide +kernel

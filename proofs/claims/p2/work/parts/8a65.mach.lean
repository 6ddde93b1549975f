section M65
variable {p : Program} {l : Launch} {e : Env} {R : Room} {s : State} {m : MethodId} {args : Array Value} {below : List Frame} {meth : Method} {c : Code} {D : va_G} {cA : Nat → ClassId} {tys : List (ClassId × FieldType)} {A : Nat → Prop} {n0 s0 : Nat} {QM : State → Prop} {dm : List Nat × Nat × Nat} {ra : Nat → Nat} {jx : Nat → Nat → Nat} {rm : Nat}
theorem dX16_takeJoin_0 : decode cX16_takeJoin 0 = .ok (.aload_n 0, 1) := by decide +kernel
theorem dX16_takeJoin_1 : decode cX16_takeJoin 1 = .ok (.getfield 356, 3) := by decide +kernel
theorem dX16_takeJoin_4 : decode cX16_takeJoin 4 = .ok (.getfield 178, 3) := by decide +kernel
theorem dX16_takeJoin_7 : decode cX16_takeJoin 7 = .ok (.aload_n 0, 1) := by decide +kernel
theorem dX16_takeJoin_8 : decode cX16_takeJoin 8 = .ok (.getfield 356, 3) := by decide +kernel
theorem dX16_takeJoin_11 : decode cX16_takeJoin 11 = .ok (.getfield 216, 3) := by decide +kernel
theorem dX16_takeJoin_14 : decode cX16_takeJoin 14 = .ok (.iload_n 2, 1) := by decide +kernel
theorem dX16_takeJoin_15 : decode cX16_takeJoin 15 = .ok (.iaload, 1) := by decide +kernel
theorem dX16_takeJoin_16 : decode cX16_takeJoin 16 = .ok (.iaload, 1) := by decide +kernel
theorem dX16_takeJoin_17 : decode cX16_takeJoin 17 = .ok (.istore 7, 2) := by decide +kernel
theorem dX16_takeJoin_19 : decode cX16_takeJoin 19 = .ok (.aload_n 0, 1) := by decide +kernel
theorem dX16_takeJoin_20 : decode cX16_takeJoin 20 = .ok (.getfield 356, 3) := by decide +kernel
theorem dX16_takeJoin_23 : decode cX16_takeJoin 23 = .ok (.getfield 178, 3) := by decide +kernel
theorem dX16_takeJoin_26 : decode cX16_takeJoin 26 = .ok (.aload_n 0, 1) := by decide +kernel
theorem dX16_takeJoin_27 : decode cX16_takeJoin 27 = .ok (.getfield 356, 3) := by decide +kernel
theorem dX16_takeJoin_30 : decode cX16_takeJoin 30 = .ok (.getfield 231, 3) := by decide +kernel
theorem dX16_takeJoin_33 : decode cX16_takeJoin 33 = .ok (.iload_n 2, 1) := by decide +kernel
theorem dX16_takeJoin_34 : decode cX16_takeJoin 34 = .ok (.iaload, 1) := by decide +kernel
theorem dX16_takeJoin_35 : decode cX16_takeJoin 35 = .ok (.iaload, 1) := by decide +kernel
theorem dX16_takeJoin_36 : decode cX16_takeJoin 36 = .ok (.istore 8, 2) := by decide +kernel
theorem dX16_takeJoin_38 : decode cX16_takeJoin 38 = .ok (.aload_n 0, 1) := by decide +kernel
theorem dX16_takeJoin_39 : decode cX16_takeJoin 39 = .ok (.getfield 542, 3) := by decide +kernel
theorem dX16_takeJoin_42 : decode cX16_takeJoin 42 = .ok (.iload_n 3, 1) := by decide +kernel
theorem dX16_takeJoin_43 : decode cX16_takeJoin 43 = .ok (.ifCond .ne 15, 3) := by decide +kernel
theorem dX16_takeJoin_46 : decode cX16_takeJoin 46 = .ok (.aload_n 0, 1) := by decide +kernel
theorem dX16_takeJoin_47 : decode cX16_takeJoin 47 = .ok (.getfield 356, 3) := by decide +kernel
theorem dX16_takeJoin_50 : decode cX16_takeJoin 50 = .ok (.getfield 239, 3) := by decide +kernel
theorem dX16_takeJoin_53 : decode cX16_takeJoin 53 = .ok (.iload_n 2, 1) := by decide +kernel
theorem dX16_takeJoin_54 : decode cX16_takeJoin 54 = .ok (.iaload, 1) := by decide +kernel
theorem dX16_takeJoin_55 : decode cX16_takeJoin 55 = .ok (.goto 12, 3) := by decide +kernel
theorem dX16_takeJoin_58 : decode cX16_takeJoin 58 = .ok (.aload_n 0, 1) := by decide +kernel
theorem dX16_takeJoin_59 : decode cX16_takeJoin 59 = .ok (.getfield 356, 3) := by decide +kernel
theorem dX16_takeJoin_62 : decode cX16_takeJoin 62 = .ok (.getfield 264, 3) := by decide +kernel
theorem dX16_takeJoin_65 : decode cX16_takeJoin 65 = .ok (.iload_n 2, 1) := by decide +kernel
theorem dX16_takeJoin_66 : decode cX16_takeJoin 66 = .ok (.iaload, 1) := by decide +kernel
theorem dX16_takeJoin_67 : decode cX16_takeJoin 67 = .ok (.laload, 1) := by decide +kernel
theorem dX16_takeJoin_68 : decode cX16_takeJoin 68 = .ok (.lstore 9, 2) := by decide +kernel
theorem dX16_takeJoin_70 : decode cX16_takeJoin 70 = .ok (.aload_n 0, 1) := by decide +kernel
theorem dX16_takeJoin_71 : decode cX16_takeJoin 71 = .ok (.getfield 504, 3) := by decide +kernel
theorem dX16_takeJoin_74 : decode cX16_takeJoin 74 = .ok (.iload_n 1, 1) := by decide +kernel
theorem dX16_takeJoin_75 : decode cX16_takeJoin 75 = .ok (.iaload, 1) := by decide +kernel
theorem dX16_takeJoin_76 : decode cX16_takeJoin 76 = .ok (.istore 11, 2) := by decide +kernel
theorem dX16_takeJoin_78 : decode cX16_takeJoin 78 = .ok (.iload 11, 2) := by decide +kernel
theorem dX16_takeJoin_80 : decode cX16_takeJoin 80 = .ok (.iconst (-1), 1) := by decide +kernel
theorem dX16_takeJoin_81 : decode cX16_takeJoin 81 = .ok (.if_icmp .eq 283, 3) := by decide +kernel
theorem dX16_takeJoin_84 : decode cX16_takeJoin 84 = .ok (.aload_n 0, 1) := by decide +kernel
theorem dX16_takeJoin_85 : decode cX16_takeJoin 85 = .ok (.getfield 513, 3) := by decide +kernel
theorem dX16_takeJoin_88 : decode cX16_takeJoin 88 = .ok (.iload 11, 2) := by decide +kernel
theorem dX16_takeJoin_90 : decode cX16_takeJoin 90 = .ok (.iaload, 1) := by decide +kernel
theorem dX16_takeJoin_91 : decode cX16_takeJoin 91 = .ok (.iload_n 3, 1) := by decide +kernel
theorem dX16_takeJoin_92 : decode cX16_takeJoin 92 = .ok (.if_icmp .eq 260, 3) := by decide +kernel
theorem dX16_takeJoin_95 : decode cX16_takeJoin 95 = .ok (.aload_n 0, 1) := by decide +kernel
theorem dX16_takeJoin_96 : decode cX16_takeJoin 96 = .ok (.getfield 519, 3) := by decide +kernel
theorem dX16_takeJoin_99 : decode cX16_takeJoin 99 = .ok (.iload 11, 2) := by decide +kernel
theorem dX16_takeJoin_101 : decode cX16_takeJoin 101 = .ok (.laload, 1) := by decide +kernel
theorem dX16_takeJoin_102 : decode cX16_takeJoin 102 = .ok (.lload 9, 2) := by decide +kernel
theorem dX16_takeJoin_104 : decode cX16_takeJoin 104 = .ok (.lcmp, 1) := by decide +kernel
theorem dX16_takeJoin_105 : decode cX16_takeJoin 105 = .ok (.ifCond .eq 6, 3) := by decide +kernel
theorem dX16_takeJoin_108 : decode cX16_takeJoin 108 = .ok (.goto 244, 3) := by decide +kernel
theorem dX16_takeJoin_111 : decode cX16_takeJoin 111 = .ok (.iload_n 3, 1) := by decide +kernel
theorem dX16_takeJoin_112 : decode cX16_takeJoin 112 = .ok (.ifCond .ne 16, 3) := by decide +kernel
theorem dX16_takeJoin_115 : decode cX16_takeJoin 115 = .ok (.aload_n 0, 1) := by decide +kernel
theorem dX16_takeJoin_116 : decode cX16_takeJoin 116 = .ok (.getfield 522, 3) := by decide +kernel
theorem dX16_takeJoin_119 : decode cX16_takeJoin 119 = .ok (.iload 11, 2) := by decide +kernel
theorem dX16_takeJoin_121 : decode cX16_takeJoin 121 = .ok (.laload, 1) := by decide +kernel
theorem dX16_takeJoin_122 : decode cX16_takeJoin 122 = .ok (.lload 4, 2) := by decide +kernel
theorem dX16_takeJoin_124 : decode cX16_takeJoin 124 = .ok (.lsub, 1) := by decide +kernel
theorem dX16_takeJoin_125 : decode cX16_takeJoin 125 = .ok (.goto 13, 3) := by decide +kernel
theorem dX16_takeJoin_128 : decode cX16_takeJoin 128 = .ok (.lload 4, 2) := by decide +kernel
theorem dX16_takeJoin_130 : decode cX16_takeJoin 130 = .ok (.aload_n 0, 1) := by decide +kernel
theorem dX16_takeJoin_131 : decode cX16_takeJoin 131 = .ok (.getfield 522, 3) := by decide +kernel
theorem dX16_takeJoin_134 : decode cX16_takeJoin 134 = .ok (.iload 11, 2) := by decide +kernel
theorem dX16_takeJoin_136 : decode cX16_takeJoin 136 = .ok (.laload, 1) := by decide +kernel
theorem dX16_takeJoin_137 : decode cX16_takeJoin 137 = .ok (.lsub, 1) := by decide +kernel
theorem dX16_takeJoin_138 : decode cX16_takeJoin 138 = .ok (.lstore 12, 2) := by decide +kernel
theorem dX16_takeJoin_140 : decode cX16_takeJoin 140 = .ok (.lload 12, 2) := by decide +kernel
theorem dX16_takeJoin_142 : decode cX16_takeJoin 142 = .ok (.aload_n 0, 1) := by decide +kernel
theorem dX16_takeJoin_143 : decode cX16_takeJoin 143 = .ok (.getfield 356, 3) := by decide +kernel
theorem dX16_takeJoin_146 : decode cX16_takeJoin 146 = .ok (.getfield 191, 3) := by decide +kernel
theorem dX16_takeJoin_149 : decode cX16_takeJoin 149 = .ok (.iload_n 2, 1) := by decide +kernel
theorem dX16_takeJoin_150 : decode cX16_takeJoin 150 = .ok (.laload, 1) := by decide +kernel
theorem dX16_takeJoin_151 : decode cX16_takeJoin 151 = .ok (.aload_n 0, 1) := by decide +kernel
theorem dX16_takeJoin_152 : decode cX16_takeJoin 152 = .ok (.getfield 356, 3) := by decide +kernel
theorem dX16_takeJoin_155 : decode cX16_takeJoin 155 = .ok (.getfield 204, 3) := by decide +kernel
theorem dX16_takeJoin_158 : decode cX16_takeJoin 158 = .ok (.iload_n 2, 1) := by decide +kernel
theorem dX16_takeJoin_159 : decode cX16_takeJoin 159 = .ok (.laload, 1) := by decide +kernel
theorem dX16_takeJoin_160 : decode cX16_takeJoin 160 = .ok (.invokestatic 45, 3) := by decide +kernel
theorem dX16_takeJoin_163 : decode cX16_takeJoin 163 = .ok (.ifCond .ne 6, 3) := by decide +kernel
theorem dX16_takeJoin_166 : decode cX16_takeJoin 166 = .ok (.goto 186, 3) := by decide +kernel
theorem dX16_takeJoin_169 : decode cX16_takeJoin 169 = .ok (.iconst 0, 1) := by decide +kernel
theorem dX16_takeJoin_170 : decode cX16_takeJoin 170 = .ok (.istore 14, 2) := by decide +kernel
theorem dX16_takeJoin_172 : decode cX16_takeJoin 172 = .ok (.iload 14, 2) := by decide +kernel
theorem dX16_takeJoin_174 : decode cX16_takeJoin 174 = .ok (.bipush 8, 2) := by decide +kernel
theorem dX16_takeJoin_176 : decode cX16_takeJoin 176 = .ok (.if_icmp .ge 17, 3) := by decide +kernel
theorem dX16_takeJoin_179 : decode cX16_takeJoin 179 = .ok (.aload_n 0, 1) := by decide +kernel
theorem dX16_takeJoin_180 : decode cX16_takeJoin 180 = .ok (.getfield 578, 3) := by decide +kernel
theorem dX16_takeJoin_183 : decode cX16_takeJoin 183 = .ok (.iload 14, 2) := by decide +kernel
theorem dX16_takeJoin_185 : decode cX16_takeJoin 185 = .ok (.lconst 0, 1) := by decide +kernel
theorem dX16_takeJoin_186 : decode cX16_takeJoin 186 = .ok (.lastore, 1) := by decide +kernel
theorem dX16_takeJoin_187 : decode cX16_takeJoin 187 = .ok (.iinc 14 1, 3) := by decide +kernel
theorem dX16_takeJoin_190 : decode cX16_takeJoin 190 = .ok (.goto (-18), 3) := by decide +kernel
theorem dX16_takeJoin_193 : decode cX16_takeJoin 193 = .ok (.iconst 0, 1) := by decide +kernel
theorem dX16_takeJoin_194 : decode cX16_takeJoin 194 = .ok (.istore 14, 2) := by decide +kernel
theorem dX16_takeJoin_196 : decode cX16_takeJoin 196 = .ok (.iload 14, 2) := by decide +kernel
theorem dX16_takeJoin_198 : decode cX16_takeJoin 198 = .ok (.iload 7, 2) := by decide +kernel
theorem dX16_takeJoin_200 : decode cX16_takeJoin 200 = .ok (.if_icmp .ge 43, 3) := by decide +kernel
theorem dX16_takeJoin_203 : decode cX16_takeJoin 203 = .ok (.aload_n 0, 1) := by decide +kernel
theorem dX16_takeJoin_204 : decode cX16_takeJoin 204 = .ok (.getfield 578, 3) := by decide +kernel
theorem dX16_takeJoin_207 : decode cX16_takeJoin 207 = .ok (.iload 14, 2) := by decide +kernel
theorem dX16_takeJoin_209 : decode cX16_takeJoin 209 = .ok (.iload_n 3, 1) := by decide +kernel
theorem dX16_takeJoin_210 : decode cX16_takeJoin 210 = .ok (.ifCond .ne 13, 3) := by decide +kernel
theorem dX16_takeJoin_213 : decode cX16_takeJoin 213 = .ok (.aload_n 0, 1) := by decide +kernel
theorem dX16_takeJoin_214 : decode cX16_takeJoin 214 = .ok (.getfield 542, 3) := by decide +kernel
theorem dX16_takeJoin_217 : decode cX16_takeJoin 217 = .ok (.iload 14, 2) := by decide +kernel
theorem dX16_takeJoin_219 : decode cX16_takeJoin 219 = .ok (.laload, 1) := by decide +kernel
theorem dX16_takeJoin_220 : decode cX16_takeJoin 220 = .ok (.goto 16, 3) := by decide +kernel
theorem dX16_takeJoin_223 : decode cX16_takeJoin 223 = .ok (.aload_n 0, 1) := by decide +kernel
theorem dX16_takeJoin_224 : decode cX16_takeJoin 224 = .ok (.getfield 528, 3) := by decide +kernel
theorem dX16_takeJoin_227 : decode cX16_takeJoin 227 = .ok (.bipush 8, 2) := by decide +kernel
theorem dX16_takeJoin_229 : decode cX16_takeJoin 229 = .ok (.iload 11, 2) := by decide +kernel
theorem dX16_takeJoin_231 : decode cX16_takeJoin 231 = .ok (.imul, 1) := by decide +kernel
theorem dX16_takeJoin_232 : decode cX16_takeJoin 232 = .ok (.iload 14, 2) := by decide +kernel
theorem dX16_takeJoin_234 : decode cX16_takeJoin 234 = .ok (.iadd, 1) := by decide +kernel
theorem dX16_takeJoin_235 : decode cX16_takeJoin 235 = .ok (.laload, 1) := by decide +kernel
theorem dX16_takeJoin_236 : decode cX16_takeJoin 236 = .ok (.lastore, 1) := by decide +kernel
theorem dX16_takeJoin_237 : decode cX16_takeJoin 237 = .ok (.iinc 14 1, 3) := by decide +kernel
theorem dX16_takeJoin_240 : decode cX16_takeJoin 240 = .ok (.goto (-44), 3) := by decide +kernel
theorem dX16_takeJoin_243 : decode cX16_takeJoin 243 = .ok (.iconst 0, 1) := by decide +kernel
theorem dX16_takeJoin_244 : decode cX16_takeJoin 244 = .ok (.istore 14, 2) := by decide +kernel
theorem dX16_takeJoin_246 : decode cX16_takeJoin 246 = .ok (.iload 14, 2) := by decide +kernel
theorem dX16_takeJoin_248 : decode cX16_takeJoin 248 = .ok (.iload 8, 2) := by decide +kernel
theorem dX16_takeJoin_250 : decode cX16_takeJoin 250 = .ok (.if_icmp .ge 47, 3) := by decide +kernel
theorem dX16_takeJoin_253 : decode cX16_takeJoin 253 = .ok (.aload_n 0, 1) := by decide +kernel
theorem dX16_takeJoin_254 : decode cX16_takeJoin 254 = .ok (.getfield 578, 3) := by decide +kernel
theorem dX16_takeJoin_257 : decode cX16_takeJoin 257 = .ok (.iload 7, 2) := by decide +kernel
theorem dX16_takeJoin_259 : decode cX16_takeJoin 259 = .ok (.iload 14, 2) := by decide +kernel
theorem dX16_takeJoin_261 : decode cX16_takeJoin 261 = .ok (.iadd, 1) := by decide +kernel
theorem dX16_takeJoin_262 : decode cX16_takeJoin 262 = .ok (.iload_n 3, 1) := by decide +kernel
theorem dX16_takeJoin_263 : decode cX16_takeJoin 263 = .ok (.iconst 1, 1) := by decide +kernel
theorem dX16_takeJoin_264 : decode cX16_takeJoin 264 = .ok (.if_icmp .ne 13, 3) := by decide +kernel
theorem dX16_takeJoin_267 : decode cX16_takeJoin 267 = .ok (.aload_n 0, 1) := by decide +kernel
theorem dX16_takeJoin_268 : decode cX16_takeJoin 268 = .ok (.getfield 542, 3) := by decide +kernel
theorem dX16_takeJoin_271 : decode cX16_takeJoin 271 = .ok (.iload 14, 2) := by decide +kernel
theorem dX16_takeJoin_273 : decode cX16_takeJoin 273 = .ok (.laload, 1) := by decide +kernel
theorem dX16_takeJoin_274 : decode cX16_takeJoin 274 = .ok (.goto 16, 3) := by decide +kernel
theorem dX16_takeJoin_277 : decode cX16_takeJoin 277 = .ok (.aload_n 0, 1) := by decide +kernel
theorem dX16_takeJoin_278 : decode cX16_takeJoin 278 = .ok (.getfield 528, 3) := by decide +kernel
theorem dX16_takeJoin_281 : decode cX16_takeJoin 281 = .ok (.bipush 8, 2) := by decide +kernel
theorem dX16_takeJoin_283 : decode cX16_takeJoin 283 = .ok (.iload 11, 2) := by decide +kernel
theorem dX16_takeJoin_285 : decode cX16_takeJoin 285 = .ok (.imul, 1) := by decide +kernel
theorem dX16_takeJoin_286 : decode cX16_takeJoin 286 = .ok (.iload 14, 2) := by decide +kernel
theorem dX16_takeJoin_288 : decode cX16_takeJoin 288 = .ok (.iadd, 1) := by decide +kernel
theorem dX16_takeJoin_289 : decode cX16_takeJoin 289 = .ok (.laload, 1) := by decide +kernel
theorem dX16_takeJoin_290 : decode cX16_takeJoin 290 = .ok (.lastore, 1) := by decide +kernel
theorem dX16_takeJoin_291 : decode cX16_takeJoin 291 = .ok (.iinc 14 1, 3) := by decide +kernel
theorem dX16_takeJoin_294 : decode cX16_takeJoin 294 = .ok (.goto (-48), 3) := by decide +kernel
theorem dX16_takeJoin_297 : decode cX16_takeJoin 297 = .ok (.aload_n 0, 1) := by decide +kernel
theorem dX16_takeJoin_298 : decode cX16_takeJoin 298 = .ok (.iload_n 1, 1) := by decide +kernel
theorem dX16_takeJoin_299 : decode cX16_takeJoin 299 = .ok (.lload 4, 2) := by decide +kernel
theorem dX16_takeJoin_301 : decode cX16_takeJoin 301 = .ok (.aload_n 0, 1) := by decide +kernel
theorem dX16_takeJoin_302 : decode cX16_takeJoin 302 = .ok (.getfield 522, 3) := by decide +kernel
theorem dX16_takeJoin_305 : decode cX16_takeJoin 305 = .ok (.iload 11, 2) := by decide +kernel
theorem dX16_takeJoin_307 : decode cX16_takeJoin 307 = .ok (.laload, 1) := by decide +kernel
theorem dX16_takeJoin_308 : decode cX16_takeJoin 308 = .ok (.invokestatic 586, 3) := by decide +kernel
theorem dX16_takeJoin_311 : decode cX16_takeJoin 311 = .ok (.aload_n 0, 1) := by decide +kernel
theorem dX16_takeJoin_312 : decode cX16_takeJoin 312 = .ok (.getfield 578, 3) := by decide +kernel
theorem dX16_takeJoin_315 : decode cX16_takeJoin 315 = .ok (.iconst 0, 1) := by decide +kernel
theorem dX16_takeJoin_316 : decode cX16_takeJoin 316 = .ok (.iload_n 3, 1) := by decide +kernel
theorem dX16_takeJoin_317 : decode cX16_takeJoin 317 = .ok (.ifCond .ne 19, 3) := by decide +kernel
theorem dX16_takeJoin_320 : decode cX16_takeJoin 320 = .ok (.aload_n 0, 1) := by decide +kernel
theorem dX16_takeJoin_321 : decode cX16_takeJoin 321 = .ok (.iload 6, 2) := by decide +kernel
theorem dX16_takeJoin_323 : decode cX16_takeJoin 323 = .ok (.aload_n 0, 1) := by decide +kernel
theorem dX16_takeJoin_324 : decode cX16_takeJoin 324 = .ok (.getfield 531, 3) := by decide +kernel
theorem dX16_takeJoin_327 : decode cX16_takeJoin 327 = .ok (.iload 11, 2) := by decide +kernel
theorem dX16_takeJoin_329 : decode cX16_takeJoin 329 = .ok (.iaload, 1) := by decide +kernel
theorem dX16_takeJoin_330 : decode cX16_takeJoin 330 = .ok (.invokevirtual 603, 3) := by decide +kernel
theorem dX16_takeJoin_333 : decode cX16_takeJoin 333 = .ok (.goto 16, 3) := by decide +kernel
theorem dX16_takeJoin_336 : decode cX16_takeJoin 336 = .ok (.aload_n 0, 1) := by decide +kernel
theorem dX16_takeJoin_337 : decode cX16_takeJoin 337 = .ok (.aload_n 0, 1) := by decide +kernel
theorem dX16_takeJoin_338 : decode cX16_takeJoin 338 = .ok (.getfield 531, 3) := by decide +kernel
theorem dX16_takeJoin_341 : decode cX16_takeJoin 341 = .ok (.iload 11, 2) := by decide +kernel
theorem dX16_takeJoin_343 : decode cX16_takeJoin 343 = .ok (.iaload, 1) := by decide +kernel
theorem dX16_takeJoin_344 : decode cX16_takeJoin 344 = .ok (.iload 6, 2) := by decide +kernel
theorem dX16_takeJoin_346 : decode cX16_takeJoin 346 = .ok (.invokevirtual 603, 3) := by decide +kernel
theorem dX16_takeJoin_349 : decode cX16_takeJoin 349 = .ok (.invokevirtual 549, 3) := by decide +kernel
theorem dX16_takeJoin_352 : decode cX16_takeJoin 352 = .ok (.aload_n 0, 1) := by decide +kernel
theorem dX16_takeJoin_353 : decode cX16_takeJoin 353 = .ok (.getfield 495, 3) := by decide +kernel
theorem dX16_takeJoin_356 : decode cX16_takeJoin 356 = .ok (.iload 11, 2) := by decide +kernel
theorem dX16_takeJoin_358 : decode cX16_takeJoin 358 = .ok (.iaload, 1) := by decide +kernel
theorem dX16_takeJoin_359 : decode cX16_takeJoin 359 = .ok (.istore 11, 2) := by decide +kernel
theorem dX16_takeJoin_361 : decode cX16_takeJoin 361 = .ok (.goto (-283), 3) := by decide +kernel
theorem dX16_takeJoin_364 : decode cX16_takeJoin 364 = .ok (.aload_n 0, 1) := by decide +kernel
theorem dX16_takeJoin_365 : decode cX16_takeJoin 365 = .ok (.iload_n 1, 1) := by decide +kernel
theorem dX16_takeJoin_366 : decode cX16_takeJoin 366 = .ok (.iload_n 3, 1) := by decide +kernel
theorem dX16_takeJoin_367 : decode cX16_takeJoin 367 = .ok (.lload 9, 2) := by decide +kernel
theorem dX16_takeJoin_369 : decode cX16_takeJoin 369 = .ok (.lload 4, 2) := by decide +kernel
theorem dX16_takeJoin_371 : decode cX16_takeJoin 371 = .ok (.lconst 0, 1) := by decide +kernel
theorem dX16_takeJoin_372 : decode cX16_takeJoin 372 = .ok (.aload_n 0, 1) := by decide +kernel
theorem dX16_takeJoin_373 : decode cX16_takeJoin 373 = .ok (.getfield 542, 3) := by decide +kernel
theorem dX16_takeJoin_376 : decode cX16_takeJoin 376 = .ok (.iconst 0, 1) := by decide +kernel
theorem dX16_takeJoin_377 : decode cX16_takeJoin 377 = .ok (.iload 6, 2) := by decide +kernel
theorem dX16_takeJoin_379 : decode cX16_takeJoin 379 = .ok (.invokevirtual 567, 3) := by decide +kernel
theorem dX16_takeJoin_382 : decode cX16_takeJoin 382 = .ok (.pop, 1) := by decide +kernel
theorem dX16_takeJoin_383 : decode cX16_takeJoin 383 = .ok (.return_, 1) := by decide +kernel
set_option maxRecDepth 20000 in
theorem a_X16_takeJoin_364 {Q : Sg → Unit → Prop} {X : Sg → String → Prop} (K : MC R p s m args c cX16_takeJoin 15 RX16 D cA tys A n0 s0 3 79 []) (hQ : HQV p l e R s m args below meth c cX16_takeJoin D cA A n0 s0 QM dm ra jx rm Q) (hX : HX p l e R s m args below meth c 15 D cA A n0 s0 QM dm ra jx rm X) : ∀ (σ : Sg) (v1 : Int) (v3 : Int) (v4 : Int64) (v6 : Int) (v9 : Int64) (g1 : rng v1) (g3 : rng v3) (g6 : rng v6), w_X16_takeJoin_364 ra jx rm Q X σ v1 v3 v4 v6 v9 → RG σ → Shp dm ra jx rm σ → JJ p l e R s m args below meth c 15 D cA A n0 s0 QM σ 364 [(0, .ref rm), (1, .int (i32 v1)), (3, .int (i32 v3)), (4, .long v4), (6, .int (i32 v6)), (9, .long v9)] [] := by
  intro σ v1 v3 v4 v6 v9 g1 g3 g6 h hGσ hS H locs ls hH hl hc
  have B := K.1
  unfold w_X16_takeJoin_364 at h
  refine lv_aload_n B.1 B.2.1 dX16_takeJoin_364 rfl (lv_at hl 0 rfl) ?_
  refine lv_iload_n B.1 B.2.1 dX16_takeJoin_365 rfl (lv_at hl 1 rfl) ?_
  refine lv_iload_n B.1 B.2.1 dX16_takeJoin_366 rfl (lv_at hl 2 rfl) ?_
  refine lv_lload B.1 B.2.1 dX16_takeJoin_367 (lv_at hl 5 rfl) ?_
  refine lv_lload B.1 B.2.1 dX16_takeJoin_369 (lv_at hl 3 rfl) ?_
  refine lv_lconst (v := 0) B.1 B.2.1 dX16_takeJoin_371 (by decide) ?_
  refine lv_aload_n B.1 B.2.1 dX16_takeJoin_372 rfl (lv_at hl 0 rfl) ?_
  refine r_arr B hH hS 81 (kd := 101) (n := 8) (by decide) (by decide) wf_X16_542 rfl rfl dX16_takeJoin_373 ?_
  refine lv_iconst (v := i32 0) B.1 B.2.1 dX16_takeJoin_376 (by decide) ?_
  refine lv_iload B.1 B.2.1 dX16_takeJoin_377 (lv_at hl 4 rfl) ?_
  refine c_V B hH hl hc K.2.2.1 (C := RX16) (T := TX16) (N := 123) (ci := 16) (As := [.int (i32 v1), .int (i32 v3), .long v9, .long v4, .long 0, va_rf (some (ra 81)), .int (i32 0), .int (i32 v6)]) (ok_X16_record K.2.1 σ v1 v3 v9 v4 0 (some (ra 81)) 0 v6 g1 g3 (by unfold rng; omega) g6 hGσ hS h) wc_X16_567 8 hd_X16_record ⟨Nat.le_trans (Nat.le_of_ble_eq_true rfl) K.2.2.2.1, Nat.le_trans (Nat.le_of_ble_eq_true rfl) K.2.2.2.2.1⟩ hS.1.1 hS.1.2 (by decide) rfl rfl (rest := []) rfl (Nat.le_of_ble_eq_true rfl) dX16_takeJoin_379 (fun σ41 w hq => ?_) (fun σ9 E9 hx9 => hX σ9 E9 _ _ _ (tb_out K.2.2.2.2.2 rfl) hx9.1 hx9.2.1 hx9.2.2)
  obtain ⟨r42, rfl, gr42, h, hGσ41, hS⟩ := hq
  intro H locs ls hH hl hc
  refine W.eq (g2 := F0 m 382 ls [.int (i32 r42)]) (rfl) ?_
  try dsimp only at h
  refine lv_pop B.1 B.2.1 dX16_takeJoin_382 rfl ?_
  exact hQ _ _ _ _ _ dX16_takeJoin_383 hH hc h hGσ41 hS
set_option maxRecDepth 20000 in
theorem a_X16_takeJoin_352 {Q : Sg → Unit → Prop} {X : Sg → String → Prop} (K : MC R p s m args c cX16_takeJoin 15 RX16 D cA tys A n0 s0 3 79 []) (hQ : HQV p l e R s m args below meth c cX16_takeJoin D cA A n0 s0 QM dm ra jx rm Q) (hX : HX p l e R s m args below meth c 15 D cA A n0 s0 QM dm ra jx rm X) {K78 : Sg → Int → Int → Int → Int64 → Int → Int → Int → Int64 → Int → Prop} (hK78 : ∀ (σ : Sg) (v1 : Int) (v2 : Int) (v3 : Int) (v4 : Int64) (v6 : Int) (v7 : Int) (v8 : Int) (v9 : Int64) (v11 : Int) (g1 : rng v1) (g2 : rng v2) (g3 : rng v3) (g6 : rng v6) (g7 : rng v7) (g8 : rng v8) (g11 : rng v11), K78 σ v1 v2 v3 v4 v6 v7 v8 v9 v11 → RG σ → Shp dm ra jx rm σ → JJ p l e R s m args below meth c 15 D cA A n0 s0 QM σ 78 [(0, .ref rm), (1, .int (i32 v1)), (2, .int (i32 v2)), (3, .int (i32 v3)), (4, .long v4), (6, .int (i32 v6)), (7, .int (i32 v7)), (8, .int (i32 v8)), (9, .long v9), (11, .int (i32 v11))] []) : ∀ (σ : Sg) (v1 : Int) (v2 : Int) (v3 : Int) (v4 : Int64) (v6 : Int) (v7 : Int) (v8 : Int) (v9 : Int64) (v11 : Int) (g1 : rng v1) (g2 : rng v2) (g3 : rng v3) (g6 : rng v6) (g7 : rng v7) (g8 : rng v8) (g11 : rng v11), w_X16_takeJoin_352 ra jx rm K78 Q X σ v1 v2 v3 v4 v6 v7 v8 v9 v11 → RG σ → Shp dm ra jx rm σ → JJ p l e R s m args below meth c 15 D cA A n0 s0 QM σ 352 [(0, .ref rm), (1, .int (i32 v1)), (2, .int (i32 v2)), (3, .int (i32 v3)), (4, .long v4), (6, .int (i32 v6)), (7, .int (i32 v7)), (8, .int (i32 v8)), (9, .long v9), (11, .int (i32 v11))] [] := by
  intro σ v1 v2 v3 v4 v6 v7 v8 v9 v11 g1 g2 g3 g6 g7 g8 g11 h hGσ hS H locs ls hH hl hc
  have B := K.1
  unfold w_X16_takeJoin_352 at h
  refine lv_aload_n B.1 B.2.1 dX16_takeJoin_352 rfl (lv_at hl 0 rfl) ?_
  refine r_arr B hH hS 75 (kd := 100) (n := 4000) (by decide) (by decide) wf_X16_495 rfl rfl dX16_takeJoin_353 ?_
  refine lv_iload B.1 B.2.1 dX16_takeJoin_356 (lv_at hl 9 rfl) ?_
  obtain ⟨q1, h⟩ := h
  refine x_iald B K.2.1 hH (hS.ar (k := 75) (kd := 100) (n := 4000) (by decide)) (by decide) q1 dX16_takeJoin_358 ?_
  refine lv_istore (lv' := [(11, .int (i32 (gI σ (ra 75) v11.toNat))), (0, .ref rm), (1, .int (i32 v1)), (2, .int (i32 v2)), (3, .int (i32 v3)), (4, .long v4), (6, .int (i32 v6)), (7, .int (i32 v7)), (8, .int (i32 v8)), (9, .long v9)]) B.1 B.2.1 dX16_takeJoin_359 hl (by decide) rfl (fun ls hl => ?_)
  refine lv_goto (tgt := 78) B.1 B.2.1 dX16_takeJoin_361 (by decide) ?_
  exact hK78 _ _ _ _ _ _ _ _ _ _ g1 g2 g3 g6 g7 g8 (hGσ _ _) h hGσ hS _ _ _ hH (lv_sub (l' := [(0, .ref rm), (1, .int (i32 v1)), (2, .int (i32 v2)), (3, .int (i32 v3)), (4, .long v4), (6, .int (i32 v6)), (7, .int (i32 v7)), (8, .int (i32 v8)), (9, .long v9), (11, .int (i32 (gI σ (ra 75) v11.toNat)))]) hl [1, 2, 3, 4, 5, 6, 7, 8, 9, 0] rfl) hc
set_option maxRecDepth 20000 in
theorem a_X16_takeJoin_349 {Q : Sg → Unit → Prop} {X : Sg → String → Prop} (K : MC R p s m args c cX16_takeJoin 15 RX16 D cA tys A n0 s0 3 79 []) (hQ : HQV p l e R s m args below meth c cX16_takeJoin D cA A n0 s0 QM dm ra jx rm Q) (hX : HX p l e R s m args below meth c 15 D cA A n0 s0 QM dm ra jx rm X) {K78 : Sg → Int → Int → Int → Int64 → Int → Int → Int → Int64 → Int → Prop} (hK78 : ∀ (σ : Sg) (v1 : Int) (v2 : Int) (v3 : Int) (v4 : Int64) (v6 : Int) (v7 : Int) (v8 : Int) (v9 : Int64) (v11 : Int) (g1 : rng v1) (g2 : rng v2) (g3 : rng v3) (g6 : rng v6) (g7 : rng v7) (g8 : rng v8) (g11 : rng v11), K78 σ v1 v2 v3 v4 v6 v7 v8 v9 v11 → RG σ → Shp dm ra jx rm σ → JJ p l e R s m args below meth c 15 D cA A n0 s0 QM σ 78 [(0, .ref rm), (1, .int (i32 v1)), (2, .int (i32 v2)), (3, .int (i32 v3)), (4, .long v4), (6, .int (i32 v6)), (7, .int (i32 v7)), (8, .int (i32 v8)), (9, .long v9), (11, .int (i32 v11))] []) : ∀ (σ : Sg) (v1 : Int) (v2 : Int) (v3 : Int) (v4 : Int64) (v6 : Int) (v7 : Int) (v8 : Int) (v9 : Int64) (v11 : Int) (u0 : Int) (u1 : Int) (u3 : Int64) (u4 : Int) (g1 : rng v1) (g2 : rng v2) (g3 : rng v3) (g6 : rng v6) (g7 : rng v7) (g8 : rng v8) (g11 : rng v11) (gu0 : rng u0) (gu1 : rng u1) (gu4 : rng u4), w_X16_takeJoin_349 ra jx rm K78 Q X σ v1 v2 v3 v4 v6 v7 v8 v9 v11 u0 u1 u3 u4 → RG σ → Shp dm ra jx rm σ → JJ p l e R s m args below meth c 15 D cA A n0 s0 QM σ 349 [(0, .ref rm), (1, .int (i32 v1)), (2, .int (i32 v2)), (3, .int (i32 v3)), (4, .long v4), (6, .int (i32 v6)), (7, .int (i32 v7)), (8, .int (i32 v8)), (9, .long v9), (11, .int (i32 v11))] [.int (i32 u0), .int (i32 u1), .ref (ra 82), .long u3, .int (i32 u4), .ref rm] := by
  intro σ v1 v2 v3 v4 v6 v7 v8 v9 v11 u0 u1 u3 u4 g1 g2 g3 g6 g7 g8 g11 gu0 gu1 gu4 h hGσ hS H locs ls hH hl hc
  have B := K.1
  unfold w_X16_takeJoin_349 at h
  refine c_V B hH hl hc K.2.2.1 (C := RX16) (T := TX16) (N := 123) (ci := 16) (As := [.int (i32 u4), .long u3, va_rf (some (ra 82)), .int (i32 u1), .int (i32 u0)]) (ok_X16_emit K.2.1 σ u4 u3 (some (ra 82)) u1 u0 gu4 gu1 gu0 hGσ hS h) wc_X16_549 5 hd_X16_emit ⟨Nat.le_trans (Nat.le_of_ble_eq_true rfl) K.2.2.2.1, Nat.le_trans (Nat.le_of_ble_eq_true rfl) K.2.2.2.2.1⟩ hS.1.1 hS.1.2 (by decide) rfl rfl (rest := []) rfl (Nat.le_of_ble_eq_true rfl) dX16_takeJoin_349 (fun σ43 w hq => ?_) (fun σ9 E9 hx9 => hX σ9 E9 _ _ _ (tb_out K.2.2.2.2.2 rfl) hx9.1 hx9.2.1 hx9.2.2)
  obtain ⟨rfl, h, hGσ43, hS⟩ := hq
  intro H locs ls hH hl hc
  refine W.eq (g2 := F0 m 352 ls []) (rfl) ?_
  try dsimp only at h
  exact a_X16_takeJoin_352 K hQ hX hK78 _ _ _ _ _ _ _ _ _ _ g1 g2 g3 g6 g7 g8 g11 h hGσ43 hS _ _ _ hH (lv_sub (l' := [(0, .ref rm), (1, .int (i32 v1)), (2, .int (i32 v2)), (3, .int (i32 v3)), (4, .long v4), (6, .int (i32 v6)), (7, .int (i32 v7)), (8, .int (i32 v8)), (9, .long v9), (11, .int (i32 v11))]) hl [0, 1, 2, 3, 4, 5, 6, 7, 8, 9] rfl) hc
set_option maxRecDepth 20000 in
theorem a_X16_takeJoin_336 {Q : Sg → Unit → Prop} {X : Sg → String → Prop} (K : MC R p s m args c cX16_takeJoin 15 RX16 D cA tys A n0 s0 3 79 []) (hQ : HQV p l e R s m args below meth c cX16_takeJoin D cA A n0 s0 QM dm ra jx rm Q) (hX : HX p l e R s m args below meth c 15 D cA A n0 s0 QM dm ra jx rm X) {K78 : Sg → Int → Int → Int → Int64 → Int → Int → Int → Int64 → Int → Prop} (hK78 : ∀ (σ : Sg) (v1 : Int) (v2 : Int) (v3 : Int) (v4 : Int64) (v6 : Int) (v7 : Int) (v8 : Int) (v9 : Int64) (v11 : Int) (g1 : rng v1) (g2 : rng v2) (g3 : rng v3) (g6 : rng v6) (g7 : rng v7) (g8 : rng v8) (g11 : rng v11), K78 σ v1 v2 v3 v4 v6 v7 v8 v9 v11 → RG σ → Shp dm ra jx rm σ → JJ p l e R s m args below meth c 15 D cA A n0 s0 QM σ 78 [(0, .ref rm), (1, .int (i32 v1)), (2, .int (i32 v2)), (3, .int (i32 v3)), (4, .long v4), (6, .int (i32 v6)), (7, .int (i32 v7)), (8, .int (i32 v8)), (9, .long v9), (11, .int (i32 v11))] []) : ∀ (σ : Sg) (v1 : Int) (v2 : Int) (v3 : Int) (v4 : Int64) (v6 : Int) (v7 : Int) (v8 : Int) (v9 : Int64) (v11 : Int) (u0 : Int) (u2 : Int64) (u3 : Int) (g1 : rng v1) (g2 : rng v2) (g3 : rng v3) (g6 : rng v6) (g7 : rng v7) (g8 : rng v8) (g11 : rng v11) (gu0 : rng u0) (gu3 : rng u3), w_X16_takeJoin_336 ra jx rm K78 Q X σ v1 v2 v3 v4 v6 v7 v8 v9 v11 u0 u2 u3 → RG σ → Shp dm ra jx rm σ → JJ p l e R s m args below meth c 15 D cA A n0 s0 QM σ 336 [(0, .ref rm), (1, .int (i32 v1)), (2, .int (i32 v2)), (3, .int (i32 v3)), (4, .long v4), (6, .int (i32 v6)), (7, .int (i32 v7)), (8, .int (i32 v8)), (9, .long v9), (11, .int (i32 v11))] [.int (i32 u0), .ref (ra 82), .long u2, .int (i32 u3), .ref rm] := by
  intro σ v1 v2 v3 v4 v6 v7 v8 v9 v11 u0 u2 u3 g1 g2 g3 g6 g7 g8 g11 gu0 gu3 h hGσ hS H locs ls hH hl hc
  have B := K.1
  unfold w_X16_takeJoin_336 at h
  refine lv_aload_n B.1 B.2.1 dX16_takeJoin_336 rfl (lv_at hl 0 rfl) ?_
  refine lv_aload_n B.1 B.2.1 dX16_takeJoin_337 rfl (lv_at hl 0 rfl) ?_
  refine r_arr B hH hS 74 (kd := 100) (n := 4000) (by decide) (by decide) wf_X16_531 rfl rfl dX16_takeJoin_338 ?_
  refine lv_iload B.1 B.2.1 dX16_takeJoin_341 (lv_at hl 9 rfl) ?_
  obtain ⟨q1, h⟩ := h
  refine x_iald B K.2.1 hH (hS.ar (k := 74) (kd := 100) (n := 4000) (by decide)) (by decide) q1 dX16_takeJoin_343 ?_
  refine lv_iload B.1 B.2.1 dX16_takeJoin_344 (lv_at hl 5 rfl) ?_
  refine c_V B hH hl hc K.2.2.1 (C := RX16) (T := TX16) (N := 123) (ci := 16) (As := [.int (i32 (gI σ (ra 74) v11.toNat)), .int (i32 v6)]) (ok_X16_joined K.2.1 σ (gI σ (ra 74) v11.toNat) v6 (hGσ _ _) g6 hGσ hS h) wc_X16_603 2 hd_X16_joined ⟨Nat.le_trans (Nat.le_of_ble_eq_true rfl) K.2.2.2.1, Nat.le_trans (Nat.le_of_ble_eq_true rfl) K.2.2.2.2.1⟩ hS.1.1 hS.1.2 (by decide) rfl rfl (rest := [.int (i32 u0), .ref (ra 82), .long u2, .int (i32 u3), .ref rm]) rfl (Nat.le_of_ble_eq_true rfl) dX16_takeJoin_346 (fun σ44 w hq => ?_) (fun σ9 E9 hx9 => hX σ9 E9 _ _ _ (tb_out K.2.2.2.2.2 rfl) hx9.1 hx9.2.1 hx9.2.2)
  obtain ⟨r45, rfl, gr45, h, hGσ44, hS⟩ := hq
  intro H locs ls hH hl hc
  refine W.eq (g2 := F0 m 349 ls [.int (i32 r45), .int (i32 u0), .ref (ra 82), .long u2, .int (i32 u3), .ref rm]) (rfl) ?_
  try dsimp only at h
  exact a_X16_takeJoin_349 K hQ hX hK78 _ _ _ _ _ _ _ _ _ _ _ _ _ _ g1 g2 g3 g6 g7 g8 g11 gr45 gu0 gu3 h hGσ44 hS _ _ _ hH (lv_sub (l' := [(0, .ref rm), (1, .int (i32 v1)), (2, .int (i32 v2)), (3, .int (i32 v3)), (4, .long v4), (6, .int (i32 v6)), (7, .int (i32 v7)), (8, .int (i32 v8)), (9, .long v9), (11, .int (i32 v11))]) hl [0, 1, 2, 3, 4, 5, 6, 7, 8, 9] rfl) hc
set_option maxRecDepth 20000 in
theorem a_X16_takeJoin_320 {Q : Sg → Unit → Prop} {X : Sg → String → Prop} (K : MC R p s m args c cX16_takeJoin 15 RX16 D cA tys A n0 s0 3 79 []) (hQ : HQV p l e R s m args below meth c cX16_takeJoin D cA A n0 s0 QM dm ra jx rm Q) (hX : HX p l e R s m args below meth c 15 D cA A n0 s0 QM dm ra jx rm X) {K78 : Sg → Int → Int → Int → Int64 → Int → Int → Int → Int64 → Int → Prop} (hK78 : ∀ (σ : Sg) (v1 : Int) (v2 : Int) (v3 : Int) (v4 : Int64) (v6 : Int) (v7 : Int) (v8 : Int) (v9 : Int64) (v11 : Int) (g1 : rng v1) (g2 : rng v2) (g3 : rng v3) (g6 : rng v6) (g7 : rng v7) (g8 : rng v8) (g11 : rng v11), K78 σ v1 v2 v3 v4 v6 v7 v8 v9 v11 → RG σ → Shp dm ra jx rm σ → JJ p l e R s m args below meth c 15 D cA A n0 s0 QM σ 78 [(0, .ref rm), (1, .int (i32 v1)), (2, .int (i32 v2)), (3, .int (i32 v3)), (4, .long v4), (6, .int (i32 v6)), (7, .int (i32 v7)), (8, .int (i32 v8)), (9, .long v9), (11, .int (i32 v11))] []) : ∀ (σ : Sg) (v1 : Int) (v2 : Int) (v3 : Int) (v4 : Int64) (v6 : Int) (v7 : Int) (v8 : Int) (v9 : Int64) (v11 : Int) (u0 : Int) (u2 : Int64) (u3 : Int) (g1 : rng v1) (g2 : rng v2) (g3 : rng v3) (g6 : rng v6) (g7 : rng v7) (g8 : rng v8) (g11 : rng v11) (gu0 : rng u0) (gu3 : rng u3), w_X16_takeJoin_320 ra jx rm K78 Q X σ v1 v2 v3 v4 v6 v7 v8 v9 v11 u0 u2 u3 → RG σ → Shp dm ra jx rm σ → JJ p l e R s m args below meth c 15 D cA A n0 s0 QM σ 320 [(0, .ref rm), (1, .int (i32 v1)), (2, .int (i32 v2)), (3, .int (i32 v3)), (4, .long v4), (6, .int (i32 v6)), (7, .int (i32 v7)), (8, .int (i32 v8)), (9, .long v9), (11, .int (i32 v11))] [.int (i32 u0), .ref (ra 82), .long u2, .int (i32 u3), .ref rm] := by
  intro σ v1 v2 v3 v4 v6 v7 v8 v9 v11 u0 u2 u3 g1 g2 g3 g6 g7 g8 g11 gu0 gu3 h hGσ hS H locs ls hH hl hc
  have B := K.1
  unfold w_X16_takeJoin_320 at h
  refine lv_aload_n B.1 B.2.1 dX16_takeJoin_320 rfl (lv_at hl 0 rfl) ?_
  refine lv_iload B.1 B.2.1 dX16_takeJoin_321 (lv_at hl 5 rfl) ?_
  refine lv_aload_n B.1 B.2.1 dX16_takeJoin_323 rfl (lv_at hl 0 rfl) ?_
  refine r_arr B hH hS 74 (kd := 100) (n := 4000) (by decide) (by decide) wf_X16_531 rfl rfl dX16_takeJoin_324 ?_
  refine lv_iload B.1 B.2.1 dX16_takeJoin_327 (lv_at hl 9 rfl) ?_
  obtain ⟨q1, h⟩ := h
  refine x_iald B K.2.1 hH (hS.ar (k := 74) (kd := 100) (n := 4000) (by decide)) (by decide) q1 dX16_takeJoin_329 ?_
  refine c_V B hH hl hc K.2.2.1 (C := RX16) (T := TX16) (N := 123) (ci := 16) (As := [.int (i32 v6), .int (i32 (gI σ (ra 74) v11.toNat))]) (ok_X16_joined K.2.1 σ v6 (gI σ (ra 74) v11.toNat) g6 (hGσ _ _) hGσ hS h) wc_X16_603 2 hd_X16_joined ⟨Nat.le_trans (Nat.le_of_ble_eq_true rfl) K.2.2.2.1, Nat.le_trans (Nat.le_of_ble_eq_true rfl) K.2.2.2.2.1⟩ hS.1.1 hS.1.2 (by decide) rfl rfl (rest := [.int (i32 u0), .ref (ra 82), .long u2, .int (i32 u3), .ref rm]) rfl (Nat.le_of_ble_eq_true rfl) dX16_takeJoin_330 (fun σ46 w hq => ?_) (fun σ9 E9 hx9 => hX σ9 E9 _ _ _ (tb_out K.2.2.2.2.2 rfl) hx9.1 hx9.2.1 hx9.2.2)
  obtain ⟨r47, rfl, gr47, h, hGσ46, hS⟩ := hq
  intro H locs ls hH hl hc
  refine W.eq (g2 := F0 m 333 ls [.int (i32 r47), .int (i32 u0), .ref (ra 82), .long u2, .int (i32 u3), .ref rm]) (rfl) ?_
  try dsimp only at h
  refine lv_goto (tgt := 349) B.1 B.2.1 dX16_takeJoin_333 (by decide) ?_
  exact a_X16_takeJoin_349 K hQ hX hK78 _ _ _ _ _ _ _ _ _ _ _ _ _ _ g1 g2 g3 g6 g7 g8 g11 gr47 gu0 gu3 h hGσ46 hS _ _ _ hH (lv_sub (l' := [(0, .ref rm), (1, .int (i32 v1)), (2, .int (i32 v2)), (3, .int (i32 v3)), (4, .long v4), (6, .int (i32 v6)), (7, .int (i32 v7)), (8, .int (i32 v8)), (9, .long v9), (11, .int (i32 v11))]) hl [0, 1, 2, 3, 4, 5, 6, 7, 8, 9] rfl) hc
set_option maxRecDepth 20000 in
theorem a_X16_takeJoin_297 {Q : Sg → Unit → Prop} {X : Sg → String → Prop} (K : MC R p s m args c cX16_takeJoin 15 RX16 D cA tys A n0 s0 3 79 []) (hQ : HQV p l e R s m args below meth c cX16_takeJoin D cA A n0 s0 QM dm ra jx rm Q) (hX : HX p l e R s m args below meth c 15 D cA A n0 s0 QM dm ra jx rm X) {K78 : Sg → Int → Int → Int → Int64 → Int → Int → Int → Int64 → Int → Prop} (hK78 : ∀ (σ : Sg) (v1 : Int) (v2 : Int) (v3 : Int) (v4 : Int64) (v6 : Int) (v7 : Int) (v8 : Int) (v9 : Int64) (v11 : Int) (g1 : rng v1) (g2 : rng v2) (g3 : rng v3) (g6 : rng v6) (g7 : rng v7) (g8 : rng v8) (g11 : rng v11), K78 σ v1 v2 v3 v4 v6 v7 v8 v9 v11 → RG σ → Shp dm ra jx rm σ → JJ p l e R s m args below meth c 15 D cA A n0 s0 QM σ 78 [(0, .ref rm), (1, .int (i32 v1)), (2, .int (i32 v2)), (3, .int (i32 v3)), (4, .long v4), (6, .int (i32 v6)), (7, .int (i32 v7)), (8, .int (i32 v8)), (9, .long v9), (11, .int (i32 v11))] []) : ∀ (σ : Sg) (v1 : Int) (v2 : Int) (v3 : Int) (v4 : Int64) (v6 : Int) (v7 : Int) (v8 : Int) (v9 : Int64) (v11 : Int) (g1 : rng v1) (g2 : rng v2) (g3 : rng v3) (g6 : rng v6) (g7 : rng v7) (g8 : rng v8) (g11 : rng v11), w_X16_takeJoin_297 ra jx rm K78 Q X σ v1 v2 v3 v4 v6 v7 v8 v9 v11 → RG σ → Shp dm ra jx rm σ → JJ p l e R s m args below meth c 15 D cA A n0 s0 QM σ 297 [(0, .ref rm), (1, .int (i32 v1)), (2, .int (i32 v2)), (3, .int (i32 v3)), (4, .long v4), (6, .int (i32 v6)), (7, .int (i32 v7)), (8, .int (i32 v8)), (9, .long v9), (11, .int (i32 v11))] [] := by
  intro σ v1 v2 v3 v4 v6 v7 v8 v9 v11 g1 g2 g3 g6 g7 g8 g11 h hGσ hS H locs ls hH hl hc
  have B := K.1
  unfold w_X16_takeJoin_297 at h
  refine lv_aload_n B.1 B.2.1 dX16_takeJoin_297 rfl (lv_at hl 0 rfl) ?_
  refine lv_iload_n B.1 B.2.1 dX16_takeJoin_298 rfl (lv_at hl 1 rfl) ?_
  refine lv_lload B.1 B.2.1 dX16_takeJoin_299 (lv_at hl 4 rfl) ?_
  refine lv_aload_n B.1 B.2.1 dX16_takeJoin_301 rfl (lv_at hl 0 rfl) ?_
  refine r_arr B hH hS 71 (kd := 101) (n := 4000) (by decide) (by decide) wf_X16_522 rfl rfl dX16_takeJoin_302 ?_
  refine lv_iload B.1 B.2.1 dX16_takeJoin_305 (lv_at hl 9 rfl) ?_
  obtain ⟨q1, h⟩ := h
  refine x_lald B K.2.1 hH (hS.ar (k := 71) (kd := 101) (n := 4000) (by decide)) (by decide) q1 dX16_takeJoin_307 ?_
  refine c_S B hH hl hc K.2.2.1 (As := [.long v4, .long (gJ σ (ra 71) v11.toNat)]) (ok_J9_max_f86c9 (dm := dm) (ra := ra) (jx := jx) (rm := rm) K.2.1 σ v4 (gJ σ (ra 71) v11.toNat) hGσ hS mj_J9_max_f86c9) wc_X16_586 2 hd_J9_max_f86c9 ⟨Nat.le_trans (Nat.le_of_ble_eq_true rfl) K.2.2.2.1, Nat.le_trans (Nat.le_of_ble_eq_true rfl) K.2.2.2.2.1⟩ rfl (rest := [.int (i32 v1), .ref rm]) rfl (Nat.le_of_ble_eq_true rfl) dX16_takeJoin_308 (fun σm2 w hq => ?_) (fun σ9 E9 hx9 => False.elim hx9.1)
  obtain ⟨rm9, rfl, ⟨e9, rfl⟩, hG9, hS9⟩ := hq
  subst e9
  intro H locs ls hH hl hc
  refine W.eq (g2 := F0 m 311 ls [.long (maxJ v4 (gJ σ (ra 71) v11.toNat)), .int (i32 v1), .ref rm]) (rfl) ?_
  refine lv_aload_n B.1 B.2.1 dX16_takeJoin_311 rfl (lv_at hl 0 rfl) ?_
  refine r_arr B hH hS 82 (kd := 101) (n := 16) (by decide) (by decide) wf_X16_578 rfl rfl dX16_takeJoin_312 ?_
  refine lv_iconst (v := i32 0) B.1 B.2.1 dX16_takeJoin_315 (by decide) ?_
  refine lv_iload_n B.1 B.2.1 dX16_takeJoin_316 rfl (lv_at hl 3 rfl) ?_
  refine lv_if_ne (tgt := 336) B.1 B.2.1 dX16_takeJoin_317 (by decide) (fun h9 => ?_) (fun h9 => ?_)
  · rw [if_pos (fun q => h9 ((z_eq g3).mpr q))] at h
    exact a_X16_takeJoin_336 K hQ hX hK78 _ _ _ _ _ _ _ _ _ _ _ _ _ g1 g2 g3 g6 g7 g8 g11 (by unfold rng; omega) g1 h hGσ hS _ _ _ hH (lv_sub (l' := [(0, .ref rm), (1, .int (i32 v1)), (2, .int (i32 v2)), (3, .int (i32 v3)), (4, .long v4), (6, .int (i32 v6)), (7, .int (i32 v7)), (8, .int (i32 v8)), (9, .long v9), (11, .int (i32 v11))]) hl [0, 1, 2, 3, 4, 5, 6, 7, 8, 9] rfl) hc
  · rw [if_neg (fun q => q ((z_eq g3).mp h9))] at h
    exact a_X16_takeJoin_320 K hQ hX hK78 _ _ _ _ _ _ _ _ _ _ _ _ _ g1 g2 g3 g6 g7 g8 g11 (by unfold rng; omega) g1 h hGσ hS _ _ _ hH (lv_sub (l' := [(0, .ref rm), (1, .int (i32 v1)), (2, .int (i32 v2)), (3, .int (i32 v3)), (4, .long v4), (6, .int (i32 v6)), (7, .int (i32 v7)), (8, .int (i32 v8)), (9, .long v9), (11, .int (i32 v11))]) hl [0, 1, 2, 3, 4, 5, 6, 7, 8, 9] rfl) hc
set_option maxRecDepth 20000 in
theorem a_X16_takeJoin_290 {Q : Sg → Unit → Prop} {X : Sg → String → Prop} (K : MC R p s m args c cX16_takeJoin 15 RX16 D cA tys A n0 s0 3 79 []) (hQ : HQV p l e R s m args below meth c cX16_takeJoin D cA A n0 s0 QM dm ra jx rm Q) (hX : HX p l e R s m args below meth c 15 D cA A n0 s0 QM dm ra jx rm X) {K78 : Sg → Int → Int → Int → Int64 → Int → Int → Int → Int64 → Int → Prop} (hK78 : ∀ (σ : Sg) (v1 : Int) (v2 : Int) (v3 : Int) (v4 : Int64) (v6 : Int) (v7 : Int) (v8 : Int) (v9 : Int64) (v11 : Int) (g1 : rng v1) (g2 : rng v2) (g3 : rng v3) (g6 : rng v6) (g7 : rng v7) (g8 : rng v8) (g11 : rng v11), K78 σ v1 v2 v3 v4 v6 v7 v8 v9 v11 → RG σ → Shp dm ra jx rm σ → JJ p l e R s m args below meth c 15 D cA A n0 s0 QM σ 78 [(0, .ref rm), (1, .int (i32 v1)), (2, .int (i32 v2)), (3, .int (i32 v3)), (4, .long v4), (6, .int (i32 v6)), (7, .int (i32 v7)), (8, .int (i32 v8)), (9, .long v9), (11, .int (i32 v11))] []) {K246 : Sg → Int → Int → Int → Int64 → Int → Int → Int → Int64 → Int → Int → Prop} (hK246 : ∀ (σ : Sg) (v1 : Int) (v2 : Int) (v3 : Int) (v4 : Int64) (v6 : Int) (v7 : Int) (v8 : Int) (v9 : Int64) (v11 : Int) (v14 : Int) (g1 : rng v1) (g2 : rng v2) (g3 : rng v3) (g6 : rng v6) (g7 : rng v7) (g8 : rng v8) (g11 : rng v11) (g14 : rng v14), K246 σ v1 v2 v3 v4 v6 v7 v8 v9 v11 v14 → RG σ → Shp dm ra jx rm σ → JJ p l e R s m args below meth c 15 D cA A n0 s0 QM σ 246 [(0, .ref rm), (1, .int (i32 v1)), (2, .int (i32 v2)), (3, .int (i32 v3)), (4, .long v4), (6, .int (i32 v6)), (7, .int (i32 v7)), (8, .int (i32 v8)), (9, .long v9), (11, .int (i32 v11)), (14, .int (i32 v14))] []) : ∀ (σ : Sg) (v1 : Int) (v2 : Int) (v3 : Int) (v4 : Int64) (v6 : Int) (v7 : Int) (v8 : Int) (v9 : Int64) (v11 : Int) (v14 : Int) (u0 : Int64) (u1 : Int) (g1 : rng v1) (g2 : rng v2) (g3 : rng v3) (g6 : rng v6) (g7 : rng v7) (g8 : rng v8) (g11 : rng v11) (g14 : rng v14) (gu1 : rng u1), w_X16_takeJoin_290 ra jx rm K78 K246 Q X σ v1 v2 v3 v4 v6 v7 v8 v9 v11 v14 u0 u1 → RG σ → Shp dm ra jx rm σ → JJ p l e R s m args below meth c 15 D cA A n0 s0 QM σ 290 [(0, .ref rm), (1, .int (i32 v1)), (2, .int (i32 v2)), (3, .int (i32 v3)), (4, .long v4), (6, .int (i32 v6)), (7, .int (i32 v7)), (8, .int (i32 v8)), (9, .long v9), (11, .int (i32 v11)), (14, .int (i32 v14))] [.long u0, .int (i32 u1), .ref (ra 82)] := by
  intro σ v1 v2 v3 v4 v6 v7 v8 v9 v11 v14 u0 u1 g1 g2 g3 g6 g7 g8 g11 g14 gu1 h hGσ hS H locs ls hH hl hc
  have B := K.1
  unfold w_X16_takeJoin_290 at h
  obtain ⟨q1, h⟩ := h
  obtain ⟨σ48, eσ48⟩ : ∃ z, z = pJ σ (ra 82) u1.toNat u0 := ⟨_, rfl⟩
  have h := h σ48 eσ48
  refine x_last B K.2.1 hH (hS.ar (k := 82) (kd := 101) (n := 16) (by decide)) (by decide) q1 dX16_takeJoin_290 (fun H locs hH => ?_)
  have hH : Hd D cA A s (pJ σ (ra 82) u1.toNat u0) H locs := hH
  rw [← eσ48] at hH
  have hGσ48 : RG σ48 := by rw [eσ48]; exact hGσ.pJ
  have hS : Shp dm ra jx rm σ48 := by rw [eσ48]; exact hS
  have hc : CB n0 s0 σ48 := by rw [eσ48]; exact hc
  rw [show gc σ = gc σ48 by rw [eσ48], show gs σ = gs σ48 by rw [eσ48]]
  obtain ⟨q3, h⟩ := h
  refine lv_iinc (k := 10) (v := i32 (v14 + 1)) (lv' := [(14, .int (i32 (v14 + 1))), (0, .ref rm), (1, .int (i32 v1)), (2, .int (i32 v2)), (3, .int (i32 v3)), (4, .long v4), (6, .int (i32 v6)), (7, .int (i32 v7)), (8, .int (i32 v8)), (9, .long v9), (11, .int (i32 v11))]) B.1 B.2.1 dX16_takeJoin_291 hl rfl (i32_add _ _) (by decide) rfl (fun ls hl => ?_)
  refine lv_goto (tgt := 246) B.1 B.2.1 dX16_takeJoin_294 (by decide) ?_
  exact hK246 _ _ _ _ _ _ _ _ _ _ _ g1 g2 g3 g6 g7 g8 g11 q3 h hGσ48 hS _ _ _ hH (lv_sub (l' := [(0, .ref rm), (1, .int (i32 v1)), (2, .int (i32 v2)), (3, .int (i32 v3)), (4, .long v4), (6, .int (i32 v6)), (7, .int (i32 v7)), (8, .int (i32 v8)), (9, .long v9), (11, .int (i32 v11)), (14, .int (i32 (v14 + 1)))]) hl [1, 2, 3, 4, 5, 6, 7, 8, 9, 10, 0] rfl) hc
set_option maxRecDepth 20000 in
theorem a_X16_takeJoin_277 {Q : Sg → Unit → Prop} {X : Sg → String → Prop} (K : MC R p s m args c cX16_takeJoin 15 RX16 D cA tys A n0 s0 3 79 []) (hQ : HQV p l e R s m args below meth c cX16_takeJoin D cA A n0 s0 QM dm ra jx rm Q) (hX : HX p l e R s m args below meth c 15 D cA A n0 s0 QM dm ra jx rm X) {K78 : Sg → Int → Int → Int → Int64 → Int → Int → Int → Int64 → Int → Prop} (hK78 : ∀ (σ : Sg) (v1 : Int) (v2 : Int) (v3 : Int) (v4 : Int64) (v6 : Int) (v7 : Int) (v8 : Int) (v9 : Int64) (v11 : Int) (g1 : rng v1) (g2 : rng v2) (g3 : rng v3) (g6 : rng v6) (g7 : rng v7) (g8 : rng v8) (g11 : rng v11), K78 σ v1 v2 v3 v4 v6 v7 v8 v9 v11 → RG σ → Shp dm ra jx rm σ → JJ p l e R s m args below meth c 15 D cA A n0 s0 QM σ 78 [(0, .ref rm), (1, .int (i32 v1)), (2, .int (i32 v2)), (3, .int (i32 v3)), (4, .long v4), (6, .int (i32 v6)), (7, .int (i32 v7)), (8, .int (i32 v8)), (9, .long v9), (11, .int (i32 v11))] []) {K246 : Sg → Int → Int → Int → Int64 → Int → Int → Int → Int64 → Int → Int → Prop} (hK246 : ∀ (σ : Sg) (v1 : Int) (v2 : Int) (v3 : Int) (v4 : Int64) (v6 : Int) (v7 : Int) (v8 : Int) (v9 : Int64) (v11 : Int) (v14 : Int) (g1 : rng v1) (g2 : rng v2) (g3 : rng v3) (g6 : rng v6) (g7 : rng v7) (g8 : rng v8) (g11 : rng v11) (g14 : rng v14), K246 σ v1 v2 v3 v4 v6 v7 v8 v9 v11 v14 → RG σ → Shp dm ra jx rm σ → JJ p l e R s m args below meth c 15 D cA A n0 s0 QM σ 246 [(0, .ref rm), (1, .int (i32 v1)), (2, .int (i32 v2)), (3, .int (i32 v3)), (4, .long v4), (6, .int (i32 v6)), (7, .int (i32 v7)), (8, .int (i32 v8)), (9, .long v9), (11, .int (i32 v11)), (14, .int (i32 v14))] []) : ∀ (σ : Sg) (v1 : Int) (v2 : Int) (v3 : Int) (v4 : Int64) (v6 : Int) (v7 : Int) (v8 : Int) (v9 : Int64) (v11 : Int) (v14 : Int) (u0 : Int) (g1 : rng v1) (g2 : rng v2) (g3 : rng v3) (g6 : rng v6) (g7 : rng v7) (g8 : rng v8) (g11 : rng v11) (g14 : rng v14) (gu0 : rng u0), w_X16_takeJoin_277 ra jx rm K78 K246 Q X σ v1 v2 v3 v4 v6 v7 v8 v9 v11 v14 u0 → RG σ → Shp dm ra jx rm σ → JJ p l e R s m args below meth c 15 D cA A n0 s0 QM σ 277 [(0, .ref rm), (1, .int (i32 v1)), (2, .int (i32 v2)), (3, .int (i32 v3)), (4, .long v4), (6, .int (i32 v6)), (7, .int (i32 v7)), (8, .int (i32 v8)), (9, .long v9), (11, .int (i32 v11)), (14, .int (i32 v14))] [.int (i32 u0), .ref (ra 82)] := by
  intro σ v1 v2 v3 v4 v6 v7 v8 v9 v11 v14 u0 g1 g2 g3 g6 g7 g8 g11 g14 gu0 h hGσ hS H locs ls hH hl hc
  have B := K.1
  unfold w_X16_takeJoin_277 at h
  refine lv_aload_n B.1 B.2.1 dX16_takeJoin_277 rfl (lv_at hl 0 rfl) ?_
  refine r_arr B hH hS 73 (kd := 101) (n := 32000) (by decide) (by decide) wf_X16_528 rfl rfl dX16_takeJoin_278 ?_
  refine lv_bipush (v := i32 8) B.1 B.2.1 dX16_takeJoin_281 (by decide) ?_
  refine lv_iload B.1 B.2.1 dX16_takeJoin_283 (lv_at hl 9 rfl) ?_
  obtain ⟨q1, h⟩ := h
  refine lv_imul B.1 B.2.1 dX16_takeJoin_285 ?_
  rw [i32_mul]
  refine lv_iload B.1 B.2.1 dX16_takeJoin_286 (lv_at hl 10 rfl) ?_
  obtain ⟨q2, h⟩ := h
  refine lv_iadd B.1 B.2.1 dX16_takeJoin_288 ?_
  rw [i32_add]
  obtain ⟨q3, h⟩ := h
  refine x_lald B K.2.1 hH (hS.ar (k := 73) (kd := 101) (n := 32000) (by decide)) (by decide) q3 dX16_takeJoin_289 ?_
  exact a_X16_takeJoin_290 K hQ hX hK78 hK246 _ _ _ _ _ _ _ _ _ _ _ _ _ g1 g2 g3 g6 g7 g8 g11 g14 gu0 h hGσ hS _ _ _ hH (lv_sub (l' := [(0, .ref rm), (1, .int (i32 v1)), (2, .int (i32 v2)), (3, .int (i32 v3)), (4, .long v4), (6, .int (i32 v6)), (7, .int (i32 v7)), (8, .int (i32 v8)), (9, .long v9), (11, .int (i32 v11)), (14, .int (i32 v14))]) hl [0, 1, 2, 3, 4, 5, 6, 7, 8, 9, 10] rfl) hc
set_option maxRecDepth 20000 in
theorem a_X16_takeJoin_267 {Q : Sg → Unit → Prop} {X : Sg → String → Prop} (K : MC R p s m args c cX16_takeJoin 15 RX16 D cA tys A n0 s0 3 79 []) (hQ : HQV p l e R s m args below meth c cX16_takeJoin D cA A n0 s0 QM dm ra jx rm Q) (hX : HX p l e R s m args below meth c 15 D cA A n0 s0 QM dm ra jx rm X) {K78 : Sg → Int → Int → Int → Int64 → Int → Int → Int → Int64 → Int → Prop} (hK78 : ∀ (σ : Sg) (v1 : Int) (v2 : Int) (v3 : Int) (v4 : Int64) (v6 : Int) (v7 : Int) (v8 : Int) (v9 : Int64) (v11 : Int) (g1 : rng v1) (g2 : rng v2) (g3 : rng v3) (g6 : rng v6) (g7 : rng v7) (g8 : rng v8) (g11 : rng v11), K78 σ v1 v2 v3 v4 v6 v7 v8 v9 v11 → RG σ → Shp dm ra jx rm σ → JJ p l e R s m args below meth c 15 D cA A n0 s0 QM σ 78 [(0, .ref rm), (1, .int (i32 v1)), (2, .int (i32 v2)), (3, .int (i32 v3)), (4, .long v4), (6, .int (i32 v6)), (7, .int (i32 v7)), (8, .int (i32 v8)), (9, .long v9), (11, .int (i32 v11))] []) {K246 : Sg → Int → Int → Int → Int64 → Int → Int → Int → Int64 → Int → Int → Prop} (hK246 : ∀ (σ : Sg) (v1 : Int) (v2 : Int) (v3 : Int) (v4 : Int64) (v6 : Int) (v7 : Int) (v8 : Int) (v9 : Int64) (v11 : Int) (v14 : Int) (g1 : rng v1) (g2 : rng v2) (g3 : rng v3) (g6 : rng v6) (g7 : rng v7) (g8 : rng v8) (g11 : rng v11) (g14 : rng v14), K246 σ v1 v2 v3 v4 v6 v7 v8 v9 v11 v14 → RG σ → Shp dm ra jx rm σ → JJ p l e R s m args below meth c 15 D cA A n0 s0 QM σ 246 [(0, .ref rm), (1, .int (i32 v1)), (2, .int (i32 v2)), (3, .int (i32 v3)), (4, .long v4), (6, .int (i32 v6)), (7, .int (i32 v7)), (8, .int (i32 v8)), (9, .long v9), (11, .int (i32 v11)), (14, .int (i32 v14))] []) : ∀ (σ : Sg) (v1 : Int) (v2 : Int) (v3 : Int) (v4 : Int64) (v6 : Int) (v7 : Int) (v8 : Int) (v9 : Int64) (v11 : Int) (v14 : Int) (u0 : Int) (g1 : rng v1) (g2 : rng v2) (g3 : rng v3) (g6 : rng v6) (g7 : rng v7) (g8 : rng v8) (g11 : rng v11) (g14 : rng v14) (gu0 : rng u0), w_X16_takeJoin_267 ra jx rm K78 K246 Q X σ v1 v2 v3 v4 v6 v7 v8 v9 v11 v14 u0 → RG σ → Shp dm ra jx rm σ → JJ p l e R s m args below meth c 15 D cA A n0 s0 QM σ 267 [(0, .ref rm), (1, .int (i32 v1)), (2, .int (i32 v2)), (3, .int (i32 v3)), (4, .long v4), (6, .int (i32 v6)), (7, .int (i32 v7)), (8, .int (i32 v8)), (9, .long v9), (11, .int (i32 v11)), (14, .int (i32 v14))] [.int (i32 u0), .ref (ra 82)] := by
  intro σ v1 v2 v3 v4 v6 v7 v8 v9 v11 v14 u0 g1 g2 g3 g6 g7 g8 g11 g14 gu0 h hGσ hS H locs ls hH hl hc
  have B := K.1
  unfold w_X16_takeJoin_267 at h
  refine lv_aload_n B.1 B.2.1 dX16_takeJoin_267 rfl (lv_at hl 0 rfl) ?_
  refine r_arr B hH hS 81 (kd := 101) (n := 8) (by decide) (by decide) wf_X16_542 rfl rfl dX16_takeJoin_268 ?_
  refine lv_iload B.1 B.2.1 dX16_takeJoin_271 (lv_at hl 10 rfl) ?_
  obtain ⟨q1, h⟩ := h
  refine x_lald B K.2.1 hH (hS.ar (k := 81) (kd := 101) (n := 8) (by decide)) (by decide) q1 dX16_takeJoin_273 ?_
  refine lv_goto (tgt := 290) B.1 B.2.1 dX16_takeJoin_274 (by decide) ?_
  exact a_X16_takeJoin_290 K hQ hX hK78 hK246 _ _ _ _ _ _ _ _ _ _ _ _ _ g1 g2 g3 g6 g7 g8 g11 g14 gu0 h hGσ hS _ _ _ hH (lv_sub (l' := [(0, .ref rm), (1, .int (i32 v1)), (2, .int (i32 v2)), (3, .int (i32 v3)), (4, .long v4), (6, .int (i32 v6)), (7, .int (i32 v7)), (8, .int (i32 v8)), (9, .long v9), (11, .int (i32 v11)), (14, .int (i32 v14))]) hl [0, 1, 2, 3, 4, 5, 6, 7, 8, 9, 10] rfl) hc
set_option maxRecDepth 20000 in
theorem a_X16_takeJoin_253 {Q : Sg → Unit → Prop} {X : Sg → String → Prop} (K : MC R p s m args c cX16_takeJoin 15 RX16 D cA tys A n0 s0 3 79 []) (hQ : HQV p l e R s m args below meth c cX16_takeJoin D cA A n0 s0 QM dm ra jx rm Q) (hX : HX p l e R s m args below meth c 15 D cA A n0 s0 QM dm ra jx rm X) {K78 : Sg → Int → Int → Int → Int64 → Int → Int → Int → Int64 → Int → Prop} (hK78 : ∀ (σ : Sg) (v1 : Int) (v2 : Int) (v3 : Int) (v4 : Int64) (v6 : Int) (v7 : Int) (v8 : Int) (v9 : Int64) (v11 : Int) (g1 : rng v1) (g2 : rng v2) (g3 : rng v3) (g6 : rng v6) (g7 : rng v7) (g8 : rng v8) (g11 : rng v11), K78 σ v1 v2 v3 v4 v6 v7 v8 v9 v11 → RG σ → Shp dm ra jx rm σ → JJ p l e R s m args below meth c 15 D cA A n0 s0 QM σ 78 [(0, .ref rm), (1, .int (i32 v1)), (2, .int (i32 v2)), (3, .int (i32 v3)), (4, .long v4), (6, .int (i32 v6)), (7, .int (i32 v7)), (8, .int (i32 v8)), (9, .long v9), (11, .int (i32 v11))] []) {K246 : Sg → Int → Int → Int → Int64 → Int → Int → Int → Int64 → Int → Int → Prop} (hK246 : ∀ (σ : Sg) (v1 : Int) (v2 : Int) (v3 : Int) (v4 : Int64) (v6 : Int) (v7 : Int) (v8 : Int) (v9 : Int64) (v11 : Int) (v14 : Int) (g1 : rng v1) (g2 : rng v2) (g3 : rng v3) (g6 : rng v6) (g7 : rng v7) (g8 : rng v8) (g11 : rng v11) (g14 : rng v14), K246 σ v1 v2 v3 v4 v6 v7 v8 v9 v11 v14 → RG σ → Shp dm ra jx rm σ → JJ p l e R s m args below meth c 15 D cA A n0 s0 QM σ 246 [(0, .ref rm), (1, .int (i32 v1)), (2, .int (i32 v2)), (3, .int (i32 v3)), (4, .long v4), (6, .int (i32 v6)), (7, .int (i32 v7)), (8, .int (i32 v8)), (9, .long v9), (11, .int (i32 v11)), (14, .int (i32 v14))] []) : ∀ (σ : Sg) (v1 : Int) (v2 : Int) (v3 : Int) (v4 : Int64) (v6 : Int) (v7 : Int) (v8 : Int) (v9 : Int64) (v11 : Int) (v14 : Int) (g1 : rng v1) (g2 : rng v2) (g3 : rng v3) (g6 : rng v6) (g7 : rng v7) (g8 : rng v8) (g11 : rng v11) (g14 : rng v14), w_X16_takeJoin_253 ra jx rm K78 K246 Q X σ v1 v2 v3 v4 v6 v7 v8 v9 v11 v14 → RG σ → Shp dm ra jx rm σ → JJ p l e R s m args below meth c 15 D cA A n0 s0 QM σ 253 [(0, .ref rm), (1, .int (i32 v1)), (2, .int (i32 v2)), (3, .int (i32 v3)), (4, .long v4), (6, .int (i32 v6)), (7, .int (i32 v7)), (8, .int (i32 v8)), (9, .long v9), (11, .int (i32 v11)), (14, .int (i32 v14))] [] := by
  intro σ v1 v2 v3 v4 v6 v7 v8 v9 v11 v14 g1 g2 g3 g6 g7 g8 g11 g14 h hGσ hS H locs ls hH hl hc
  have B := K.1
  unfold w_X16_takeJoin_253 at h
  refine lv_aload_n B.1 B.2.1 dX16_takeJoin_253 rfl (lv_at hl 0 rfl) ?_
  refine r_arr B hH hS 82 (kd := 101) (n := 16) (by decide) (by decide) wf_X16_578 rfl rfl dX16_takeJoin_254 ?_
  refine lv_iload B.1 B.2.1 dX16_takeJoin_257 (lv_at hl 6 rfl) ?_
  refine lv_iload B.1 B.2.1 dX16_takeJoin_259 (lv_at hl 10 rfl) ?_
  obtain ⟨q1, h⟩ := h
  refine lv_iadd B.1 B.2.1 dX16_takeJoin_261 ?_
  rw [i32_add]
  refine lv_iload_n B.1 B.2.1 dX16_takeJoin_262 rfl (lv_at hl 3 rfl) ?_
  refine lv_iconst (v := i32 1) B.1 B.2.1 dX16_takeJoin_263 (by decide) ?_
  refine lv_icmp_ne (tgt := 277) B.1 B.2.1 dX16_takeJoin_264 (by decide) (fun h9 => ?_) (fun h9 => ?_)
  · rw [if_pos (fun q => h9 ((i32_eq g3 (by unfold rng; omega)).mpr q))] at h
    exact a_X16_takeJoin_277 K hQ hX hK78 hK246 _ _ _ _ _ _ _ _ _ _ _ _ g1 g2 g3 g6 g7 g8 g11 g14 q1 h hGσ hS _ _ _ hH (lv_sub (l' := [(0, .ref rm), (1, .int (i32 v1)), (2, .int (i32 v2)), (3, .int (i32 v3)), (4, .long v4), (6, .int (i32 v6)), (7, .int (i32 v7)), (8, .int (i32 v8)), (9, .long v9), (11, .int (i32 v11)), (14, .int (i32 v14))]) hl [0, 1, 2, 3, 4, 5, 6, 7, 8, 9, 10] rfl) hc
  · rw [if_neg (fun q => q ((i32_eq g3 (by unfold rng; omega)).mp h9))] at h
    exact a_X16_takeJoin_267 K hQ hX hK78 hK246 _ _ _ _ _ _ _ _ _ _ _ _ g1 g2 g3 g6 g7 g8 g11 g14 q1 h hGσ hS _ _ _ hH (lv_sub (l' := [(0, .ref rm), (1, .int (i32 v1)), (2, .int (i32 v2)), (3, .int (i32 v3)), (4, .long v4), (6, .int (i32 v6)), (7, .int (i32 v7)), (8, .int (i32 v8)), (9, .long v9), (11, .int (i32 v11)), (14, .int (i32 v14))]) hl [0, 1, 2, 3, 4, 5, 6, 7, 8, 9, 10] rfl) hc
set_option maxRecDepth 20000 in
theorem a_X16_takeJoin_246 {Q : Sg → Unit → Prop} {X : Sg → String → Prop} (K : MC R p s m args c cX16_takeJoin 15 RX16 D cA tys A n0 s0 3 79 []) (hQ : HQV p l e R s m args below meth c cX16_takeJoin D cA A n0 s0 QM dm ra jx rm Q) (hX : HX p l e R s m args below meth c 15 D cA A n0 s0 QM dm ra jx rm X) {K78 : Sg → Int → Int → Int → Int64 → Int → Int → Int → Int64 → Int → Prop} (hK78 : ∀ (σ : Sg) (v1 : Int) (v2 : Int) (v3 : Int) (v4 : Int64) (v6 : Int) (v7 : Int) (v8 : Int) (v9 : Int64) (v11 : Int) (g1 : rng v1) (g2 : rng v2) (g3 : rng v3) (g6 : rng v6) (g7 : rng v7) (g8 : rng v8) (g11 : rng v11), K78 σ v1 v2 v3 v4 v6 v7 v8 v9 v11 → RG σ → Shp dm ra jx rm σ → JJ p l e R s m args below meth c 15 D cA A n0 s0 QM σ 78 [(0, .ref rm), (1, .int (i32 v1)), (2, .int (i32 v2)), (3, .int (i32 v3)), (4, .long v4), (6, .int (i32 v6)), (7, .int (i32 v7)), (8, .int (i32 v8)), (9, .long v9), (11, .int (i32 v11))] []) {K246 : Sg → Int → Int → Int → Int64 → Int → Int → Int → Int64 → Int → Int → Prop} (hK246 : ∀ (σ : Sg) (v1 : Int) (v2 : Int) (v3 : Int) (v4 : Int64) (v6 : Int) (v7 : Int) (v8 : Int) (v9 : Int64) (v11 : Int) (v14 : Int) (g1 : rng v1) (g2 : rng v2) (g3 : rng v3) (g6 : rng v6) (g7 : rng v7) (g8 : rng v8) (g11 : rng v11) (g14 : rng v14), K246 σ v1 v2 v3 v4 v6 v7 v8 v9 v11 v14 → RG σ → Shp dm ra jx rm σ → JJ p l e R s m args below meth c 15 D cA A n0 s0 QM σ 246 [(0, .ref rm), (1, .int (i32 v1)), (2, .int (i32 v2)), (3, .int (i32 v3)), (4, .long v4), (6, .int (i32 v6)), (7, .int (i32 v7)), (8, .int (i32 v8)), (9, .long v9), (11, .int (i32 v11)), (14, .int (i32 v14))] []) : ∀ (σ : Sg) (v1 : Int) (v2 : Int) (v3 : Int) (v4 : Int64) (v6 : Int) (v7 : Int) (v8 : Int) (v9 : Int64) (v11 : Int) (v14 : Int) (g1 : rng v1) (g2 : rng v2) (g3 : rng v3) (g6 : rng v6) (g7 : rng v7) (g8 : rng v8) (g11 : rng v11) (g14 : rng v14), w_X16_takeJoin_246 ra jx rm K78 K246 Q X σ v1 v2 v3 v4 v6 v7 v8 v9 v11 v14 → RG σ → Shp dm ra jx rm σ → JJ p l e R s m args below meth c 15 D cA A n0 s0 QM σ 246 [(0, .ref rm), (1, .int (i32 v1)), (2, .int (i32 v2)), (3, .int (i32 v3)), (4, .long v4), (6, .int (i32 v6)), (7, .int (i32 v7)), (8, .int (i32 v8)), (9, .long v9), (11, .int (i32 v11)), (14, .int (i32 v14))] [] := by
  intro σ v1 v2 v3 v4 v6 v7 v8 v9 v11 v14 g1 g2 g3 g6 g7 g8 g11 g14 h hGσ hS H locs ls hH hl hc
  have B := K.1
  unfold w_X16_takeJoin_246 at h
  refine lv_iload B.1 B.2.1 dX16_takeJoin_246 (lv_at hl 10 rfl) ?_
  refine lv_iload B.1 B.2.1 dX16_takeJoin_248 (lv_at hl 7 rfl) ?_
  refine lv_icmp_ge (tgt := 297) B.1 B.2.1 dX16_takeJoin_250 (by decide) (fun h9 => ?_) (fun h9 => ?_)
  · rw [if_pos ((i32_le g8 g14).mp h9)] at h
    exact a_X16_takeJoin_297 K hQ hX hK78 _ _ _ _ _ _ _ _ _ _ g1 g2 g3 g6 g7 g8 g11 h hGσ hS _ _ _ hH (lv_sub (l' := [(0, .ref rm), (1, .int (i32 v1)), (2, .int (i32 v2)), (3, .int (i32 v3)), (4, .long v4), (6, .int (i32 v6)), (7, .int (i32 v7)), (8, .int (i32 v8)), (9, .long v9), (11, .int (i32 v11))]) hl [0, 1, 2, 3, 4, 5, 6, 7, 8, 9] rfl) hc
  · rw [if_neg (fun q => h9 ((i32_le g8 g14).mpr q))] at h
    exact a_X16_takeJoin_253 K hQ hX hK78 hK246 _ _ _ _ _ _ _ _ _ _ _ g1 g2 g3 g6 g7 g8 g11 g14 h hGσ hS _ _ _ hH (lv_sub (l' := [(0, .ref rm), (1, .int (i32 v1)), (2, .int (i32 v2)), (3, .int (i32 v3)), (4, .long v4), (6, .int (i32 v6)), (7, .int (i32 v7)), (8, .int (i32 v8)), (9, .long v9), (11, .int (i32 v11)), (14, .int (i32 v14))]) hl [0, 1, 2, 3, 4, 5, 6, 7, 8, 9, 10] rfl) hc
theorem al_X16_takeJoin_246 {Q : Sg → Unit → Prop} {X : Sg → String → Prop} (K : MC R p s m args c cX16_takeJoin 15 RX16 D cA tys A n0 s0 3 79 []) (hQ : HQV p l e R s m args below meth c cX16_takeJoin D cA A n0 s0 QM dm ra jx rm Q) (hX : HX p l e R s m args below meth c 15 D cA A n0 s0 QM dm ra jx rm X) {K78 : Sg → Int → Int → Int → Int64 → Int → Int → Int → Int64 → Int → Prop} (hK78 : ∀ (σ : Sg) (v1 : Int) (v2 : Int) (v3 : Int) (v4 : Int64) (v6 : Int) (v7 : Int) (v8 : Int) (v9 : Int64) (v11 : Int) (g1 : rng v1) (g2 : rng v2) (g3 : rng v3) (g6 : rng v6) (g7 : rng v7) (g8 : rng v8) (g11 : rng v11), K78 σ v1 v2 v3 v4 v6 v7 v8 v9 v11 → RG σ → Shp dm ra jx rm σ → JJ p l e R s m args below meth c 15 D cA A n0 s0 QM σ 78 [(0, .ref rm), (1, .int (i32 v1)), (2, .int (i32 v2)), (3, .int (i32 v3)), (4, .long v4), (6, .int (i32 v6)), (7, .int (i32 v7)), (8, .int (i32 v8)), (9, .long v9), (11, .int (i32 v11))] []) : ∀ (n : Nat), ∀ (σ : Sg) (v1 : Int) (v2 : Int) (v3 : Int) (v4 : Int64) (v6 : Int) (v7 : Int) (v8 : Int) (v9 : Int64) (v11 : Int) (v14 : Int) (g1 : rng v1) (g2 : rng v2) (g3 : rng v3) (g6 : rng v6) (g7 : rng v7) (g8 : rng v8) (g11 : rng v11) (g14 : rng v14), wl_X16_takeJoin_246 ra jx rm K78 Q X n σ v1 v2 v3 v4 v6 v7 v8 v9 v11 v14 → RG σ → Shp dm ra jx rm σ → JJ p l e R s m args below meth c 15 D cA A n0 s0 QM σ 246 [(0, .ref rm), (1, .int (i32 v1)), (2, .int (i32 v2)), (3, .int (i32 v3)), (4, .long v4), (6, .int (i32 v6)), (7, .int (i32 v7)), (8, .int (i32 v8)), (9, .long v9), (11, .int (i32 v11)), (14, .int (i32 v14))] [] := by
  intro n
  induction n with
  | zero => intro σ v1 v2 v3 v4 v6 v7 v8 v9 v11 v14 g1 g2 g3 g6 g7 g8 g11 g14 h; exact h.elim
  | succ n ih => exact fun σ v1 v2 v3 v4 v6 v7 v8 v9 v11 v14 g1 g2 g3 g6 g7 g8 g11 g14 h => a_X16_takeJoin_246 K hQ hX hK78 ih σ v1 v2 v3 v4 v6 v7 v8 v9 v11 v14 g1 g2 g3 g6 g7 g8 g11 g14 h
set_option maxRecDepth 20000 in
theorem a_X16_takeJoin_243 {Q : Sg → Unit → Prop} {X : Sg → String → Prop} (K : MC R p s m args c cX16_takeJoin 15 RX16 D cA tys A n0 s0 3 79 []) (hQ : HQV p l e R s m args below meth c cX16_takeJoin D cA A n0 s0 QM dm ra jx rm Q) (hX : HX p l e R s m args below meth c 15 D cA A n0 s0 QM dm ra jx rm X) {K78 : Sg → Int → Int → Int → Int64 → Int → Int → Int → Int64 → Int → Prop} (hK78 : ∀ (σ : Sg) (v1 : Int) (v2 : Int) (v3 : Int) (v4 : Int64) (v6 : Int) (v7 : Int) (v8 : Int) (v9 : Int64) (v11 : Int) (g1 : rng v1) (g2 : rng v2) (g3 : rng v3) (g6 : rng v6) (g7 : rng v7) (g8 : rng v8) (g11 : rng v11), K78 σ v1 v2 v3 v4 v6 v7 v8 v9 v11 → RG σ → Shp dm ra jx rm σ → JJ p l e R s m args below meth c 15 D cA A n0 s0 QM σ 78 [(0, .ref rm), (1, .int (i32 v1)), (2, .int (i32 v2)), (3, .int (i32 v3)), (4, .long v4), (6, .int (i32 v6)), (7, .int (i32 v7)), (8, .int (i32 v8)), (9, .long v9), (11, .int (i32 v11))] []) : ∀ (σ : Sg) (v1 : Int) (v2 : Int) (v3 : Int) (v4 : Int64) (v6 : Int) (v7 : Int) (v8 : Int) (v9 : Int64) (v11 : Int) (g1 : rng v1) (g2 : rng v2) (g3 : rng v3) (g6 : rng v6) (g7 : rng v7) (g8 : rng v8) (g11 : rng v11), w_X16_takeJoin_243 ra jx rm K78 Q X σ v1 v2 v3 v4 v6 v7 v8 v9 v11 → RG σ → Shp dm ra jx rm σ → JJ p l e R s m args below meth c 15 D cA A n0 s0 QM σ 243 [(0, .ref rm), (1, .int (i32 v1)), (2, .int (i32 v2)), (3, .int (i32 v3)), (4, .long v4), (6, .int (i32 v6)), (7, .int (i32 v7)), (8, .int (i32 v8)), (9, .long v9), (11, .int (i32 v11))] [] := by
  intro σ v1 v2 v3 v4 v6 v7 v8 v9 v11 g1 g2 g3 g6 g7 g8 g11 h hGσ hS H locs ls hH hl hc
  have B := K.1
  unfold w_X16_takeJoin_243 at h
  refine lv_iconst (v := i32 0) B.1 B.2.1 dX16_takeJoin_243 (by decide) ?_
  refine lv_istore (lv' := [(14, .int (i32 0)), (0, .ref rm), (1, .int (i32 v1)), (2, .int (i32 v2)), (3, .int (i32 v3)), (4, .long v4), (6, .int (i32 v6)), (7, .int (i32 v7)), (8, .int (i32 v8)), (9, .long v9), (11, .int (i32 v11))]) B.1 B.2.1 dX16_takeJoin_244 hl (by decide) rfl (fun ls hl => ?_)
  obtain ⟨n9, h⟩ := h
  exact al_X16_takeJoin_246 K hQ hX hK78 n9 _ _ _ _ _ _ _ _ _ _ _ g1 g2 g3 g6 g7 g8 g11 (by unfold rng; omega) h hGσ hS _ _ _ hH (lv_sub (l' := [(0, .ref rm), (1, .int (i32 v1)), (2, .int (i32 v2)), (3, .int (i32 v3)), (4, .long v4), (6, .int (i32 v6)), (7, .int (i32 v7)), (8, .int (i32 v8)), (9, .long v9), (11, .int (i32 v11)), (14, .int (i32 0))]) hl [1, 2, 3, 4, 5, 6, 7, 8, 9, 10, 0] rfl) hc
set_option maxRecDepth 20000 in
theorem a_X16_takeJoin_236 {Q : Sg → Unit → Prop} {X : Sg → String → Prop} (K : MC R p s m args c cX16_takeJoin 15 RX16 D cA tys A n0 s0 3 79 []) (hQ : HQV p l e R s m args below meth c cX16_takeJoin D cA A n0 s0 QM dm ra jx rm Q) (hX : HX p l e R s m args below meth c 15 D cA A n0 s0 QM dm ra jx rm X) {K78 : Sg → Int → Int → Int → Int64 → Int → Int → Int → Int64 → Int → Prop} (hK78 : ∀ (σ : Sg) (v1 : Int) (v2 : Int) (v3 : Int) (v4 : Int64) (v6 : Int) (v7 : Int) (v8 : Int) (v9 : Int64) (v11 : Int) (g1 : rng v1) (g2 : rng v2) (g3 : rng v3) (g6 : rng v6) (g7 : rng v7) (g8 : rng v8) (g11 : rng v11), K78 σ v1 v2 v3 v4 v6 v7 v8 v9 v11 → RG σ → Shp dm ra jx rm σ → JJ p l e R s m args below meth c 15 D cA A n0 s0 QM σ 78 [(0, .ref rm), (1, .int (i32 v1)), (2, .int (i32 v2)), (3, .int (i32 v3)), (4, .long v4), (6, .int (i32 v6)), (7, .int (i32 v7)), (8, .int (i32 v8)), (9, .long v9), (11, .int (i32 v11))] []) {K196 : Sg → Int → Int → Int → Int64 → Int → Int → Int → Int64 → Int → Int → Prop} (hK196 : ∀ (σ : Sg) (v1 : Int) (v2 : Int) (v3 : Int) (v4 : Int64) (v6 : Int) (v7 : Int) (v8 : Int) (v9 : Int64) (v11 : Int) (v14 : Int) (g1 : rng v1) (g2 : rng v2) (g3 : rng v3) (g6 : rng v6) (g7 : rng v7) (g8 : rng v8) (g11 : rng v11) (g14 : rng v14), K196 σ v1 v2 v3 v4 v6 v7 v8 v9 v11 v14 → RG σ → Shp dm ra jx rm σ → JJ p l e R s m args below meth c 15 D cA A n0 s0 QM σ 196 [(0, .ref rm), (1, .int (i32 v1)), (2, .int (i32 v2)), (3, .int (i32 v3)), (4, .long v4), (6, .int (i32 v6)), (7, .int (i32 v7)), (8, .int (i32 v8)), (9, .long v9), (11, .int (i32 v11)), (14, .int (i32 v14))] []) : ∀ (σ : Sg) (v1 : Int) (v2 : Int) (v3 : Int) (v4 : Int64) (v6 : Int) (v7 : Int) (v8 : Int) (v9 : Int64) (v11 : Int) (v14 : Int) (u0 : Int64) (u1 : Int) (g1 : rng v1) (g2 : rng v2) (g3 : rng v3) (g6 : rng v6) (g7 : rng v7) (g8 : rng v8) (g11 : rng v11) (g14 : rng v14) (gu1 : rng u1), w_X16_takeJoin_236 ra jx rm K78 K196 Q X σ v1 v2 v3 v4 v6 v7 v8 v9 v11 v14 u0 u1 → RG σ → Shp dm ra jx rm σ → JJ p l e R s m args below meth c 15 D cA A n0 s0 QM σ 236 [(0, .ref rm), (1, .int (i32 v1)), (2, .int (i32 v2)), (3, .int (i32 v3)), (4, .long v4), (6, .int (i32 v6)), (7, .int (i32 v7)), (8, .int (i32 v8)), (9, .long v9), (11, .int (i32 v11)), (14, .int (i32 v14))] [.long u0, .int (i32 u1), .ref (ra 82)] := by
  intro σ v1 v2 v3 v4 v6 v7 v8 v9 v11 v14 u0 u1 g1 g2 g3 g6 g7 g8 g11 g14 gu1 h hGσ hS H locs ls hH hl hc
  have B := K.1
  unfold w_X16_takeJoin_236 at h
  obtain ⟨q1, h⟩ := h
  obtain ⟨σ49, eσ49⟩ : ∃ z, z = pJ σ (ra 82) u1.toNat u0 := ⟨_, rfl⟩
  have h := h σ49 eσ49
  refine x_last B K.2.1 hH (hS.ar (k := 82) (kd := 101) (n := 16) (by decide)) (by decide) q1 dX16_takeJoin_236 (fun H locs hH => ?_)
  have hH : Hd D cA A s (pJ σ (ra 82) u1.toNat u0) H locs := hH
  rw [← eσ49] at hH
  have hGσ49 : RG σ49 := by rw [eσ49]; exact hGσ.pJ
  have hS : Shp dm ra jx rm σ49 := by rw [eσ49]; exact hS
  have hc : CB n0 s0 σ49 := by rw [eσ49]; exact hc
  rw [show gc σ = gc σ49 by rw [eσ49], show gs σ = gs σ49 by rw [eσ49]]
  obtain ⟨q3, h⟩ := h
  refine lv_iinc (k := 10) (v := i32 (v14 + 1)) (lv' := [(14, .int (i32 (v14 + 1))), (0, .ref rm), (1, .int (i32 v1)), (2, .int (i32 v2)), (3, .int (i32 v3)), (4, .long v4), (6, .int (i32 v6)), (7, .int (i32 v7)), (8, .int (i32 v8)), (9, .long v9), (11, .int (i32 v11))]) B.1 B.2.1 dX16_takeJoin_237 hl rfl (i32_add _ _) (by decide) rfl (fun ls hl => ?_)
  refine lv_goto (tgt := 196) B.1 B.2.1 dX16_takeJoin_240 (by decide) ?_
  exact hK196 _ _ _ _ _ _ _ _ _ _ _ g1 g2 g3 g6 g7 g8 g11 q3 h hGσ49 hS _ _ _ hH (lv_sub (l' := [(0, .ref rm), (1, .int (i32 v1)), (2, .int (i32 v2)), (3, .int (i32 v3)), (4, .long v4), (6, .int (i32 v6)), (7, .int (i32 v7)), (8, .int (i32 v8)), (9, .long v9), (11, .int (i32 v11)), (14, .int (i32 (v14 + 1)))]) hl [1, 2, 3, 4, 5, 6, 7, 8, 9, 10, 0] rfl) hc
set_option maxRecDepth 20000 in
theorem a_X16_takeJoin_223 {Q : Sg → Unit → Prop} {X : Sg → String → Prop} (K : MC R p s m args c cX16_takeJoin 15 RX16 D cA tys A n0 s0 3 79 []) (hQ : HQV p l e R s m args below meth c cX16_takeJoin D cA A n0 s0 QM dm ra jx rm Q) (hX : HX p l e R s m args below meth c 15 D cA A n0 s0 QM dm ra jx rm X) {K78 : Sg → Int → Int → Int → Int64 → Int → Int → Int → Int64 → Int → Prop} (hK78 : ∀ (σ : Sg) (v1 : Int) (v2 : Int) (v3 : Int) (v4 : Int64) (v6 : Int) (v7 : Int) (v8 : Int) (v9 : Int64) (v11 : Int) (g1 : rng v1) (g2 : rng v2) (g3 : rng v3) (g6 : rng v6) (g7 : rng v7) (g8 : rng v8) (g11 : rng v11), K78 σ v1 v2 v3 v4 v6 v7 v8 v9 v11 → RG σ → Shp dm ra jx rm σ → JJ p l e R s m args below meth c 15 D cA A n0 s0 QM σ 78 [(0, .ref rm), (1, .int (i32 v1)), (2, .int (i32 v2)), (3, .int (i32 v3)), (4, .long v4), (6, .int (i32 v6)), (7, .int (i32 v7)), (8, .int (i32 v8)), (9, .long v9), (11, .int (i32 v11))] []) {K196 : Sg → Int → Int → Int → Int64 → Int → Int → Int → Int64 → Int → Int → Prop} (hK196 : ∀ (σ : Sg) (v1 : Int) (v2 : Int) (v3 : Int) (v4 : Int64) (v6 : Int) (v7 : Int) (v8 : Int) (v9 : Int64) (v11 : Int) (v14 : Int) (g1 : rng v1) (g2 : rng v2) (g3 : rng v3) (g6 : rng v6) (g7 : rng v7) (g8 : rng v8) (g11 : rng v11) (g14 : rng v14), K196 σ v1 v2 v3 v4 v6 v7 v8 v9 v11 v14 → RG σ → Shp dm ra jx rm σ → JJ p l e R s m args below meth c 15 D cA A n0 s0 QM σ 196 [(0, .ref rm), (1, .int (i32 v1)), (2, .int (i32 v2)), (3, .int (i32 v3)), (4, .long v4), (6, .int (i32 v6)), (7, .int (i32 v7)), (8, .int (i32 v8)), (9, .long v9), (11, .int (i32 v11)), (14, .int (i32 v14))] []) : ∀ (σ : Sg) (v1 : Int) (v2 : Int) (v3 : Int) (v4 : Int64) (v6 : Int) (v7 : Int) (v8 : Int) (v9 : Int64) (v11 : Int) (v14 : Int) (u0 : Int) (g1 : rng v1) (g2 : rng v2) (g3 : rng v3) (g6 : rng v6) (g7 : rng v7) (g8 : rng v8) (g11 : rng v11) (g14 : rng v14) (gu0 : rng u0), w_X16_takeJoin_223 ra jx rm K78 K196 Q X σ v1 v2 v3 v4 v6 v7 v8 v9 v11 v14 u0 → RG σ → Shp dm ra jx rm σ → JJ p l e R s m args below meth c 15 D cA A n0 s0 QM σ 223 [(0, .ref rm), (1, .int (i32 v1)), (2, .int (i32 v2)), (3, .int (i32 v3)), (4, .long v4), (6, .int (i32 v6)), (7, .int (i32 v7)), (8, .int (i32 v8)), (9, .long v9), (11, .int (i32 v11)), (14, .int (i32 v14))] [.int (i32 u0), .ref (ra 82)] := by
  intro σ v1 v2 v3 v4 v6 v7 v8 v9 v11 v14 u0 g1 g2 g3 g6 g7 g8 g11 g14 gu0 h hGσ hS H locs ls hH hl hc
  have B := K.1
  unfold w_X16_takeJoin_223 at h
  refine lv_aload_n B.1 B.2.1 dX16_takeJoin_223 rfl (lv_at hl 0 rfl) ?_
  refine r_arr B hH hS 73 (kd := 101) (n := 32000) (by decide) (by decide) wf_X16_528 rfl rfl dX16_takeJoin_224 ?_
  refine lv_bipush (v := i32 8) B.1 B.2.1 dX16_takeJoin_227 (by decide) ?_
  refine lv_iload B.1 B.2.1 dX16_takeJoin_229 (lv_at hl 9 rfl) ?_
  obtain ⟨q1, h⟩ := h
  refine lv_imul B.1 B.2.1 dX16_takeJoin_231 ?_
  rw [i32_mul]
  refine lv_iload B.1 B.2.1 dX16_takeJoin_232 (lv_at hl 10 rfl) ?_
  obtain ⟨q2, h⟩ := h
  refine lv_iadd B.1 B.2.1 dX16_takeJoin_234 ?_
  rw [i32_add]
  obtain ⟨q3, h⟩ := h
  refine x_lald B K.2.1 hH (hS.ar (k := 73) (kd := 101) (n := 32000) (by decide)) (by decide) q3 dX16_takeJoin_235 ?_
  exact a_X16_takeJoin_236 K hQ hX hK78 hK196 _ _ _ _ _ _ _ _ _ _ _ _ _ g1 g2 g3 g6 g7 g8 g11 g14 gu0 h hGσ hS _ _ _ hH (lv_sub (l' := [(0, .ref rm), (1, .int (i32 v1)), (2, .int (i32 v2)), (3, .int (i32 v3)), (4, .long v4), (6, .int (i32 v6)), (7, .int (i32 v7)), (8, .int (i32 v8)), (9, .long v9), (11, .int (i32 v11)), (14, .int (i32 v14))]) hl [0, 1, 2, 3, 4, 5, 6, 7, 8, 9, 10] rfl) hc
set_option maxRecDepth 20000 in
theorem a_X16_takeJoin_213 {Q : Sg → Unit → Prop} {X : Sg → String → Prop} (K : MC R p s m args c cX16_takeJoin 15 RX16 D cA tys A n0 s0 3 79 []) (hQ : HQV p l e R s m args below meth c cX16_takeJoin D cA A n0 s0 QM dm ra jx rm Q) (hX : HX p l e R s m args below meth c 15 D cA A n0 s0 QM dm ra jx rm X) {K78 : Sg → Int → Int → Int → Int64 → Int → Int → Int → Int64 → Int → Prop} (hK78 : ∀ (σ : Sg) (v1 : Int) (v2 : Int) (v3 : Int) (v4 : Int64) (v6 : Int) (v7 : Int) (v8 : Int) (v9 : Int64) (v11 : Int) (g1 : rng v1) (g2 : rng v2) (g3 : rng v3) (g6 : rng v6) (g7 : rng v7) (g8 : rng v8) (g11 : rng v11), K78 σ v1 v2 v3 v4 v6 v7 v8 v9 v11 → RG σ → Shp dm ra jx rm σ → JJ p l e R s m args below meth c 15 D cA A n0 s0 QM σ 78 [(0, .ref rm), (1, .int (i32 v1)), (2, .int (i32 v2)), (3, .int (i32 v3)), (4, .long v4), (6, .int (i32 v6)), (7, .int (i32 v7)), (8, .int (i32 v8)), (9, .long v9), (11, .int (i32 v11))] []) {K196 : Sg → Int → Int → Int → Int64 → Int → Int → Int → Int64 → Int → Int → Prop} (hK196 : ∀ (σ : Sg) (v1 : Int) (v2 : Int) (v3 : Int) (v4 : Int64) (v6 : Int) (v7 : Int) (v8 : Int) (v9 : Int64) (v11 : Int) (v14 : Int) (g1 : rng v1) (g2 : rng v2) (g3 : rng v3) (g6 : rng v6) (g7 : rng v7) (g8 : rng v8) (g11 : rng v11) (g14 : rng v14), K196 σ v1 v2 v3 v4 v6 v7 v8 v9 v11 v14 → RG σ → Shp dm ra jx rm σ → JJ p l e R s m args below meth c 15 D cA A n0 s0 QM σ 196 [(0, .ref rm), (1, .int (i32 v1)), (2, .int (i32 v2)), (3, .int (i32 v3)), (4, .long v4), (6, .int (i32 v6)), (7, .int (i32 v7)), (8, .int (i32 v8)), (9, .long v9), (11, .int (i32 v11)), (14, .int (i32 v14))] []) : ∀ (σ : Sg) (v1 : Int) (v2 : Int) (v3 : Int) (v4 : Int64) (v6 : Int) (v7 : Int) (v8 : Int) (v9 : Int64) (v11 : Int) (v14 : Int) (u0 : Int) (g1 : rng v1) (g2 : rng v2) (g3 : rng v3) (g6 : rng v6) (g7 : rng v7) (g8 : rng v8) (g11 : rng v11) (g14 : rng v14) (gu0 : rng u0), w_X16_takeJoin_213 ra jx rm K78 K196 Q X σ v1 v2 v3 v4 v6 v7 v8 v9 v11 v14 u0 → RG σ → Shp dm ra jx rm σ → JJ p l e R s m args below meth c 15 D cA A n0 s0 QM σ 213 [(0, .ref rm), (1, .int (i32 v1)), (2, .int (i32 v2)), (3, .int (i32 v3)), (4, .long v4), (6, .int (i32 v6)), (7, .int (i32 v7)), (8, .int (i32 v8)), (9, .long v9), (11, .int (i32 v11)), (14, .int (i32 v14))] [.int (i32 u0), .ref (ra 82)] := by
  intro σ v1 v2 v3 v4 v6 v7 v8 v9 v11 v14 u0 g1 g2 g3 g6 g7 g8 g11 g14 gu0 h hGσ hS H locs ls hH hl hc
  have B := K.1
  unfold w_X16_takeJoin_213 at h
  refine lv_aload_n B.1 B.2.1 dX16_takeJoin_213 rfl (lv_at hl 0 rfl) ?_
  refine r_arr B hH hS 81 (kd := 101) (n := 8) (by decide) (by decide) wf_X16_542 rfl rfl dX16_takeJoin_214 ?_
  refine lv_iload B.1 B.2.1 dX16_takeJoin_217 (lv_at hl 10 rfl) ?_
  obtain ⟨q1, h⟩ := h
  refine x_lald B K.2.1 hH (hS.ar (k := 81) (kd := 101) (n := 8) (by decide)) (by decide) q1 dX16_takeJoin_219 ?_
  refine lv_goto (tgt := 236) B.1 B.2.1 dX16_takeJoin_220 (by decide) ?_
  exact a_X16_takeJoin_236 K hQ hX hK78 hK196 _ _ _ _ _ _ _ _ _ _ _ _ _ g1 g2 g3 g6 g7 g8 g11 g14 gu0 h hGσ hS _ _ _ hH (lv_sub (l' := [(0, .ref rm), (1, .int (i32 v1)), (2, .int (i32 v2)), (3, .int (i32 v3)), (4, .long v4), (6, .int (i32 v6)), (7, .int (i32 v7)), (8, .int (i32 v8)), (9, .long v9), (11, .int (i32 v11)), (14, .int (i32 v14))]) hl [0, 1, 2, 3, 4, 5, 6, 7, 8, 9, 10] rfl) hc
set_option maxRecDepth 20000 in
theorem a_X16_takeJoin_203 {Q : Sg → Unit → Prop} {X : Sg → String → Prop} (K : MC R p s m args c cX16_takeJoin 15 RX16 D cA tys A n0 s0 3 79 []) (hQ : HQV p l e R s m args below meth c cX16_takeJoin D cA A n0 s0 QM dm ra jx rm Q) (hX : HX p l e R s m args below meth c 15 D cA A n0 s0 QM dm ra jx rm X) {K78 : Sg → Int → Int → Int → Int64 → Int → Int → Int → Int64 → Int → Prop} (hK78 : ∀ (σ : Sg) (v1 : Int) (v2 : Int) (v3 : Int) (v4 : Int64) (v6 : Int) (v7 : Int) (v8 : Int) (v9 : Int64) (v11 : Int) (g1 : rng v1) (g2 : rng v2) (g3 : rng v3) (g6 : rng v6) (g7 : rng v7) (g8 : rng v8) (g11 : rng v11), K78 σ v1 v2 v3 v4 v6 v7 v8 v9 v11 → RG σ → Shp dm ra jx rm σ → JJ p l e R s m args below meth c 15 D cA A n0 s0 QM σ 78 [(0, .ref rm), (1, .int (i32 v1)), (2, .int (i32 v2)), (3, .int (i32 v3)), (4, .long v4), (6, .int (i32 v6)), (7, .int (i32 v7)), (8, .int (i32 v8)), (9, .long v9), (11, .int (i32 v11))] []) {K196 : Sg → Int → Int → Int → Int64 → Int → Int → Int → Int64 → Int → Int → Prop} (hK196 : ∀ (σ : Sg) (v1 : Int) (v2 : Int) (v3 : Int) (v4 : Int64) (v6 : Int) (v7 : Int) (v8 : Int) (v9 : Int64) (v11 : Int) (v14 : Int) (g1 : rng v1) (g2 : rng v2) (g3 : rng v3) (g6 : rng v6) (g7 : rng v7) (g8 : rng v8) (g11 : rng v11) (g14 : rng v14), K196 σ v1 v2 v3 v4 v6 v7 v8 v9 v11 v14 → RG σ → Shp dm ra jx rm σ → JJ p l e R s m args below meth c 15 D cA A n0 s0 QM σ 196 [(0, .ref rm), (1, .int (i32 v1)), (2, .int (i32 v2)), (3, .int (i32 v3)), (4, .long v4), (6, .int (i32 v6)), (7, .int (i32 v7)), (8, .int (i32 v8)), (9, .long v9), (11, .int (i32 v11)), (14, .int (i32 v14))] []) : ∀ (σ : Sg) (v1 : Int) (v2 : Int) (v3 : Int) (v4 : Int64) (v6 : Int) (v7 : Int) (v8 : Int) (v9 : Int64) (v11 : Int) (v14 : Int) (g1 : rng v1) (g2 : rng v2) (g3 : rng v3) (g6 : rng v6) (g7 : rng v7) (g8 : rng v8) (g11 : rng v11) (g14 : rng v14), w_X16_takeJoin_203 ra jx rm K78 K196 Q X σ v1 v2 v3 v4 v6 v7 v8 v9 v11 v14 → RG σ → Shp dm ra jx rm σ → JJ p l e R s m args below meth c 15 D cA A n0 s0 QM σ 203 [(0, .ref rm), (1, .int (i32 v1)), (2, .int (i32 v2)), (3, .int (i32 v3)), (4, .long v4), (6, .int (i32 v6)), (7, .int (i32 v7)), (8, .int (i32 v8)), (9, .long v9), (11, .int (i32 v11)), (14, .int (i32 v14))] [] := by
  intro σ v1 v2 v3 v4 v6 v7 v8 v9 v11 v14 g1 g2 g3 g6 g7 g8 g11 g14 h hGσ hS H locs ls hH hl hc
  have B := K.1
  unfold w_X16_takeJoin_203 at h
  refine lv_aload_n B.1 B.2.1 dX16_takeJoin_203 rfl (lv_at hl 0 rfl) ?_
  refine r_arr B hH hS 82 (kd := 101) (n := 16) (by decide) (by decide) wf_X16_578 rfl rfl dX16_takeJoin_204 ?_
  refine lv_iload B.1 B.2.1 dX16_takeJoin_207 (lv_at hl 10 rfl) ?_
  refine lv_iload_n B.1 B.2.1 dX16_takeJoin_209 rfl (lv_at hl 3 rfl) ?_
  refine lv_if_ne (tgt := 223) B.1 B.2.1 dX16_takeJoin_210 (by decide) (fun h9 => ?_) (fun h9 => ?_)
  · rw [if_pos (fun q => h9 ((z_eq g3).mpr q))] at h
    exact a_X16_takeJoin_223 K hQ hX hK78 hK196 _ _ _ _ _ _ _ _ _ _ _ _ g1 g2 g3 g6 g7 g8 g11 g14 g14 h hGσ hS _ _ _ hH (lv_sub (l' := [(0, .ref rm), (1, .int (i32 v1)), (2, .int (i32 v2)), (3, .int (i32 v3)), (4, .long v4), (6, .int (i32 v6)), (7, .int (i32 v7)), (8, .int (i32 v8)), (9, .long v9), (11, .int (i32 v11)), (14, .int (i32 v14))]) hl [0, 1, 2, 3, 4, 5, 6, 7, 8, 9, 10] rfl) hc
  · rw [if_neg (fun q => q ((z_eq g3).mp h9))] at h
    exact a_X16_takeJoin_213 K hQ hX hK78 hK196 _ _ _ _ _ _ _ _ _ _ _ _ g1 g2 g3 g6 g7 g8 g11 g14 g14 h hGσ hS _ _ _ hH (lv_sub (l' := [(0, .ref rm), (1, .int (i32 v1)), (2, .int (i32 v2)), (3, .int (i32 v3)), (4, .long v4), (6, .int (i32 v6)), (7, .int (i32 v7)), (8, .int (i32 v8)), (9, .long v9), (11, .int (i32 v11)), (14, .int (i32 v14))]) hl [0, 1, 2, 3, 4, 5, 6, 7, 8, 9, 10] rfl) hc
set_option maxRecDepth 20000 in
theorem a_X16_takeJoin_196 {Q : Sg → Unit → Prop} {X : Sg → String → Prop} (K : MC R p s m args c cX16_takeJoin 15 RX16 D cA tys A n0 s0 3 79 []) (hQ : HQV p l e R s m args below meth c cX16_takeJoin D cA A n0 s0 QM dm ra jx rm Q) (hX : HX p l e R s m args below meth c 15 D cA A n0 s0 QM dm ra jx rm X) {K78 : Sg → Int → Int → Int → Int64 → Int → Int → Int → Int64 → Int → Prop} (hK78 : ∀ (σ : Sg) (v1 : Int) (v2 : Int) (v3 : Int) (v4 : Int64) (v6 : Int) (v7 : Int) (v8 : Int) (v9 : Int64) (v11 : Int) (g1 : rng v1) (g2 : rng v2) (g3 : rng v3) (g6 : rng v6) (g7 : rng v7) (g8 : rng v8) (g11 : rng v11), K78 σ v1 v2 v3 v4 v6 v7 v8 v9 v11 → RG σ → Shp dm ra jx rm σ → JJ p l e R s m args below meth c 15 D cA A n0 s0 QM σ 78 [(0, .ref rm), (1, .int (i32 v1)), (2, .int (i32 v2)), (3, .int (i32 v3)), (4, .long v4), (6, .int (i32 v6)), (7, .int (i32 v7)), (8, .int (i32 v8)), (9, .long v9), (11, .int (i32 v11))] []) {K196 : Sg → Int → Int → Int → Int64 → Int → Int → Int → Int64 → Int → Int → Prop} (hK196 : ∀ (σ : Sg) (v1 : Int) (v2 : Int) (v3 : Int) (v4 : Int64) (v6 : Int) (v7 : Int) (v8 : Int) (v9 : Int64) (v11 : Int) (v14 : Int) (g1 : rng v1) (g2 : rng v2) (g3 : rng v3) (g6 : rng v6) (g7 : rng v7) (g8 : rng v8) (g11 : rng v11) (g14 : rng v14), K196 σ v1 v2 v3 v4 v6 v7 v8 v9 v11 v14 → RG σ → Shp dm ra jx rm σ → JJ p l e R s m args below meth c 15 D cA A n0 s0 QM σ 196 [(0, .ref rm), (1, .int (i32 v1)), (2, .int (i32 v2)), (3, .int (i32 v3)), (4, .long v4), (6, .int (i32 v6)), (7, .int (i32 v7)), (8, .int (i32 v8)), (9, .long v9), (11, .int (i32 v11)), (14, .int (i32 v14))] []) : ∀ (σ : Sg) (v1 : Int) (v2 : Int) (v3 : Int) (v4 : Int64) (v6 : Int) (v7 : Int) (v8 : Int) (v9 : Int64) (v11 : Int) (v14 : Int) (g1 : rng v1) (g2 : rng v2) (g3 : rng v3) (g6 : rng v6) (g7 : rng v7) (g8 : rng v8) (g11 : rng v11) (g14 : rng v14), w_X16_takeJoin_196 ra jx rm K78 K196 Q X σ v1 v2 v3 v4 v6 v7 v8 v9 v11 v14 → RG σ → Shp dm ra jx rm σ → JJ p l e R s m args below meth c 15 D cA A n0 s0 QM σ 196 [(0, .ref rm), (1, .int (i32 v1)), (2, .int (i32 v2)), (3, .int (i32 v3)), (4, .long v4), (6, .int (i32 v6)), (7, .int (i32 v7)), (8, .int (i32 v8)), (9, .long v9), (11, .int (i32 v11)), (14, .int (i32 v14))] [] := by
  intro σ v1 v2 v3 v4 v6 v7 v8 v9 v11 v14 g1 g2 g3 g6 g7 g8 g11 g14 h hGσ hS H locs ls hH hl hc
  have B := K.1
  unfold w_X16_takeJoin_196 at h
  refine lv_iload B.1 B.2.1 dX16_takeJoin_196 (lv_at hl 10 rfl) ?_
  refine lv_iload B.1 B.2.1 dX16_takeJoin_198 (lv_at hl 6 rfl) ?_
  refine lv_icmp_ge (tgt := 243) B.1 B.2.1 dX16_takeJoin_200 (by decide) (fun h9 => ?_) (fun h9 => ?_)
  · rw [if_pos ((i32_le g7 g14).mp h9)] at h
    exact a_X16_takeJoin_243 K hQ hX hK78 _ _ _ _ _ _ _ _ _ _ g1 g2 g3 g6 g7 g8 g11 h hGσ hS _ _ _ hH (lv_sub (l' := [(0, .ref rm), (1, .int (i32 v1)), (2, .int (i32 v2)), (3, .int (i32 v3)), (4, .long v4), (6, .int (i32 v6)), (7, .int (i32 v7)), (8, .int (i32 v8)), (9, .long v9), (11, .int (i32 v11))]) hl [0, 1, 2, 3, 4, 5, 6, 7, 8, 9] rfl) hc
  · rw [if_neg (fun q => h9 ((i32_le g7 g14).mpr q))] at h
    exact a_X16_takeJoin_203 K hQ hX hK78 hK196 _ _ _ _ _ _ _ _ _ _ _ g1 g2 g3 g6 g7 g8 g11 g14 h hGσ hS _ _ _ hH (lv_sub (l' := [(0, .ref rm), (1, .int (i32 v1)), (2, .int (i32 v2)), (3, .int (i32 v3)), (4, .long v4), (6, .int (i32 v6)), (7, .int (i32 v7)), (8, .int (i32 v8)), (9, .long v9), (11, .int (i32 v11)), (14, .int (i32 v14))]) hl [0, 1, 2, 3, 4, 5, 6, 7, 8, 9, 10] rfl) hc
theorem al_X16_takeJoin_196 {Q : Sg → Unit → Prop} {X : Sg → String → Prop} (K : MC R p s m args c cX16_takeJoin 15 RX16 D cA tys A n0 s0 3 79 []) (hQ : HQV p l e R s m args below meth c cX16_takeJoin D cA A n0 s0 QM dm ra jx rm Q) (hX : HX p l e R s m args below meth c 15 D cA A n0 s0 QM dm ra jx rm X) {K78 : Sg → Int → Int → Int → Int64 → Int → Int → Int → Int64 → Int → Prop} (hK78 : ∀ (σ : Sg) (v1 : Int) (v2 : Int) (v3 : Int) (v4 : Int64) (v6 : Int) (v7 : Int) (v8 : Int) (v9 : Int64) (v11 : Int) (g1 : rng v1) (g2 : rng v2) (g3 : rng v3) (g6 : rng v6) (g7 : rng v7) (g8 : rng v8) (g11 : rng v11), K78 σ v1 v2 v3 v4 v6 v7 v8 v9 v11 → RG σ → Shp dm ra jx rm σ → JJ p l e R s m args below meth c 15 D cA A n0 s0 QM σ 78 [(0, .ref rm), (1, .int (i32 v1)), (2, .int (i32 v2)), (3, .int (i32 v3)), (4, .long v4), (6, .int (i32 v6)), (7, .int (i32 v7)), (8, .int (i32 v8)), (9, .long v9), (11, .int (i32 v11))] []) : ∀ (n : Nat), ∀ (σ : Sg) (v1 : Int) (v2 : Int) (v3 : Int) (v4 : Int64) (v6 : Int) (v7 : Int) (v8 : Int) (v9 : Int64) (v11 : Int) (v14 : Int) (g1 : rng v1) (g2 : rng v2) (g3 : rng v3) (g6 : rng v6) (g7 : rng v7) (g8 : rng v8) (g11 : rng v11) (g14 : rng v14), wl_X16_takeJoin_196 ra jx rm K78 Q X n σ v1 v2 v3 v4 v6 v7 v8 v9 v11 v14 → RG σ → Shp dm ra jx rm σ → JJ p l e R s m args below meth c 15 D cA A n0 s0 QM σ 196 [(0, .ref rm), (1, .int (i32 v1)), (2, .int (i32 v2)), (3, .int (i32 v3)), (4, .long v4), (6, .int (i32 v6)), (7, .int (i32 v7)), (8, .int (i32 v8)), (9, .long v9), (11, .int (i32 v11)), (14, .int (i32 v14))] [] := by
  intro n
  induction n with
  | zero => intro σ v1 v2 v3 v4 v6 v7 v8 v9 v11 v14 g1 g2 g3 g6 g7 g8 g11 g14 h; exact h.elim
  | succ n ih => exact fun σ v1 v2 v3 v4 v6 v7 v8 v9 v11 v14 g1 g2 g3 g6 g7 g8 g11 g14 h => a_X16_takeJoin_196 K hQ hX hK78 ih σ v1 v2 v3 v4 v6 v7 v8 v9 v11 v14 g1 g2 g3 g6 g7 g8 g11 g14 h
set_option maxRecDepth 20000 in
theorem a_X16_takeJoin_193 {Q : Sg → Unit → Prop} {X : Sg → String → Prop} (K : MC R p s m args c cX16_takeJoin 15 RX16 D cA tys A n0 s0 3 79 []) (hQ : HQV p l e R s m args below meth c cX16_takeJoin D cA A n0 s0 QM dm ra jx rm Q) (hX : HX p l e R s m args below meth c 15 D cA A n0 s0 QM dm ra jx rm X) {K78 : Sg → Int → Int → Int → Int64 → Int → Int → Int → Int64 → Int → Prop} (hK78 : ∀ (σ : Sg) (v1 : Int) (v2 : Int) (v3 : Int) (v4 : Int64) (v6 : Int) (v7 : Int) (v8 : Int) (v9 : Int64) (v11 : Int) (g1 : rng v1) (g2 : rng v2) (g3 : rng v3) (g6 : rng v6) (g7 : rng v7) (g8 : rng v8) (g11 : rng v11), K78 σ v1 v2 v3 v4 v6 v7 v8 v9 v11 → RG σ → Shp dm ra jx rm σ → JJ p l e R s m args below meth c 15 D cA A n0 s0 QM σ 78 [(0, .ref rm), (1, .int (i32 v1)), (2, .int (i32 v2)), (3, .int (i32 v3)), (4, .long v4), (6, .int (i32 v6)), (7, .int (i32 v7)), (8, .int (i32 v8)), (9, .long v9), (11, .int (i32 v11))] []) : ∀ (σ : Sg) (v1 : Int) (v2 : Int) (v3 : Int) (v4 : Int64) (v6 : Int) (v7 : Int) (v8 : Int) (v9 : Int64) (v11 : Int) (g1 : rng v1) (g2 : rng v2) (g3 : rng v3) (g6 : rng v6) (g7 : rng v7) (g8 : rng v8) (g11 : rng v11), w_X16_takeJoin_193 ra jx rm K78 Q X σ v1 v2 v3 v4 v6 v7 v8 v9 v11 → RG σ → Shp dm ra jx rm σ → JJ p l e R s m args below meth c 15 D cA A n0 s0 QM σ 193 [(0, .ref rm), (1, .int (i32 v1)), (2, .int (i32 v2)), (3, .int (i32 v3)), (4, .long v4), (6, .int (i32 v6)), (7, .int (i32 v7)), (8, .int (i32 v8)), (9, .long v9), (11, .int (i32 v11))] [] := by
  intro σ v1 v2 v3 v4 v6 v7 v8 v9 v11 g1 g2 g3 g6 g7 g8 g11 h hGσ hS H locs ls hH hl hc
  have B := K.1
  unfold w_X16_takeJoin_193 at h
  refine lv_iconst (v := i32 0) B.1 B.2.1 dX16_takeJoin_193 (by decide) ?_
  refine lv_istore (lv' := [(14, .int (i32 0)), (0, .ref rm), (1, .int (i32 v1)), (2, .int (i32 v2)), (3, .int (i32 v3)), (4, .long v4), (6, .int (i32 v6)), (7, .int (i32 v7)), (8, .int (i32 v8)), (9, .long v9), (11, .int (i32 v11))]) B.1 B.2.1 dX16_takeJoin_194 hl (by decide) rfl (fun ls hl => ?_)
  obtain ⟨n9, h⟩ := h
  exact al_X16_takeJoin_196 K hQ hX hK78 n9 _ _ _ _ _ _ _ _ _ _ _ g1 g2 g3 g6 g7 g8 g11 (by unfold rng; omega) h hGσ hS _ _ _ hH (lv_sub (l' := [(0, .ref rm), (1, .int (i32 v1)), (2, .int (i32 v2)), (3, .int (i32 v3)), (4, .long v4), (6, .int (i32 v6)), (7, .int (i32 v7)), (8, .int (i32 v8)), (9, .long v9), (11, .int (i32 v11)), (14, .int (i32 0))]) hl [1, 2, 3, 4, 5, 6, 7, 8, 9, 10, 0] rfl) hc
set_option maxRecDepth 20000 in
theorem a_X16_takeJoin_179 {Q : Sg → Unit → Prop} {X : Sg → String → Prop} (K : MC R p s m args c cX16_takeJoin 15 RX16 D cA tys A n0 s0 3 79 []) (hQ : HQV p l e R s m args below meth c cX16_takeJoin D cA A n0 s0 QM dm ra jx rm Q) (hX : HX p l e R s m args below meth c 15 D cA A n0 s0 QM dm ra jx rm X) {K78 : Sg → Int → Int → Int → Int64 → Int → Int → Int → Int64 → Int → Prop} (hK78 : ∀ (σ : Sg) (v1 : Int) (v2 : Int) (v3 : Int) (v4 : Int64) (v6 : Int) (v7 : Int) (v8 : Int) (v9 : Int64) (v11 : Int) (g1 : rng v1) (g2 : rng v2) (g3 : rng v3) (g6 : rng v6) (g7 : rng v7) (g8 : rng v8) (g11 : rng v11), K78 σ v1 v2 v3 v4 v6 v7 v8 v9 v11 → RG σ → Shp dm ra jx rm σ → JJ p l e R s m args below meth c 15 D cA A n0 s0 QM σ 78 [(0, .ref rm), (1, .int (i32 v1)), (2, .int (i32 v2)), (3, .int (i32 v3)), (4, .long v4), (6, .int (i32 v6)), (7, .int (i32 v7)), (8, .int (i32 v8)), (9, .long v9), (11, .int (i32 v11))] []) {K172 : Sg → Int → Int → Int → Int64 → Int → Int → Int → Int64 → Int → Int → Prop} (hK172 : ∀ (σ : Sg) (v1 : Int) (v2 : Int) (v3 : Int) (v4 : Int64) (v6 : Int) (v7 : Int) (v8 : Int) (v9 : Int64) (v11 : Int) (v14 : Int) (g1 : rng v1) (g2 : rng v2) (g3 : rng v3) (g6 : rng v6) (g7 : rng v7) (g8 : rng v8) (g11 : rng v11) (g14 : rng v14), K172 σ v1 v2 v3 v4 v6 v7 v8 v9 v11 v14 → RG σ → Shp dm ra jx rm σ → JJ p l e R s m args below meth c 15 D cA A n0 s0 QM σ 172 [(0, .ref rm), (1, .int (i32 v1)), (2, .int (i32 v2)), (3, .int (i32 v3)), (4, .long v4), (6, .int (i32 v6)), (7, .int (i32 v7)), (8, .int (i32 v8)), (9, .long v9), (11, .int (i32 v11)), (14, .int (i32 v14))] []) : ∀ (σ : Sg) (v1 : Int) (v2 : Int) (v3 : Int) (v4 : Int64) (v6 : Int) (v7 : Int) (v8 : Int) (v9 : Int64) (v11 : Int) (v14 : Int) (g1 : rng v1) (g2 : rng v2) (g3 : rng v3) (g6 : rng v6) (g7 : rng v7) (g8 : rng v8) (g11 : rng v11) (g14 : rng v14), w_X16_takeJoin_179 ra jx rm K78 K172 Q X σ v1 v2 v3 v4 v6 v7 v8 v9 v11 v14 → RG σ → Shp dm ra jx rm σ → JJ p l e R s m args below meth c 15 D cA A n0 s0 QM σ 179 [(0, .ref rm), (1, .int (i32 v1)), (2, .int (i32 v2)), (3, .int (i32 v3)), (4, .long v4), (6, .int (i32 v6)), (7, .int (i32 v7)), (8, .int (i32 v8)), (9, .long v9), (11, .int (i32 v11)), (14, .int (i32 v14))] [] := by
  intro σ v1 v2 v3 v4 v6 v7 v8 v9 v11 v14 g1 g2 g3 g6 g7 g8 g11 g14 h hGσ hS H locs ls hH hl hc
  have B := K.1
  unfold w_X16_takeJoin_179 at h
  refine lv_aload_n B.1 B.2.1 dX16_takeJoin_179 rfl (lv_at hl 0 rfl) ?_
  refine r_arr B hH hS 82 (kd := 101) (n := 16) (by decide) (by decide) wf_X16_578 rfl rfl dX16_takeJoin_180 ?_
  refine lv_iload B.1 B.2.1 dX16_takeJoin_183 (lv_at hl 10 rfl) ?_
  refine lv_lconst (v := 0) B.1 B.2.1 dX16_takeJoin_185 (by decide) ?_
  obtain ⟨q1, h⟩ := h
  obtain ⟨σ50, eσ50⟩ : ∃ z, z = pJ σ (ra 82) v14.toNat 0 := ⟨_, rfl⟩
  have h := h σ50 eσ50
  refine x_last B K.2.1 hH (hS.ar (k := 82) (kd := 101) (n := 16) (by decide)) (by decide) q1 dX16_takeJoin_186 (fun H locs hH => ?_)
  have hH : Hd D cA A s (pJ σ (ra 82) v14.toNat 0) H locs := hH
  rw [← eσ50] at hH
  have hGσ50 : RG σ50 := by rw [eσ50]; exact hGσ.pJ
  have hS : Shp dm ra jx rm σ50 := by rw [eσ50]; exact hS
  have hc : CB n0 s0 σ50 := by rw [eσ50]; exact hc
  rw [show gc σ = gc σ50 by rw [eσ50], show gs σ = gs σ50 by rw [eσ50]]
  obtain ⟨q3, h⟩ := h
  refine lv_iinc (k := 10) (v := i32 (v14 + 1)) (lv' := [(14, .int (i32 (v14 + 1))), (0, .ref rm), (1, .int (i32 v1)), (2, .int (i32 v2)), (3, .int (i32 v3)), (4, .long v4), (6, .int (i32 v6)), (7, .int (i32 v7)), (8, .int (i32 v8)), (9, .long v9), (11, .int (i32 v11))]) B.1 B.2.1 dX16_takeJoin_187 hl rfl (i32_add _ _) (by decide) rfl (fun ls hl => ?_)
  refine lv_goto (tgt := 172) B.1 B.2.1 dX16_takeJoin_190 (by decide) ?_
  exact hK172 _ _ _ _ _ _ _ _ _ _ _ g1 g2 g3 g6 g7 g8 g11 q3 h hGσ50 hS _ _ _ hH (lv_sub (l' := [(0, .ref rm), (1, .int (i32 v1)), (2, .int (i32 v2)), (3, .int (i32 v3)), (4, .long v4), (6, .int (i32 v6)), (7, .int (i32 v7)), (8, .int (i32 v8)), (9, .long v9), (11, .int (i32 v11)), (14, .int (i32 (v14 + 1)))]) hl [1, 2, 3, 4, 5, 6, 7, 8, 9, 10, 0] rfl) hc
set_option maxRecDepth 20000 in
theorem a_X16_takeJoin_172 {Q : Sg → Unit → Prop} {X : Sg → String → Prop} (K : MC R p s m args c cX16_takeJoin 15 RX16 D cA tys A n0 s0 3 79 []) (hQ : HQV p l e R s m args below meth c cX16_takeJoin D cA A n0 s0 QM dm ra jx rm Q) (hX : HX p l e R s m args below meth c 15 D cA A n0 s0 QM dm ra jx rm X) {K78 : Sg → Int → Int → Int → Int64 → Int → Int → Int → Int64 → Int → Prop} (hK78 : ∀ (σ : Sg) (v1 : Int) (v2 : Int) (v3 : Int) (v4 : Int64) (v6 : Int) (v7 : Int) (v8 : Int) (v9 : Int64) (v11 : Int) (g1 : rng v1) (g2 : rng v2) (g3 : rng v3) (g6 : rng v6) (g7 : rng v7) (g8 : rng v8) (g11 : rng v11), K78 σ v1 v2 v3 v4 v6 v7 v8 v9 v11 → RG σ → Shp dm ra jx rm σ → JJ p l e R s m args below meth c 15 D cA A n0 s0 QM σ 78 [(0, .ref rm), (1, .int (i32 v1)), (2, .int (i32 v2)), (3, .int (i32 v3)), (4, .long v4), (6, .int (i32 v6)), (7, .int (i32 v7)), (8, .int (i32 v8)), (9, .long v9), (11, .int (i32 v11))] []) {K172 : Sg → Int → Int → Int → Int64 → Int → Int → Int → Int64 → Int → Int → Prop} (hK172 : ∀ (σ : Sg) (v1 : Int) (v2 : Int) (v3 : Int) (v4 : Int64) (v6 : Int) (v7 : Int) (v8 : Int) (v9 : Int64) (v11 : Int) (v14 : Int) (g1 : rng v1) (g2 : rng v2) (g3 : rng v3) (g6 : rng v6) (g7 : rng v7) (g8 : rng v8) (g11 : rng v11) (g14 : rng v14), K172 σ v1 v2 v3 v4 v6 v7 v8 v9 v11 v14 → RG σ → Shp dm ra jx rm σ → JJ p l e R s m args below meth c 15 D cA A n0 s0 QM σ 172 [(0, .ref rm), (1, .int (i32 v1)), (2, .int (i32 v2)), (3, .int (i32 v3)), (4, .long v4), (6, .int (i32 v6)), (7, .int (i32 v7)), (8, .int (i32 v8)), (9, .long v9), (11, .int (i32 v11)), (14, .int (i32 v14))] []) : ∀ (σ : Sg) (v1 : Int) (v2 : Int) (v3 : Int) (v4 : Int64) (v6 : Int) (v7 : Int) (v8 : Int) (v9 : Int64) (v11 : Int) (v14 : Int) (g1 : rng v1) (g2 : rng v2) (g3 : rng v3) (g6 : rng v6) (g7 : rng v7) (g8 : rng v8) (g11 : rng v11) (g14 : rng v14), w_X16_takeJoin_172 ra jx rm K78 K172 Q X σ v1 v2 v3 v4 v6 v7 v8 v9 v11 v14 → RG σ → Shp dm ra jx rm σ → JJ p l e R s m args below meth c 15 D cA A n0 s0 QM σ 172 [(0, .ref rm), (1, .int (i32 v1)), (2, .int (i32 v2)), (3, .int (i32 v3)), (4, .long v4), (6, .int (i32 v6)), (7, .int (i32 v7)), (8, .int (i32 v8)), (9, .long v9), (11, .int (i32 v11)), (14, .int (i32 v14))] [] := by
  intro σ v1 v2 v3 v4 v6 v7 v8 v9 v11 v14 g1 g2 g3 g6 g7 g8 g11 g14 h hGσ hS H locs ls hH hl hc
  have B := K.1
  unfold w_X16_takeJoin_172 at h
  refine lv_iload B.1 B.2.1 dX16_takeJoin_172 (lv_at hl 10 rfl) ?_
  refine lv_bipush (v := i32 8) B.1 B.2.1 dX16_takeJoin_174 (by decide) ?_
  refine lv_icmp_ge (tgt := 193) B.1 B.2.1 dX16_takeJoin_176 (by decide) (fun h9 => ?_) (fun h9 => ?_)
  · rw [if_pos ((i32_le (by unfold rng; omega) g14).mp h9)] at h
    exact a_X16_takeJoin_193 K hQ hX hK78 _ _ _ _ _ _ _ _ _ _ g1 g2 g3 g6 g7 g8 g11 h hGσ hS _ _ _ hH (lv_sub (l' := [(0, .ref rm), (1, .int (i32 v1)), (2, .int (i32 v2)), (3, .int (i32 v3)), (4, .long v4), (6, .int (i32 v6)), (7, .int (i32 v7)), (8, .int (i32 v8)), (9, .long v9), (11, .int (i32 v11))]) hl [0, 1, 2, 3, 4, 5, 6, 7, 8, 9] rfl) hc
  · rw [if_neg (fun q => h9 ((i32_le (by unfold rng; omega) g14).mpr q))] at h
    exact a_X16_takeJoin_179 K hQ hX hK78 hK172 _ _ _ _ _ _ _ _ _ _ _ g1 g2 g3 g6 g7 g8 g11 g14 h hGσ hS _ _ _ hH (lv_sub (l' := [(0, .ref rm), (1, .int (i32 v1)), (2, .int (i32 v2)), (3, .int (i32 v3)), (4, .long v4), (6, .int (i32 v6)), (7, .int (i32 v7)), (8, .int (i32 v8)), (9, .long v9), (11, .int (i32 v11)), (14, .int (i32 v14))]) hl [0, 1, 2, 3, 4, 5, 6, 7, 8, 9, 10] rfl) hc
theorem al_X16_takeJoin_172 {Q : Sg → Unit → Prop} {X : Sg → String → Prop} (K : MC R p s m args c cX16_takeJoin 15 RX16 D cA tys A n0 s0 3 79 []) (hQ : HQV p l e R s m args below meth c cX16_takeJoin D cA A n0 s0 QM dm ra jx rm Q) (hX : HX p l e R s m args below meth c 15 D cA A n0 s0 QM dm ra jx rm X) {K78 : Sg → Int → Int → Int → Int64 → Int → Int → Int → Int64 → Int → Prop} (hK78 : ∀ (σ : Sg) (v1 : Int) (v2 : Int) (v3 : Int) (v4 : Int64) (v6 : Int) (v7 : Int) (v8 : Int) (v9 : Int64) (v11 : Int) (g1 : rng v1) (g2 : rng v2) (g3 : rng v3) (g6 : rng v6) (g7 : rng v7) (g8 : rng v8) (g11 : rng v11), K78 σ v1 v2 v3 v4 v6 v7 v8 v9 v11 → RG σ → Shp dm ra jx rm σ → JJ p l e R s m args below meth c 15 D cA A n0 s0 QM σ 78 [(0, .ref rm), (1, .int (i32 v1)), (2, .int (i32 v2)), (3, .int (i32 v3)), (4, .long v4), (6, .int (i32 v6)), (7, .int (i32 v7)), (8, .int (i32 v8)), (9, .long v9), (11, .int (i32 v11))] []) : ∀ (n : Nat), ∀ (σ : Sg) (v1 : Int) (v2 : Int) (v3 : Int) (v4 : Int64) (v6 : Int) (v7 : Int) (v8 : Int) (v9 : Int64) (v11 : Int) (v14 : Int) (g1 : rng v1) (g2 : rng v2) (g3 : rng v3) (g6 : rng v6) (g7 : rng v7) (g8 : rng v8) (g11 : rng v11) (g14 : rng v14), wl_X16_takeJoin_172 ra jx rm K78 Q X n σ v1 v2 v3 v4 v6 v7 v8 v9 v11 v14 → RG σ → Shp dm ra jx rm σ → JJ p l e R s m args below meth c 15 D cA A n0 s0 QM σ 172 [(0, .ref rm), (1, .int (i32 v1)), (2, .int (i32 v2)), (3, .int (i32 v3)), (4, .long v4), (6, .int (i32 v6)), (7, .int (i32 v7)), (8, .int (i32 v8)), (9, .long v9), (11, .int (i32 v11)), (14, .int (i32 v14))] [] := by
  intro n
  induction n with
  | zero => intro σ v1 v2 v3 v4 v6 v7 v8 v9 v11 v14 g1 g2 g3 g6 g7 g8 g11 g14 h; exact h.elim
  | succ n ih => exact fun σ v1 v2 v3 v4 v6 v7 v8 v9 v11 v14 g1 g2 g3 g6 g7 g8 g11 g14 h => a_X16_takeJoin_172 K hQ hX hK78 ih σ v1 v2 v3 v4 v6 v7 v8 v9 v11 v14 g1 g2 g3 g6 g7 g8 g11 g14 h
set_option maxRecDepth 20000 in
theorem a_X16_takeJoin_169 {Q : Sg → Unit → Prop} {X : Sg → String → Prop} (K : MC R p s m args c cX16_takeJoin 15 RX16 D cA tys A n0 s0 3 79 []) (hQ : HQV p l e R s m args below meth c cX16_takeJoin D cA A n0 s0 QM dm ra jx rm Q) (hX : HX p l e R s m args below meth c 15 D cA A n0 s0 QM dm ra jx rm X) {K78 : Sg → Int → Int → Int → Int64 → Int → Int → Int → Int64 → Int → Prop} (hK78 : ∀ (σ : Sg) (v1 : Int) (v2 : Int) (v3 : Int) (v4 : Int64) (v6 : Int) (v7 : Int) (v8 : Int) (v9 : Int64) (v11 : Int) (g1 : rng v1) (g2 : rng v2) (g3 : rng v3) (g6 : rng v6) (g7 : rng v7) (g8 : rng v8) (g11 : rng v11), K78 σ v1 v2 v3 v4 v6 v7 v8 v9 v11 → RG σ → Shp dm ra jx rm σ → JJ p l e R s m args below meth c 15 D cA A n0 s0 QM σ 78 [(0, .ref rm), (1, .int (i32 v1)), (2, .int (i32 v2)), (3, .int (i32 v3)), (4, .long v4), (6, .int (i32 v6)), (7, .int (i32 v7)), (8, .int (i32 v8)), (9, .long v9), (11, .int (i32 v11))] []) : ∀ (σ : Sg) (v1 : Int) (v2 : Int) (v3 : Int) (v4 : Int64) (v6 : Int) (v7 : Int) (v8 : Int) (v9 : Int64) (v11 : Int) (g1 : rng v1) (g2 : rng v2) (g3 : rng v3) (g6 : rng v6) (g7 : rng v7) (g8 : rng v8) (g11 : rng v11), w_X16_takeJoin_169 ra jx rm K78 Q X σ v1 v2 v3 v4 v6 v7 v8 v9 v11 → RG σ → Shp dm ra jx rm σ → JJ p l e R s m args below meth c 15 D cA A n0 s0 QM σ 169 [(0, .ref rm), (1, .int (i32 v1)), (2, .int (i32 v2)), (3, .int (i32 v3)), (4, .long v4), (6, .int (i32 v6)), (7, .int (i32 v7)), (8, .int (i32 v8)), (9, .long v9), (11, .int (i32 v11))] [] := by
  intro σ v1 v2 v3 v4 v6 v7 v8 v9 v11 g1 g2 g3 g6 g7 g8 g11 h hGσ hS H locs ls hH hl hc
  have B := K.1
  unfold w_X16_takeJoin_169 at h
  refine lv_iconst (v := i32 0) B.1 B.2.1 dX16_takeJoin_169 (by decide) ?_
  refine lv_istore (lv' := [(14, .int (i32 0)), (0, .ref rm), (1, .int (i32 v1)), (2, .int (i32 v2)), (3, .int (i32 v3)), (4, .long v4), (6, .int (i32 v6)), (7, .int (i32 v7)), (8, .int (i32 v8)), (9, .long v9), (11, .int (i32 v11))]) B.1 B.2.1 dX16_takeJoin_170 hl (by decide) rfl (fun ls hl => ?_)
  obtain ⟨n9, h⟩ := h
  exact al_X16_takeJoin_172 K hQ hX hK78 n9 _ _ _ _ _ _ _ _ _ _ _ g1 g2 g3 g6 g7 g8 g11 (by unfold rng; omega) h hGσ hS _ _ _ hH (lv_sub (l' := [(0, .ref rm), (1, .int (i32 v1)), (2, .int (i32 v2)), (3, .int (i32 v3)), (4, .long v4), (6, .int (i32 v6)), (7, .int (i32 v7)), (8, .int (i32 v8)), (9, .long v9), (11, .int (i32 v11)), (14, .int (i32 0))]) hl [1, 2, 3, 4, 5, 6, 7, 8, 9, 10, 0] rfl) hc
set_option maxRecDepth 20000 in
theorem a_X16_takeJoin_166 {Q : Sg → Unit → Prop} {X : Sg → String → Prop} (K : MC R p s m args c cX16_takeJoin 15 RX16 D cA tys A n0 s0 3 79 []) (hQ : HQV p l e R s m args below meth c cX16_takeJoin D cA A n0 s0 QM dm ra jx rm Q) (hX : HX p l e R s m args below meth c 15 D cA A n0 s0 QM dm ra jx rm X) {K78 : Sg → Int → Int → Int → Int64 → Int → Int → Int → Int64 → Int → Prop} (hK78 : ∀ (σ : Sg) (v1 : Int) (v2 : Int) (v3 : Int) (v4 : Int64) (v6 : Int) (v7 : Int) (v8 : Int) (v9 : Int64) (v11 : Int) (g1 : rng v1) (g2 : rng v2) (g3 : rng v3) (g6 : rng v6) (g7 : rng v7) (g8 : rng v8) (g11 : rng v11), K78 σ v1 v2 v3 v4 v6 v7 v8 v9 v11 → RG σ → Shp dm ra jx rm σ → JJ p l e R s m args below meth c 15 D cA A n0 s0 QM σ 78 [(0, .ref rm), (1, .int (i32 v1)), (2, .int (i32 v2)), (3, .int (i32 v3)), (4, .long v4), (6, .int (i32 v6)), (7, .int (i32 v7)), (8, .int (i32 v8)), (9, .long v9), (11, .int (i32 v11))] []) : ∀ (σ : Sg) (v1 : Int) (v2 : Int) (v3 : Int) (v4 : Int64) (v6 : Int) (v7 : Int) (v8 : Int) (v9 : Int64) (v11 : Int) (g1 : rng v1) (g2 : rng v2) (g3 : rng v3) (g6 : rng v6) (g7 : rng v7) (g8 : rng v8) (g11 : rng v11), w_X16_takeJoin_166 ra jx rm K78 Q X σ v1 v2 v3 v4 v6 v7 v8 v9 v11 → RG σ → Shp dm ra jx rm σ → JJ p l e R s m args below meth c 15 D cA A n0 s0 QM σ 166 [(0, .ref rm), (1, .int (i32 v1)), (2, .int (i32 v2)), (3, .int (i32 v3)), (4, .long v4), (6, .int (i32 v6)), (7, .int (i32 v7)), (8, .int (i32 v8)), (9, .long v9), (11, .int (i32 v11))] [] := by
  intro σ v1 v2 v3 v4 v6 v7 v8 v9 v11 g1 g2 g3 g6 g7 g8 g11 h hGσ hS H locs ls hH hl hc
  have B := K.1
  unfold w_X16_takeJoin_166 at h
  refine lv_goto (tgt := 352) B.1 B.2.1 dX16_takeJoin_166 (by decide) ?_
  exact a_X16_takeJoin_352 K hQ hX hK78 _ _ _ _ _ _ _ _ _ _ g1 g2 g3 g6 g7 g8 g11 h hGσ hS _ _ _ hH (lv_sub (l' := [(0, .ref rm), (1, .int (i32 v1)), (2, .int (i32 v2)), (3, .int (i32 v3)), (4, .long v4), (6, .int (i32 v6)), (7, .int (i32 v7)), (8, .int (i32 v8)), (9, .long v9), (11, .int (i32 v11))]) hl [0, 1, 2, 3, 4, 5, 6, 7, 8, 9] rfl) hc
set_option maxRecDepth 20000 in
theorem a_X16_takeJoin_138 {Q : Sg → Unit → Prop} {X : Sg → String → Prop} (K : MC R p s m args c cX16_takeJoin 15 RX16 D cA tys A n0 s0 3 79 []) (hQ : HQV p l e R s m args below meth c cX16_takeJoin D cA A n0 s0 QM dm ra jx rm Q) (hX : HX p l e R s m args below meth c 15 D cA A n0 s0 QM dm ra jx rm X) {K78 : Sg → Int → Int → Int → Int64 → Int → Int → Int → Int64 → Int → Prop} (hK78 : ∀ (σ : Sg) (v1 : Int) (v2 : Int) (v3 : Int) (v4 : Int64) (v6 : Int) (v7 : Int) (v8 : Int) (v9 : Int64) (v11 : Int) (g1 : rng v1) (g2 : rng v2) (g3 : rng v3) (g6 : rng v6) (g7 : rng v7) (g8 : rng v8) (g11 : rng v11), K78 σ v1 v2 v3 v4 v6 v7 v8 v9 v11 → RG σ → Shp dm ra jx rm σ → JJ p l e R s m args below meth c 15 D cA A n0 s0 QM σ 78 [(0, .ref rm), (1, .int (i32 v1)), (2, .int (i32 v2)), (3, .int (i32 v3)), (4, .long v4), (6, .int (i32 v6)), (7, .int (i32 v7)), (8, .int (i32 v8)), (9, .long v9), (11, .int (i32 v11))] []) : ∀ (σ : Sg) (v1 : Int) (v2 : Int) (v3 : Int) (v4 : Int64) (v6 : Int) (v7 : Int) (v8 : Int) (v9 : Int64) (v11 : Int) (u0 : Int64) (g1 : rng v1) (g2 : rng v2) (g3 : rng v3) (g6 : rng v6) (g7 : rng v7) (g8 : rng v8) (g11 : rng v11), w_X16_takeJoin_138 ra jx rm K78 Q X σ v1 v2 v3 v4 v6 v7 v8 v9 v11 u0 → RG σ → Shp dm ra jx rm σ → JJ p l e R s m args below meth c 15 D cA A n0 s0 QM σ 138 [(0, .ref rm), (1, .int (i32 v1)), (2, .int (i32 v2)), (3, .int (i32 v3)), (4, .long v4), (6, .int (i32 v6)), (7, .int (i32 v7)), (8, .int (i32 v8)), (9, .long v9), (11, .int (i32 v11))] [.long u0] := by
  intro σ v1 v2 v3 v4 v6 v7 v8 v9 v11 u0 g1 g2 g3 g6 g7 g8 g11 h hGσ hS H locs ls hH hl hc
  have B := K.1
  unfold w_X16_takeJoin_138 at h
  refine lv_lstore (lv' := [(12, .long u0), (0, .ref rm), (1, .int (i32 v1)), (2, .int (i32 v2)), (3, .int (i32 v3)), (4, .long v4), (6, .int (i32 v6)), (7, .int (i32 v7)), (8, .int (i32 v8)), (9, .long v9), (11, .int (i32 v11))]) B.1 B.2.1 dX16_takeJoin_138 hl (by decide) rfl (fun ls hl => ?_)
  refine lv_lload B.1 B.2.1 dX16_takeJoin_140 (lv_at hl 0 rfl) ?_
  refine lv_aload_n B.1 B.2.1 dX16_takeJoin_142 rfl (lv_at hl 1 rfl) ?_
  refine r_getp B hH hS 17 (by decide) wf_X16_356 rfl rfl dX16_takeJoin_143 ?_
  obtain ⟨a51, ea51, ja51, h⟩ := h
  refine W.eq (g2 := F0 m 146 ls [.ref a51, .long u0]) (by rw [ea51]; rfl) ?_
  refine n_arr B hH hS ja51 8 (kd := 101) (n := 16) (by decide) (by decide) (List.mem_of_getElem? (i := 8) rfl) rfl dX16_takeJoin_146 ?_
  refine lv_iload_n B.1 B.2.1 dX16_takeJoin_149 rfl (lv_at hl 3 rfl) ?_
  obtain ⟨q2, h⟩ := h
  refine x_lald B K.2.1 hH (hS.ja ja51 (k := 8) (kd := 101) (n := 16) (by decide)) (by decide) q2 dX16_takeJoin_150 ?_
  refine lv_aload_n B.1 B.2.1 dX16_takeJoin_151 rfl (lv_at hl 1 rfl) ?_
  refine r_getp B hH hS 17 (by decide) wf_X16_356 rfl rfl dX16_takeJoin_152 ?_
  obtain ⟨a52, ea52, ja52, h⟩ := h
  refine W.eq (g2 := F0 m 155 ls [.ref a52, .long (gJ σ (jx a51 8) v2.toNat), .long u0]) (by rw [ea52]; rfl) ?_
  refine n_arr B hH hS ja52 9 (kd := 101) (n := 16) (by decide) (by decide) (List.mem_of_getElem? (i := 9) rfl) rfl dX16_takeJoin_155 ?_
  refine lv_iload_n B.1 B.2.1 dX16_takeJoin_158 rfl (lv_at hl 3 rfl) ?_
  obtain ⟨q4, h⟩ := h
  refine x_lald B K.2.1 hH (hS.ja ja52 (k := 9) (kd := 101) (n := 16) (by decide)) (by decide) q4 dX16_takeJoin_159 ?_
  refine c_S B hH hl hc K.2.2.1 (As := [.long u0, .long (gJ σ (jx a51 8) v2.toNat), .long (gJ σ (jx a52 9) v2.toNat)]) (ok_X16_within K.2.1 σ u0 (gJ σ (jx a51 8) v2.toNat) (gJ σ (jx a52 9) v2.toNat) hGσ hS h) wc_X16_45 3 hd_X16_within ⟨Nat.le_trans (Nat.le_of_ble_eq_true rfl) K.2.2.2.1, Nat.le_trans (Nat.le_of_ble_eq_true rfl) K.2.2.2.2.1⟩ rfl (rest := []) rfl (Nat.le_of_ble_eq_true rfl) dX16_takeJoin_160 (fun σ53 w hq => ?_) (fun σ9 E9 hx9 => hX σ9 E9 _ _ _ (tb_out K.2.2.2.2.2 rfl) hx9.1 hx9.2.1 hx9.2.2)
  obtain ⟨r54, rfl, ⟨gr54, gzr54⟩, h, hGσ53, hS⟩ := hq
  intro H locs ls hH hl hc
  refine W.eq (g2 := F0 m 163 ls [.int (i32 r54)]) (rfl) ?_
  try dsimp only at h
  refine lv_if_ne (tgt := 169) B.1 B.2.1 dX16_takeJoin_163 (by decide) (fun h9 => ?_) (fun h9 => ?_)
  · rw [if_pos (fun q => h9 ((z_eq gr54).mpr q))] at h
    exact a_X16_takeJoin_169 K hQ hX hK78 _ _ _ _ _ _ _ _ _ _ g1 g2 g3 g6 g7 g8 g11 h hGσ53 hS _ _ _ hH (lv_sub (l' := [(0, .ref rm), (1, .int (i32 v1)), (2, .int (i32 v2)), (3, .int (i32 v3)), (4, .long v4), (6, .int (i32 v6)), (7, .int (i32 v7)), (8, .int (i32 v8)), (9, .long v9), (11, .int (i32 v11))]) hl [1, 2, 3, 4, 5, 6, 7, 8, 9, 10] rfl) hc
  · rw [if_neg (fun q => q ((z_eq gr54).mp h9))] at h
    exact a_X16_takeJoin_166 K hQ hX hK78 _ _ _ _ _ _ _ _ _ _ g1 g2 g3 g6 g7 g8 g11 h hGσ53 hS _ _ _ hH (lv_sub (l' := [(0, .ref rm), (1, .int (i32 v1)), (2, .int (i32 v2)), (3, .int (i32 v3)), (4, .long v4), (6, .int (i32 v6)), (7, .int (i32 v7)), (8, .int (i32 v8)), (9, .long v9), (11, .int (i32 v11))]) hl [1, 2, 3, 4, 5, 6, 7, 8, 9, 10] rfl) hc
set_option maxRecDepth 20000 in
theorem a_X16_takeJoin_128 {Q : Sg → Unit → Prop} {X : Sg → String → Prop} (K : MC R p s m args c cX16_takeJoin 15 RX16 D cA tys A n0 s0 3 79 []) (hQ : HQV p l e R s m args below meth c cX16_takeJoin D cA A n0 s0 QM dm ra jx rm Q) (hX : HX p l e R s m args below meth c 15 D cA A n0 s0 QM dm ra jx rm X) {K78 : Sg → Int → Int → Int → Int64 → Int → Int → Int → Int64 → Int → Prop} (hK78 : ∀ (σ : Sg) (v1 : Int) (v2 : Int) (v3 : Int) (v4 : Int64) (v6 : Int) (v7 : Int) (v8 : Int) (v9 : Int64) (v11 : Int) (g1 : rng v1) (g2 : rng v2) (g3 : rng v3) (g6 : rng v6) (g7 : rng v7) (g8 : rng v8) (g11 : rng v11), K78 σ v1 v2 v3 v4 v6 v7 v8 v9 v11 → RG σ → Shp dm ra jx rm σ → JJ p l e R s m args below meth c 15 D cA A n0 s0 QM σ 78 [(0, .ref rm), (1, .int (i32 v1)), (2, .int (i32 v2)), (3, .int (i32 v3)), (4, .long v4), (6, .int (i32 v6)), (7, .int (i32 v7)), (8, .int (i32 v8)), (9, .long v9), (11, .int (i32 v11))] []) : ∀ (σ : Sg) (v1 : Int) (v2 : Int) (v3 : Int) (v4 : Int64) (v6 : Int) (v7 : Int) (v8 : Int) (v9 : Int64) (v11 : Int) (g1 : rng v1) (g2 : rng v2) (g3 : rng v3) (g6 : rng v6) (g7 : rng v7) (g8 : rng v8) (g11 : rng v11), w_X16_takeJoin_128 ra jx rm K78 Q X σ v1 v2 v3 v4 v6 v7 v8 v9 v11 → RG σ → Shp dm ra jx rm σ → JJ p l e R s m args below meth c 15 D cA A n0 s0 QM σ 128 [(0, .ref rm), (1, .int (i32 v1)), (2, .int (i32 v2)), (3, .int (i32 v3)), (4, .long v4), (6, .int (i32 v6)), (7, .int (i32 v7)), (8, .int (i32 v8)), (9, .long v9), (11, .int (i32 v11))] [] := by
  intro σ v1 v2 v3 v4 v6 v7 v8 v9 v11 g1 g2 g3 g6 g7 g8 g11 h hGσ hS H locs ls hH hl hc
  have B := K.1
  unfold w_X16_takeJoin_128 at h
  refine lv_lload B.1 B.2.1 dX16_takeJoin_128 (lv_at hl 4 rfl) ?_
  refine lv_aload_n B.1 B.2.1 dX16_takeJoin_130 rfl (lv_at hl 0 rfl) ?_
  refine r_arr B hH hS 71 (kd := 101) (n := 4000) (by decide) (by decide) wf_X16_522 rfl rfl dX16_takeJoin_131 ?_
  refine lv_iload B.1 B.2.1 dX16_takeJoin_134 (lv_at hl 9 rfl) ?_
  obtain ⟨q1, h⟩ := h
  refine x_lald B K.2.1 hH (hS.ar (k := 71) (kd := 101) (n := 4000) (by decide)) (by decide) q1 dX16_takeJoin_136 ?_
  refine lv_lsub B.1 B.2.1 dX16_takeJoin_137 ?_
  exact a_X16_takeJoin_138 K hQ hX hK78 _ _ _ _ _ _ _ _ _ _ _ g1 g2 g3 g6 g7 g8 g11 h hGσ hS _ _ _ hH (lv_sub (l' := [(0, .ref rm), (1, .int (i32 v1)), (2, .int (i32 v2)), (3, .int (i32 v3)), (4, .long v4), (6, .int (i32 v6)), (7, .int (i32 v7)), (8, .int (i32 v8)), (9, .long v9), (11, .int (i32 v11))]) hl [0, 1, 2, 3, 4, 5, 6, 7, 8, 9] rfl) hc
set_option maxRecDepth 20000 in
theorem a_X16_takeJoin_115 {Q : Sg → Unit → Prop} {X : Sg → String → Prop} (K : MC R p s m args c cX16_takeJoin 15 RX16 D cA tys A n0 s0 3 79 []) (hQ : HQV p l e R s m args below meth c cX16_takeJoin D cA A n0 s0 QM dm ra jx rm Q) (hX : HX p l e R s m args below meth c 15 D cA A n0 s0 QM dm ra jx rm X) {K78 : Sg → Int → Int → Int → Int64 → Int → Int → Int → Int64 → Int → Prop} (hK78 : ∀ (σ : Sg) (v1 : Int) (v2 : Int) (v3 : Int) (v4 : Int64) (v6 : Int) (v7 : Int) (v8 : Int) (v9 : Int64) (v11 : Int) (g1 : rng v1) (g2 : rng v2) (g3 : rng v3) (g6 : rng v6) (g7 : rng v7) (g8 : rng v8) (g11 : rng v11), K78 σ v1 v2 v3 v4 v6 v7 v8 v9 v11 → RG σ → Shp dm ra jx rm σ → JJ p l e R s m args below meth c 15 D cA A n0 s0 QM σ 78 [(0, .ref rm), (1, .int (i32 v1)), (2, .int (i32 v2)), (3, .int (i32 v3)), (4, .long v4), (6, .int (i32 v6)), (7, .int (i32 v7)), (8, .int (i32 v8)), (9, .long v9), (11, .int (i32 v11))] []) : ∀ (σ : Sg) (v1 : Int) (v2 : Int) (v3 : Int) (v4 : Int64) (v6 : Int) (v7 : Int) (v8 : Int) (v9 : Int64) (v11 : Int) (g1 : rng v1) (g2 : rng v2) (g3 : rng v3) (g6 : rng v6) (g7 : rng v7) (g8 : rng v8) (g11 : rng v11), w_X16_takeJoin_115 ra jx rm K78 Q X σ v1 v2 v3 v4 v6 v7 v8 v9 v11 → RG σ → Shp dm ra jx rm σ → JJ p l e R s m args below meth c 15 D cA A n0 s0 QM σ 115 [(0, .ref rm), (1, .int (i32 v1)), (2, .int (i32 v2)), (3, .int (i32 v3)), (4, .long v4), (6, .int (i32 v6)), (7, .int (i32 v7)), (8, .int (i32 v8)), (9, .long v9), (11, .int (i32 v11))] [] := by
  intro σ v1 v2 v3 v4 v6 v7 v8 v9 v11 g1 g2 g3 g6 g7 g8 g11 h hGσ hS H locs ls hH hl hc
  have B := K.1
  unfold w_X16_takeJoin_115 at h
  refine lv_aload_n B.1 B.2.1 dX16_takeJoin_115 rfl (lv_at hl 0 rfl) ?_
  refine r_arr B hH hS 71 (kd := 101) (n := 4000) (by decide) (by decide) wf_X16_522 rfl rfl dX16_takeJoin_116 ?_
  refine lv_iload B.1 B.2.1 dX16_takeJoin_119 (lv_at hl 9 rfl) ?_
  obtain ⟨q1, h⟩ := h
  refine x_lald B K.2.1 hH (hS.ar (k := 71) (kd := 101) (n := 4000) (by decide)) (by decide) q1 dX16_takeJoin_121 ?_
  refine lv_lload B.1 B.2.1 dX16_takeJoin_122 (lv_at hl 4 rfl) ?_
  refine lv_lsub B.1 B.2.1 dX16_takeJoin_124 ?_
  refine lv_goto (tgt := 138) B.1 B.2.1 dX16_takeJoin_125 (by decide) ?_
  exact a_X16_takeJoin_138 K hQ hX hK78 _ _ _ _ _ _ _ _ _ _ _ g1 g2 g3 g6 g7 g8 g11 h hGσ hS _ _ _ hH (lv_sub (l' := [(0, .ref rm), (1, .int (i32 v1)), (2, .int (i32 v2)), (3, .int (i32 v3)), (4, .long v4), (6, .int (i32 v6)), (7, .int (i32 v7)), (8, .int (i32 v8)), (9, .long v9), (11, .int (i32 v11))]) hl [0, 1, 2, 3, 4, 5, 6, 7, 8, 9] rfl) hc
set_option maxRecDepth 20000 in
theorem a_X16_takeJoin_111 {Q : Sg → Unit → Prop} {X : Sg → String → Prop} (K : MC R p s m args c cX16_takeJoin 15 RX16 D cA tys A n0 s0 3 79 []) (hQ : HQV p l e R s m args below meth c cX16_takeJoin D cA A n0 s0 QM dm ra jx rm Q) (hX : HX p l e R s m args below meth c 15 D cA A n0 s0 QM dm ra jx rm X) {K78 : Sg → Int → Int → Int → Int64 → Int → Int → Int → Int64 → Int → Prop} (hK78 : ∀ (σ : Sg) (v1 : Int) (v2 : Int) (v3 : Int) (v4 : Int64) (v6 : Int) (v7 : Int) (v8 : Int) (v9 : Int64) (v11 : Int) (g1 : rng v1) (g2 : rng v2) (g3 : rng v3) (g6 : rng v6) (g7 : rng v7) (g8 : rng v8) (g11 : rng v11), K78 σ v1 v2 v3 v4 v6 v7 v8 v9 v11 → RG σ → Shp dm ra jx rm σ → JJ p l e R s m args below meth c 15 D cA A n0 s0 QM σ 78 [(0, .ref rm), (1, .int (i32 v1)), (2, .int (i32 v2)), (3, .int (i32 v3)), (4, .long v4), (6, .int (i32 v6)), (7, .int (i32 v7)), (8, .int (i32 v8)), (9, .long v9), (11, .int (i32 v11))] []) : ∀ (σ : Sg) (v1 : Int) (v2 : Int) (v3 : Int) (v4 : Int64) (v6 : Int) (v7 : Int) (v8 : Int) (v9 : Int64) (v11 : Int) (g1 : rng v1) (g2 : rng v2) (g3 : rng v3) (g6 : rng v6) (g7 : rng v7) (g8 : rng v8) (g11 : rng v11), w_X16_takeJoin_111 ra jx rm K78 Q X σ v1 v2 v3 v4 v6 v7 v8 v9 v11 → RG σ → Shp dm ra jx rm σ → JJ p l e R s m args below meth c 15 D cA A n0 s0 QM σ 111 [(0, .ref rm), (1, .int (i32 v1)), (2, .int (i32 v2)), (3, .int (i32 v3)), (4, .long v4), (6, .int (i32 v6)), (7, .int (i32 v7)), (8, .int (i32 v8)), (9, .long v9), (11, .int (i32 v11))] [] := by
  intro σ v1 v2 v3 v4 v6 v7 v8 v9 v11 g1 g2 g3 g6 g7 g8 g11 h hGσ hS H locs ls hH hl hc
  have B := K.1
  unfold w_X16_takeJoin_111 at h
  refine lv_iload_n B.1 B.2.1 dX16_takeJoin_111 rfl (lv_at hl 3 rfl) ?_
  refine lv_if_ne (tgt := 128) B.1 B.2.1 dX16_takeJoin_112 (by decide) (fun h9 => ?_) (fun h9 => ?_)
  · rw [if_pos (fun q => h9 ((z_eq g3).mpr q))] at h
    exact a_X16_takeJoin_128 K hQ hX hK78 _ _ _ _ _ _ _ _ _ _ g1 g2 g3 g6 g7 g8 g11 h hGσ hS _ _ _ hH (lv_sub (l' := [(0, .ref rm), (1, .int (i32 v1)), (2, .int (i32 v2)), (3, .int (i32 v3)), (4, .long v4), (6, .int (i32 v6)), (7, .int (i32 v7)), (8, .int (i32 v8)), (9, .long v9), (11, .int (i32 v11))]) hl [0, 1, 2, 3, 4, 5, 6, 7, 8, 9] rfl) hc
  · rw [if_neg (fun q => q ((z_eq g3).mp h9))] at h
    exact a_X16_takeJoin_115 K hQ hX hK78 _ _ _ _ _ _ _ _ _ _ g1 g2 g3 g6 g7 g8 g11 h hGσ hS _ _ _ hH (lv_sub (l' := [(0, .ref rm), (1, .int (i32 v1)), (2, .int (i32 v2)), (3, .int (i32 v3)), (4, .long v4), (6, .int (i32 v6)), (7, .int (i32 v7)), (8, .int (i32 v8)), (9, .long v9), (11, .int (i32 v11))]) hl [0, 1, 2, 3, 4, 5, 6, 7, 8, 9] rfl) hc
set_option maxRecDepth 20000 in
theorem a_X16_takeJoin_108 {Q : Sg → Unit → Prop} {X : Sg → String → Prop} (K : MC R p s m args c cX16_takeJoin 15 RX16 D cA tys A n0 s0 3 79 []) (hQ : HQV p l e R s m args below meth c cX16_takeJoin D cA A n0 s0 QM dm ra jx rm Q) (hX : HX p l e R s m args below meth c 15 D cA A n0 s0 QM dm ra jx rm X) {K78 : Sg → Int → Int → Int → Int64 → Int → Int → Int → Int64 → Int → Prop} (hK78 : ∀ (σ : Sg) (v1 : Int) (v2 : Int) (v3 : Int) (v4 : Int64) (v6 : Int) (v7 : Int) (v8 : Int) (v9 : Int64) (v11 : Int) (g1 : rng v1) (g2 : rng v2) (g3 : rng v3) (g6 : rng v6) (g7 : rng v7) (g8 : rng v8) (g11 : rng v11), K78 σ v1 v2 v3 v4 v6 v7 v8 v9 v11 → RG σ → Shp dm ra jx rm σ → JJ p l e R s m args below meth c 15 D cA A n0 s0 QM σ 78 [(0, .ref rm), (1, .int (i32 v1)), (2, .int (i32 v2)), (3, .int (i32 v3)), (4, .long v4), (6, .int (i32 v6)), (7, .int (i32 v7)), (8, .int (i32 v8)), (9, .long v9), (11, .int (i32 v11))] []) : ∀ (σ : Sg) (v1 : Int) (v2 : Int) (v3 : Int) (v4 : Int64) (v6 : Int) (v7 : Int) (v8 : Int) (v9 : Int64) (v11 : Int) (g1 : rng v1) (g2 : rng v2) (g3 : rng v3) (g6 : rng v6) (g7 : rng v7) (g8 : rng v8) (g11 : rng v11), w_X16_takeJoin_108 ra jx rm K78 Q X σ v1 v2 v3 v4 v6 v7 v8 v9 v11 → RG σ → Shp dm ra jx rm σ → JJ p l e R s m args below meth c 15 D cA A n0 s0 QM σ 108 [(0, .ref rm), (1, .int (i32 v1)), (2, .int (i32 v2)), (3, .int (i32 v3)), (4, .long v4), (6, .int (i32 v6)), (7, .int (i32 v7)), (8, .int (i32 v8)), (9, .long v9), (11, .int (i32 v11))] [] := by
  intro σ v1 v2 v3 v4 v6 v7 v8 v9 v11 g1 g2 g3 g6 g7 g8 g11 h hGσ hS H locs ls hH hl hc
  have B := K.1
  unfold w_X16_takeJoin_108 at h
  refine lv_goto (tgt := 352) B.1 B.2.1 dX16_takeJoin_108 (by decide) ?_
  exact a_X16_takeJoin_352 K hQ hX hK78 _ _ _ _ _ _ _ _ _ _ g1 g2 g3 g6 g7 g8 g11 h hGσ hS _ _ _ hH (lv_sub (l' := [(0, .ref rm), (1, .int (i32 v1)), (2, .int (i32 v2)), (3, .int (i32 v3)), (4, .long v4), (6, .int (i32 v6)), (7, .int (i32 v7)), (8, .int (i32 v8)), (9, .long v9), (11, .int (i32 v11))]) hl [0, 1, 2, 3, 4, 5, 6, 7, 8, 9] rfl) hc
set_option maxRecDepth 20000 in
theorem a_X16_takeJoin_95 {Q : Sg → Unit → Prop} {X : Sg → String → Prop} (K : MC R p s m args c cX16_takeJoin 15 RX16 D cA tys A n0 s0 3 79 []) (hQ : HQV p l e R s m args below meth c cX16_takeJoin D cA A n0 s0 QM dm ra jx rm Q) (hX : HX p l e R s m args below meth c 15 D cA A n0 s0 QM dm ra jx rm X) {K78 : Sg → Int → Int → Int → Int64 → Int → Int → Int → Int64 → Int → Prop} (hK78 : ∀ (σ : Sg) (v1 : Int) (v2 : Int) (v3 : Int) (v4 : Int64) (v6 : Int) (v7 : Int) (v8 : Int) (v9 : Int64) (v11 : Int) (g1 : rng v1) (g2 : rng v2) (g3 : rng v3) (g6 : rng v6) (g7 : rng v7) (g8 : rng v8) (g11 : rng v11), K78 σ v1 v2 v3 v4 v6 v7 v8 v9 v11 → RG σ → Shp dm ra jx rm σ → JJ p l e R s m args below meth c 15 D cA A n0 s0 QM σ 78 [(0, .ref rm), (1, .int (i32 v1)), (2, .int (i32 v2)), (3, .int (i32 v3)), (4, .long v4), (6, .int (i32 v6)), (7, .int (i32 v7)), (8, .int (i32 v8)), (9, .long v9), (11, .int (i32 v11))] []) : ∀ (σ : Sg) (v1 : Int) (v2 : Int) (v3 : Int) (v4 : Int64) (v6 : Int) (v7 : Int) (v8 : Int) (v9 : Int64) (v11 : Int) (g1 : rng v1) (g2 : rng v2) (g3 : rng v3) (g6 : rng v6) (g7 : rng v7) (g8 : rng v8) (g11 : rng v11), w_X16_takeJoin_95 ra jx rm K78 Q X σ v1 v2 v3 v4 v6 v7 v8 v9 v11 → RG σ → Shp dm ra jx rm σ → JJ p l e R s m args below meth c 15 D cA A n0 s0 QM σ 95 [(0, .ref rm), (1, .int (i32 v1)), (2, .int (i32 v2)), (3, .int (i32 v3)), (4, .long v4), (6, .int (i32 v6)), (7, .int (i32 v7)), (8, .int (i32 v8)), (9, .long v9), (11, .int (i32 v11))] [] := by
  intro σ v1 v2 v3 v4 v6 v7 v8 v9 v11 g1 g2 g3 g6 g7 g8 g11 h hGσ hS H locs ls hH hl hc
  have B := K.1
  unfold w_X16_takeJoin_95 at h
  refine lv_aload_n B.1 B.2.1 dX16_takeJoin_95 rfl (lv_at hl 0 rfl) ?_
  refine r_arr B hH hS 70 (kd := 101) (n := 4000) (by decide) (by decide) wf_X16_519 rfl rfl dX16_takeJoin_96 ?_
  refine lv_iload B.1 B.2.1 dX16_takeJoin_99 (lv_at hl 9 rfl) ?_
  obtain ⟨q1, h⟩ := h
  refine x_lald B K.2.1 hH (hS.ar (k := 70) (kd := 101) (n := 4000) (by decide)) (by decide) q1 dX16_takeJoin_101 ?_
  refine lv_lload B.1 B.2.1 dX16_takeJoin_102 (lv_at hl 8 rfl) ?_
  refine W.lcmp B.1 B.2.1 dX16_takeJoin_104 ?_
  refine lv_if_eq (tgt := 111) B.1 B.2.1 dX16_takeJoin_105 (by decide) (fun h9 => ?_) (fun h9 => ?_)
  · rw [if_pos ((lg_cmp_eq _ _).mp h9)] at h
    exact a_X16_takeJoin_111 K hQ hX hK78 _ _ _ _ _ _ _ _ _ _ g1 g2 g3 g6 g7 g8 g11 h hGσ hS _ _ _ hH (lv_sub (l' := [(0, .ref rm), (1, .int (i32 v1)), (2, .int (i32 v2)), (3, .int (i32 v3)), (4, .long v4), (6, .int (i32 v6)), (7, .int (i32 v7)), (8, .int (i32 v8)), (9, .long v9), (11, .int (i32 v11))]) hl [0, 1, 2, 3, 4, 5, 6, 7, 8, 9] rfl) hc
  · rw [if_neg (fun q => h9 ((lg_cmp_eq _ _).mpr q))] at h
    exact a_X16_takeJoin_108 K hQ hX hK78 _ _ _ _ _ _ _ _ _ _ g1 g2 g3 g6 g7 g8 g11 h hGσ hS _ _ _ hH (lv_sub (l' := [(0, .ref rm), (1, .int (i32 v1)), (2, .int (i32 v2)), (3, .int (i32 v3)), (4, .long v4), (6, .int (i32 v6)), (7, .int (i32 v7)), (8, .int (i32 v8)), (9, .long v9), (11, .int (i32 v11))]) hl [0, 1, 2, 3, 4, 5, 6, 7, 8, 9] rfl) hc
set_option maxRecDepth 20000 in
theorem a_X16_takeJoin_84 {Q : Sg → Unit → Prop} {X : Sg → String → Prop} (K : MC R p s m args c cX16_takeJoin 15 RX16 D cA tys A n0 s0 3 79 []) (hQ : HQV p l e R s m args below meth c cX16_takeJoin D cA A n0 s0 QM dm ra jx rm Q) (hX : HX p l e R s m args below meth c 15 D cA A n0 s0 QM dm ra jx rm X) {K78 : Sg → Int → Int → Int → Int64 → Int → Int → Int → Int64 → Int → Prop} (hK78 : ∀ (σ : Sg) (v1 : Int) (v2 : Int) (v3 : Int) (v4 : Int64) (v6 : Int) (v7 : Int) (v8 : Int) (v9 : Int64) (v11 : Int) (g1 : rng v1) (g2 : rng v2) (g3 : rng v3) (g6 : rng v6) (g7 : rng v7) (g8 : rng v8) (g11 : rng v11), K78 σ v1 v2 v3 v4 v6 v7 v8 v9 v11 → RG σ → Shp dm ra jx rm σ → JJ p l e R s m args below meth c 15 D cA A n0 s0 QM σ 78 [(0, .ref rm), (1, .int (i32 v1)), (2, .int (i32 v2)), (3, .int (i32 v3)), (4, .long v4), (6, .int (i32 v6)), (7, .int (i32 v7)), (8, .int (i32 v8)), (9, .long v9), (11, .int (i32 v11))] []) : ∀ (σ : Sg) (v1 : Int) (v2 : Int) (v3 : Int) (v4 : Int64) (v6 : Int) (v7 : Int) (v8 : Int) (v9 : Int64) (v11 : Int) (g1 : rng v1) (g2 : rng v2) (g3 : rng v3) (g6 : rng v6) (g7 : rng v7) (g8 : rng v8) (g11 : rng v11), w_X16_takeJoin_84 ra jx rm K78 Q X σ v1 v2 v3 v4 v6 v7 v8 v9 v11 → RG σ → Shp dm ra jx rm σ → JJ p l e R s m args below meth c 15 D cA A n0 s0 QM σ 84 [(0, .ref rm), (1, .int (i32 v1)), (2, .int (i32 v2)), (3, .int (i32 v3)), (4, .long v4), (6, .int (i32 v6)), (7, .int (i32 v7)), (8, .int (i32 v8)), (9, .long v9), (11, .int (i32 v11))] [] := by
  intro σ v1 v2 v3 v4 v6 v7 v8 v9 v11 g1 g2 g3 g6 g7 g8 g11 h hGσ hS H locs ls hH hl hc
  have B := K.1
  unfold w_X16_takeJoin_84 at h
  refine lv_aload_n B.1 B.2.1 dX16_takeJoin_84 rfl (lv_at hl 0 rfl) ?_
  refine r_arr B hH hS 68 (kd := 100) (n := 4000) (by decide) (by decide) wf_X16_513 rfl rfl dX16_takeJoin_85 ?_
  refine lv_iload B.1 B.2.1 dX16_takeJoin_88 (lv_at hl 9 rfl) ?_
  obtain ⟨q1, h⟩ := h
  refine x_iald B K.2.1 hH (hS.ar (k := 68) (kd := 100) (n := 4000) (by decide)) (by decide) q1 dX16_takeJoin_90 ?_
  refine lv_iload_n B.1 B.2.1 dX16_takeJoin_91 rfl (lv_at hl 3 rfl) ?_
  refine lv_icmp_eq (tgt := 352) B.1 B.2.1 dX16_takeJoin_92 (by decide) (fun h9 => ?_) (fun h9 => ?_)
  · rw [if_pos ((i32_eq (hGσ _ _) g3).mp h9)] at h
    exact a_X16_takeJoin_352 K hQ hX hK78 _ _ _ _ _ _ _ _ _ _ g1 g2 g3 g6 g7 g8 g11 h hGσ hS _ _ _ hH (lv_sub (l' := [(0, .ref rm), (1, .int (i32 v1)), (2, .int (i32 v2)), (3, .int (i32 v3)), (4, .long v4), (6, .int (i32 v6)), (7, .int (i32 v7)), (8, .int (i32 v8)), (9, .long v9), (11, .int (i32 v11))]) hl [0, 1, 2, 3, 4, 5, 6, 7, 8, 9] rfl) hc
  · rw [if_neg (fun q => h9 ((i32_eq (hGσ _ _) g3).mpr q))] at h
    exact a_X16_takeJoin_95 K hQ hX hK78 _ _ _ _ _ _ _ _ _ _ g1 g2 g3 g6 g7 g8 g11 h hGσ hS _ _ _ hH (lv_sub (l' := [(0, .ref rm), (1, .int (i32 v1)), (2, .int (i32 v2)), (3, .int (i32 v3)), (4, .long v4), (6, .int (i32 v6)), (7, .int (i32 v7)), (8, .int (i32 v8)), (9, .long v9), (11, .int (i32 v11))]) hl [0, 1, 2, 3, 4, 5, 6, 7, 8, 9] rfl) hc
set_option maxRecDepth 20000 in
theorem a_X16_takeJoin_78 {Q : Sg → Unit → Prop} {X : Sg → String → Prop} (K : MC R p s m args c cX16_takeJoin 15 RX16 D cA tys A n0 s0 3 79 []) (hQ : HQV p l e R s m args below meth c cX16_takeJoin D cA A n0 s0 QM dm ra jx rm Q) (hX : HX p l e R s m args below meth c 15 D cA A n0 s0 QM dm ra jx rm X) {K78 : Sg → Int → Int → Int → Int64 → Int → Int → Int → Int64 → Int → Prop} (hK78 : ∀ (σ : Sg) (v1 : Int) (v2 : Int) (v3 : Int) (v4 : Int64) (v6 : Int) (v7 : Int) (v8 : Int) (v9 : Int64) (v11 : Int) (g1 : rng v1) (g2 : rng v2) (g3 : rng v3) (g6 : rng v6) (g7 : rng v7) (g8 : rng v8) (g11 : rng v11), K78 σ v1 v2 v3 v4 v6 v7 v8 v9 v11 → RG σ → Shp dm ra jx rm σ → JJ p l e R s m args below meth c 15 D cA A n0 s0 QM σ 78 [(0, .ref rm), (1, .int (i32 v1)), (2, .int (i32 v2)), (3, .int (i32 v3)), (4, .long v4), (6, .int (i32 v6)), (7, .int (i32 v7)), (8, .int (i32 v8)), (9, .long v9), (11, .int (i32 v11))] []) : ∀ (σ : Sg) (v1 : Int) (v2 : Int) (v3 : Int) (v4 : Int64) (v6 : Int) (v7 : Int) (v8 : Int) (v9 : Int64) (v11 : Int) (g1 : rng v1) (g2 : rng v2) (g3 : rng v3) (g6 : rng v6) (g7 : rng v7) (g8 : rng v8) (g11 : rng v11), w_X16_takeJoin_78 ra jx rm K78 Q X σ v1 v2 v3 v4 v6 v7 v8 v9 v11 → RG σ → Shp dm ra jx rm σ → JJ p l e R s m args below meth c 15 D cA A n0 s0 QM σ 78 [(0, .ref rm), (1, .int (i32 v1)), (2, .int (i32 v2)), (3, .int (i32 v3)), (4, .long v4), (6, .int (i32 v6)), (7, .int (i32 v7)), (8, .int (i32 v8)), (9, .long v9), (11, .int (i32 v11))] [] := by
  intro σ v1 v2 v3 v4 v6 v7 v8 v9 v11 g1 g2 g3 g6 g7 g8 g11 h hGσ hS H locs ls hH hl hc
  have B := K.1
  unfold w_X16_takeJoin_78 at h
  refine lv_iload B.1 B.2.1 dX16_takeJoin_78 (lv_at hl 9 rfl) ?_
  refine lv_iconst (v := i32 (-1)) B.1 B.2.1 dX16_takeJoin_80 (by decide) ?_
  refine lv_icmp_eq (tgt := 364) B.1 B.2.1 dX16_takeJoin_81 (by decide) (fun h9 => ?_) (fun h9 => ?_)
  · rw [if_pos ((i32_eq g11 (by unfold rng; omega)).mp h9)] at h
    exact a_X16_takeJoin_364 K hQ hX _ _ _ _ _ _ g1 g3 g6 h hGσ hS _ _ _ hH (lv_sub (l' := [(0, .ref rm), (1, .int (i32 v1)), (3, .int (i32 v3)), (4, .long v4), (6, .int (i32 v6)), (9, .long v9)]) hl [0, 1, 3, 4, 5, 8] rfl) hc
  · rw [if_neg (fun q => h9 ((i32_eq g11 (by unfold rng; omega)).mpr q))] at h
    exact a_X16_takeJoin_84 K hQ hX hK78 _ _ _ _ _ _ _ _ _ _ g1 g2 g3 g6 g7 g8 g11 h hGσ hS _ _ _ hH (lv_sub (l' := [(0, .ref rm), (1, .int (i32 v1)), (2, .int (i32 v2)), (3, .int (i32 v3)), (4, .long v4), (6, .int (i32 v6)), (7, .int (i32 v7)), (8, .int (i32 v8)), (9, .long v9), (11, .int (i32 v11))]) hl [0, 1, 2, 3, 4, 5, 6, 7, 8, 9] rfl) hc
theorem al_X16_takeJoin_78 {Q : Sg → Unit → Prop} {X : Sg → String → Prop} (K : MC R p s m args c cX16_takeJoin 15 RX16 D cA tys A n0 s0 3 79 []) (hQ : HQV p l e R s m args below meth c cX16_takeJoin D cA A n0 s0 QM dm ra jx rm Q) (hX : HX p l e R s m args below meth c 15 D cA A n0 s0 QM dm ra jx rm X) : ∀ (n : Nat), ∀ (σ : Sg) (v1 : Int) (v2 : Int) (v3 : Int) (v4 : Int64) (v6 : Int) (v7 : Int) (v8 : Int) (v9 : Int64) (v11 : Int) (g1 : rng v1) (g2 : rng v2) (g3 : rng v3) (g6 : rng v6) (g7 : rng v7) (g8 : rng v8) (g11 : rng v11), wl_X16_takeJoin_78 ra jx rm Q X n σ v1 v2 v3 v4 v6 v7 v8 v9 v11 → RG σ → Shp dm ra jx rm σ → JJ p l e R s m args below meth c 15 D cA A n0 s0 QM σ 78 [(0, .ref rm), (1, .int (i32 v1)), (2, .int (i32 v2)), (3, .int (i32 v3)), (4, .long v4), (6, .int (i32 v6)), (7, .int (i32 v7)), (8, .int (i32 v8)), (9, .long v9), (11, .int (i32 v11))] [] := by
  intro n
  induction n with
  | zero => intro σ v1 v2 v3 v4 v6 v7 v8 v9 v11 g1 g2 g3 g6 g7 g8 g11 h; exact h.elim
  | succ n ih => exact fun σ v1 v2 v3 v4 v6 v7 v8 v9 v11 g1 g2 g3 g6 g7 g8 g11 h => a_X16_takeJoin_78 K hQ hX ih σ v1 v2 v3 v4 v6 v7 v8 v9 v11 g1 g2 g3 g6 g7 g8 g11 h
set_option maxRecDepth 20000 in
theorem a_X16_takeJoin_67 {Q : Sg → Unit → Prop} {X : Sg → String → Prop} (K : MC R p s m args c cX16_takeJoin 15 RX16 D cA tys A n0 s0 3 79 []) (hQ : HQV p l e R s m args below meth c cX16_takeJoin D cA A n0 s0 QM dm ra jx rm Q) (hX : HX p l e R s m args below meth c 15 D cA A n0 s0 QM dm ra jx rm X) : ∀ (σ : Sg) (v1 : Int) (v2 : Int) (v3 : Int) (v4 : Int64) (v6 : Int) (v7 : Int) (v8 : Int) (u0 : Int) (g1 : rng v1) (g2 : rng v2) (g3 : rng v3) (g6 : rng v6) (g7 : rng v7) (g8 : rng v8) (gu0 : rng u0), w_X16_takeJoin_67 ra jx rm Q X σ v1 v2 v3 v4 v6 v7 v8 u0 → RG σ → Shp dm ra jx rm σ → JJ p l e R s m args below meth c 15 D cA A n0 s0 QM σ 67 [(0, .ref rm), (1, .int (i32 v1)), (2, .int (i32 v2)), (3, .int (i32 v3)), (4, .long v4), (6, .int (i32 v6)), (7, .int (i32 v7)), (8, .int (i32 v8))] [.int (i32 u0), .ref (ra 81)] := by
  intro σ v1 v2 v3 v4 v6 v7 v8 u0 g1 g2 g3 g6 g7 g8 gu0 h hGσ hS H locs ls hH hl hc
  have B := K.1
  unfold w_X16_takeJoin_67 at h
  obtain ⟨q1, h⟩ := h
  refine x_lald B K.2.1 hH (hS.ar (k := 81) (kd := 101) (n := 8) (by decide)) (by decide) q1 dX16_takeJoin_67 ?_
  refine lv_lstore (lv' := [(9, .long (gJ σ (ra 81) u0.toNat)), (0, .ref rm), (1, .int (i32 v1)), (2, .int (i32 v2)), (3, .int (i32 v3)), (4, .long v4), (6, .int (i32 v6)), (7, .int (i32 v7)), (8, .int (i32 v8))]) B.1 B.2.1 dX16_takeJoin_68 hl (by decide) rfl (fun ls hl => ?_)
  refine lv_aload_n B.1 B.2.1 dX16_takeJoin_70 rfl (lv_at hl 1 rfl) ?_
  refine r_arr B hH hS 76 (kd := 100) (n := 64) (by decide) (by decide) wf_X16_504 rfl rfl dX16_takeJoin_71 ?_
  refine lv_iload_n B.1 B.2.1 dX16_takeJoin_74 rfl (lv_at hl 2 rfl) ?_
  obtain ⟨q2, h⟩ := h
  refine x_iald B K.2.1 hH (hS.ar (k := 76) (kd := 100) (n := 64) (by decide)) (by decide) q2 dX16_takeJoin_75 ?_
  refine lv_istore (lv' := [(11, .int (i32 (gI σ (ra 76) v1.toNat))), (9, .long (gJ σ (ra 81) u0.toNat)), (0, .ref rm), (1, .int (i32 v1)), (2, .int (i32 v2)), (3, .int (i32 v3)), (4, .long v4), (6, .int (i32 v6)), (7, .int (i32 v7)), (8, .int (i32 v8))]) B.1 B.2.1 dX16_takeJoin_76 hl (by decide) rfl (fun ls hl => ?_)
  obtain ⟨n9, h⟩ := h
  exact al_X16_takeJoin_78 K hQ hX n9 _ _ _ _ _ _ _ _ _ _ g1 g2 g3 g6 g7 g8 (hGσ _ _) h hGσ hS _ _ _ hH (lv_sub (l' := [(0, .ref rm), (1, .int (i32 v1)), (2, .int (i32 v2)), (3, .int (i32 v3)), (4, .long v4), (6, .int (i32 v6)), (7, .int (i32 v7)), (8, .int (i32 v8)), (9, .long (gJ σ (ra 81) u0.toNat)), (11, .int (i32 (gI σ (ra 76) v1.toNat)))]) hl [2, 3, 4, 5, 6, 7, 8, 9, 1, 0] rfl) hc
set_option maxRecDepth 20000 in
theorem a_X16_takeJoin_58 {Q : Sg → Unit → Prop} {X : Sg → String → Prop} (K : MC R p s m args c cX16_takeJoin 15 RX16 D cA tys A n0 s0 3 79 []) (hQ : HQV p l e R s m args below meth c cX16_takeJoin D cA A n0 s0 QM dm ra jx rm Q) (hX : HX p l e R s m args below meth c 15 D cA A n0 s0 QM dm ra jx rm X) : ∀ (σ : Sg) (v1 : Int) (v2 : Int) (v3 : Int) (v4 : Int64) (v6 : Int) (v7 : Int) (v8 : Int) (g1 : rng v1) (g2 : rng v2) (g3 : rng v3) (g6 : rng v6) (g7 : rng v7) (g8 : rng v8), w_X16_takeJoin_58 ra jx rm Q X σ v1 v2 v3 v4 v6 v7 v8 → RG σ → Shp dm ra jx rm σ → JJ p l e R s m args below meth c 15 D cA A n0 s0 QM σ 58 [(0, .ref rm), (1, .int (i32 v1)), (2, .int (i32 v2)), (3, .int (i32 v3)), (4, .long v4), (6, .int (i32 v6)), (7, .int (i32 v7)), (8, .int (i32 v8))] [.ref (ra 81)] := by
  intro σ v1 v2 v3 v4 v6 v7 v8 g1 g2 g3 g6 g7 g8 h hGσ hS H locs ls hH hl hc
  have B := K.1
  unfold w_X16_takeJoin_58 at h
  refine lv_aload_n B.1 B.2.1 dX16_takeJoin_58 rfl (lv_at hl 0 rfl) ?_
  refine r_getp B hH hS 17 (by decide) wf_X16_356 rfl rfl dX16_takeJoin_59 ?_
  obtain ⟨a55, ea55, ja55, h⟩ := h
  refine W.eq (g2 := F0 m 62 ls [.ref a55, .ref (ra 81)]) (by rw [ea55]; rfl) ?_
  refine n_arr B hH hS ja55 11 (kd := 100) (n := 16) (by decide) (by decide) (List.mem_of_getElem? (i := 11) rfl) rfl dX16_takeJoin_62 ?_
  refine lv_iload_n B.1 B.2.1 dX16_takeJoin_65 rfl (lv_at hl 2 rfl) ?_
  obtain ⟨q2, h⟩ := h
  refine x_iald B K.2.1 hH (hS.ja ja55 (k := 11) (kd := 100) (n := 16) (by decide)) (by decide) q2 dX16_takeJoin_66 ?_
  exact a_X16_takeJoin_67 K hQ hX _ _ _ _ _ _ _ _ _ g1 g2 g3 g6 g7 g8 (hGσ _ _) h hGσ hS _ _ _ hH (lv_sub (l' := [(0, .ref rm), (1, .int (i32 v1)), (2, .int (i32 v2)), (3, .int (i32 v3)), (4, .long v4), (6, .int (i32 v6)), (7, .int (i32 v7)), (8, .int (i32 v8))]) hl [0, 1, 2, 3, 4, 5, 6, 7] rfl) hc
set_option maxRecDepth 20000 in
theorem a_X16_takeJoin_46 {Q : Sg → Unit → Prop} {X : Sg → String → Prop} (K : MC R p s m args c cX16_takeJoin 15 RX16 D cA tys A n0 s0 3 79 []) (hQ : HQV p l e R s m args below meth c cX16_takeJoin D cA A n0 s0 QM dm ra jx rm Q) (hX : HX p l e R s m args below meth c 15 D cA A n0 s0 QM dm ra jx rm X) : ∀ (σ : Sg) (v1 : Int) (v2 : Int) (v3 : Int) (v4 : Int64) (v6 : Int) (v7 : Int) (v8 : Int) (g1 : rng v1) (g2 : rng v2) (g3 : rng v3) (g6 : rng v6) (g7 : rng v7) (g8 : rng v8), w_X16_takeJoin_46 ra jx rm Q X σ v1 v2 v3 v4 v6 v7 v8 → RG σ → Shp dm ra jx rm σ → JJ p l e R s m args below meth c 15 D cA A n0 s0 QM σ 46 [(0, .ref rm), (1, .int (i32 v1)), (2, .int (i32 v2)), (3, .int (i32 v3)), (4, .long v4), (6, .int (i32 v6)), (7, .int (i32 v7)), (8, .int (i32 v8))] [.ref (ra 81)] := by
  intro σ v1 v2 v3 v4 v6 v7 v8 g1 g2 g3 g6 g7 g8 h hGσ hS H locs ls hH hl hc
  have B := K.1
  unfold w_X16_takeJoin_46 at h
  refine lv_aload_n B.1 B.2.1 dX16_takeJoin_46 rfl (lv_at hl 0 rfl) ?_
  refine r_getp B hH hS 17 (by decide) wf_X16_356 rfl rfl dX16_takeJoin_47 ?_
  obtain ⟨a56, ea56, ja56, h⟩ := h
  refine W.eq (g2 := F0 m 50 ls [.ref a56, .ref (ra 81)]) (by rw [ea56]; rfl) ?_
  refine n_arr B hH hS ja56 10 (kd := 100) (n := 16) (by decide) (by decide) (List.mem_of_getElem? (i := 10) rfl) rfl dX16_takeJoin_50 ?_
  refine lv_iload_n B.1 B.2.1 dX16_takeJoin_53 rfl (lv_at hl 2 rfl) ?_
  obtain ⟨q2, h⟩ := h
  refine x_iald B K.2.1 hH (hS.ja ja56 (k := 10) (kd := 100) (n := 16) (by decide)) (by decide) q2 dX16_takeJoin_54 ?_
  refine lv_goto (tgt := 67) B.1 B.2.1 dX16_takeJoin_55 (by decide) ?_
  exact a_X16_takeJoin_67 K hQ hX _ _ _ _ _ _ _ _ _ g1 g2 g3 g6 g7 g8 (hGσ _ _) h hGσ hS _ _ _ hH (lv_sub (l' := [(0, .ref rm), (1, .int (i32 v1)), (2, .int (i32 v2)), (3, .int (i32 v3)), (4, .long v4), (6, .int (i32 v6)), (7, .int (i32 v7)), (8, .int (i32 v8))]) hl [0, 1, 2, 3, 4, 5, 6, 7] rfl) hc
set_option maxRecDepth 20000 in
theorem a_X16_takeJoin_0 {Q : Sg → Unit → Prop} {X : Sg → String → Prop} (K : MC R p s m args c cX16_takeJoin 15 RX16 D cA tys A n0 s0 3 79 []) (hQ : HQV p l e R s m args below meth c cX16_takeJoin D cA A n0 s0 QM dm ra jx rm Q) (hX : HX p l e R s m args below meth c 15 D cA A n0 s0 QM dm ra jx rm X) : ∀ (σ : Sg) (v1 : Int) (v2 : Int) (v3 : Int) (v4 : Int64) (v6 : Int) (g1 : rng v1) (g2 : rng v2) (g3 : rng v3) (g6 : rng v6), w_X16_takeJoin_0 ra jx rm Q X σ v1 v2 v3 v4 v6 → RG σ → Shp dm ra jx rm σ → JJ p l e R s m args below meth c 15 D cA A n0 s0 QM σ 0 [(0, .ref rm), (1, .int (i32 v1)), (2, .int (i32 v2)), (3, .int (i32 v3)), (4, .long v4), (6, .int (i32 v6))] [] := by
  intro σ v1 v2 v3 v4 v6 g1 g2 g3 g6 h hGσ hS H locs ls hH hl hc
  have B := K.1
  unfold w_X16_takeJoin_0 at h
  refine lv_aload_n B.1 B.2.1 dX16_takeJoin_0 rfl (lv_at hl 0 rfl) ?_
  refine r_getp B hH hS 17 (by decide) wf_X16_356 rfl rfl dX16_takeJoin_1 ?_
  obtain ⟨a57, ea57, ja57, h⟩ := h
  refine W.eq (g2 := F0 m 4 ls [.ref a57]) (by rw [ea57]; rfl) ?_
  refine n_arr B hH hS ja57 6 (kd := 100) (n := 16) (by decide) (by decide) (List.mem_of_getElem? (i := 6) rfl) rfl dX16_takeJoin_4 ?_
  refine lv_aload_n B.1 B.2.1 dX16_takeJoin_7 rfl (lv_at hl 0 rfl) ?_
  refine r_getp B hH hS 17 (by decide) wf_X16_356 rfl rfl dX16_takeJoin_8 ?_
  obtain ⟨a58, ea58, ja58, h⟩ := h
  refine W.eq (g2 := F0 m 11 ls [.ref a58, .ref (jx a57 6)]) (by rw [ea58]; rfl) ?_
  refine n_arr B hH hS ja58 4 (kd := 100) (n := 16) (by decide) (by decide) (List.mem_of_getElem? (i := 4) rfl) rfl dX16_takeJoin_11 ?_
  refine lv_iload_n B.1 B.2.1 dX16_takeJoin_14 rfl (lv_at hl 2 rfl) ?_
  obtain ⟨q3, h⟩ := h
  refine x_iald B K.2.1 hH (hS.ja ja58 (k := 4) (kd := 100) (n := 16) (by decide)) (by decide) q3 dX16_takeJoin_15 ?_
  obtain ⟨q4, h⟩ := h
  refine x_iald B K.2.1 hH (hS.ja ja57 (k := 6) (kd := 100) (n := 16) (by decide)) (by decide) q4 dX16_takeJoin_16 ?_
  refine lv_istore (lv' := [(7, .int (i32 (gI σ (jx a57 6) (gI σ (jx a58 4) v2.toNat).toNat))), (0, .ref rm), (1, .int (i32 v1)), (2, .int (i32 v2)), (3, .int (i32 v3)), (4, .long v4), (6, .int (i32 v6))]) B.1 B.2.1 dX16_takeJoin_17 hl (by decide) rfl (fun ls hl => ?_)
  refine lv_aload_n B.1 B.2.1 dX16_takeJoin_19 rfl (lv_at hl 1 rfl) ?_
  refine r_getp B hH hS 17 (by decide) wf_X16_356 rfl rfl dX16_takeJoin_20 ?_
  obtain ⟨a59, ea59, ja59, h⟩ := h
  refine W.eq (g2 := F0 m 23 ls [.ref a59]) (by rw [ea59]; rfl) ?_
  refine n_arr B hH hS ja59 6 (kd := 100) (n := 16) (by decide) (by decide) (List.mem_of_getElem? (i := 6) rfl) rfl dX16_takeJoin_23 ?_
  refine lv_aload_n B.1 B.2.1 dX16_takeJoin_26 rfl (lv_at hl 1 rfl) ?_
  refine r_getp B hH hS 17 (by decide) wf_X16_356 rfl rfl dX16_takeJoin_27 ?_
  obtain ⟨a60, ea60, ja60, h⟩ := h
  refine W.eq (g2 := F0 m 30 ls [.ref a60, .ref (jx a59 6)]) (by rw [ea60]; rfl) ?_
  refine n_arr B hH hS ja60 5 (kd := 100) (n := 16) (by decide) (by decide) (List.mem_of_getElem? (i := 5) rfl) rfl dX16_takeJoin_30 ?_
  refine lv_iload_n B.1 B.2.1 dX16_takeJoin_33 rfl (lv_at hl 3 rfl) ?_
  obtain ⟨q7, h⟩ := h
  refine x_iald B K.2.1 hH (hS.ja ja60 (k := 5) (kd := 100) (n := 16) (by decide)) (by decide) q7 dX16_takeJoin_34 ?_
  obtain ⟨q8, h⟩ := h
  refine x_iald B K.2.1 hH (hS.ja ja59 (k := 6) (kd := 100) (n := 16) (by decide)) (by decide) q8 dX16_takeJoin_35 ?_
  refine lv_istore (lv' := [(8, .int (i32 (gI σ (jx a59 6) (gI σ (jx a60 5) v2.toNat).toNat))), (7, .int (i32 (gI σ (jx a57 6) (gI σ (jx a58 4) v2.toNat).toNat))), (0, .ref rm), (1, .int (i32 v1)), (2, .int (i32 v2)), (3, .int (i32 v3)), (4, .long v4), (6, .int (i32 v6))]) B.1 B.2.1 dX16_takeJoin_36 hl (by decide) rfl (fun ls hl => ?_)
  refine lv_aload_n B.1 B.2.1 dX16_takeJoin_38 rfl (lv_at hl 2 rfl) ?_
  refine r_arr B hH hS 81 (kd := 101) (n := 8) (by decide) (by decide) wf_X16_542 rfl rfl dX16_takeJoin_39 ?_
  refine lv_iload_n B.1 B.2.1 dX16_takeJoin_42 rfl (lv_at hl 5 rfl) ?_
  refine lv_if_ne (tgt := 58) B.1 B.2.1 dX16_takeJoin_43 (by decide) (fun h9 => ?_) (fun h9 => ?_)
  · rw [if_pos (fun q => h9 ((z_eq g3).mpr q))] at h
    exact a_X16_takeJoin_58 K hQ hX _ _ _ _ _ _ _ _ g1 g2 g3 g6 (hGσ _ _) (hGσ _ _) h hGσ hS _ _ _ hH (lv_sub (l' := [(0, .ref rm), (1, .int (i32 v1)), (2, .int (i32 v2)), (3, .int (i32 v3)), (4, .long v4), (6, .int (i32 v6)), (7, .int (i32 (gI σ (jx a57 6) (gI σ (jx a58 4) v2.toNat).toNat))), (8, .int (i32 (gI σ (jx a59 6) (gI σ (jx a60 5) v2.toNat).toNat)))]) hl [2, 3, 4, 5, 6, 7, 1, 0] rfl) hc
  · rw [if_neg (fun q => q ((z_eq g3).mp h9))] at h
    exact a_X16_takeJoin_46 K hQ hX _ _ _ _ _ _ _ _ g1 g2 g3 g6 (hGσ _ _) (hGσ _ _) h hGσ hS _ _ _ hH (lv_sub (l' := [(0, .ref rm), (1, .int (i32 v1)), (2, .int (i32 v2)), (3, .int (i32 v3)), (4, .long v4), (6, .int (i32 v6)), (7, .int (i32 (gI σ (jx a57 6) (gI σ (jx a58 4) v2.toNat).toNat))), (8, .int (i32 (gI σ (jx a59 6) (gI σ (jx a60 5) v2.toNat).toNat)))]) hl [2, 3, 4, 5, 6, 7, 1, 0] rfl) hc
theorem ok_X16_takeJoin (hT : Tys cA tys) {Q : Sg → Unit → Prop} {X : Sg → String → Prop} (σ : Sg) (v1 : Int) (v2 : Int) (v3 : Int) (v4 : Int64) (v6 : Int) (g1 : rng v1) (g2 : rng v2) (g3 : rng v3) (g6 : rng v6) (hG : RG σ) (hS : Shp dm ra jx rm σ) (h : wp_X16_takeJoin ra jx rm v1 v2 v3 v4 v6 σ Q X) : Ok l D cA tys A yX16_takeJoin (.code yX16_takeJoin cX16_takeJoin 15 none) 3 79 [.ref rm, .int (i32 v1), .int (i32 v2), .int (i32 v3), .long v4, .int (i32 v6)] σ (QnV dm ra jx rm Q) (QxR dm ra jx rm X) := by
  unfold wp_X16_takeJoin at h
  exact ok_V (plainFor_of_name (by decide)) (by exact Nat.le_of_ble_eq_true rfl) hT (fun p e R s m args below meth c K hQ hX H locs ls hH hl hc => a_X16_takeJoin_0 K hQ hX σ v1 v2 v3 v4 v6 g1 g2 g3 g6 h hG hS H locs ls hH (lv_sub (l' := [(0, .ref rm), (1, .int (i32 v1)), (2, .int (i32 v2)), (3, .int (i32 v3)), (4, .long v4), (6, .int (i32 v6))]) hl [0, 1, 2, 3, 4, 5] rfl) hc)
theorem dX16_takeMap_0 : decode cX16_takeMap 0 = .ok (.iconst 0, 1) := by decide +kernel
theorem dX16_takeMap_1 : decode cX16_takeMap 1 = .ok (.istore 6, 2) := by decide +kernel
theorem dX16_takeMap_3 : decode cX16_takeMap 3 = .ok (.iload 6, 2) := by decide +kernel
theorem dX16_takeMap_5 : decode cX16_takeMap 5 = .ok (.bipush 8, 2) := by decide +kernel
theorem dX16_takeMap_7 : decode cX16_takeMap 7 = .ok (.if_icmp .ge 17, 3) := by decide +kernel
theorem dX16_takeMap_10 : decode cX16_takeMap 10 = .ok (.aload_n 0, 1) := by decide +kernel
theorem dX16_takeMap_11 : decode cX16_takeMap 11 = .ok (.getfield 578, 3) := by decide +kernel
theorem dX16_takeMap_14 : decode cX16_takeMap 14 = .ok (.iload 6, 2) := by decide +kernel
theorem dX16_takeMap_16 : decode cX16_takeMap 16 = .ok (.lconst 0, 1) := by decide +kernel
theorem dX16_takeMap_17 : decode cX16_takeMap 17 = .ok (.lastore, 1) := by decide +kernel
theorem dX16_takeMap_18 : decode cX16_takeMap 18 = .ok (.iinc 6 1, 3) := by decide +kernel
theorem dX16_takeMap_21 : decode cX16_takeMap 21 = .ok (.goto (-18), 3) := by decide +kernel
theorem dX16_takeMap_24 : decode cX16_takeMap 24 = .ok (.iconst 0, 1) := by decide +kernel
theorem dX16_takeMap_25 : decode cX16_takeMap 25 = .ok (.istore 6, 2) := by decide +kernel
theorem dX16_takeMap_27 : decode cX16_takeMap 27 = .ok (.iload 6, 2) := by decide +kernel
theorem dX16_takeMap_29 : decode cX16_takeMap 29 = .ok (.aload_n 0, 1) := by decide +kernel
theorem dX16_takeMap_30 : decode cX16_takeMap 30 = .ok (.getfield 356, 3) := by decide +kernel
theorem dX16_takeMap_33 : decode cX16_takeMap 33 = .ok (.getfield 222, 3) := by decide +kernel
theorem dX16_takeMap_36 : decode cX16_takeMap 36 = .ok (.iload_n 2, 1) := by decide +kernel
theorem dX16_takeMap_37 : decode cX16_takeMap 37 = .ok (.iaload, 1) := by decide +kernel
theorem dX16_takeMap_38 : decode cX16_takeMap 38 = .ok (.if_icmp .ge 67, 3) := by decide +kernel
theorem dX16_takeMap_41 : decode cX16_takeMap 41 = .ok (.aload_n 0, 1) := by decide +kernel
theorem dX16_takeMap_42 : decode cX16_takeMap 42 = .ok (.aload_n 0, 1) := by decide +kernel
theorem dX16_takeMap_43 : decode cX16_takeMap 43 = .ok (.getfield 356, 3) := by decide +kernel
theorem dX16_takeMap_46 : decode cX16_takeMap 46 = .ok (.aload_n 0, 1) := by decide +kernel
theorem dX16_takeMap_47 : decode cX16_takeMap 47 = .ok (.getfield 356, 3) := by decide +kernel
theorem dX16_takeMap_50 : decode cX16_takeMap 50 = .ok (.getfield 219, 3) := by decide +kernel
theorem dX16_takeMap_53 : decode cX16_takeMap 53 = .ok (.bipush 8, 2) := by decide +kernel
theorem dX16_takeMap_55 : decode cX16_takeMap 55 = .ok (.iload_n 2, 1) := by decide +kernel
theorem dX16_takeMap_56 : decode cX16_takeMap 56 = .ok (.imul, 1) := by decide +kernel
theorem dX16_takeMap_57 : decode cX16_takeMap 57 = .ok (.iload 6, 2) := by decide +kernel
theorem dX16_takeMap_59 : decode cX16_takeMap 59 = .ok (.iadd, 1) := by decide +kernel
theorem dX16_takeMap_60 : decode cX16_takeMap 60 = .ok (.iaload, 1) := by decide +kernel
theorem dX16_takeMap_61 : decode cX16_takeMap 61 = .ok (.lload_n 3, 1) := by decide +kernel
theorem dX16_takeMap_62 : decode cX16_takeMap 62 = .ok (.aload_n 0, 1) := by decide +kernel
theorem dX16_takeMap_63 : decode cX16_takeMap 63 = .ok (.getfield 542, 3) := by decide +kernel
theorem dX16_takeMap_66 : decode cX16_takeMap 66 = .ok (.iconst 0, 1) := by decide +kernel
theorem dX16_takeMap_67 : decode cX16_takeMap 67 = .ok (.invokevirtual 545, 3) := by decide +kernel
theorem dX16_takeMap_70 : decode cX16_takeMap 70 = .ok (.lstore 7, 2) := by decide +kernel
theorem dX16_takeMap_72 : decode cX16_takeMap 72 = .ok (.aload_n 0, 1) := by decide +kernel
theorem dX16_takeMap_73 : decode cX16_takeMap 73 = .ok (.getfield 330, 3) := by decide +kernel
theorem dX16_takeMap_76 : decode cX16_takeMap 76 = .ok (.ifCond .eq 14, 3) := by decide +kernel
theorem dX16_takeMap_79 : decode cX16_takeMap 79 = .ok (.aload_n 0, 1) := by decide +kernel
theorem dX16_takeMap_80 : decode cX16_takeMap 80 = .ok (.getfield 422, 3) := by decide +kernel
theorem dX16_takeMap_83 : decode cX16_takeMap 83 = .ok (.iload_n 1, 1) := by decide +kernel
theorem dX16_takeMap_84 : decode cX16_takeMap 84 = .ok (.dup2, 1) := by decide +kernel
theorem dX16_takeMap_85 : decode cX16_takeMap 85 = .ok (.iaload, 1) := by decide +kernel
theorem dX16_takeMap_86 : decode cX16_takeMap 86 = .ok (.iconst 1, 1) := by decide +kernel
theorem dX16_takeMap_87 : decode cX16_takeMap 87 = .ok (.iadd, 1) := by decide +kernel
theorem dX16_takeMap_88 : decode cX16_takeMap 88 = .ok (.iastore, 1) := by decide +kernel
theorem dX16_takeMap_89 : decode cX16_takeMap 89 = .ok (.return_, 1) := by decide +kernel
theorem dX16_takeMap_90 : decode cX16_takeMap 90 = .ok (.aload_n 0, 1) := by decide +kernel
theorem dX16_takeMap_91 : decode cX16_takeMap 91 = .ok (.getfield 578, 3) := by decide +kernel
theorem dX16_takeMap_94 : decode cX16_takeMap 94 = .ok (.iload 6, 2) := by decide +kernel
theorem dX16_takeMap_96 : decode cX16_takeMap 96 = .ok (.lload 7, 2) := by decide +kernel
theorem dX16_takeMap_98 : decode cX16_takeMap 98 = .ok (.lastore, 1) := by decide +kernel
theorem dX16_takeMap_99 : decode cX16_takeMap 99 = .ok (.iinc 6 1, 3) := by decide +kernel
theorem dX16_takeMap_102 : decode cX16_takeMap 102 = .ok (.goto (-75), 3) := by decide +kernel
theorem dX16_takeMap_105 : decode cX16_takeMap 105 = .ok (.aload_n 0, 1) := by decide +kernel
theorem dX16_takeMap_106 : decode cX16_takeMap 106 = .ok (.iload_n 1, 1) := by decide +kernel
theorem dX16_takeMap_107 : decode cX16_takeMap 107 = .ok (.lload_n 3, 1) := by decide +kernel
theorem dX16_takeMap_108 : decode cX16_takeMap 108 = .ok (.aload_n 0, 1) := by decide +kernel
theorem dX16_takeMap_109 : decode cX16_takeMap 109 = .ok (.getfield 578, 3) := by decide +kernel
theorem dX16_takeMap_112 : decode cX16_takeMap 112 = .ok (.iconst 0, 1) := by decide +kernel
theorem dX16_takeMap_113 : decode cX16_takeMap 113 = .ok (.iload 5, 2) := by decide +kernel
theorem dX16_takeMap_115 : decode cX16_takeMap 115 = .ok (.invokevirtual 549, 3) := by decide +kernel
theorem dX16_takeMap_118 : decode cX16_takeMap 118 = .ok (.return_, 1) := by decide +kernel
set_option maxRecDepth 20000 in
theorem a_X16_takeMap_105 {Q : Sg → Unit → Prop} {X : Sg → String → Prop} (K : MC R p s m args c cX16_takeMap 9 RX16 D cA tys A n0 s0 3 79 []) (hQ : HQV p l e R s m args below meth c cX16_takeMap D cA A n0 s0 QM dm ra jx rm Q) (hX : HX p l e R s m args below meth c 9 D cA A n0 s0 QM dm ra jx rm X) : ∀ (σ : Sg) (v1 : Int) (v3 : Int64) (v5 : Int) (g1 : rng v1) (g5 : rng v5), w_X16_takeMap_105 ra jx rm Q X σ v1 v3 v5 → RG σ → Shp dm ra jx rm σ → JJ p l e R s m args below meth c 9 D cA A n0 s0 QM σ 105 [(0, .ref rm), (1, .int (i32 v1)), (3, .long v3), (5, .int (i32 v5))] [] := by
  intro σ v1 v3 v5 g1 g5 h hGσ hS H locs ls hH hl hc
  have B := K.1
  unfold w_X16_takeMap_105 at h
  refine lv_aload_n B.1 B.2.1 dX16_takeMap_105 rfl (lv_at hl 0 rfl) ?_
  refine lv_iload_n B.1 B.2.1 dX16_takeMap_106 rfl (lv_at hl 1 rfl) ?_
  refine lv_lload_n B.1 B.2.1 dX16_takeMap_107 rfl (lv_at hl 2 rfl) ?_
  refine lv_aload_n B.1 B.2.1 dX16_takeMap_108 rfl (lv_at hl 0 rfl) ?_
  refine r_arr B hH hS 82 (kd := 101) (n := 16) (by decide) (by decide) wf_X16_578 rfl rfl dX16_takeMap_109 ?_
  refine lv_iconst (v := i32 0) B.1 B.2.1 dX16_takeMap_112 (by decide) ?_
  refine lv_iload B.1 B.2.1 dX16_takeMap_113 (lv_at hl 3 rfl) ?_
  refine c_V B hH hl hc K.2.2.1 (C := RX16) (T := TX16) (N := 123) (ci := 16) (As := [.int (i32 v1), .long v3, va_rf (some (ra 82)), .int (i32 0), .int (i32 v5)]) (ok_X16_emit K.2.1 σ v1 v3 (some (ra 82)) 0 v5 g1 (by unfold rng; omega) g5 hGσ hS h) wc_X16_549 5 hd_X16_emit ⟨Nat.le_trans (Nat.le_of_ble_eq_true rfl) K.2.2.2.1, Nat.le_trans (Nat.le_of_ble_eq_true rfl) K.2.2.2.2.1⟩ hS.1.1 hS.1.2 (by decide) rfl rfl (rest := []) rfl (Nat.le_of_ble_eq_true rfl) dX16_takeMap_115 (fun σ17 w hq => ?_) (fun σ9 E9 hx9 => hX σ9 E9 _ _ _ (tb_out K.2.2.2.2.2 rfl) hx9.1 hx9.2.1 hx9.2.2)
  obtain ⟨rfl, h, hGσ17, hS⟩ := hq
  intro H locs ls hH hl hc
  refine W.eq (g2 := F0 m 118 ls []) (rfl) ?_
  try dsimp only at h
  exact hQ _ _ _ _ _ dX16_takeMap_118 hH hc h hGσ17 hS
set_option maxRecDepth 20000 in
theorem a_X16_takeMap_90 {Q : Sg → Unit → Prop} {X : Sg → String → Prop} (K : MC R p s m args c cX16_takeMap 9 RX16 D cA tys A n0 s0 3 79 []) (hQ : HQV p l e R s m args below meth c cX16_takeMap D cA A n0 s0 QM dm ra jx rm Q) (hX : HX p l e R s m args below meth c 9 D cA A n0 s0 QM dm ra jx rm X) {K27 : Sg → Int → Int → Int64 → Int → Int → Prop} (hK27 : ∀ (σ : Sg) (v1 : Int) (v2 : Int) (v3 : Int64) (v5 : Int) (v6 : Int) (g1 : rng v1) (g2 : rng v2) (g5 : rng v5) (g6 : rng v6), K27 σ v1 v2 v3 v5 v6 → RG σ → Shp dm ra jx rm σ → JJ p l e R s m args below meth c 9 D cA A n0 s0 QM σ 27 [(0, .ref rm), (1, .int (i32 v1)), (2, .int (i32 v2)), (3, .long v3), (5, .int (i32 v5)), (6, .int (i32 v6))] []) : ∀ (σ : Sg) (v1 : Int) (v2 : Int) (v3 : Int64) (v5 : Int) (v6 : Int) (v7 : Int64) (g1 : rng v1) (g2 : rng v2) (g5 : rng v5) (g6 : rng v6), w_X16_takeMap_90 ra jx rm K27 Q X σ v1 v2 v3 v5 v6 v7 → RG σ → Shp dm ra jx rm σ → JJ p l e R s m args below meth c 9 D cA A n0 s0 QM σ 90 [(0, .ref rm), (1, .int (i32 v1)), (2, .int (i32 v2)), (3, .long v3), (5, .int (i32 v5)), (6, .int (i32 v6)), (7, .long v7)] [] := by
  intro σ v1 v2 v3 v5 v6 v7 g1 g2 g5 g6 h hGσ hS H locs ls hH hl hc
  have B := K.1
  unfold w_X16_takeMap_90 at h
  refine lv_aload_n B.1 B.2.1 dX16_takeMap_90 rfl (lv_at hl 0 rfl) ?_
  refine r_arr B hH hS 82 (kd := 101) (n := 16) (by decide) (by decide) wf_X16_578 rfl rfl dX16_takeMap_91 ?_
  refine lv_iload B.1 B.2.1 dX16_takeMap_94 (lv_at hl 5 rfl) ?_
  refine lv_lload B.1 B.2.1 dX16_takeMap_96 (lv_at hl 6 rfl) ?_
  obtain ⟨q1, h⟩ := h
  obtain ⟨σ18, eσ18⟩ : ∃ z, z = pJ σ (ra 82) v6.toNat v7 := ⟨_, rfl⟩
  have h := h σ18 eσ18
  refine x_last B K.2.1 hH (hS.ar (k := 82) (kd := 101) (n := 16) (by decide)) (by decide) q1 dX16_takeMap_98 (fun H locs hH => ?_)
  have hH : Hd D cA A s (pJ σ (ra 82) v6.toNat v7) H locs := hH
  rw [← eσ18] at hH
  have hGσ18 : RG σ18 := by rw [eσ18]; exact hGσ.pJ
  have hS : Shp dm ra jx rm σ18 := by rw [eσ18]; exact hS
  have hc : CB n0 s0 σ18 := by rw [eσ18]; exact hc
  rw [show gc σ = gc σ18 by rw [eσ18], show gs σ = gs σ18 by rw [eσ18]]
  obtain ⟨q3, h⟩ := h
  refine lv_iinc (k := 5) (v := i32 (v6 + 1)) (lv' := [(6, .int (i32 (v6 + 1))), (0, .ref rm), (1, .int (i32 v1)), (2, .int (i32 v2)), (3, .long v3), (5, .int (i32 v5)), (7, .long v7)]) B.1 B.2.1 dX16_takeMap_99 hl rfl (i32_add _ _) (by decide) rfl (fun ls hl => ?_)
  refine lv_goto (tgt := 27) B.1 B.2.1 dX16_takeMap_102 (by decide) ?_
  exact hK27 _ _ _ _ _ _ g1 g2 g5 q3 h hGσ18 hS _ _ _ hH (lv_sub (l' := [(0, .ref rm), (1, .int (i32 v1)), (2, .int (i32 v2)), (3, .long v3), (5, .int (i32 v5)), (6, .int (i32 (v6 + 1)))]) hl [1, 2, 3, 4, 5, 0] rfl) hc
set_option maxRecDepth 20000 in
theorem a_X16_takeMap_79 {Q : Sg → Unit → Prop} {X : Sg → String → Prop} (K : MC R p s m args c cX16_takeMap 9 RX16 D cA tys A n0 s0 3 79 []) (hQ : HQV p l e R s m args below meth c cX16_takeMap D cA A n0 s0 QM dm ra jx rm Q) (hX : HX p l e R s m args below meth c 9 D cA A n0 s0 QM dm ra jx rm X) : ∀ (σ : Sg) (v1 : Int) (g1 : rng v1), w_X16_takeMap_79 ra jx rm Q X σ v1 → RG σ → Shp dm ra jx rm σ → JJ p l e R s m args below meth c 9 D cA A n0 s0 QM σ 79 [(0, .ref rm), (1, .int (i32 v1))] [] := by
  intro σ v1 g1 h hGσ hS H locs ls hH hl hc
  have B := K.1
  unfold w_X16_takeMap_79 at h
  refine lv_aload_n B.1 B.2.1 dX16_takeMap_79 rfl (lv_at hl 0 rfl) ?_
  refine r_arr B hH hS 42 (kd := 100) (n := 64) (by decide) (by decide) wf_X16_422 rfl rfl dX16_takeMap_80 ?_
  refine lv_iload_n B.1 B.2.1 dX16_takeMap_83 rfl (lv_at hl 1 rfl) ?_
  refine lv_dup2_11 B.1 B.2.1 dX16_takeMap_84 rfl rfl ?_
  obtain ⟨q1, h⟩ := h
  refine x_iald B K.2.1 hH (hS.ar (k := 42) (kd := 100) (n := 64) (by decide)) (by decide) q1 dX16_takeMap_85 ?_
  refine lv_iconst (v := i32 1) B.1 B.2.1 dX16_takeMap_86 (by decide) ?_
  refine lv_iadd B.1 B.2.1 dX16_takeMap_87 ?_
  rw [i32_add]
  refine W.eq (g2 := F0 m 88 ls [.int (i32 (wr ((gI σ (ra 42) v1.toNat) + 1))), .int (i32 v1), .ref (ra 42)]) (by rw [i32_wr]) ?_
  obtain ⟨q2, h⟩ := h
  obtain ⟨σ19, eσ19⟩ : ∃ z, z = pI σ (ra 42) v1.toNat (wr ((gI σ (ra 42) v1.toNat) + 1)) := ⟨_, rfl⟩
  have h := h σ19 eσ19
  refine x_iast B K.2.1 hH (hS.ar (k := 42) (kd := 100) (n := 64) (by decide)) (by decide) q2 dX16_takeMap_88 (fun H locs hH => ?_)
  have hH : Hd D cA A s (pI σ (ra 42) v1.toNat (wr ((gI σ (ra 42) v1.toNat) + 1))) H locs := hH
  rw [← eσ19] at hH
  have hGσ19 : RG σ19 := by rw [eσ19]; exact hGσ.pI (rng_wr _)
  have hS : Shp dm ra jx rm σ19 := by rw [eσ19]; exact hS
  have hc : CB n0 s0 σ19 := by rw [eσ19]; exact hc
  rw [show gc σ = gc σ19 by rw [eσ19], show gs σ = gs σ19 by rw [eσ19]]
  exact hQ _ _ _ _ _ dX16_takeMap_89 hH hc h hGσ19 hS
set_option maxRecDepth 20000 in
theorem a_X16_takeMap_41 {Q : Sg → Unit → Prop} {X : Sg → String → Prop} (K : MC R p s m args c cX16_takeMap 9 RX16 D cA tys A n0 s0 3 79 []) (hQ : HQV p l e R s m args below meth c cX16_takeMap D cA A n0 s0 QM dm ra jx rm Q) (hX : HX p l e R s m args below meth c 9 D cA A n0 s0 QM dm ra jx rm X) {K27 : Sg → Int → Int → Int64 → Int → Int → Prop} (hK27 : ∀ (σ : Sg) (v1 : Int) (v2 : Int) (v3 : Int64) (v5 : Int) (v6 : Int) (g1 : rng v1) (g2 : rng v2) (g5 : rng v5) (g6 : rng v6), K27 σ v1 v2 v3 v5 v6 → RG σ → Shp dm ra jx rm σ → JJ p l e R s m args below meth c 9 D cA A n0 s0 QM σ 27 [(0, .ref rm), (1, .int (i32 v1)), (2, .int (i32 v2)), (3, .long v3), (5, .int (i32 v5)), (6, .int (i32 v6))] []) : ∀ (σ : Sg) (v1 : Int) (v2 : Int) (v3 : Int64) (v5 : Int) (v6 : Int) (g1 : rng v1) (g2 : rng v2) (g5 : rng v5) (g6 : rng v6), w_X16_takeMap_41 ra jx rm K27 Q X σ v1 v2 v3 v5 v6 → RG σ → Shp dm ra jx rm σ → JJ p l e R s m args below meth c 9 D cA A n0 s0 QM σ 41 [(0, .ref rm), (1, .int (i32 v1)), (2, .int (i32 v2)), (3, .long v3), (5, .int (i32 v5)), (6, .int (i32 v6))] [] := by
  intro σ v1 v2 v3 v5 v6 g1 g2 g5 g6 h hGσ hS H locs ls hH hl hc
  have B := K.1
  unfold w_X16_takeMap_41 at h
  refine lv_aload_n B.1 B.2.1 dX16_takeMap_41 rfl (lv_at hl 0 rfl) ?_
  refine lv_aload_n B.1 B.2.1 dX16_takeMap_42 rfl (lv_at hl 0 rfl) ?_
  refine r_getp B hH hS 17 (by decide) wf_X16_356 rfl rfl dX16_takeMap_43 ?_
  refine lv_aload_n B.1 B.2.1 dX16_takeMap_46 rfl (lv_at hl 0 rfl) ?_
  refine r_getp B hH hS 17 (by decide) wf_X16_356 rfl rfl dX16_takeMap_47 ?_
  obtain ⟨a20, ea20, ja20, h⟩ := h
  refine W.eq (g2 := F0 m 50 ls [.ref a20, va_rf (gP σ rm 17), .ref rm]) (by rw [ea20]; rfl) ?_
  refine n_arr B hH hS ja20 13 (kd := 100) (n := 128) (by decide) (by decide) (List.mem_of_getElem? (i := 13) rfl) rfl dX16_takeMap_50 ?_
  refine lv_bipush (v := i32 8) B.1 B.2.1 dX16_takeMap_53 (by decide) ?_
  refine lv_iload_n B.1 B.2.1 dX16_takeMap_55 rfl (lv_at hl 2 rfl) ?_
  obtain ⟨q2, h⟩ := h
  refine lv_imul B.1 B.2.1 dX16_takeMap_56 ?_
  rw [i32_mul]
  refine lv_iload B.1 B.2.1 dX16_takeMap_57 (lv_at hl 5 rfl) ?_
  obtain ⟨q3, h⟩ := h
  refine lv_iadd B.1 B.2.1 dX16_takeMap_59 ?_
  rw [i32_add]
  obtain ⟨q4, h⟩ := h
  refine x_iald B K.2.1 hH (hS.ja ja20 (k := 13) (kd := 100) (n := 128) (by decide)) (by decide) q4 dX16_takeMap_60 ?_
  refine lv_lload_n B.1 B.2.1 dX16_takeMap_61 rfl (lv_at hl 3 rfl) ?_
  refine lv_aload_n B.1 B.2.1 dX16_takeMap_62 rfl (lv_at hl 0 rfl) ?_
  refine r_arr B hH hS 81 (kd := 101) (n := 8) (by decide) (by decide) wf_X16_542 rfl rfl dX16_takeMap_63 ?_
  refine lv_iconst (v := i32 0) B.1 B.2.1 dX16_takeMap_66 (by decide) ?_
  refine c_V B hH hl hc K.2.2.1 (C := RX16) (T := TX16) (N := 123) (ci := 16) (As := [va_rf (gP σ rm 17), .int (i32 (gI σ (jx a20 13) ((8 * v2) + v6).toNat)), .long v3, va_rf (some (ra 81)), .int (i32 0)]) (ok_X16_worth K.2.1 σ (gP σ rm 17) (gI σ (jx a20 13) ((8 * v2) + v6).toNat) v3 (some (ra 81)) 0 (hGσ _ _) (by unfold rng; omega) hGσ hS h) wc_X16_545 5 hd_X16_worth ⟨Nat.le_trans (Nat.le_of_ble_eq_true rfl) K.2.2.2.1, Nat.le_trans (Nat.le_of_ble_eq_true rfl) K.2.2.2.2.1⟩ hS.1.1 hS.1.2 (by decide) rfl rfl (rest := []) rfl (Nat.le_of_ble_eq_true rfl) dX16_takeMap_67 (fun σ21 w hq => ?_) (fun σ9 E9 hx9 => hX σ9 E9 _ _ _ (tb_out K.2.2.2.2.2 rfl) hx9.1 hx9.2.1 hx9.2.2)
  obtain ⟨r22, rfl, h, hGσ21, hS⟩ := hq
  intro H locs ls hH hl hc
  refine W.eq (g2 := F0 m 70 ls [.long r22]) (rfl) ?_
  try dsimp only at h
  refine lv_lstore (lv' := [(7, .long r22), (0, .ref rm), (1, .int (i32 v1)), (2, .int (i32 v2)), (3, .long v3), (5, .int (i32 v5)), (6, .int (i32 v6))]) B.1 B.2.1 dX16_takeMap_70 hl (by decide) rfl (fun ls hl => ?_)
  refine lv_aload_n B.1 B.2.1 dX16_takeMap_72 rfl (lv_at hl 1 rfl) ?_
  refine r_geti B hH hS 21 (by decide) wf_X16_330 rfl rfl dX16_takeMap_73 ?_
  refine lv_if_eq (tgt := 90) B.1 B.2.1 dX16_takeMap_76 (by decide) (fun h9 => ?_) (fun h9 => ?_)
  · rw [if_pos ((z_eq (hGσ21 _ _)).mp h9)] at h
    exact a_X16_takeMap_90 K hQ hX hK27 _ _ _ _ _ _ _ g1 g2 g5 g6 h hGσ21 hS _ _ _ hH (lv_sub (l' := [(0, .ref rm), (1, .int (i32 v1)), (2, .int (i32 v2)), (3, .long v3), (5, .int (i32 v5)), (6, .int (i32 v6)), (7, .long r22)]) hl [1, 2, 3, 4, 5, 6, 0] rfl) hc
  · rw [if_neg (fun q => h9 ((z_eq (hGσ21 _ _)).mpr q))] at h
    exact a_X16_takeMap_79 K hQ hX _ _ g1 h hGσ21 hS _ _ _ hH (lv_sub (l' := [(0, .ref rm), (1, .int (i32 v1))]) hl [1, 2] rfl) hc
set_option maxRecDepth 20000 in
theorem a_X16_takeMap_27 {Q : Sg → Unit → Prop} {X : Sg → String → Prop} (K : MC R p s m args c cX16_takeMap 9 RX16 D cA tys A n0 s0 3 79 []) (hQ : HQV p l e R s m args below meth c cX16_takeMap D cA A n0 s0 QM dm ra jx rm Q) (hX : HX p l e R s m args below meth c 9 D cA A n0 s0 QM dm ra jx rm X) {K27 : Sg → Int → Int → Int64 → Int → Int → Prop} (hK27 : ∀ (σ : Sg) (v1 : Int) (v2 : Int) (v3 : Int64) (v5 : Int) (v6 : Int) (g1 : rng v1) (g2 : rng v2) (g5 : rng v5) (g6 : rng v6), K27 σ v1 v2 v3 v5 v6 → RG σ → Shp dm ra jx rm σ → JJ p l e R s m args below meth c 9 D cA A n0 s0 QM σ 27 [(0, .ref rm), (1, .int (i32 v1)), (2, .int (i32 v2)), (3, .long v3), (5, .int (i32 v5)), (6, .int (i32 v6))] []) : ∀ (σ : Sg) (v1 : Int) (v2 : Int) (v3 : Int64) (v5 : Int) (v6 : Int) (g1 : rng v1) (g2 : rng v2) (g5 : rng v5) (g6 : rng v6), w_X16_takeMap_27 ra jx rm K27 Q X σ v1 v2 v3 v5 v6 → RG σ → Shp dm ra jx rm σ → JJ p l e R s m args below meth c 9 D cA A n0 s0 QM σ 27 [(0, .ref rm), (1, .int (i32 v1)), (2, .int (i32 v2)), (3, .long v3), (5, .int (i32 v5)), (6, .int (i32 v6))] [] := by
  intro σ v1 v2 v3 v5 v6 g1 g2 g5 g6 h hGσ hS H locs ls hH hl hc
  have B := K.1
  unfold w_X16_takeMap_27 at h
  refine lv_iload B.1 B.2.1 dX16_takeMap_27 (lv_at hl 5 rfl) ?_
  refine lv_aload_n B.1 B.2.1 dX16_takeMap_29 rfl (lv_at hl 0 rfl) ?_
  refine r_getp B hH hS 17 (by decide) wf_X16_356 rfl rfl dX16_takeMap_30 ?_
  obtain ⟨a23, ea23, ja23, h⟩ := h
  refine W.eq (g2 := F0 m 33 ls [.ref a23, .int (i32 v6)]) (by rw [ea23]; rfl) ?_
  refine n_arr B hH hS ja23 12 (kd := 100) (n := 16) (by decide) (by decide) (List.mem_of_getElem? (i := 12) rfl) rfl dX16_takeMap_33 ?_
  refine lv_iload_n B.1 B.2.1 dX16_takeMap_36 rfl (lv_at hl 2 rfl) ?_
  obtain ⟨q2, h⟩ := h
  refine x_iald B K.2.1 hH (hS.ja ja23 (k := 12) (kd := 100) (n := 16) (by decide)) (by decide) q2 dX16_takeMap_37 ?_
  refine lv_icmp_ge (tgt := 105) B.1 B.2.1 dX16_takeMap_38 (by decide) (fun h9 => ?_) (fun h9 => ?_)
  · rw [if_pos ((i32_le (hGσ _ _) g6).mp h9)] at h
    exact a_X16_takeMap_105 K hQ hX _ _ _ _ g1 g5 h hGσ hS _ _ _ hH (lv_sub (l' := [(0, .ref rm), (1, .int (i32 v1)), (3, .long v3), (5, .int (i32 v5))]) hl [0, 1, 3, 4] rfl) hc
  · rw [if_neg (fun q => h9 ((i32_le (hGσ _ _) g6).mpr q))] at h
    exact a_X16_takeMap_41 K hQ hX hK27 _ _ _ _ _ _ g1 g2 g5 g6 h hGσ hS _ _ _ hH (lv_sub (l' := [(0, .ref rm), (1, .int (i32 v1)), (2, .int (i32 v2)), (3, .long v3), (5, .int (i32 v5)), (6, .int (i32 v6))]) hl [0, 1, 2, 3, 4, 5] rfl) hc
theorem al_X16_takeMap_27 {Q : Sg → Unit → Prop} {X : Sg → String → Prop} (K : MC R p s m args c cX16_takeMap 9 RX16 D cA tys A n0 s0 3 79 []) (hQ : HQV p l e R s m args below meth c cX16_takeMap D cA A n0 s0 QM dm ra jx rm Q) (hX : HX p l e R s m args below meth c 9 D cA A n0 s0 QM dm ra jx rm X) : ∀ (n : Nat), ∀ (σ : Sg) (v1 : Int) (v2 : Int) (v3 : Int64) (v5 : Int) (v6 : Int) (g1 : rng v1) (g2 : rng v2) (g5 : rng v5) (g6 : rng v6), wl_X16_takeMap_27 ra jx rm Q X n σ v1 v2 v3 v5 v6 → RG σ → Shp dm ra jx rm σ → JJ p l e R s m args below meth c 9 D cA A n0 s0 QM σ 27 [(0, .ref rm), (1, .int (i32 v1)), (2, .int (i32 v2)), (3, .long v3), (5, .int (i32 v5)), (6, .int (i32 v6))] [] := by
  intro n
  induction n with
  | zero => intro σ v1 v2 v3 v5 v6 g1 g2 g5 g6 h; exact h.elim
  | succ n ih => exact fun σ v1 v2 v3 v5 v6 g1 g2 g5 g6 h => a_X16_takeMap_27 K hQ hX ih σ v1 v2 v3 v5 v6 g1 g2 g5 g6 h
set_option maxRecDepth 20000 in
theorem a_X16_takeMap_24 {Q : Sg → Unit → Prop} {X : Sg → String → Prop} (K : MC R p s m args c cX16_takeMap 9 RX16 D cA tys A n0 s0 3 79 []) (hQ : HQV p l e R s m args below meth c cX16_takeMap D cA A n0 s0 QM dm ra jx rm Q) (hX : HX p l e R s m args below meth c 9 D cA A n0 s0 QM dm ra jx rm X) : ∀ (σ : Sg) (v1 : Int) (v2 : Int) (v3 : Int64) (v5 : Int) (g1 : rng v1) (g2 : rng v2) (g5 : rng v5), w_X16_takeMap_24 ra jx rm Q X σ v1 v2 v3 v5 → RG σ → Shp dm ra jx rm σ → JJ p l e R s m args below meth c 9 D cA A n0 s0 QM σ 24 [(0, .ref rm), (1, .int (i32 v1)), (2, .int (i32 v2)), (3, .long v3), (5, .int (i32 v5))] [] := by
  intro σ v1 v2 v3 v5 g1 g2 g5 h hGσ hS H locs ls hH hl hc
  have B := K.1
  unfold w_X16_takeMap_24 at h
  refine lv_iconst (v := i32 0) B.1 B.2.1 dX16_takeMap_24 (by decide) ?_
  refine lv_istore (lv' := [(6, .int (i32 0)), (0, .ref rm), (1, .int (i32 v1)), (2, .int (i32 v2)), (3, .long v3), (5, .int (i32 v5))]) B.1 B.2.1 dX16_takeMap_25 hl (by decide) rfl (fun ls hl => ?_)
  obtain ⟨n9, h⟩ := h
  exact al_X16_takeMap_27 K hQ hX n9 _ _ _ _ _ _ g1 g2 g5 (by unfold rng; omega) h hGσ hS _ _ _ hH (lv_sub (l' := [(0, .ref rm), (1, .int (i32 v1)), (2, .int (i32 v2)), (3, .long v3), (5, .int (i32 v5)), (6, .int (i32 0))]) hl [1, 2, 3, 4, 5, 0] rfl) hc
set_option maxRecDepth 20000 in
theorem a_X16_takeMap_10 {Q : Sg → Unit → Prop} {X : Sg → String → Prop} (K : MC R p s m args c cX16_takeMap 9 RX16 D cA tys A n0 s0 3 79 []) (hQ : HQV p l e R s m args below meth c cX16_takeMap D cA A n0 s0 QM dm ra jx rm Q) (hX : HX p l e R s m args below meth c 9 D cA A n0 s0 QM dm ra jx rm X) {K3 : Sg → Int → Int → Int64 → Int → Int → Prop} (hK3 : ∀ (σ : Sg) (v1 : Int) (v2 : Int) (v3 : Int64) (v5 : Int) (v6 : Int) (g1 : rng v1) (g2 : rng v2) (g5 : rng v5) (g6 : rng v6), K3 σ v1 v2 v3 v5 v6 → RG σ → Shp dm ra jx rm σ → JJ p l e R s m args below meth c 9 D cA A n0 s0 QM σ 3 [(0, .ref rm), (1, .int (i32 v1)), (2, .int (i32 v2)), (3, .long v3), (5, .int (i32 v5)), (6, .int (i32 v6))] []) : ∀ (σ : Sg) (v1 : Int) (v2 : Int) (v3 : Int64) (v5 : Int) (v6 : Int) (g1 : rng v1) (g2 : rng v2) (g5 : rng v5) (g6 : rng v6), w_X16_takeMap_10 ra jx rm K3 Q X σ v1 v2 v3 v5 v6 → RG σ → Shp dm ra jx rm σ → JJ p l e R s m args below meth c 9 D cA A n0 s0 QM σ 10 [(0, .ref rm), (1, .int (i32 v1)), (2, .int (i32 v2)), (3, .long v3), (5, .int (i32 v5)), (6, .int (i32 v6))] [] := by
  intro σ v1 v2 v3 v5 v6 g1 g2 g5 g6 h hGσ hS H locs ls hH hl hc
  have B := K.1
  unfold w_X16_takeMap_10 at h
  refine lv_aload_n B.1 B.2.1 dX16_takeMap_10 rfl (lv_at hl 0 rfl) ?_
  refine r_arr B hH hS 82 (kd := 101) (n := 16) (by decide) (by decide) wf_X16_578 rfl rfl dX16_takeMap_11 ?_
  refine lv_iload B.1 B.2.1 dX16_takeMap_14 (lv_at hl 5 rfl) ?_
  refine lv_lconst (v := 0) B.1 B.2.1 dX16_takeMap_16 (by decide) ?_
  obtain ⟨q1, h⟩ := h
  obtain ⟨σ24, eσ24⟩ : ∃ z, z = pJ σ (ra 82) v6.toNat 0 := ⟨_, rfl⟩
  have h := h σ24 eσ24
  refine x_last B K.2.1 hH (hS.ar (k := 82) (kd := 101) (n := 16) (by decide)) (by decide) q1 dX16_takeMap_17 (fun H locs hH => ?_)
  have hH : Hd D cA A s (pJ σ (ra 82) v6.toNat 0) H locs := hH
  rw [← eσ24] at hH
  have hGσ24 : RG σ24 := by rw [eσ24]; exact hGσ.pJ
  have hS : Shp dm ra jx rm σ24 := by rw [eσ24]; exact hS
  have hc : CB n0 s0 σ24 := by rw [eσ24]; exact hc
  rw [show gc σ = gc σ24 by rw [eσ24], show gs σ = gs σ24 by rw [eσ24]]
  obtain ⟨q3, h⟩ := h
  refine lv_iinc (k := 5) (v := i32 (v6 + 1)) (lv' := [(6, .int (i32 (v6 + 1))), (0, .ref rm), (1, .int (i32 v1)), (2, .int (i32 v2)), (3, .long v3), (5, .int (i32 v5))]) B.1 B.2.1 dX16_takeMap_18 hl rfl (i32_add _ _) (by decide) rfl (fun ls hl => ?_)
  refine lv_goto (tgt := 3) B.1 B.2.1 dX16_takeMap_21 (by decide) ?_
  exact hK3 _ _ _ _ _ _ g1 g2 g5 q3 h hGσ24 hS _ _ _ hH (lv_sub (l' := [(0, .ref rm), (1, .int (i32 v1)), (2, .int (i32 v2)), (3, .long v3), (5, .int (i32 v5)), (6, .int (i32 (v6 + 1)))]) hl [1, 2, 3, 4, 5, 0] rfl) hc
set_option maxRecDepth 20000 in
theorem a_X16_takeMap_3 {Q : Sg → Unit → Prop} {X : Sg → String → Prop} (K : MC R p s m args c cX16_takeMap 9 RX16 D cA tys A n0 s0 3 79 []) (hQ : HQV p l e R s m args below meth c cX16_takeMap D cA A n0 s0 QM dm ra jx rm Q) (hX : HX p l e R s m args below meth c 9 D cA A n0 s0 QM dm ra jx rm X) {K3 : Sg → Int → Int → Int64 → Int → Int → Prop} (hK3 : ∀ (σ : Sg) (v1 : Int) (v2 : Int) (v3 : Int64) (v5 : Int) (v6 : Int) (g1 : rng v1) (g2 : rng v2) (g5 : rng v5) (g6 : rng v6), K3 σ v1 v2 v3 v5 v6 → RG σ → Shp dm ra jx rm σ → JJ p l e R s m args below meth c 9 D cA A n0 s0 QM σ 3 [(0, .ref rm), (1, .int (i32 v1)), (2, .int (i32 v2)), (3, .long v3), (5, .int (i32 v5)), (6, .int (i32 v6))] []) : ∀ (σ : Sg) (v1 : Int) (v2 : Int) (v3 : Int64) (v5 : Int) (v6 : Int) (g1 : rng v1) (g2 : rng v2) (g5 : rng v5) (g6 : rng v6), w_X16_takeMap_3 ra jx rm K3 Q X σ v1 v2 v3 v5 v6 → RG σ → Shp dm ra jx rm σ → JJ p l e R s m args below meth c 9 D cA A n0 s0 QM σ 3 [(0, .ref rm), (1, .int (i32 v1)), (2, .int (i32 v2)), (3, .long v3), (5, .int (i32 v5)), (6, .int (i32 v6))] [] := by
  intro σ v1 v2 v3 v5 v6 g1 g2 g5 g6 h hGσ hS H locs ls hH hl hc
  have B := K.1
  unfold w_X16_takeMap_3 at h
  refine lv_iload B.1 B.2.1 dX16_takeMap_3 (lv_at hl 5 rfl) ?_
  refine lv_bipush (v := i32 8) B.1 B.2.1 dX16_takeMap_5 (by decide) ?_
  refine lv_icmp_ge (tgt := 24) B.1 B.2.1 dX16_takeMap_7 (by decide) (fun h9 => ?_) (fun h9 => ?_)
  · rw [if_pos ((i32_le (by unfold rng; omega) g6).mp h9)] at h
    exact a_X16_takeMap_24 K hQ hX _ _ _ _ _ g1 g2 g5 h hGσ hS _ _ _ hH (lv_sub (l' := [(0, .ref rm), (1, .int (i32 v1)), (2, .int (i32 v2)), (3, .long v3), (5, .int (i32 v5))]) hl [0, 1, 2, 3, 4] rfl) hc
  · rw [if_neg (fun q => h9 ((i32_le (by unfold rng; omega) g6).mpr q))] at h
    exact a_X16_takeMap_10 K hQ hX hK3 _ _ _ _ _ _ g1 g2 g5 g6 h hGσ hS _ _ _ hH (lv_sub (l' := [(0, .ref rm), (1, .int (i32 v1)), (2, .int (i32 v2)), (3, .long v3), (5, .int (i32 v5)), (6, .int (i32 v6))]) hl [0, 1, 2, 3, 4, 5] rfl) hc
theorem al_X16_takeMap_3 {Q : Sg → Unit → Prop} {X : Sg → String → Prop} (K : MC R p s m args c cX16_takeMap 9 RX16 D cA tys A n0 s0 3 79 []) (hQ : HQV p l e R s m args below meth c cX16_takeMap D cA A n0 s0 QM dm ra jx rm Q) (hX : HX p l e R s m args below meth c 9 D cA A n0 s0 QM dm ra jx rm X) : ∀ (n : Nat), ∀ (σ : Sg) (v1 : Int) (v2 : Int) (v3 : Int64) (v5 : Int) (v6 : Int) (g1 : rng v1) (g2 : rng v2) (g5 : rng v5) (g6 : rng v6), wl_X16_takeMap_3 ra jx rm Q X n σ v1 v2 v3 v5 v6 → RG σ → Shp dm ra jx rm σ → JJ p l e R s m args below meth c 9 D cA A n0 s0 QM σ 3 [(0, .ref rm), (1, .int (i32 v1)), (2, .int (i32 v2)), (3, .long v3), (5, .int (i32 v5)), (6, .int (i32 v6))] [] := by
  intro n
  induction n with
  | zero => intro σ v1 v2 v3 v5 v6 g1 g2 g5 g6 h; exact h.elim
  | succ n ih => exact fun σ v1 v2 v3 v5 v6 g1 g2 g5 g6 h => a_X16_takeMap_3 K hQ hX ih σ v1 v2 v3 v5 v6 g1 g2 g5 g6 h
set_option maxRecDepth 20000 in
theorem a_X16_takeMap_0 {Q : Sg → Unit → Prop} {X : Sg → String → Prop} (K : MC R p s m args c cX16_takeMap 9 RX16 D cA tys A n0 s0 3 79 []) (hQ : HQV p l e R s m args below meth c cX16_takeMap D cA A n0 s0 QM dm ra jx rm Q) (hX : HX p l e R s m args below meth c 9 D cA A n0 s0 QM dm ra jx rm X) : ∀ (σ : Sg) (v1 : Int) (v2 : Int) (v3 : Int64) (v5 : Int) (g1 : rng v1) (g2 : rng v2) (g5 : rng v5), w_X16_takeMap_0 ra jx rm Q X σ v1 v2 v3 v5 → RG σ → Shp dm ra jx rm σ → JJ p l e R s m args below meth c 9 D cA A n0 s0 QM σ 0 [(0, .ref rm), (1, .int (i32 v1)), (2, .int (i32 v2)), (3, .long v3), (5, .int (i32 v5))] [] := by
  intro σ v1 v2 v3 v5 g1 g2 g5 h hGσ hS H locs ls hH hl hc
  have B := K.1
  unfold w_X16_takeMap_0 at h
  refine lv_iconst (v := i32 0) B.1 B.2.1 dX16_takeMap_0 (by decide) ?_
  refine lv_istore (lv' := [(6, .int (i32 0)), (0, .ref rm), (1, .int (i32 v1)), (2, .int (i32 v2)), (3, .long v3), (5, .int (i32 v5))]) B.1 B.2.1 dX16_takeMap_1 hl (by decide) rfl (fun ls hl => ?_)
  obtain ⟨n9, h⟩ := h
  exact al_X16_takeMap_3 K hQ hX n9 _ _ _ _ _ _ g1 g2 g5 (by unfold rng; omega) h hGσ hS _ _ _ hH (lv_sub (l' := [(0, .ref rm), (1, .int (i32 v1)), (2, .int (i32 v2)), (3, .long v3), (5, .int (i32 v5)), (6, .int (i32 0))]) hl [1, 2, 3, 4, 5, 0] rfl) hc
theorem ok_X16_takeMap (hT : Tys cA tys) {Q : Sg → Unit → Prop} {X : Sg → String → Prop} (σ : Sg) (v1 : Int) (v2 : Int) (v3 : Int64) (v5 : Int) (g1 : rng v1) (g2 : rng v2) (g5 : rng v5) (hG : RG σ) (hS : Shp dm ra jx rm σ) (h : wp_X16_takeMap ra jx rm v1 v2 v3 v5 σ Q X) : Ok l D cA tys A yX16_takeMap (.code yX16_takeMap cX16_takeMap 9 none) 3 79 [.ref rm, .int (i32 v1), .int (i32 v2), .long v3, .int (i32 v5)] σ (QnV dm ra jx rm Q) (QxR dm ra jx rm X) := by
  unfold wp_X16_takeMap at h
  exact ok_V (plainFor_of_name (by decide)) (by exact Nat.le_of_ble_eq_true rfl) hT (fun p e R s m args below meth c K hQ hX H locs ls hH hl hc => a_X16_takeMap_0 K hQ hX σ v1 v2 v3 v5 g1 g2 g5 h hG hS H locs ls hH (lv_sub (l' := [(0, .ref rm), (1, .int (i32 v1)), (2, .int (i32 v2)), (3, .long v3), (5, .int (i32 v5))]) hl [0, 1, 2, 3, 4] rfl) hc)
theorem dX16_takeSpans_0 : decode cX16_takeSpans 0 = .ok (.aload_n 0, 1) := by decide +kernel
theorem dX16_takeSpans_1 : decode cX16_takeSpans 1 = .ok (.iload_n 1, 1) := by decide +kernel
theorem dX16_takeSpans_2 : decode cX16_takeSpans 2 = .ok (.iload_n 2, 1) := by decide +kernel
theorem dX16_takeSpans_3 : decode cX16_takeSpans 3 = .ok (.lload_n 3, 1) := by decide +kernel
theorem dX16_takeSpans_4 : decode cX16_takeSpans 4 = .ok (.invokevirtual 592, 3) := by decide +kernel
theorem dX16_takeSpans_7 : decode cX16_takeSpans 7 = .ok (.ifCond .ne 4, 3) := by decide +kernel
theorem dX16_takeSpans_10 : decode cX16_takeSpans 10 = .ok (.return_, 1) := by decide +kernel
theorem dX16_takeSpans_11 : decode cX16_takeSpans 11 = .ok (.aload_n 0, 1) := by decide +kernel
theorem dX16_takeSpans_12 : decode cX16_takeSpans 12 = .ok (.getfield 542, 3) := by decide +kernel
theorem dX16_takeSpans_15 : decode cX16_takeSpans 15 = .ok (.aload_n 0, 1) := by decide +kernel
theorem dX16_takeSpans_16 : decode cX16_takeSpans 16 = .ok (.getfield 356, 3) := by decide +kernel
theorem dX16_takeSpans_19 : decode cX16_takeSpans 19 = .ok (.getfield 239, 3) := by decide +kernel
theorem dX16_takeSpans_22 : decode cX16_takeSpans 22 = .ok (.iload_n 2, 1) := by decide +kernel
theorem dX16_takeSpans_23 : decode cX16_takeSpans 23 = .ok (.iaload, 1) := by decide +kernel
theorem dX16_takeSpans_24 : decode cX16_takeSpans 24 = .ok (.laload, 1) := by decide +kernel
theorem dX16_takeSpans_25 : decode cX16_takeSpans 25 = .ok (.lstore 6, 2) := by decide +kernel
theorem dX16_takeSpans_27 : decode cX16_takeSpans 27 = .ok (.aload_n 0, 1) := by decide +kernel
theorem dX16_takeSpans_28 : decode cX16_takeSpans 28 = .ok (.getfield 356, 3) := by decide +kernel
theorem dX16_takeSpans_31 : decode cX16_takeSpans 31 = .ok (.getfield 191, 3) := by decide +kernel
theorem dX16_takeSpans_34 : decode cX16_takeSpans 34 = .ok (.iload_n 2, 1) := by decide +kernel
theorem dX16_takeSpans_35 : decode cX16_takeSpans 35 = .ok (.laload, 1) := by decide +kernel
theorem dX16_takeSpans_36 : decode cX16_takeSpans 36 = .ok (.lstore 8, 2) := by decide +kernel
theorem dX16_takeSpans_38 : decode cX16_takeSpans 38 = .ok (.aload_n 0, 1) := by decide +kernel
theorem dX16_takeSpans_39 : decode cX16_takeSpans 39 = .ok (.getfield 356, 3) := by decide +kernel
theorem dX16_takeSpans_42 : decode cX16_takeSpans 42 = .ok (.getfield 204, 3) := by decide +kernel
theorem dX16_takeSpans_45 : decode cX16_takeSpans 45 = .ok (.iload_n 2, 1) := by decide +kernel
theorem dX16_takeSpans_46 : decode cX16_takeSpans 46 = .ok (.laload, 1) := by decide +kernel
theorem dX16_takeSpans_47 : decode cX16_takeSpans 47 = .ok (.lstore 10, 2) := by decide +kernel
theorem dX16_takeSpans_49 : decode cX16_takeSpans 49 = .ok (.lload_n 3, 1) := by decide +kernel
theorem dX16_takeSpans_50 : decode cX16_takeSpans 50 = .ok (.lload 8, 2) := by decide +kernel
theorem dX16_takeSpans_52 : decode cX16_takeSpans 52 = .ok (.lsub, 1) := by decide +kernel
theorem dX16_takeSpans_53 : decode cX16_takeSpans 53 = .ok (.lload 10, 2) := by decide +kernel
theorem dX16_takeSpans_55 : decode cX16_takeSpans 55 = .ok (.invokestatic 596, 3) := by decide +kernel
theorem dX16_takeSpans_58 : decode cX16_takeSpans 58 = .ok (.lconst 1, 1) := by decide +kernel
theorem dX16_takeSpans_59 : decode cX16_takeSpans 59 = .ok (.ladd, 1) := by decide +kernel
theorem dX16_takeSpans_60 : decode cX16_takeSpans 60 = .ok (.lstore 12, 2) := by decide +kernel
theorem dX16_takeSpans_62 : decode cX16_takeSpans 62 = .ok (.lload 12, 2) := by decide +kernel
theorem dX16_takeSpans_64 : decode cX16_takeSpans 64 = .ok (.lload_n 3, 1) := by decide +kernel
theorem dX16_takeSpans_65 : decode cX16_takeSpans 65 = .ok (.lload 10, 2) := by decide +kernel
theorem dX16_takeSpans_67 : decode cX16_takeSpans 67 = .ok (.invokestatic 596, 3) := by decide +kernel
theorem dX16_takeSpans_70 : decode cX16_takeSpans 70 = .ok (.lcmp, 1) := by decide +kernel
theorem dX16_takeSpans_71 : decode cX16_takeSpans 71 = .ok (.ifCond .gt 136, 3) := by decide +kernel
theorem dX16_takeSpans_74 : decode cX16_takeSpans 74 = .ok (.iconst (-1), 1) := by decide +kernel
theorem dX16_takeSpans_75 : decode cX16_takeSpans 75 = .ok (.istore 14, 2) := by decide +kernel
theorem dX16_takeSpans_77 : decode cX16_takeSpans 77 = .ok (.aload_n 0, 1) := by decide +kernel
theorem dX16_takeSpans_78 : decode cX16_takeSpans 78 = .ok (.getfield 504, 3) := by decide +kernel
theorem dX16_takeSpans_81 : decode cX16_takeSpans 81 = .ok (.iload_n 1, 1) := by decide +kernel
theorem dX16_takeSpans_82 : decode cX16_takeSpans 82 = .ok (.iaload, 1) := by decide +kernel
theorem dX16_takeSpans_83 : decode cX16_takeSpans 83 = .ok (.istore 15, 2) := by decide +kernel
theorem dX16_takeSpans_85 : decode cX16_takeSpans 85 = .ok (.iload 15, 2) := by decide +kernel
theorem dX16_takeSpans_87 : decode cX16_takeSpans 87 = .ok (.iconst (-1), 1) := by decide +kernel
theorem dX16_takeSpans_88 : decode cX16_takeSpans 88 = .ok (.if_icmp .eq 50, 3) := by decide +kernel
theorem dX16_takeSpans_91 : decode cX16_takeSpans 91 = .ok (.aload_n 0, 1) := by decide +kernel
theorem dX16_takeSpans_92 : decode cX16_takeSpans 92 = .ok (.getfield 519, 3) := by decide +kernel
theorem dX16_takeSpans_95 : decode cX16_takeSpans 95 = .ok (.iload 15, 2) := by decide +kernel
theorem dX16_takeSpans_97 : decode cX16_takeSpans 97 = .ok (.laload, 1) := by decide +kernel
theorem dX16_takeSpans_98 : decode cX16_takeSpans 98 = .ok (.lload 6, 2) := by decide +kernel
theorem dX16_takeSpans_100 : decode cX16_takeSpans 100 = .ok (.lcmp, 1) := by decide +kernel
theorem dX16_takeSpans_101 : decode cX16_takeSpans 101 = .ok (.ifCond .ne 21, 3) := by decide +kernel
theorem dX16_takeSpans_104 : decode cX16_takeSpans 104 = .ok (.aload_n 0, 1) := by decide +kernel
theorem dX16_takeSpans_105 : decode cX16_takeSpans 105 = .ok (.getfield 522, 3) := by decide +kernel
theorem dX16_takeSpans_108 : decode cX16_takeSpans 108 = .ok (.iload 15, 2) := by decide +kernel
theorem dX16_takeSpans_110 : decode cX16_takeSpans 110 = .ok (.laload, 1) := by decide +kernel
theorem dX16_takeSpans_111 : decode cX16_takeSpans 111 = .ok (.lload 12, 2) := by decide +kernel
theorem dX16_takeSpans_113 : decode cX16_takeSpans 113 = .ok (.lcmp, 1) := by decide +kernel
theorem dX16_takeSpans_114 : decode cX16_takeSpans 114 = .ok (.ifCond .ne 8, 3) := by decide +kernel
theorem dX16_takeSpans_117 : decode cX16_takeSpans 117 = .ok (.iload 15, 2) := by decide +kernel
theorem dX16_takeSpans_119 : decode cX16_takeSpans 119 = .ok (.goto 5, 3) := by decide +kernel
theorem dX16_takeSpans_122 : decode cX16_takeSpans 122 = .ok (.iload 14, 2) := by decide +kernel
theorem dX16_takeSpans_124 : decode cX16_takeSpans 124 = .ok (.istore 14, 2) := by decide +kernel
theorem dX16_takeSpans_126 : decode cX16_takeSpans 126 = .ok (.aload_n 0, 1) := by decide +kernel
theorem dX16_takeSpans_127 : decode cX16_takeSpans 127 = .ok (.getfield 495, 3) := by decide +kernel
theorem dX16_takeSpans_130 : decode cX16_takeSpans 130 = .ok (.iload 15, 2) := by decide +kernel
theorem dX16_takeSpans_132 : decode cX16_takeSpans 132 = .ok (.iaload, 1) := by decide +kernel
theorem dX16_takeSpans_133 : decode cX16_takeSpans 133 = .ok (.istore 15, 2) := by decide +kernel
theorem dX16_takeSpans_135 : decode cX16_takeSpans 135 = .ok (.goto (-50), 3) := by decide +kernel
theorem dX16_takeSpans_138 : decode cX16_takeSpans 138 = .ok (.iload 14, 2) := by decide +kernel
theorem dX16_takeSpans_140 : decode cX16_takeSpans 140 = .ok (.iconst (-1), 1) := by decide +kernel
theorem dX16_takeSpans_141 : decode cX16_takeSpans 141 = .ok (.if_icmp .ne 25, 3) := by decide +kernel
theorem dX16_takeSpans_144 : decode cX16_takeSpans 144 = .ok (.aload_n 0, 1) := by decide +kernel
theorem dX16_takeSpans_145 : decode cX16_takeSpans 145 = .ok (.iload_n 1, 1) := by decide +kernel
theorem dX16_takeSpans_146 : decode cX16_takeSpans 146 = .ok (.iconst 2, 1) := by decide +kernel
theorem dX16_takeSpans_147 : decode cX16_takeSpans 147 = .ok (.lload 6, 2) := by decide +kernel
theorem dX16_takeSpans_149 : decode cX16_takeSpans 149 = .ok (.lload 12, 2) := by decide +kernel
theorem dX16_takeSpans_151 : decode cX16_takeSpans 151 = .ok (.lconst 0, 1) := by decide +kernel
theorem dX16_takeSpans_152 : decode cX16_takeSpans 152 = .ok (.aload_n 0, 1) := by decide +kernel
theorem dX16_takeSpans_153 : decode cX16_takeSpans 153 = .ok (.getfield 578, 3) := by decide +kernel
theorem dX16_takeSpans_156 : decode cX16_takeSpans 156 = .ok (.iconst 0, 1) := by decide +kernel
theorem dX16_takeSpans_157 : decode cX16_takeSpans 157 = .ok (.iload 5, 2) := by decide +kernel
theorem dX16_takeSpans_159 : decode cX16_takeSpans 159 = .ok (.invokevirtual 567, 3) := by decide +kernel
theorem dX16_takeSpans_162 : decode cX16_takeSpans 162 = .ok (.pop, 1) := by decide +kernel
theorem dX16_takeSpans_163 : decode cX16_takeSpans 163 = .ok (.goto 35, 3) := by decide +kernel
theorem dX16_takeSpans_166 : decode cX16_takeSpans 166 = .ok (.aload_n 0, 1) := by decide +kernel
theorem dX16_takeSpans_167 : decode cX16_takeSpans 167 = .ok (.iload_n 2, 1) := by decide +kernel
theorem dX16_takeSpans_168 : decode cX16_takeSpans 168 = .ok (.iload 14, 2) := by decide +kernel
theorem dX16_takeSpans_170 : decode cX16_takeSpans 170 = .ok (.aload_n 0, 1) := by decide +kernel
theorem dX16_takeSpans_171 : decode cX16_takeSpans 171 = .ok (.getfield 578, 3) := by decide +kernel
theorem dX16_takeSpans_174 : decode cX16_takeSpans 174 = .ok (.iconst 0, 1) := by decide +kernel
theorem dX16_takeSpans_175 : decode cX16_takeSpans 175 = .ok (.invokevirtual 599, 3) := by decide +kernel
theorem dX16_takeSpans_178 : decode cX16_takeSpans 178 = .ok (.aload_n 0, 1) := by decide +kernel
theorem dX16_takeSpans_179 : decode cX16_takeSpans 179 = .ok (.getfield 531, 3) := by decide +kernel
theorem dX16_takeSpans_182 : decode cX16_takeSpans 182 = .ok (.iload 14, 2) := by decide +kernel
theorem dX16_takeSpans_184 : decode cX16_takeSpans 184 = .ok (.aload_n 0, 1) := by decide +kernel
theorem dX16_takeSpans_185 : decode cX16_takeSpans 185 = .ok (.aload_n 0, 1) := by decide +kernel
theorem dX16_takeSpans_186 : decode cX16_takeSpans 186 = .ok (.getfield 531, 3) := by decide +kernel
theorem dX16_takeSpans_189 : decode cX16_takeSpans 189 = .ok (.iload 14, 2) := by decide +kernel
theorem dX16_takeSpans_191 : decode cX16_takeSpans 191 = .ok (.iaload, 1) := by decide +kernel
theorem dX16_takeSpans_192 : decode cX16_takeSpans 192 = .ok (.iload 5, 2) := by decide +kernel
theorem dX16_takeSpans_194 : decode cX16_takeSpans 194 = .ok (.invokevirtual 603, 3) := by decide +kernel
theorem dX16_takeSpans_197 : decode cX16_takeSpans 197 = .ok (.iastore, 1) := by decide +kernel
theorem dX16_takeSpans_198 : decode cX16_takeSpans 198 = .ok (.lload 12, 2) := by decide +kernel
theorem dX16_takeSpans_200 : decode cX16_takeSpans 200 = .ok (.lconst 1, 1) := by decide +kernel
theorem dX16_takeSpans_201 : decode cX16_takeSpans 201 = .ok (.ladd, 1) := by decide +kernel
theorem dX16_takeSpans_202 : decode cX16_takeSpans 202 = .ok (.lstore 12, 2) := by decide +kernel
theorem dX16_takeSpans_204 : decode cX16_takeSpans 204 = .ok (.goto (-142), 3) := by decide +kernel
theorem dX16_takeSpans_207 : decode cX16_takeSpans 207 = .ok (.return_, 1) := by decide +kernel
set_option maxRecDepth 20000 in
theorem a_X16_takeSpans_207 {Q : Sg → Unit → Prop} {X : Sg → String → Prop} (K : MC R p s m args c cX16_takeSpans 16 RX16 D cA tys A n0 s0 3 83 []) (hQ : HQV p l e R s m args below meth c cX16_takeSpans D cA A n0 s0 QM dm ra jx rm Q) (hX : HX p l e R s m args below meth c 16 D cA A n0 s0 QM dm ra jx rm X) : ∀ (σ : Sg), w_X16_takeSpans_207 ra jx rm Q X σ → RG σ → Shp dm ra jx rm σ → JJ p l e R s m args below meth c 16 D cA A n0 s0 QM σ 207 [(0, .ref rm)] [] := by
  intro σ h hGσ hS H locs ls hH hl hc
  have B := K.1
  unfold w_X16_takeSpans_207 at h
  exact hQ _ _ _ _ _ dX16_takeSpans_207 hH hc h hGσ hS
set_option maxRecDepth 20000 in
theorem a_X16_takeSpans_198 {Q : Sg → Unit → Prop} {X : Sg → String → Prop} (K : MC R p s m args c cX16_takeSpans 16 RX16 D cA tys A n0 s0 3 83 []) (hQ : HQV p l e R s m args below meth c cX16_takeSpans D cA A n0 s0 QM dm ra jx rm Q) (hX : HX p l e R s m args below meth c 16 D cA A n0 s0 QM dm ra jx rm X) {K62 : Sg → Int → Int → Int64 → Int → Int64 → Int64 → Int64 → Prop} (hK62 : ∀ (σ : Sg) (v1 : Int) (v2 : Int) (v3 : Int64) (v5 : Int) (v6 : Int64) (v10 : Int64) (v12 : Int64) (g1 : rng v1) (g2 : rng v2) (g5 : rng v5), K62 σ v1 v2 v3 v5 v6 v10 v12 → RG σ → Shp dm ra jx rm σ → JJ p l e R s m args below meth c 16 D cA A n0 s0 QM σ 62 [(0, .ref rm), (1, .int (i32 v1)), (2, .int (i32 v2)), (3, .long v3), (5, .int (i32 v5)), (6, .long v6), (10, .long v10), (12, .long v12)] []) : ∀ (σ : Sg) (v1 : Int) (v2 : Int) (v3 : Int64) (v5 : Int) (v6 : Int64) (v10 : Int64) (v12 : Int64) (g1 : rng v1) (g2 : rng v2) (g5 : rng v5), w_X16_takeSpans_198 ra jx rm K62 Q X σ v1 v2 v3 v5 v6 v10 v12 → RG σ → Shp dm ra jx rm σ → JJ p l e R s m args below meth c 16 D cA A n0 s0 QM σ 198 [(0, .ref rm), (1, .int (i32 v1)), (2, .int (i32 v2)), (3, .long v3), (5, .int (i32 v5)), (6, .long v6), (10, .long v10), (12, .long v12)] [] := by
  intro σ v1 v2 v3 v5 v6 v10 v12 g1 g2 g5 h hGσ hS H locs ls hH hl hc
  have B := K.1
  unfold w_X16_takeSpans_198 at h
  refine lv_lload B.1 B.2.1 dX16_takeSpans_198 (lv_at hl 7 rfl) ?_
  refine lv_lconst (v := 1) B.1 B.2.1 dX16_takeSpans_200 (by decide) ?_
  refine lv_ladd B.1 B.2.1 dX16_takeSpans_201 ?_
  refine lv_lstore (lv' := [(12, .long (v12 + 1)), (0, .ref rm), (1, .int (i32 v1)), (2, .int (i32 v2)), (3, .long v3), (5, .int (i32 v5)), (6, .long v6), (10, .long v10)]) B.1 B.2.1 dX16_takeSpans_202 hl (by decide) rfl (fun ls hl => ?_)
  refine lv_goto (tgt := 62) B.1 B.2.1 dX16_takeSpans_204 (by decide) ?_
  exact hK62 _ _ _ _ _ _ _ _ g1 g2 g5 h hGσ hS _ _ _ hH (lv_sub (l' := [(0, .ref rm), (1, .int (i32 v1)), (2, .int (i32 v2)), (3, .long v3), (5, .int (i32 v5)), (6, .long v6), (10, .long v10), (12, .long (v12 + 1))]) hl [1, 2, 3, 4, 5, 6, 7, 0] rfl) hc
set_option maxRecDepth 20000 in
theorem a_X16_takeSpans_166 {Q : Sg → Unit → Prop} {X : Sg → String → Prop} (K : MC R p s m args c cX16_takeSpans 16 RX16 D cA tys A n0 s0 3 83 []) (hQ : HQV p l e R s m args below meth c cX16_takeSpans D cA A n0 s0 QM dm ra jx rm Q) (hX : HX p l e R s m args below meth c 16 D cA A n0 s0 QM dm ra jx rm X) {K62 : Sg → Int → Int → Int64 → Int → Int64 → Int64 → Int64 → Prop} (hK62 : ∀ (σ : Sg) (v1 : Int) (v2 : Int) (v3 : Int64) (v5 : Int) (v6 : Int64) (v10 : Int64) (v12 : Int64) (g1 : rng v1) (g2 : rng v2) (g5 : rng v5), K62 σ v1 v2 v3 v5 v6 v10 v12 → RG σ → Shp dm ra jx rm σ → JJ p l e R s m args below meth c 16 D cA A n0 s0 QM σ 62 [(0, .ref rm), (1, .int (i32 v1)), (2, .int (i32 v2)), (3, .long v3), (5, .int (i32 v5)), (6, .long v6), (10, .long v10), (12, .long v12)] []) : ∀ (σ : Sg) (v1 : Int) (v2 : Int) (v3 : Int64) (v5 : Int) (v6 : Int64) (v10 : Int64) (v12 : Int64) (v14 : Int) (g1 : rng v1) (g2 : rng v2) (g5 : rng v5) (g14 : rng v14), w_X16_takeSpans_166 ra jx rm K62 Q X σ v1 v2 v3 v5 v6 v10 v12 v14 → RG σ → Shp dm ra jx rm σ → JJ p l e R s m args below meth c 16 D cA A n0 s0 QM σ 166 [(0, .ref rm), (1, .int (i32 v1)), (2, .int (i32 v2)), (3, .long v3), (5, .int (i32 v5)), (6, .long v6), (10, .long v10), (12, .long v12), (14, .int (i32 v14))] [] := by
  intro σ v1 v2 v3 v5 v6 v10 v12 v14 g1 g2 g5 g14 h hGσ hS H locs ls hH hl hc
  have B := K.1
  unfold w_X16_takeSpans_166 at h
  refine lv_aload_n B.1 B.2.1 dX16_takeSpans_166 rfl (lv_at hl 0 rfl) ?_
  refine lv_iload_n B.1 B.2.1 dX16_takeSpans_167 rfl (lv_at hl 2 rfl) ?_
  refine lv_iload B.1 B.2.1 dX16_takeSpans_168 (lv_at hl 8 rfl) ?_
  refine lv_aload_n B.1 B.2.1 dX16_takeSpans_170 rfl (lv_at hl 0 rfl) ?_
  refine r_arr B hH hS 82 (kd := 101) (n := 16) (by decide) (by decide) wf_X16_578 rfl rfl dX16_takeSpans_171 ?_
  refine lv_iconst (v := i32 0) B.1 B.2.1 dX16_takeSpans_174 (by decide) ?_
  refine c_V B hH hl hc K.2.2.1 (C := RX16) (T := TX16) (N := 123) (ci := 16) (As := [.int (i32 v2), .int (i32 v14), va_rf (some (ra 82)), .int (i32 0)]) (ok_X16_gather K.2.1 σ v2 v14 (some (ra 82)) 0 g2 g14 (by unfold rng; omega) hGσ hS h) wc_X16_599 4 hd_X16_gather ⟨Nat.le_trans (Nat.le_of_ble_eq_true rfl) K.2.2.2.1, Nat.le_trans (Nat.le_of_ble_eq_true rfl) K.2.2.2.2.1⟩ hS.1.1 hS.1.2 (by decide) rfl rfl (rest := []) rfl (Nat.le_of_ble_eq_true rfl) dX16_takeSpans_175 (fun σ31 w hq => ?_) (fun σ9 E9 hx9 => hX σ9 E9 _ _ _ (tb_out K.2.2.2.2.2 rfl) hx9.1 hx9.2.1 hx9.2.2)
  obtain ⟨rfl, h, hGσ31, hS⟩ := hq
  intro H locs ls hH hl hc
  refine W.eq (g2 := F0 m 178 ls []) (rfl) ?_
  try dsimp only at h
  refine lv_aload_n B.1 B.2.1 dX16_takeSpans_178 rfl (lv_at hl 0 rfl) ?_
  refine r_arr B hH hS 74 (kd := 100) (n := 4000) (by decide) (by decide) wf_X16_531 rfl rfl dX16_takeSpans_179 ?_
  refine lv_iload B.1 B.2.1 dX16_takeSpans_182 (lv_at hl 8 rfl) ?_
  refine lv_aload_n B.1 B.2.1 dX16_takeSpans_184 rfl (lv_at hl 0 rfl) ?_
  refine lv_aload_n B.1 B.2.1 dX16_takeSpans_185 rfl (lv_at hl 0 rfl) ?_
  refine r_arr B hH hS 74 (kd := 100) (n := 4000) (by decide) (by decide) wf_X16_531 rfl rfl dX16_takeSpans_186 ?_
  refine lv_iload B.1 B.2.1 dX16_takeSpans_189 (lv_at hl 8 rfl) ?_
  obtain ⟨q1, h⟩ := h
  refine x_iald B K.2.1 hH (hS.ar (k := 74) (kd := 100) (n := 4000) (by decide)) (by decide) q1 dX16_takeSpans_191 ?_
  refine lv_iload B.1 B.2.1 dX16_takeSpans_192 (lv_at hl 4 rfl) ?_
  refine c_V B hH hl hc K.2.2.1 (C := RX16) (T := TX16) (N := 123) (ci := 16) (As := [.int (i32 (gI σ31 (ra 74) v14.toNat)), .int (i32 v5)]) (ok_X16_joined K.2.1 σ31 (gI σ31 (ra 74) v14.toNat) v5 (hGσ31 _ _) g5 hGσ31 hS h) wc_X16_603 2 hd_X16_joined ⟨Nat.le_trans (Nat.le_of_ble_eq_true rfl) K.2.2.2.1, Nat.le_trans (Nat.le_of_ble_eq_true rfl) K.2.2.2.2.1⟩ hS.1.1 hS.1.2 (by decide) rfl rfl (rest := [.int (i32 v14), .ref (ra 74)]) rfl (Nat.le_of_ble_eq_true rfl) dX16_takeSpans_194 (fun σ32 w hq => ?_) (fun σ9 E9 hx9 => hX σ9 E9 _ _ _ (tb_out K.2.2.2.2.2 rfl) hx9.1 hx9.2.1 hx9.2.2)
  obtain ⟨r33, rfl, gr33, h, hGσ32, hS⟩ := hq
  intro H locs ls hH hl hc
  refine W.eq (g2 := F0 m 197 ls [.int (i32 r33), .int (i32 v14), .ref (ra 74)]) (rfl) ?_
  try dsimp only at h
  obtain ⟨q2, h⟩ := h
  obtain ⟨σ34, eσ34⟩ : ∃ z, z = pI σ32 (ra 74) v14.toNat r33 := ⟨_, rfl⟩
  have h := h σ34 eσ34
  refine x_iast B K.2.1 hH (hS.ar (k := 74) (kd := 100) (n := 4000) (by decide)) (by decide) q2 dX16_takeSpans_197 (fun H locs hH => ?_)
  have hH : Hd D cA A s (pI σ32 (ra 74) v14.toNat r33) H locs := hH
  rw [← eσ34] at hH
  have hGσ34 : RG σ34 := by rw [eσ34]; exact hGσ32.pI gr33
  have hS : Shp dm ra jx rm σ34 := by rw [eσ34]; exact hS
  have hc : CB n0 s0 σ34 := by rw [eσ34]; exact hc
  rw [show gc σ32 = gc σ34 by rw [eσ34], show gs σ32 = gs σ34 by rw [eσ34]]
  exact a_X16_takeSpans_198 K hQ hX hK62 _ _ _ _ _ _ _ _ g1 g2 g5 h hGσ34 hS _ _ _ hH (lv_sub (l' := [(0, .ref rm), (1, .int (i32 v1)), (2, .int (i32 v2)), (3, .long v3), (5, .int (i32 v5)), (6, .long v6), (10, .long v10), (12, .long v12)]) hl [0, 1, 2, 3, 4, 5, 6, 7] rfl) hc
set_option maxRecDepth 20000 in
theorem a_X16_takeSpans_144 {Q : Sg → Unit → Prop} {X : Sg → String → Prop} (K : MC R p s m args c cX16_takeSpans 16 RX16 D cA tys A n0 s0 3 83 []) (hQ : HQV p l e R s m args below meth c cX16_takeSpans D cA A n0 s0 QM dm ra jx rm Q) (hX : HX p l e R s m args below meth c 16 D cA A n0 s0 QM dm ra jx rm X) {K62 : Sg → Int → Int → Int64 → Int → Int64 → Int64 → Int64 → Prop} (hK62 : ∀ (σ : Sg) (v1 : Int) (v2 : Int) (v3 : Int64) (v5 : Int) (v6 : Int64) (v10 : Int64) (v12 : Int64) (g1 : rng v1) (g2 : rng v2) (g5 : rng v5), K62 σ v1 v2 v3 v5 v6 v10 v12 → RG σ → Shp dm ra jx rm σ → JJ p l e R s m args below meth c 16 D cA A n0 s0 QM σ 62 [(0, .ref rm), (1, .int (i32 v1)), (2, .int (i32 v2)), (3, .long v3), (5, .int (i32 v5)), (6, .long v6), (10, .long v10), (12, .long v12)] []) : ∀ (σ : Sg) (v1 : Int) (v2 : Int) (v3 : Int64) (v5 : Int) (v6 : Int64) (v10 : Int64) (v12 : Int64) (g1 : rng v1) (g2 : rng v2) (g5 : rng v5), w_X16_takeSpans_144 ra jx rm K62 Q X σ v1 v2 v3 v5 v6 v10 v12 → RG σ → Shp dm ra jx rm σ → JJ p l e R s m args below meth c 16 D cA A n0 s0 QM σ 144 [(0, .ref rm), (1, .int (i32 v1)), (2, .int (i32 v2)), (3, .long v3), (5, .int (i32 v5)), (6, .long v6), (10, .long v10), (12, .long v12)] [] := by
  intro σ v1 v2 v3 v5 v6 v10 v12 g1 g2 g5 h hGσ hS H locs ls hH hl hc
  have B := K.1
  unfold w_X16_takeSpans_144 at h
  refine lv_aload_n B.1 B.2.1 dX16_takeSpans_144 rfl (lv_at hl 0 rfl) ?_
  refine lv_iload_n B.1 B.2.1 dX16_takeSpans_145 rfl (lv_at hl 1 rfl) ?_
  refine lv_iconst (v := i32 2) B.1 B.2.1 dX16_takeSpans_146 (by decide) ?_
  refine lv_lload B.1 B.2.1 dX16_takeSpans_147 (lv_at hl 5 rfl) ?_
  refine lv_lload B.1 B.2.1 dX16_takeSpans_149 (lv_at hl 7 rfl) ?_
  refine lv_lconst (v := 0) B.1 B.2.1 dX16_takeSpans_151 (by decide) ?_
  refine lv_aload_n B.1 B.2.1 dX16_takeSpans_152 rfl (lv_at hl 0 rfl) ?_
  refine r_arr B hH hS 82 (kd := 101) (n := 16) (by decide) (by decide) wf_X16_578 rfl rfl dX16_takeSpans_153 ?_
  refine lv_iconst (v := i32 0) B.1 B.2.1 dX16_takeSpans_156 (by decide) ?_
  refine lv_iload B.1 B.2.1 dX16_takeSpans_157 (lv_at hl 4 rfl) ?_
  refine c_V B hH hl hc K.2.2.1 (C := RX16) (T := TX16) (N := 123) (ci := 16) (As := [.int (i32 v1), .int (i32 2), .long v6, .long v12, .long 0, va_rf (some (ra 82)), .int (i32 0), .int (i32 v5)]) (ok_X16_record K.2.1 σ v1 2 v6 v12 0 (some (ra 82)) 0 v5 g1 (by unfold rng; omega) (by unfold rng; omega) g5 hGσ hS h) wc_X16_567 8 hd_X16_record ⟨Nat.le_trans (Nat.le_of_ble_eq_true rfl) K.2.2.2.1, Nat.le_trans (Nat.le_of_ble_eq_true rfl) K.2.2.2.2.1⟩ hS.1.1 hS.1.2 (by decide) rfl rfl (rest := []) rfl (Nat.le_of_ble_eq_true rfl) dX16_takeSpans_159 (fun σ35 w hq => ?_) (fun σ9 E9 hx9 => hX σ9 E9 _ _ _ (tb_out K.2.2.2.2.2 rfl) hx9.1 hx9.2.1 hx9.2.2)
  obtain ⟨r36, rfl, gr36, h, hGσ35, hS⟩ := hq
  intro H locs ls hH hl hc
  refine W.eq (g2 := F0 m 162 ls [.int (i32 r36)]) (rfl) ?_
  try dsimp only at h
  refine lv_pop B.1 B.2.1 dX16_takeSpans_162 rfl ?_
  refine lv_goto (tgt := 198) B.1 B.2.1 dX16_takeSpans_163 (by decide) ?_
  exact a_X16_takeSpans_198 K hQ hX hK62 _ _ _ _ _ _ _ _ g1 g2 g5 h hGσ35 hS _ _ _ hH (lv_sub (l' := [(0, .ref rm), (1, .int (i32 v1)), (2, .int (i32 v2)), (3, .long v3), (5, .int (i32 v5)), (6, .long v6), (10, .long v10), (12, .long v12)]) hl [0, 1, 2, 3, 4, 5, 6, 7] rfl) hc
set_option maxRecDepth 20000 in
theorem a_X16_takeSpans_138 {Q : Sg → Unit → Prop} {X : Sg → String → Prop} (K : MC R p s m args c cX16_takeSpans 16 RX16 D cA tys A n0 s0 3 83 []) (hQ : HQV p l e R s m args below meth c cX16_takeSpans D cA A n0 s0 QM dm ra jx rm Q) (hX : HX p l e R s m args below meth c 16 D cA A n0 s0 QM dm ra jx rm X) {K62 : Sg → Int → Int → Int64 → Int → Int64 → Int64 → Int64 → Prop} (hK62 : ∀ (σ : Sg) (v1 : Int) (v2 : Int) (v3 : Int64) (v5 : Int) (v6 : Int64) (v10 : Int64) (v12 : Int64) (g1 : rng v1) (g2 : rng v2) (g5 : rng v5), K62 σ v1 v2 v3 v5 v6 v10 v12 → RG σ → Shp dm ra jx rm σ → JJ p l e R s m args below meth c 16 D cA A n0 s0 QM σ 62 [(0, .ref rm), (1, .int (i32 v1)), (2, .int (i32 v2)), (3, .long v3), (5, .int (i32 v5)), (6, .long v6), (10, .long v10), (12, .long v12)] []) : ∀ (σ : Sg) (v1 : Int) (v2 : Int) (v3 : Int64) (v5 : Int) (v6 : Int64) (v10 : Int64) (v12 : Int64) (v14 : Int) (g1 : rng v1) (g2 : rng v2) (g5 : rng v5) (g14 : rng v14), w_X16_takeSpans_138 ra jx rm K62 Q X σ v1 v2 v3 v5 v6 v10 v12 v14 → RG σ → Shp dm ra jx rm σ → JJ p l e R s m args below meth c 16 D cA A n0 s0 QM σ 138 [(0, .ref rm), (1, .int (i32 v1)), (2, .int (i32 v2)), (3, .long v3), (5, .int (i32 v5)), (6, .long v6), (10, .long v10), (12, .long v12), (14, .int (i32 v14))] [] := by
  intro σ v1 v2 v3 v5 v6 v10 v12 v14 g1 g2 g5 g14 h hGσ hS H locs ls hH hl hc
  have B := K.1
  unfold w_X16_takeSpans_138 at h
  refine lv_iload B.1 B.2.1 dX16_takeSpans_138 (lv_at hl 8 rfl) ?_
  refine lv_iconst (v := i32 (-1)) B.1 B.2.1 dX16_takeSpans_140 (by decide) ?_
  refine lv_icmp_ne (tgt := 166) B.1 B.2.1 dX16_takeSpans_141 (by decide) (fun h9 => ?_) (fun h9 => ?_)
  · rw [if_pos (fun q => h9 ((i32_eq g14 (by unfold rng; omega)).mpr q))] at h
    exact a_X16_takeSpans_166 K hQ hX hK62 _ _ _ _ _ _ _ _ _ g1 g2 g5 g14 h hGσ hS _ _ _ hH (lv_sub (l' := [(0, .ref rm), (1, .int (i32 v1)), (2, .int (i32 v2)), (3, .long v3), (5, .int (i32 v5)), (6, .long v6), (10, .long v10), (12, .long v12), (14, .int (i32 v14))]) hl [0, 1, 2, 3, 4, 5, 6, 7, 8] rfl) hc
  · rw [if_neg (fun q => q ((i32_eq g14 (by unfold rng; omega)).mp h9))] at h
    exact a_X16_takeSpans_144 K hQ hX hK62 _ _ _ _ _ _ _ _ g1 g2 g5 h hGσ hS _ _ _ hH (lv_sub (l' := [(0, .ref rm), (1, .int (i32 v1)), (2, .int (i32 v2)), (3, .long v3), (5, .int (i32 v5)), (6, .long v6), (10, .long v10), (12, .long v12)]) hl [0, 1, 2, 3, 4, 5, 6, 7] rfl) hc
set_option maxRecDepth 20000 in
theorem a_X16_takeSpans_124 {Q : Sg → Unit → Prop} {X : Sg → String → Prop} (K : MC R p s m args c cX16_takeSpans 16 RX16 D cA tys A n0 s0 3 83 []) (hQ : HQV p l e R s m args below meth c cX16_takeSpans D cA A n0 s0 QM dm ra jx rm Q) (hX : HX p l e R s m args below meth c 16 D cA A n0 s0 QM dm ra jx rm X) {K62 : Sg → Int → Int → Int64 → Int → Int64 → Int64 → Int64 → Prop} (hK62 : ∀ (σ : Sg) (v1 : Int) (v2 : Int) (v3 : Int64) (v5 : Int) (v6 : Int64) (v10 : Int64) (v12 : Int64) (g1 : rng v1) (g2 : rng v2) (g5 : rng v5), K62 σ v1 v2 v3 v5 v6 v10 v12 → RG σ → Shp dm ra jx rm σ → JJ p l e R s m args below meth c 16 D cA A n0 s0 QM σ 62 [(0, .ref rm), (1, .int (i32 v1)), (2, .int (i32 v2)), (3, .long v3), (5, .int (i32 v5)), (6, .long v6), (10, .long v10), (12, .long v12)] []) {K85 : Sg → Int → Int → Int64 → Int → Int64 → Int64 → Int64 → Int → Int → Prop} (hK85 : ∀ (σ : Sg) (v1 : Int) (v2 : Int) (v3 : Int64) (v5 : Int) (v6 : Int64) (v10 : Int64) (v12 : Int64) (v14 : Int) (v15 : Int) (g1 : rng v1) (g2 : rng v2) (g5 : rng v5) (g14 : rng v14) (g15 : rng v15), K85 σ v1 v2 v3 v5 v6 v10 v12 v14 v15 → RG σ → Shp dm ra jx rm σ → JJ p l e R s m args below meth c 16 D cA A n0 s0 QM σ 85 [(0, .ref rm), (1, .int (i32 v1)), (2, .int (i32 v2)), (3, .long v3), (5, .int (i32 v5)), (6, .long v6), (10, .long v10), (12, .long v12), (14, .int (i32 v14)), (15, .int (i32 v15))] []) : ∀ (σ : Sg) (v1 : Int) (v2 : Int) (v3 : Int64) (v5 : Int) (v6 : Int64) (v10 : Int64) (v12 : Int64) (v15 : Int) (u0 : Int) (g1 : rng v1) (g2 : rng v2) (g5 : rng v5) (g15 : rng v15) (gu0 : rng u0), w_X16_takeSpans_124 ra jx rm K62 K85 Q X σ v1 v2 v3 v5 v6 v10 v12 v15 u0 → RG σ → Shp dm ra jx rm σ → JJ p l e R s m args below meth c 16 D cA A n0 s0 QM σ 124 [(0, .ref rm), (1, .int (i32 v1)), (2, .int (i32 v2)), (3, .long v3), (5, .int (i32 v5)), (6, .long v6), (10, .long v10), (12, .long v12), (15, .int (i32 v15))] [.int (i32 u0)] := by
  intro σ v1 v2 v3 v5 v6 v10 v12 v15 u0 g1 g2 g5 g15 gu0 h hGσ hS H locs ls hH hl hc
  have B := K.1
  unfold w_X16_takeSpans_124 at h
  refine lv_istore (lv' := [(14, .int (i32 u0)), (0, .ref rm), (1, .int (i32 v1)), (2, .int (i32 v2)), (3, .long v3), (5, .int (i32 v5)), (6, .long v6), (10, .long v10), (12, .long v12), (15, .int (i32 v15))]) B.1 B.2.1 dX16_takeSpans_124 hl (by decide) rfl (fun ls hl => ?_)
  refine lv_aload_n B.1 B.2.1 dX16_takeSpans_126 rfl (lv_at hl 1 rfl) ?_
  refine r_arr B hH hS 75 (kd := 100) (n := 4000) (by decide) (by decide) wf_X16_495 rfl rfl dX16_takeSpans_127 ?_
  refine lv_iload B.1 B.2.1 dX16_takeSpans_130 (lv_at hl 9 rfl) ?_
  obtain ⟨q1, h⟩ := h
  refine x_iald B K.2.1 hH (hS.ar (k := 75) (kd := 100) (n := 4000) (by decide)) (by decide) q1 dX16_takeSpans_132 ?_
  refine lv_istore (lv' := [(15, .int (i32 (gI σ (ra 75) v15.toNat))), (14, .int (i32 u0)), (0, .ref rm), (1, .int (i32 v1)), (2, .int (i32 v2)), (3, .long v3), (5, .int (i32 v5)), (6, .long v6), (10, .long v10), (12, .long v12)]) B.1 B.2.1 dX16_takeSpans_133 hl (by decide) rfl (fun ls hl => ?_)
  refine lv_goto (tgt := 85) B.1 B.2.1 dX16_takeSpans_135 (by decide) ?_
  exact hK85 _ _ _ _ _ _ _ _ _ _ g1 g2 g5 gu0 (hGσ _ _) h hGσ hS _ _ _ hH (lv_sub (l' := [(0, .ref rm), (1, .int (i32 v1)), (2, .int (i32 v2)), (3, .long v3), (5, .int (i32 v5)), (6, .long v6), (10, .long v10), (12, .long v12), (14, .int (i32 u0)), (15, .int (i32 (gI σ (ra 75) v15.toNat)))]) hl [2, 3, 4, 5, 6, 7, 8, 9, 1, 0] rfl) hc
set_option maxRecDepth 20000 in
theorem a_X16_takeSpans_122 {Q : Sg → Unit → Prop} {X : Sg → String → Prop} (K : MC R p s m args c cX16_takeSpans 16 RX16 D cA tys A n0 s0 3 83 []) (hQ : HQV p l e R s m args below meth c cX16_takeSpans D cA A n0 s0 QM dm ra jx rm Q) (hX : HX p l e R s m args below meth c 16 D cA A n0 s0 QM dm ra jx rm X) {K62 : Sg → Int → Int → Int64 → Int → Int64 → Int64 → Int64 → Prop} (hK62 : ∀ (σ : Sg) (v1 : Int) (v2 : Int) (v3 : Int64) (v5 : Int) (v6 : Int64) (v10 : Int64) (v12 : Int64) (g1 : rng v1) (g2 : rng v2) (g5 : rng v5), K62 σ v1 v2 v3 v5 v6 v10 v12 → RG σ → Shp dm ra jx rm σ → JJ p l e R s m args below meth c 16 D cA A n0 s0 QM σ 62 [(0, .ref rm), (1, .int (i32 v1)), (2, .int (i32 v2)), (3, .long v3), (5, .int (i32 v5)), (6, .long v6), (10, .long v10), (12, .long v12)] []) {K85 : Sg → Int → Int → Int64 → Int → Int64 → Int64 → Int64 → Int → Int → Prop} (hK85 : ∀ (σ : Sg) (v1 : Int) (v2 : Int) (v3 : Int64) (v5 : Int) (v6 : Int64) (v10 : Int64) (v12 : Int64) (v14 : Int) (v15 : Int) (g1 : rng v1) (g2 : rng v2) (g5 : rng v5) (g14 : rng v14) (g15 : rng v15), K85 σ v1 v2 v3 v5 v6 v10 v12 v14 v15 → RG σ → Shp dm ra jx rm σ → JJ p l e R s m args below meth c 16 D cA A n0 s0 QM σ 85 [(0, .ref rm), (1, .int (i32 v1)), (2, .int (i32 v2)), (3, .long v3), (5, .int (i32 v5)), (6, .long v6), (10, .long v10), (12, .long v12), (14, .int (i32 v14)), (15, .int (i32 v15))] []) : ∀ (σ : Sg) (v1 : Int) (v2 : Int) (v3 : Int64) (v5 : Int) (v6 : Int64) (v10 : Int64) (v12 : Int64) (v14 : Int) (v15 : Int) (g1 : rng v1) (g2 : rng v2) (g5 : rng v5) (g14 : rng v14) (g15 : rng v15), w_X16_takeSpans_122 ra jx rm K62 K85 Q X σ v1 v2 v3 v5 v6 v10 v12 v14 v15 → RG σ → Shp dm ra jx rm σ → JJ p l e R s m args below meth c 16 D cA A n0 s0 QM σ 122 [(0, .ref rm), (1, .int (i32 v1)), (2, .int (i32 v2)), (3, .long v3), (5, .int (i32 v5)), (6, .long v6), (10, .long v10), (12, .long v12), (14, .int (i32 v14)), (15, .int (i32 v15))] [] := by
  intro σ v1 v2 v3 v5 v6 v10 v12 v14 v15 g1 g2 g5 g14 g15 h hGσ hS H locs ls hH hl hc
  have B := K.1
  unfold w_X16_takeSpans_122 at h
  refine lv_iload B.1 B.2.1 dX16_takeSpans_122 (lv_at hl 8 rfl) ?_
  exact a_X16_takeSpans_124 K hQ hX hK62 hK85 _ _ _ _ _ _ _ _ _ _ g1 g2 g5 g15 g14 h hGσ hS _ _ _ hH (lv_sub (l' := [(0, .ref rm), (1, .int (i32 v1)), (2, .int (i32 v2)), (3, .long v3), (5, .int (i32 v5)), (6, .long v6), (10, .long v10), (12, .long v12), (15, .int (i32 v15))]) hl [0, 1, 2, 3, 4, 5, 6, 7, 9] rfl) hc
set_option maxRecDepth 20000 in
theorem a_X16_takeSpans_117 {Q : Sg → Unit → Prop} {X : Sg → String → Prop} (K : MC R p s m args c cX16_takeSpans 16 RX16 D cA tys A n0 s0 3 83 []) (hQ : HQV p l e R s m args below meth c cX16_takeSpans D cA A n0 s0 QM dm ra jx rm Q) (hX : HX p l e R s m args below meth c 16 D cA A n0 s0 QM dm ra jx rm X) {K62 : Sg → Int → Int → Int64 → Int → Int64 → Int64 → Int64 → Prop} (hK62 : ∀ (σ : Sg) (v1 : Int) (v2 : Int) (v3 : Int64) (v5 : Int) (v6 : Int64) (v10 : Int64) (v12 : Int64) (g1 : rng v1) (g2 : rng v2) (g5 : rng v5), K62 σ v1 v2 v3 v5 v6 v10 v12 → RG σ → Shp dm ra jx rm σ → JJ p l e R s m args below meth c 16 D cA A n0 s0 QM σ 62 [(0, .ref rm), (1, .int (i32 v1)), (2, .int (i32 v2)), (3, .long v3), (5, .int (i32 v5)), (6, .long v6), (10, .long v10), (12, .long v12)] []) {K85 : Sg → Int → Int → Int64 → Int → Int64 → Int64 → Int64 → Int → Int → Prop} (hK85 : ∀ (σ : Sg) (v1 : Int) (v2 : Int) (v3 : Int64) (v5 : Int) (v6 : Int64) (v10 : Int64) (v12 : Int64) (v14 : Int) (v15 : Int) (g1 : rng v1) (g2 : rng v2) (g5 : rng v5) (g14 : rng v14) (g15 : rng v15), K85 σ v1 v2 v3 v5 v6 v10 v12 v14 v15 → RG σ → Shp dm ra jx rm σ → JJ p l e R s m args below meth c 16 D cA A n0 s0 QM σ 85 [(0, .ref rm), (1, .int (i32 v1)), (2, .int (i32 v2)), (3, .long v3), (5, .int (i32 v5)), (6, .long v6), (10, .long v10), (12, .long v12), (14, .int (i32 v14)), (15, .int (i32 v15))] []) : ∀ (σ : Sg) (v1 : Int) (v2 : Int) (v3 : Int64) (v5 : Int) (v6 : Int64) (v10 : Int64) (v12 : Int64) (v15 : Int) (g1 : rng v1) (g2 : rng v2) (g5 : rng v5) (g15 : rng v15), w_X16_takeSpans_117 ra jx rm K62 K85 Q X σ v1 v2 v3 v5 v6 v10 v12 v15 → RG σ → Shp dm ra jx rm σ → JJ p l e R s m args below meth c 16 D cA A n0 s0 QM σ 117 [(0, .ref rm), (1, .int (i32 v1)), (2, .int (i32 v2)), (3, .long v3), (5, .int (i32 v5)), (6, .long v6), (10, .long v10), (12, .long v12), (15, .int (i32 v15))] [] := by
  intro σ v1 v2 v3 v5 v6 v10 v12 v15 g1 g2 g5 g15 h hGσ hS H locs ls hH hl hc
  have B := K.1
  unfold w_X16_takeSpans_117 at h
  refine lv_iload B.1 B.2.1 dX16_takeSpans_117 (lv_at hl 8 rfl) ?_
  refine lv_goto (tgt := 124) B.1 B.2.1 dX16_takeSpans_119 (by decide) ?_
  exact a_X16_takeSpans_124 K hQ hX hK62 hK85 _ _ _ _ _ _ _ _ _ _ g1 g2 g5 g15 g15 h hGσ hS _ _ _ hH (lv_sub (l' := [(0, .ref rm), (1, .int (i32 v1)), (2, .int (i32 v2)), (3, .long v3), (5, .int (i32 v5)), (6, .long v6), (10, .long v10), (12, .long v12), (15, .int (i32 v15))]) hl [0, 1, 2, 3, 4, 5, 6, 7, 8] rfl) hc
set_option maxRecDepth 20000 in
theorem a_X16_takeSpans_104 {Q : Sg → Unit → Prop} {X : Sg → String → Prop} (K : MC R p s m args c cX16_takeSpans 16 RX16 D cA tys A n0 s0 3 83 []) (hQ : HQV p l e R s m args below meth c cX16_takeSpans D cA A n0 s0 QM dm ra jx rm Q) (hX : HX p l e R s m args below meth c 16 D cA A n0 s0 QM dm ra jx rm X) {K62 : Sg → Int → Int → Int64 → Int → Int64 → Int64 → Int64 → Prop} (hK62 : ∀ (σ : Sg) (v1 : Int) (v2 : Int) (v3 : Int64) (v5 : Int) (v6 : Int64) (v10 : Int64) (v12 : Int64) (g1 : rng v1) (g2 : rng v2) (g5 : rng v5), K62 σ v1 v2 v3 v5 v6 v10 v12 → RG σ → Shp dm ra jx rm σ → JJ p l e R s m args below meth c 16 D cA A n0 s0 QM σ 62 [(0, .ref rm), (1, .int (i32 v1)), (2, .int (i32 v2)), (3, .long v3), (5, .int (i32 v5)), (6, .long v6), (10, .long v10), (12, .long v12)] []) {K85 : Sg → Int → Int → Int64 → Int → Int64 → Int64 → Int64 → Int → Int → Prop} (hK85 : ∀ (σ : Sg) (v1 : Int) (v2 : Int) (v3 : Int64) (v5 : Int) (v6 : Int64) (v10 : Int64) (v12 : Int64) (v14 : Int) (v15 : Int) (g1 : rng v1) (g2 : rng v2) (g5 : rng v5) (g14 : rng v14) (g15 : rng v15), K85 σ v1 v2 v3 v5 v6 v10 v12 v14 v15 → RG σ → Shp dm ra jx rm σ → JJ p l e R s m args below meth c 16 D cA A n0 s0 QM σ 85 [(0, .ref rm), (1, .int (i32 v1)), (2, .int (i32 v2)), (3, .long v3), (5, .int (i32 v5)), (6, .long v6), (10, .long v10), (12, .long v12), (14, .int (i32 v14)), (15, .int (i32 v15))] []) : ∀ (σ : Sg) (v1 : Int) (v2 : Int) (v3 : Int64) (v5 : Int) (v6 : Int64) (v10 : Int64) (v12 : Int64) (v14 : Int) (v15 : Int) (g1 : rng v1) (g2 : rng v2) (g5 : rng v5) (g14 : rng v14) (g15 : rng v15), w_X16_takeSpans_104 ra jx rm K62 K85 Q X σ v1 v2 v3 v5 v6 v10 v12 v14 v15 → RG σ → Shp dm ra jx rm σ → JJ p l e R s m args below meth c 16 D cA A n0 s0 QM σ 104 [(0, .ref rm), (1, .int (i32 v1)), (2, .int (i32 v2)), (3, .long v3), (5, .int (i32 v5)), (6, .long v6), (10, .long v10), (12, .long v12), (14, .int (i32 v14)), (15, .int (i32 v15))] [] := by
  intro σ v1 v2 v3 v5 v6 v10 v12 v14 v15 g1 g2 g5 g14 g15 h hGσ hS H locs ls hH hl hc
  have B := K.1
  unfold w_X16_takeSpans_104 at h
  refine lv_aload_n B.1 B.2.1 dX16_takeSpans_104 rfl (lv_at hl 0 rfl) ?_
  refine r_arr B hH hS 71 (kd := 101) (n := 4000) (by decide) (by decide) wf_X16_522 rfl rfl dX16_takeSpans_105 ?_
  refine lv_iload B.1 B.2.1 dX16_takeSpans_108 (lv_at hl 9 rfl) ?_
  obtain ⟨q1, h⟩ := h
  refine x_lald B K.2.1 hH (hS.ar (k := 71) (kd := 101) (n := 4000) (by decide)) (by decide) q1 dX16_takeSpans_110 ?_
  refine lv_lload B.1 B.2.1 dX16_takeSpans_111 (lv_at hl 7 rfl) ?_
  refine W.lcmp B.1 B.2.1 dX16_takeSpans_113 ?_
  refine lv_if_ne (tgt := 122) B.1 B.2.1 dX16_takeSpans_114 (by decide) (fun h9 => ?_) (fun h9 => ?_)
  · rw [if_pos (fun q => h9 ((lg_cmp_eq _ _).mpr q))] at h
    exact a_X16_takeSpans_122 K hQ hX hK62 hK85 _ _ _ _ _ _ _ _ _ _ g1 g2 g5 g14 g15 h hGσ hS _ _ _ hH (lv_sub (l' := [(0, .ref rm), (1, .int (i32 v1)), (2, .int (i32 v2)), (3, .long v3), (5, .int (i32 v5)), (6, .long v6), (10, .long v10), (12, .long v12), (14, .int (i32 v14)), (15, .int (i32 v15))]) hl [0, 1, 2, 3, 4, 5, 6, 7, 8, 9] rfl) hc
  · rw [if_neg (fun q => q ((lg_cmp_eq _ _).mp h9))] at h
    exact a_X16_takeSpans_117 K hQ hX hK62 hK85 _ _ _ _ _ _ _ _ _ g1 g2 g5 g15 h hGσ hS _ _ _ hH (lv_sub (l' := [(0, .ref rm), (1, .int (i32 v1)), (2, .int (i32 v2)), (3, .long v3), (5, .int (i32 v5)), (6, .long v6), (10, .long v10), (12, .long v12), (15, .int (i32 v15))]) hl [0, 1, 2, 3, 4, 5, 6, 7, 9] rfl) hc
set_option maxRecDepth 20000 in
theorem a_X16_takeSpans_91 {Q : Sg → Unit → Prop} {X : Sg → String → Prop} (K : MC R p s m args c cX16_takeSpans 16 RX16 D cA tys A n0 s0 3 83 []) (hQ : HQV p l e R s m args below meth c cX16_takeSpans D cA A n0 s0 QM dm ra jx rm Q) (hX : HX p l e R s m args below meth c 16 D cA A n0 s0 QM dm ra jx rm X) {K62 : Sg → Int → Int → Int64 → Int → Int64 → Int64 → Int64 → Prop} (hK62 : ∀ (σ : Sg) (v1 : Int) (v2 : Int) (v3 : Int64) (v5 : Int) (v6 : Int64) (v10 : Int64) (v12 : Int64) (g1 : rng v1) (g2 : rng v2) (g5 : rng v5), K62 σ v1 v2 v3 v5 v6 v10 v12 → RG σ → Shp dm ra jx rm σ → JJ p l e R s m args below meth c 16 D cA A n0 s0 QM σ 62 [(0, .ref rm), (1, .int (i32 v1)), (2, .int (i32 v2)), (3, .long v3), (5, .int (i32 v5)), (6, .long v6), (10, .long v10), (12, .long v12)] []) {K85 : Sg → Int → Int → Int64 → Int → Int64 → Int64 → Int64 → Int → Int → Prop} (hK85 : ∀ (σ : Sg) (v1 : Int) (v2 : Int) (v3 : Int64) (v5 : Int) (v6 : Int64) (v10 : Int64) (v12 : Int64) (v14 : Int) (v15 : Int) (g1 : rng v1) (g2 : rng v2) (g5 : rng v5) (g14 : rng v14) (g15 : rng v15), K85 σ v1 v2 v3 v5 v6 v10 v12 v14 v15 → RG σ → Shp dm ra jx rm σ → JJ p l e R s m args below meth c 16 D cA A n0 s0 QM σ 85 [(0, .ref rm), (1, .int (i32 v1)), (2, .int (i32 v2)), (3, .long v3), (5, .int (i32 v5)), (6, .long v6), (10, .long v10), (12, .long v12), (14, .int (i32 v14)), (15, .int (i32 v15))] []) : ∀ (σ : Sg) (v1 : Int) (v2 : Int) (v3 : Int64) (v5 : Int) (v6 : Int64) (v10 : Int64) (v12 : Int64) (v14 : Int) (v15 : Int) (g1 : rng v1) (g2 : rng v2) (g5 : rng v5) (g14 : rng v14) (g15 : rng v15), w_X16_takeSpans_91 ra jx rm K62 K85 Q X σ v1 v2 v3 v5 v6 v10 v12 v14 v15 → RG σ → Shp dm ra jx rm σ → JJ p l e R s m args below meth c 16 D cA A n0 s0 QM σ 91 [(0, .ref rm), (1, .int (i32 v1)), (2, .int (i32 v2)), (3, .long v3), (5, .int (i32 v5)), (6, .long v6), (10, .long v10), (12, .long v12), (14, .int (i32 v14)), (15, .int (i32 v15))] [] := by
  intro σ v1 v2 v3 v5 v6 v10 v12 v14 v15 g1 g2 g5 g14 g15 h hGσ hS H locs ls hH hl hc
  have B := K.1
  unfold w_X16_takeSpans_91 at h
  refine lv_aload_n B.1 B.2.1 dX16_takeSpans_91 rfl (lv_at hl 0 rfl) ?_
  refine r_arr B hH hS 70 (kd := 101) (n := 4000) (by decide) (by decide) wf_X16_519 rfl rfl dX16_takeSpans_92 ?_
  refine lv_iload B.1 B.2.1 dX16_takeSpans_95 (lv_at hl 9 rfl) ?_
  obtain ⟨q1, h⟩ := h
  refine x_lald B K.2.1 hH (hS.ar (k := 70) (kd := 101) (n := 4000) (by decide)) (by decide) q1 dX16_takeSpans_97 ?_
  refine lv_lload B.1 B.2.1 dX16_takeSpans_98 (lv_at hl 5 rfl) ?_
  refine W.lcmp B.1 B.2.1 dX16_takeSpans_100 ?_
  refine lv_if_ne (tgt := 122) B.1 B.2.1 dX16_takeSpans_101 (by decide) (fun h9 => ?_) (fun h9 => ?_)
  · rw [if_pos (fun q => h9 ((lg_cmp_eq _ _).mpr q))] at h
    exact a_X16_takeSpans_122 K hQ hX hK62 hK85 _ _ _ _ _ _ _ _ _ _ g1 g2 g5 g14 g15 h hGσ hS _ _ _ hH (lv_sub (l' := [(0, .ref rm), (1, .int (i32 v1)), (2, .int (i32 v2)), (3, .long v3), (5, .int (i32 v5)), (6, .long v6), (10, .long v10), (12, .long v12), (14, .int (i32 v14)), (15, .int (i32 v15))]) hl [0, 1, 2, 3, 4, 5, 6, 7, 8, 9] rfl) hc
  · rw [if_neg (fun q => q ((lg_cmp_eq _ _).mp h9))] at h
    exact a_X16_takeSpans_104 K hQ hX hK62 hK85 _ _ _ _ _ _ _ _ _ _ g1 g2 g5 g14 g15 h hGσ hS _ _ _ hH (lv_sub (l' := [(0, .ref rm), (1, .int (i32 v1)), (2, .int (i32 v2)), (3, .long v3), (5, .int (i32 v5)), (6, .long v6), (10, .long v10), (12, .long v12), (14, .int (i32 v14)), (15, .int (i32 v15))]) hl [0, 1, 2, 3, 4, 5, 6, 7, 8, 9] rfl) hc
set_option maxRecDepth 20000 in
theorem a_X16_takeSpans_85 {Q : Sg → Unit → Prop} {X : Sg → String → Prop} (K : MC R p s m args c cX16_takeSpans 16 RX16 D cA tys A n0 s0 3 83 []) (hQ : HQV p l e R s m args below meth c cX16_takeSpans D cA A n0 s0 QM dm ra jx rm Q) (hX : HX p l e R s m args below meth c 16 D cA A n0 s0 QM dm ra jx rm X) {K62 : Sg → Int → Int → Int64 → Int → Int64 → Int64 → Int64 → Prop} (hK62 : ∀ (σ : Sg) (v1 : Int) (v2 : Int) (v3 : Int64) (v5 : Int) (v6 : Int64) (v10 : Int64) (v12 : Int64) (g1 : rng v1) (g2 : rng v2) (g5 : rng v5), K62 σ v1 v2 v3 v5 v6 v10 v12 → RG σ → Shp dm ra jx rm σ → JJ p l e R s m args below meth c 16 D cA A n0 s0 QM σ 62 [(0, .ref rm), (1, .int (i32 v1)), (2, .int (i32 v2)), (3, .long v3), (5, .int (i32 v5)), (6, .long v6), (10, .long v10), (12, .long v12)] []) {K85 : Sg → Int → Int → Int64 → Int → Int64 → Int64 → Int64 → Int → Int → Prop} (hK85 : ∀ (σ : Sg) (v1 : Int) (v2 : Int) (v3 : Int64) (v5 : Int) (v6 : Int64) (v10 : Int64) (v12 : Int64) (v14 : Int) (v15 : Int) (g1 : rng v1) (g2 : rng v2) (g5 : rng v5) (g14 : rng v14) (g15 : rng v15), K85 σ v1 v2 v3 v5 v6 v10 v12 v14 v15 → RG σ → Shp dm ra jx rm σ → JJ p l e R s m args below meth c 16 D cA A n0 s0 QM σ 85 [(0, .ref rm), (1, .int (i32 v1)), (2, .int (i32 v2)), (3, .long v3), (5, .int (i32 v5)), (6, .long v6), (10, .long v10), (12, .long v12), (14, .int (i32 v14)), (15, .int (i32 v15))] []) : ∀ (σ : Sg) (v1 : Int) (v2 : Int) (v3 : Int64) (v5 : Int) (v6 : Int64) (v10 : Int64) (v12 : Int64) (v14 : Int) (v15 : Int) (g1 : rng v1) (g2 : rng v2) (g5 : rng v5) (g14 : rng v14) (g15 : rng v15), w_X16_takeSpans_85 ra jx rm K62 K85 Q X σ v1 v2 v3 v5 v6 v10 v12 v14 v15 → RG σ → Shp dm ra jx rm σ → JJ p l e R s m args below meth c 16 D cA A n0 s0 QM σ 85 [(0, .ref rm), (1, .int (i32 v1)), (2, .int (i32 v2)), (3, .long v3), (5, .int (i32 v5)), (6, .long v6), (10, .long v10), (12, .long v12), (14, .int (i32 v14)), (15, .int (i32 v15))] [] := by
  intro σ v1 v2 v3 v5 v6 v10 v12 v14 v15 g1 g2 g5 g14 g15 h hGσ hS H locs ls hH hl hc
  have B := K.1
  unfold w_X16_takeSpans_85 at h
  refine lv_iload B.1 B.2.1 dX16_takeSpans_85 (lv_at hl 9 rfl) ?_
  refine lv_iconst (v := i32 (-1)) B.1 B.2.1 dX16_takeSpans_87 (by decide) ?_
  refine lv_icmp_eq (tgt := 138) B.1 B.2.1 dX16_takeSpans_88 (by decide) (fun h9 => ?_) (fun h9 => ?_)
  · rw [if_pos ((i32_eq g15 (by unfold rng; omega)).mp h9)] at h
    exact a_X16_takeSpans_138 K hQ hX hK62 _ _ _ _ _ _ _ _ _ g1 g2 g5 g14 h hGσ hS _ _ _ hH (lv_sub (l' := [(0, .ref rm), (1, .int (i32 v1)), (2, .int (i32 v2)), (3, .long v3), (5, .int (i32 v5)), (6, .long v6), (10, .long v10), (12, .long v12), (14, .int (i32 v14))]) hl [0, 1, 2, 3, 4, 5, 6, 7, 8] rfl) hc
  · rw [if_neg (fun q => h9 ((i32_eq g15 (by unfold rng; omega)).mpr q))] at h
    exact a_X16_takeSpans_91 K hQ hX hK62 hK85 _ _ _ _ _ _ _ _ _ _ g1 g2 g5 g14 g15 h hGσ hS _ _ _ hH (lv_sub (l' := [(0, .ref rm), (1, .int (i32 v1)), (2, .int (i32 v2)), (3, .long v3), (5, .int (i32 v5)), (6, .long v6), (10, .long v10), (12, .long v12), (14, .int (i32 v14)), (15, .int (i32 v15))]) hl [0, 1, 2, 3, 4, 5, 6, 7, 8, 9] rfl) hc
theorem al_X16_takeSpans_85 {Q : Sg → Unit → Prop} {X : Sg → String → Prop} (K : MC R p s m args c cX16_takeSpans 16 RX16 D cA tys A n0 s0 3 83 []) (hQ : HQV p l e R s m args below meth c cX16_takeSpans D cA A n0 s0 QM dm ra jx rm Q) (hX : HX p l e R s m args below meth c 16 D cA A n0 s0 QM dm ra jx rm X) {K62 : Sg → Int → Int → Int64 → Int → Int64 → Int64 → Int64 → Prop} (hK62 : ∀ (σ : Sg) (v1 : Int) (v2 : Int) (v3 : Int64) (v5 : Int) (v6 : Int64) (v10 : Int64) (v12 : Int64) (g1 : rng v1) (g2 : rng v2) (g5 : rng v5), K62 σ v1 v2 v3 v5 v6 v10 v12 → RG σ → Shp dm ra jx rm σ → JJ p l e R s m args below meth c 16 D cA A n0 s0 QM σ 62 [(0, .ref rm), (1, .int (i32 v1)), (2, .int (i32 v2)), (3, .long v3), (5, .int (i32 v5)), (6, .long v6), (10, .long v10), (12, .long v12)] []) : ∀ (n : Nat), ∀ (σ : Sg) (v1 : Int) (v2 : Int) (v3 : Int64) (v5 : Int) (v6 : Int64) (v10 : Int64) (v12 : Int64) (v14 : Int) (v15 : Int) (g1 : rng v1) (g2 : rng v2) (g5 : rng v5) (g14 : rng v14) (g15 : rng v15), wl_X16_takeSpans_85 ra jx rm K62 Q X n σ v1 v2 v3 v5 v6 v10 v12 v14 v15 → RG σ → Shp dm ra jx rm σ → JJ p l e R s m args below meth c 16 D cA A n0 s0 QM σ 85 [(0, .ref rm), (1, .int (i32 v1)), (2, .int (i32 v2)), (3, .long v3), (5, .int (i32 v5)), (6, .long v6), (10, .long v10), (12, .long v12), (14, .int (i32 v14)), (15, .int (i32 v15))] [] := by
  intro n
  induction n with
  | zero => intro σ v1 v2 v3 v5 v6 v10 v12 v14 v15 g1 g2 g5 g14 g15 h; exact h.elim
  | succ n ih => exact fun σ v1 v2 v3 v5 v6 v10 v12 v14 v15 g1 g2 g5 g14 g15 h => a_X16_takeSpans_85 K hQ hX hK62 ih σ v1 v2 v3 v5 v6 v10 v12 v14 v15 g1 g2 g5 g14 g15 h
set_option maxRecDepth 20000 in
theorem a_X16_takeSpans_74 {Q : Sg → Unit → Prop} {X : Sg → String → Prop} (K : MC R p s m args c cX16_takeSpans 16 RX16 D cA tys A n0 s0 3 83 []) (hQ : HQV p l e R s m args below meth c cX16_takeSpans D cA A n0 s0 QM dm ra jx rm Q) (hX : HX p l e R s m args below meth c 16 D cA A n0 s0 QM dm ra jx rm X) {K62 : Sg → Int → Int → Int64 → Int → Int64 → Int64 → Int64 → Prop} (hK62 : ∀ (σ : Sg) (v1 : Int) (v2 : Int) (v3 : Int64) (v5 : Int) (v6 : Int64) (v10 : Int64) (v12 : Int64) (g1 : rng v1) (g2 : rng v2) (g5 : rng v5), K62 σ v1 v2 v3 v5 v6 v10 v12 → RG σ → Shp dm ra jx rm σ → JJ p l e R s m args below meth c 16 D cA A n0 s0 QM σ 62 [(0, .ref rm), (1, .int (i32 v1)), (2, .int (i32 v2)), (3, .long v3), (5, .int (i32 v5)), (6, .long v6), (10, .long v10), (12, .long v12)] []) : ∀ (σ : Sg) (v1 : Int) (v2 : Int) (v3 : Int64) (v5 : Int) (v6 : Int64) (v10 : Int64) (v12 : Int64) (g1 : rng v1) (g2 : rng v2) (g5 : rng v5), w_X16_takeSpans_74 ra jx rm K62 Q X σ v1 v2 v3 v5 v6 v10 v12 → RG σ → Shp dm ra jx rm σ → JJ p l e R s m args below meth c 16 D cA A n0 s0 QM σ 74 [(0, .ref rm), (1, .int (i32 v1)), (2, .int (i32 v2)), (3, .long v3), (5, .int (i32 v5)), (6, .long v6), (10, .long v10), (12, .long v12)] [] := by
  intro σ v1 v2 v3 v5 v6 v10 v12 g1 g2 g5 h hGσ hS H locs ls hH hl hc
  have B := K.1
  unfold w_X16_takeSpans_74 at h
  refine lv_iconst (v := i32 (-1)) B.1 B.2.1 dX16_takeSpans_74 (by decide) ?_
  refine lv_istore (lv' := [(14, .int (i32 (-1))), (0, .ref rm), (1, .int (i32 v1)), (2, .int (i32 v2)), (3, .long v3), (5, .int (i32 v5)), (6, .long v6), (10, .long v10), (12, .long v12)]) B.1 B.2.1 dX16_takeSpans_75 hl (by decide) rfl (fun ls hl => ?_)
  refine lv_aload_n B.1 B.2.1 dX16_takeSpans_77 rfl (lv_at hl 1 rfl) ?_
  refine r_arr B hH hS 76 (kd := 100) (n := 64) (by decide) (by decide) wf_X16_504 rfl rfl dX16_takeSpans_78 ?_
  refine lv_iload_n B.1 B.2.1 dX16_takeSpans_81 rfl (lv_at hl 2 rfl) ?_
  obtain ⟨q1, h⟩ := h
  refine x_iald B K.2.1 hH (hS.ar (k := 76) (kd := 100) (n := 64) (by decide)) (by decide) q1 dX16_takeSpans_82 ?_
  refine lv_istore (lv' := [(15, .int (i32 (gI σ (ra 76) v1.toNat))), (14, .int (i32 (-1))), (0, .ref rm), (1, .int (i32 v1)), (2, .int (i32 v2)), (3, .long v3), (5, .int (i32 v5)), (6, .long v6), (10, .long v10), (12, .long v12)]) B.1 B.2.1 dX16_takeSpans_83 hl (by decide) rfl (fun ls hl => ?_)
  obtain ⟨n9, h⟩ := h
  exact al_X16_takeSpans_85 K hQ hX hK62 n9 _ _ _ _ _ _ _ _ _ _ g1 g2 g5 (by unfold rng; omega) (hGσ _ _) h hGσ hS _ _ _ hH (lv_sub (l' := [(0, .ref rm), (1, .int (i32 v1)), (2, .int (i32 v2)), (3, .long v3), (5, .int (i32 v5)), (6, .long v6), (10, .long v10), (12, .long v12), (14, .int (i32 (-1))), (15, .int (i32 (gI σ (ra 76) v1.toNat)))]) hl [2, 3, 4, 5, 6, 7, 8, 9, 1, 0] rfl) hc
set_option maxRecDepth 20000 in
theorem a_X16_takeSpans_62 {Q : Sg → Unit → Prop} {X : Sg → String → Prop} (K : MC R p s m args c cX16_takeSpans 16 RX16 D cA tys A n0 s0 3 83 []) (hQ : HQV p l e R s m args below meth c cX16_takeSpans D cA A n0 s0 QM dm ra jx rm Q) (hX : HX p l e R s m args below meth c 16 D cA A n0 s0 QM dm ra jx rm X) {K62 : Sg → Int → Int → Int64 → Int → Int64 → Int64 → Int64 → Prop} (hK62 : ∀ (σ : Sg) (v1 : Int) (v2 : Int) (v3 : Int64) (v5 : Int) (v6 : Int64) (v10 : Int64) (v12 : Int64) (g1 : rng v1) (g2 : rng v2) (g5 : rng v5), K62 σ v1 v2 v3 v5 v6 v10 v12 → RG σ → Shp dm ra jx rm σ → JJ p l e R s m args below meth c 16 D cA A n0 s0 QM σ 62 [(0, .ref rm), (1, .int (i32 v1)), (2, .int (i32 v2)), (3, .long v3), (5, .int (i32 v5)), (6, .long v6), (10, .long v10), (12, .long v12)] []) : ∀ (σ : Sg) (v1 : Int) (v2 : Int) (v3 : Int64) (v5 : Int) (v6 : Int64) (v10 : Int64) (v12 : Int64) (g1 : rng v1) (g2 : rng v2) (g5 : rng v5), w_X16_takeSpans_62 ra jx rm K62 Q X σ v1 v2 v3 v5 v6 v10 v12 → RG σ → Shp dm ra jx rm σ → JJ p l e R s m args below meth c 16 D cA A n0 s0 QM σ 62 [(0, .ref rm), (1, .int (i32 v1)), (2, .int (i32 v2)), (3, .long v3), (5, .int (i32 v5)), (6, .long v6), (10, .long v10), (12, .long v12)] [] := by
  intro σ v1 v2 v3 v5 v6 v10 v12 g1 g2 g5 h hGσ hS H locs ls hH hl hc
  have B := K.1
  unfold w_X16_takeSpans_62 at h
  refine lv_lload B.1 B.2.1 dX16_takeSpans_62 (lv_at hl 7 rfl) ?_
  refine lv_lload_n B.1 B.2.1 dX16_takeSpans_64 rfl (lv_at hl 3 rfl) ?_
  refine lv_lload B.1 B.2.1 dX16_takeSpans_65 (lv_at hl 6 rfl) ?_
  refine c_S B hH hl hc K.2.2.1 (As := [.long v3, .long v10]) (ok_X16_down K.2.1 σ v3 v10 hGσ hS h) wc_X16_596 2 hd_X16_down ⟨Nat.le_trans (Nat.le_of_ble_eq_true rfl) K.2.2.2.1, Nat.le_trans (Nat.le_of_ble_eq_true rfl) K.2.2.2.2.1⟩ rfl (rest := [.long v12]) rfl (Nat.le_of_ble_eq_true rfl) dX16_takeSpans_67 (fun σ37 w hq => ?_) (fun σ9 E9 hx9 => hX σ9 E9 _ _ _ (tb_out K.2.2.2.2.2 rfl) hx9.1 hx9.2.1 hx9.2.2)
  obtain ⟨r38, rfl, h, hGσ37, hS⟩ := hq
  intro H locs ls hH hl hc
  refine W.eq (g2 := F0 m 70 ls [.long r38, .long v12]) (rfl) ?_
  try dsimp only at h
  refine W.lcmp B.1 B.2.1 dX16_takeSpans_70 ?_
  refine lv_if_gt (tgt := 207) B.1 B.2.1 dX16_takeSpans_71 (by decide) (fun h9 => ?_) (fun h9 => ?_)
  · rw [if_pos ((lg_cmp_gt _ _).mp h9)] at h
    exact a_X16_takeSpans_207 K hQ hX _ h hGσ37 hS _ _ _ hH (lv_sub (l' := [(0, .ref rm)]) hl [0] rfl) hc
  · rw [if_neg (fun q => h9 ((lg_cmp_gt _ _).mpr q))] at h
    exact a_X16_takeSpans_74 K hQ hX hK62 _ _ _ _ _ _ _ _ g1 g2 g5 h hGσ37 hS _ _ _ hH (lv_sub (l' := [(0, .ref rm), (1, .int (i32 v1)), (2, .int (i32 v2)), (3, .long v3), (5, .int (i32 v5)), (6, .long v6), (10, .long v10), (12, .long v12)]) hl [0, 1, 2, 3, 4, 5, 6, 7] rfl) hc
theorem al_X16_takeSpans_62 {Q : Sg → Unit → Prop} {X : Sg → String → Prop} (K : MC R p s m args c cX16_takeSpans 16 RX16 D cA tys A n0 s0 3 83 []) (hQ : HQV p l e R s m args below meth c cX16_takeSpans D cA A n0 s0 QM dm ra jx rm Q) (hX : HX p l e R s m args below meth c 16 D cA A n0 s0 QM dm ra jx rm X) : ∀ (n : Nat), ∀ (σ : Sg) (v1 : Int) (v2 : Int) (v3 : Int64) (v5 : Int) (v6 : Int64) (v10 : Int64) (v12 : Int64) (g1 : rng v1) (g2 : rng v2) (g5 : rng v5), wl_X16_takeSpans_62 ra jx rm Q X n σ v1 v2 v3 v5 v6 v10 v12 → RG σ → Shp dm ra jx rm σ → JJ p l e R s m args below meth c 16 D cA A n0 s0 QM σ 62 [(0, .ref rm), (1, .int (i32 v1)), (2, .int (i32 v2)), (3, .long v3), (5, .int (i32 v5)), (6, .long v6), (10, .long v10), (12, .long v12)] [] := by
  intro n
  induction n with
  | zero => intro σ v1 v2 v3 v5 v6 v10 v12 g1 g2 g5 h; exact h.elim
  | succ n ih => exact fun σ v1 v2 v3 v5 v6 v10 v12 g1 g2 g5 h => a_X16_takeSpans_62 K hQ hX ih σ v1 v2 v3 v5 v6 v10 v12 g1 g2 g5 h
set_option maxRecDepth 20000 in
theorem a_X16_takeSpans_11 {Q : Sg → Unit → Prop} {X : Sg → String → Prop} (K : MC R p s m args c cX16_takeSpans 16 RX16 D cA tys A n0 s0 3 83 []) (hQ : HQV p l e R s m args below meth c cX16_takeSpans D cA A n0 s0 QM dm ra jx rm Q) (hX : HX p l e R s m args below meth c 16 D cA A n0 s0 QM dm ra jx rm X) : ∀ (σ : Sg) (v1 : Int) (v2 : Int) (v3 : Int64) (v5 : Int) (g1 : rng v1) (g2 : rng v2) (g5 : rng v5), w_X16_takeSpans_11 ra jx rm Q X σ v1 v2 v3 v5 → RG σ → Shp dm ra jx rm σ → JJ p l e R s m args below meth c 16 D cA A n0 s0 QM σ 11 [(0, .ref rm), (1, .int (i32 v1)), (2, .int (i32 v2)), (3, .long v3), (5, .int (i32 v5))] [] := by
  intro σ v1 v2 v3 v5 g1 g2 g5 h hGσ hS H locs ls hH hl hc
  have B := K.1
  unfold w_X16_takeSpans_11 at h
  refine lv_aload_n B.1 B.2.1 dX16_takeSpans_11 rfl (lv_at hl 0 rfl) ?_
  refine r_arr B hH hS 81 (kd := 101) (n := 8) (by decide) (by decide) wf_X16_542 rfl rfl dX16_takeSpans_12 ?_
  refine lv_aload_n B.1 B.2.1 dX16_takeSpans_15 rfl (lv_at hl 0 rfl) ?_
  refine r_getp B hH hS 17 (by decide) wf_X16_356 rfl rfl dX16_takeSpans_16 ?_
  obtain ⟨a39, ea39, ja39, h⟩ := h
  refine W.eq (g2 := F0 m 19 ls [.ref a39, .ref (ra 81)]) (by rw [ea39]; rfl) ?_
  refine n_arr B hH hS ja39 10 (kd := 100) (n := 16) (by decide) (by decide) (List.mem_of_getElem? (i := 10) rfl) rfl dX16_takeSpans_19 ?_
  refine lv_iload_n B.1 B.2.1 dX16_takeSpans_22 rfl (lv_at hl 2 rfl) ?_
  obtain ⟨q2, h⟩ := h
  refine x_iald B K.2.1 hH (hS.ja ja39 (k := 10) (kd := 100) (n := 16) (by decide)) (by decide) q2 dX16_takeSpans_23 ?_
  obtain ⟨q3, h⟩ := h
  refine x_lald B K.2.1 hH (hS.ar (k := 81) (kd := 101) (n := 8) (by decide)) (by decide) q3 dX16_takeSpans_24 ?_
  refine lv_lstore (lv' := [(6, .long (gJ σ (ra 81) (gI σ (jx a39 10) v2.toNat).toNat)), (0, .ref rm), (1, .int (i32 v1)), (2, .int (i32 v2)), (3, .long v3), (5, .int (i32 v5))]) B.1 B.2.1 dX16_takeSpans_25 hl (by decide) rfl (fun ls hl => ?_)
  refine lv_aload_n B.1 B.2.1 dX16_takeSpans_27 rfl (lv_at hl 1 rfl) ?_
  refine r_getp B hH hS 17 (by decide) wf_X16_356 rfl rfl dX16_takeSpans_28 ?_
  obtain ⟨a40, ea40, ja40, h⟩ := h
  refine W.eq (g2 := F0 m 31 ls [.ref a40]) (by rw [ea40]; rfl) ?_
  refine n_arr B hH hS ja40 8 (kd := 101) (n := 16) (by decide) (by decide) (List.mem_of_getElem? (i := 8) rfl) rfl dX16_takeSpans_31 ?_
  refine lv_iload_n B.1 B.2.1 dX16_takeSpans_34 rfl (lv_at hl 3 rfl) ?_
  obtain ⟨q5, h⟩ := h
  refine x_lald B K.2.1 hH (hS.ja ja40 (k := 8) (kd := 101) (n := 16) (by decide)) (by decide) q5 dX16_takeSpans_35 ?_
  refine lv_lstore (lv' := [(8, .long (gJ σ (jx a40 8) v2.toNat)), (6, .long (gJ σ (ra 81) (gI σ (jx a39 10) v2.toNat).toNat)), (0, .ref rm), (1, .int (i32 v1)), (2, .int (i32 v2)), (3, .long v3), (5, .int (i32 v5))]) B.1 B.2.1 dX16_takeSpans_36 hl (by decide) rfl (fun ls hl => ?_)
  refine lv_aload_n B.1 B.2.1 dX16_takeSpans_38 rfl (lv_at hl 2 rfl) ?_
  refine r_getp B hH hS 17 (by decide) wf_X16_356 rfl rfl dX16_takeSpans_39 ?_
  obtain ⟨a41, ea41, ja41, h⟩ := h
  refine W.eq (g2 := F0 m 42 ls [.ref a41]) (by rw [ea41]; rfl) ?_
  refine n_arr B hH hS ja41 9 (kd := 101) (n := 16) (by decide) (by decide) (List.mem_of_getElem? (i := 9) rfl) rfl dX16_takeSpans_42 ?_
  refine lv_iload_n B.1 B.2.1 dX16_takeSpans_45 rfl (lv_at hl 4 rfl) ?_
  obtain ⟨q7, h⟩ := h
  refine x_lald B K.2.1 hH (hS.ja ja41 (k := 9) (kd := 101) (n := 16) (by decide)) (by decide) q7 dX16_takeSpans_46 ?_
  refine lv_lstore (lv' := [(10, .long (gJ σ (jx a41 9) v2.toNat)), (8, .long (gJ σ (jx a40 8) v2.toNat)), (6, .long (gJ σ (ra 81) (gI σ (jx a39 10) v2.toNat).toNat)), (0, .ref rm), (1, .int (i32 v1)), (2, .int (i32 v2)), (3, .long v3), (5, .int (i32 v5))]) B.1 B.2.1 dX16_takeSpans_47 hl (by decide) rfl (fun ls hl => ?_)
  refine lv_lload_n B.1 B.2.1 dX16_takeSpans_49 rfl (lv_at hl 6 rfl) ?_
  refine lv_lload B.1 B.2.1 dX16_takeSpans_50 (lv_at hl 1 rfl) ?_
  refine lv_lsub B.1 B.2.1 dX16_takeSpans_52 ?_
  refine lv_lload B.1 B.2.1 dX16_takeSpans_53 (lv_at hl 0 rfl) ?_
  refine c_S B hH hl hc K.2.2.1 (As := [.long (v3 - (gJ σ (jx a40 8) v2.toNat)), .long (gJ σ (jx a41 9) v2.toNat)]) (ok_X16_down K.2.1 σ (v3 - (gJ σ (jx a40 8) v2.toNat)) (gJ σ (jx a41 9) v2.toNat) hGσ hS h) wc_X16_596 2 hd_X16_down ⟨Nat.le_trans (Nat.le_of_ble_eq_true rfl) K.2.2.2.1, Nat.le_trans (Nat.le_of_ble_eq_true rfl) K.2.2.2.2.1⟩ rfl (rest := []) rfl (Nat.le_of_ble_eq_true rfl) dX16_takeSpans_55 (fun σ42 w hq => ?_) (fun σ9 E9 hx9 => hX σ9 E9 _ _ _ (tb_out K.2.2.2.2.2 rfl) hx9.1 hx9.2.1 hx9.2.2)
  obtain ⟨r43, rfl, h, hGσ42, hS⟩ := hq
  intro H locs ls hH hl hc
  refine W.eq (g2 := F0 m 58 ls [.long r43]) (rfl) ?_
  try dsimp only at h
  refine lv_lconst (v := 1) B.1 B.2.1 dX16_takeSpans_58 (by decide) ?_
  refine lv_ladd B.1 B.2.1 dX16_takeSpans_59 ?_
  refine lv_lstore (lv' := [(12, .long (r43 + 1)), (10, .long (gJ σ (jx a41 9) v2.toNat)), (8, .long (gJ σ (jx a40 8) v2.toNat)), (6, .long (gJ σ (ra 81) (gI σ (jx a39 10) v2.toNat).toNat)), (0, .ref rm), (1, .int (i32 v1)), (2, .int (i32 v2)), (3, .long v3), (5, .int (i32 v5))]) B.1 B.2.1 dX16_takeSpans_60 hl (by decide) rfl (fun ls hl => ?_)
  obtain ⟨n9, h⟩ := h
  exact al_X16_takeSpans_62 K hQ hX n9 _ _ _ _ _ _ _ _ g1 g2 g5 h hGσ42 hS _ _ _ hH (lv_sub (l' := [(0, .ref rm), (1, .int (i32 v1)), (2, .int (i32 v2)), (3, .long v3), (5, .int (i32 v5)), (6, .long (gJ σ (ra 81) (gI σ (jx a39 10) v2.toNat).toNat)), (10, .long (gJ σ (jx a41 9) v2.toNat)), (12, .long (r43 + 1))]) hl [4, 5, 6, 7, 8, 3, 1, 0] rfl) hc
set_option maxRecDepth 20000 in
theorem a_X16_takeSpans_10 {Q : Sg → Unit → Prop} {X : Sg → String → Prop} (K : MC R p s m args c cX16_takeSpans 16 RX16 D cA tys A n0 s0 3 83 []) (hQ : HQV p l e R s m args below meth c cX16_takeSpans D cA A n0 s0 QM dm ra jx rm Q) (hX : HX p l e R s m args below meth c 16 D cA A n0 s0 QM dm ra jx rm X) : ∀ (σ : Sg), w_X16_takeSpans_10 ra jx rm Q X σ → RG σ → Shp dm ra jx rm σ → JJ p l e R s m args below meth c 16 D cA A n0 s0 QM σ 10 [(0, .ref rm)] [] := by
  intro σ h hGσ hS H locs ls hH hl hc
  have B := K.1
  unfold w_X16_takeSpans_10 at h
  exact hQ _ _ _ _ _ dX16_takeSpans_10 hH hc h hGσ hS
set_option maxRecDepth 20000 in
theorem a_X16_takeSpans_0 {Q : Sg → Unit → Prop} {X : Sg → String → Prop} (K : MC R p s m args c cX16_takeSpans 16 RX16 D cA tys A n0 s0 3 83 []) (hQ : HQV p l e R s m args below meth c cX16_takeSpans D cA A n0 s0 QM dm ra jx rm Q) (hX : HX p l e R s m args below meth c 16 D cA A n0 s0 QM dm ra jx rm X) : ∀ (σ : Sg) (v1 : Int) (v2 : Int) (v3 : Int64) (v5 : Int) (g1 : rng v1) (g2 : rng v2) (g5 : rng v5), w_X16_takeSpans_0 ra jx rm Q X σ v1 v2 v3 v5 → RG σ → Shp dm ra jx rm σ → JJ p l e R s m args below meth c 16 D cA A n0 s0 QM σ 0 [(0, .ref rm), (1, .int (i32 v1)), (2, .int (i32 v2)), (3, .long v3), (5, .int (i32 v5))] [] := by
  intro σ v1 v2 v3 v5 g1 g2 g5 h hGσ hS H locs ls hH hl hc
  have B := K.1
  unfold w_X16_takeSpans_0 at h
  refine lv_aload_n B.1 B.2.1 dX16_takeSpans_0 rfl (lv_at hl 0 rfl) ?_
  refine lv_iload_n B.1 B.2.1 dX16_takeSpans_1 rfl (lv_at hl 1 rfl) ?_
  refine lv_iload_n B.1 B.2.1 dX16_takeSpans_2 rfl (lv_at hl 2 rfl) ?_
  refine lv_lload_n B.1 B.2.1 dX16_takeSpans_3 rfl (lv_at hl 3 rfl) ?_
  refine c_V B hH hl hc K.2.2.1 (C := RX16) (T := TX16) (N := 123) (ci := 16) (As := [.int (i32 v1), .int (i32 v2), .long v3]) (ok_X16_weigh K.2.1 σ v1 v2 v3 g1 g2 hGσ hS h) wc_X16_592 3 hd_X16_weigh ⟨Nat.le_trans (Nat.le_of_ble_eq_true rfl) K.2.2.2.1, Nat.le_trans (Nat.le_of_ble_eq_true rfl) K.2.2.2.2.1⟩ hS.1.1 hS.1.2 (by decide) rfl rfl (rest := []) rfl (Nat.le_of_ble_eq_true rfl) dX16_takeSpans_4 (fun σ44 w hq => ?_) (fun σ9 E9 hx9 => hX σ9 E9 _ _ _ (tb_out K.2.2.2.2.2 rfl) hx9.1 hx9.2.1 hx9.2.2)
  obtain ⟨r45, rfl, ⟨gr45, gzr45⟩, h, hGσ44, hS⟩ := hq
  intro H locs ls hH hl hc
  refine W.eq (g2 := F0 m 7 ls [.int (i32 r45)]) (rfl) ?_
  try dsimp only at h
  refine lv_if_ne (tgt := 11) B.1 B.2.1 dX16_takeSpans_7 (by decide) (fun h9 => ?_) (fun h9 => ?_)
  · rw [if_pos (fun q => h9 ((z_eq gr45).mpr q))] at h
    exact a_X16_takeSpans_11 K hQ hX _ _ _ _ _ g1 g2 g5 h hGσ44 hS _ _ _ hH (lv_sub (l' := [(0, .ref rm), (1, .int (i32 v1)), (2, .int (i32 v2)), (3, .long v3), (5, .int (i32 v5))]) hl [0, 1, 2, 3, 4] rfl) hc
  · rw [if_neg (fun q => q ((z_eq gr45).mp h9))] at h
    exact a_X16_takeSpans_10 K hQ hX _ h hGσ44 hS _ _ _ hH (lv_sub (l' := [(0, .ref rm)]) hl [0] rfl) hc
theorem ok_X16_takeSpans (hT : Tys cA tys) {Q : Sg → Unit → Prop} {X : Sg → String → Prop} (σ : Sg) (v1 : Int) (v2 : Int) (v3 : Int64) (v5 : Int) (g1 : rng v1) (g2 : rng v2) (g5 : rng v5) (hG : RG σ) (hS : Shp dm ra jx rm σ) (h : wp_X16_takeSpans ra jx rm v1 v2 v3 v5 σ Q X) : Ok l D cA tys A yX16_takeSpans (.code yX16_takeSpans cX16_takeSpans 16 none) 3 83 [.ref rm, .int (i32 v1), .int (i32 v2), .long v3, .int (i32 v5)] σ (QnV dm ra jx rm Q) (QxR dm ra jx rm X) := by
  unfold wp_X16_takeSpans at h
  exact ok_V (plainFor_of_name (by decide)) (by exact Nat.le_of_ble_eq_true rfl) hT (fun p e R s m args below meth c K hQ hX H locs ls hH hl hc => a_X16_takeSpans_0 K hQ hX σ v1 v2 v3 v5 g1 g2 g5 h hG hS H locs ls hH (lv_sub (l' := [(0, .ref rm), (1, .int (i32 v1)), (2, .int (i32 v2)), (3, .long v3), (5, .int (i32 v5))]) hl [0, 1, 2, 3, 4] rfl) hc)
theorem dX16_takeRow_0 : decode cX16_takeRow 0 = .ok (.aload_n 0, 1) := by decide +kernel
theorem dX16_takeRow_1 : decode cX16_takeRow 1 = .ok (.getfield 380, 3) := by decide +kernel
theorem dX16_takeRow_4 : decode cX16_takeRow 4 = .ok (.iload_n 1, 1) := by decide +kernel
theorem dX16_takeRow_5 : decode cX16_takeRow 5 = .ok (.iaload, 1) := by decide +kernel
theorem dX16_takeRow_6 : decode cX16_takeRow 6 = .ok (.istore 6, 2) := by decide +kernel
theorem dX16_takeRow_8 : decode cX16_takeRow 8 = .ok (.iload_n 2, 1) := by decide +kernel
theorem dX16_takeRow_9 : decode cX16_takeRow 9 = .ok (.ifCond .ne 16, 3) := by decide +kernel
theorem dX16_takeRow_12 : decode cX16_takeRow 12 = .ok (.aload_n 0, 1) := by decide +kernel
theorem dX16_takeRow_13 : decode cX16_takeRow 13 = .ok (.getfield 356, 3) := by decide +kernel
theorem dX16_takeRow_16 : decode cX16_takeRow 16 = .ok (.getfield 216, 3) := by decide +kernel
theorem dX16_takeRow_19 : decode cX16_takeRow 19 = .ok (.iload 6, 2) := by decide +kernel
theorem dX16_takeRow_21 : decode cX16_takeRow 21 = .ok (.iaload, 1) := by decide +kernel
theorem dX16_takeRow_22 : decode cX16_takeRow 22 = .ok (.goto 13, 3) := by decide +kernel
theorem dX16_takeRow_25 : decode cX16_takeRow 25 = .ok (.aload_n 0, 1) := by decide +kernel
theorem dX16_takeRow_26 : decode cX16_takeRow 26 = .ok (.getfield 356, 3) := by decide +kernel
theorem dX16_takeRow_29 : decode cX16_takeRow 29 = .ok (.getfield 231, 3) := by decide +kernel
theorem dX16_takeRow_32 : decode cX16_takeRow 32 = .ok (.iload 6, 2) := by decide +kernel
theorem dX16_takeRow_34 : decode cX16_takeRow 34 = .ok (.iaload, 1) := by decide +kernel
theorem dX16_takeRow_35 : decode cX16_takeRow 35 = .ok (.istore 7, 2) := by decide +kernel
theorem dX16_takeRow_37 : decode cX16_takeRow 37 = .ok (.aload_n 0, 1) := by decide +kernel
theorem dX16_takeRow_38 : decode cX16_takeRow 38 = .ok (.getfield 356, 3) := by decide +kernel
theorem dX16_takeRow_41 : decode cX16_takeRow 41 = .ok (.getfield 246, 3) := by decide +kernel
theorem dX16_takeRow_44 : decode cX16_takeRow 44 = .ok (.iload 6, 2) := by decide +kernel
theorem dX16_takeRow_46 : decode cX16_takeRow 46 = .ok (.iaload, 1) := by decide +kernel
theorem dX16_takeRow_47 : decode cX16_takeRow 47 = .ok (.tableswitch 374 1 11 #[57, 129, 142, 158, 171, 184, 198, 249, 374, 374, 356], 57) := by decide +kernel
theorem dX16_takeRow_104 : decode cX16_takeRow 104 = .ok (.aload_n 0, 1) := by decide +kernel
theorem dX16_takeRow_105 : decode cX16_takeRow 105 = .ok (.aload_n 0, 1) := by decide +kernel
theorem dX16_takeRow_106 : decode cX16_takeRow 106 = .ok (.getfield 356, 3) := by decide +kernel
theorem dX16_takeRow_109 : decode cX16_takeRow 109 = .ok (.aload_n 0, 1) := by decide +kernel
theorem dX16_takeRow_110 : decode cX16_takeRow 110 = .ok (.getfield 356, 3) := by decide +kernel
theorem dX16_takeRow_113 : decode cX16_takeRow 113 = .ok (.getfield 219, 3) := by decide +kernel
theorem dX16_takeRow_116 : decode cX16_takeRow 116 = .ok (.bipush 8, 2) := by decide +kernel
theorem dX16_takeRow_118 : decode cX16_takeRow 118 = .ok (.iload 6, 2) := by decide +kernel
theorem dX16_takeRow_120 : decode cX16_takeRow 120 = .ok (.imul, 1) := by decide +kernel
theorem dX16_takeRow_121 : decode cX16_takeRow 121 = .ok (.iaload, 1) := by decide +kernel
theorem dX16_takeRow_122 : decode cX16_takeRow 122 = .ok (.lload_n 3, 1) := by decide +kernel
theorem dX16_takeRow_123 : decode cX16_takeRow 123 = .ok (.aload_n 0, 1) := by decide +kernel
theorem dX16_takeRow_124 : decode cX16_takeRow 124 = .ok (.getfield 542, 3) := by decide +kernel
theorem dX16_takeRow_127 : decode cX16_takeRow 127 = .ok (.iconst 0, 1) := by decide +kernel
theorem dX16_takeRow_128 : decode cX16_takeRow 128 = .ok (.invokevirtual 545, 3) := by decide +kernel
theorem dX16_takeRow_131 : decode cX16_takeRow 131 = .ok (.lstore 8, 2) := by decide +kernel
theorem dX16_takeRow_133 : decode cX16_takeRow 133 = .ok (.aload_n 0, 1) := by decide +kernel
theorem dX16_takeRow_134 : decode cX16_takeRow 134 = .ok (.getfield 330, 3) := by decide +kernel
theorem dX16_takeRow_137 : decode cX16_takeRow 137 = .ok (.ifCond .eq 16, 3) := by decide +kernel
theorem dX16_takeRow_140 : decode cX16_takeRow 140 = .ok (.aload_n 0, 1) := by decide +kernel
theorem dX16_takeRow_141 : decode cX16_takeRow 141 = .ok (.getfield 422, 3) := by decide +kernel
theorem dX16_takeRow_144 : decode cX16_takeRow 144 = .ok (.iload_n 1, 1) := by decide +kernel
theorem dX16_takeRow_145 : decode cX16_takeRow 145 = .ok (.dup2, 1) := by decide +kernel
theorem dX16_takeRow_146 : decode cX16_takeRow 146 = .ok (.iaload, 1) := by decide +kernel
theorem dX16_takeRow_147 : decode cX16_takeRow 147 = .ok (.iconst 1, 1) := by decide +kernel
theorem dX16_takeRow_148 : decode cX16_takeRow 148 = .ok (.iadd, 1) := by decide +kernel
theorem dX16_takeRow_149 : decode cX16_takeRow 149 = .ok (.iastore, 1) := by decide +kernel
theorem dX16_takeRow_150 : decode cX16_takeRow 150 = .ok (.goto 302, 3) := by decide +kernel
theorem dX16_takeRow_153 : decode cX16_takeRow 153 = .ok (.lload 8, 2) := by decide +kernel
theorem dX16_takeRow_155 : decode cX16_takeRow 155 = .ok (.lconst 0, 1) := by decide +kernel
theorem dX16_takeRow_156 : decode cX16_takeRow 156 = .ok (.lcmp, 1) := by decide +kernel
theorem dX16_takeRow_157 : decode cX16_takeRow 157 = .ok (.ifCond .eq 295, 3) := by decide +kernel
theorem dX16_takeRow_160 : decode cX16_takeRow 160 = .ok (.aload_n 0, 1) := by decide +kernel
theorem dX16_takeRow_161 : decode cX16_takeRow 161 = .ok (.iload_n 1, 1) := by decide +kernel
theorem dX16_takeRow_162 : decode cX16_takeRow 162 = .ok (.lload_n 3, 1) := by decide +kernel
theorem dX16_takeRow_163 : decode cX16_takeRow 163 = .ok (.aload_n 0, 1) := by decide +kernel
theorem dX16_takeRow_164 : decode cX16_takeRow 164 = .ok (.getfield 542, 3) := by decide +kernel
theorem dX16_takeRow_167 : decode cX16_takeRow 167 = .ok (.iconst 0, 1) := by decide +kernel
theorem dX16_takeRow_168 : decode cX16_takeRow 168 = .ok (.iload 5, 2) := by decide +kernel
theorem dX16_takeRow_170 : decode cX16_takeRow 170 = .ok (.invokevirtual 549, 3) := by decide +kernel
theorem dX16_takeRow_173 : decode cX16_takeRow 173 = .ok (.goto 279, 3) := by decide +kernel
theorem dX16_takeRow_176 : decode cX16_takeRow 176 = .ok (.aload_n 0, 1) := by decide +kernel
theorem dX16_takeRow_177 : decode cX16_takeRow 177 = .ok (.iload_n 1, 1) := by decide +kernel
theorem dX16_takeRow_178 : decode cX16_takeRow 178 = .ok (.iload 6, 2) := by decide +kernel
theorem dX16_takeRow_180 : decode cX16_takeRow 180 = .ok (.lload_n 3, 1) := by decide +kernel
theorem dX16_takeRow_181 : decode cX16_takeRow 181 = .ok (.iload 5, 2) := by decide +kernel
theorem dX16_takeRow_183 : decode cX16_takeRow 183 = .ok (.invokevirtual 553, 3) := by decide +kernel
theorem dX16_takeRow_186 : decode cX16_takeRow 186 = .ok (.goto 266, 3) := by decide +kernel
theorem dX16_takeRow_189 : decode cX16_takeRow 189 = .ok (.aload_n 0, 1) := by decide +kernel
theorem dX16_takeRow_190 : decode cX16_takeRow 190 = .ok (.iload_n 1, 1) := by decide +kernel
theorem dX16_takeRow_191 : decode cX16_takeRow 191 = .ok (.lload_n 3, 1) := by decide +kernel
theorem dX16_takeRow_192 : decode cX16_takeRow 192 = .ok (.aload_n 0, 1) := by decide +kernel
theorem dX16_takeRow_193 : decode cX16_takeRow 193 = .ok (.getfield 542, 3) := by decide +kernel
theorem dX16_takeRow_196 : decode cX16_takeRow 196 = .ok (.iconst 0, 1) := by decide +kernel
theorem dX16_takeRow_197 : decode cX16_takeRow 197 = .ok (.iload 5, 2) := by decide +kernel
theorem dX16_takeRow_199 : decode cX16_takeRow 199 = .ok (.invokevirtual 549, 3) := by decide +kernel
theorem dX16_takeRow_202 : decode cX16_takeRow 202 = .ok (.goto 250, 3) := by decide +kernel
theorem dX16_takeRow_205 : decode cX16_takeRow 205 = .ok (.aload_n 0, 1) := by decide +kernel
theorem dX16_takeRow_206 : decode cX16_takeRow 206 = .ok (.iload_n 1, 1) := by decide +kernel
theorem dX16_takeRow_207 : decode cX16_takeRow 207 = .ok (.iload 6, 2) := by decide +kernel
theorem dX16_takeRow_209 : decode cX16_takeRow 209 = .ok (.lload_n 3, 1) := by decide +kernel
theorem dX16_takeRow_210 : decode cX16_takeRow 210 = .ok (.iload 5, 2) := by decide +kernel
theorem dX16_takeRow_212 : decode cX16_takeRow 212 = .ok (.invokevirtual 557, 3) := by decide +kernel
theorem dX16_takeRow_215 : decode cX16_takeRow 215 = .ok (.goto 237, 3) := by decide +kernel
theorem dX16_takeRow_218 : decode cX16_takeRow 218 = .ok (.aload_n 0, 1) := by decide +kernel
theorem dX16_takeRow_219 : decode cX16_takeRow 219 = .ok (.iload_n 1, 1) := by decide +kernel
theorem dX16_takeRow_220 : decode cX16_takeRow 220 = .ok (.iload 6, 2) := by decide +kernel
theorem dX16_takeRow_222 : decode cX16_takeRow 222 = .ok (.lload_n 3, 1) := by decide +kernel
theorem dX16_takeRow_223 : decode cX16_takeRow 223 = .ok (.iload 5, 2) := by decide +kernel
theorem dX16_takeRow_225 : decode cX16_takeRow 225 = .ok (.invokevirtual 560, 3) := by decide +kernel
theorem dX16_takeRow_228 : decode cX16_takeRow 228 = .ok (.goto 224, 3) := by decide +kernel
theorem dX16_takeRow_231 : decode cX16_takeRow 231 = .ok (.aload_n 0, 1) := by decide +kernel
theorem dX16_takeRow_232 : decode cX16_takeRow 232 = .ok (.iload_n 1, 1) := by decide +kernel
theorem dX16_takeRow_233 : decode cX16_takeRow 233 = .ok (.iload 6, 2) := by decide +kernel
theorem dX16_takeRow_235 : decode cX16_takeRow 235 = .ok (.iload_n 2, 1) := by decide +kernel
theorem dX16_takeRow_236 : decode cX16_takeRow 236 = .ok (.lload_n 3, 1) := by decide +kernel
theorem dX16_takeRow_237 : decode cX16_takeRow 237 = .ok (.iload 5, 2) := by decide +kernel
theorem dX16_takeRow_239 : decode cX16_takeRow 239 = .ok (.invokevirtual 563, 3) := by decide +kernel
theorem dX16_takeRow_242 : decode cX16_takeRow 242 = .ok (.goto 210, 3) := by decide +kernel
theorem dX16_takeRow_245 : decode cX16_takeRow 245 = .ok (.aload_n 0, 1) := by decide +kernel
theorem dX16_takeRow_246 : decode cX16_takeRow 246 = .ok (.iload_n 1, 1) := by decide +kernel
theorem dX16_takeRow_247 : decode cX16_takeRow 247 = .ok (.iload_n 2, 1) := by decide +kernel
theorem dX16_takeRow_248 : decode cX16_takeRow 248 = .ok (.aload_n 0, 1) := by decide +kernel
theorem dX16_takeRow_249 : decode cX16_takeRow 249 = .ok (.getfield 542, 3) := by decide +kernel
theorem dX16_takeRow_252 : decode cX16_takeRow 252 = .ok (.iload_n 2, 1) := by decide +kernel
theorem dX16_takeRow_253 : decode cX16_takeRow 253 = .ok (.ifCond .ne 16, 3) := by decide +kernel
theorem dX16_takeRow_256 : decode cX16_takeRow 256 = .ok (.aload_n 0, 1) := by decide +kernel
theorem dX16_takeRow_257 : decode cX16_takeRow 257 = .ok (.getfield 356, 3) := by decide +kernel
theorem dX16_takeRow_260 : decode cX16_takeRow 260 = .ok (.getfield 239, 3) := by decide +kernel
theorem dX16_takeRow_263 : decode cX16_takeRow 263 = .ok (.iload 6, 2) := by decide +kernel
theorem dX16_takeRow_265 : decode cX16_takeRow 265 = .ok (.iaload, 1) := by decide +kernel
theorem dX16_takeRow_266 : decode cX16_takeRow 266 = .ok (.goto 13, 3) := by decide +kernel
theorem dX16_takeRow_269 : decode cX16_takeRow 269 = .ok (.aload_n 0, 1) := by decide +kernel
theorem dX16_takeRow_270 : decode cX16_takeRow 270 = .ok (.getfield 356, 3) := by decide +kernel
theorem dX16_takeRow_273 : decode cX16_takeRow 273 = .ok (.getfield 264, 3) := by decide +kernel
theorem dX16_takeRow_276 : decode cX16_takeRow 276 = .ok (.iload 6, 2) := by decide +kernel
theorem dX16_takeRow_278 : decode cX16_takeRow 278 = .ok (.iaload, 1) := by decide +kernel
theorem dX16_takeRow_279 : decode cX16_takeRow 279 = .ok (.laload, 1) := by decide +kernel
theorem dX16_takeRow_280 : decode cX16_takeRow 280 = .ok (.lload_n 3, 1) := by decide +kernel
theorem dX16_takeRow_281 : decode cX16_takeRow 281 = .ok (.lconst 0, 1) := by decide +kernel
theorem dX16_takeRow_282 : decode cX16_takeRow 282 = .ok (.aload_n 0, 1) := by decide +kernel
theorem dX16_takeRow_283 : decode cX16_takeRow 283 = .ok (.getfield 542, 3) := by decide +kernel
theorem dX16_takeRow_286 : decode cX16_takeRow 286 = .ok (.iconst 0, 1) := by decide +kernel
theorem dX16_takeRow_287 : decode cX16_takeRow 287 = .ok (.iload 5, 2) := by decide +kernel
theorem dX16_takeRow_289 : decode cX16_takeRow 289 = .ok (.invokevirtual 567, 3) := by decide +kernel
theorem dX16_takeRow_292 : decode cX16_takeRow 292 = .ok (.pop, 1) := by decide +kernel
theorem dX16_takeRow_293 : decode cX16_takeRow 293 = .ok (.goto 159, 3) := by decide +kernel
theorem dX16_takeRow_296 : decode cX16_takeRow 296 = .ok (.iconst 0, 1) := by decide +kernel
theorem dX16_takeRow_297 : decode cX16_takeRow 297 = .ok (.istore 10, 2) := by decide +kernel
theorem dX16_takeRow_299 : decode cX16_takeRow 299 = .ok (.iload 10, 2) := by decide +kernel
theorem dX16_takeRow_301 : decode cX16_takeRow 301 = .ok (.aload_n 0, 1) := by decide +kernel
theorem dX16_takeRow_302 : decode cX16_takeRow 302 = .ok (.getfield 356, 3) := by decide +kernel
theorem dX16_takeRow_305 : decode cX16_takeRow 305 = .ok (.getfield 222, 3) := by decide +kernel
theorem dX16_takeRow_308 : decode cX16_takeRow 308 = .ok (.iload 6, 2) := by decide +kernel
theorem dX16_takeRow_310 : decode cX16_takeRow 310 = .ok (.iaload, 1) := by decide +kernel
theorem dX16_takeRow_311 : decode cX16_takeRow 311 = .ok (.if_icmp .ge 58, 3) := by decide +kernel
theorem dX16_takeRow_314 : decode cX16_takeRow 314 = .ok (.aload_n 0, 1) := by decide +kernel
theorem dX16_takeRow_315 : decode cX16_takeRow 315 = .ok (.aload_n 0, 1) := by decide +kernel
theorem dX16_takeRow_316 : decode cX16_takeRow 316 = .ok (.getfield 356, 3) := by decide +kernel
theorem dX16_takeRow_319 : decode cX16_takeRow 319 = .ok (.aload_n 0, 1) := by decide +kernel
theorem dX16_takeRow_320 : decode cX16_takeRow 320 = .ok (.getfield 356, 3) := by decide +kernel
theorem dX16_takeRow_323 : decode cX16_takeRow 323 = .ok (.getfield 219, 3) := by decide +kernel
theorem dX16_takeRow_326 : decode cX16_takeRow 326 = .ok (.bipush 8, 2) := by decide +kernel
theorem dX16_takeRow_328 : decode cX16_takeRow 328 = .ok (.iload 6, 2) := by decide +kernel
theorem dX16_takeRow_330 : decode cX16_takeRow 330 = .ok (.imul, 1) := by decide +kernel
theorem dX16_takeRow_331 : decode cX16_takeRow 331 = .ok (.iload 10, 2) := by decide +kernel
theorem dX16_takeRow_333 : decode cX16_takeRow 333 = .ok (.iadd, 1) := by decide +kernel
theorem dX16_takeRow_334 : decode cX16_takeRow 334 = .ok (.iaload, 1) := by decide +kernel
theorem dX16_takeRow_335 : decode cX16_takeRow 335 = .ok (.lload_n 3, 1) := by decide +kernel
theorem dX16_takeRow_336 : decode cX16_takeRow 336 = .ok (.aload_n 0, 1) := by decide +kernel
theorem dX16_takeRow_337 : decode cX16_takeRow 337 = .ok (.getfield 542, 3) := by decide +kernel
theorem dX16_takeRow_340 : decode cX16_takeRow 340 = .ok (.iconst 0, 1) := by decide +kernel
theorem dX16_takeRow_341 : decode cX16_takeRow 341 = .ok (.invokevirtual 545, 3) := by decide +kernel
theorem dX16_takeRow_344 : decode cX16_takeRow 344 = .ok (.pop2, 1) := by decide +kernel
theorem dX16_takeRow_345 : decode cX16_takeRow 345 = .ok (.aload_n 0, 1) := by decide +kernel
theorem dX16_takeRow_346 : decode cX16_takeRow 346 = .ok (.getfield 330, 3) := by decide +kernel
theorem dX16_takeRow_349 : decode cX16_takeRow 349 = .ok (.ifCond .eq 14, 3) := by decide +kernel
theorem dX16_takeRow_352 : decode cX16_takeRow 352 = .ok (.aload_n 0, 1) := by decide +kernel
theorem dX16_takeRow_353 : decode cX16_takeRow 353 = .ok (.getfield 422, 3) := by decide +kernel
theorem dX16_takeRow_356 : decode cX16_takeRow 356 = .ok (.iload_n 1, 1) := by decide +kernel
theorem dX16_takeRow_357 : decode cX16_takeRow 357 = .ok (.dup2, 1) := by decide +kernel
theorem dX16_takeRow_358 : decode cX16_takeRow 358 = .ok (.iaload, 1) := by decide +kernel
theorem dX16_takeRow_359 : decode cX16_takeRow 359 = .ok (.iconst 1, 1) := by decide +kernel
theorem dX16_takeRow_360 : decode cX16_takeRow 360 = .ok (.iadd, 1) := by decide +kernel
theorem dX16_takeRow_361 : decode cX16_takeRow 361 = .ok (.iastore, 1) := by decide +kernel
theorem dX16_takeRow_362 : decode cX16_takeRow 362 = .ok (.return_, 1) := by decide +kernel
theorem dX16_takeRow_363 : decode cX16_takeRow 363 = .ok (.iinc 10 1, 3) := by decide +kernel
theorem dX16_takeRow_366 : decode cX16_takeRow 366 = .ok (.goto (-67), 3) := by decide +kernel
theorem dX16_takeRow_369 : decode cX16_takeRow 369 = .ok (.aload_n 0, 1) := by decide +kernel
theorem dX16_takeRow_370 : decode cX16_takeRow 370 = .ok (.iload_n 1, 1) := by decide +kernel
theorem dX16_takeRow_371 : decode cX16_takeRow 371 = .ok (.iconst 0, 1) := by decide +kernel
theorem dX16_takeRow_372 : decode cX16_takeRow 372 = .ok (.aload_n 0, 1) := by decide +kernel
theorem dX16_takeRow_373 : decode cX16_takeRow 373 = .ok (.getfield 542, 3) := by decide +kernel
theorem dX16_takeRow_376 : decode cX16_takeRow 376 = .ok (.aload_n 0, 1) := by decide +kernel
theorem dX16_takeRow_377 : decode cX16_takeRow 377 = .ok (.getfield 356, 3) := by decide +kernel
theorem dX16_takeRow_380 : decode cX16_takeRow 380 = .ok (.getfield 239, 3) := by decide +kernel
theorem dX16_takeRow_383 : decode cX16_takeRow 383 = .ok (.iload 6, 2) := by decide +kernel
theorem dX16_takeRow_385 : decode cX16_takeRow 385 = .ok (.iaload, 1) := by decide +kernel
theorem dX16_takeRow_386 : decode cX16_takeRow 386 = .ok (.laload, 1) := by decide +kernel
theorem dX16_takeRow_387 : decode cX16_takeRow 387 = .ok (.lload_n 3, 1) := by decide +kernel
theorem dX16_takeRow_388 : decode cX16_takeRow 388 = .ok (.lconst 0, 1) := by decide +kernel
theorem dX16_takeRow_389 : decode cX16_takeRow 389 = .ok (.aload_n 0, 1) := by decide +kernel
theorem dX16_takeRow_390 : decode cX16_takeRow 390 = .ok (.getfield 542, 3) := by decide +kernel
theorem dX16_takeRow_393 : decode cX16_takeRow 393 = .ok (.iconst 0, 1) := by decide +kernel
theorem dX16_takeRow_394 : decode cX16_takeRow 394 = .ok (.iload 5, 2) := by decide +kernel
theorem dX16_takeRow_396 : decode cX16_takeRow 396 = .ok (.invokevirtual 567, 3) := by decide +kernel
theorem dX16_takeRow_399 : decode cX16_takeRow 399 = .ok (.pop, 1) := by decide +kernel
theorem dX16_takeRow_400 : decode cX16_takeRow 400 = .ok (.goto 52, 3) := by decide +kernel
theorem dX16_takeRow_403 : decode cX16_takeRow 403 = .ok (.aload_n 0, 1) := by decide +kernel
theorem dX16_takeRow_404 : decode cX16_takeRow 404 = .ok (.aload_n 0, 1) := by decide +kernel
theorem dX16_takeRow_405 : decode cX16_takeRow 405 = .ok (.iload 6, 2) := by decide +kernel
theorem dX16_takeRow_407 : decode cX16_takeRow 407 = .ok (.invokevirtual 571, 3) := by decide +kernel
theorem dX16_takeRow_410 : decode cX16_takeRow 410 = .ok (.lload_n 3, 1) := by decide +kernel
theorem dX16_takeRow_411 : decode cX16_takeRow 411 = .ok (.iload 7, 2) := by decide +kernel
theorem dX16_takeRow_413 : decode cX16_takeRow 413 = .ok (.iload 5, 2) := by decide +kernel
theorem dX16_takeRow_415 : decode cX16_takeRow 415 = .ok (.invokevirtual 574, 3) := by decide +kernel
theorem dX16_takeRow_418 : decode cX16_takeRow 418 = .ok (.goto 34, 3) := by decide +kernel
theorem dX16_takeRow_421 : decode cX16_takeRow 421 = .ok (.aload_n 0, 1) := by decide +kernel
theorem dX16_takeRow_422 : decode cX16_takeRow 422 = .ok (.iload_n 1, 1) := by decide +kernel
theorem dX16_takeRow_423 : decode cX16_takeRow 423 = .ok (.iconst 0, 1) := by decide +kernel
theorem dX16_takeRow_424 : decode cX16_takeRow 424 = .ok (.aload_n 0, 1) := by decide +kernel
theorem dX16_takeRow_425 : decode cX16_takeRow 425 = .ok (.getfield 542, 3) := by decide +kernel
theorem dX16_takeRow_428 : decode cX16_takeRow 428 = .ok (.aload_n 0, 1) := by decide +kernel
theorem dX16_takeRow_429 : decode cX16_takeRow 429 = .ok (.getfield 356, 3) := by decide +kernel
theorem dX16_takeRow_432 : decode cX16_takeRow 432 = .ok (.getfield 239, 3) := by decide +kernel
theorem dX16_takeRow_435 : decode cX16_takeRow 435 = .ok (.iload 6, 2) := by decide +kernel
theorem dX16_takeRow_437 : decode cX16_takeRow 437 = .ok (.iaload, 1) := by decide +kernel
theorem dX16_takeRow_438 : decode cX16_takeRow 438 = .ok (.laload, 1) := by decide +kernel
theorem dX16_takeRow_439 : decode cX16_takeRow 439 = .ok (.lload_n 3, 1) := by decide +kernel
theorem dX16_takeRow_440 : decode cX16_takeRow 440 = .ok (.lconst 0, 1) := by decide +kernel
theorem dX16_takeRow_441 : decode cX16_takeRow 441 = .ok (.aload_n 0, 1) := by decide +kernel
theorem dX16_takeRow_442 : decode cX16_takeRow 442 = .ok (.getfield 542, 3) := by decide +kernel
theorem dX16_takeRow_445 : decode cX16_takeRow 445 = .ok (.iconst 0, 1) := by decide +kernel
theorem dX16_takeRow_446 : decode cX16_takeRow 446 = .ok (.iload 5, 2) := by decide +kernel
theorem dX16_takeRow_448 : decode cX16_takeRow 448 = .ok (.invokevirtual 567, 3) := by decide +kernel
theorem dX16_takeRow_451 : decode cX16_takeRow 451 = .ok (.pop, 1) := by decide +kernel
theorem dX16_takeRow_452 : decode cX16_takeRow 452 = .ok (.return_, 1) := by decide +kernel
set_option maxRecDepth 20000 in
theorem a_X16_takeRow_452 {Q : Sg → Unit → Prop} {X : Sg → String → Prop} (K : MC R p s m args c cX16_takeRow 11 RX16 D cA tys A n0 s0 4 121 []) (hQ : HQV p l e R s m args below meth c cX16_takeRow D cA A n0 s0 QM dm ra jx rm Q) (hX : HX p l e R s m args below meth c 11 D cA A n0 s0 QM dm ra jx rm X) : ∀ (σ : Sg), w_X16_takeRow_452 ra jx rm Q X σ → RG σ → Shp dm ra jx rm σ → JJ p l e R s m args below meth c 11 D cA A n0 s0 QM σ 452 [(0, .ref rm)] [] := by
  intro σ h hGσ hS H locs ls hH hl hc
  have B := K.1
  unfold w_X16_takeRow_452 at h
  exact hQ _ _ _ _ _ dX16_takeRow_452 hH hc h hGσ hS
set_option maxRecDepth 20000 in
theorem a_X16_takeRow_160 {Q : Sg → Unit → Prop} {X : Sg → String → Prop} (K : MC R p s m args c cX16_takeRow 11 RX16 D cA tys A n0 s0 4 121 []) (hQ : HQV p l e R s m args below meth c cX16_takeRow D cA A n0 s0 QM dm ra jx rm Q) (hX : HX p l e R s m args below meth c 11 D cA A n0 s0 QM dm ra jx rm X) : ∀ (σ : Sg) (v1 : Int) (v3 : Int64) (v5 : Int) (g1 : rng v1) (g5 : rng v5), w_X16_takeRow_160 ra jx rm Q X σ v1 v3 v5 → RG σ → Shp dm ra jx rm σ → JJ p l e R s m args below meth c 11 D cA A n0 s0 QM σ 160 [(0, .ref rm), (1, .int (i32 v1)), (3, .long v3), (5, .int (i32 v5))] [] := by
  intro σ v1 v3 v5 g1 g5 h hGσ hS H locs ls hH hl hc
  have B := K.1
  unfold w_X16_takeRow_160 at h
  refine lv_aload_n B.1 B.2.1 dX16_takeRow_160 rfl (lv_at hl 0 rfl) ?_
  refine lv_iload_n B.1 B.2.1 dX16_takeRow_161 rfl (lv_at hl 1 rfl) ?_
  refine lv_lload_n B.1 B.2.1 dX16_takeRow_162 rfl (lv_at hl 2 rfl) ?_
  refine lv_aload_n B.1 B.2.1 dX16_takeRow_163 rfl (lv_at hl 0 rfl) ?_
  refine r_arr B hH hS 81 (kd := 101) (n := 8) (by decide) (by decide) wf_X16_542 rfl rfl dX16_takeRow_164 ?_
  refine lv_iconst (v := i32 0) B.1 B.2.1 dX16_takeRow_167 (by decide) ?_
  refine lv_iload B.1 B.2.1 dX16_takeRow_168 (lv_at hl 3 rfl) ?_
  refine c_V B hH hl hc K.2.2.1 (C := RX16) (T := TX16) (N := 123) (ci := 16) (As := [.int (i32 v1), .long v3, va_rf (some (ra 81)), .int (i32 0), .int (i32 v5)]) (ok_X16_emit K.2.1 σ v1 v3 (some (ra 81)) 0 v5 g1 (by unfold rng; omega) g5 hGσ hS h) wc_X16_549 5 hd_X16_emit ⟨Nat.le_trans (Nat.le_of_ble_eq_true rfl) K.2.2.2.1, Nat.le_trans (Nat.le_of_ble_eq_true rfl) K.2.2.2.2.1⟩ hS.1.1 hS.1.2 (by decide) rfl rfl (rest := []) rfl (Nat.le_of_ble_eq_true rfl) dX16_takeRow_170 (fun σ63 w hq => ?_) (fun σ9 E9 hx9 => hX σ9 E9 _ _ _ (tb_out K.2.2.2.2.2 rfl) hx9.1 hx9.2.1 hx9.2.2)
  obtain ⟨rfl, h, hGσ63, hS⟩ := hq
  intro H locs ls hH hl hc
  refine W.eq (g2 := F0 m 173 ls []) (rfl) ?_
  try dsimp only at h
  refine lv_goto (tgt := 452) B.1 B.2.1 dX16_takeRow_173 (by decide) ?_
  exact a_X16_takeRow_452 K hQ hX _ h hGσ63 hS _ _ _ hH (lv_sub (l' := [(0, .ref rm)]) hl [0] rfl) hc
set_option maxRecDepth 20000 in
theorem a_X16_takeRow_153 {Q : Sg → Unit → Prop} {X : Sg → String → Prop} (K : MC R p s m args c cX16_takeRow 11 RX16 D cA tys A n0 s0 4 121 []) (hQ : HQV p l e R s m args below meth c cX16_takeRow D cA A n0 s0 QM dm ra jx rm Q) (hX : HX p l e R s m args below meth c 11 D cA A n0 s0 QM dm ra jx rm X) : ∀ (σ : Sg) (v1 : Int) (v3 : Int64) (v5 : Int) (v8 : Int64) (g1 : rng v1) (g5 : rng v5), w_X16_takeRow_153 ra jx rm Q X σ v1 v3 v5 v8 → RG σ → Shp dm ra jx rm σ → JJ p l e R s m args below meth c 11 D cA A n0 s0 QM σ 153 [(0, .ref rm), (1, .int (i32 v1)), (3, .long v3), (5, .int (i32 v5)), (8, .long v8)] [] := by
  intro σ v1 v3 v5 v8 g1 g5 h hGσ hS H locs ls hH hl hc
  have B := K.1
  unfold w_X16_takeRow_153 at h
  refine lv_lload B.1 B.2.1 dX16_takeRow_153 (lv_at hl 4 rfl) ?_
  refine lv_lconst (v := 0) B.1 B.2.1 dX16_takeRow_155 (by decide) ?_
  refine W.lcmp B.1 B.2.1 dX16_takeRow_156 ?_
  refine lv_if_eq (tgt := 452) B.1 B.2.1 dX16_takeRow_157 (by decide) (fun h9 => ?_) (fun h9 => ?_)
  · rw [if_pos ((lg_cmp_eq _ _).mp h9)] at h
    exact a_X16_takeRow_452 K hQ hX _ h hGσ hS _ _ _ hH (lv_sub (l' := [(0, .ref rm)]) hl [0] rfl) hc
  · rw [if_neg (fun q => h9 ((lg_cmp_eq _ _).mpr q))] at h
    exact a_X16_takeRow_160 K hQ hX _ _ _ _ g1 g5 h hGσ hS _ _ _ hH (lv_sub (l' := [(0, .ref rm), (1, .int (i32 v1)), (3, .long v3), (5, .int (i32 v5))]) hl [0, 1, 2, 3] rfl) hc
set_option maxRecDepth 20000 in
theorem a_X16_takeRow_140 {Q : Sg → Unit → Prop} {X : Sg → String → Prop} (K : MC R p s m args c cX16_takeRow 11 RX16 D cA tys A n0 s0 4 121 []) (hQ : HQV p l e R s m args below meth c cX16_takeRow D cA A n0 s0 QM dm ra jx rm Q) (hX : HX p l e R s m args below meth c 11 D cA A n0 s0 QM dm ra jx rm X) : ∀ (σ : Sg) (v1 : Int) (g1 : rng v1), w_X16_takeRow_140 ra jx rm Q X σ v1 → RG σ → Shp dm ra jx rm σ → JJ p l e R s m args below meth c 11 D cA A n0 s0 QM σ 140 [(0, .ref rm), (1, .int (i32 v1))] [] := by
  intro σ v1 g1 h hGσ hS H locs ls hH hl hc
  have B := K.1
  unfold w_X16_takeRow_140 at h
  refine lv_aload_n B.1 B.2.1 dX16_takeRow_140 rfl (lv_at hl 0 rfl) ?_
  refine r_arr B hH hS 42 (kd := 100) (n := 64) (by decide) (by decide) wf_X16_422 rfl rfl dX16_takeRow_141 ?_
  refine lv_iload_n B.1 B.2.1 dX16_takeRow_144 rfl (lv_at hl 1 rfl) ?_
  refine lv_dup2_11 B.1 B.2.1 dX16_takeRow_145 rfl rfl ?_
  obtain ⟨q1, h⟩ := h
  refine x_iald B K.2.1 hH (hS.ar (k := 42) (kd := 100) (n := 64) (by decide)) (by decide) q1 dX16_takeRow_146 ?_
  refine lv_iconst (v := i32 1) B.1 B.2.1 dX16_takeRow_147 (by decide) ?_
  refine lv_iadd B.1 B.2.1 dX16_takeRow_148 ?_
  rw [i32_add]
  refine W.eq (g2 := F0 m 149 ls [.int (i32 (wr ((gI σ (ra 42) v1.toNat) + 1))), .int (i32 v1), .ref (ra 42)]) (by rw [i32_wr]) ?_
  obtain ⟨q2, h⟩ := h
  obtain ⟨σ64, eσ64⟩ : ∃ z, z = pI σ (ra 42) v1.toNat (wr ((gI σ (ra 42) v1.toNat) + 1)) := ⟨_, rfl⟩
  have h := h σ64 eσ64
  refine x_iast B K.2.1 hH (hS.ar (k := 42) (kd := 100) (n := 64) (by decide)) (by decide) q2 dX16_takeRow_149 (fun H locs hH => ?_)
  have hH : Hd D cA A s (pI σ (ra 42) v1.toNat (wr ((gI σ (ra 42) v1.toNat) + 1))) H locs := hH
  rw [← eσ64] at hH
  have hGσ64 : RG σ64 := by rw [eσ64]; exact hGσ.pI (rng_wr _)
  have hS : Shp dm ra jx rm σ64 := by rw [eσ64]; exact hS
  have hc : CB n0 s0 σ64 := by rw [eσ64]; exact hc
  rw [show gc σ = gc σ64 by rw [eσ64], show gs σ = gs σ64 by rw [eσ64]]
  refine lv_goto (tgt := 452) B.1 B.2.1 dX16_takeRow_150 (by decide) ?_
  exact a_X16_takeRow_452 K hQ hX _ h hGσ64 hS _ _ _ hH (lv_sub (l' := [(0, .ref rm)]) hl [0] rfl) hc
set_option maxRecDepth 20000 in
theorem a_X16_takeRow_104 {Q : Sg → Unit → Prop} {X : Sg → String → Prop} (K : MC R p s m args c cX16_takeRow 11 RX16 D cA tys A n0 s0 4 121 []) (hQ : HQV p l e R s m args below meth c cX16_takeRow D cA A n0 s0 QM dm ra jx rm Q) (hX : HX p l e R s m args below meth c 11 D cA A n0 s0 QM dm ra jx rm X) : ∀ (σ : Sg) (v1 : Int) (v3 : Int64) (v5 : Int) (v6 : Int) (g1 : rng v1) (g5 : rng v5) (g6 : rng v6), w_X16_takeRow_104 ra jx rm Q X σ v1 v3 v5 v6 → RG σ → Shp dm ra jx rm σ → JJ p l e R s m args below meth c 11 D cA A n0 s0 QM σ 104 [(0, .ref rm), (1, .int (i32 v1)), (3, .long v3), (5, .int (i32 v5)), (6, .int (i32 v6))] [] := by
  intro σ v1 v3 v5 v6 g1 g5 g6 h hGσ hS H locs ls hH hl hc
  have B := K.1
  unfold w_X16_takeRow_104 at h
  refine lv_aload_n B.1 B.2.1 dX16_takeRow_104 rfl (lv_at hl 0 rfl) ?_
  refine lv_aload_n B.1 B.2.1 dX16_takeRow_105 rfl (lv_at hl 0 rfl) ?_
  refine r_getp B hH hS 17 (by decide) wf_X16_356 rfl rfl dX16_takeRow_106 ?_
  refine lv_aload_n B.1 B.2.1 dX16_takeRow_109 rfl (lv_at hl 0 rfl) ?_
  refine r_getp B hH hS 17 (by decide) wf_X16_356 rfl rfl dX16_takeRow_110 ?_
  obtain ⟨a65, ea65, ja65, h⟩ := h
  refine W.eq (g2 := F0 m 113 ls [.ref a65, va_rf (gP σ rm 17), .ref rm]) (by rw [ea65]; rfl) ?_
  refine n_arr B hH hS ja65 13 (kd := 100) (n := 128) (by decide) (by decide) (List.mem_of_getElem? (i := 13) rfl) rfl dX16_takeRow_113 ?_
  refine lv_bipush (v := i32 8) B.1 B.2.1 dX16_takeRow_116 (by decide) ?_
  refine lv_iload B.1 B.2.1 dX16_takeRow_118 (lv_at hl 4 rfl) ?_
  obtain ⟨q2, h⟩ := h
  refine lv_imul B.1 B.2.1 dX16_takeRow_120 ?_
  rw [i32_mul]
  obtain ⟨q3, h⟩ := h
  refine x_iald B K.2.1 hH (hS.ja ja65 (k := 13) (kd := 100) (n := 128) (by decide)) (by decide) q3 dX16_takeRow_121 ?_
  refine lv_lload_n B.1 B.2.1 dX16_takeRow_122 rfl (lv_at hl 2 rfl) ?_
  refine lv_aload_n B.1 B.2.1 dX16_takeRow_123 rfl (lv_at hl 0 rfl) ?_
  refine r_arr B hH hS 81 (kd := 101) (n := 8) (by decide) (by decide) wf_X16_542 rfl rfl dX16_takeRow_124 ?_
  refine lv_iconst (v := i32 0) B.1 B.2.1 dX16_takeRow_127 (by decide) ?_
  refine c_V B hH hl hc K.2.2.1 (C := RX16) (T := TX16) (N := 123) (ci := 16) (As := [va_rf (gP σ rm 17), .int (i32 (gI σ (jx a65 13) (8 * v6).toNat)), .long v3, va_rf (some (ra 81)), .int (i32 0)]) (ok_X16_worth K.2.1 σ (gP σ rm 17) (gI σ (jx a65 13) (8 * v6).toNat) v3 (some (ra 81)) 0 (hGσ _ _) (by unfold rng; omega) hGσ hS h) wc_X16_545 5 hd_X16_worth ⟨Nat.le_trans (Nat.le_of_ble_eq_true rfl) K.2.2.2.1, Nat.le_trans (Nat.le_of_ble_eq_true rfl) K.2.2.2.2.1⟩ hS.1.1 hS.1.2 (by decide) rfl rfl (rest := []) rfl (Nat.le_of_ble_eq_true rfl) dX16_takeRow_128 (fun σ66 w hq => ?_) (fun σ9 E9 hx9 => hX σ9 E9 _ _ _ (tb_out K.2.2.2.2.2 rfl) hx9.1 hx9.2.1 hx9.2.2)
  obtain ⟨r67, rfl, h, hGσ66, hS⟩ := hq
  intro H locs ls hH hl hc
  refine W.eq (g2 := F0 m 131 ls [.long r67]) (rfl) ?_
  try dsimp only at h
  refine lv_lstore (lv' := [(8, .long r67), (0, .ref rm), (1, .int (i32 v1)), (3, .long v3), (5, .int (i32 v5)), (6, .int (i32 v6))]) B.1 B.2.1 dX16_takeRow_131 hl (by decide) rfl (fun ls hl => ?_)
  refine lv_aload_n B.1 B.2.1 dX16_takeRow_133 rfl (lv_at hl 1 rfl) ?_
  refine r_geti B hH hS 21 (by decide) wf_X16_330 rfl rfl dX16_takeRow_134 ?_
  refine lv_if_eq (tgt := 153) B.1 B.2.1 dX16_takeRow_137 (by decide) (fun h9 => ?_) (fun h9 => ?_)
  · rw [if_pos ((z_eq (hGσ66 _ _)).mp h9)] at h
    exact a_X16_takeRow_153 K hQ hX _ _ _ _ _ g1 g5 h hGσ66 hS _ _ _ hH (lv_sub (l' := [(0, .ref rm), (1, .int (i32 v1)), (3, .long v3), (5, .int (i32 v5)), (8, .long r67)]) hl [1, 2, 3, 4, 0] rfl) hc
  · rw [if_neg (fun q => h9 ((z_eq (hGσ66 _ _)).mpr q))] at h
    exact a_X16_takeRow_140 K hQ hX _ _ g1 h hGσ66 hS _ _ _ hH (lv_sub (l' := [(0, .ref rm), (1, .int (i32 v1))]) hl [1, 2] rfl) hc
set_option maxRecDepth 20000 in
theorem a_X16_takeRow_176 {Q : Sg → Unit → Prop} {X : Sg → String → Prop} (K : MC R p s m args c cX16_takeRow 11 RX16 D cA tys A n0 s0 4 121 []) (hQ : HQV p l e R s m args below meth c cX16_takeRow D cA A n0 s0 QM dm ra jx rm Q) (hX : HX p l e R s m args below meth c 11 D cA A n0 s0 QM dm ra jx rm X) : ∀ (σ : Sg) (v1 : Int) (v3 : Int64) (v5 : Int) (v6 : Int) (g1 : rng v1) (g5 : rng v5) (g6 : rng v6), w_X16_takeRow_176 ra jx rm Q X σ v1 v3 v5 v6 → RG σ → Shp dm ra jx rm σ → JJ p l e R s m args below meth c 11 D cA A n0 s0 QM σ 176 [(0, .ref rm), (1, .int (i32 v1)), (3, .long v3), (5, .int (i32 v5)), (6, .int (i32 v6))] [] := by
  intro σ v1 v3 v5 v6 g1 g5 g6 h hGσ hS H locs ls hH hl hc
  have B := K.1
  unfold w_X16_takeRow_176 at h
  refine lv_aload_n B.1 B.2.1 dX16_takeRow_176 rfl (lv_at hl 0 rfl) ?_
  refine lv_iload_n B.1 B.2.1 dX16_takeRow_177 rfl (lv_at hl 1 rfl) ?_
  refine lv_iload B.1 B.2.1 dX16_takeRow_178 (lv_at hl 4 rfl) ?_
  refine lv_lload_n B.1 B.2.1 dX16_takeRow_180 rfl (lv_at hl 2 rfl) ?_
  refine lv_iload B.1 B.2.1 dX16_takeRow_181 (lv_at hl 3 rfl) ?_
  refine c_V B hH hl hc K.2.2.1 (C := RX16) (T := TX16) (N := 123) (ci := 16) (As := [.int (i32 v1), .int (i32 v6), .long v3, .int (i32 v5)]) (ok_X16_takeMap K.2.1 σ v1 v6 v3 v5 g1 g6 g5 hGσ hS h) wc_X16_553 4 hd_X16_takeMap ⟨Nat.le_trans (Nat.le_of_ble_eq_true rfl) K.2.2.2.1, Nat.le_trans (Nat.le_of_ble_eq_true rfl) K.2.2.2.2.1⟩ hS.1.1 hS.1.2 (by decide) rfl rfl (rest := []) rfl (Nat.le_of_ble_eq_true rfl) dX16_takeRow_183 (fun σ68 w hq => ?_) (fun σ9 E9 hx9 => hX σ9 E9 _ _ _ (tb_out K.2.2.2.2.2 rfl) hx9.1 hx9.2.1 hx9.2.2)
  obtain ⟨rfl, h, hGσ68, hS⟩ := hq
  intro H locs ls hH hl hc
  refine W.eq (g2 := F0 m 186 ls []) (rfl) ?_
  try dsimp only at h
  refine lv_goto (tgt := 452) B.1 B.2.1 dX16_takeRow_186 (by decide) ?_
  exact a_X16_takeRow_452 K hQ hX _ h hGσ68 hS _ _ _ hH (lv_sub (l' := [(0, .ref rm)]) hl [0] rfl) hc
set_option maxRecDepth 20000 in
theorem a_X16_takeRow_189 {Q : Sg → Unit → Prop} {X : Sg → String → Prop} (K : MC R p s m args c cX16_takeRow 11 RX16 D cA tys A n0 s0 4 121 []) (hQ : HQV p l e R s m args below meth c cX16_takeRow D cA A n0 s0 QM dm ra jx rm Q) (hX : HX p l e R s m args below meth c 11 D cA A n0 s0 QM dm ra jx rm X) : ∀ (σ : Sg) (v1 : Int) (v3 : Int64) (v5 : Int) (g1 : rng v1) (g5 : rng v5), w_X16_takeRow_189 ra jx rm Q X σ v1 v3 v5 → RG σ → Shp dm ra jx rm σ → JJ p l e R s m args below meth c 11 D cA A n0 s0 QM σ 189 [(0, .ref rm), (1, .int (i32 v1)), (3, .long v3), (5, .int (i32 v5))] [] := by
  intro σ v1 v3 v5 g1 g5 h hGσ hS H locs ls hH hl hc
  have B := K.1
  unfold w_X16_takeRow_189 at h
  refine lv_aload_n B.1 B.2.1 dX16_takeRow_189 rfl (lv_at hl 0 rfl) ?_
  refine lv_iload_n B.1 B.2.1 dX16_takeRow_190 rfl (lv_at hl 1 rfl) ?_
  refine lv_lload_n B.1 B.2.1 dX16_takeRow_191 rfl (lv_at hl 2 rfl) ?_
  refine lv_aload_n B.1 B.2.1 dX16_takeRow_192 rfl (lv_at hl 0 rfl) ?_
  refine r_arr B hH hS 81 (kd := 101) (n := 8) (by decide) (by decide) wf_X16_542 rfl rfl dX16_takeRow_193 ?_
  refine lv_iconst (v := i32 0) B.1 B.2.1 dX16_takeRow_196 (by decide) ?_
  refine lv_iload B.1 B.2.1 dX16_takeRow_197 (lv_at hl 3 rfl) ?_
  refine c_V B hH hl hc K.2.2.1 (C := RX16) (T := TX16) (N := 123) (ci := 16) (As := [.int (i32 v1), .long v3, va_rf (some (ra 81)), .int (i32 0), .int (i32 v5)]) (ok_X16_emit K.2.1 σ v1 v3 (some (ra 81)) 0 v5 g1 (by unfold rng; omega) g5 hGσ hS h) wc_X16_549 5 hd_X16_emit ⟨Nat.le_trans (Nat.le_of_ble_eq_true rfl) K.2.2.2.1, Nat.le_trans (Nat.le_of_ble_eq_true rfl) K.2.2.2.2.1⟩ hS.1.1 hS.1.2 (by decide) rfl rfl (rest := []) rfl (Nat.le_of_ble_eq_true rfl) dX16_takeRow_199 (fun σ69 w hq => ?_) (fun σ9 E9 hx9 => hX σ9 E9 _ _ _ (tb_out K.2.2.2.2.2 rfl) hx9.1 hx9.2.1 hx9.2.2)
  obtain ⟨rfl, h, hGσ69, hS⟩ := hq
  intro H locs ls hH hl hc
  refine W.eq (g2 := F0 m 202 ls []) (rfl) ?_
  try dsimp only at h
  refine lv_goto (tgt := 452) B.1 B.2.1 dX16_takeRow_202 (by decide) ?_
  exact a_X16_takeRow_452 K hQ hX _ h hGσ69 hS _ _ _ hH (lv_sub (l' := [(0, .ref rm)]) hl [0] rfl) hc
set_option maxRecDepth 20000 in
theorem a_X16_takeRow_205 {Q : Sg → Unit → Prop} {X : Sg → String → Prop} (K : MC R p s m args c cX16_takeRow 11 RX16 D cA tys A n0 s0 4 121 []) (hQ : HQV p l e R s m args below meth c cX16_takeRow D cA A n0 s0 QM dm ra jx rm Q) (hX : HX p l e R s m args below meth c 11 D cA A n0 s0 QM dm ra jx rm X) : ∀ (σ : Sg) (v1 : Int) (v3 : Int64) (v5 : Int) (v6 : Int) (g1 : rng v1) (g5 : rng v5) (g6 : rng v6), w_X16_takeRow_205 ra jx rm Q X σ v1 v3 v5 v6 → RG σ → Shp dm ra jx rm σ → JJ p l e R s m args below meth c 11 D cA A n0 s0 QM σ 205 [(0, .ref rm), (1, .int (i32 v1)), (3, .long v3), (5, .int (i32 v5)), (6, .int (i32 v6))] [] := by
  intro σ v1 v3 v5 v6 g1 g5 g6 h hGσ hS H locs ls hH hl hc
  have B := K.1
  unfold w_X16_takeRow_205 at h
  refine lv_aload_n B.1 B.2.1 dX16_takeRow_205 rfl (lv_at hl 0 rfl) ?_
  refine lv_iload_n B.1 B.2.1 dX16_takeRow_206 rfl (lv_at hl 1 rfl) ?_
  refine lv_iload B.1 B.2.1 dX16_takeRow_207 (lv_at hl 4 rfl) ?_
  refine lv_lload_n B.1 B.2.1 dX16_takeRow_209 rfl (lv_at hl 2 rfl) ?_
  refine lv_iload B.1 B.2.1 dX16_takeRow_210 (lv_at hl 3 rfl) ?_
  refine c_V B hH hl hc K.2.2.1 (C := RX16) (T := TX16) (N := 123) (ci := 16) (As := [.int (i32 v1), .int (i32 v6), .long v3, .int (i32 v5)]) (ok_X16_takeSpans K.2.1 σ v1 v6 v3 v5 g1 g6 g5 hGσ hS h) wc_X16_557 4 hd_X16_takeSpans ⟨Nat.le_trans (Nat.le_of_ble_eq_true rfl) K.2.2.2.1, Nat.le_trans (Nat.le_of_ble_eq_true rfl) K.2.2.2.2.1⟩ hS.1.1 hS.1.2 (by decide) rfl rfl (rest := []) rfl (Nat.le_of_ble_eq_true rfl) dX16_takeRow_212 (fun σ70 w hq => ?_) (fun σ9 E9 hx9 => hX σ9 E9 _ _ _ (tb_out K.2.2.2.2.2 rfl) hx9.1 hx9.2.1 hx9.2.2)
  obtain ⟨rfl, h, hGσ70, hS⟩ := hq
  intro H locs ls hH hl hc
  refine W.eq (g2 := F0 m 215 ls []) (rfl) ?_
  try dsimp only at h
  refine lv_goto (tgt := 452) B.1 B.2.1 dX16_takeRow_215 (by decide) ?_
  exact a_X16_takeRow_452 K hQ hX _ h hGσ70 hS _ _ _ hH (lv_sub (l' := [(0, .ref rm)]) hl [0] rfl) hc
set_option maxRecDepth 20000 in
theorem a_X16_takeRow_218 {Q : Sg → Unit → Prop} {X : Sg → String → Prop} (K : MC R p s m args c cX16_takeRow 11 RX16 D cA tys A n0 s0 4 121 []) (hQ : HQV p l e R s m args below meth c cX16_takeRow D cA A n0 s0 QM dm ra jx rm Q) (hX : HX p l e R s m args below meth c 11 D cA A n0 s0 QM dm ra jx rm X) : ∀ (σ : Sg) (v1 : Int) (v3 : Int64) (v5 : Int) (v6 : Int) (g1 : rng v1) (g5 : rng v5) (g6 : rng v6), w_X16_takeRow_218 ra jx rm Q X σ v1 v3 v5 v6 → RG σ → Shp dm ra jx rm σ → JJ p l e R s m args below meth c 11 D cA A n0 s0 QM σ 218 [(0, .ref rm), (1, .int (i32 v1)), (3, .long v3), (5, .int (i32 v5)), (6, .int (i32 v6))] [] := by
  intro σ v1 v3 v5 v6 g1 g5 g6 h hGσ hS H locs ls hH hl hc
  have B := K.1
  unfold w_X16_takeRow_218 at h
  refine lv_aload_n B.1 B.2.1 dX16_takeRow_218 rfl (lv_at hl 0 rfl) ?_
  refine lv_iload_n B.1 B.2.1 dX16_takeRow_219 rfl (lv_at hl 1 rfl) ?_
  refine lv_iload B.1 B.2.1 dX16_takeRow_220 (lv_at hl 4 rfl) ?_
  refine lv_lload_n B.1 B.2.1 dX16_takeRow_222 rfl (lv_at hl 2 rfl) ?_
  refine lv_iload B.1 B.2.1 dX16_takeRow_223 (lv_at hl 3 rfl) ?_
  refine c_V B hH hl hc K.2.2.1 (C := RX16) (T := TX16) (N := 123) (ci := 16) (As := [.int (i32 v1), .int (i32 v6), .long v3, .int (i32 v5)]) (ok_X16_takeGaps K.2.1 σ v1 v6 v3 v5 g1 g6 g5 hGσ hS h) wc_X16_560 4 hd_X16_takeGaps ⟨Nat.le_trans (Nat.le_of_ble_eq_true rfl) K.2.2.2.1, Nat.le_trans (Nat.le_of_ble_eq_true rfl) K.2.2.2.2.1⟩ hS.1.1 hS.1.2 (by decide) rfl rfl (rest := []) rfl (Nat.le_of_ble_eq_true rfl) dX16_takeRow_225 (fun σ71 w hq => ?_) (fun σ9 E9 hx9 => hX σ9 E9 _ _ _ (tb_out K.2.2.2.2.2 rfl) hx9.1 hx9.2.1 hx9.2.2)
  obtain ⟨rfl, h, hGσ71, hS⟩ := hq
  intro H locs ls hH hl hc
  refine W.eq (g2 := F0 m 228 ls []) (rfl) ?_
  try dsimp only at h
  refine lv_goto (tgt := 452) B.1 B.2.1 dX16_takeRow_228 (by decide) ?_
  exact a_X16_takeRow_452 K hQ hX _ h hGσ71 hS _ _ _ hH (lv_sub (l' := [(0, .ref rm)]) hl [0] rfl) hc
set_option maxRecDepth 20000 in
theorem a_X16_takeRow_231 {Q : Sg → Unit → Prop} {X : Sg → String → Prop} (K : MC R p s m args c cX16_takeRow 11 RX16 D cA tys A n0 s0 4 121 []) (hQ : HQV p l e R s m args below meth c cX16_takeRow D cA A n0 s0 QM dm ra jx rm Q) (hX : HX p l e R s m args below meth c 11 D cA A n0 s0 QM dm ra jx rm X) : ∀ (σ : Sg) (v1 : Int) (v2 : Int) (v3 : Int64) (v5 : Int) (v6 : Int) (g1 : rng v1) (g2 : rng v2) (g5 : rng v5) (g6 : rng v6), w_X16_takeRow_231 ra jx rm Q X σ v1 v2 v3 v5 v6 → RG σ → Shp dm ra jx rm σ → JJ p l e R s m args below meth c 11 D cA A n0 s0 QM σ 231 [(0, .ref rm), (1, .int (i32 v1)), (2, .int (i32 v2)), (3, .long v3), (5, .int (i32 v5)), (6, .int (i32 v6))] [] := by
  intro σ v1 v2 v3 v5 v6 g1 g2 g5 g6 h hGσ hS H locs ls hH hl hc
  have B := K.1
  unfold w_X16_takeRow_231 at h
  refine lv_aload_n B.1 B.2.1 dX16_takeRow_231 rfl (lv_at hl 0 rfl) ?_
  refine lv_iload_n B.1 B.2.1 dX16_takeRow_232 rfl (lv_at hl 1 rfl) ?_
  refine lv_iload B.1 B.2.1 dX16_takeRow_233 (lv_at hl 5 rfl) ?_
  refine lv_iload_n B.1 B.2.1 dX16_takeRow_235 rfl (lv_at hl 2 rfl) ?_
  refine lv_lload_n B.1 B.2.1 dX16_takeRow_236 rfl (lv_at hl 3 rfl) ?_
  refine lv_iload B.1 B.2.1 dX16_takeRow_237 (lv_at hl 4 rfl) ?_
  refine c_V B hH hl hc K.2.2.1 (C := RX16) (T := TX16) (N := 123) (ci := 16) (As := [.int (i32 v1), .int (i32 v6), .int (i32 v2), .long v3, .int (i32 v5)]) (ok_X16_takeJoin K.2.1 σ v1 v6 v2 v3 v5 g1 g6 g2 g5 hGσ hS h) wc_X16_563 5 hd_X16_takeJoin ⟨Nat.le_trans (Nat.le_of_ble_eq_true rfl) K.2.2.2.1, Nat.le_trans (Nat.le_of_ble_eq_true rfl) K.2.2.2.2.1⟩ hS.1.1 hS.1.2 (by decide) rfl rfl (rest := []) rfl (Nat.le_of_ble_eq_true rfl) dX16_takeRow_239 (fun σ72 w hq => ?_) (fun σ9 E9 hx9 => hX σ9 E9 _ _ _ (tb_out K.2.2.2.2.2 rfl) hx9.1 hx9.2.1 hx9.2.2)
  obtain ⟨rfl, h, hGσ72, hS⟩ := hq
  intro H locs ls hH hl hc
  refine W.eq (g2 := F0 m 242 ls []) (rfl) ?_
  try dsimp only at h
  refine lv_goto (tgt := 452) B.1 B.2.1 dX16_takeRow_242 (by decide) ?_
  exact a_X16_takeRow_452 K hQ hX _ h hGσ72 hS _ _ _ hH (lv_sub (l' := [(0, .ref rm)]) hl [0] rfl) hc
set_option maxRecDepth 20000 in
theorem a_X16_takeRow_279 {Q : Sg → Unit → Prop} {X : Sg → String → Prop} (K : MC R p s m args c cX16_takeRow 11 RX16 D cA tys A n0 s0 4 121 []) (hQ : HQV p l e R s m args below meth c cX16_takeRow D cA A n0 s0 QM dm ra jx rm Q) (hX : HX p l e R s m args below meth c 11 D cA A n0 s0 QM dm ra jx rm X) : ∀ (σ : Sg) (v3 : Int64) (v5 : Int) (u0 : Int) (u2 : Int) (u3 : Int) (g5 : rng v5) (gu0 : rng u0) (gu2 : rng u2) (gu3 : rng u3), w_X16_takeRow_279 ra jx rm Q X σ v3 v5 u0 u2 u3 → RG σ → Shp dm ra jx rm σ → JJ p l e R s m args below meth c 11 D cA A n0 s0 QM σ 279 [(0, .ref rm), (3, .long v3), (5, .int (i32 v5))] [.int (i32 u0), .ref (ra 81), .int (i32 u2), .int (i32 u3), .ref rm] := by
  intro σ v3 v5 u0 u2 u3 g5 gu0 gu2 gu3 h hGσ hS H locs ls hH hl hc
  have B := K.1
  unfold w_X16_takeRow_279 at h
  obtain ⟨q1, h⟩ := h
  refine x_lald B K.2.1 hH (hS.ar (k := 81) (kd := 101) (n := 8) (by decide)) (by decide) q1 dX16_takeRow_279 ?_
  refine lv_lload_n B.1 B.2.1 dX16_takeRow_280 rfl (lv_at hl 1 rfl) ?_
  refine lv_lconst (v := 0) B.1 B.2.1 dX16_takeRow_281 (by decide) ?_
  refine lv_aload_n B.1 B.2.1 dX16_takeRow_282 rfl (lv_at hl 0 rfl) ?_
  refine r_arr B hH hS 81 (kd := 101) (n := 8) (by decide) (by decide) wf_X16_542 rfl rfl dX16_takeRow_283 ?_
  refine lv_iconst (v := i32 0) B.1 B.2.1 dX16_takeRow_286 (by decide) ?_
  refine lv_iload B.1 B.2.1 dX16_takeRow_287 (lv_at hl 2 rfl) ?_
  refine c_V B hH hl hc K.2.2.1 (C := RX16) (T := TX16) (N := 123) (ci := 16) (As := [.int (i32 u3), .int (i32 u2), .long (gJ σ (ra 81) u0.toNat), .long v3, .long 0, va_rf (some (ra 81)), .int (i32 0), .int (i32 v5)]) (ok_X16_record K.2.1 σ u3 u2 (gJ σ (ra 81) u0.toNat) v3 0 (some (ra 81)) 0 v5 gu3 gu2 (by unfold rng; omega) g5 hGσ hS h) wc_X16_567 8 hd_X16_record ⟨Nat.le_trans (Nat.le_of_ble_eq_true rfl) K.2.2.2.1, Nat.le_trans (Nat.le_of_ble_eq_true rfl) K.2.2.2.2.1⟩ hS.1.1 hS.1.2 (by decide) rfl rfl (rest := []) rfl (Nat.le_of_ble_eq_true rfl) dX16_takeRow_289 (fun σ73 w hq => ?_) (fun σ9 E9 hx9 => hX σ9 E9 _ _ _ (tb_out K.2.2.2.2.2 rfl) hx9.1 hx9.2.1 hx9.2.2)
  obtain ⟨r74, rfl, gr74, h, hGσ73, hS⟩ := hq
  intro H locs ls hH hl hc
  refine W.eq (g2 := F0 m 292 ls [.int (i32 r74)]) (rfl) ?_
  try dsimp only at h
  refine lv_pop B.1 B.2.1 dX16_takeRow_292 rfl ?_
  refine lv_goto (tgt := 452) B.1 B.2.1 dX16_takeRow_293 (by decide) ?_
  exact a_X16_takeRow_452 K hQ hX _ h hGσ73 hS _ _ _ hH (lv_sub (l' := [(0, .ref rm)]) hl [0] rfl) hc
set_option maxRecDepth 20000 in
theorem a_X16_takeRow_269 {Q : Sg → Unit → Prop} {X : Sg → String → Prop} (K : MC R p s m args c cX16_takeRow 11 RX16 D cA tys A n0 s0 4 121 []) (hQ : HQV p l e R s m args below meth c cX16_takeRow D cA A n0 s0 QM dm ra jx rm Q) (hX : HX p l e R s m args below meth c 11 D cA A n0 s0 QM dm ra jx rm X) : ∀ (σ : Sg) (v3 : Int64) (v5 : Int) (v6 : Int) (u1 : Int) (u2 : Int) (g5 : rng v5) (g6 : rng v6) (gu1 : rng u1) (gu2 : rng u2), w_X16_takeRow_269 ra jx rm Q X σ v3 v5 v6 u1 u2 → RG σ → Shp dm ra jx rm σ → JJ p l e R s m args below meth c 11 D cA A n0 s0 QM σ 269 [(0, .ref rm), (3, .long v3), (5, .int (i32 v5)), (6, .int (i32 v6))] [.ref (ra 81), .int (i32 u1), .int (i32 u2), .ref rm] := by
  intro σ v3 v5 v6 u1 u2 g5 g6 gu1 gu2 h hGσ hS H locs ls hH hl hc
  have B := K.1
  unfold w_X16_takeRow_269 at h
  refine lv_aload_n B.1 B.2.1 dX16_takeRow_269 rfl (lv_at hl 0 rfl) ?_
  refine r_getp B hH hS 17 (by decide) wf_X16_356 rfl rfl dX16_takeRow_270 ?_
  obtain ⟨a75, ea75, ja75, h⟩ := h
  refine W.eq (g2 := F0 m 273 ls [.ref a75, .ref (ra 81), .int (i32 u1), .int (i32 u2), .ref rm]) (by rw [ea75]; rfl) ?_
  refine n_arr B hH hS ja75 11 (kd := 100) (n := 16) (by decide) (by decide) (List.mem_of_getElem? (i := 11) rfl) rfl dX16_takeRow_273 ?_
  refine lv_iload B.1 B.2.1 dX16_takeRow_276 (lv_at hl 3 rfl) ?_
  obtain ⟨q2, h⟩ := h
  refine x_iald B K.2.1 hH (hS.ja ja75 (k := 11) (kd := 100) (n := 16) (by decide)) (by decide) q2 dX16_takeRow_278 ?_
  exact a_X16_takeRow_279 K hQ hX _ _ _ _ _ _ g5 (hGσ _ _) gu1 gu2 h hGσ hS _ _ _ hH (lv_sub (l' := [(0, .ref rm), (3, .long v3), (5, .int (i32 v5))]) hl [0, 1, 2] rfl) hc
set_option maxRecDepth 20000 in
theorem a_X16_takeRow_256 {Q : Sg → Unit → Prop} {X : Sg → String → Prop} (K : MC R p s m args c cX16_takeRow 11 RX16 D cA tys A n0 s0 4 121 []) (hQ : HQV p l e R s m args below meth c cX16_takeRow D cA A n0 s0 QM dm ra jx rm Q) (hX : HX p l e R s m args below meth c 11 D cA A n0 s0 QM dm ra jx rm X) : ∀ (σ : Sg) (v3 : Int64) (v5 : Int) (v6 : Int) (u1 : Int) (u2 : Int) (g5 : rng v5) (g6 : rng v6) (gu1 : rng u1) (gu2 : rng u2), w_X16_takeRow_256 ra jx rm Q X σ v3 v5 v6 u1 u2 → RG σ → Shp dm ra jx rm σ → JJ p l e R s m args below meth c 11 D cA A n0 s0 QM σ 256 [(0, .ref rm), (3, .long v3), (5, .int (i32 v5)), (6, .int (i32 v6))] [.ref (ra 81), .int (i32 u1), .int (i32 u2), .ref rm] := by
  intro σ v3 v5 v6 u1 u2 g5 g6 gu1 gu2 h hGσ hS H locs ls hH hl hc
  have B := K.1
  unfold w_X16_takeRow_256 at h
  refine lv_aload_n B.1 B.2.1 dX16_takeRow_256 rfl (lv_at hl 0 rfl) ?_
  refine r_getp B hH hS 17 (by decide) wf_X16_356 rfl rfl dX16_takeRow_257 ?_
  obtain ⟨a76, ea76, ja76, h⟩ := h
  refine W.eq (g2 := F0 m 260 ls [.ref a76, .ref (ra 81), .int (i32 u1), .int (i32 u2), .ref rm]) (by rw [ea76]; rfl) ?_
  refine n_arr B hH hS ja76 10 (kd := 100) (n := 16) (by decide) (by decide) (List.mem_of_getElem? (i := 10) rfl) rfl dX16_takeRow_260 ?_
  refine lv_iload B.1 B.2.1 dX16_takeRow_263 (lv_at hl 3 rfl) ?_
  obtain ⟨q2, h⟩ := h
  refine x_iald B K.2.1 hH (hS.ja ja76 (k := 10) (kd := 100) (n := 16) (by decide)) (by decide) q2 dX16_takeRow_265 ?_
  refine lv_goto (tgt := 279) B.1 B.2.1 dX16_takeRow_266 (by decide) ?_
  exact a_X16_takeRow_279 K hQ hX _ _ _ _ _ _ g5 (hGσ _ _) gu1 gu2 h hGσ hS _ _ _ hH (lv_sub (l' := [(0, .ref rm), (3, .long v3), (5, .int (i32 v5))]) hl [0, 1, 2] rfl) hc
set_option maxRecDepth 20000 in
theorem a_X16_takeRow_245 {Q : Sg → Unit → Prop} {X : Sg → String → Prop} (K : MC R p s m args c cX16_takeRow 11 RX16 D cA tys A n0 s0 4 121 []) (hQ : HQV p l e R s m args below meth c cX16_takeRow D cA A n0 s0 QM dm ra jx rm Q) (hX : HX p l e R s m args below meth c 11 D cA A n0 s0 QM dm ra jx rm X) : ∀ (σ : Sg) (v1 : Int) (v2 : Int) (v3 : Int64) (v5 : Int) (v6 : Int) (g1 : rng v1) (g2 : rng v2) (g5 : rng v5) (g6 : rng v6), w_X16_takeRow_245 ra jx rm Q X σ v1 v2 v3 v5 v6 → RG σ → Shp dm ra jx rm σ → JJ p l e R s m args below meth c 11 D cA A n0 s0 QM σ 245 [(0, .ref rm), (1, .int (i32 v1)), (2, .int (i32 v2)), (3, .long v3), (5, .int (i32 v5)), (6, .int (i32 v6))] [] := by
  intro σ v1 v2 v3 v5 v6 g1 g2 g5 g6 h hGσ hS H locs ls hH hl hc
  have B := K.1
  unfold w_X16_takeRow_245 at h
  refine lv_aload_n B.1 B.2.1 dX16_takeRow_245 rfl (lv_at hl 0 rfl) ?_
  refine lv_iload_n B.1 B.2.1 dX16_takeRow_246 rfl (lv_at hl 1 rfl) ?_
  refine lv_iload_n B.1 B.2.1 dX16_takeRow_247 rfl (lv_at hl 2 rfl) ?_
  refine lv_aload_n B.1 B.2.1 dX16_takeRow_248 rfl (lv_at hl 0 rfl) ?_
  refine r_arr B hH hS 81 (kd := 101) (n := 8) (by decide) (by decide) wf_X16_542 rfl rfl dX16_takeRow_249 ?_
  refine lv_iload_n B.1 B.2.1 dX16_takeRow_252 rfl (lv_at hl 2 rfl) ?_
  refine lv_if_ne (tgt := 269) B.1 B.2.1 dX16_takeRow_253 (by decide) (fun h9 => ?_) (fun h9 => ?_)
  · rw [if_pos (fun q => h9 ((z_eq g2).mpr q))] at h
    exact a_X16_takeRow_269 K hQ hX _ _ _ _ _ _ g5 g6 g2 g1 h hGσ hS _ _ _ hH (lv_sub (l' := [(0, .ref rm), (3, .long v3), (5, .int (i32 v5)), (6, .int (i32 v6))]) hl [0, 3, 4, 5] rfl) hc
  · rw [if_neg (fun q => q ((z_eq g2).mp h9))] at h
    exact a_X16_takeRow_256 K hQ hX _ _ _ _ _ _ g5 g6 g2 g1 h hGσ hS _ _ _ hH (lv_sub (l' := [(0, .ref rm), (3, .long v3), (5, .int (i32 v5)), (6, .int (i32 v6))]) hl [0, 3, 4, 5] rfl) hc
set_option maxRecDepth 20000 in
theorem a_X16_takeRow_369 {Q : Sg → Unit → Prop} {X : Sg → String → Prop} (K : MC R p s m args c cX16_takeRow 11 RX16 D cA tys A n0 s0 4 121 []) (hQ : HQV p l e R s m args below meth c cX16_takeRow D cA A n0 s0 QM dm ra jx rm Q) (hX : HX p l e R s m args below meth c 11 D cA A n0 s0 QM dm ra jx rm X) : ∀ (σ : Sg) (v1 : Int) (v3 : Int64) (v5 : Int) (v6 : Int) (g1 : rng v1) (g5 : rng v5) (g6 : rng v6), w_X16_takeRow_369 ra jx rm Q X σ v1 v3 v5 v6 → RG σ → Shp dm ra jx rm σ → JJ p l e R s m args below meth c 11 D cA A n0 s0 QM σ 369 [(0, .ref rm), (1, .int (i32 v1)), (3, .long v3), (5, .int (i32 v5)), (6, .int (i32 v6))] [] := by
  intro σ v1 v3 v5 v6 g1 g5 g6 h hGσ hS H locs ls hH hl hc
  have B := K.1
  unfold w_X16_takeRow_369 at h
  refine lv_aload_n B.1 B.2.1 dX16_takeRow_369 rfl (lv_at hl 0 rfl) ?_
  refine lv_iload_n B.1 B.2.1 dX16_takeRow_370 rfl (lv_at hl 1 rfl) ?_
  refine lv_iconst (v := i32 0) B.1 B.2.1 dX16_takeRow_371 (by decide) ?_
  refine lv_aload_n B.1 B.2.1 dX16_takeRow_372 rfl (lv_at hl 0 rfl) ?_
  refine r_arr B hH hS 81 (kd := 101) (n := 8) (by decide) (by decide) wf_X16_542 rfl rfl dX16_takeRow_373 ?_
  refine lv_aload_n B.1 B.2.1 dX16_takeRow_376 rfl (lv_at hl 0 rfl) ?_
  refine r_getp B hH hS 17 (by decide) wf_X16_356 rfl rfl dX16_takeRow_377 ?_
  obtain ⟨a77, ea77, ja77, h⟩ := h
  refine W.eq (g2 := F0 m 380 ls [.ref a77, .ref (ra 81), .int (i32 0), .int (i32 v1), .ref rm]) (by rw [ea77]; rfl) ?_
  refine n_arr B hH hS ja77 10 (kd := 100) (n := 16) (by decide) (by decide) (List.mem_of_getElem? (i := 10) rfl) rfl dX16_takeRow_380 ?_
  refine lv_iload B.1 B.2.1 dX16_takeRow_383 (lv_at hl 4 rfl) ?_
  obtain ⟨q2, h⟩ := h
  refine x_iald B K.2.1 hH (hS.ja ja77 (k := 10) (kd := 100) (n := 16) (by decide)) (by decide) q2 dX16_takeRow_385 ?_
  obtain ⟨q3, h⟩ := h
  refine x_lald B K.2.1 hH (hS.ar (k := 81) (kd := 101) (n := 8) (by decide)) (by decide) q3 dX16_takeRow_386 ?_
  refine lv_lload_n B.1 B.2.1 dX16_takeRow_387 rfl (lv_at hl 2 rfl) ?_
  refine lv_lconst (v := 0) B.1 B.2.1 dX16_takeRow_388 (by decide) ?_
  refine lv_aload_n B.1 B.2.1 dX16_takeRow_389 rfl (lv_at hl 0 rfl) ?_
  refine r_arr B hH hS 81 (kd := 101) (n := 8) (by decide) (by decide) wf_X16_542 rfl rfl dX16_takeRow_390 ?_
  refine lv_iconst (v := i32 0) B.1 B.2.1 dX16_takeRow_393 (by decide) ?_
  refine lv_iload B.1 B.2.1 dX16_takeRow_394 (lv_at hl 3 rfl) ?_
  refine c_V B hH hl hc K.2.2.1 (C := RX16) (T := TX16) (N := 123) (ci := 16) (As := [.int (i32 v1), .int (i32 0), .long (gJ σ (ra 81) (gI σ (jx a77 10) v6.toNat).toNat), .long v3, .long 0, va_rf (some (ra 81)), .int (i32 0), .int (i32 v5)]) (ok_X16_record K.2.1 σ v1 0 (gJ σ (ra 81) (gI σ (jx a77 10) v6.toNat).toNat) v3 0 (some (ra 81)) 0 v5 g1 (by unfold rng; omega) (by unfold rng; omega) g5 hGσ hS h) wc_X16_567 8 hd_X16_record ⟨Nat.le_trans (Nat.le_of_ble_eq_true rfl) K.2.2.2.1, Nat.le_trans (Nat.le_of_ble_eq_true rfl) K.2.2.2.2.1⟩ hS.1.1 hS.1.2 (by decide) rfl rfl (rest := []) rfl (Nat.le_of_ble_eq_true rfl) dX16_takeRow_396 (fun σ78 w hq => ?_) (fun σ9 E9 hx9 => hX σ9 E9 _ _ _ (tb_out K.2.2.2.2.2 rfl) hx9.1 hx9.2.1 hx9.2.2)
  obtain ⟨r79, rfl, gr79, h, hGσ78, hS⟩ := hq
  intro H locs ls hH hl hc
  refine W.eq (g2 := F0 m 399 ls [.int (i32 r79)]) (rfl) ?_
  try dsimp only at h
  refine lv_pop B.1 B.2.1 dX16_takeRow_399 rfl ?_
  refine lv_goto (tgt := 452) B.1 B.2.1 dX16_takeRow_400 (by decide) ?_
  exact a_X16_takeRow_452 K hQ hX _ h hGσ78 hS _ _ _ hH (lv_sub (l' := [(0, .ref rm)]) hl [0] rfl) hc
set_option maxRecDepth 20000 in
theorem a_X16_takeRow_363 {Q : Sg → Unit → Prop} {X : Sg → String → Prop} (K : MC R p s m args c cX16_takeRow 11 RX16 D cA tys A n0 s0 4 121 []) (hQ : HQV p l e R s m args below meth c cX16_takeRow D cA A n0 s0 QM dm ra jx rm Q) (hX : HX p l e R s m args below meth c 11 D cA A n0 s0 QM dm ra jx rm X) {K299 : Sg → Int → Int64 → Int → Int → Int → Prop} (hK299 : ∀ (σ : Sg) (v1 : Int) (v3 : Int64) (v5 : Int) (v6 : Int) (v10 : Int) (g1 : rng v1) (g5 : rng v5) (g6 : rng v6) (g10 : rng v10), K299 σ v1 v3 v5 v6 v10 → RG σ → Shp dm ra jx rm σ → JJ p l e R s m args below meth c 11 D cA A n0 s0 QM σ 299 [(0, .ref rm), (1, .int (i32 v1)), (3, .long v3), (5, .int (i32 v5)), (6, .int (i32 v6)), (10, .int (i32 v10))] []) : ∀ (σ : Sg) (v1 : Int) (v3 : Int64) (v5 : Int) (v6 : Int) (v10 : Int) (g1 : rng v1) (g5 : rng v5) (g6 : rng v6) (g10 : rng v10), w_X16_takeRow_363 ra jx rm K299 Q X σ v1 v3 v5 v6 v10 → RG σ → Shp dm ra jx rm σ → JJ p l e R s m args below meth c 11 D cA A n0 s0 QM σ 363 [(0, .ref rm), (1, .int (i32 v1)), (3, .long v3), (5, .int (i32 v5)), (6, .int (i32 v6)), (10, .int (i32 v10))] [] := by
  intro σ v1 v3 v5 v6 v10 g1 g5 g6 g10 h hGσ hS H locs ls hH hl hc
  have B := K.1
  unfold w_X16_takeRow_363 at h
  obtain ⟨q1, h⟩ := h
  refine lv_iinc (k := 5) (v := i32 (v10 + 1)) (lv' := [(10, .int (i32 (v10 + 1))), (0, .ref rm), (1, .int (i32 v1)), (3, .long v3), (5, .int (i32 v5)), (6, .int (i32 v6))]) B.1 B.2.1 dX16_takeRow_363 hl rfl (i32_add _ _) (by decide) rfl (fun ls hl => ?_)
  refine lv_goto (tgt := 299) B.1 B.2.1 dX16_takeRow_366 (by decide) ?_
  exact hK299 _ _ _ _ _ _ g1 g5 g6 q1 h hGσ hS _ _ _ hH (lv_sub (l' := [(0, .ref rm), (1, .int (i32 v1)), (3, .long v3), (5, .int (i32 v5)), (6, .int (i32 v6)), (10, .int (i32 (v10 + 1)))]) hl [1, 2, 3, 4, 5, 0] rfl) hc
set_option maxRecDepth 20000 in
theorem a_X16_takeRow_352 {Q : Sg → Unit → Prop} {X : Sg → String → Prop} (K : MC R p s m args c cX16_takeRow 11 RX16 D cA tys A n0 s0 4 121 []) (hQ : HQV p l e R s m args below meth c cX16_takeRow D cA A n0 s0 QM dm ra jx rm Q) (hX : HX p l e R s m args below meth c 11 D cA A n0 s0 QM dm ra jx rm X) : ∀ (σ : Sg) (v1 : Int) (g1 : rng v1), w_X16_takeRow_352 ra jx rm Q X σ v1 → RG σ → Shp dm ra jx rm σ → JJ p l e R s m args below meth c 11 D cA A n0 s0 QM σ 352 [(0, .ref rm), (1, .int (i32 v1))] [] := by
  intro σ v1 g1 h hGσ hS H locs ls hH hl hc
  have B := K.1
  unfold w_X16_takeRow_352 at h
  refine lv_aload_n B.1 B.2.1 dX16_takeRow_352 rfl (lv_at hl 0 rfl) ?_
  refine r_arr B hH hS 42 (kd := 100) (n := 64) (by decide) (by decide) wf_X16_422 rfl rfl dX16_takeRow_353 ?_
  refine lv_iload_n B.1 B.2.1 dX16_takeRow_356 rfl (lv_at hl 1 rfl) ?_
  refine lv_dup2_11 B.1 B.2.1 dX16_takeRow_357 rfl rfl ?_
  obtain ⟨q1, h⟩ := h
  refine x_iald B K.2.1 hH (hS.ar (k := 42) (kd := 100) (n := 64) (by decide)) (by decide) q1 dX16_takeRow_358 ?_
  refine lv_iconst (v := i32 1) B.1 B.2.1 dX16_takeRow_359 (by decide) ?_
  refine lv_iadd B.1 B.2.1 dX16_takeRow_360 ?_
  rw [i32_add]
  refine W.eq (g2 := F0 m 361 ls [.int (i32 (wr ((gI σ (ra 42) v1.toNat) + 1))), .int (i32 v1), .ref (ra 42)]) (by rw [i32_wr]) ?_
  obtain ⟨q2, h⟩ := h
  obtain ⟨σ80, eσ80⟩ : ∃ z, z = pI σ (ra 42) v1.toNat (wr ((gI σ (ra 42) v1.toNat) + 1)) := ⟨_, rfl⟩
  have h := h σ80 eσ80
  refine x_iast B K.2.1 hH (hS.ar (k := 42) (kd := 100) (n := 64) (by decide)) (by decide) q2 dX16_takeRow_361 (fun H locs hH => ?_)
  have hH : Hd D cA A s (pI σ (ra 42) v1.toNat (wr ((gI σ (ra 42) v1.toNat) + 1))) H locs := hH
  rw [← eσ80] at hH
  have hGσ80 : RG σ80 := by rw [eσ80]; exact hGσ.pI (rng_wr _)
  have hS : Shp dm ra jx rm σ80 := by rw [eσ80]; exact hS
  have hc : CB n0 s0 σ80 := by rw [eσ80]; exact hc
  rw [show gc σ = gc σ80 by rw [eσ80], show gs σ = gs σ80 by rw [eσ80]]
  exact hQ _ _ _ _ _ dX16_takeRow_362 hH hc h hGσ80 hS
set_option maxRecDepth 20000 in
theorem a_X16_takeRow_314 {Q : Sg → Unit → Prop} {X : Sg → String → Prop} (K : MC R p s m args c cX16_takeRow 11 RX16 D cA tys A n0 s0 4 121 []) (hQ : HQV p l e R s m args below meth c cX16_takeRow D cA A n0 s0 QM dm ra jx rm Q) (hX : HX p l e R s m args below meth c 11 D cA A n0 s0 QM dm ra jx rm X) {K299 : Sg → Int → Int64 → Int → Int → Int → Prop} (hK299 : ∀ (σ : Sg) (v1 : Int) (v3 : Int64) (v5 : Int) (v6 : Int) (v10 : Int) (g1 : rng v1) (g5 : rng v5) (g6 : rng v6) (g10 : rng v10), K299 σ v1 v3 v5 v6 v10 → RG σ → Shp dm ra jx rm σ → JJ p l e R s m args below meth c 11 D cA A n0 s0 QM σ 299 [(0, .ref rm), (1, .int (i32 v1)), (3, .long v3), (5, .int (i32 v5)), (6, .int (i32 v6)), (10, .int (i32 v10))] []) : ∀ (σ : Sg) (v1 : Int) (v3 : Int64) (v5 : Int) (v6 : Int) (v10 : Int) (g1 : rng v1) (g5 : rng v5) (g6 : rng v6) (g10 : rng v10), w_X16_takeRow_314 ra jx rm K299 Q X σ v1 v3 v5 v6 v10 → RG σ → Shp dm ra jx rm σ → JJ p l e R s m args below meth c 11 D cA A n0 s0 QM σ 314 [(0, .ref rm), (1, .int (i32 v1)), (3, .long v3), (5, .int (i32 v5)), (6, .int (i32 v6)), (10, .int (i32 v10))] [] := by
  intro σ v1 v3 v5 v6 v10 g1 g5 g6 g10 h hGσ hS H locs ls hH hl hc
  have B := K.1
  unfold w_X16_takeRow_314 at h
  refine lv_aload_n B.1 B.2.1 dX16_takeRow_314 rfl (lv_at hl 0 rfl) ?_
  refine lv_aload_n B.1 B.2.1 dX16_takeRow_315 rfl (lv_at hl 0 rfl) ?_
  refine r_getp B hH hS 17 (by decide) wf_X16_356 rfl rfl dX16_takeRow_316 ?_
  refine lv_aload_n B.1 B.2.1 dX16_takeRow_319 rfl (lv_at hl 0 rfl) ?_
  refine r_getp B hH hS 17 (by decide) wf_X16_356 rfl rfl dX16_takeRow_320 ?_
  obtain ⟨a81, ea81, ja81, h⟩ := h
  refine W.eq (g2 := F0 m 323 ls [.ref a81, va_rf (gP σ rm 17), .ref rm]) (by rw [ea81]; rfl) ?_
  refine n_arr B hH hS ja81 13 (kd := 100) (n := 128) (by decide) (by decide) (List.mem_of_getElem? (i := 13) rfl) rfl dX16_takeRow_323 ?_
  refine lv_bipush (v := i32 8) B.1 B.2.1 dX16_takeRow_326 (by decide) ?_
  refine lv_iload B.1 B.2.1 dX16_takeRow_328 (lv_at hl 4 rfl) ?_
  obtain ⟨q2, h⟩ := h
  refine lv_imul B.1 B.2.1 dX16_takeRow_330 ?_
  rw [i32_mul]
  refine lv_iload B.1 B.2.1 dX16_takeRow_331 (lv_at hl 5 rfl) ?_
  obtain ⟨q3, h⟩ := h
  refine lv_iadd B.1 B.2.1 dX16_takeRow_333 ?_
  rw [i32_add]
  obtain ⟨q4, h⟩ := h
  refine x_iald B K.2.1 hH (hS.ja ja81 (k := 13) (kd := 100) (n := 128) (by decide)) (by decide) q4 dX16_takeRow_334 ?_
  refine lv_lload_n B.1 B.2.1 dX16_takeRow_335 rfl (lv_at hl 2 rfl) ?_
  refine lv_aload_n B.1 B.2.1 dX16_takeRow_336 rfl (lv_at hl 0 rfl) ?_
  refine r_arr B hH hS 81 (kd := 101) (n := 8) (by decide) (by decide) wf_X16_542 rfl rfl dX16_takeRow_337 ?_
  refine lv_iconst (v := i32 0) B.1 B.2.1 dX16_takeRow_340 (by decide) ?_
  refine c_V B hH hl hc K.2.2.1 (C := RX16) (T := TX16) (N := 123) (ci := 16) (As := [va_rf (gP σ rm 17), .int (i32 (gI σ (jx a81 13) ((8 * v6) + v10).toNat)), .long v3, va_rf (some (ra 81)), .int (i32 0)]) (ok_X16_worth K.2.1 σ (gP σ rm 17) (gI σ (jx a81 13) ((8 * v6) + v10).toNat) v3 (some (ra 81)) 0 (hGσ _ _) (by unfold rng; omega) hGσ hS h) wc_X16_545 5 hd_X16_worth ⟨Nat.le_trans (Nat.le_of_ble_eq_true rfl) K.2.2.2.1, Nat.le_trans (Nat.le_of_ble_eq_true rfl) K.2.2.2.2.1⟩ hS.1.1 hS.1.2 (by decide) rfl rfl (rest := []) rfl (Nat.le_of_ble_eq_true rfl) dX16_takeRow_341 (fun σ82 w hq => ?_) (fun σ9 E9 hx9 => hX σ9 E9 _ _ _ (tb_out K.2.2.2.2.2 rfl) hx9.1 hx9.2.1 hx9.2.2)
  obtain ⟨r83, rfl, h, hGσ82, hS⟩ := hq
  intro H locs ls hH hl hc
  refine W.eq (g2 := F0 m 344 ls [.long r83]) (rfl) ?_
  try dsimp only at h
  refine lv_pop2_2 B.1 B.2.1 dX16_takeRow_344 rfl ?_
  refine lv_aload_n B.1 B.2.1 dX16_takeRow_345 rfl (lv_at hl 0 rfl) ?_
  refine r_geti B hH hS 21 (by decide) wf_X16_330 rfl rfl dX16_takeRow_346 ?_
  refine lv_if_eq (tgt := 363) B.1 B.2.1 dX16_takeRow_349 (by decide) (fun h9 => ?_) (fun h9 => ?_)
  · rw [if_pos ((z_eq (hGσ82 _ _)).mp h9)] at h
    exact a_X16_takeRow_363 K hQ hX hK299 _ _ _ _ _ _ g1 g5 g6 g10 h hGσ82 hS _ _ _ hH (lv_sub (l' := [(0, .ref rm), (1, .int (i32 v1)), (3, .long v3), (5, .int (i32 v5)), (6, .int (i32 v6)), (10, .int (i32 v10))]) hl [0, 1, 2, 3, 4, 5] rfl) hc
  · rw [if_neg (fun q => h9 ((z_eq (hGσ82 _ _)).mpr q))] at h
    exact a_X16_takeRow_352 K hQ hX _ _ g1 h hGσ82 hS _ _ _ hH (lv_sub (l' := [(0, .ref rm), (1, .int (i32 v1))]) hl [0, 1] rfl) hc
set_option maxRecDepth 20000 in
theorem a_X16_takeRow_299 {Q : Sg → Unit → Prop} {X : Sg → String → Prop} (K : MC R p s m args c cX16_takeRow 11 RX16 D cA tys A n0 s0 4 121 []) (hQ : HQV p l e R s m args below meth c cX16_takeRow D cA A n0 s0 QM dm ra jx rm Q) (hX : HX p l e R s m args below meth c 11 D cA A n0 s0 QM dm ra jx rm X) {K299 : Sg → Int → Int64 → Int → Int → Int → Prop} (hK299 : ∀ (σ : Sg) (v1 : Int) (v3 : Int64) (v5 : Int) (v6 : Int) (v10 : Int) (g1 : rng v1) (g5 : rng v5) (g6 : rng v6) (g10 : rng v10), K299 σ v1 v3 v5 v6 v10 → RG σ → Shp dm ra jx rm σ → JJ p l e R s m args below meth c 11 D cA A n0 s0 QM σ 299 [(0, .ref rm), (1, .int (i32 v1)), (3, .long v3), (5, .int (i32 v5)), (6, .int (i32 v6)), (10, .int (i32 v10))] []) : ∀ (σ : Sg) (v1 : Int) (v3 : Int64) (v5 : Int) (v6 : Int) (v10 : Int) (g1 : rng v1) (g5 : rng v5) (g6 : rng v6) (g10 : rng v10), w_X16_takeRow_299 ra jx rm K299 Q X σ v1 v3 v5 v6 v10 → RG σ → Shp dm ra jx rm σ → JJ p l e R s m args below meth c 11 D cA A n0 s0 QM σ 299 [(0, .ref rm), (1, .int (i32 v1)), (3, .long v3), (5, .int (i32 v5)), (6, .int (i32 v6)), (10, .int (i32 v10))] [] := by
  intro σ v1 v3 v5 v6 v10 g1 g5 g6 g10 h hGσ hS H locs ls hH hl hc
  have B := K.1
  unfold w_X16_takeRow_299 at h
  refine lv_iload B.1 B.2.1 dX16_takeRow_299 (lv_at hl 5 rfl) ?_
  refine lv_aload_n B.1 B.2.1 dX16_takeRow_301 rfl (lv_at hl 0 rfl) ?_
  refine r_getp B hH hS 17 (by decide) wf_X16_356 rfl rfl dX16_takeRow_302 ?_
  obtain ⟨a84, ea84, ja84, h⟩ := h
  refine W.eq (g2 := F0 m 305 ls [.ref a84, .int (i32 v10)]) (by rw [ea84]; rfl) ?_
  refine n_arr B hH hS ja84 12 (kd := 100) (n := 16) (by decide) (by decide) (List.mem_of_getElem? (i := 12) rfl) rfl dX16_takeRow_305 ?_
  refine lv_iload B.1 B.2.1 dX16_takeRow_308 (lv_at hl 4 rfl) ?_
  obtain ⟨q2, h⟩ := h
  refine x_iald B K.2.1 hH (hS.ja ja84 (k := 12) (kd := 100) (n := 16) (by decide)) (by decide) q2 dX16_takeRow_310 ?_
  refine lv_icmp_ge (tgt := 369) B.1 B.2.1 dX16_takeRow_311 (by decide) (fun h9 => ?_) (fun h9 => ?_)
  · rw [if_pos ((i32_le (hGσ _ _) g10).mp h9)] at h
    exact a_X16_takeRow_369 K hQ hX _ _ _ _ _ g1 g5 g6 h hGσ hS _ _ _ hH (lv_sub (l' := [(0, .ref rm), (1, .int (i32 v1)), (3, .long v3), (5, .int (i32 v5)), (6, .int (i32 v6))]) hl [0, 1, 2, 3, 4] rfl) hc
  · rw [if_neg (fun q => h9 ((i32_le (hGσ _ _) g10).mpr q))] at h
    exact a_X16_takeRow_314 K hQ hX hK299 _ _ _ _ _ _ g1 g5 g6 g10 h hGσ hS _ _ _ hH (lv_sub (l' := [(0, .ref rm), (1, .int (i32 v1)), (3, .long v3), (5, .int (i32 v5)), (6, .int (i32 v6)), (10, .int (i32 v10))]) hl [0, 1, 2, 3, 4, 5] rfl) hc
theorem al_X16_takeRow_299 {Q : Sg → Unit → Prop} {X : Sg → String → Prop} (K : MC R p s m args c cX16_takeRow 11 RX16 D cA tys A n0 s0 4 121 []) (hQ : HQV p l e R s m args below meth c cX16_takeRow D cA A n0 s0 QM dm ra jx rm Q) (hX : HX p l e R s m args below meth c 11 D cA A n0 s0 QM dm ra jx rm X) : ∀ (n : Nat), ∀ (σ : Sg) (v1 : Int) (v3 : Int64) (v5 : Int) (v6 : Int) (v10 : Int) (g1 : rng v1) (g5 : rng v5) (g6 : rng v6) (g10 : rng v10), wl_X16_takeRow_299 ra jx rm Q X n σ v1 v3 v5 v6 v10 → RG σ → Shp dm ra jx rm σ → JJ p l e R s m args below meth c 11 D cA A n0 s0 QM σ 299 [(0, .ref rm), (1, .int (i32 v1)), (3, .long v3), (5, .int (i32 v5)), (6, .int (i32 v6)), (10, .int (i32 v10))] [] := by
  intro n
  induction n with
  | zero => intro σ v1 v3 v5 v6 v10 g1 g5 g6 g10 h; exact h.elim
  | succ n ih => exact fun σ v1 v3 v5 v6 v10 g1 g5 g6 g10 h => a_X16_takeRow_299 K hQ hX ih σ v1 v3 v5 v6 v10 g1 g5 g6 g10 h
set_option maxRecDepth 20000 in
theorem a_X16_takeRow_296 {Q : Sg → Unit → Prop} {X : Sg → String → Prop} (K : MC R p s m args c cX16_takeRow 11 RX16 D cA tys A n0 s0 4 121 []) (hQ : HQV p l e R s m args below meth c cX16_takeRow D cA A n0 s0 QM dm ra jx rm Q) (hX : HX p l e R s m args below meth c 11 D cA A n0 s0 QM dm ra jx rm X) : ∀ (σ : Sg) (v1 : Int) (v3 : Int64) (v5 : Int) (v6 : Int) (g1 : rng v1) (g5 : rng v5) (g6 : rng v6), w_X16_takeRow_296 ra jx rm Q X σ v1 v3 v5 v6 → RG σ → Shp dm ra jx rm σ → JJ p l e R s m args below meth c 11 D cA A n0 s0 QM σ 296 [(0, .ref rm), (1, .int (i32 v1)), (3, .long v3), (5, .int (i32 v5)), (6, .int (i32 v6))] [] := by
  intro σ v1 v3 v5 v6 g1 g5 g6 h hGσ hS H locs ls hH hl hc
  have B := K.1
  unfold w_X16_takeRow_296 at h
  refine lv_iconst (v := i32 0) B.1 B.2.1 dX16_takeRow_296 (by decide) ?_
  refine lv_istore (lv' := [(10, .int (i32 0)), (0, .ref rm), (1, .int (i32 v1)), (3, .long v3), (5, .int (i32 v5)), (6, .int (i32 v6))]) B.1 B.2.1 dX16_takeRow_297 hl (by decide) rfl (fun ls hl => ?_)
  obtain ⟨n9, h⟩ := h
  exact al_X16_takeRow_299 K hQ hX n9 _ _ _ _ _ _ g1 g5 g6 (by unfold rng; omega) h hGσ hS _ _ _ hH (lv_sub (l' := [(0, .ref rm), (1, .int (i32 v1)), (3, .long v3), (5, .int (i32 v5)), (6, .int (i32 v6)), (10, .int (i32 0))]) hl [1, 2, 3, 4, 5, 0] rfl) hc
set_option maxRecDepth 20000 in
theorem a_X16_takeRow_403 {Q : Sg → Unit → Prop} {X : Sg → String → Prop} (K : MC R p s m args c cX16_takeRow 11 RX16 D cA tys A n0 s0 4 121 []) (hQ : HQV p l e R s m args below meth c cX16_takeRow D cA A n0 s0 QM dm ra jx rm Q) (hX : HX p l e R s m args below meth c 11 D cA A n0 s0 QM dm ra jx rm X) : ∀ (σ : Sg) (v3 : Int64) (v5 : Int) (v6 : Int) (v7 : Int) (g5 : rng v5) (g6 : rng v6) (g7 : rng v7), w_X16_takeRow_403 ra jx rm Q X σ v3 v5 v6 v7 → RG σ → Shp dm ra jx rm σ → JJ p l e R s m args below meth c 11 D cA A n0 s0 QM σ 403 [(0, .ref rm), (3, .long v3), (5, .int (i32 v5)), (6, .int (i32 v6)), (7, .int (i32 v7))] [] := by
  intro σ v3 v5 v6 v7 g5 g6 g7 h hGσ hS H locs ls hH hl hc
  have B := K.1
  unfold w_X16_takeRow_403 at h
  refine lv_aload_n B.1 B.2.1 dX16_takeRow_403 rfl (lv_at hl 0 rfl) ?_
  refine lv_aload_n B.1 B.2.1 dX16_takeRow_404 rfl (lv_at hl 0 rfl) ?_
  refine lv_iload B.1 B.2.1 dX16_takeRow_405 (lv_at hl 3 rfl) ?_
  refine c_V B hH hl hc K.2.2.1 (C := RX16) (T := TX16) (N := 123) (ci := 16) (As := [.int (i32 v6)]) (ok_X16_outputOf K.2.1 σ v6 g6 hGσ hS h) wc_X16_571 1 hd_X16_outputOf ⟨Nat.le_trans (Nat.le_of_ble_eq_true rfl) K.2.2.2.1, Nat.le_trans (Nat.le_of_ble_eq_true rfl) K.2.2.2.2.1⟩ hS.1.1 hS.1.2 (by decide) rfl rfl (rest := [.ref rm]) rfl (Nat.le_of_ble_eq_true rfl) dX16_takeRow_407 (fun σ85 w hq => ?_) (fun σ9 E9 hx9 => hX σ9 E9 _ _ _ (tb_out K.2.2.2.2.2 rfl) hx9.1 hx9.2.1 hx9.2.2)
  obtain ⟨r86, rfl, gr86, h, hGσ85, hS⟩ := hq
  intro H locs ls hH hl hc
  refine W.eq (g2 := F0 m 410 ls [.int (i32 r86), .ref rm]) (rfl) ?_
  try dsimp only at h
  refine lv_lload_n B.1 B.2.1 dX16_takeRow_410 rfl (lv_at hl 1 rfl) ?_
  refine lv_iload B.1 B.2.1 dX16_takeRow_411 (lv_at hl 4 rfl) ?_
  refine lv_iload B.1 B.2.1 dX16_takeRow_413 (lv_at hl 2 rfl) ?_
  refine c_V B hH hl hc K.2.2.1 (C := RX16) (T := TX16) (N := 123) (ci := 16) (As := [.int (i32 r86), .long v3, .int (i32 v7), .int (i32 v5)]) (ok_X16_pend K.2.1 σ85 r86 v3 v7 v5 gr86 g7 g5 hGσ85 hS h) wc_X16_574 4 hd_X16_pend ⟨Nat.le_trans (Nat.le_of_ble_eq_true rfl) K.2.2.2.1, Nat.le_trans (Nat.le_of_ble_eq_true rfl) K.2.2.2.2.1⟩ hS.1.1 hS.1.2 (by decide) rfl rfl (rest := []) rfl (Nat.le_of_ble_eq_true rfl) dX16_takeRow_415 (fun σ87 w hq => ?_) (fun σ9 E9 hx9 => hX σ9 E9 _ _ _ (tb_out K.2.2.2.2.2 rfl) hx9.1 hx9.2.1 hx9.2.2)
  obtain ⟨rfl, h, hGσ87, hS⟩ := hq
  intro H locs ls hH hl hc
  refine W.eq (g2 := F0 m 418 ls []) (rfl) ?_
  try dsimp only at h
  refine lv_goto (tgt := 452) B.1 B.2.1 dX16_takeRow_418 (by decide) ?_
  exact a_X16_takeRow_452 K hQ hX _ h hGσ87 hS _ _ _ hH (lv_sub (l' := [(0, .ref rm)]) hl [0] rfl) hc
set_option maxRecDepth 20000 in
theorem a_X16_takeRow_421 {Q : Sg → Unit → Prop} {X : Sg → String → Prop} (K : MC R p s m args c cX16_takeRow 11 RX16 D cA tys A n0 s0 4 121 []) (hQ : HQV p l e R s m args below meth c cX16_takeRow D cA A n0 s0 QM dm ra jx rm Q) (hX : HX p l e R s m args below meth c 11 D cA A n0 s0 QM dm ra jx rm X) : ∀ (σ : Sg) (v1 : Int) (v3 : Int64) (v5 : Int) (v6 : Int) (g1 : rng v1) (g5 : rng v5) (g6 : rng v6), w_X16_takeRow_421 ra jx rm Q X σ v1 v3 v5 v6 → RG σ → Shp dm ra jx rm σ → JJ p l e R s m args below meth c 11 D cA A n0 s0 QM σ 421 [(0, .ref rm), (1, .int (i32 v1)), (3, .long v3), (5, .int (i32 v5)), (6, .int (i32 v6))] [] := by
  intro σ v1 v3 v5 v6 g1 g5 g6 h hGσ hS H locs ls hH hl hc
  have B := K.1
  unfold w_X16_takeRow_421 at h
  refine lv_aload_n B.1 B.2.1 dX16_takeRow_421 rfl (lv_at hl 0 rfl) ?_
  refine lv_iload_n B.1 B.2.1 dX16_takeRow_422 rfl (lv_at hl 1 rfl) ?_
  refine lv_iconst (v := i32 0) B.1 B.2.1 dX16_takeRow_423 (by decide) ?_
  refine lv_aload_n B.1 B.2.1 dX16_takeRow_424 rfl (lv_at hl 0 rfl) ?_
  refine r_arr B hH hS 81 (kd := 101) (n := 8) (by decide) (by decide) wf_X16_542 rfl rfl dX16_takeRow_425 ?_
  refine lv_aload_n B.1 B.2.1 dX16_takeRow_428 rfl (lv_at hl 0 rfl) ?_
  refine r_getp B hH hS 17 (by decide) wf_X16_356 rfl rfl dX16_takeRow_429 ?_
  obtain ⟨a88, ea88, ja88, h⟩ := h
  refine W.eq (g2 := F0 m 432 ls [.ref a88, .ref (ra 81), .int (i32 0), .int (i32 v1), .ref rm]) (by rw [ea88]; rfl) ?_
  refine n_arr B hH hS ja88 10 (kd := 100) (n := 16) (by decide) (by decide) (List.mem_of_getElem? (i := 10) rfl) rfl dX16_takeRow_432 ?_
  refine lv_iload B.1 B.2.1 dX16_takeRow_435 (lv_at hl 4 rfl) ?_
  obtain ⟨q2, h⟩ := h
  refine x_iald B K.2.1 hH (hS.ja ja88 (k := 10) (kd := 100) (n := 16) (by decide)) (by decide) q2 dX16_takeRow_437 ?_
  obtain ⟨q3, h⟩ := h
  refine x_lald B K.2.1 hH (hS.ar (k := 81) (kd := 101) (n := 8) (by decide)) (by decide) q3 dX16_takeRow_438 ?_
  refine lv_lload_n B.1 B.2.1 dX16_takeRow_439 rfl (lv_at hl 2 rfl) ?_
  refine lv_lconst (v := 0) B.1 B.2.1 dX16_takeRow_440 (by decide) ?_
  refine lv_aload_n B.1 B.2.1 dX16_takeRow_441 rfl (lv_at hl 0 rfl) ?_
  refine r_arr B hH hS 81 (kd := 101) (n := 8) (by decide) (by decide) wf_X16_542 rfl rfl dX16_takeRow_442 ?_
  refine lv_iconst (v := i32 0) B.1 B.2.1 dX16_takeRow_445 (by decide) ?_
  refine lv_iload B.1 B.2.1 dX16_takeRow_446 (lv_at hl 3 rfl) ?_
  refine c_V B hH hl hc K.2.2.1 (C := RX16) (T := TX16) (N := 123) (ci := 16) (As := [.int (i32 v1), .int (i32 0), .long (gJ σ (ra 81) (gI σ (jx a88 10) v6.toNat).toNat), .long v3, .long 0, va_rf (some (ra 81)), .int (i32 0), .int (i32 v5)]) (ok_X16_record K.2.1 σ v1 0 (gJ σ (ra 81) (gI σ (jx a88 10) v6.toNat).toNat) v3 0 (some (ra 81)) 0 v5 g1 (by unfold rng; omega) (by unfold rng; omega) g5 hGσ hS h) wc_X16_567 8 hd_X16_record ⟨Nat.le_trans (Nat.le_of_ble_eq_true rfl) K.2.2.2.1, Nat.le_trans (Nat.le_of_ble_eq_true rfl) K.2.2.2.2.1⟩ hS.1.1 hS.1.2 (by decide) rfl rfl (rest := []) rfl (Nat.le_of_ble_eq_true rfl) dX16_takeRow_448 (fun σ89 w hq => ?_) (fun σ9 E9 hx9 => hX σ9 E9 _ _ _ (tb_out K.2.2.2.2.2 rfl) hx9.1 hx9.2.1 hx9.2.2)
  obtain ⟨r90, rfl, gr90, h, hGσ89, hS⟩ := hq
  intro H locs ls hH hl hc
  refine W.eq (g2 := F0 m 451 ls [.int (i32 r90)]) (rfl) ?_
  try dsimp only at h
  refine lv_pop B.1 B.2.1 dX16_takeRow_451 rfl ?_
  exact a_X16_takeRow_452 K hQ hX _ h hGσ89 hS _ _ _ hH (lv_sub (l' := [(0, .ref rm)]) hl [0] rfl) hc
set_option maxRecDepth 20000 in
theorem a_X16_takeRow_35 {Q : Sg → Unit → Prop} {X : Sg → String → Prop} (K : MC R p s m args c cX16_takeRow 11 RX16 D cA tys A n0 s0 4 121 []) (hQ : HQV p l e R s m args below meth c cX16_takeRow D cA A n0 s0 QM dm ra jx rm Q) (hX : HX p l e R s m args below meth c 11 D cA A n0 s0 QM dm ra jx rm X) : ∀ (σ : Sg) (v1 : Int) (v2 : Int) (v3 : Int64) (v5 : Int) (v6 : Int) (u0 : Int) (g1 : rng v1) (g2 : rng v2) (g5 : rng v5) (g6 : rng v6) (gu0 : rng u0), w_X16_takeRow_35 ra jx rm Q X σ v1 v2 v3 v5 v6 u0 → RG σ → Shp dm ra jx rm σ → JJ p l e R s m args below meth c 11 D cA A n0 s0 QM σ 35 [(0, .ref rm), (1, .int (i32 v1)), (2, .int (i32 v2)), (3, .long v3), (5, .int (i32 v5)), (6, .int (i32 v6))] [.int (i32 u0)] := by
  intro σ v1 v2 v3 v5 v6 u0 g1 g2 g5 g6 gu0 h hGσ hS H locs ls hH hl hc
  have B := K.1
  unfold w_X16_takeRow_35 at h
  refine lv_istore (lv' := [(7, .int (i32 u0)), (0, .ref rm), (1, .int (i32 v1)), (2, .int (i32 v2)), (3, .long v3), (5, .int (i32 v5)), (6, .int (i32 v6))]) B.1 B.2.1 dX16_takeRow_35 hl (by decide) rfl (fun ls hl => ?_)
  refine lv_aload_n B.1 B.2.1 dX16_takeRow_37 rfl (lv_at hl 1 rfl) ?_
  refine r_getp B hH hS 17 (by decide) wf_X16_356 rfl rfl dX16_takeRow_38 ?_
  obtain ⟨a91, ea91, ja91, h⟩ := h
  refine W.eq (g2 := F0 m 41 ls [.ref a91]) (by rw [ea91]; rfl) ?_
  refine n_arr B hH hS ja91 2 (kd := 100) (n := 16) (by decide) (by decide) (List.mem_of_getElem? (i := 2) rfl) rfl dX16_takeRow_41 ?_
  refine lv_iload B.1 B.2.1 dX16_takeRow_44 (lv_at hl 6 rfl) ?_
  obtain ⟨q2, h⟩ := h
  refine x_iald B K.2.1 hH (hS.ja ja91 (k := 2) (kd := 100) (n := 16) (by decide)) (by decide) q2 dX16_takeRow_46 ?_
  rcases Classical.em ((gI σ (jx a91 2) v6.toNat) = 1) with e9 | e9
  · rw [if_pos e9] at h
    refine lv_tableIn (off := 57) (tgt := 104) B.1 B.2.1 dX16_takeRow_47 (by rw [i32_toInt (hGσ _ _), e9]; decide) (by rw [i32_toInt (hGσ _ _), e9]; decide) (by rw [i32_toInt (hGσ _ _), e9]; rfl) (by decide) ?_
    exact a_X16_takeRow_104 K hQ hX _ _ _ _ _ g1 g5 g6 h hGσ hS _ _ _ hH (lv_sub (l' := [(0, .ref rm), (1, .int (i32 v1)), (3, .long v3), (5, .int (i32 v5)), (6, .int (i32 v6))]) hl [1, 2, 4, 5, 6] rfl) hc
  rw [if_neg e9] at h
  have k3 := e9
  rcases Classical.em ((gI σ (jx a91 2) v6.toNat) = 2) with e9 | e9
  · rw [if_pos e9] at h
    refine lv_tableIn (off := 129) (tgt := 176) B.1 B.2.1 dX16_takeRow_47 (by rw [i32_toInt (hGσ _ _), e9]; decide) (by rw [i32_toInt (hGσ _ _), e9]; decide) (by rw [i32_toInt (hGσ _ _), e9]; rfl) (by decide) ?_
    exact a_X16_takeRow_176 K hQ hX _ _ _ _ _ g1 g5 g6 h hGσ hS _ _ _ hH (lv_sub (l' := [(0, .ref rm), (1, .int (i32 v1)), (3, .long v3), (5, .int (i32 v5)), (6, .int (i32 v6))]) hl [1, 2, 4, 5, 6] rfl) hc
  rw [if_neg e9] at h
  have k4 := e9
  rcases Classical.em ((gI σ (jx a91 2) v6.toNat) = 3) with e9 | e9
  · rw [if_pos e9] at h
    refine lv_tableIn (off := 142) (tgt := 189) B.1 B.2.1 dX16_takeRow_47 (by rw [i32_toInt (hGσ _ _), e9]; decide) (by rw [i32_toInt (hGσ _ _), e9]; decide) (by rw [i32_toInt (hGσ _ _), e9]; rfl) (by decide) ?_
    exact a_X16_takeRow_189 K hQ hX _ _ _ _ g1 g5 h hGσ hS _ _ _ hH (lv_sub (l' := [(0, .ref rm), (1, .int (i32 v1)), (3, .long v3), (5, .int (i32 v5))]) hl [1, 2, 4, 5] rfl) hc
  rw [if_neg e9] at h
  have k5 := e9
  rcases Classical.em ((gI σ (jx a91 2) v6.toNat) = 4) with e9 | e9
  · rw [if_pos e9] at h
    refine lv_tableIn (off := 158) (tgt := 205) B.1 B.2.1 dX16_takeRow_47 (by rw [i32_toInt (hGσ _ _), e9]; decide) (by rw [i32_toInt (hGσ _ _), e9]; decide) (by rw [i32_toInt (hGσ _ _), e9]; rfl) (by decide) ?_
    exact a_X16_takeRow_205 K hQ hX _ _ _ _ _ g1 g5 g6 h hGσ hS _ _ _ hH (lv_sub (l' := [(0, .ref rm), (1, .int (i32 v1)), (3, .long v3), (5, .int (i32 v5)), (6, .int (i32 v6))]) hl [1, 2, 4, 5, 6] rfl) hc
  rw [if_neg e9] at h
  have k6 := e9
  rcases Classical.em ((gI σ (jx a91 2) v6.toNat) = 5) with e9 | e9
  · rw [if_pos e9] at h
    refine lv_tableIn (off := 171) (tgt := 218) B.1 B.2.1 dX16_takeRow_47 (by rw [i32_toInt (hGσ _ _), e9]; decide) (by rw [i32_toInt (hGσ _ _), e9]; decide) (by rw [i32_toInt (hGσ _ _), e9]; rfl) (by decide) ?_
    exact a_X16_takeRow_218 K hQ hX _ _ _ _ _ g1 g5 g6 h hGσ hS _ _ _ hH (lv_sub (l' := [(0, .ref rm), (1, .int (i32 v1)), (3, .long v3), (5, .int (i32 v5)), (6, .int (i32 v6))]) hl [1, 2, 4, 5, 6] rfl) hc
  rw [if_neg e9] at h
  have k7 := e9
  rcases Classical.em ((gI σ (jx a91 2) v6.toNat) = 6) with e9 | e9
  · rw [if_pos e9] at h
    refine lv_tableIn (off := 184) (tgt := 231) B.1 B.2.1 dX16_takeRow_47 (by rw [i32_toInt (hGσ _ _), e9]; decide) (by rw [i32_toInt (hGσ _ _), e9]; decide) (by rw [i32_toInt (hGσ _ _), e9]; rfl) (by decide) ?_
    exact a_X16_takeRow_231 K hQ hX _ _ _ _ _ _ g1 g2 g5 g6 h hGσ hS _ _ _ hH (lv_sub (l' := [(0, .ref rm), (1, .int (i32 v1)), (2, .int (i32 v2)), (3, .long v3), (5, .int (i32 v5)), (6, .int (i32 v6))]) hl [1, 2, 3, 4, 5, 6] rfl) hc
  rw [if_neg e9] at h
  have k8 := e9
  rcases Classical.em ((gI σ (jx a91 2) v6.toNat) = 7) with e9 | e9
  · rw [if_pos e9] at h
    refine lv_tableIn (off := 198) (tgt := 245) B.1 B.2.1 dX16_takeRow_47 (by rw [i32_toInt (hGσ _ _), e9]; decide) (by rw [i32_toInt (hGσ _ _), e9]; decide) (by rw [i32_toInt (hGσ _ _), e9]; rfl) (by decide) ?_
    exact a_X16_takeRow_245 K hQ hX _ _ _ _ _ _ g1 g2 g5 g6 h hGσ hS _ _ _ hH (lv_sub (l' := [(0, .ref rm), (1, .int (i32 v1)), (2, .int (i32 v2)), (3, .long v3), (5, .int (i32 v5)), (6, .int (i32 v6))]) hl [1, 2, 3, 4, 5, 6] rfl) hc
  rw [if_neg e9] at h
  have k9 := e9
  rcases Classical.em ((gI σ (jx a91 2) v6.toNat) = 8) with e9 | e9
  · rw [if_pos e9] at h
    refine lv_tableIn (off := 249) (tgt := 296) B.1 B.2.1 dX16_takeRow_47 (by rw [i32_toInt (hGσ _ _), e9]; decide) (by rw [i32_toInt (hGσ _ _), e9]; decide) (by rw [i32_toInt (hGσ _ _), e9]; rfl) (by decide) ?_
    exact a_X16_takeRow_296 K hQ hX _ _ _ _ _ g1 g5 g6 h hGσ hS _ _ _ hH (lv_sub (l' := [(0, .ref rm), (1, .int (i32 v1)), (3, .long v3), (5, .int (i32 v5)), (6, .int (i32 v6))]) hl [1, 2, 4, 5, 6] rfl) hc
  rw [if_neg e9] at h
  have k10 := e9
  rcases Classical.em ((gI σ (jx a91 2) v6.toNat) = 11) with e9 | e9
  · rw [if_pos e9] at h
    refine lv_tableIn (off := 356) (tgt := 403) B.1 B.2.1 dX16_takeRow_47 (by rw [i32_toInt (hGσ _ _), e9]; decide) (by rw [i32_toInt (hGσ _ _), e9]; decide) (by rw [i32_toInt (hGσ _ _), e9]; rfl) (by decide) ?_
    exact a_X16_takeRow_403 K hQ hX _ _ _ _ _ g5 g6 gu0 h hGσ hS _ _ _ hH (lv_sub (l' := [(0, .ref rm), (3, .long v3), (5, .int (i32 v5)), (6, .int (i32 v6)), (7, .int (i32 u0))]) hl [1, 4, 5, 6, 0] rfl) hc
  rw [if_neg e9] at h
  have k11 := e9
  rcases (show ((gI σ (jx a91 2) v6.toNat) < 1 ∨ 11 < (gI σ (jx a91 2) v6.toNat)) ∨ (gI σ (jx a91 2) v6.toNat) = 9 ∨ (gI σ (jx a91 2) v6.toNat) = 10 by omega) with e9 | e9 | e9
  · refine lv_tableOut (tgt := 421) B.1 B.2.1 dX16_takeRow_47 (by rw [i32_toInt (hGσ _ _)]; exact e9) (by decide) ?_
    exact a_X16_takeRow_421 K hQ hX _ _ _ _ _ g1 g5 g6 h hGσ hS _ _ _ hH (lv_sub (l' := [(0, .ref rm), (1, .int (i32 v1)), (3, .long v3), (5, .int (i32 v5)), (6, .int (i32 v6))]) hl [1, 2, 4, 5, 6] rfl) hc
  · refine lv_tableIn (off := 374) (tgt := 421) B.1 B.2.1 dX16_takeRow_47 (by rw [i32_toInt (hGσ _ _), e9]; decide) (by rw [i32_toInt (hGσ _ _), e9]; decide) (by rw [i32_toInt (hGσ _ _), e9]; rfl) (by decide) ?_
    exact a_X16_takeRow_421 K hQ hX _ _ _ _ _ g1 g5 g6 h hGσ hS _ _ _ hH (lv_sub (l' := [(0, .ref rm), (1, .int (i32 v1)), (3, .long v3), (5, .int (i32 v5)), (6, .int (i32 v6))]) hl [1, 2, 4, 5, 6] rfl) hc
  · refine lv_tableIn (off := 374) (tgt := 421) B.1 B.2.1 dX16_takeRow_47 (by rw [i32_toInt (hGσ _ _), e9]; decide) (by rw [i32_toInt (hGσ _ _), e9]; decide) (by rw [i32_toInt (hGσ _ _), e9]; rfl) (by decide) ?_
    exact a_X16_takeRow_421 K hQ hX _ _ _ _ _ g1 g5 g6 h hGσ hS _ _ _ hH (lv_sub (l' := [(0, .ref rm), (1, .int (i32 v1)), (3, .long v3), (5, .int (i32 v5)), (6, .int (i32 v6))]) hl [1, 2, 4, 5, 6] rfl) hc
set_option maxRecDepth 20000 in
theorem a_X16_takeRow_25 {Q : Sg → Unit → Prop} {X : Sg → String → Prop} (K : MC R p s m args c cX16_takeRow 11 RX16 D cA tys A n0 s0 4 121 []) (hQ : HQV p l e R s m args below meth c cX16_takeRow D cA A n0 s0 QM dm ra jx rm Q) (hX : HX p l e R s m args below meth c 11 D cA A n0 s0 QM dm ra jx rm X) : ∀ (σ : Sg) (v1 : Int) (v2 : Int) (v3 : Int64) (v5 : Int) (v6 : Int) (g1 : rng v1) (g2 : rng v2) (g5 : rng v5) (g6 : rng v6), w_X16_takeRow_25 ra jx rm Q X σ v1 v2 v3 v5 v6 → RG σ → Shp dm ra jx rm σ → JJ p l e R s m args below meth c 11 D cA A n0 s0 QM σ 25 [(0, .ref rm), (1, .int (i32 v1)), (2, .int (i32 v2)), (3, .long v3), (5, .int (i32 v5)), (6, .int (i32 v6))] [] := by
  intro σ v1 v2 v3 v5 v6 g1 g2 g5 g6 h hGσ hS H locs ls hH hl hc
  have B := K.1
  unfold w_X16_takeRow_25 at h
  refine lv_aload_n B.1 B.2.1 dX16_takeRow_25 rfl (lv_at hl 0 rfl) ?_
  refine r_getp B hH hS 17 (by decide) wf_X16_356 rfl rfl dX16_takeRow_26 ?_
  obtain ⟨a92, ea92, ja92, h⟩ := h
  refine W.eq (g2 := F0 m 29 ls [.ref a92]) (by rw [ea92]; rfl) ?_
  refine n_arr B hH hS ja92 5 (kd := 100) (n := 16) (by decide) (by decide) (List.mem_of_getElem? (i := 5) rfl) rfl dX16_takeRow_29 ?_
  refine lv_iload B.1 B.2.1 dX16_takeRow_32 (lv_at hl 5 rfl) ?_
  obtain ⟨q2, h⟩ := h
  refine x_iald B K.2.1 hH (hS.ja ja92 (k := 5) (kd := 100) (n := 16) (by decide)) (by decide) q2 dX16_takeRow_34 ?_
  exact a_X16_takeRow_35 K hQ hX _ _ _ _ _ _ _ g1 g2 g5 g6 (hGσ _ _) h hGσ hS _ _ _ hH (lv_sub (l' := [(0, .ref rm), (1, .int (i32 v1)), (2, .int (i32 v2)), (3, .long v3), (5, .int (i32 v5)), (6, .int (i32 v6))]) hl [0, 1, 2, 3, 4, 5] rfl) hc
set_option maxRecDepth 20000 in
theorem a_X16_takeRow_12 {Q : Sg → Unit → Prop} {X : Sg → String → Prop} (K : MC R p s m args c cX16_takeRow 11 RX16 D cA tys A n0 s0 4 121 []) (hQ : HQV p l e R s m args below meth c cX16_takeRow D cA A n0 s0 QM dm ra jx rm Q) (hX : HX p l e R s m args below meth c 11 D cA A n0 s0 QM dm ra jx rm X) : ∀ (σ : Sg) (v1 : Int) (v2 : Int) (v3 : Int64) (v5 : Int) (v6 : Int) (g1 : rng v1) (g2 : rng v2) (g5 : rng v5) (g6 : rng v6), w_X16_takeRow_12 ra jx rm Q X σ v1 v2 v3 v5 v6 → RG σ → Shp dm ra jx rm σ → JJ p l e R s m args below meth c 11 D cA A n0 s0 QM σ 12 [(0, .ref rm), (1, .int (i32 v1)), (2, .int (i32 v2)), (3, .long v3), (5, .int (i32 v5)), (6, .int (i32 v6))] [] := by
  intro σ v1 v2 v3 v5 v6 g1 g2 g5 g6 h hGσ hS H locs ls hH hl hc
  have B := K.1
  unfold w_X16_takeRow_12 at h
  refine lv_aload_n B.1 B.2.1 dX16_takeRow_12 rfl (lv_at hl 0 rfl) ?_
  refine r_getp B hH hS 17 (by decide) wf_X16_356 rfl rfl dX16_takeRow_13 ?_
  obtain ⟨a93, ea93, ja93, h⟩ := h
  refine W.eq (g2 := F0 m 16 ls [.ref a93]) (by rw [ea93]; rfl) ?_
  refine n_arr B hH hS ja93 4 (kd := 100) (n := 16) (by decide) (by decide) (List.mem_of_getElem? (i := 4) rfl) rfl dX16_takeRow_16 ?_
  refine lv_iload B.1 B.2.1 dX16_takeRow_19 (lv_at hl 5 rfl) ?_
  obtain ⟨q2, h⟩ := h
  refine x_iald B K.2.1 hH (hS.ja ja93 (k := 4) (kd := 100) (n := 16) (by decide)) (by decide) q2 dX16_takeRow_21 ?_
  refine lv_goto (tgt := 35) B.1 B.2.1 dX16_takeRow_22 (by decide) ?_
  exact a_X16_takeRow_35 K hQ hX _ _ _ _ _ _ _ g1 g2 g5 g6 (hGσ _ _) h hGσ hS _ _ _ hH (lv_sub (l' := [(0, .ref rm), (1, .int (i32 v1)), (2, .int (i32 v2)), (3, .long v3), (5, .int (i32 v5)), (6, .int (i32 v6))]) hl [0, 1, 2, 3, 4, 5] rfl) hc
set_option maxRecDepth 20000 in
theorem a_X16_takeRow_0 {Q : Sg → Unit → Prop} {X : Sg → String → Prop} (K : MC R p s m args c cX16_takeRow 11 RX16 D cA tys A n0 s0 4 121 []) (hQ : HQV p l e R s m args below meth c cX16_takeRow D cA A n0 s0 QM dm ra jx rm Q) (hX : HX p l e R s m args below meth c 11 D cA A n0 s0 QM dm ra jx rm X) : ∀ (σ : Sg) (v1 : Int) (v2 : Int) (v3 : Int64) (v5 : Int) (g1 : rng v1) (g2 : rng v2) (g5 : rng v5), w_X16_takeRow_0 ra jx rm Q X σ v1 v2 v3 v5 → RG σ → Shp dm ra jx rm σ → JJ p l e R s m args below meth c 11 D cA A n0 s0 QM σ 0 [(0, .ref rm), (1, .int (i32 v1)), (2, .int (i32 v2)), (3, .long v3), (5, .int (i32 v5))] [] := by
  intro σ v1 v2 v3 v5 g1 g2 g5 h hGσ hS H locs ls hH hl hc
  have B := K.1
  unfold w_X16_takeRow_0 at h
  refine lv_aload_n B.1 B.2.1 dX16_takeRow_0 rfl (lv_at hl 0 rfl) ?_
  refine r_arr B hH hS 38 (kd := 100) (n := 64) (by decide) (by decide) wf_X16_380 rfl rfl dX16_takeRow_1 ?_
  refine lv_iload_n B.1 B.2.1 dX16_takeRow_4 rfl (lv_at hl 1 rfl) ?_
  obtain ⟨q1, h⟩ := h
  refine x_iald B K.2.1 hH (hS.ar (k := 38) (kd := 100) (n := 64) (by decide)) (by decide) q1 dX16_takeRow_5 ?_
  refine lv_istore (lv' := [(6, .int (i32 (gI σ (ra 38) v1.toNat))), (0, .ref rm), (1, .int (i32 v1)), (2, .int (i32 v2)), (3, .long v3), (5, .int (i32 v5))]) B.1 B.2.1 dX16_takeRow_6 hl (by decide) rfl (fun ls hl => ?_)
  refine lv_iload_n B.1 B.2.1 dX16_takeRow_8 rfl (lv_at hl 3 rfl) ?_
  refine lv_if_ne (tgt := 25) B.1 B.2.1 dX16_takeRow_9 (by decide) (fun h9 => ?_) (fun h9 => ?_)
  · rw [if_pos (fun q => h9 ((z_eq g2).mpr q))] at h
    exact a_X16_takeRow_25 K hQ hX _ _ _ _ _ _ g1 g2 g5 (hGσ _ _) h hGσ hS _ _ _ hH (lv_sub (l' := [(0, .ref rm), (1, .int (i32 v1)), (2, .int (i32 v2)), (3, .long v3), (5, .int (i32 v5)), (6, .int (i32 (gI σ (ra 38) v1.toNat)))]) hl [1, 2, 3, 4, 5, 0] rfl) hc
  · rw [if_neg (fun q => q ((z_eq g2).mp h9))] at h
    exact a_X16_takeRow_12 K hQ hX _ _ _ _ _ _ g1 g2 g5 (hGσ _ _) h hGσ hS _ _ _ hH (lv_sub (l' := [(0, .ref rm), (1, .int (i32 v1)), (2, .int (i32 v2)), (3, .long v3), (5, .int (i32 v5)), (6, .int (i32 (gI σ (ra 38) v1.toNat)))]) hl [1, 2, 3, 4, 5, 0] rfl) hc
theorem ok_X16_takeRow (hT : Tys cA tys) {Q : Sg → Unit → Prop} {X : Sg → String → Prop} (σ : Sg) (v1 : Int) (v2 : Int) (v3 : Int64) (v5 : Int) (g1 : rng v1) (g2 : rng v2) (g5 : rng v5) (hG : RG σ) (hS : Shp dm ra jx rm σ) (h : wp_X16_takeRow ra jx rm v1 v2 v3 v5 σ Q X) : Ok l D cA tys A yX16_takeRow (.code yX16_takeRow cX16_takeRow 11 none) 4 121 [.ref rm, .int (i32 v1), .int (i32 v2), .long v3, .int (i32 v5)] σ (QnV dm ra jx rm Q) (QxR dm ra jx rm X) := by
  unfold wp_X16_takeRow at h
  exact ok_V (plainFor_of_name (by decide)) (by exact Nat.le_of_ble_eq_true rfl) hT (fun p e R s m args below meth c K hQ hX H locs ls hH hl hc => a_X16_takeRow_0 K hQ hX σ v1 v2 v3 v5 g1 g2 g5 h hG hS H locs ls hH (lv_sub (l' := [(0, .ref rm), (1, .int (i32 v1)), (2, .int (i32 v2)), (3, .long v3), (5, .int (i32 v5))]) hl [0, 1, 2, 3, 4] rfl) hc)
theorem dX16_takeWatermark_0 : decode cX16_takeWatermark 0 = .ok (.aload_n 0, 1) := by decide +kernel
theorem dX16_takeWatermark_1 : decode cX16_takeWatermark 1 = .ok (.getfield 453, 3) := by decide +kernel
theorem dX16_takeWatermark_4 : decode cX16_takeWatermark 4 = .ok (.iload_n 2, 1) := by decide +kernel
theorem dX16_takeWatermark_5 : decode cX16_takeWatermark 5 = .ok (.lload_n 3, 1) := by decide +kernel
theorem dX16_takeWatermark_6 : decode cX16_takeWatermark 6 = .ok (.lastore, 1) := by decide +kernel
theorem dX16_takeWatermark_7 : decode cX16_takeWatermark 7 = .ok (.aload_n 0, 1) := by decide +kernel
theorem dX16_takeWatermark_8 : decode cX16_takeWatermark 8 = .ok (.getfield 453, 3) := by decide +kernel
theorem dX16_takeWatermark_11 : decode cX16_takeWatermark 11 = .ok (.iload 5, 2) := by decide +kernel
theorem dX16_takeWatermark_13 : decode cX16_takeWatermark 13 = .ok (.laload, 1) := by decide +kernel
theorem dX16_takeWatermark_14 : decode cX16_takeWatermark 14 = .ok (.lstore 7, 2) := by decide +kernel
theorem dX16_takeWatermark_16 : decode cX16_takeWatermark 16 = .ok (.iload 5, 2) := by decide +kernel
theorem dX16_takeWatermark_18 : decode cX16_takeWatermark 18 = .ok (.istore 9, 2) := by decide +kernel
theorem dX16_takeWatermark_20 : decode cX16_takeWatermark 20 = .ok (.iload 9, 2) := by decide +kernel
theorem dX16_takeWatermark_22 : decode cX16_takeWatermark 22 = .ok (.iload 5, 2) := by decide +kernel
theorem dX16_takeWatermark_24 : decode cX16_takeWatermark 24 = .ok (.iload 6, 2) := by decide +kernel
theorem dX16_takeWatermark_26 : decode cX16_takeWatermark 26 = .ok (.iadd, 1) := by decide +kernel
theorem dX16_takeWatermark_27 : decode cX16_takeWatermark 27 = .ok (.if_icmp .ge 23, 3) := by decide +kernel
theorem dX16_takeWatermark_30 : decode cX16_takeWatermark 30 = .ok (.lload 7, 2) := by decide +kernel
theorem dX16_takeWatermark_32 : decode cX16_takeWatermark 32 = .ok (.aload_n 0, 1) := by decide +kernel
theorem dX16_takeWatermark_33 : decode cX16_takeWatermark 33 = .ok (.getfield 453, 3) := by decide +kernel
theorem dX16_takeWatermark_36 : decode cX16_takeWatermark 36 = .ok (.iload 9, 2) := by decide +kernel
theorem dX16_takeWatermark_38 : decode cX16_takeWatermark 38 = .ok (.laload, 1) := by decide +kernel
theorem dX16_takeWatermark_39 : decode cX16_takeWatermark 39 = .ok (.invokestatic 581, 3) := by decide +kernel
theorem dX16_takeWatermark_42 : decode cX16_takeWatermark 42 = .ok (.lstore 7, 2) := by decide +kernel
theorem dX16_takeWatermark_44 : decode cX16_takeWatermark 44 = .ok (.iinc 9 1, 3) := by decide +kernel
theorem dX16_takeWatermark_47 : decode cX16_takeWatermark 47 = .ok (.goto (-27), 3) := by decide +kernel
theorem dX16_takeWatermark_50 : decode cX16_takeWatermark 50 = .ok (.lload 7, 2) := by decide +kernel
theorem dX16_takeWatermark_52 : decode cX16_takeWatermark 52 = .ok (.aload_n 0, 1) := by decide +kernel
theorem dX16_takeWatermark_53 : decode cX16_takeWatermark 53 = .ok (.getfield 414, 3) := by decide +kernel
theorem dX16_takeWatermark_56 : decode cX16_takeWatermark 56 = .ok (.iload_n 1, 1) := by decide +kernel
theorem dX16_takeWatermark_57 : decode cX16_takeWatermark 57 = .ok (.laload, 1) := by decide +kernel
theorem dX16_takeWatermark_58 : decode cX16_takeWatermark 58 = .ok (.lcmp, 1) := by decide +kernel
theorem dX16_takeWatermark_59 : decode cX16_takeWatermark 59 = .ok (.ifCond .le 26, 3) := by decide +kernel
theorem dX16_takeWatermark_62 : decode cX16_takeWatermark 62 = .ok (.aload_n 0, 1) := by decide +kernel
theorem dX16_takeWatermark_63 : decode cX16_takeWatermark 63 = .ok (.getfield 414, 3) := by decide +kernel
theorem dX16_takeWatermark_66 : decode cX16_takeWatermark 66 = .ok (.iload_n 1, 1) := by decide +kernel
theorem dX16_takeWatermark_67 : decode cX16_takeWatermark 67 = .ok (.lload 7, 2) := by decide +kernel
theorem dX16_takeWatermark_69 : decode cX16_takeWatermark 69 = .ok (.lastore, 1) := by decide +kernel
theorem dX16_takeWatermark_70 : decode cX16_takeWatermark 70 = .ok (.aload_n 0, 1) := by decide +kernel
theorem dX16_takeWatermark_71 : decode cX16_takeWatermark 71 = .ok (.iload_n 1, 1) := by decide +kernel
theorem dX16_takeWatermark_72 : decode cX16_takeWatermark 72 = .ok (.lload 7, 2) := by decide +kernel
theorem dX16_takeWatermark_74 : decode cX16_takeWatermark 74 = .ok (.invokevirtual 804, 3) := by decide +kernel
theorem dX16_takeWatermark_77 : decode cX16_takeWatermark 77 = .ok (.aload_n 0, 1) := by decide +kernel
theorem dX16_takeWatermark_78 : decode cX16_takeWatermark 78 = .ok (.iload_n 1, 1) := by decide +kernel
theorem dX16_takeWatermark_79 : decode cX16_takeWatermark 79 = .ok (.iconst 1, 1) := by decide +kernel
theorem dX16_takeWatermark_80 : decode cX16_takeWatermark 80 = .ok (.lload 7, 2) := by decide +kernel
theorem dX16_takeWatermark_82 : decode cX16_takeWatermark 82 = .ok (.invokevirtual 760, 3) := by decide +kernel
theorem dX16_takeWatermark_85 : decode cX16_takeWatermark 85 = .ok (.return_, 1) := by decide +kernel
set_option maxRecDepth 20000 in
theorem a_X16_takeWatermark_85 {Q : Sg → Unit → Prop} {X : Sg → String → Prop} (K : MC R p s m args c cX16_takeWatermark 10 RX16 D cA tys A n0 s0 6 167 []) (hQ : HQV p l e R s m args below meth c cX16_takeWatermark D cA A n0 s0 QM dm ra jx rm Q) (hX : HX p l e R s m args below meth c 10 D cA A n0 s0 QM dm ra jx rm X) : ∀ (σ : Sg), w_X16_takeWatermark_85 ra jx rm Q X σ → RG σ → Shp dm ra jx rm σ → JJ p l e R s m args below meth c 10 D cA A n0 s0 QM σ 85 [(0, .ref rm)] [] := by
  intro σ h hGσ hS H locs ls hH hl hc
  have B := K.1
  unfold w_X16_takeWatermark_85 at h
  exact hQ _ _ _ _ _ dX16_takeWatermark_85 hH hc h hGσ hS
set_option maxRecDepth 20000 in
theorem a_X16_takeWatermark_62 {Q : Sg → Unit → Prop} {X : Sg → String → Prop} (K : MC R p s m args c cX16_takeWatermark 10 RX16 D cA tys A n0 s0 6 167 []) (hQ : HQV p l e R s m args below meth c cX16_takeWatermark D cA A n0 s0 QM dm ra jx rm Q) (hX : HX p l e R s m args below meth c 10 D cA A n0 s0 QM dm ra jx rm X) : ∀ (σ : Sg) (v1 : Int) (v7 : Int64) (g1 : rng v1), w_X16_takeWatermark_62 ra jx rm Q X σ v1 v7 → RG σ → Shp dm ra jx rm σ → JJ p l e R s m args below meth c 10 D cA A n0 s0 QM σ 62 [(0, .ref rm), (1, .int (i32 v1)), (7, .long v7)] [] := by
  intro σ v1 v7 g1 h hGσ hS H locs ls hH hl hc
  have B := K.1
  unfold w_X16_takeWatermark_62 at h
  refine lv_aload_n B.1 B.2.1 dX16_takeWatermark_62 rfl (lv_at hl 0 rfl) ?_
  refine r_arr B hH hS 40 (kd := 101) (n := 64) (by decide) (by decide) wf_X16_414 rfl rfl dX16_takeWatermark_63 ?_
  refine lv_iload_n B.1 B.2.1 dX16_takeWatermark_66 rfl (lv_at hl 1 rfl) ?_
  refine lv_lload B.1 B.2.1 dX16_takeWatermark_67 (lv_at hl 2 rfl) ?_
  obtain ⟨q1, h⟩ := h
  obtain ⟨σ9, eσ9⟩ : ∃ z, z = pJ σ (ra 40) v1.toNat v7 := ⟨_, rfl⟩
  have h := h σ9 eσ9
  refine x_last B K.2.1 hH (hS.ar (k := 40) (kd := 101) (n := 64) (by decide)) (by decide) q1 dX16_takeWatermark_69 (fun H locs hH => ?_)
  have hH : Hd D cA A s (pJ σ (ra 40) v1.toNat v7) H locs := hH
  rw [← eσ9] at hH
  have hGσ9 : RG σ9 := by rw [eσ9]; exact hGσ.pJ
  have hS : Shp dm ra jx rm σ9 := by rw [eσ9]; exact hS
  have hc : CB n0 s0 σ9 := by rw [eσ9]; exact hc
  rw [show gc σ = gc σ9 by rw [eσ9], show gs σ = gs σ9 by rw [eσ9]]
  refine lv_aload_n B.1 B.2.1 dX16_takeWatermark_70 rfl (lv_at hl 0 rfl) ?_
  refine lv_iload_n B.1 B.2.1 dX16_takeWatermark_71 rfl (lv_at hl 1 rfl) ?_
  refine lv_lload B.1 B.2.1 dX16_takeWatermark_72 (lv_at hl 2 rfl) ?_
  refine c_V B hH hl hc K.2.2.1 (C := RX16) (T := TX16) (N := 123) (ci := 16) (As := [.int (i32 v1), .long v7]) (ok_X16_grow K.2.1 σ9 v1 v7 g1 hGσ9 hS h) wc_X16_804 2 hd_X16_grow ⟨Nat.le_trans (Nat.le_of_ble_eq_true rfl) K.2.2.2.1, Nat.le_trans (Nat.le_of_ble_eq_true rfl) K.2.2.2.2.1⟩ hS.1.1 hS.1.2 (by decide) rfl rfl (rest := []) rfl (Nat.le_of_ble_eq_true rfl) dX16_takeWatermark_74 (fun σ10 w hq => ?_) (fun σ9 E9 hx9 => hX σ9 E9 _ _ _ (tb_out K.2.2.2.2.2 rfl) hx9.1 hx9.2.1 hx9.2.2)
  obtain ⟨rfl, h, hGσ10, hS⟩ := hq
  intro H locs ls hH hl hc
  refine W.eq (g2 := F0 m 77 ls []) (rfl) ?_
  try dsimp only at h
  refine lv_aload_n B.1 B.2.1 dX16_takeWatermark_77 rfl (lv_at hl 0 rfl) ?_
  refine lv_iload_n B.1 B.2.1 dX16_takeWatermark_78 rfl (lv_at hl 1 rfl) ?_
  refine lv_iconst (v := i32 1) B.1 B.2.1 dX16_takeWatermark_79 (by decide) ?_
  refine lv_lload B.1 B.2.1 dX16_takeWatermark_80 (lv_at hl 2 rfl) ?_
  refine c_V B hH hl hc K.2.2.1 (C := RX16) (T := TX16) (N := 123) (ci := 16) (As := [.int (i32 v1), .int (i32 1), .long v7]) (ok_X16_spread K.2.1 σ10 v1 1 v7 g1 (by unfold rng; omega) hGσ10 hS h) wc_X16_760 3 hd_X16_spread ⟨Nat.le_trans (Nat.le_of_ble_eq_true rfl) K.2.2.2.1, Nat.le_trans (Nat.le_of_ble_eq_true rfl) K.2.2.2.2.1⟩ hS.1.1 hS.1.2 (by decide) rfl rfl (rest := []) rfl (Nat.le_of_ble_eq_true rfl) dX16_takeWatermark_82 (fun σ11 w hq => ?_) (fun σ9 E9 hx9 => hX σ9 E9 _ _ _ (tb_out K.2.2.2.2.2 rfl) hx9.1 hx9.2.1 hx9.2.2)
  obtain ⟨rfl, h, hGσ11, hS⟩ := hq
  intro H locs ls hH hl hc
  refine W.eq (g2 := F0 m 85 ls []) (rfl) ?_
  try dsimp only at h
  exact a_X16_takeWatermark_85 K hQ hX _ h hGσ11 hS _ _ _ hH (lv_sub (l' := [(0, .ref rm)]) hl [0] rfl) hc
set_option maxRecDepth 20000 in
theorem a_X16_takeWatermark_50 {Q : Sg → Unit → Prop} {X : Sg → String → Prop} (K : MC R p s m args c cX16_takeWatermark 10 RX16 D cA tys A n0 s0 6 167 []) (hQ : HQV p l e R s m args below meth c cX16_takeWatermark D cA A n0 s0 QM dm ra jx rm Q) (hX : HX p l e R s m args below meth c 10 D cA A n0 s0 QM dm ra jx rm X) : ∀ (σ : Sg) (v1 : Int) (v7 : Int64) (g1 : rng v1), w_X16_takeWatermark_50 ra jx rm Q X σ v1 v7 → RG σ → Shp dm ra jx rm σ → JJ p l e R s m args below meth c 10 D cA A n0 s0 QM σ 50 [(0, .ref rm), (1, .int (i32 v1)), (7, .long v7)] [] := by
  intro σ v1 v7 g1 h hGσ hS H locs ls hH hl hc
  have B := K.1
  unfold w_X16_takeWatermark_50 at h
  refine lv_lload B.1 B.2.1 dX16_takeWatermark_50 (lv_at hl 2 rfl) ?_
  refine lv_aload_n B.1 B.2.1 dX16_takeWatermark_52 rfl (lv_at hl 0 rfl) ?_
  refine r_arr B hH hS 40 (kd := 101) (n := 64) (by decide) (by decide) wf_X16_414 rfl rfl dX16_takeWatermark_53 ?_
  refine lv_iload_n B.1 B.2.1 dX16_takeWatermark_56 rfl (lv_at hl 1 rfl) ?_
  obtain ⟨q1, h⟩ := h
  refine x_lald B K.2.1 hH (hS.ar (k := 40) (kd := 101) (n := 64) (by decide)) (by decide) q1 dX16_takeWatermark_57 ?_
  refine W.lcmp B.1 B.2.1 dX16_takeWatermark_58 ?_
  refine lv_if_le (tgt := 85) B.1 B.2.1 dX16_takeWatermark_59 (by decide) (fun h9 => ?_) (fun h9 => ?_)
  · rw [if_pos ((lg_cmp_le _ _).mp h9)] at h
    exact a_X16_takeWatermark_85 K hQ hX _ h hGσ hS _ _ _ hH (lv_sub (l' := [(0, .ref rm)]) hl [0] rfl) hc
  · rw [if_neg (fun q => h9 ((lg_cmp_le _ _).mpr q))] at h
    exact a_X16_takeWatermark_62 K hQ hX _ _ _ g1 h hGσ hS _ _ _ hH (lv_sub (l' := [(0, .ref rm), (1, .int (i32 v1)), (7, .long v7)]) hl [0, 1, 2] rfl) hc
set_option maxRecDepth 20000 in
theorem a_X16_takeWatermark_30 {Q : Sg → Unit → Prop} {X : Sg → String → Prop} (K : MC R p s m args c cX16_takeWatermark 10 RX16 D cA tys A n0 s0 6 167 []) (hQ : HQV p l e R s m args below meth c cX16_takeWatermark D cA A n0 s0 QM dm ra jx rm Q) (hX : HX p l e R s m args below meth c 10 D cA A n0 s0 QM dm ra jx rm X) {K20 : Sg → Int → Int → Int → Int64 → Int → Prop} (hK20 : ∀ (σ : Sg) (v1 : Int) (v5 : Int) (v6 : Int) (v7 : Int64) (v9 : Int) (g1 : rng v1) (g5 : rng v5) (g6 : rng v6) (g9 : rng v9), K20 σ v1 v5 v6 v7 v9 → RG σ → Shp dm ra jx rm σ → JJ p l e R s m args below meth c 10 D cA A n0 s0 QM σ 20 [(0, .ref rm), (1, .int (i32 v1)), (5, .int (i32 v5)), (6, .int (i32 v6)), (7, .long v7), (9, .int (i32 v9))] []) : ∀ (σ : Sg) (v1 : Int) (v5 : Int) (v6 : Int) (v7 : Int64) (v9 : Int) (g1 : rng v1) (g5 : rng v5) (g6 : rng v6) (g9 : rng v9), w_X16_takeWatermark_30 ra jx rm K20 Q X σ v1 v5 v6 v7 v9 → RG σ → Shp dm ra jx rm σ → JJ p l e R s m args below meth c 10 D cA A n0 s0 QM σ 30 [(0, .ref rm), (1, .int (i32 v1)), (5, .int (i32 v5)), (6, .int (i32 v6)), (7, .long v7), (9, .int (i32 v9))] [] := by
  intro σ v1 v5 v6 v7 v9 g1 g5 g6 g9 h hGσ hS H locs ls hH hl hc
  have B := K.1
  unfold w_X16_takeWatermark_30 at h
  refine lv_lload B.1 B.2.1 dX16_takeWatermark_30 (lv_at hl 4 rfl) ?_
  refine lv_aload_n B.1 B.2.1 dX16_takeWatermark_32 rfl (lv_at hl 0 rfl) ?_
  refine r_arr B hH hS 56 (kd := 101) (n := 1100) (by decide) (by decide) wf_X16_453 rfl rfl dX16_takeWatermark_33 ?_
  refine lv_iload B.1 B.2.1 dX16_takeWatermark_36 (lv_at hl 5 rfl) ?_
  obtain ⟨q1, h⟩ := h
  refine x_lald B K.2.1 hH (hS.ar (k := 56) (kd := 101) (n := 1100) (by decide)) (by decide) q1 dX16_takeWatermark_38 ?_
  refine c_S B hH hl hc K.2.2.1 (As := [.long v7, .long (gJ σ (ra 56) v9.toNat)]) (ok_J9_min_f86c9 (dm := dm) (ra := ra) (jx := jx) (rm := rm) K.2.1 σ v7 (gJ σ (ra 56) v9.toNat) hGσ hS mj_J9_min_f86c9) wc_X16_581 2 hd_J9_min_f86c9 ⟨Nat.le_trans (Nat.le_of_ble_eq_true rfl) K.2.2.2.1, Nat.le_trans (Nat.le_of_ble_eq_true rfl) K.2.2.2.2.1⟩ rfl (rest := []) rfl (Nat.le_of_ble_eq_true rfl) dX16_takeWatermark_39 (fun σm2 w hq => ?_) (fun σ9 E9 hx9 => False.elim hx9.1)
  obtain ⟨rm9, rfl, ⟨e9, rfl⟩, hG9, hS9⟩ := hq
  subst e9
  intro H locs ls hH hl hc
  refine W.eq (g2 := F0 m 42 ls [.long (minJ v7 (gJ σ (ra 56) v9.toNat))]) (rfl) ?_
  refine lv_lstore (lv' := [(7, .long (minJ v7 (gJ σ (ra 56) v9.toNat))), (0, .ref rm), (1, .int (i32 v1)), (5, .int (i32 v5)), (6, .int (i32 v6)), (9, .int (i32 v9))]) B.1 B.2.1 dX16_takeWatermark_42 hl (by decide) rfl (fun ls hl => ?_)
  obtain ⟨q3, h⟩ := h
  refine lv_iinc (k := 5) (v := i32 (v9 + 1)) (lv' := [(9, .int (i32 (v9 + 1))), (7, .long (minJ v7 (gJ σ (ra 56) v9.toNat))), (0, .ref rm), (1, .int (i32 v1)), (5, .int (i32 v5)), (6, .int (i32 v6))]) B.1 B.2.1 dX16_takeWatermark_44 hl rfl (i32_add _ _) (by decide) rfl (fun ls hl => ?_)
  refine lv_goto (tgt := 20) B.1 B.2.1 dX16_takeWatermark_47 (by decide) ?_
  exact hK20 _ _ _ _ _ _ g1 g5 g6 q3 h hGσ hS _ _ _ hH (lv_sub (l' := [(0, .ref rm), (1, .int (i32 v1)), (5, .int (i32 v5)), (6, .int (i32 v6)), (7, .long (minJ v7 (gJ σ (ra 56) v9.toNat))), (9, .int (i32 (v9 + 1)))]) hl [2, 3, 4, 5, 1, 0] rfl) hc
set_option maxRecDepth 20000 in
theorem a_X16_takeWatermark_20 {Q : Sg → Unit → Prop} {X : Sg → String → Prop} (K : MC R p s m args c cX16_takeWatermark 10 RX16 D cA tys A n0 s0 6 167 []) (hQ : HQV p l e R s m args below meth c cX16_takeWatermark D cA A n0 s0 QM dm ra jx rm Q) (hX : HX p l e R s m args below meth c 10 D cA A n0 s0 QM dm ra jx rm X) {K20 : Sg → Int → Int → Int → Int64 → Int → Prop} (hK20 : ∀ (σ : Sg) (v1 : Int) (v5 : Int) (v6 : Int) (v7 : Int64) (v9 : Int) (g1 : rng v1) (g5 : rng v5) (g6 : rng v6) (g9 : rng v9), K20 σ v1 v5 v6 v7 v9 → RG σ → Shp dm ra jx rm σ → JJ p l e R s m args below meth c 10 D cA A n0 s0 QM σ 20 [(0, .ref rm), (1, .int (i32 v1)), (5, .int (i32 v5)), (6, .int (i32 v6)), (7, .long v7), (9, .int (i32 v9))] []) : ∀ (σ : Sg) (v1 : Int) (v5 : Int) (v6 : Int) (v7 : Int64) (v9 : Int) (g1 : rng v1) (g5 : rng v5) (g6 : rng v6) (g9 : rng v9), w_X16_takeWatermark_20 ra jx rm K20 Q X σ v1 v5 v6 v7 v9 → RG σ → Shp dm ra jx rm σ → JJ p l e R s m args below meth c 10 D cA A n0 s0 QM σ 20 [(0, .ref rm), (1, .int (i32 v1)), (5, .int (i32 v5)), (6, .int (i32 v6)), (7, .long v7), (9, .int (i32 v9))] [] := by
  intro σ v1 v5 v6 v7 v9 g1 g5 g6 g9 h hGσ hS H locs ls hH hl hc
  have B := K.1
  unfold w_X16_takeWatermark_20 at h
  refine lv_iload B.1 B.2.1 dX16_takeWatermark_20 (lv_at hl 5 rfl) ?_
  refine lv_iload B.1 B.2.1 dX16_takeWatermark_22 (lv_at hl 2 rfl) ?_
  refine lv_iload B.1 B.2.1 dX16_takeWatermark_24 (lv_at hl 3 rfl) ?_
  obtain ⟨q1, h⟩ := h
  refine lv_iadd B.1 B.2.1 dX16_takeWatermark_26 ?_
  rw [i32_add]
  refine lv_icmp_ge (tgt := 50) B.1 B.2.1 dX16_takeWatermark_27 (by decide) (fun h9 => ?_) (fun h9 => ?_)
  · rw [if_pos ((i32_le q1 g9).mp h9)] at h
    exact a_X16_takeWatermark_50 K hQ hX _ _ _ g1 h hGσ hS _ _ _ hH (lv_sub (l' := [(0, .ref rm), (1, .int (i32 v1)), (7, .long v7)]) hl [0, 1, 4] rfl) hc
  · rw [if_neg (fun q => h9 ((i32_le q1 g9).mpr q))] at h
    exact a_X16_takeWatermark_30 K hQ hX hK20 _ _ _ _ _ _ g1 g5 g6 g9 h hGσ hS _ _ _ hH (lv_sub (l' := [(0, .ref rm), (1, .int (i32 v1)), (5, .int (i32 v5)), (6, .int (i32 v6)), (7, .long v7), (9, .int (i32 v9))]) hl [0, 1, 2, 3, 4, 5] rfl) hc
theorem al_X16_takeWatermark_20 {Q : Sg → Unit → Prop} {X : Sg → String → Prop} (K : MC R p s m args c cX16_takeWatermark 10 RX16 D cA tys A n0 s0 6 167 []) (hQ : HQV p l e R s m args below meth c cX16_takeWatermark D cA A n0 s0 QM dm ra jx rm Q) (hX : HX p l e R s m args below meth c 10 D cA A n0 s0 QM dm ra jx rm X) : ∀ (n : Nat), ∀ (σ : Sg) (v1 : Int) (v5 : Int) (v6 : Int) (v7 : Int64) (v9 : Int) (g1 : rng v1) (g5 : rng v5) (g6 : rng v6) (g9 : rng v9), wl_X16_takeWatermark_20 ra jx rm Q X n σ v1 v5 v6 v7 v9 → RG σ → Shp dm ra jx rm σ → JJ p l e R s m args below meth c 10 D cA A n0 s0 QM σ 20 [(0, .ref rm), (1, .int (i32 v1)), (5, .int (i32 v5)), (6, .int (i32 v6)), (7, .long v7), (9, .int (i32 v9))] [] := by
  intro n
  induction n with
  | zero => intro σ v1 v5 v6 v7 v9 g1 g5 g6 g9 h; exact h.elim
  | succ n ih => exact fun σ v1 v5 v6 v7 v9 g1 g5 g6 g9 h => a_X16_takeWatermark_20 K hQ hX ih σ v1 v5 v6 v7 v9 g1 g5 g6 g9 h
set_option maxRecDepth 20000 in
theorem a_X16_takeWatermark_0 {Q : Sg → Unit → Prop} {X : Sg → String → Prop} (K : MC R p s m args c cX16_takeWatermark 10 RX16 D cA tys A n0 s0 6 167 []) (hQ : HQV p l e R s m args below meth c cX16_takeWatermark D cA A n0 s0 QM dm ra jx rm Q) (hX : HX p l e R s m args below meth c 10 D cA A n0 s0 QM dm ra jx rm X) : ∀ (σ : Sg) (v1 : Int) (v2 : Int) (v3 : Int64) (v5 : Int) (v6 : Int) (g1 : rng v1) (g2 : rng v2) (g5 : rng v5) (g6 : rng v6), w_X16_takeWatermark_0 ra jx rm Q X σ v1 v2 v3 v5 v6 → RG σ → Shp dm ra jx rm σ → JJ p l e R s m args below meth c 10 D cA A n0 s0 QM σ 0 [(0, .ref rm), (1, .int (i32 v1)), (2, .int (i32 v2)), (3, .long v3), (5, .int (i32 v5)), (6, .int (i32 v6))] [] := by
  intro σ v1 v2 v3 v5 v6 g1 g2 g5 g6 h hGσ hS H locs ls hH hl hc
  have B := K.1
  unfold w_X16_takeWatermark_0 at h
  refine lv_aload_n B.1 B.2.1 dX16_takeWatermark_0 rfl (lv_at hl 0 rfl) ?_
  refine r_arr B hH hS 56 (kd := 101) (n := 1100) (by decide) (by decide) wf_X16_453 rfl rfl dX16_takeWatermark_1 ?_
  refine lv_iload_n B.1 B.2.1 dX16_takeWatermark_4 rfl (lv_at hl 2 rfl) ?_
  refine lv_lload_n B.1 B.2.1 dX16_takeWatermark_5 rfl (lv_at hl 3 rfl) ?_
  obtain ⟨q1, h⟩ := h
  obtain ⟨σ12, eσ12⟩ : ∃ z, z = pJ σ (ra 56) v2.toNat v3 := ⟨_, rfl⟩
  have h := h σ12 eσ12
  refine x_last B K.2.1 hH (hS.ar (k := 56) (kd := 101) (n := 1100) (by decide)) (by decide) q1 dX16_takeWatermark_6 (fun H locs hH => ?_)
  have hH : Hd D cA A s (pJ σ (ra 56) v2.toNat v3) H locs := hH
  rw [← eσ12] at hH
  have hGσ12 : RG σ12 := by rw [eσ12]; exact hGσ.pJ
  have hS : Shp dm ra jx rm σ12 := by rw [eσ12]; exact hS
  have hc : CB n0 s0 σ12 := by rw [eσ12]; exact hc
  rw [show gc σ = gc σ12 by rw [eσ12], show gs σ = gs σ12 by rw [eσ12]]
  refine lv_aload_n B.1 B.2.1 dX16_takeWatermark_7 rfl (lv_at hl 0 rfl) ?_
  refine r_arr B hH hS 56 (kd := 101) (n := 1100) (by decide) (by decide) wf_X16_453 rfl rfl dX16_takeWatermark_8 ?_
  refine lv_iload B.1 B.2.1 dX16_takeWatermark_11 (lv_at hl 4 rfl) ?_
  obtain ⟨q3, h⟩ := h
  refine x_lald B K.2.1 hH (hS.ar (k := 56) (kd := 101) (n := 1100) (by decide)) (by decide) q3 dX16_takeWatermark_13 ?_
  refine lv_lstore (lv' := [(7, .long (gJ σ12 (ra 56) v5.toNat)), (0, .ref rm), (1, .int (i32 v1)), (2, .int (i32 v2)), (3, .long v3), (5, .int (i32 v5)), (6, .int (i32 v6))]) B.1 B.2.1 dX16_takeWatermark_14 hl (by decide) rfl (fun ls hl => ?_)
  refine lv_iload B.1 B.2.1 dX16_takeWatermark_16 (lv_at hl 5 rfl) ?_
  refine lv_istore (lv' := [(9, .int (i32 v5)), (7, .long (gJ σ12 (ra 56) v5.toNat)), (0, .ref rm), (1, .int (i32 v1)), (2, .int (i32 v2)), (3, .long v3), (5, .int (i32 v5)), (6, .int (i32 v6))]) B.1 B.2.1 dX16_takeWatermark_18 hl (by decide) rfl (fun ls hl => ?_)
  obtain ⟨n9, h⟩ := h
  exact al_X16_takeWatermark_20 K hQ hX n9 _ _ _ _ _ _ g1 g5 g6 g5 h hGσ12 hS _ _ _ hH (lv_sub (l' := [(0, .ref rm), (1, .int (i32 v1)), (5, .int (i32 v5)), (6, .int (i32 v6)), (7, .long (gJ σ12 (ra 56) v5.toNat)), (9, .int (i32 v5))]) hl [2, 3, 6, 7, 1, 0] rfl) hc
theorem ok_X16_takeWatermark (hT : Tys cA tys) {Q : Sg → Unit → Prop} {X : Sg → String → Prop} (σ : Sg) (v1 : Int) (v2 : Int) (v3 : Int64) (v5 : Int) (v6 : Int) (g1 : rng v1) (g2 : rng v2) (g5 : rng v5) (g6 : rng v6) (hG : RG σ) (hS : Shp dm ra jx rm σ) (h : wp_X16_takeWatermark ra jx rm v1 v2 v3 v5 v6 σ Q X) : Ok l D cA tys A yX16_takeWatermark (.code yX16_takeWatermark cX16_takeWatermark 10 none) 6 167 [.ref rm, .int (i32 v1), .int (i32 v2), .long v3, .int (i32 v5), .int (i32 v6)] σ (QnV dm ra jx rm Q) (QxR dm ra jx rm X) := by
  unfold wp_X16_takeWatermark at h
  exact ok_V (plainFor_of_name (by decide)) (by exact Nat.le_of_ble_eq_true rfl) hT (fun p e R s m args below meth c K hQ hX H locs ls hH hl hc => a_X16_takeWatermark_0 K hQ hX σ v1 v2 v3 v5 v6 g1 g2 g5 g6 h hG hS H locs ls hH (lv_sub (l' := [(0, .ref rm), (1, .int (i32 v1)), (2, .int (i32 v2)), (3, .long v3), (5, .int (i32 v5)), (6, .int (i32 v6))]) hl [0, 1, 2, 3, 4, 5] rfl) hc)
theorem dX16_taskTurn_0 : decode cX16_taskTurn 0 = .ok (.aload_n 0, 1) := by decide +kernel
theorem dX16_taskTurn_1 : decode cX16_taskTurn 1 = .ok (.iload_n 1, 1) := by decide +kernel
theorem dX16_taskTurn_2 : decode cX16_taskTurn 2 = .ok (.invokevirtual 784, 3) := by decide +kernel
theorem dX16_taskTurn_5 : decode cX16_taskTurn 5 = .ok (.istore_n 2, 1) := by decide +kernel
theorem dX16_taskTurn_6 : decode cX16_taskTurn 6 = .ok (.aload_n 0, 1) := by decide +kernel
theorem dX16_taskTurn_7 : decode cX16_taskTurn 7 = .ok (.iload_n 1, 1) := by decide +kernel
theorem dX16_taskTurn_8 : decode cX16_taskTurn 8 = .ok (.invokevirtual 787, 3) := by decide +kernel
theorem dX16_taskTurn_11 : decode cX16_taskTurn 11 = .ok (.istore_n 3, 1) := by decide +kernel
theorem dX16_taskTurn_12 : decode cX16_taskTurn 12 = .ok (.aload_n 0, 1) := by decide +kernel
theorem dX16_taskTurn_13 : decode cX16_taskTurn 13 = .ok (.getfield 432, 3) := by decide +kernel
theorem dX16_taskTurn_16 : decode cX16_taskTurn 16 = .ok (.iload_n 1, 1) := by decide +kernel
theorem dX16_taskTurn_17 : decode cX16_taskTurn 17 = .ok (.iaload, 1) := by decide +kernel
theorem dX16_taskTurn_18 : decode cX16_taskTurn 18 = .ok (.iconst (-1), 1) := by decide +kernel
theorem dX16_taskTurn_19 : decode cX16_taskTurn 19 = .ok (.if_icmp .ne 7, 3) := by decide +kernel
theorem dX16_taskTurn_22 : decode cX16_taskTurn 22 = .ok (.iload_n 2, 1) := by decide +kernel
theorem dX16_taskTurn_23 : decode cX16_taskTurn 23 = .ok (.goto 11, 3) := by decide +kernel
theorem dX16_taskTurn_26 : decode cX16_taskTurn 26 = .ok (.aload_n 0, 1) := by decide +kernel
theorem dX16_taskTurn_27 : decode cX16_taskTurn 27 = .ok (.getfield 432, 3) := by decide +kernel
theorem dX16_taskTurn_30 : decode cX16_taskTurn 30 = .ok (.iload_n 1, 1) := by decide +kernel
theorem dX16_taskTurn_31 : decode cX16_taskTurn 31 = .ok (.iaload, 1) := by decide +kernel
theorem dX16_taskTurn_32 : decode cX16_taskTurn 32 = .ok (.iconst 1, 1) := by decide +kernel
theorem dX16_taskTurn_33 : decode cX16_taskTurn 33 = .ok (.iadd, 1) := by decide +kernel
theorem dX16_taskTurn_34 : decode cX16_taskTurn 34 = .ok (.istore 4, 2) := by decide +kernel
theorem dX16_taskTurn_36 : decode cX16_taskTurn 36 = .ok (.iconst (-1), 1) := by decide +kernel
theorem dX16_taskTurn_37 : decode cX16_taskTurn 37 = .ok (.istore 5, 2) := by decide +kernel
theorem dX16_taskTurn_39 : decode cX16_taskTurn 39 = .ok (.iconst 0, 1) := by decide +kernel
theorem dX16_taskTurn_40 : decode cX16_taskTurn 40 = .ok (.istore 6, 2) := by decide +kernel
theorem dX16_taskTurn_42 : decode cX16_taskTurn 42 = .ok (.iload 6, 2) := by decide +kernel
theorem dX16_taskTurn_44 : decode cX16_taskTurn 44 = .ok (.iload_n 3, 1) := by decide +kernel
theorem dX16_taskTurn_45 : decode cX16_taskTurn 45 = .ok (.if_icmp .ge 56, 3) := by decide +kernel
theorem dX16_taskTurn_48 : decode cX16_taskTurn 48 = .ok (.iload 5, 2) := by decide +kernel
theorem dX16_taskTurn_50 : decode cX16_taskTurn 50 = .ok (.iconst (-1), 1) := by decide +kernel
theorem dX16_taskTurn_51 : decode cX16_taskTurn 51 = .ok (.if_icmp .ne 50, 3) := by decide +kernel
theorem dX16_taskTurn_54 : decode cX16_taskTurn 54 = .ok (.iload_n 2, 1) := by decide +kernel
theorem dX16_taskTurn_55 : decode cX16_taskTurn 55 = .ok (.iload 4, 2) := by decide +kernel
theorem dX16_taskTurn_57 : decode cX16_taskTurn 57 = .ok (.iload_n 2, 1) := by decide +kernel
theorem dX16_taskTurn_58 : decode cX16_taskTurn 58 = .ok (.isub, 1) := by decide +kernel
theorem dX16_taskTurn_59 : decode cX16_taskTurn 59 = .ok (.iload 6, 2) := by decide +kernel
theorem dX16_taskTurn_61 : decode cX16_taskTurn 61 = .ok (.iadd, 1) := by decide +kernel
theorem dX16_taskTurn_62 : decode cX16_taskTurn 62 = .ok (.iload_n 3, 1) := by decide +kernel
theorem dX16_taskTurn_63 : decode cX16_taskTurn 63 = .ok (.irem, 1) := by decide +kernel
theorem dX16_taskTurn_64 : decode cX16_taskTurn 64 = .ok (.iadd, 1) := by decide +kernel
theorem dX16_taskTurn_65 : decode cX16_taskTurn 65 = .ok (.istore 7, 2) := by decide +kernel
theorem dX16_taskTurn_67 : decode cX16_taskTurn 67 = .ok (.aload_n 0, 1) := by decide +kernel
theorem dX16_taskTurn_68 : decode cX16_taskTurn 68 = .ok (.getfield 447, 3) := by decide +kernel
theorem dX16_taskTurn_71 : decode cX16_taskTurn 71 = .ok (.iload 7, 2) := by decide +kernel
theorem dX16_taskTurn_73 : decode cX16_taskTurn 73 = .ok (.iaload, 1) := by decide +kernel
theorem dX16_taskTurn_74 : decode cX16_taskTurn 74 = .ok (.ifCond .le 18, 3) := by decide +kernel
theorem dX16_taskTurn_77 : decode cX16_taskTurn 77 = .ok (.aload_n 0, 1) := by decide +kernel
theorem dX16_taskTurn_78 : decode cX16_taskTurn 78 = .ok (.getfield 456, 3) := by decide +kernel
theorem dX16_taskTurn_81 : decode cX16_taskTurn 81 = .ok (.iload 7, 2) := by decide +kernel
theorem dX16_taskTurn_83 : decode cX16_taskTurn 83 = .ok (.baload, 1) := by decide +kernel
theorem dX16_taskTurn_84 : decode cX16_taskTurn 84 = .ok (.ifCond .ne 8, 3) := by decide +kernel
theorem dX16_taskTurn_87 : decode cX16_taskTurn 87 = .ok (.iload 7, 2) := by decide +kernel
theorem dX16_taskTurn_89 : decode cX16_taskTurn 89 = .ok (.goto 4, 3) := by decide +kernel
theorem dX16_taskTurn_92 : decode cX16_taskTurn 92 = .ok (.iconst (-1), 1) := by decide +kernel
theorem dX16_taskTurn_93 : decode cX16_taskTurn 93 = .ok (.istore 5, 2) := by decide +kernel
theorem dX16_taskTurn_95 : decode cX16_taskTurn 95 = .ok (.iinc 6 1, 3) := by decide +kernel
theorem dX16_taskTurn_98 : decode cX16_taskTurn 98 = .ok (.goto (-56), 3) := by decide +kernel
theorem dX16_taskTurn_101 : decode cX16_taskTurn 101 = .ok (.iload 5, 2) := by decide +kernel
theorem dX16_taskTurn_103 : decode cX16_taskTurn 103 = .ok (.iconst (-1), 1) := by decide +kernel
theorem dX16_taskTurn_104 : decode cX16_taskTurn 104 = .ok (.if_icmp .ne 5, 3) := by decide +kernel
theorem dX16_taskTurn_107 : decode cX16_taskTurn 107 = .ok (.iconst (-1), 1) := by decide +kernel
theorem dX16_taskTurn_108 : decode cX16_taskTurn 108 = .ok (.ireturn, 1) := by decide +kernel
theorem dX16_taskTurn_109 : decode cX16_taskTurn 109 = .ok (.aload_n 0, 1) := by decide +kernel
theorem dX16_taskTurn_110 : decode cX16_taskTurn 110 = .ok (.getfield 432, 3) := by decide +kernel
theorem dX16_taskTurn_113 : decode cX16_taskTurn 113 = .ok (.iload_n 1, 1) := by decide +kernel
theorem dX16_taskTurn_114 : decode cX16_taskTurn 114 = .ok (.iload 5, 2) := by decide +kernel
theorem dX16_taskTurn_116 : decode cX16_taskTurn 116 = .ok (.iastore, 1) := by decide +kernel
theorem dX16_taskTurn_117 : decode cX16_taskTurn 117 = .ok (.aload_n 0, 1) := by decide +kernel
theorem dX16_taskTurn_118 : decode cX16_taskTurn 118 = .ok (.getfield 492, 3) := by decide +kernel
theorem dX16_taskTurn_121 : decode cX16_taskTurn 121 = .ok (.bipush 8, 2) := by decide +kernel
theorem dX16_taskTurn_123 : decode cX16_taskTurn 123 = .ok (.iload 5, 2) := by decide +kernel
theorem dX16_taskTurn_125 : decode cX16_taskTurn 125 = .ok (.imul, 1) := by decide +kernel
theorem dX16_taskTurn_126 : decode cX16_taskTurn 126 = .ok (.aload_n 0, 1) := by decide +kernel
theorem dX16_taskTurn_127 : decode cX16_taskTurn 127 = .ok (.getfield 450, 3) := by decide +kernel
theorem dX16_taskTurn_130 : decode cX16_taskTurn 130 = .ok (.iload 5, 2) := by decide +kernel
theorem dX16_taskTurn_132 : decode cX16_taskTurn 132 = .ok (.iaload, 1) := by decide +kernel
theorem dX16_taskTurn_133 : decode cX16_taskTurn 133 = .ok (.iadd, 1) := by decide +kernel
theorem dX16_taskTurn_134 : decode cX16_taskTurn 134 = .ok (.iaload, 1) := by decide +kernel
theorem dX16_taskTurn_135 : decode cX16_taskTurn 135 = .ok (.istore 6, 2) := by decide +kernel
theorem dX16_taskTurn_137 : decode cX16_taskTurn 137 = .ok (.aload_n 0, 1) := by decide +kernel
theorem dX16_taskTurn_138 : decode cX16_taskTurn 138 = .ok (.getfield 450, 3) := by decide +kernel
theorem dX16_taskTurn_141 : decode cX16_taskTurn 141 = .ok (.iload 5, 2) := by decide +kernel
theorem dX16_taskTurn_143 : decode cX16_taskTurn 143 = .ok (.aload_n 0, 1) := by decide +kernel
theorem dX16_taskTurn_144 : decode cX16_taskTurn 144 = .ok (.getfield 450, 3) := by decide +kernel
theorem dX16_taskTurn_147 : decode cX16_taskTurn 147 = .ok (.iload 5, 2) := by decide +kernel
theorem dX16_taskTurn_149 : decode cX16_taskTurn 149 = .ok (.iaload, 1) := by decide +kernel
theorem dX16_taskTurn_150 : decode cX16_taskTurn 150 = .ok (.iconst 1, 1) := by decide +kernel
theorem dX16_taskTurn_151 : decode cX16_taskTurn 151 = .ok (.iadd, 1) := by decide +kernel
theorem dX16_taskTurn_152 : decode cX16_taskTurn 152 = .ok (.bipush 8, 2) := by decide +kernel
theorem dX16_taskTurn_154 : decode cX16_taskTurn 154 = .ok (.irem, 1) := by decide +kernel
theorem dX16_taskTurn_155 : decode cX16_taskTurn 155 = .ok (.iastore, 1) := by decide +kernel
theorem dX16_taskTurn_156 : decode cX16_taskTurn 156 = .ok (.aload_n 0, 1) := by decide +kernel
theorem dX16_taskTurn_157 : decode cX16_taskTurn 157 = .ok (.getfield 447, 3) := by decide +kernel
theorem dX16_taskTurn_160 : decode cX16_taskTurn 160 = .ok (.iload 5, 2) := by decide +kernel
theorem dX16_taskTurn_162 : decode cX16_taskTurn 162 = .ok (.dup2, 1) := by decide +kernel
theorem dX16_taskTurn_163 : decode cX16_taskTurn 163 = .ok (.iaload, 1) := by decide +kernel
theorem dX16_taskTurn_164 : decode cX16_taskTurn 164 = .ok (.iconst 1, 1) := by decide +kernel
theorem dX16_taskTurn_165 : decode cX16_taskTurn 165 = .ok (.isub, 1) := by decide +kernel
theorem dX16_taskTurn_166 : decode cX16_taskTurn 166 = .ok (.iastore, 1) := by decide +kernel
theorem dX16_taskTurn_167 : decode cX16_taskTurn 167 = .ok (.aload_n 0, 1) := by decide +kernel
theorem dX16_taskTurn_168 : decode cX16_taskTurn 168 = .ok (.getfield 419, 3) := by decide +kernel
theorem dX16_taskTurn_171 : decode cX16_taskTurn 171 = .ok (.iload_n 1, 1) := by decide +kernel
theorem dX16_taskTurn_172 : decode cX16_taskTurn 172 = .ok (.dup2, 1) := by decide +kernel
theorem dX16_taskTurn_173 : decode cX16_taskTurn 173 = .ok (.iaload, 1) := by decide +kernel
theorem dX16_taskTurn_174 : decode cX16_taskTurn 174 = .ok (.iconst 1, 1) := by decide +kernel
theorem dX16_taskTurn_175 : decode cX16_taskTurn 175 = .ok (.iadd, 1) := by decide +kernel
theorem dX16_taskTurn_176 : decode cX16_taskTurn 176 = .ok (.iastore, 1) := by decide +kernel
theorem dX16_taskTurn_177 : decode cX16_taskTurn 177 = .ok (.aload_n 0, 1) := by decide +kernel
theorem dX16_taskTurn_178 : decode cX16_taskTurn 178 = .ok (.iconst 1, 1) := by decide +kernel
theorem dX16_taskTurn_179 : decode cX16_taskTurn 179 = .ok (.putfield 766, 3) := by decide +kernel
theorem dX16_taskTurn_182 : decode cX16_taskTurn 182 = .ok (.aload_n 0, 1) := by decide +kernel
theorem dX16_taskTurn_183 : decode cX16_taskTurn 183 = .ok (.getfield 467, 3) := by decide +kernel
theorem dX16_taskTurn_186 : decode cX16_taskTurn 186 = .ok (.iload 6, 2) := by decide +kernel
theorem dX16_taskTurn_188 : decode cX16_taskTurn 188 = .ok (.iaload, 1) := by decide +kernel
theorem dX16_taskTurn_189 : decode cX16_taskTurn 189 = .ok (.istore 7, 2) := by decide +kernel
theorem dX16_taskTurn_191 : decode cX16_taskTurn 191 = .ok (.aload_n 0, 1) := by decide +kernel
theorem dX16_taskTurn_192 : decode cX16_taskTurn 192 = .ok (.getfield 470, 3) := by decide +kernel
theorem dX16_taskTurn_195 : decode cX16_taskTurn 195 = .ok (.iload 6, 2) := by decide +kernel
theorem dX16_taskTurn_197 : decode cX16_taskTurn 197 = .ok (.laload, 1) := by decide +kernel
theorem dX16_taskTurn_198 : decode cX16_taskTurn 198 = .ok (.lstore 8, 2) := by decide +kernel
theorem dX16_taskTurn_200 : decode cX16_taskTurn 200 = .ok (.aload_n 0, 1) := by decide +kernel
theorem dX16_taskTurn_201 : decode cX16_taskTurn 201 = .ok (.getfield 476, 3) := by decide +kernel
theorem dX16_taskTurn_204 : decode cX16_taskTurn 204 = .ok (.iload 6, 2) := by decide +kernel
theorem dX16_taskTurn_206 : decode cX16_taskTurn 206 = .ok (.iaload, 1) := by decide +kernel
theorem dX16_taskTurn_207 : decode cX16_taskTurn 207 = .ok (.istore 10, 2) := by decide +kernel
theorem dX16_taskTurn_209 : decode cX16_taskTurn 209 = .ok (.iconst 0, 1) := by decide +kernel
theorem dX16_taskTurn_210 : decode cX16_taskTurn 210 = .ok (.istore 11, 2) := by decide +kernel
theorem dX16_taskTurn_212 : decode cX16_taskTurn 212 = .ok (.iload 11, 2) := by decide +kernel
theorem dX16_taskTurn_214 : decode cX16_taskTurn 214 = .ok (.bipush 8, 2) := by decide +kernel
theorem dX16_taskTurn_216 : decode cX16_taskTurn 216 = .ok (.if_icmp .ge 29, 3) := by decide +kernel
theorem dX16_taskTurn_219 : decode cX16_taskTurn 219 = .ok (.aload_n 0, 1) := by decide +kernel
theorem dX16_taskTurn_220 : decode cX16_taskTurn 220 = .ok (.getfield 542, 3) := by decide +kernel
theorem dX16_taskTurn_223 : decode cX16_taskTurn 223 = .ok (.iload 11, 2) := by decide +kernel
theorem dX16_taskTurn_225 : decode cX16_taskTurn 225 = .ok (.aload_n 0, 1) := by decide +kernel
theorem dX16_taskTurn_226 : decode cX16_taskTurn 226 = .ok (.getfield 473, 3) := by decide +kernel
theorem dX16_taskTurn_229 : decode cX16_taskTurn 229 = .ok (.bipush 8, 2) := by decide +kernel
theorem dX16_taskTurn_231 : decode cX16_taskTurn 231 = .ok (.iload 6, 2) := by decide +kernel
theorem dX16_taskTurn_233 : decode cX16_taskTurn 233 = .ok (.imul, 1) := by decide +kernel
theorem dX16_taskTurn_234 : decode cX16_taskTurn 234 = .ok (.iload 11, 2) := by decide +kernel
theorem dX16_taskTurn_236 : decode cX16_taskTurn 236 = .ok (.iadd, 1) := by decide +kernel
theorem dX16_taskTurn_237 : decode cX16_taskTurn 237 = .ok (.laload, 1) := by decide +kernel
theorem dX16_taskTurn_238 : decode cX16_taskTurn 238 = .ok (.lastore, 1) := by decide +kernel
theorem dX16_taskTurn_239 : decode cX16_taskTurn 239 = .ok (.iinc 11 1, 3) := by decide +kernel
theorem dX16_taskTurn_242 : decode cX16_taskTurn 242 = .ok (.goto (-30), 3) := by decide +kernel
theorem dX16_taskTurn_245 : decode cX16_taskTurn 245 = .ok (.aload_n 0, 1) := by decide +kernel
theorem dX16_taskTurn_246 : decode cX16_taskTurn 246 = .ok (.iload 6, 2) := by decide +kernel
theorem dX16_taskTurn_248 : decode cX16_taskTurn 248 = .ok (.invokevirtual 790, 3) := by decide +kernel
theorem dX16_taskTurn_251 : decode cX16_taskTurn 251 = .ok (.iload 7, 2) := by decide +kernel
theorem dX16_taskTurn_253 : decode cX16_taskTurn 253 = .ok (.ifCond .ne 22, 3) := by decide +kernel
theorem dX16_taskTurn_256 : decode cX16_taskTurn 256 = .ok (.aload_n 0, 1) := by decide +kernel
theorem dX16_taskTurn_257 : decode cX16_taskTurn 257 = .ok (.iload_n 1, 1) := by decide +kernel
theorem dX16_taskTurn_258 : decode cX16_taskTurn 258 = .ok (.aload_n 0, 1) := by decide +kernel
theorem dX16_taskTurn_259 : decode cX16_taskTurn 259 = .ok (.getfield 377, 3) := by decide +kernel
theorem dX16_taskTurn_262 : decode cX16_taskTurn 262 = .ok (.iload 5, 2) := by decide +kernel
theorem dX16_taskTurn_264 : decode cX16_taskTurn 264 = .ok (.iaload, 1) := by decide +kernel
theorem dX16_taskTurn_265 : decode cX16_taskTurn 265 = .ok (.lload 8, 2) := by decide +kernel
theorem dX16_taskTurn_267 : decode cX16_taskTurn 267 = .ok (.iload 10, 2) := by decide +kernel
theorem dX16_taskTurn_269 : decode cX16_taskTurn 269 = .ok (.invokevirtual 793, 3) := by decide +kernel
theorem dX16_taskTurn_272 : decode cX16_taskTurn 272 = .ok (.goto 32, 3) := by decide +kernel
theorem dX16_taskTurn_275 : decode cX16_taskTurn 275 = .ok (.iload 7, 2) := by decide +kernel
theorem dX16_taskTurn_277 : decode cX16_taskTurn 277 = .ok (.iconst 1, 1) := by decide +kernel
theorem dX16_taskTurn_278 : decode cX16_taskTurn 278 = .ok (.if_icmp .ne 17, 3) := by decide +kernel
theorem dX16_taskTurn_281 : decode cX16_taskTurn 281 = .ok (.aload_n 0, 1) := by decide +kernel
theorem dX16_taskTurn_282 : decode cX16_taskTurn 282 = .ok (.iload_n 1, 1) := by decide +kernel
theorem dX16_taskTurn_283 : decode cX16_taskTurn 283 = .ok (.iload 5, 2) := by decide +kernel
theorem dX16_taskTurn_285 : decode cX16_taskTurn 285 = .ok (.lload 8, 2) := by decide +kernel
theorem dX16_taskTurn_287 : decode cX16_taskTurn 287 = .ok (.iload_n 2, 1) := by decide +kernel
theorem dX16_taskTurn_288 : decode cX16_taskTurn 288 = .ok (.iload_n 3, 1) := by decide +kernel
theorem dX16_taskTurn_289 : decode cX16_taskTurn 289 = .ok (.invokevirtual 796, 3) := by decide +kernel
theorem dX16_taskTurn_292 : decode cX16_taskTurn 292 = .ok (.goto 12, 3) := by decide +kernel
theorem dX16_taskTurn_295 : decode cX16_taskTurn 295 = .ok (.aload_n 0, 1) := by decide +kernel
theorem dX16_taskTurn_296 : decode cX16_taskTurn 296 = .ok (.iload_n 1, 1) := by decide +kernel
theorem dX16_taskTurn_297 : decode cX16_taskTurn 297 = .ok (.iload 5, 2) := by decide +kernel
theorem dX16_taskTurn_299 : decode cX16_taskTurn 299 = .ok (.iload_n 2, 1) := by decide +kernel
theorem dX16_taskTurn_300 : decode cX16_taskTurn 300 = .ok (.iload_n 3, 1) := by decide +kernel
theorem dX16_taskTurn_301 : decode cX16_taskTurn 301 = .ok (.invokevirtual 800, 3) := by decide +kernel
theorem dX16_taskTurn_304 : decode cX16_taskTurn 304 = .ok (.iconst 1, 1) := by decide +kernel
theorem dX16_taskTurn_305 : decode cX16_taskTurn 305 = .ok (.ireturn, 1) := by decide +kernel
set_option maxRecDepth 20000 in
theorem a_X16_taskTurn_304 {Q : Sg → Int → Prop} {X : Sg → String → Prop} (K : MC R p s m args c cX16_taskTurn 12 RX16 D cA tys A n0 s0 7 196 []) (hQ : HQI p l e R s m args below meth c cX16_taskTurn D cA A n0 s0 QM dm ra jx rm Q) (hX : HX p l e R s m args below meth c 12 D cA A n0 s0 QM dm ra jx rm X) : ∀ (σ : Sg), w_X16_taskTurn_304 ra jx rm Q X σ → RG σ → Shp dm ra jx rm σ → JJ p l e R s m args below meth c 12 D cA A n0 s0 QM σ 304 [(0, .ref rm)] [] := by
  intro σ h hGσ hS H locs ls hH hl hc
  have B := K.1
  unfold w_X16_taskTurn_304 at h
  refine lv_iconst (v := i32 1) B.1 B.2.1 dX16_taskTurn_304 (by decide) ?_
  exact hQ _ _ _ _ _ _ (by unfold rng; omega) dX16_taskTurn_305 hH hc h hGσ hS
set_option maxRecDepth 20000 in
theorem a_X16_taskTurn_295 {Q : Sg → Int → Prop} {X : Sg → String → Prop} (K : MC R p s m args c cX16_taskTurn 12 RX16 D cA tys A n0 s0 7 196 []) (hQ : HQI p l e R s m args below meth c cX16_taskTurn D cA A n0 s0 QM dm ra jx rm Q) (hX : HX p l e R s m args below meth c 12 D cA A n0 s0 QM dm ra jx rm X) : ∀ (σ : Sg) (v1 : Int) (v2 : Int) (v3 : Int) (v5 : Int) (g1 : rng v1) (g2 : rng v2) (g3 : rng v3) (g5 : rng v5), w_X16_taskTurn_295 ra jx rm Q X σ v1 v2 v3 v5 → RG σ → Shp dm ra jx rm σ → JJ p l e R s m args below meth c 12 D cA A n0 s0 QM σ 295 [(0, .ref rm), (1, .int (i32 v1)), (2, .int (i32 v2)), (3, .int (i32 v3)), (5, .int (i32 v5))] [] := by
  intro σ v1 v2 v3 v5 g1 g2 g3 g5 h hGσ hS H locs ls hH hl hc
  have B := K.1
  unfold w_X16_taskTurn_295 at h
  refine lv_aload_n B.1 B.2.1 dX16_taskTurn_295 rfl (lv_at hl 0 rfl) ?_
  refine lv_iload_n B.1 B.2.1 dX16_taskTurn_296 rfl (lv_at hl 1 rfl) ?_
  refine lv_iload B.1 B.2.1 dX16_taskTurn_297 (lv_at hl 4 rfl) ?_
  refine lv_iload_n B.1 B.2.1 dX16_taskTurn_299 rfl (lv_at hl 2 rfl) ?_
  refine lv_iload_n B.1 B.2.1 dX16_taskTurn_300 rfl (lv_at hl 3 rfl) ?_
  refine c_V B hH hl hc K.2.2.1 (C := RX16) (T := TX16) (N := 123) (ci := 16) (As := [.int (i32 v1), .int (i32 v5), .int (i32 v2), .int (i32 v3)]) (ok_X16_takeBarrier K.2.1 σ v1 v5 v2 v3 g1 g5 g2 g3 hGσ hS h) wc_X16_800 4 hd_X16_takeBarrier ⟨Nat.le_trans (Nat.le_of_ble_eq_true rfl) K.2.2.2.1, Nat.le_trans (Nat.le_of_ble_eq_true rfl) K.2.2.2.2.1⟩ hS.1.1 hS.1.2 (by decide) rfl rfl (rest := []) rfl (Nat.le_of_ble_eq_true rfl) dX16_taskTurn_301 (fun σ29 w hq => ?_) (fun σ9 E9 hx9 => hX σ9 E9 _ _ _ (tb_out K.2.2.2.2.2 rfl) hx9.1 hx9.2.1 hx9.2.2)
  obtain ⟨rfl, h, hGσ29, hS⟩ := hq
  intro H locs ls hH hl hc
  refine W.eq (g2 := F0 m 304 ls []) (rfl) ?_
  try dsimp only at h
  exact a_X16_taskTurn_304 K hQ hX _ h hGσ29 hS _ _ _ hH (lv_sub (l' := [(0, .ref rm)]) hl [0] rfl) hc
set_option maxRecDepth 20000 in
theorem a_X16_taskTurn_281 {Q : Sg → Int → Prop} {X : Sg → String → Prop} (K : MC R p s m args c cX16_taskTurn 12 RX16 D cA tys A n0 s0 7 196 []) (hQ : HQI p l e R s m args below meth c cX16_taskTurn D cA A n0 s0 QM dm ra jx rm Q) (hX : HX p l e R s m args below meth c 12 D cA A n0 s0 QM dm ra jx rm X) : ∀ (σ : Sg) (v1 : Int) (v2 : Int) (v3 : Int) (v5 : Int) (v8 : Int64) (g1 : rng v1) (g2 : rng v2) (g3 : rng v3) (g5 : rng v5), w_X16_taskTurn_281 ra jx rm Q X σ v1 v2 v3 v5 v8 → RG σ → Shp dm ra jx rm σ → JJ p l e R s m args below meth c 12 D cA A n0 s0 QM σ 281 [(0, .ref rm), (1, .int (i32 v1)), (2, .int (i32 v2)), (3, .int (i32 v3)), (5, .int (i32 v5)), (8, .long v8)] [] := by
  intro σ v1 v2 v3 v5 v8 g1 g2 g3 g5 h hGσ hS H locs ls hH hl hc
  have B := K.1
  unfold w_X16_taskTurn_281 at h
  refine lv_aload_n B.1 B.2.1 dX16_taskTurn_281 rfl (lv_at hl 0 rfl) ?_
  refine lv_iload_n B.1 B.2.1 dX16_taskTurn_282 rfl (lv_at hl 1 rfl) ?_
  refine lv_iload B.1 B.2.1 dX16_taskTurn_283 (lv_at hl 4 rfl) ?_
  refine lv_lload B.1 B.2.1 dX16_taskTurn_285 (lv_at hl 5 rfl) ?_
  refine lv_iload_n B.1 B.2.1 dX16_taskTurn_287 rfl (lv_at hl 2 rfl) ?_
  refine lv_iload_n B.1 B.2.1 dX16_taskTurn_288 rfl (lv_at hl 3 rfl) ?_
  refine c_V B hH hl hc K.2.2.1 (C := RX16) (T := TX16) (N := 123) (ci := 16) (As := [.int (i32 v1), .int (i32 v5), .long v8, .int (i32 v2), .int (i32 v3)]) (ok_X16_takeWatermark K.2.1 σ v1 v5 v8 v2 v3 g1 g5 g2 g3 hGσ hS h) wc_X16_796 5 hd_X16_takeWatermark ⟨Nat.le_trans (Nat.le_of_ble_eq_true rfl) K.2.2.2.1, Nat.le_trans (Nat.le_of_ble_eq_true rfl) K.2.2.2.2.1⟩ hS.1.1 hS.1.2 (by decide) rfl rfl (rest := []) rfl (Nat.le_of_ble_eq_true rfl) dX16_taskTurn_289 (fun σ30 w hq => ?_) (fun σ9 E9 hx9 => hX σ9 E9 _ _ _ (tb_out K.2.2.2.2.2 rfl) hx9.1 hx9.2.1 hx9.2.2)
  obtain ⟨rfl, h, hGσ30, hS⟩ := hq
  intro H locs ls hH hl hc
  refine W.eq (g2 := F0 m 292 ls []) (rfl) ?_
  try dsimp only at h
  refine lv_goto (tgt := 304) B.1 B.2.1 dX16_taskTurn_292 (by decide) ?_
  exact a_X16_taskTurn_304 K hQ hX _ h hGσ30 hS _ _ _ hH (lv_sub (l' := [(0, .ref rm)]) hl [0] rfl) hc
set_option maxRecDepth 20000 in
theorem a_X16_taskTurn_275 {Q : Sg → Int → Prop} {X : Sg → String → Prop} (K : MC R p s m args c cX16_taskTurn 12 RX16 D cA tys A n0 s0 7 196 []) (hQ : HQI p l e R s m args below meth c cX16_taskTurn D cA A n0 s0 QM dm ra jx rm Q) (hX : HX p l e R s m args below meth c 12 D cA A n0 s0 QM dm ra jx rm X) : ∀ (σ : Sg) (v1 : Int) (v2 : Int) (v3 : Int) (v5 : Int) (v7 : Int) (v8 : Int64) (g1 : rng v1) (g2 : rng v2) (g3 : rng v3) (g5 : rng v5) (g7 : rng v7), w_X16_taskTurn_275 ra jx rm Q X σ v1 v2 v3 v5 v7 v8 → RG σ → Shp dm ra jx rm σ → JJ p l e R s m args below meth c 12 D cA A n0 s0 QM σ 275 [(0, .ref rm), (1, .int (i32 v1)), (2, .int (i32 v2)), (3, .int (i32 v3)), (5, .int (i32 v5)), (7, .int (i32 v7)), (8, .long v8)] [] := by
  intro σ v1 v2 v3 v5 v7 v8 g1 g2 g3 g5 g7 h hGσ hS H locs ls hH hl hc
  have B := K.1
  unfold w_X16_taskTurn_275 at h
  refine lv_iload B.1 B.2.1 dX16_taskTurn_275 (lv_at hl 5 rfl) ?_
  refine lv_iconst (v := i32 1) B.1 B.2.1 dX16_taskTurn_277 (by decide) ?_
  refine lv_icmp_ne (tgt := 295) B.1 B.2.1 dX16_taskTurn_278 (by decide) (fun h9 => ?_) (fun h9 => ?_)
  · rw [if_pos (fun q => h9 ((i32_eq g7 (by unfold rng; omega)).mpr q))] at h
    exact a_X16_taskTurn_295 K hQ hX _ _ _ _ _ g1 g2 g3 g5 h hGσ hS _ _ _ hH (lv_sub (l' := [(0, .ref rm), (1, .int (i32 v1)), (2, .int (i32 v2)), (3, .int (i32 v3)), (5, .int (i32 v5))]) hl [0, 1, 2, 3, 4] rfl) hc
  · rw [if_neg (fun q => q ((i32_eq g7 (by unfold rng; omega)).mp h9))] at h
    exact a_X16_taskTurn_281 K hQ hX _ _ _ _ _ _ g1 g2 g3 g5 h hGσ hS _ _ _ hH (lv_sub (l' := [(0, .ref rm), (1, .int (i32 v1)), (2, .int (i32 v2)), (3, .int (i32 v3)), (5, .int (i32 v5)), (8, .long v8)]) hl [0, 1, 2, 3, 4, 6] rfl) hc
set_option maxRecDepth 20000 in
theorem a_X16_taskTurn_256 {Q : Sg → Int → Prop} {X : Sg → String → Prop} (K : MC R p s m args c cX16_taskTurn 12 RX16 D cA tys A n0 s0 7 196 []) (hQ : HQI p l e R s m args below meth c cX16_taskTurn D cA A n0 s0 QM dm ra jx rm Q) (hX : HX p l e R s m args below meth c 12 D cA A n0 s0 QM dm ra jx rm X) : ∀ (σ : Sg) (v1 : Int) (v5 : Int) (v8 : Int64) (v10 : Int) (g1 : rng v1) (g5 : rng v5) (g10 : rng v10), w_X16_taskTurn_256 ra jx rm Q X σ v1 v5 v8 v10 → RG σ → Shp dm ra jx rm σ → JJ p l e R s m args below meth c 12 D cA A n0 s0 QM σ 256 [(0, .ref rm), (1, .int (i32 v1)), (5, .int (i32 v5)), (8, .long v8), (10, .int (i32 v10))] [] := by
  intro σ v1 v5 v8 v10 g1 g5 g10 h hGσ hS H locs ls hH hl hc
  have B := K.1
  unfold w_X16_taskTurn_256 at h
  refine lv_aload_n B.1 B.2.1 dX16_taskTurn_256 rfl (lv_at hl 0 rfl) ?_
  refine lv_iload_n B.1 B.2.1 dX16_taskTurn_257 rfl (lv_at hl 1 rfl) ?_
  refine lv_aload_n B.1 B.2.1 dX16_taskTurn_258 rfl (lv_at hl 0 rfl) ?_
  refine r_arr B hH hS 53 (kd := 100) (n := 1100) (by decide) (by decide) wf_X16_377 rfl rfl dX16_taskTurn_259 ?_
  refine lv_iload B.1 B.2.1 dX16_taskTurn_262 (lv_at hl 2 rfl) ?_
  obtain ⟨q1, h⟩ := h
  refine x_iald B K.2.1 hH (hS.ar (k := 53) (kd := 100) (n := 1100) (by decide)) (by decide) q1 dX16_taskTurn_264 ?_
  refine lv_lload B.1 B.2.1 dX16_taskTurn_265 (lv_at hl 3 rfl) ?_
  refine lv_iload B.1 B.2.1 dX16_taskTurn_267 (lv_at hl 4 rfl) ?_
  refine c_V B hH hl hc K.2.2.1 (C := RX16) (T := TX16) (N := 123) (ci := 16) (As := [.int (i32 v1), .int (i32 (gI σ (ra 53) v5.toNat)), .long v8, .int (i32 v10)]) (ok_X16_takeRow K.2.1 σ v1 (gI σ (ra 53) v5.toNat) v8 v10 g1 (hGσ _ _) g10 hGσ hS h) wc_X16_793 4 hd_X16_takeRow ⟨Nat.le_trans (Nat.le_of_ble_eq_true rfl) K.2.2.2.1, Nat.le_trans (Nat.le_of_ble_eq_true rfl) K.2.2.2.2.1⟩ hS.1.1 hS.1.2 (by decide) rfl rfl (rest := []) rfl (Nat.le_of_ble_eq_true rfl) dX16_taskTurn_269 (fun σ31 w hq => ?_) (fun σ9 E9 hx9 => hX σ9 E9 _ _ _ (tb_out K.2.2.2.2.2 rfl) hx9.1 hx9.2.1 hx9.2.2)
  obtain ⟨rfl, h, hGσ31, hS⟩ := hq
  intro H locs ls hH hl hc
  refine W.eq (g2 := F0 m 272 ls []) (rfl) ?_
  try dsimp only at h
  refine lv_goto (tgt := 304) B.1 B.2.1 dX16_taskTurn_272 (by decide) ?_
  exact a_X16_taskTurn_304 K hQ hX _ h hGσ31 hS _ _ _ hH (lv_sub (l' := [(0, .ref rm)]) hl [0] rfl) hc
set_option maxRecDepth 20000 in
theorem a_X16_taskTurn_245 {Q : Sg → Int → Prop} {X : Sg → String → Prop} (K : MC R p s m args c cX16_taskTurn 12 RX16 D cA tys A n0 s0 7 196 []) (hQ : HQI p l e R s m args below meth c cX16_taskTurn D cA A n0 s0 QM dm ra jx rm Q) (hX : HX p l e R s m args below meth c 12 D cA A n0 s0 QM dm ra jx rm X) : ∀ (σ : Sg) (v1 : Int) (v2 : Int) (v3 : Int) (v5 : Int) (v6 : Int) (v7 : Int) (v8 : Int64) (v10 : Int) (g1 : rng v1) (g2 : rng v2) (g3 : rng v3) (g5 : rng v5) (g6 : rng v6) (g7 : rng v7) (g10 : rng v10), w_X16_taskTurn_245 ra jx rm Q X σ v1 v2 v3 v5 v6 v7 v8 v10 → RG σ → Shp dm ra jx rm σ → JJ p l e R s m args below meth c 12 D cA A n0 s0 QM σ 245 [(0, .ref rm), (1, .int (i32 v1)), (2, .int (i32 v2)), (3, .int (i32 v3)), (5, .int (i32 v5)), (6, .int (i32 v6)), (7, .int (i32 v7)), (8, .long v8), (10, .int (i32 v10))] [] := by
  intro σ v1 v2 v3 v5 v6 v7 v8 v10 g1 g2 g3 g5 g6 g7 g10 h hGσ hS H locs ls hH hl hc
  have B := K.1
  unfold w_X16_taskTurn_245 at h
  refine lv_aload_n B.1 B.2.1 dX16_taskTurn_245 rfl (lv_at hl 0 rfl) ?_
  refine lv_iload B.1 B.2.1 dX16_taskTurn_246 (lv_at hl 5 rfl) ?_
  refine c_V B hH hl hc K.2.2.1 (C := RX16) (T := TX16) (N := 123) (ci := 16) (As := [.int (i32 v6)]) (ok_X16_free K.2.1 σ v6 g6 hGσ hS h) wc_X16_790 1 hd_X16_free ⟨Nat.le_trans (Nat.le_of_ble_eq_true rfl) K.2.2.2.1, Nat.le_trans (Nat.le_of_ble_eq_true rfl) K.2.2.2.2.1⟩ hS.1.1 hS.1.2 (by decide) rfl rfl (rest := []) rfl (Nat.le_of_ble_eq_true rfl) dX16_taskTurn_248 (fun σ32 w hq => ?_) (fun σ9 E9 hx9 => hX σ9 E9 _ _ _ (tb_out K.2.2.2.2.2 rfl) hx9.1 hx9.2.1 hx9.2.2)
  obtain ⟨rfl, h, hGσ32, hS⟩ := hq
  intro H locs ls hH hl hc
  refine W.eq (g2 := F0 m 251 ls []) (rfl) ?_
  try dsimp only at h
  refine lv_iload B.1 B.2.1 dX16_taskTurn_251 (lv_at hl 6 rfl) ?_
  refine lv_if_ne (tgt := 275) B.1 B.2.1 dX16_taskTurn_253 (by decide) (fun h9 => ?_) (fun h9 => ?_)
  · rw [if_pos (fun q => h9 ((z_eq g7).mpr q))] at h
    exact a_X16_taskTurn_275 K hQ hX _ _ _ _ _ _ _ g1 g2 g3 g5 g7 h hGσ32 hS _ _ _ hH (lv_sub (l' := [(0, .ref rm), (1, .int (i32 v1)), (2, .int (i32 v2)), (3, .int (i32 v3)), (5, .int (i32 v5)), (7, .int (i32 v7)), (8, .long v8)]) hl [0, 1, 2, 3, 4, 6, 7] rfl) hc
  · rw [if_neg (fun q => q ((z_eq g7).mp h9))] at h
    exact a_X16_taskTurn_256 K hQ hX _ _ _ _ _ g1 g5 g10 h hGσ32 hS _ _ _ hH (lv_sub (l' := [(0, .ref rm), (1, .int (i32 v1)), (5, .int (i32 v5)), (8, .long v8), (10, .int (i32 v10))]) hl [0, 1, 4, 7, 8] rfl) hc
set_option maxRecDepth 20000 in
theorem a_X16_taskTurn_219 {Q : Sg → Int → Prop} {X : Sg → String → Prop} (K : MC R p s m args c cX16_taskTurn 12 RX16 D cA tys A n0 s0 7 196 []) (hQ : HQI p l e R s m args below meth c cX16_taskTurn D cA A n0 s0 QM dm ra jx rm Q) (hX : HX p l e R s m args below meth c 12 D cA A n0 s0 QM dm ra jx rm X) {K212 : Sg → Int → Int → Int → Int → Int → Int → Int64 → Int → Int → Prop} (hK212 : ∀ (σ : Sg) (v1 : Int) (v2 : Int) (v3 : Int) (v5 : Int) (v6 : Int) (v7 : Int) (v8 : Int64) (v10 : Int) (v11 : Int) (g1 : rng v1) (g2 : rng v2) (g3 : rng v3) (g5 : rng v5) (g6 : rng v6) (g7 : rng v7) (g10 : rng v10) (g11 : rng v11), K212 σ v1 v2 v3 v5 v6 v7 v8 v10 v11 → RG σ → Shp dm ra jx rm σ → JJ p l e R s m args below meth c 12 D cA A n0 s0 QM σ 212 [(0, .ref rm), (1, .int (i32 v1)), (2, .int (i32 v2)), (3, .int (i32 v3)), (5, .int (i32 v5)), (6, .int (i32 v6)), (7, .int (i32 v7)), (8, .long v8), (10, .int (i32 v10)), (11, .int (i32 v11))] []) : ∀ (σ : Sg) (v1 : Int) (v2 : Int) (v3 : Int) (v5 : Int) (v6 : Int) (v7 : Int) (v8 : Int64) (v10 : Int) (v11 : Int) (g1 : rng v1) (g2 : rng v2) (g3 : rng v3) (g5 : rng v5) (g6 : rng v6) (g7 : rng v7) (g10 : rng v10) (g11 : rng v11), w_X16_taskTurn_219 ra jx rm K212 Q X σ v1 v2 v3 v5 v6 v7 v8 v10 v11 → RG σ → Shp dm ra jx rm σ → JJ p l e R s m args below meth c 12 D cA A n0 s0 QM σ 219 [(0, .ref rm), (1, .int (i32 v1)), (2, .int (i32 v2)), (3, .int (i32 v3)), (5, .int (i32 v5)), (6, .int (i32 v6)), (7, .int (i32 v7)), (8, .long v8), (10, .int (i32 v10)), (11, .int (i32 v11))] [] := by
  intro σ v1 v2 v3 v5 v6 v7 v8 v10 v11 g1 g2 g3 g5 g6 g7 g10 g11 h hGσ hS H locs ls hH hl hc
  have B := K.1
  unfold w_X16_taskTurn_219 at h
  refine lv_aload_n B.1 B.2.1 dX16_taskTurn_219 rfl (lv_at hl 0 rfl) ?_
  refine r_arr B hH hS 81 (kd := 101) (n := 8) (by decide) (by decide) wf_X16_542 rfl rfl dX16_taskTurn_220 ?_
  refine lv_iload B.1 B.2.1 dX16_taskTurn_223 (lv_at hl 9 rfl) ?_
  refine lv_aload_n B.1 B.2.1 dX16_taskTurn_225 rfl (lv_at hl 0 rfl) ?_
  refine r_arr B hH hS 62 (kd := 101) (n := 102416) (by decide) (by decide) wf_X16_473 rfl rfl dX16_taskTurn_226 ?_
  refine lv_bipush (v := i32 8) B.1 B.2.1 dX16_taskTurn_229 (by decide) ?_
  refine lv_iload B.1 B.2.1 dX16_taskTurn_231 (lv_at hl 5 rfl) ?_
  obtain ⟨q1, h⟩ := h
  refine lv_imul B.1 B.2.1 dX16_taskTurn_233 ?_
  rw [i32_mul]
  refine lv_iload B.1 B.2.1 dX16_taskTurn_234 (lv_at hl 9 rfl) ?_
  obtain ⟨q2, h⟩ := h
  refine lv_iadd B.1 B.2.1 dX16_taskTurn_236 ?_
  rw [i32_add]
  obtain ⟨q3, h⟩ := h
  refine x_lald B K.2.1 hH (hS.ar (k := 62) (kd := 101) (n := 102416) (by decide)) (by decide) q3 dX16_taskTurn_237 ?_
  obtain ⟨q4, h⟩ := h
  obtain ⟨σ33, eσ33⟩ : ∃ z, z = pJ σ (ra 81) v11.toNat (gJ σ (ra 62) ((8 * v6) + v11).toNat) := ⟨_, rfl⟩
  have h := h σ33 eσ33
  refine x_last B K.2.1 hH (hS.ar (k := 81) (kd := 101) (n := 8) (by decide)) (by decide) q4 dX16_taskTurn_238 (fun H locs hH => ?_)
  have hH : Hd D cA A s (pJ σ (ra 81) v11.toNat (gJ σ (ra 62) ((8 * v6) + v11).toNat)) H locs := hH
  rw [← eσ33] at hH
  have hGσ33 : RG σ33 := by rw [eσ33]; exact hGσ.pJ
  have hS : Shp dm ra jx rm σ33 := by rw [eσ33]; exact hS
  have hc : CB n0 s0 σ33 := by rw [eσ33]; exact hc
  rw [show gc σ = gc σ33 by rw [eσ33], show gs σ = gs σ33 by rw [eσ33]]
  obtain ⟨q6, h⟩ := h
  refine lv_iinc (k := 9) (v := i32 (v11 + 1)) (lv' := [(11, .int (i32 (v11 + 1))), (0, .ref rm), (1, .int (i32 v1)), (2, .int (i32 v2)), (3, .int (i32 v3)), (5, .int (i32 v5)), (6, .int (i32 v6)), (7, .int (i32 v7)), (8, .long v8), (10, .int (i32 v10))]) B.1 B.2.1 dX16_taskTurn_239 hl rfl (i32_add _ _) (by decide) rfl (fun ls hl => ?_)
  refine lv_goto (tgt := 212) B.1 B.2.1 dX16_taskTurn_242 (by decide) ?_
  exact hK212 _ _ _ _ _ _ _ _ _ _ g1 g2 g3 g5 g6 g7 g10 q6 h hGσ33 hS _ _ _ hH (lv_sub (l' := [(0, .ref rm), (1, .int (i32 v1)), (2, .int (i32 v2)), (3, .int (i32 v3)), (5, .int (i32 v5)), (6, .int (i32 v6)), (7, .int (i32 v7)), (8, .long v8), (10, .int (i32 v10)), (11, .int (i32 (v11 + 1)))]) hl [1, 2, 3, 4, 5, 6, 7, 8, 9, 0] rfl) hc
set_option maxRecDepth 20000 in
theorem a_X16_taskTurn_212 {Q : Sg → Int → Prop} {X : Sg → String → Prop} (K : MC R p s m args c cX16_taskTurn 12 RX16 D cA tys A n0 s0 7 196 []) (hQ : HQI p l e R s m args below meth c cX16_taskTurn D cA A n0 s0 QM dm ra jx rm Q) (hX : HX p l e R s m args below meth c 12 D cA A n0 s0 QM dm ra jx rm X) {K212 : Sg → Int → Int → Int → Int → Int → Int → Int64 → Int → Int → Prop} (hK212 : ∀ (σ : Sg) (v1 : Int) (v2 : Int) (v3 : Int) (v5 : Int) (v6 : Int) (v7 : Int) (v8 : Int64) (v10 : Int) (v11 : Int) (g1 : rng v1) (g2 : rng v2) (g3 : rng v3) (g5 : rng v5) (g6 : rng v6) (g7 : rng v7) (g10 : rng v10) (g11 : rng v11), K212 σ v1 v2 v3 v5 v6 v7 v8 v10 v11 → RG σ → Shp dm ra jx rm σ → JJ p l e R s m args below meth c 12 D cA A n0 s0 QM σ 212 [(0, .ref rm), (1, .int (i32 v1)), (2, .int (i32 v2)), (3, .int (i32 v3)), (5, .int (i32 v5)), (6, .int (i32 v6)), (7, .int (i32 v7)), (8, .long v8), (10, .int (i32 v10)), (11, .int (i32 v11))] []) : ∀ (σ : Sg) (v1 : Int) (v2 : Int) (v3 : Int) (v5 : Int) (v6 : Int) (v7 : Int) (v8 : Int64) (v10 : Int) (v11 : Int) (g1 : rng v1) (g2 : rng v2) (g3 : rng v3) (g5 : rng v5) (g6 : rng v6) (g7 : rng v7) (g10 : rng v10) (g11 : rng v11), w_X16_taskTurn_212 ra jx rm K212 Q X σ v1 v2 v3 v5 v6 v7 v8 v10 v11 → RG σ → Shp dm ra jx rm σ → JJ p l e R s m args below meth c 12 D cA A n0 s0 QM σ 212 [(0, .ref rm), (1, .int (i32 v1)), (2, .int (i32 v2)), (3, .int (i32 v3)), (5, .int (i32 v5)), (6, .int (i32 v6)), (7, .int (i32 v7)), (8, .long v8), (10, .int (i32 v10)), (11, .int (i32 v11))] [] := by
  intro σ v1 v2 v3 v5 v6 v7 v8 v10 v11 g1 g2 g3 g5 g6 g7 g10 g11 h hGσ hS H locs ls hH hl hc
  have B := K.1
  unfold w_X16_taskTurn_212 at h
  refine lv_iload B.1 B.2.1 dX16_taskTurn_212 (lv_at hl 9 rfl) ?_
  refine lv_bipush (v := i32 8) B.1 B.2.1 dX16_taskTurn_214 (by decide) ?_
  refine lv_icmp_ge (tgt := 245) B.1 B.2.1 dX16_taskTurn_216 (by decide) (fun h9 => ?_) (fun h9 => ?_)
  · rw [if_pos ((i32_le (by unfold rng; omega) g11).mp h9)] at h
    exact a_X16_taskTurn_245 K hQ hX _ _ _ _ _ _ _ _ _ g1 g2 g3 g5 g6 g7 g10 h hGσ hS _ _ _ hH (lv_sub (l' := [(0, .ref rm), (1, .int (i32 v1)), (2, .int (i32 v2)), (3, .int (i32 v3)), (5, .int (i32 v5)), (6, .int (i32 v6)), (7, .int (i32 v7)), (8, .long v8), (10, .int (i32 v10))]) hl [0, 1, 2, 3, 4, 5, 6, 7, 8] rfl) hc
  · rw [if_neg (fun q => h9 ((i32_le (by unfold rng; omega) g11).mpr q))] at h
    exact a_X16_taskTurn_219 K hQ hX hK212 _ _ _ _ _ _ _ _ _ _ g1 g2 g3 g5 g6 g7 g10 g11 h hGσ hS _ _ _ hH (lv_sub (l' := [(0, .ref rm), (1, .int (i32 v1)), (2, .int (i32 v2)), (3, .int (i32 v3)), (5, .int (i32 v5)), (6, .int (i32 v6)), (7, .int (i32 v7)), (8, .long v8), (10, .int (i32 v10)), (11, .int (i32 v11))]) hl [0, 1, 2, 3, 4, 5, 6, 7, 8, 9] rfl) hc
theorem al_X16_taskTurn_212 {Q : Sg → Int → Prop} {X : Sg → String → Prop} (K : MC R p s m args c cX16_taskTurn 12 RX16 D cA tys A n0 s0 7 196 []) (hQ : HQI p l e R s m args below meth c cX16_taskTurn D cA A n0 s0 QM dm ra jx rm Q) (hX : HX p l e R s m args below meth c 12 D cA A n0 s0 QM dm ra jx rm X) : ∀ (n : Nat), ∀ (σ : Sg) (v1 : Int) (v2 : Int) (v3 : Int) (v5 : Int) (v6 : Int) (v7 : Int) (v8 : Int64) (v10 : Int) (v11 : Int) (g1 : rng v1) (g2 : rng v2) (g3 : rng v3) (g5 : rng v5) (g6 : rng v6) (g7 : rng v7) (g10 : rng v10) (g11 : rng v11), wl_X16_taskTurn_212 ra jx rm Q X n σ v1 v2 v3 v5 v6 v7 v8 v10 v11 → RG σ → Shp dm ra jx rm σ → JJ p l e R s m args below meth c 12 D cA A n0 s0 QM σ 212 [(0, .ref rm), (1, .int (i32 v1)), (2, .int (i32 v2)), (3, .int (i32 v3)), (5, .int (i32 v5)), (6, .int (i32 v6)), (7, .int (i32 v7)), (8, .long v8), (10, .int (i32 v10)), (11, .int (i32 v11))] [] := by
  intro n
  induction n with
  | zero => intro σ v1 v2 v3 v5 v6 v7 v8 v10 v11 g1 g2 g3 g5 g6 g7 g10 g11 h; exact h.elim
  | succ n ih => exact fun σ v1 v2 v3 v5 v6 v7 v8 v10 v11 g1 g2 g3 g5 g6 g7 g10 g11 h => a_X16_taskTurn_212 K hQ hX ih σ v1 v2 v3 v5 v6 v7 v8 v10 v11 g1 g2 g3 g5 g6 g7 g10 g11 h
set_option maxRecDepth 20000 in
theorem a_X16_taskTurn_109 {Q : Sg → Int → Prop} {X : Sg → String → Prop} (K : MC R p s m args c cX16_taskTurn 12 RX16 D cA tys A n0 s0 7 196 []) (hQ : HQI p l e R s m args below meth c cX16_taskTurn D cA A n0 s0 QM dm ra jx rm Q) (hX : HX p l e R s m args below meth c 12 D cA A n0 s0 QM dm ra jx rm X) : ∀ (σ : Sg) (v1 : Int) (v2 : Int) (v3 : Int) (v5 : Int) (g1 : rng v1) (g2 : rng v2) (g3 : rng v3) (g5 : rng v5), w_X16_taskTurn_109 ra jx rm Q X σ v1 v2 v3 v5 → RG σ → Shp dm ra jx rm σ → JJ p l e R s m args below meth c 12 D cA A n0 s0 QM σ 109 [(0, .ref rm), (1, .int (i32 v1)), (2, .int (i32 v2)), (3, .int (i32 v3)), (5, .int (i32 v5))] [] := by
  intro σ v1 v2 v3 v5 g1 g2 g3 g5 h hGσ hS H locs ls hH hl hc
  have B := K.1
  unfold w_X16_taskTurn_109 at h
  refine lv_aload_n B.1 B.2.1 dX16_taskTurn_109 rfl (lv_at hl 0 rfl) ?_
  refine r_arr B hH hS 45 (kd := 100) (n := 64) (by decide) (by decide) wf_X16_432 rfl rfl dX16_taskTurn_110 ?_
  refine lv_iload_n B.1 B.2.1 dX16_taskTurn_113 rfl (lv_at hl 1 rfl) ?_
  refine lv_iload B.1 B.2.1 dX16_taskTurn_114 (lv_at hl 4 rfl) ?_
  obtain ⟨q1, h⟩ := h
  obtain ⟨σ34, eσ34⟩ : ∃ z, z = pI σ (ra 45) v1.toNat v5 := ⟨_, rfl⟩
  have h := h σ34 eσ34
  refine x_iast B K.2.1 hH (hS.ar (k := 45) (kd := 100) (n := 64) (by decide)) (by decide) q1 dX16_taskTurn_116 (fun H locs hH => ?_)
  have hH : Hd D cA A s (pI σ (ra 45) v1.toNat v5) H locs := hH
  rw [← eσ34] at hH
  have hGσ34 : RG σ34 := by rw [eσ34]; exact hGσ.pI g5
  have hS : Shp dm ra jx rm σ34 := by rw [eσ34]; exact hS
  have hc : CB n0 s0 σ34 := by rw [eσ34]; exact hc
  rw [show gc σ = gc σ34 by rw [eσ34], show gs σ = gs σ34 by rw [eσ34]]
  refine lv_aload_n B.1 B.2.1 dX16_taskTurn_117 rfl (lv_at hl 0 rfl) ?_
  refine r_arr B hH hS 59 (kd := 100) (n := 8800) (by decide) (by decide) wf_X16_492 rfl rfl dX16_taskTurn_118 ?_
  refine lv_bipush (v := i32 8) B.1 B.2.1 dX16_taskTurn_121 (by decide) ?_
  refine lv_iload B.1 B.2.1 dX16_taskTurn_123 (lv_at hl 4 rfl) ?_
  obtain ⟨q3, h⟩ := h
  refine lv_imul B.1 B.2.1 dX16_taskTurn_125 ?_
  rw [i32_mul]
  refine lv_aload_n B.1 B.2.1 dX16_taskTurn_126 rfl (lv_at hl 0 rfl) ?_
  refine r_arr B hH hS 55 (kd := 100) (n := 1100) (by decide) (by decide) wf_X16_450 rfl rfl dX16_taskTurn_127 ?_
  refine lv_iload B.1 B.2.1 dX16_taskTurn_130 (lv_at hl 4 rfl) ?_
  obtain ⟨q4, h⟩ := h
  refine x_iald B K.2.1 hH (hS.ar (k := 55) (kd := 100) (n := 1100) (by decide)) (by decide) q4 dX16_taskTurn_132 ?_
  obtain ⟨q5, h⟩ := h
  refine lv_iadd B.1 B.2.1 dX16_taskTurn_133 ?_
  rw [i32_add]
  obtain ⟨q6, h⟩ := h
  refine x_iald B K.2.1 hH (hS.ar (k := 59) (kd := 100) (n := 8800) (by decide)) (by decide) q6 dX16_taskTurn_134 ?_
  refine lv_istore (lv' := [(6, .int (i32 (gI σ34 (ra 59) ((8 * v5) + (gI σ34 (ra 55) v5.toNat)).toNat))), (0, .ref rm), (1, .int (i32 v1)), (2, .int (i32 v2)), (3, .int (i32 v3)), (5, .int (i32 v5))]) B.1 B.2.1 dX16_taskTurn_135 hl (by decide) rfl (fun ls hl => ?_)
  refine lv_aload_n B.1 B.2.1 dX16_taskTurn_137 rfl (lv_at hl 1 rfl) ?_
  refine r_arr B hH hS 55 (kd := 100) (n := 1100) (by decide) (by decide) wf_X16_450 rfl rfl dX16_taskTurn_138 ?_
  refine lv_iload B.1 B.2.1 dX16_taskTurn_141 (lv_at hl 5 rfl) ?_
  refine lv_aload_n B.1 B.2.1 dX16_taskTurn_143 rfl (lv_at hl 1 rfl) ?_
  refine r_arr B hH hS 55 (kd := 100) (n := 1100) (by decide) (by decide) wf_X16_450 rfl rfl dX16_taskTurn_144 ?_
  refine lv_iload B.1 B.2.1 dX16_taskTurn_147 (lv_at hl 5 rfl) ?_
  obtain ⟨q7, h⟩ := h
  refine x_iald B K.2.1 hH (hS.ar (k := 55) (kd := 100) (n := 1100) (by decide)) (by decide) q7 dX16_taskTurn_149 ?_
  refine lv_iconst (v := i32 1) B.1 B.2.1 dX16_taskTurn_150 (by decide) ?_
  obtain ⟨q8, h⟩ := h
  refine lv_iadd B.1 B.2.1 dX16_taskTurn_151 ?_
  rw [i32_add]
  refine lv_bipush (v := i32 8) B.1 B.2.1 dX16_taskTurn_152 (by decide) ?_
  refine lv_irem B.1 B.2.1 dX16_taskTurn_154 (i32_ne0 (by unfold rng; omega) (by decide)) ?_
  refine W.eq (g2 := F0 m 155 ls [.int (i32 (remI ((gI σ34 (ra 55) v5.toNat) + 1) 8)), .int (i32 v5), .ref (ra 55)]) (by unfold remI; rw [i32_self]) ?_
  obtain ⟨q9, h⟩ := h
  obtain ⟨σ35, eσ35⟩ : ∃ z, z = pI σ34 (ra 55) v5.toNat (remI ((gI σ34 (ra 55) v5.toNat) + 1) 8) := ⟨_, rfl⟩
  have h := h σ35 eσ35
  refine x_iast B K.2.1 hH (hS.ar (k := 55) (kd := 100) (n := 1100) (by decide)) (by decide) q9 dX16_taskTurn_155 (fun H locs hH => ?_)
  have hH : Hd D cA A s (pI σ34 (ra 55) v5.toNat (remI ((gI σ34 (ra 55) v5.toNat) + 1) 8)) H locs := hH
  rw [← eσ35] at hH
  have hGσ35 : RG σ35 := by rw [eσ35]; exact hGσ34.pI (rng_remI _ _)
  have hS : Shp dm ra jx rm σ35 := by rw [eσ35]; exact hS
  have hc : CB n0 s0 σ35 := by rw [eσ35]; exact hc
  rw [show gc σ34 = gc σ35 by rw [eσ35], show gs σ34 = gs σ35 by rw [eσ35]]
  refine lv_aload_n B.1 B.2.1 dX16_taskTurn_156 rfl (lv_at hl 1 rfl) ?_
  refine r_arr B hH hS 54 (kd := 100) (n := 1100) (by decide) (by decide) wf_X16_447 rfl rfl dX16_taskTurn_157 ?_
  refine lv_iload B.1 B.2.1 dX16_taskTurn_160 (lv_at hl 5 rfl) ?_
  refine lv_dup2_11 B.1 B.2.1 dX16_taskTurn_162 rfl rfl ?_
  obtain ⟨q11, h⟩ := h
  refine x_iald B K.2.1 hH (hS.ar (k := 54) (kd := 100) (n := 1100) (by decide)) (by decide) q11 dX16_taskTurn_163 ?_
  refine lv_iconst (v := i32 1) B.1 B.2.1 dX16_taskTurn_164 (by decide) ?_
  obtain ⟨q12, h⟩ := h
  refine lv_isub B.1 B.2.1 dX16_taskTurn_165 ?_
  rw [i32_sub]
  obtain ⟨q13, h⟩ := h
  obtain ⟨σ36, eσ36⟩ : ∃ z, z = pI σ35 (ra 54) v5.toNat ((gI σ35 (ra 54) v5.toNat) - 1) := ⟨_, rfl⟩
  have h := h σ36 eσ36
  refine x_iast B K.2.1 hH (hS.ar (k := 54) (kd := 100) (n := 1100) (by decide)) (by decide) q13 dX16_taskTurn_166 (fun H locs hH => ?_)
  have hH : Hd D cA A s (pI σ35 (ra 54) v5.toNat ((gI σ35 (ra 54) v5.toNat) - 1)) H locs := hH
  rw [← eσ36] at hH
  have hGσ36 : RG σ36 := by rw [eσ36]; exact hGσ35.pI q12
  have hS : Shp dm ra jx rm σ36 := by rw [eσ36]; exact hS
  have hc : CB n0 s0 σ36 := by rw [eσ36]; exact hc
  rw [show gc σ35 = gc σ36 by rw [eσ36], show gs σ35 = gs σ36 by rw [eσ36]]
  refine lv_aload_n B.1 B.2.1 dX16_taskTurn_167 rfl (lv_at hl 1 rfl) ?_
  refine r_arr B hH hS 41 (kd := 100) (n := 64) (by decide) (by decide) wf_X16_419 rfl rfl dX16_taskTurn_168 ?_
  refine lv_iload_n B.1 B.2.1 dX16_taskTurn_171 rfl (lv_at hl 2 rfl) ?_
  refine lv_dup2_11 B.1 B.2.1 dX16_taskTurn_172 rfl rfl ?_
  obtain ⟨q15, h⟩ := h
  refine x_iald B K.2.1 hH (hS.ar (k := 41) (kd := 100) (n := 64) (by decide)) (by decide) q15 dX16_taskTurn_173 ?_
  refine lv_iconst (v := i32 1) B.1 B.2.1 dX16_taskTurn_174 (by decide) ?_
  refine lv_iadd B.1 B.2.1 dX16_taskTurn_175 ?_
  rw [i32_add]
  refine W.eq (g2 := F0 m 176 ls [.int (i32 (wr ((gI σ36 (ra 41) v1.toNat) + 1))), .int (i32 v1), .ref (ra 41)]) (by rw [i32_wr]) ?_
  obtain ⟨q16, h⟩ := h
  obtain ⟨σ37, eσ37⟩ : ∃ z, z = pI σ36 (ra 41) v1.toNat (wr ((gI σ36 (ra 41) v1.toNat) + 1)) := ⟨_, rfl⟩
  have h := h σ37 eσ37
  refine x_iast B K.2.1 hH (hS.ar (k := 41) (kd := 100) (n := 64) (by decide)) (by decide) q16 dX16_taskTurn_176 (fun H locs hH => ?_)
  have hH : Hd D cA A s (pI σ36 (ra 41) v1.toNat (wr ((gI σ36 (ra 41) v1.toNat) + 1))) H locs := hH
  rw [← eσ37] at hH
  have hGσ37 : RG σ37 := by rw [eσ37]; exact hGσ36.pI (rng_wr _)
  have hS : Shp dm ra jx rm σ37 := by rw [eσ37]; exact hS
  have hc : CB n0 s0 σ37 := by rw [eσ37]; exact hc
  rw [show gc σ36 = gc σ37 by rw [eσ37], show gs σ36 = gs σ37 by rw [eσ37]]
  refine lv_aload_n B.1 B.2.1 dX16_taskTurn_177 rfl (lv_at hl 1 rfl) ?_
  refine lv_iconst (v := i32 1) B.1 B.2.1 dX16_taskTurn_178 (by decide) ?_
  obtain ⟨σ38, eσ38⟩ : ∃ z, z = pI σ37 rm 113 1 := ⟨_, rfl⟩
  have h := h σ38 eσ38
  refine r_puti B hH hS 113 (ty := .int) (by decide) wf_X16_766 rfl rfl rfl rfl rfl rfl dX16_taskTurn_179 (fun H locs hH => ?_)
  have hH : Hd D cA A s (pI σ37 rm 113 1) H locs := hH
  rw [← eσ38] at hH
  have hGσ38 : RG σ38 := by rw [eσ38]; exact hGσ37.pI (by unfold rng; omega)
  have hS : Shp dm ra jx rm σ38 := by rw [eσ38]; exact hS
  have hc : CB n0 s0 σ38 := by rw [eσ38]; exact hc
  rw [show gc σ37 = gc σ38 by rw [eσ38], show gs σ37 = gs σ38 by rw [eσ38]]
  refine lv_aload_n B.1 B.2.1 dX16_taskTurn_182 rfl (lv_at hl 1 rfl) ?_
  refine r_arr B hH hS 60 (kd := 100) (n := 12802) (by decide) (by decide) wf_X16_467 rfl rfl dX16_taskTurn_183 ?_
  refine lv_iload B.1 B.2.1 dX16_taskTurn_186 (lv_at hl 0 rfl) ?_
  obtain ⟨q19, h⟩ := h
  refine x_iald B K.2.1 hH (hS.ar (k := 60) (kd := 100) (n := 12802) (by decide)) (by decide) q19 dX16_taskTurn_188 ?_
  refine lv_istore (lv' := [(7, .int (i32 (gI σ38 (ra 60) (gI σ34 (ra 59) ((8 * v5) + (gI σ34 (ra 55) v5.toNat)).toNat).toNat))), (6, .int (i32 (gI σ34 (ra 59) ((8 * v5) + (gI σ34 (ra 55) v5.toNat)).toNat))), (0, .ref rm), (1, .int (i32 v1)), (2, .int (i32 v2)), (3, .int (i32 v3)), (5, .int (i32 v5))]) B.1 B.2.1 dX16_taskTurn_189 hl (by decide) rfl (fun ls hl => ?_)
  refine lv_aload_n B.1 B.2.1 dX16_taskTurn_191 rfl (lv_at hl 2 rfl) ?_
  refine r_arr B hH hS 61 (kd := 101) (n := 12802) (by decide) (by decide) wf_X16_470 rfl rfl dX16_taskTurn_192 ?_
  refine lv_iload B.1 B.2.1 dX16_taskTurn_195 (lv_at hl 1 rfl) ?_
  obtain ⟨q20, h⟩ := h
  refine x_lald B K.2.1 hH (hS.ar (k := 61) (kd := 101) (n := 12802) (by decide)) (by decide) q20 dX16_taskTurn_197 ?_
  refine lv_lstore (lv' := [(8, .long (gJ σ38 (ra 61) (gI σ34 (ra 59) ((8 * v5) + (gI σ34 (ra 55) v5.toNat)).toNat).toNat)), (7, .int (i32 (gI σ38 (ra 60) (gI σ34 (ra 59) ((8 * v5) + (gI σ34 (ra 55) v5.toNat)).toNat).toNat))), (6, .int (i32 (gI σ34 (ra 59) ((8 * v5) + (gI σ34 (ra 55) v5.toNat)).toNat))), (0, .ref rm), (1, .int (i32 v1)), (2, .int (i32 v2)), (3, .int (i32 v3)), (5, .int (i32 v5))]) B.1 B.2.1 dX16_taskTurn_198 hl (by decide) rfl (fun ls hl => ?_)
  refine lv_aload_n B.1 B.2.1 dX16_taskTurn_200 rfl (lv_at hl 3 rfl) ?_
  refine r_arr B hH hS 63 (kd := 100) (n := 12802) (by decide) (by decide) wf_X16_476 rfl rfl dX16_taskTurn_201 ?_
  refine lv_iload B.1 B.2.1 dX16_taskTurn_204 (lv_at hl 2 rfl) ?_
  obtain ⟨q21, h⟩ := h
  refine x_iald B K.2.1 hH (hS.ar (k := 63) (kd := 100) (n := 12802) (by decide)) (by decide) q21 dX16_taskTurn_206 ?_
  refine lv_istore (lv' := [(10, .int (i32 (gI σ38 (ra 63) (gI σ34 (ra 59) ((8 * v5) + (gI σ34 (ra 55) v5.toNat)).toNat).toNat))), (8, .long (gJ σ38 (ra 61) (gI σ34 (ra 59) ((8 * v5) + (gI σ34 (ra 55) v5.toNat)).toNat).toNat)), (7, .int (i32 (gI σ38 (ra 60) (gI σ34 (ra 59) ((8 * v5) + (gI σ34 (ra 55) v5.toNat)).toNat).toNat))), (6, .int (i32 (gI σ34 (ra 59) ((8 * v5) + (gI σ34 (ra 55) v5.toNat)).toNat))), (0, .ref rm), (1, .int (i32 v1)), (2, .int (i32 v2)), (3, .int (i32 v3)), (5, .int (i32 v5))]) B.1 B.2.1 dX16_taskTurn_207 hl (by decide) rfl (fun ls hl => ?_)
  refine lv_iconst (v := i32 0) B.1 B.2.1 dX16_taskTurn_209 (by decide) ?_
  refine lv_istore (lv' := [(11, .int (i32 0)), (10, .int (i32 (gI σ38 (ra 63) (gI σ34 (ra 59) ((8 * v5) + (gI σ34 (ra 55) v5.toNat)).toNat).toNat))), (8, .long (gJ σ38 (ra 61) (gI σ34 (ra 59) ((8 * v5) + (gI σ34 (ra 55) v5.toNat)).toNat).toNat)), (7, .int (i32 (gI σ38 (ra 60) (gI σ34 (ra 59) ((8 * v5) + (gI σ34 (ra 55) v5.toNat)).toNat).toNat))), (6, .int (i32 (gI σ34 (ra 59) ((8 * v5) + (gI σ34 (ra 55) v5.toNat)).toNat))), (0, .ref rm), (1, .int (i32 v1)), (2, .int (i32 v2)), (3, .int (i32 v3)), (5, .int (i32 v5))]) B.1 B.2.1 dX16_taskTurn_210 hl (by decide) rfl (fun ls hl => ?_)
  obtain ⟨n9, h⟩ := h
  exact al_X16_taskTurn_212 K hQ hX n9 _ _ _ _ _ _ _ _ _ _ g1 g2 g3 g5 (hGσ34 _ _) (hGσ38 _ _) (hGσ38 _ _) (by unfold rng; omega) h hGσ38 hS _ _ _ hH (lv_sub (l' := [(0, .ref rm), (1, .int (i32 v1)), (2, .int (i32 v2)), (3, .int (i32 v3)), (5, .int (i32 v5)), (6, .int (i32 (gI σ34 (ra 59) ((8 * v5) + (gI σ34 (ra 55) v5.toNat)).toNat))), (7, .int (i32 (gI σ38 (ra 60) (gI σ34 (ra 59) ((8 * v5) + (gI σ34 (ra 55) v5.toNat)).toNat).toNat))), (8, .long (gJ σ38 (ra 61) (gI σ34 (ra 59) ((8 * v5) + (gI σ34 (ra 55) v5.toNat)).toNat).toNat)), (10, .int (i32 (gI σ38 (ra 63) (gI σ34 (ra 59) ((8 * v5) + (gI σ34 (ra 55) v5.toNat)).toNat).toNat))), (11, .int (i32 0))]) hl [5, 6, 7, 8, 9, 4, 3, 2, 1, 0] rfl) hc
set_option maxRecDepth 20000 in
theorem a_X16_taskTurn_107 {Q : Sg → Int → Prop} {X : Sg → String → Prop} (K : MC R p s m args c cX16_taskTurn 12 RX16 D cA tys A n0 s0 7 196 []) (hQ : HQI p l e R s m args below meth c cX16_taskTurn D cA A n0 s0 QM dm ra jx rm Q) (hX : HX p l e R s m args below meth c 12 D cA A n0 s0 QM dm ra jx rm X) : ∀ (σ : Sg), w_X16_taskTurn_107 ra jx rm Q X σ → RG σ → Shp dm ra jx rm σ → JJ p l e R s m args below meth c 12 D cA A n0 s0 QM σ 107 [(0, .ref rm)] [] := by
  intro σ h hGσ hS H locs ls hH hl hc
  have B := K.1
  unfold w_X16_taskTurn_107 at h
  refine lv_iconst (v := i32 (-1)) B.1 B.2.1 dX16_taskTurn_107 (by decide) ?_
  exact hQ _ _ _ _ _ _ (by unfold rng; omega) dX16_taskTurn_108 hH hc h hGσ hS
set_option maxRecDepth 20000 in
theorem a_X16_taskTurn_101 {Q : Sg → Int → Prop} {X : Sg → String → Prop} (K : MC R p s m args c cX16_taskTurn 12 RX16 D cA tys A n0 s0 7 196 []) (hQ : HQI p l e R s m args below meth c cX16_taskTurn D cA A n0 s0 QM dm ra jx rm Q) (hX : HX p l e R s m args below meth c 12 D cA A n0 s0 QM dm ra jx rm X) : ∀ (σ : Sg) (v1 : Int) (v2 : Int) (v3 : Int) (v5 : Int) (g1 : rng v1) (g2 : rng v2) (g3 : rng v3) (g5 : rng v5), w_X16_taskTurn_101 ra jx rm Q X σ v1 v2 v3 v5 → RG σ → Shp dm ra jx rm σ → JJ p l e R s m args below meth c 12 D cA A n0 s0 QM σ 101 [(0, .ref rm), (1, .int (i32 v1)), (2, .int (i32 v2)), (3, .int (i32 v3)), (5, .int (i32 v5))] [] := by
  intro σ v1 v2 v3 v5 g1 g2 g3 g5 h hGσ hS H locs ls hH hl hc
  have B := K.1
  unfold w_X16_taskTurn_101 at h
  refine lv_iload B.1 B.2.1 dX16_taskTurn_101 (lv_at hl 4 rfl) ?_
  refine lv_iconst (v := i32 (-1)) B.1 B.2.1 dX16_taskTurn_103 (by decide) ?_
  refine lv_icmp_ne (tgt := 109) B.1 B.2.1 dX16_taskTurn_104 (by decide) (fun h9 => ?_) (fun h9 => ?_)
  · rw [if_pos (fun q => h9 ((i32_eq g5 (by unfold rng; omega)).mpr q))] at h
    exact a_X16_taskTurn_109 K hQ hX _ _ _ _ _ g1 g2 g3 g5 h hGσ hS _ _ _ hH (lv_sub (l' := [(0, .ref rm), (1, .int (i32 v1)), (2, .int (i32 v2)), (3, .int (i32 v3)), (5, .int (i32 v5))]) hl [0, 1, 2, 3, 4] rfl) hc
  · rw [if_neg (fun q => q ((i32_eq g5 (by unfold rng; omega)).mp h9))] at h
    exact a_X16_taskTurn_107 K hQ hX _ h hGσ hS _ _ _ hH (lv_sub (l' := [(0, .ref rm)]) hl [0] rfl) hc
set_option maxRecDepth 20000 in
theorem a_X16_taskTurn_93 {Q : Sg → Int → Prop} {X : Sg → String → Prop} (K : MC R p s m args c cX16_taskTurn 12 RX16 D cA tys A n0 s0 7 196 []) (hQ : HQI p l e R s m args below meth c cX16_taskTurn D cA A n0 s0 QM dm ra jx rm Q) (hX : HX p l e R s m args below meth c 12 D cA A n0 s0 QM dm ra jx rm X) {K42 : Sg → Int → Int → Int → Int → Int → Int → Prop} (hK42 : ∀ (σ : Sg) (v1 : Int) (v2 : Int) (v3 : Int) (v4 : Int) (v5 : Int) (v6 : Int) (g1 : rng v1) (g2 : rng v2) (g3 : rng v3) (g4 : rng v4) (g5 : rng v5) (g6 : rng v6), K42 σ v1 v2 v3 v4 v5 v6 → RG σ → Shp dm ra jx rm σ → JJ p l e R s m args below meth c 12 D cA A n0 s0 QM σ 42 [(0, .ref rm), (1, .int (i32 v1)), (2, .int (i32 v2)), (3, .int (i32 v3)), (4, .int (i32 v4)), (5, .int (i32 v5)), (6, .int (i32 v6))] []) : ∀ (σ : Sg) (v1 : Int) (v2 : Int) (v3 : Int) (v4 : Int) (v6 : Int) (u0 : Int) (g1 : rng v1) (g2 : rng v2) (g3 : rng v3) (g4 : rng v4) (g6 : rng v6) (gu0 : rng u0), w_X16_taskTurn_93 ra jx rm K42 Q X σ v1 v2 v3 v4 v6 u0 → RG σ → Shp dm ra jx rm σ → JJ p l e R s m args below meth c 12 D cA A n0 s0 QM σ 93 [(0, .ref rm), (1, .int (i32 v1)), (2, .int (i32 v2)), (3, .int (i32 v3)), (4, .int (i32 v4)), (6, .int (i32 v6))] [.int (i32 u0)] := by
  intro σ v1 v2 v3 v4 v6 u0 g1 g2 g3 g4 g6 gu0 h hGσ hS H locs ls hH hl hc
  have B := K.1
  unfold w_X16_taskTurn_93 at h
  refine lv_istore (lv' := [(5, .int (i32 u0)), (0, .ref rm), (1, .int (i32 v1)), (2, .int (i32 v2)), (3, .int (i32 v3)), (4, .int (i32 v4)), (6, .int (i32 v6))]) B.1 B.2.1 dX16_taskTurn_93 hl (by decide) rfl (fun ls hl => ?_)
  obtain ⟨q1, h⟩ := h
  refine lv_iinc (k := 6) (v := i32 (v6 + 1)) (lv' := [(6, .int (i32 (v6 + 1))), (5, .int (i32 u0)), (0, .ref rm), (1, .int (i32 v1)), (2, .int (i32 v2)), (3, .int (i32 v3)), (4, .int (i32 v4))]) B.1 B.2.1 dX16_taskTurn_95 hl rfl (i32_add _ _) (by decide) rfl (fun ls hl => ?_)
  refine lv_goto (tgt := 42) B.1 B.2.1 dX16_taskTurn_98 (by decide) ?_
  exact hK42 _ _ _ _ _ _ _ g1 g2 g3 g4 gu0 q1 h hGσ hS _ _ _ hH (lv_sub (l' := [(0, .ref rm), (1, .int (i32 v1)), (2, .int (i32 v2)), (3, .int (i32 v3)), (4, .int (i32 v4)), (5, .int (i32 u0)), (6, .int (i32 (v6 + 1)))]) hl [2, 3, 4, 5, 6, 1, 0] rfl) hc
set_option maxRecDepth 20000 in
theorem a_X16_taskTurn_92 {Q : Sg → Int → Prop} {X : Sg → String → Prop} (K : MC R p s m args c cX16_taskTurn 12 RX16 D cA tys A n0 s0 7 196 []) (hQ : HQI p l e R s m args below meth c cX16_taskTurn D cA A n0 s0 QM dm ra jx rm Q) (hX : HX p l e R s m args below meth c 12 D cA A n0 s0 QM dm ra jx rm X) {K42 : Sg → Int → Int → Int → Int → Int → Int → Prop} (hK42 : ∀ (σ : Sg) (v1 : Int) (v2 : Int) (v3 : Int) (v4 : Int) (v5 : Int) (v6 : Int) (g1 : rng v1) (g2 : rng v2) (g3 : rng v3) (g4 : rng v4) (g5 : rng v5) (g6 : rng v6), K42 σ v1 v2 v3 v4 v5 v6 → RG σ → Shp dm ra jx rm σ → JJ p l e R s m args below meth c 12 D cA A n0 s0 QM σ 42 [(0, .ref rm), (1, .int (i32 v1)), (2, .int (i32 v2)), (3, .int (i32 v3)), (4, .int (i32 v4)), (5, .int (i32 v5)), (6, .int (i32 v6))] []) : ∀ (σ : Sg) (v1 : Int) (v2 : Int) (v3 : Int) (v4 : Int) (v6 : Int) (g1 : rng v1) (g2 : rng v2) (g3 : rng v3) (g4 : rng v4) (g6 : rng v6), w_X16_taskTurn_92 ra jx rm K42 Q X σ v1 v2 v3 v4 v6 → RG σ → Shp dm ra jx rm σ → JJ p l e R s m args below meth c 12 D cA A n0 s0 QM σ 92 [(0, .ref rm), (1, .int (i32 v1)), (2, .int (i32 v2)), (3, .int (i32 v3)), (4, .int (i32 v4)), (6, .int (i32 v6))] [] := by
  intro σ v1 v2 v3 v4 v6 g1 g2 g3 g4 g6 h hGσ hS H locs ls hH hl hc
  have B := K.1
  unfold w_X16_taskTurn_92 at h
  refine lv_iconst (v := i32 (-1)) B.1 B.2.1 dX16_taskTurn_92 (by decide) ?_
  exact a_X16_taskTurn_93 K hQ hX hK42 _ _ _ _ _ _ _ g1 g2 g3 g4 g6 (by unfold rng; omega) h hGσ hS _ _ _ hH (lv_sub (l' := [(0, .ref rm), (1, .int (i32 v1)), (2, .int (i32 v2)), (3, .int (i32 v3)), (4, .int (i32 v4)), (6, .int (i32 v6))]) hl [0, 1, 2, 3, 4, 5] rfl) hc
set_option maxRecDepth 20000 in
theorem a_X16_taskTurn_87 {Q : Sg → Int → Prop} {X : Sg → String → Prop} (K : MC R p s m args c cX16_taskTurn 12 RX16 D cA tys A n0 s0 7 196 []) (hQ : HQI p l e R s m args below meth c cX16_taskTurn D cA A n0 s0 QM dm ra jx rm Q) (hX : HX p l e R s m args below meth c 12 D cA A n0 s0 QM dm ra jx rm X) {K42 : Sg → Int → Int → Int → Int → Int → Int → Prop} (hK42 : ∀ (σ : Sg) (v1 : Int) (v2 : Int) (v3 : Int) (v4 : Int) (v5 : Int) (v6 : Int) (g1 : rng v1) (g2 : rng v2) (g3 : rng v3) (g4 : rng v4) (g5 : rng v5) (g6 : rng v6), K42 σ v1 v2 v3 v4 v5 v6 → RG σ → Shp dm ra jx rm σ → JJ p l e R s m args below meth c 12 D cA A n0 s0 QM σ 42 [(0, .ref rm), (1, .int (i32 v1)), (2, .int (i32 v2)), (3, .int (i32 v3)), (4, .int (i32 v4)), (5, .int (i32 v5)), (6, .int (i32 v6))] []) : ∀ (σ : Sg) (v1 : Int) (v2 : Int) (v3 : Int) (v4 : Int) (v6 : Int) (v7 : Int) (g1 : rng v1) (g2 : rng v2) (g3 : rng v3) (g4 : rng v4) (g6 : rng v6) (g7 : rng v7), w_X16_taskTurn_87 ra jx rm K42 Q X σ v1 v2 v3 v4 v6 v7 → RG σ → Shp dm ra jx rm σ → JJ p l e R s m args below meth c 12 D cA A n0 s0 QM σ 87 [(0, .ref rm), (1, .int (i32 v1)), (2, .int (i32 v2)), (3, .int (i32 v3)), (4, .int (i32 v4)), (6, .int (i32 v6)), (7, .int (i32 v7))] [] := by
  intro σ v1 v2 v3 v4 v6 v7 g1 g2 g3 g4 g6 g7 h hGσ hS H locs ls hH hl hc
  have B := K.1
  unfold w_X16_taskTurn_87 at h
  refine lv_iload B.1 B.2.1 dX16_taskTurn_87 (lv_at hl 6 rfl) ?_
  refine lv_goto (tgt := 93) B.1 B.2.1 dX16_taskTurn_89 (by decide) ?_
  exact a_X16_taskTurn_93 K hQ hX hK42 _ _ _ _ _ _ _ g1 g2 g3 g4 g6 g7 h hGσ hS _ _ _ hH (lv_sub (l' := [(0, .ref rm), (1, .int (i32 v1)), (2, .int (i32 v2)), (3, .int (i32 v3)), (4, .int (i32 v4)), (6, .int (i32 v6))]) hl [0, 1, 2, 3, 4, 5] rfl) hc
set_option maxRecDepth 20000 in
theorem a_X16_taskTurn_77 {Q : Sg → Int → Prop} {X : Sg → String → Prop} (K : MC R p s m args c cX16_taskTurn 12 RX16 D cA tys A n0 s0 7 196 []) (hQ : HQI p l e R s m args below meth c cX16_taskTurn D cA A n0 s0 QM dm ra jx rm Q) (hX : HX p l e R s m args below meth c 12 D cA A n0 s0 QM dm ra jx rm X) {K42 : Sg → Int → Int → Int → Int → Int → Int → Prop} (hK42 : ∀ (σ : Sg) (v1 : Int) (v2 : Int) (v3 : Int) (v4 : Int) (v5 : Int) (v6 : Int) (g1 : rng v1) (g2 : rng v2) (g3 : rng v3) (g4 : rng v4) (g5 : rng v5) (g6 : rng v6), K42 σ v1 v2 v3 v4 v5 v6 → RG σ → Shp dm ra jx rm σ → JJ p l e R s m args below meth c 12 D cA A n0 s0 QM σ 42 [(0, .ref rm), (1, .int (i32 v1)), (2, .int (i32 v2)), (3, .int (i32 v3)), (4, .int (i32 v4)), (5, .int (i32 v5)), (6, .int (i32 v6))] []) : ∀ (σ : Sg) (v1 : Int) (v2 : Int) (v3 : Int) (v4 : Int) (v6 : Int) (v7 : Int) (g1 : rng v1) (g2 : rng v2) (g3 : rng v3) (g4 : rng v4) (g6 : rng v6) (g7 : rng v7), w_X16_taskTurn_77 ra jx rm K42 Q X σ v1 v2 v3 v4 v6 v7 → RG σ → Shp dm ra jx rm σ → JJ p l e R s m args below meth c 12 D cA A n0 s0 QM σ 77 [(0, .ref rm), (1, .int (i32 v1)), (2, .int (i32 v2)), (3, .int (i32 v3)), (4, .int (i32 v4)), (6, .int (i32 v6)), (7, .int (i32 v7))] [] := by
  intro σ v1 v2 v3 v4 v6 v7 g1 g2 g3 g4 g6 g7 h hGσ hS H locs ls hH hl hc
  have B := K.1
  unfold w_X16_taskTurn_77 at h
  refine lv_aload_n B.1 B.2.1 dX16_taskTurn_77 rfl (lv_at hl 0 rfl) ?_
  refine r_arr B hH hS 57 (kd := 103) (n := 1100) (by decide) (by decide) wf_X16_456 rfl rfl dX16_taskTurn_78 ?_
  refine lv_iload B.1 B.2.1 dX16_taskTurn_81 (lv_at hl 6 rfl) ?_
  obtain ⟨q1, h⟩ := h
  refine x_zald B K.2.1 hH (hS.ar (k := 57) (kd := 103) (n := 1100) (by decide)) (by decide) q1 dX16_taskTurn_83 ?_
  refine lv_if_ne (tgt := 92) B.1 B.2.1 dX16_taskTurn_84 (by decide) (fun h9 => ?_) (fun h9 => ?_)
  · rw [if_pos (fun q => h9 ((z_eq (hGσ _ _)).mpr q))] at h
    exact a_X16_taskTurn_92 K hQ hX hK42 _ _ _ _ _ _ g1 g2 g3 g4 g6 h hGσ hS _ _ _ hH (lv_sub (l' := [(0, .ref rm), (1, .int (i32 v1)), (2, .int (i32 v2)), (3, .int (i32 v3)), (4, .int (i32 v4)), (6, .int (i32 v6))]) hl [0, 1, 2, 3, 4, 5] rfl) hc
  · rw [if_neg (fun q => q ((z_eq (hGσ _ _)).mp h9))] at h
    exact a_X16_taskTurn_87 K hQ hX hK42 _ _ _ _ _ _ _ g1 g2 g3 g4 g6 g7 h hGσ hS _ _ _ hH (lv_sub (l' := [(0, .ref rm), (1, .int (i32 v1)), (2, .int (i32 v2)), (3, .int (i32 v3)), (4, .int (i32 v4)), (6, .int (i32 v6)), (7, .int (i32 v7))]) hl [0, 1, 2, 3, 4, 5, 6] rfl) hc
set_option maxRecDepth 20000 in
theorem a_X16_taskTurn_54 {Q : Sg → Int → Prop} {X : Sg → String → Prop} (K : MC R p s m args c cX16_taskTurn 12 RX16 D cA tys A n0 s0 7 196 []) (hQ : HQI p l e R s m args below meth c cX16_taskTurn D cA A n0 s0 QM dm ra jx rm Q) (hX : HX p l e R s m args below meth c 12 D cA A n0 s0 QM dm ra jx rm X) {K42 : Sg → Int → Int → Int → Int → Int → Int → Prop} (hK42 : ∀ (σ : Sg) (v1 : Int) (v2 : Int) (v3 : Int) (v4 : Int) (v5 : Int) (v6 : Int) (g1 : rng v1) (g2 : rng v2) (g3 : rng v3) (g4 : rng v4) (g5 : rng v5) (g6 : rng v6), K42 σ v1 v2 v3 v4 v5 v6 → RG σ → Shp dm ra jx rm σ → JJ p l e R s m args below meth c 12 D cA A n0 s0 QM σ 42 [(0, .ref rm), (1, .int (i32 v1)), (2, .int (i32 v2)), (3, .int (i32 v3)), (4, .int (i32 v4)), (5, .int (i32 v5)), (6, .int (i32 v6))] []) : ∀ (σ : Sg) (v1 : Int) (v2 : Int) (v3 : Int) (v4 : Int) (v6 : Int) (g1 : rng v1) (g2 : rng v2) (g3 : rng v3) (g4 : rng v4) (g6 : rng v6), w_X16_taskTurn_54 ra jx rm K42 Q X σ v1 v2 v3 v4 v6 → RG σ → Shp dm ra jx rm σ → JJ p l e R s m args below meth c 12 D cA A n0 s0 QM σ 54 [(0, .ref rm), (1, .int (i32 v1)), (2, .int (i32 v2)), (3, .int (i32 v3)), (4, .int (i32 v4)), (6, .int (i32 v6))] [] := by
  intro σ v1 v2 v3 v4 v6 g1 g2 g3 g4 g6 h hGσ hS H locs ls hH hl hc
  have B := K.1
  unfold w_X16_taskTurn_54 at h
  refine lv_iload_n B.1 B.2.1 dX16_taskTurn_54 rfl (lv_at hl 2 rfl) ?_
  refine lv_iload B.1 B.2.1 dX16_taskTurn_55 (lv_at hl 4 rfl) ?_
  refine lv_iload_n B.1 B.2.1 dX16_taskTurn_57 rfl (lv_at hl 2 rfl) ?_
  obtain ⟨q1, h⟩ := h
  refine lv_isub B.1 B.2.1 dX16_taskTurn_58 ?_
  rw [i32_sub]
  refine lv_iload B.1 B.2.1 dX16_taskTurn_59 (lv_at hl 5 rfl) ?_
  obtain ⟨q2, h⟩ := h
  refine lv_iadd B.1 B.2.1 dX16_taskTurn_61 ?_
  rw [i32_add]
  refine lv_iload_n B.1 B.2.1 dX16_taskTurn_62 rfl (lv_at hl 3 rfl) ?_
  obtain ⟨q3, h⟩ := h
  refine lv_irem B.1 B.2.1 dX16_taskTurn_63 (i32_ne0 g3 q3) ?_
  refine W.eq (g2 := F0 m 64 ls [.int (i32 (remI ((v4 - v2) + v6) v3)), .int (i32 v2)]) (by unfold remI; rw [i32_self]) ?_
  obtain ⟨q4, h⟩ := h
  refine lv_iadd B.1 B.2.1 dX16_taskTurn_64 ?_
  rw [i32_add]
  refine lv_istore (lv' := [(7, .int (i32 (v2 + (remI ((v4 - v2) + v6) v3)))), (0, .ref rm), (1, .int (i32 v1)), (2, .int (i32 v2)), (3, .int (i32 v3)), (4, .int (i32 v4)), (6, .int (i32 v6))]) B.1 B.2.1 dX16_taskTurn_65 hl (by decide) rfl (fun ls hl => ?_)
  refine lv_aload_n B.1 B.2.1 dX16_taskTurn_67 rfl (lv_at hl 1 rfl) ?_
  refine r_arr B hH hS 54 (kd := 100) (n := 1100) (by decide) (by decide) wf_X16_447 rfl rfl dX16_taskTurn_68 ?_
  refine lv_iload B.1 B.2.1 dX16_taskTurn_71 (lv_at hl 0 rfl) ?_
  obtain ⟨q5, h⟩ := h
  refine x_iald B K.2.1 hH (hS.ar (k := 54) (kd := 100) (n := 1100) (by decide)) (by decide) q5 dX16_taskTurn_73 ?_
  refine lv_if_le (tgt := 92) B.1 B.2.1 dX16_taskTurn_74 (by decide) (fun h9 => ?_) (fun h9 => ?_)
  · rw [if_pos ((z_le (hGσ _ _)).mp h9)] at h
    exact a_X16_taskTurn_92 K hQ hX hK42 _ _ _ _ _ _ g1 g2 g3 g4 g6 h hGσ hS _ _ _ hH (lv_sub (l' := [(0, .ref rm), (1, .int (i32 v1)), (2, .int (i32 v2)), (3, .int (i32 v3)), (4, .int (i32 v4)), (6, .int (i32 v6))]) hl [1, 2, 3, 4, 5, 6] rfl) hc
  · rw [if_neg (fun q => h9 ((z_le (hGσ _ _)).mpr q))] at h
    exact a_X16_taskTurn_77 K hQ hX hK42 _ _ _ _ _ _ _ g1 g2 g3 g4 g6 q4 h hGσ hS _ _ _ hH (lv_sub (l' := [(0, .ref rm), (1, .int (i32 v1)), (2, .int (i32 v2)), (3, .int (i32 v3)), (4, .int (i32 v4)), (6, .int (i32 v6)), (7, .int (i32 (v2 + (remI ((v4 - v2) + v6) v3))))]) hl [1, 2, 3, 4, 5, 6, 0] rfl) hc
set_option maxRecDepth 20000 in
theorem a_X16_taskTurn_48 {Q : Sg → Int → Prop} {X : Sg → String → Prop} (K : MC R p s m args c cX16_taskTurn 12 RX16 D cA tys A n0 s0 7 196 []) (hQ : HQI p l e R s m args below meth c cX16_taskTurn D cA A n0 s0 QM dm ra jx rm Q) (hX : HX p l e R s m args below meth c 12 D cA A n0 s0 QM dm ra jx rm X) {K42 : Sg → Int → Int → Int → Int → Int → Int → Prop} (hK42 : ∀ (σ : Sg) (v1 : Int) (v2 : Int) (v3 : Int) (v4 : Int) (v5 : Int) (v6 : Int) (g1 : rng v1) (g2 : rng v2) (g3 : rng v3) (g4 : rng v4) (g5 : rng v5) (g6 : rng v6), K42 σ v1 v2 v3 v4 v5 v6 → RG σ → Shp dm ra jx rm σ → JJ p l e R s m args below meth c 12 D cA A n0 s0 QM σ 42 [(0, .ref rm), (1, .int (i32 v1)), (2, .int (i32 v2)), (3, .int (i32 v3)), (4, .int (i32 v4)), (5, .int (i32 v5)), (6, .int (i32 v6))] []) : ∀ (σ : Sg) (v1 : Int) (v2 : Int) (v3 : Int) (v4 : Int) (v5 : Int) (v6 : Int) (g1 : rng v1) (g2 : rng v2) (g3 : rng v3) (g4 : rng v4) (g5 : rng v5) (g6 : rng v6), w_X16_taskTurn_48 ra jx rm K42 Q X σ v1 v2 v3 v4 v5 v6 → RG σ → Shp dm ra jx rm σ → JJ p l e R s m args below meth c 12 D cA A n0 s0 QM σ 48 [(0, .ref rm), (1, .int (i32 v1)), (2, .int (i32 v2)), (3, .int (i32 v3)), (4, .int (i32 v4)), (5, .int (i32 v5)), (6, .int (i32 v6))] [] := by
  intro σ v1 v2 v3 v4 v5 v6 g1 g2 g3 g4 g5 g6 h hGσ hS H locs ls hH hl hc
  have B := K.1
  unfold w_X16_taskTurn_48 at h
  refine lv_iload B.1 B.2.1 dX16_taskTurn_48 (lv_at hl 5 rfl) ?_
  refine lv_iconst (v := i32 (-1)) B.1 B.2.1 dX16_taskTurn_50 (by decide) ?_
  refine lv_icmp_ne (tgt := 101) B.1 B.2.1 dX16_taskTurn_51 (by decide) (fun h9 => ?_) (fun h9 => ?_)
  · rw [if_pos (fun q => h9 ((i32_eq g5 (by unfold rng; omega)).mpr q))] at h
    exact a_X16_taskTurn_101 K hQ hX _ _ _ _ _ g1 g2 g3 g5 h hGσ hS _ _ _ hH (lv_sub (l' := [(0, .ref rm), (1, .int (i32 v1)), (2, .int (i32 v2)), (3, .int (i32 v3)), (5, .int (i32 v5))]) hl [0, 1, 2, 3, 5] rfl) hc
  · rw [if_neg (fun q => q ((i32_eq g5 (by unfold rng; omega)).mp h9))] at h
    exact a_X16_taskTurn_54 K hQ hX hK42 _ _ _ _ _ _ g1 g2 g3 g4 g6 h hGσ hS _ _ _ hH (lv_sub (l' := [(0, .ref rm), (1, .int (i32 v1)), (2, .int (i32 v2)), (3, .int (i32 v3)), (4, .int (i32 v4)), (6, .int (i32 v6))]) hl [0, 1, 2, 3, 4, 6] rfl) hc
set_option maxRecDepth 20000 in
theorem a_X16_taskTurn_42 {Q : Sg → Int → Prop} {X : Sg → String → Prop} (K : MC R p s m args c cX16_taskTurn 12 RX16 D cA tys A n0 s0 7 196 []) (hQ : HQI p l e R s m args below meth c cX16_taskTurn D cA A n0 s0 QM dm ra jx rm Q) (hX : HX p l e R s m args below meth c 12 D cA A n0 s0 QM dm ra jx rm X) {K42 : Sg → Int → Int → Int → Int → Int → Int → Prop} (hK42 : ∀ (σ : Sg) (v1 : Int) (v2 : Int) (v3 : Int) (v4 : Int) (v5 : Int) (v6 : Int) (g1 : rng v1) (g2 : rng v2) (g3 : rng v3) (g4 : rng v4) (g5 : rng v5) (g6 : rng v6), K42 σ v1 v2 v3 v4 v5 v6 → RG σ → Shp dm ra jx rm σ → JJ p l e R s m args below meth c 12 D cA A n0 s0 QM σ 42 [(0, .ref rm), (1, .int (i32 v1)), (2, .int (i32 v2)), (3, .int (i32 v3)), (4, .int (i32 v4)), (5, .int (i32 v5)), (6, .int (i32 v6))] []) : ∀ (σ : Sg) (v1 : Int) (v2 : Int) (v3 : Int) (v4 : Int) (v5 : Int) (v6 : Int) (g1 : rng v1) (g2 : rng v2) (g3 : rng v3) (g4 : rng v4) (g5 : rng v5) (g6 : rng v6), w_X16_taskTurn_42 ra jx rm K42 Q X σ v1 v2 v3 v4 v5 v6 → RG σ → Shp dm ra jx rm σ → JJ p l e R s m args below meth c 12 D cA A n0 s0 QM σ 42 [(0, .ref rm), (1, .int (i32 v1)), (2, .int (i32 v2)), (3, .int (i32 v3)), (4, .int (i32 v4)), (5, .int (i32 v5)), (6, .int (i32 v6))] [] := by
  intro σ v1 v2 v3 v4 v5 v6 g1 g2 g3 g4 g5 g6 h hGσ hS H locs ls hH hl hc
  have B := K.1
  unfold w_X16_taskTurn_42 at h
  refine lv_iload B.1 B.2.1 dX16_taskTurn_42 (lv_at hl 6 rfl) ?_
  refine lv_iload_n B.1 B.2.1 dX16_taskTurn_44 rfl (lv_at hl 3 rfl) ?_
  refine lv_icmp_ge (tgt := 101) B.1 B.2.1 dX16_taskTurn_45 (by decide) (fun h9 => ?_) (fun h9 => ?_)
  · rw [if_pos ((i32_le g3 g6).mp h9)] at h
    exact a_X16_taskTurn_101 K hQ hX _ _ _ _ _ g1 g2 g3 g5 h hGσ hS _ _ _ hH (lv_sub (l' := [(0, .ref rm), (1, .int (i32 v1)), (2, .int (i32 v2)), (3, .int (i32 v3)), (5, .int (i32 v5))]) hl [0, 1, 2, 3, 5] rfl) hc
  · rw [if_neg (fun q => h9 ((i32_le g3 g6).mpr q))] at h
    exact a_X16_taskTurn_48 K hQ hX hK42 _ _ _ _ _ _ _ g1 g2 g3 g4 g5 g6 h hGσ hS _ _ _ hH (lv_sub (l' := [(0, .ref rm), (1, .int (i32 v1)), (2, .int (i32 v2)), (3, .int (i32 v3)), (4, .int (i32 v4)), (5, .int (i32 v5)), (6, .int (i32 v6))]) hl [0, 1, 2, 3, 4, 5, 6] rfl) hc
theorem al_X16_taskTurn_42 {Q : Sg → Int → Prop} {X : Sg → String → Prop} (K : MC R p s m args c cX16_taskTurn 12 RX16 D cA tys A n0 s0 7 196 []) (hQ : HQI p l e R s m args below meth c cX16_taskTurn D cA A n0 s0 QM dm ra jx rm Q) (hX : HX p l e R s m args below meth c 12 D cA A n0 s0 QM dm ra jx rm X) : ∀ (n : Nat), ∀ (σ : Sg) (v1 : Int) (v2 : Int) (v3 : Int) (v4 : Int) (v5 : Int) (v6 : Int) (g1 : rng v1) (g2 : rng v2) (g3 : rng v3) (g4 : rng v4) (g5 : rng v5) (g6 : rng v6), wl_X16_taskTurn_42 ra jx rm Q X n σ v1 v2 v3 v4 v5 v6 → RG σ → Shp dm ra jx rm σ → JJ p l e R s m args below meth c 12 D cA A n0 s0 QM σ 42 [(0, .ref rm), (1, .int (i32 v1)), (2, .int (i32 v2)), (3, .int (i32 v3)), (4, .int (i32 v4)), (5, .int (i32 v5)), (6, .int (i32 v6))] [] := by
  intro n
  induction n with
  | zero => intro σ v1 v2 v3 v4 v5 v6 g1 g2 g3 g4 g5 g6 h; exact h.elim
  | succ n ih => exact fun σ v1 v2 v3 v4 v5 v6 g1 g2 g3 g4 g5 g6 h => a_X16_taskTurn_42 K hQ hX ih σ v1 v2 v3 v4 v5 v6 g1 g2 g3 g4 g5 g6 h
set_option maxRecDepth 20000 in
theorem a_X16_taskTurn_34 {Q : Sg → Int → Prop} {X : Sg → String → Prop} (K : MC R p s m args c cX16_taskTurn 12 RX16 D cA tys A n0 s0 7 196 []) (hQ : HQI p l e R s m args below meth c cX16_taskTurn D cA A n0 s0 QM dm ra jx rm Q) (hX : HX p l e R s m args below meth c 12 D cA A n0 s0 QM dm ra jx rm X) : ∀ (σ : Sg) (v1 : Int) (v2 : Int) (v3 : Int) (u0 : Int) (g1 : rng v1) (g2 : rng v2) (g3 : rng v3) (gu0 : rng u0), w_X16_taskTurn_34 ra jx rm Q X σ v1 v2 v3 u0 → RG σ → Shp dm ra jx rm σ → JJ p l e R s m args below meth c 12 D cA A n0 s0 QM σ 34 [(0, .ref rm), (1, .int (i32 v1)), (2, .int (i32 v2)), (3, .int (i32 v3))] [.int (i32 u0)] := by
  intro σ v1 v2 v3 u0 g1 g2 g3 gu0 h hGσ hS H locs ls hH hl hc
  have B := K.1
  unfold w_X16_taskTurn_34 at h
  refine lv_istore (lv' := [(4, .int (i32 u0)), (0, .ref rm), (1, .int (i32 v1)), (2, .int (i32 v2)), (3, .int (i32 v3))]) B.1 B.2.1 dX16_taskTurn_34 hl (by decide) rfl (fun ls hl => ?_)
  refine lv_iconst (v := i32 (-1)) B.1 B.2.1 dX16_taskTurn_36 (by decide) ?_
  refine lv_istore (lv' := [(5, .int (i32 (-1))), (4, .int (i32 u0)), (0, .ref rm), (1, .int (i32 v1)), (2, .int (i32 v2)), (3, .int (i32 v3))]) B.1 B.2.1 dX16_taskTurn_37 hl (by decide) rfl (fun ls hl => ?_)
  refine lv_iconst (v := i32 0) B.1 B.2.1 dX16_taskTurn_39 (by decide) ?_
  refine lv_istore (lv' := [(6, .int (i32 0)), (5, .int (i32 (-1))), (4, .int (i32 u0)), (0, .ref rm), (1, .int (i32 v1)), (2, .int (i32 v2)), (3, .int (i32 v3))]) B.1 B.2.1 dX16_taskTurn_40 hl (by decide) rfl (fun ls hl => ?_)
  obtain ⟨n9, h⟩ := h
  exact al_X16_taskTurn_42 K hQ hX n9 _ _ _ _ _ _ _ g1 g2 g3 gu0 (by unfold rng; omega) (by unfold rng; omega) h hGσ hS _ _ _ hH (lv_sub (l' := [(0, .ref rm), (1, .int (i32 v1)), (2, .int (i32 v2)), (3, .int (i32 v3)), (4, .int (i32 u0)), (5, .int (i32 (-1))), (6, .int (i32 0))]) hl [3, 4, 5, 6, 2, 1, 0] rfl) hc
set_option maxRecDepth 20000 in
theorem a_X16_taskTurn_26 {Q : Sg → Int → Prop} {X : Sg → String → Prop} (K : MC R p s m args c cX16_taskTurn 12 RX16 D cA tys A n0 s0 7 196 []) (hQ : HQI p l e R s m args below meth c cX16_taskTurn D cA A n0 s0 QM dm ra jx rm Q) (hX : HX p l e R s m args below meth c 12 D cA A n0 s0 QM dm ra jx rm X) : ∀ (σ : Sg) (v1 : Int) (v2 : Int) (v3 : Int) (g1 : rng v1) (g2 : rng v2) (g3 : rng v3), w_X16_taskTurn_26 ra jx rm Q X σ v1 v2 v3 → RG σ → Shp dm ra jx rm σ → JJ p l e R s m args below meth c 12 D cA A n0 s0 QM σ 26 [(0, .ref rm), (1, .int (i32 v1)), (2, .int (i32 v2)), (3, .int (i32 v3))] [] := by
  intro σ v1 v2 v3 g1 g2 g3 h hGσ hS H locs ls hH hl hc
  have B := K.1
  unfold w_X16_taskTurn_26 at h
  refine lv_aload_n B.1 B.2.1 dX16_taskTurn_26 rfl (lv_at hl 0 rfl) ?_
  refine r_arr B hH hS 45 (kd := 100) (n := 64) (by decide) (by decide) wf_X16_432 rfl rfl dX16_taskTurn_27 ?_
  refine lv_iload_n B.1 B.2.1 dX16_taskTurn_30 rfl (lv_at hl 1 rfl) ?_
  obtain ⟨q1, h⟩ := h
  refine x_iald B K.2.1 hH (hS.ar (k := 45) (kd := 100) (n := 64) (by decide)) (by decide) q1 dX16_taskTurn_31 ?_
  refine lv_iconst (v := i32 1) B.1 B.2.1 dX16_taskTurn_32 (by decide) ?_
  obtain ⟨q2, h⟩ := h
  refine lv_iadd B.1 B.2.1 dX16_taskTurn_33 ?_
  rw [i32_add]
  exact a_X16_taskTurn_34 K hQ hX _ _ _ _ _ g1 g2 g3 q2 h hGσ hS _ _ _ hH (lv_sub (l' := [(0, .ref rm), (1, .int (i32 v1)), (2, .int (i32 v2)), (3, .int (i32 v3))]) hl [0, 1, 2, 3] rfl) hc
set_option maxRecDepth 20000 in
theorem a_X16_taskTurn_22 {Q : Sg → Int → Prop} {X : Sg → String → Prop} (K : MC R p s m args c cX16_taskTurn 12 RX16 D cA tys A n0 s0 7 196 []) (hQ : HQI p l e R s m args below meth c cX16_taskTurn D cA A n0 s0 QM dm ra jx rm Q) (hX : HX p l e R s m args below meth c 12 D cA A n0 s0 QM dm ra jx rm X) : ∀ (σ : Sg) (v1 : Int) (v2 : Int) (v3 : Int) (g1 : rng v1) (g2 : rng v2) (g3 : rng v3), w_X16_taskTurn_22 ra jx rm Q X σ v1 v2 v3 → RG σ → Shp dm ra jx rm σ → JJ p l e R s m args below meth c 12 D cA A n0 s0 QM σ 22 [(0, .ref rm), (1, .int (i32 v1)), (2, .int (i32 v2)), (3, .int (i32 v3))] [] := by
  intro σ v1 v2 v3 g1 g2 g3 h hGσ hS H locs ls hH hl hc
  have B := K.1
  unfold w_X16_taskTurn_22 at h
  refine lv_iload_n B.1 B.2.1 dX16_taskTurn_22 rfl (lv_at hl 2 rfl) ?_
  refine lv_goto (tgt := 34) B.1 B.2.1 dX16_taskTurn_23 (by decide) ?_
  exact a_X16_taskTurn_34 K hQ hX _ _ _ _ _ g1 g2 g3 g2 h hGσ hS _ _ _ hH (lv_sub (l' := [(0, .ref rm), (1, .int (i32 v1)), (2, .int (i32 v2)), (3, .int (i32 v3))]) hl [0, 1, 2, 3] rfl) hc
set_option maxRecDepth 20000 in
theorem a_X16_taskTurn_0 {Q : Sg → Int → Prop} {X : Sg → String → Prop} (K : MC R p s m args c cX16_taskTurn 12 RX16 D cA tys A n0 s0 7 196 []) (hQ : HQI p l e R s m args below meth c cX16_taskTurn D cA A n0 s0 QM dm ra jx rm Q) (hX : HX p l e R s m args below meth c 12 D cA A n0 s0 QM dm ra jx rm X) : ∀ (σ : Sg) (v1 : Int) (g1 : rng v1), w_X16_taskTurn_0 ra jx rm Q X σ v1 → RG σ → Shp dm ra jx rm σ → JJ p l e R s m args below meth c 12 D cA A n0 s0 QM σ 0 [(0, .ref rm), (1, .int (i32 v1))] [] := by
  intro σ v1 g1 h hGσ hS H locs ls hH hl hc
  have B := K.1
  unfold w_X16_taskTurn_0 at h
  refine lv_aload_n B.1 B.2.1 dX16_taskTurn_0 rfl (lv_at hl 0 rfl) ?_
  refine lv_iload_n B.1 B.2.1 dX16_taskTurn_1 rfl (lv_at hl 1 rfl) ?_
  refine c_V B hH hl hc K.2.2.1 (C := RX16) (T := TX16) (N := 123) (ci := 16) (As := [.int (i32 v1)]) (ok_X16_firstChannel K.2.1 σ v1 g1 hGσ hS h) wc_X16_784 1 hd_X16_firstChannel ⟨Nat.le_trans (Nat.le_of_ble_eq_true rfl) K.2.2.2.1, Nat.le_trans (Nat.le_of_ble_eq_true rfl) K.2.2.2.2.1⟩ hS.1.1 hS.1.2 (by decide) rfl rfl (rest := []) rfl (Nat.le_of_ble_eq_true rfl) dX16_taskTurn_2 (fun σ39 w hq => ?_) (fun σ9 E9 hx9 => hX σ9 E9 _ _ _ (tb_out K.2.2.2.2.2 rfl) hx9.1 hx9.2.1 hx9.2.2)
  obtain ⟨r40, rfl, gr40, h, hGσ39, hS⟩ := hq
  intro H locs ls hH hl hc
  refine W.eq (g2 := F0 m 5 ls [.int (i32 r40)]) (rfl) ?_
  try dsimp only at h
  refine lv_istore_n (lv' := [(2, .int (i32 r40)), (0, .ref rm), (1, .int (i32 v1))]) B.1 B.2.1 dX16_taskTurn_5 rfl hl (by decide) rfl (fun ls hl => ?_)
  refine lv_aload_n B.1 B.2.1 dX16_taskTurn_6 rfl (lv_at hl 1 rfl) ?_
  refine lv_iload_n B.1 B.2.1 dX16_taskTurn_7 rfl (lv_at hl 2 rfl) ?_
  refine c_V B hH hl hc K.2.2.1 (C := RX16) (T := TX16) (N := 123) (ci := 16) (As := [.int (i32 v1)]) (ok_X16_channelsOf K.2.1 σ39 v1 g1 hGσ39 hS h) wc_X16_787 1 hd_X16_channelsOf ⟨Nat.le_trans (Nat.le_of_ble_eq_true rfl) K.2.2.2.1, Nat.le_trans (Nat.le_of_ble_eq_true rfl) K.2.2.2.2.1⟩ hS.1.1 hS.1.2 (by decide) rfl rfl (rest := []) rfl (Nat.le_of_ble_eq_true rfl) dX16_taskTurn_8 (fun σ41 w hq => ?_) (fun σ9 E9 hx9 => hX σ9 E9 _ _ _ (tb_out K.2.2.2.2.2 rfl) hx9.1 hx9.2.1 hx9.2.2)
  obtain ⟨r42, rfl, gr42, h, hGσ41, hS⟩ := hq
  intro H locs ls hH hl hc
  refine W.eq (g2 := F0 m 11 ls [.int (i32 r42)]) (rfl) ?_
  try dsimp only at h
  refine lv_istore_n (lv' := [(3, .int (i32 r42)), (2, .int (i32 r40)), (0, .ref rm), (1, .int (i32 v1))]) B.1 B.2.1 dX16_taskTurn_11 rfl hl (by decide) rfl (fun ls hl => ?_)
  refine lv_aload_n B.1 B.2.1 dX16_taskTurn_12 rfl (lv_at hl 2 rfl) ?_
  refine r_arr B hH hS 45 (kd := 100) (n := 64) (by decide) (by decide) wf_X16_432 rfl rfl dX16_taskTurn_13 ?_
  refine lv_iload_n B.1 B.2.1 dX16_taskTurn_16 rfl (lv_at hl 3 rfl) ?_
  obtain ⟨q1, h⟩ := h
  refine x_iald B K.2.1 hH (hS.ar (k := 45) (kd := 100) (n := 64) (by decide)) (by decide) q1 dX16_taskTurn_17 ?_
  refine lv_iconst (v := i32 (-1)) B.1 B.2.1 dX16_taskTurn_18 (by decide) ?_
  refine lv_icmp_ne (tgt := 26) B.1 B.2.1 dX16_taskTurn_19 (by decide) (fun h9 => ?_) (fun h9 => ?_)
  · rw [if_pos (fun q => h9 ((i32_eq (hGσ41 _ _) (by unfold rng; omega)).mpr q))] at h
    exact a_X16_taskTurn_26 K hQ hX _ _ _ _ g1 gr40 gr42 h hGσ41 hS _ _ _ hH (lv_sub (l' := [(0, .ref rm), (1, .int (i32 v1)), (2, .int (i32 r40)), (3, .int (i32 r42))]) hl [2, 3, 1, 0] rfl) hc
  · rw [if_neg (fun q => q ((i32_eq (hGσ41 _ _) (by unfold rng; omega)).mp h9))] at h
    exact a_X16_taskTurn_22 K hQ hX _ _ _ _ g1 gr40 gr42 h hGσ41 hS _ _ _ hH (lv_sub (l' := [(0, .ref rm), (1, .int (i32 v1)), (2, .int (i32 r40)), (3, .int (i32 r42))]) hl [2, 3, 1, 0] rfl) hc
theorem ok_X16_taskTurn (hT : Tys cA tys) {Q : Sg → Int → Prop} {X : Sg → String → Prop} (σ : Sg) (v1 : Int) (g1 : rng v1) (hG : RG σ) (hS : Shp dm ra jx rm σ) (h : wp_X16_taskTurn ra jx rm v1 σ Q X) : Ok l D cA tys A yX16_taskTurn (.code yX16_taskTurn cX16_taskTurn 12 (some .int)) 7 196 [.ref rm, .int (i32 v1)] σ (QnI dm ra jx rm Q) (QxR dm ra jx rm X) := by
  unfold wp_X16_taskTurn at h
  exact ok_I (plainFor_of_name (by decide)) (by exact Nat.le_of_ble_eq_true rfl) hT (fun p e R s m args below meth c K hQ hX H locs ls hH hl hc => a_X16_taskTurn_0 K hQ hX σ v1 g1 h hG hS H locs ls hH (lv_sub (l' := [(0, .ref rm), (1, .int (i32 v1))]) hl [0, 1] rfl) hc)
end M65

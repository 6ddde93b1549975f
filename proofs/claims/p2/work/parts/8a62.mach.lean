section M62
variable {p : Program} {l : Launch} {e : Env} {R : Room} {s : State} {m : MethodId} {args : Array Value} {below : List Frame} {meth : Method} {c : Code} {D : va_G} {cA : Nat → ClassId} {tys : List (ClassId × FieldType)} {A : Nat → Prop} {n0 s0 : Nat} {QM : State → Prop} {dm : List Nat × Nat × Nat} {ra : Nat → Nat} {jx : Nat → Nat → Nat} {rm : Nat}
theorem dX16_passTop_0 : decode cX16_passTop 0 = .ok (.aload_n 0, 1) := by decide +kernel
theorem dX16_passTop_1 : decode cX16_passTop 1 = .ok (.iload_n 2, 1) := by decide +kernel
theorem dX16_passTop_2 : decode cX16_passTop 2 = .ok (.invokevirtual 883, 3) := by decide +kernel
theorem dX16_passTop_5 : decode cX16_passTop 5 = .ok (.istore_n 3, 1) := by decide +kernel
theorem dX16_passTop_6 : decode cX16_passTop 6 = .ok (.aload_n 0, 1) := by decide +kernel
theorem dX16_passTop_7 : decode cX16_passTop 7 = .ok (.getfield 356, 3) := by decide +kernel
theorem dX16_passTop_10 : decode cX16_passTop 10 = .ok (.getfield 239, 3) := by decide +kernel
theorem dX16_passTop_13 : decode cX16_passTop 13 = .ok (.iload_n 1, 1) := by decide +kernel
theorem dX16_passTop_14 : decode cX16_passTop 14 = .ok (.iaload, 1) := by decide +kernel
theorem dX16_passTop_15 : decode cX16_passTop 15 = .ok (.istore 4, 2) := by decide +kernel
theorem dX16_passTop_17 : decode cX16_passTop 17 = .ok (.iconst 0, 1) := by decide +kernel
theorem dX16_passTop_18 : decode cX16_passTop 18 = .ok (.istore 5, 2) := by decide +kernel
theorem dX16_passTop_20 : decode cX16_passTop 20 = .ok (.iload 5, 2) := by decide +kernel
theorem dX16_passTop_22 : decode cX16_passTop 22 = .ok (.iload_n 3, 1) := by decide +kernel
theorem dX16_passTop_23 : decode cX16_passTop 23 = .ok (.if_icmp .ge 17, 3) := by decide +kernel
theorem dX16_passTop_26 : decode cX16_passTop 26 = .ok (.aload_n 0, 1) := by decide +kernel
theorem dX16_passTop_27 : decode cX16_passTop 27 = .ok (.getfield 897, 3) := by decide +kernel
theorem dX16_passTop_30 : decode cX16_passTop 30 = .ok (.iload 5, 2) := by decide +kernel
theorem dX16_passTop_32 : decode cX16_passTop 32 = .ok (.iconst 0, 1) := by decide +kernel
theorem dX16_passTop_33 : decode cX16_passTop 33 = .ok (.bastore, 1) := by decide +kernel
theorem dX16_passTop_34 : decode cX16_passTop 34 = .ok (.iinc 5 1, 3) := by decide +kernel
theorem dX16_passTop_37 : decode cX16_passTop 37 = .ok (.goto (-17), 3) := by decide +kernel
theorem dX16_passTop_40 : decode cX16_passTop 40 = .ok (.iconst 0, 1) := by decide +kernel
theorem dX16_passTop_41 : decode cX16_passTop 41 = .ok (.istore 5, 2) := by decide +kernel
theorem dX16_passTop_43 : decode cX16_passTop 43 = .ok (.iload 5, 2) := by decide +kernel
theorem dX16_passTop_45 : decode cX16_passTop 45 = .ok (.iload_n 3, 1) := by decide +kernel
theorem dX16_passTop_46 : decode cX16_passTop 46 = .ok (.if_icmp .ge 317, 3) := by decide +kernel
theorem dX16_passTop_49 : decode cX16_passTop 49 = .ok (.aload_n 0, 1) := by decide +kernel
theorem dX16_passTop_50 : decode cX16_passTop 50 = .ok (.getfield 864, 3) := by decide +kernel
theorem dX16_passTop_53 : decode cX16_passTop 53 = .ok (.aload_n 0, 1) := by decide +kernel
theorem dX16_passTop_54 : decode cX16_passTop 54 = .ok (.getfield 877, 3) := by decide +kernel
theorem dX16_passTop_57 : decode cX16_passTop 57 = .ok (.iload 5, 2) := by decide +kernel
theorem dX16_passTop_59 : decode cX16_passTop 59 = .ok (.iaload, 1) := by decide +kernel
theorem dX16_passTop_60 : decode cX16_passTop 60 = .ok (.laload, 1) := by decide +kernel
theorem dX16_passTop_61 : decode cX16_passTop 61 = .ok (.aload_n 0, 1) := by decide +kernel
theorem dX16_passTop_62 : decode cX16_passTop 62 = .ok (.getfield 356, 3) := by decide +kernel
theorem dX16_passTop_65 : decode cX16_passTop 65 = .ok (.getfield 204, 3) := by decide +kernel
theorem dX16_passTop_68 : decode cX16_passTop 68 = .ok (.iload_n 1, 1) := by decide +kernel
theorem dX16_passTop_69 : decode cX16_passTop 69 = .ok (.laload, 1) := by decide +kernel
theorem dX16_passTop_70 : decode cX16_passTop 70 = .ok (.ldiv, 1) := by decide +kernel
theorem dX16_passTop_71 : decode cX16_passTop 71 = .ok (.lstore 6, 2) := by decide +kernel
theorem dX16_passTop_73 : decode cX16_passTop 73 = .ok (.iload 5, 2) := by decide +kernel
theorem dX16_passTop_75 : decode cX16_passTop 75 = .ok (.ifCond .le 36, 3) := by decide +kernel
theorem dX16_passTop_78 : decode cX16_passTop 78 = .ok (.aload_n 0, 1) := by decide +kernel
theorem dX16_passTop_79 : decode cX16_passTop 79 = .ok (.getfield 864, 3) := by decide +kernel
theorem dX16_passTop_82 : decode cX16_passTop 82 = .ok (.aload_n 0, 1) := by decide +kernel
theorem dX16_passTop_83 : decode cX16_passTop 83 = .ok (.getfield 877, 3) := by decide +kernel
theorem dX16_passTop_86 : decode cX16_passTop 86 = .ok (.iload 5, 2) := by decide +kernel
theorem dX16_passTop_88 : decode cX16_passTop 88 = .ok (.iconst 1, 1) := by decide +kernel
theorem dX16_passTop_89 : decode cX16_passTop 89 = .ok (.isub, 1) := by decide +kernel
theorem dX16_passTop_90 : decode cX16_passTop 90 = .ok (.iaload, 1) := by decide +kernel
theorem dX16_passTop_91 : decode cX16_passTop 91 = .ok (.laload, 1) := by decide +kernel
theorem dX16_passTop_92 : decode cX16_passTop 92 = .ok (.aload_n 0, 1) := by decide +kernel
theorem dX16_passTop_93 : decode cX16_passTop 93 = .ok (.getfield 356, 3) := by decide +kernel
theorem dX16_passTop_96 : decode cX16_passTop 96 = .ok (.getfield 204, 3) := by decide +kernel
theorem dX16_passTop_99 : decode cX16_passTop 99 = .ok (.iload_n 1, 1) := by decide +kernel
theorem dX16_passTop_100 : decode cX16_passTop 100 = .ok (.laload, 1) := by decide +kernel
theorem dX16_passTop_101 : decode cX16_passTop 101 = .ok (.ldiv, 1) := by decide +kernel
theorem dX16_passTop_102 : decode cX16_passTop 102 = .ok (.lload 6, 2) := by decide +kernel
theorem dX16_passTop_104 : decode cX16_passTop 104 = .ok (.lcmp, 1) := by decide +kernel
theorem dX16_passTop_105 : decode cX16_passTop 105 = .ok (.ifCond .ne 6, 3) := by decide +kernel
theorem dX16_passTop_108 : decode cX16_passTop 108 = .ok (.goto 249, 3) := by decide +kernel
theorem dX16_passTop_111 : decode cX16_passTop 111 = .ok (.iconst 1, 1) := by decide +kernel
theorem dX16_passTop_112 : decode cX16_passTop 112 = .ok (.istore 8, 2) := by decide +kernel
theorem dX16_passTop_114 : decode cX16_passTop 114 = .ok (.iload 8, 2) := by decide +kernel
theorem dX16_passTop_116 : decode cX16_passTop 116 = .ok (.i2l, 1) := by decide +kernel
theorem dX16_passTop_117 : decode cX16_passTop 117 = .ok (.aload_n 0, 1) := by decide +kernel
theorem dX16_passTop_118 : decode cX16_passTop 118 = .ok (.getfield 356, 3) := by decide +kernel
theorem dX16_passTop_121 : decode cX16_passTop 121 = .ok (.getfield 191, 3) := by decide +kernel
theorem dX16_passTop_124 : decode cX16_passTop 124 = .ok (.iload_n 1, 1) := by decide +kernel
theorem dX16_passTop_125 : decode cX16_passTop 125 = .ok (.laload, 1) := by decide +kernel
theorem dX16_passTop_126 : decode cX16_passTop 126 = .ok (.lcmp, 1) := by decide +kernel
theorem dX16_passTop_127 : decode cX16_passTop 127 = .ok (.ifCond .gt 230, 3) := by decide +kernel
theorem dX16_passTop_130 : decode cX16_passTop 130 = .ok (.iconst (-1), 1) := by decide +kernel
theorem dX16_passTop_131 : decode cX16_passTop 131 = .ok (.istore 9, 2) := by decide +kernel
theorem dX16_passTop_133 : decode cX16_passTop 133 = .ok (.iload 5, 2) := by decide +kernel
theorem dX16_passTop_135 : decode cX16_passTop 135 = .ok (.istore 10, 2) := by decide +kernel
theorem dX16_passTop_137 : decode cX16_passTop 137 = .ok (.iload 10, 2) := by decide +kernel
theorem dX16_passTop_139 : decode cX16_passTop 139 = .ok (.iload_n 3, 1) := by decide +kernel
theorem dX16_passTop_140 : decode cX16_passTop 140 = .ok (.if_icmp .ge 102, 3) := by decide +kernel
theorem dX16_passTop_143 : decode cX16_passTop 143 = .ok (.aload_n 0, 1) := by decide +kernel
theorem dX16_passTop_144 : decode cX16_passTop 144 = .ok (.getfield 864, 3) := by decide +kernel
theorem dX16_passTop_147 : decode cX16_passTop 147 = .ok (.aload_n 0, 1) := by decide +kernel
theorem dX16_passTop_148 : decode cX16_passTop 148 = .ok (.getfield 877, 3) := by decide +kernel
theorem dX16_passTop_151 : decode cX16_passTop 151 = .ok (.iload 10, 2) := by decide +kernel
theorem dX16_passTop_153 : decode cX16_passTop 153 = .ok (.iaload, 1) := by decide +kernel
theorem dX16_passTop_154 : decode cX16_passTop 154 = .ok (.laload, 1) := by decide +kernel
theorem dX16_passTop_155 : decode cX16_passTop 155 = .ok (.aload_n 0, 1) := by decide +kernel
theorem dX16_passTop_156 : decode cX16_passTop 156 = .ok (.getfield 356, 3) := by decide +kernel
theorem dX16_passTop_159 : decode cX16_passTop 159 = .ok (.getfield 204, 3) := by decide +kernel
theorem dX16_passTop_162 : decode cX16_passTop 162 = .ok (.iload_n 1, 1) := by decide +kernel
theorem dX16_passTop_163 : decode cX16_passTop 163 = .ok (.laload, 1) := by decide +kernel
theorem dX16_passTop_164 : decode cX16_passTop 164 = .ok (.ldiv, 1) := by decide +kernel
theorem dX16_passTop_165 : decode cX16_passTop 165 = .ok (.lload 6, 2) := by decide +kernel
theorem dX16_passTop_167 : decode cX16_passTop 167 = .ok (.lcmp, 1) := by decide +kernel
theorem dX16_passTop_168 : decode cX16_passTop 168 = .ok (.ifCond .ne 74, 3) := by decide +kernel
theorem dX16_passTop_171 : decode cX16_passTop 171 = .ok (.aload_n 0, 1) := by decide +kernel
theorem dX16_passTop_172 : decode cX16_passTop 172 = .ok (.getfield 897, 3) := by decide +kernel
theorem dX16_passTop_175 : decode cX16_passTop 175 = .ok (.iload 10, 2) := by decide +kernel
theorem dX16_passTop_177 : decode cX16_passTop 177 = .ok (.baload, 1) := by decide +kernel
theorem dX16_passTop_178 : decode cX16_passTop 178 = .ok (.ifCond .ne 54, 3) := by decide +kernel
theorem dX16_passTop_181 : decode cX16_passTop 181 = .ok (.iload 9, 2) := by decide +kernel
theorem dX16_passTop_183 : decode cX16_passTop 183 = .ok (.iconst (-1), 1) := by decide +kernel
theorem dX16_passTop_184 : decode cX16_passTop 184 = .ok (.if_icmp .eq 43, 3) := by decide +kernel
theorem dX16_passTop_187 : decode cX16_passTop 187 = .ok (.aload_n 0, 1) := by decide +kernel
theorem dX16_passTop_188 : decode cX16_passTop 188 = .ok (.getfield 867, 3) := by decide +kernel
theorem dX16_passTop_191 : decode cX16_passTop 191 = .ok (.bipush 8, 2) := by decide +kernel
theorem dX16_passTop_193 : decode cX16_passTop 193 = .ok (.aload_n 0, 1) := by decide +kernel
theorem dX16_passTop_194 : decode cX16_passTop 194 = .ok (.getfield 877, 3) := by decide +kernel
theorem dX16_passTop_197 : decode cX16_passTop 197 = .ok (.iload 10, 2) := by decide +kernel
theorem dX16_passTop_199 : decode cX16_passTop 199 = .ok (.iaload, 1) := by decide +kernel
theorem dX16_passTop_200 : decode cX16_passTop 200 = .ok (.imul, 1) := by decide +kernel
theorem dX16_passTop_201 : decode cX16_passTop 201 = .ok (.iload 4, 2) := by decide +kernel
theorem dX16_passTop_203 : decode cX16_passTop 203 = .ok (.iadd, 1) := by decide +kernel
theorem dX16_passTop_204 : decode cX16_passTop 204 = .ok (.laload, 1) := by decide +kernel
theorem dX16_passTop_205 : decode cX16_passTop 205 = .ok (.aload_n 0, 1) := by decide +kernel
theorem dX16_passTop_206 : decode cX16_passTop 206 = .ok (.getfield 867, 3) := by decide +kernel
theorem dX16_passTop_209 : decode cX16_passTop 209 = .ok (.bipush 8, 2) := by decide +kernel
theorem dX16_passTop_211 : decode cX16_passTop 211 = .ok (.aload_n 0, 1) := by decide +kernel
theorem dX16_passTop_212 : decode cX16_passTop 212 = .ok (.getfield 877, 3) := by decide +kernel
theorem dX16_passTop_215 : decode cX16_passTop 215 = .ok (.iload 9, 2) := by decide +kernel
theorem dX16_passTop_217 : decode cX16_passTop 217 = .ok (.iaload, 1) := by decide +kernel
theorem dX16_passTop_218 : decode cX16_passTop 218 = .ok (.imul, 1) := by decide +kernel
theorem dX16_passTop_219 : decode cX16_passTop 219 = .ok (.iload 4, 2) := by decide +kernel
theorem dX16_passTop_221 : decode cX16_passTop 221 = .ok (.iadd, 1) := by decide +kernel
theorem dX16_passTop_222 : decode cX16_passTop 222 = .ok (.laload, 1) := by decide +kernel
theorem dX16_passTop_223 : decode cX16_passTop 223 = .ok (.lcmp, 1) := by decide +kernel
theorem dX16_passTop_224 : decode cX16_passTop 224 = .ok (.ifCond .le 8, 3) := by decide +kernel
theorem dX16_passTop_227 : decode cX16_passTop 227 = .ok (.iload 10, 2) := by decide +kernel
theorem dX16_passTop_229 : decode cX16_passTop 229 = .ok (.goto 5, 3) := by decide +kernel
theorem dX16_passTop_232 : decode cX16_passTop 232 = .ok (.iload 9, 2) := by decide +kernel
theorem dX16_passTop_234 : decode cX16_passTop 234 = .ok (.istore 9, 2) := by decide +kernel
theorem dX16_passTop_236 : decode cX16_passTop 236 = .ok (.iinc 10 1, 3) := by decide +kernel
theorem dX16_passTop_239 : decode cX16_passTop 239 = .ok (.goto (-102), 3) := by decide +kernel
theorem dX16_passTop_242 : decode cX16_passTop 242 = .ok (.iload 9, 2) := by decide +kernel
theorem dX16_passTop_244 : decode cX16_passTop 244 = .ok (.iconst (-1), 1) := by decide +kernel
theorem dX16_passTop_245 : decode cX16_passTop 245 = .ok (.if_icmp .eq 106, 3) := by decide +kernel
theorem dX16_passTop_248 : decode cX16_passTop 248 = .ok (.aload_n 0, 1) := by decide +kernel
theorem dX16_passTop_249 : decode cX16_passTop 249 = .ok (.getfield 897, 3) := by decide +kernel
theorem dX16_passTop_252 : decode cX16_passTop 252 = .ok (.iload 9, 2) := by decide +kernel
theorem dX16_passTop_254 : decode cX16_passTop 254 = .ok (.iconst 1, 1) := by decide +kernel
theorem dX16_passTop_255 : decode cX16_passTop 255 = .ok (.bastore, 1) := by decide +kernel
theorem dX16_passTop_256 : decode cX16_passTop 256 = .ok (.aload_n 0, 1) := by decide +kernel
theorem dX16_passTop_257 : decode cX16_passTop 257 = .ok (.aload_n 0, 1) := by decide +kernel
theorem dX16_passTop_258 : decode cX16_passTop 258 = .ok (.getfield 877, 3) := by decide +kernel
theorem dX16_passTop_261 : decode cX16_passTop 261 = .ok (.iload 9, 2) := by decide +kernel
theorem dX16_passTop_263 : decode cX16_passTop 263 = .ok (.iaload, 1) := by decide +kernel
theorem dX16_passTop_264 : decode cX16_passTop 264 = .ok (.invokevirtual 880, 3) := by decide +kernel
theorem dX16_passTop_267 : decode cX16_passTop 267 = .ok (.aload_n 0, 1) := by decide +kernel
theorem dX16_passTop_268 : decode cX16_passTop 268 = .ok (.getfield 542, 3) := by decide +kernel
theorem dX16_passTop_271 : decode cX16_passTop 271 = .ok (.aload_n 0, 1) := by decide +kernel
theorem dX16_passTop_272 : decode cX16_passTop 272 = .ok (.getfield 356, 3) := by decide +kernel
theorem dX16_passTop_275 : decode cX16_passTop 275 = .ok (.getfield 178, 3) := by decide +kernel
theorem dX16_passTop_278 : decode cX16_passTop 278 = .ok (.iload_n 2, 1) := by decide +kernel
theorem dX16_passTop_279 : decode cX16_passTop 279 = .ok (.iaload, 1) := by decide +kernel
theorem dX16_passTop_280 : decode cX16_passTop 280 = .ok (.iload 8, 2) := by decide +kernel
theorem dX16_passTop_282 : decode cX16_passTop 282 = .ok (.i2l, 1) := by decide +kernel
theorem dX16_passTop_283 : decode cX16_passTop 283 = .ok (.lastore, 1) := by decide +kernel
theorem dX16_passTop_284 : decode cX16_passTop 284 = .ok (.aload_n 0, 1) := by decide +kernel
theorem dX16_passTop_285 : decode cX16_passTop 285 = .ok (.getfield 356, 3) := by decide +kernel
theorem dX16_passTop_288 : decode cX16_passTop 288 = .ok (.getfield 178, 3) := by decide +kernel
theorem dX16_passTop_291 : decode cX16_passTop 291 = .ok (.iload_n 2, 1) := by decide +kernel
theorem dX16_passTop_292 : decode cX16_passTop 292 = .ok (.iaload, 1) := by decide +kernel
theorem dX16_passTop_293 : decode cX16_passTop 293 = .ok (.iconst 1, 1) := by decide +kernel
theorem dX16_passTop_294 : decode cX16_passTop 294 = .ok (.iadd, 1) := by decide +kernel
theorem dX16_passTop_295 : decode cX16_passTop 295 = .ok (.istore 10, 2) := by decide +kernel
theorem dX16_passTop_297 : decode cX16_passTop 297 = .ok (.iload 10, 2) := by decide +kernel
theorem dX16_passTop_299 : decode cX16_passTop 299 = .ok (.bipush 8, 2) := by decide +kernel
theorem dX16_passTop_301 : decode cX16_passTop 301 = .ok (.if_icmp .ge 17, 3) := by decide +kernel
theorem dX16_passTop_304 : decode cX16_passTop 304 = .ok (.aload_n 0, 1) := by decide +kernel
theorem dX16_passTop_305 : decode cX16_passTop 305 = .ok (.getfield 542, 3) := by decide +kernel
theorem dX16_passTop_308 : decode cX16_passTop 308 = .ok (.iload 10, 2) := by decide +kernel
theorem dX16_passTop_310 : decode cX16_passTop 310 = .ok (.lconst 0, 1) := by decide +kernel
theorem dX16_passTop_311 : decode cX16_passTop 311 = .ok (.lastore, 1) := by decide +kernel
theorem dX16_passTop_312 : decode cX16_passTop 312 = .ok (.iinc 10 1, 3) := by decide +kernel
theorem dX16_passTop_315 : decode cX16_passTop 315 = .ok (.goto (-18), 3) := by decide +kernel
theorem dX16_passTop_318 : decode cX16_passTop 318 = .ok (.aload_n 0, 1) := by decide +kernel
theorem dX16_passTop_319 : decode cX16_passTop 319 = .ok (.lload 6, 2) := by decide +kernel
theorem dX16_passTop_321 : decode cX16_passTop 321 = .ok (.aload_n 0, 1) := by decide +kernel
theorem dX16_passTop_322 : decode cX16_passTop 322 = .ok (.getfield 356, 3) := by decide +kernel
theorem dX16_passTop_325 : decode cX16_passTop 325 = .ok (.getfield 204, 3) := by decide +kernel
theorem dX16_passTop_328 : decode cX16_passTop 328 = .ok (.iload_n 1, 1) := by decide +kernel
theorem dX16_passTop_329 : decode cX16_passTop 329 = .ok (.laload, 1) := by decide +kernel
theorem dX16_passTop_330 : decode cX16_passTop 330 = .ok (.lmul, 1) := by decide +kernel
theorem dX16_passTop_331 : decode cX16_passTop 331 = .ok (.aload_n 0, 1) := by decide +kernel
theorem dX16_passTop_332 : decode cX16_passTop 332 = .ok (.getfield 356, 3) := by decide +kernel
theorem dX16_passTop_335 : decode cX16_passTop 335 = .ok (.getfield 204, 3) := by decide +kernel
theorem dX16_passTop_338 : decode cX16_passTop 338 = .ok (.iload_n 1, 1) := by decide +kernel
theorem dX16_passTop_339 : decode cX16_passTop 339 = .ok (.laload, 1) := by decide +kernel
theorem dX16_passTop_340 : decode cX16_passTop 340 = .ok (.ladd, 1) := by decide +kernel
theorem dX16_passTop_341 : decode cX16_passTop 341 = .ok (.lconst 1, 1) := by decide +kernel
theorem dX16_passTop_342 : decode cX16_passTop 342 = .ok (.lsub, 1) := by decide +kernel
theorem dX16_passTop_343 : decode cX16_passTop 343 = .ok (.aload_n 0, 1) := by decide +kernel
theorem dX16_passTop_344 : decode cX16_passTop 344 = .ok (.getfield 542, 3) := by decide +kernel
theorem dX16_passTop_347 : decode cX16_passTop 347 = .ok (.iconst 0, 1) := by decide +kernel
theorem dX16_passTop_348 : decode cX16_passTop 348 = .ok (.invokevirtual 870, 3) := by decide +kernel
theorem dX16_passTop_351 : decode cX16_passTop 351 = .ok (.iinc 8 1, 3) := by decide +kernel
theorem dX16_passTop_354 : decode cX16_passTop 354 = .ok (.goto (-240), 3) := by decide +kernel
theorem dX16_passTop_357 : decode cX16_passTop 357 = .ok (.iinc 5 1, 3) := by decide +kernel
theorem dX16_passTop_360 : decode cX16_passTop 360 = .ok (.goto (-317), 3) := by decide +kernel
theorem dX16_passTop_363 : decode cX16_passTop 363 = .ok (.return_, 1) := by decide +kernel
set_option maxRecDepth 20000 in
theorem a_X16_passTop_363 {Q : Sg → Unit → Prop} {X : Sg → String → Prop} (K : MC R p s m args c cX16_passTop 11 RX16 D cA tys A n0 s0 2 54 []) (hQ : HQV p l e R s m args below meth c cX16_passTop D cA A n0 s0 QM dm ra jx rm Q) (hX : HX p l e R s m args below meth c 11 D cA A n0 s0 QM dm ra jx rm X) : ∀ (σ : Sg), w_X16_passTop_363 ra jx rm Q X σ → RG σ → Shp dm ra jx rm σ → JJ p l e R s m args below meth c 11 D cA A n0 s0 QM σ 363 [(0, .ref rm)] [] := by
  intro σ h hGσ hS H locs ls hH hl hc
  have B := K.1
  unfold w_X16_passTop_363 at h
  exact hQ _ _ _ _ _ dX16_passTop_363 hH hc h hGσ hS
set_option maxRecDepth 20000 in
theorem a_X16_passTop_357 {Q : Sg → Unit → Prop} {X : Sg → String → Prop} (K : MC R p s m args c cX16_passTop 11 RX16 D cA tys A n0 s0 2 54 []) (hQ : HQV p l e R s m args below meth c cX16_passTop D cA A n0 s0 QM dm ra jx rm Q) (hX : HX p l e R s m args below meth c 11 D cA A n0 s0 QM dm ra jx rm X) {K43 : Sg → Int → Int → Int → Int → Int → Prop} (hK43 : ∀ (σ : Sg) (v1 : Int) (v2 : Int) (v3 : Int) (v4 : Int) (v5 : Int) (g1 : rng v1) (g2 : rng v2) (g3 : rng v3) (g4 : rng v4) (g5 : rng v5), K43 σ v1 v2 v3 v4 v5 → RG σ → Shp dm ra jx rm σ → JJ p l e R s m args below meth c 11 D cA A n0 s0 QM σ 43 [(0, .ref rm), (1, .int (i32 v1)), (2, .int (i32 v2)), (3, .int (i32 v3)), (4, .int (i32 v4)), (5, .int (i32 v5))] []) : ∀ (σ : Sg) (v1 : Int) (v2 : Int) (v3 : Int) (v4 : Int) (v5 : Int) (g1 : rng v1) (g2 : rng v2) (g3 : rng v3) (g4 : rng v4) (g5 : rng v5), w_X16_passTop_357 ra jx rm K43 Q X σ v1 v2 v3 v4 v5 → RG σ → Shp dm ra jx rm σ → JJ p l e R s m args below meth c 11 D cA A n0 s0 QM σ 357 [(0, .ref rm), (1, .int (i32 v1)), (2, .int (i32 v2)), (3, .int (i32 v3)), (4, .int (i32 v4)), (5, .int (i32 v5))] [] := by
  intro σ v1 v2 v3 v4 v5 g1 g2 g3 g4 g5 h hGσ hS H locs ls hH hl hc
  have B := K.1
  unfold w_X16_passTop_357 at h
  obtain ⟨q1, h⟩ := h
  refine lv_iinc (k := 5) (v := i32 (v5 + 1)) (lv' := [(5, .int (i32 (v5 + 1))), (0, .ref rm), (1, .int (i32 v1)), (2, .int (i32 v2)), (3, .int (i32 v3)), (4, .int (i32 v4))]) B.1 B.2.1 dX16_passTop_357 hl rfl (i32_add _ _) (by decide) rfl (fun ls hl => ?_)
  refine lv_goto (tgt := 43) B.1 B.2.1 dX16_passTop_360 (by decide) ?_
  exact hK43 _ _ _ _ _ _ g1 g2 g3 g4 q1 h hGσ hS _ _ _ hH (lv_sub (l' := [(0, .ref rm), (1, .int (i32 v1)), (2, .int (i32 v2)), (3, .int (i32 v3)), (4, .int (i32 v4)), (5, .int (i32 (v5 + 1)))]) hl [1, 2, 3, 4, 5, 0] rfl) hc
set_option maxRecDepth 20000 in
theorem a_X16_passTop_351 {Q : Sg → Unit → Prop} {X : Sg → String → Prop} (K : MC R p s m args c cX16_passTop 11 RX16 D cA tys A n0 s0 2 54 []) (hQ : HQV p l e R s m args below meth c cX16_passTop D cA A n0 s0 QM dm ra jx rm Q) (hX : HX p l e R s m args below meth c 11 D cA A n0 s0 QM dm ra jx rm X) {K43 : Sg → Int → Int → Int → Int → Int → Prop} (hK43 : ∀ (σ : Sg) (v1 : Int) (v2 : Int) (v3 : Int) (v4 : Int) (v5 : Int) (g1 : rng v1) (g2 : rng v2) (g3 : rng v3) (g4 : rng v4) (g5 : rng v5), K43 σ v1 v2 v3 v4 v5 → RG σ → Shp dm ra jx rm σ → JJ p l e R s m args below meth c 11 D cA A n0 s0 QM σ 43 [(0, .ref rm), (1, .int (i32 v1)), (2, .int (i32 v2)), (3, .int (i32 v3)), (4, .int (i32 v4)), (5, .int (i32 v5))] []) {K114 : Sg → Int → Int → Int → Int → Int → Int64 → Int → Prop} (hK114 : ∀ (σ : Sg) (v1 : Int) (v2 : Int) (v3 : Int) (v4 : Int) (v5 : Int) (v6 : Int64) (v8 : Int) (g1 : rng v1) (g2 : rng v2) (g3 : rng v3) (g4 : rng v4) (g5 : rng v5) (g8 : rng v8), K114 σ v1 v2 v3 v4 v5 v6 v8 → RG σ → Shp dm ra jx rm σ → JJ p l e R s m args below meth c 11 D cA A n0 s0 QM σ 114 [(0, .ref rm), (1, .int (i32 v1)), (2, .int (i32 v2)), (3, .int (i32 v3)), (4, .int (i32 v4)), (5, .int (i32 v5)), (6, .long v6), (8, .int (i32 v8))] []) : ∀ (σ : Sg) (v1 : Int) (v2 : Int) (v3 : Int) (v4 : Int) (v5 : Int) (v6 : Int64) (v8 : Int) (g1 : rng v1) (g2 : rng v2) (g3 : rng v3) (g4 : rng v4) (g5 : rng v5) (g8 : rng v8), w_X16_passTop_351 ra jx rm K43 K114 Q X σ v1 v2 v3 v4 v5 v6 v8 → RG σ → Shp dm ra jx rm σ → JJ p l e R s m args below meth c 11 D cA A n0 s0 QM σ 351 [(0, .ref rm), (1, .int (i32 v1)), (2, .int (i32 v2)), (3, .int (i32 v3)), (4, .int (i32 v4)), (5, .int (i32 v5)), (6, .long v6), (8, .int (i32 v8))] [] := by
  intro σ v1 v2 v3 v4 v5 v6 v8 g1 g2 g3 g4 g5 g8 h hGσ hS H locs ls hH hl hc
  have B := K.1
  unfold w_X16_passTop_351 at h
  obtain ⟨q1, h⟩ := h
  refine lv_iinc (k := 7) (v := i32 (v8 + 1)) (lv' := [(8, .int (i32 (v8 + 1))), (0, .ref rm), (1, .int (i32 v1)), (2, .int (i32 v2)), (3, .int (i32 v3)), (4, .int (i32 v4)), (5, .int (i32 v5)), (6, .long v6)]) B.1 B.2.1 dX16_passTop_351 hl rfl (i32_add _ _) (by decide) rfl (fun ls hl => ?_)
  refine lv_goto (tgt := 114) B.1 B.2.1 dX16_passTop_354 (by decide) ?_
  exact hK114 _ _ _ _ _ _ _ _ g1 g2 g3 g4 g5 q1 h hGσ hS _ _ _ hH (lv_sub (l' := [(0, .ref rm), (1, .int (i32 v1)), (2, .int (i32 v2)), (3, .int (i32 v3)), (4, .int (i32 v4)), (5, .int (i32 v5)), (6, .long v6), (8, .int (i32 (v8 + 1)))]) hl [1, 2, 3, 4, 5, 6, 7, 0] rfl) hc
set_option maxRecDepth 20000 in
theorem a_X16_passTop_318 {Q : Sg → Unit → Prop} {X : Sg → String → Prop} (K : MC R p s m args c cX16_passTop 11 RX16 D cA tys A n0 s0 2 54 []) (hQ : HQV p l e R s m args below meth c cX16_passTop D cA A n0 s0 QM dm ra jx rm Q) (hX : HX p l e R s m args below meth c 11 D cA A n0 s0 QM dm ra jx rm X) {K43 : Sg → Int → Int → Int → Int → Int → Prop} (hK43 : ∀ (σ : Sg) (v1 : Int) (v2 : Int) (v3 : Int) (v4 : Int) (v5 : Int) (g1 : rng v1) (g2 : rng v2) (g3 : rng v3) (g4 : rng v4) (g5 : rng v5), K43 σ v1 v2 v3 v4 v5 → RG σ → Shp dm ra jx rm σ → JJ p l e R s m args below meth c 11 D cA A n0 s0 QM σ 43 [(0, .ref rm), (1, .int (i32 v1)), (2, .int (i32 v2)), (3, .int (i32 v3)), (4, .int (i32 v4)), (5, .int (i32 v5))] []) {K114 : Sg → Int → Int → Int → Int → Int → Int64 → Int → Prop} (hK114 : ∀ (σ : Sg) (v1 : Int) (v2 : Int) (v3 : Int) (v4 : Int) (v5 : Int) (v6 : Int64) (v8 : Int) (g1 : rng v1) (g2 : rng v2) (g3 : rng v3) (g4 : rng v4) (g5 : rng v5) (g8 : rng v8), K114 σ v1 v2 v3 v4 v5 v6 v8 → RG σ → Shp dm ra jx rm σ → JJ p l e R s m args below meth c 11 D cA A n0 s0 QM σ 114 [(0, .ref rm), (1, .int (i32 v1)), (2, .int (i32 v2)), (3, .int (i32 v3)), (4, .int (i32 v4)), (5, .int (i32 v5)), (6, .long v6), (8, .int (i32 v8))] []) : ∀ (σ : Sg) (v1 : Int) (v2 : Int) (v3 : Int) (v4 : Int) (v5 : Int) (v6 : Int64) (v8 : Int) (g1 : rng v1) (g2 : rng v2) (g3 : rng v3) (g4 : rng v4) (g5 : rng v5) (g8 : rng v8), w_X16_passTop_318 ra jx rm K43 K114 Q X σ v1 v2 v3 v4 v5 v6 v8 → RG σ → Shp dm ra jx rm σ → JJ p l e R s m args below meth c 11 D cA A n0 s0 QM σ 318 [(0, .ref rm), (1, .int (i32 v1)), (2, .int (i32 v2)), (3, .int (i32 v3)), (4, .int (i32 v4)), (5, .int (i32 v5)), (6, .long v6), (8, .int (i32 v8))] [] := by
  intro σ v1 v2 v3 v4 v5 v6 v8 g1 g2 g3 g4 g5 g8 h hGσ hS H locs ls hH hl hc
  have B := K.1
  unfold w_X16_passTop_318 at h
  refine lv_aload_n B.1 B.2.1 dX16_passTop_318 rfl (lv_at hl 0 rfl) ?_
  refine lv_lload B.1 B.2.1 dX16_passTop_319 (lv_at hl 6 rfl) ?_
  refine lv_aload_n B.1 B.2.1 dX16_passTop_321 rfl (lv_at hl 0 rfl) ?_
  refine r_getp B hH hS 17 (by decide) wf_X16_356 rfl rfl dX16_passTop_322 ?_
  obtain ⟨a35, ea35, ja35, h⟩ := h
  refine W.eq (g2 := F0 m 325 ls [.ref a35, .long v6, .ref rm]) (by rw [ea35]; rfl) ?_
  refine n_arr B hH hS ja35 9 (kd := 101) (n := 16) (by decide) (by decide) (List.mem_of_getElem? (i := 9) rfl) rfl dX16_passTop_325 ?_
  refine lv_iload_n B.1 B.2.1 dX16_passTop_328 rfl (lv_at hl 1 rfl) ?_
  obtain ⟨q2, h⟩ := h
  refine x_lald B K.2.1 hH (hS.ja ja35 (k := 9) (kd := 101) (n := 16) (by decide)) (by decide) q2 dX16_passTop_329 ?_
  refine lv_lmul B.1 B.2.1 dX16_passTop_330 ?_
  refine lv_aload_n B.1 B.2.1 dX16_passTop_331 rfl (lv_at hl 0 rfl) ?_
  refine r_getp B hH hS 17 (by decide) wf_X16_356 rfl rfl dX16_passTop_332 ?_
  obtain ⟨a36, ea36, ja36, h⟩ := h
  refine W.eq (g2 := F0 m 335 ls [.ref a36, .long (v6 * (gJ σ (jx a35 9) v1.toNat)), .ref rm]) (by rw [ea36]; rfl) ?_
  refine n_arr B hH hS ja36 9 (kd := 101) (n := 16) (by decide) (by decide) (List.mem_of_getElem? (i := 9) rfl) rfl dX16_passTop_335 ?_
  refine lv_iload_n B.1 B.2.1 dX16_passTop_338 rfl (lv_at hl 1 rfl) ?_
  obtain ⟨q4, h⟩ := h
  refine x_lald B K.2.1 hH (hS.ja ja36 (k := 9) (kd := 101) (n := 16) (by decide)) (by decide) q4 dX16_passTop_339 ?_
  refine lv_ladd B.1 B.2.1 dX16_passTop_340 ?_
  refine lv_lconst (v := 1) B.1 B.2.1 dX16_passTop_341 (by decide) ?_
  refine lv_lsub B.1 B.2.1 dX16_passTop_342 ?_
  refine lv_aload_n B.1 B.2.1 dX16_passTop_343 rfl (lv_at hl 0 rfl) ?_
  refine r_arr B hH hS 81 (kd := 101) (n := 8) (by decide) (by decide) wf_X16_542 rfl rfl dX16_passTop_344 ?_
  refine lv_iconst (v := i32 0) B.1 B.2.1 dX16_passTop_347 (by decide) ?_
  refine c_V B hH hl hc K.2.2.1 (C := RX16) (T := TX16) (N := 123) (ci := 16) (As := [.long (((v6 * (gJ σ (jx a35 9) v1.toNat)) + (gJ σ (jx a36 9) v1.toNat)) - 1), va_rf (some (ra 81)), .int (i32 0)]) (ok_X16_pass K.2.1 σ (((v6 * (gJ σ (jx a35 9) v1.toNat)) + (gJ σ (jx a36 9) v1.toNat)) - 1) (some (ra 81)) 0 (by unfold rng; omega) hGσ hS h) wc_X16_870 3 hd_X16_pass ⟨Nat.le_trans (Nat.le_of_ble_eq_true rfl) K.2.2.2.1, Nat.le_trans (Nat.le_of_ble_eq_true rfl) K.2.2.2.2.1⟩ hS.1.1 hS.1.2 (by decide) rfl rfl (rest := []) rfl (Nat.le_of_ble_eq_true rfl) dX16_passTop_348 (fun σ37 w hq => ?_) (fun σ9 E9 hx9 => hX σ9 E9 _ _ _ (tb_out K.2.2.2.2.2 rfl) hx9.1 hx9.2.1 hx9.2.2)
  obtain ⟨rfl, h, hGσ37, hS⟩ := hq
  intro H locs ls hH hl hc
  refine W.eq (g2 := F0 m 351 ls []) (rfl) ?_
  try dsimp only at h
  exact a_X16_passTop_351 K hQ hX hK43 hK114 _ _ _ _ _ _ _ _ g1 g2 g3 g4 g5 g8 h hGσ37 hS _ _ _ hH (lv_sub (l' := [(0, .ref rm), (1, .int (i32 v1)), (2, .int (i32 v2)), (3, .int (i32 v3)), (4, .int (i32 v4)), (5, .int (i32 v5)), (6, .long v6), (8, .int (i32 v8))]) hl [0, 1, 2, 3, 4, 5, 6, 7] rfl) hc
set_option maxRecDepth 20000 in
theorem a_X16_passTop_304 {Q : Sg → Unit → Prop} {X : Sg → String → Prop} (K : MC R p s m args c cX16_passTop 11 RX16 D cA tys A n0 s0 2 54 []) (hQ : HQV p l e R s m args below meth c cX16_passTop D cA A n0 s0 QM dm ra jx rm Q) (hX : HX p l e R s m args below meth c 11 D cA A n0 s0 QM dm ra jx rm X) {K43 : Sg → Int → Int → Int → Int → Int → Prop} (hK43 : ∀ (σ : Sg) (v1 : Int) (v2 : Int) (v3 : Int) (v4 : Int) (v5 : Int) (g1 : rng v1) (g2 : rng v2) (g3 : rng v3) (g4 : rng v4) (g5 : rng v5), K43 σ v1 v2 v3 v4 v5 → RG σ → Shp dm ra jx rm σ → JJ p l e R s m args below meth c 11 D cA A n0 s0 QM σ 43 [(0, .ref rm), (1, .int (i32 v1)), (2, .int (i32 v2)), (3, .int (i32 v3)), (4, .int (i32 v4)), (5, .int (i32 v5))] []) {K114 : Sg → Int → Int → Int → Int → Int → Int64 → Int → Prop} (hK114 : ∀ (σ : Sg) (v1 : Int) (v2 : Int) (v3 : Int) (v4 : Int) (v5 : Int) (v6 : Int64) (v8 : Int) (g1 : rng v1) (g2 : rng v2) (g3 : rng v3) (g4 : rng v4) (g5 : rng v5) (g8 : rng v8), K114 σ v1 v2 v3 v4 v5 v6 v8 → RG σ → Shp dm ra jx rm σ → JJ p l e R s m args below meth c 11 D cA A n0 s0 QM σ 114 [(0, .ref rm), (1, .int (i32 v1)), (2, .int (i32 v2)), (3, .int (i32 v3)), (4, .int (i32 v4)), (5, .int (i32 v5)), (6, .long v6), (8, .int (i32 v8))] []) {K297 : Sg → Int → Int → Int → Int → Int → Int64 → Int → Int → Prop} (hK297 : ∀ (σ : Sg) (v1 : Int) (v2 : Int) (v3 : Int) (v4 : Int) (v5 : Int) (v6 : Int64) (v8 : Int) (v10 : Int) (g1 : rng v1) (g2 : rng v2) (g3 : rng v3) (g4 : rng v4) (g5 : rng v5) (g8 : rng v8) (g10 : rng v10), K297 σ v1 v2 v3 v4 v5 v6 v8 v10 → RG σ → Shp dm ra jx rm σ → JJ p l e R s m args below meth c 11 D cA A n0 s0 QM σ 297 [(0, .ref rm), (1, .int (i32 v1)), (2, .int (i32 v2)), (3, .int (i32 v3)), (4, .int (i32 v4)), (5, .int (i32 v5)), (6, .long v6), (8, .int (i32 v8)), (10, .int (i32 v10))] []) : ∀ (σ : Sg) (v1 : Int) (v2 : Int) (v3 : Int) (v4 : Int) (v5 : Int) (v6 : Int64) (v8 : Int) (v10 : Int) (g1 : rng v1) (g2 : rng v2) (g3 : rng v3) (g4 : rng v4) (g5 : rng v5) (g8 : rng v8) (g10 : rng v10), w_X16_passTop_304 ra jx rm K43 K114 K297 Q X σ v1 v2 v3 v4 v5 v6 v8 v10 → RG σ → Shp dm ra jx rm σ → JJ p l e R s m args below meth c 11 D cA A n0 s0 QM σ 304 [(0, .ref rm), (1, .int (i32 v1)), (2, .int (i32 v2)), (3, .int (i32 v3)), (4, .int (i32 v4)), (5, .int (i32 v5)), (6, .long v6), (8, .int (i32 v8)), (10, .int (i32 v10))] [] := by
  intro σ v1 v2 v3 v4 v5 v6 v8 v10 g1 g2 g3 g4 g5 g8 g10 h hGσ hS H locs ls hH hl hc
  have B := K.1
  unfold w_X16_passTop_304 at h
  refine lv_aload_n B.1 B.2.1 dX16_passTop_304 rfl (lv_at hl 0 rfl) ?_
  refine r_arr B hH hS 81 (kd := 101) (n := 8) (by decide) (by decide) wf_X16_542 rfl rfl dX16_passTop_305 ?_
  refine lv_iload B.1 B.2.1 dX16_passTop_308 (lv_at hl 8 rfl) ?_
  refine lv_lconst (v := 0) B.1 B.2.1 dX16_passTop_310 (by decide) ?_
  obtain ⟨q1, h⟩ := h
  obtain ⟨σ38, eσ38⟩ : ∃ z, z = pJ σ (ra 81) v10.toNat 0 := ⟨_, rfl⟩
  have h := h σ38 eσ38
  refine x_last B K.2.1 hH (hS.ar (k := 81) (kd := 101) (n := 8) (by decide)) (by decide) q1 dX16_passTop_311 (fun H locs hH => ?_)
  have hH : Hd D cA A s (pJ σ (ra 81) v10.toNat 0) H locs := hH
  rw [← eσ38] at hH
  have hGσ38 : RG σ38 := by rw [eσ38]; exact hGσ.pJ
  have hS : Shp dm ra jx rm σ38 := by rw [eσ38]; exact hS
  have hc : CB n0 s0 σ38 := by rw [eσ38]; exact hc
  rw [show gc σ = gc σ38 by rw [eσ38], show gs σ = gs σ38 by rw [eσ38]]
  obtain ⟨q3, h⟩ := h
  refine lv_iinc (k := 8) (v := i32 (v10 + 1)) (lv' := [(10, .int (i32 (v10 + 1))), (0, .ref rm), (1, .int (i32 v1)), (2, .int (i32 v2)), (3, .int (i32 v3)), (4, .int (i32 v4)), (5, .int (i32 v5)), (6, .long v6), (8, .int (i32 v8))]) B.1 B.2.1 dX16_passTop_312 hl rfl (i32_add _ _) (by decide) rfl (fun ls hl => ?_)
  refine lv_goto (tgt := 297) B.1 B.2.1 dX16_passTop_315 (by decide) ?_
  exact hK297 _ _ _ _ _ _ _ _ _ g1 g2 g3 g4 g5 g8 q3 h hGσ38 hS _ _ _ hH (lv_sub (l' := [(0, .ref rm), (1, .int (i32 v1)), (2, .int (i32 v2)), (3, .int (i32 v3)), (4, .int (i32 v4)), (5, .int (i32 v5)), (6, .long v6), (8, .int (i32 v8)), (10, .int (i32 (v10 + 1)))]) hl [1, 2, 3, 4, 5, 6, 7, 8, 0] rfl) hc
set_option maxRecDepth 20000 in
theorem a_X16_passTop_297 {Q : Sg → Unit → Prop} {X : Sg → String → Prop} (K : MC R p s m args c cX16_passTop 11 RX16 D cA tys A n0 s0 2 54 []) (hQ : HQV p l e R s m args below meth c cX16_passTop D cA A n0 s0 QM dm ra jx rm Q) (hX : HX p l e R s m args below meth c 11 D cA A n0 s0 QM dm ra jx rm X) {K43 : Sg → Int → Int → Int → Int → Int → Prop} (hK43 : ∀ (σ : Sg) (v1 : Int) (v2 : Int) (v3 : Int) (v4 : Int) (v5 : Int) (g1 : rng v1) (g2 : rng v2) (g3 : rng v3) (g4 : rng v4) (g5 : rng v5), K43 σ v1 v2 v3 v4 v5 → RG σ → Shp dm ra jx rm σ → JJ p l e R s m args below meth c 11 D cA A n0 s0 QM σ 43 [(0, .ref rm), (1, .int (i32 v1)), (2, .int (i32 v2)), (3, .int (i32 v3)), (4, .int (i32 v4)), (5, .int (i32 v5))] []) {K114 : Sg → Int → Int → Int → Int → Int → Int64 → Int → Prop} (hK114 : ∀ (σ : Sg) (v1 : Int) (v2 : Int) (v3 : Int) (v4 : Int) (v5 : Int) (v6 : Int64) (v8 : Int) (g1 : rng v1) (g2 : rng v2) (g3 : rng v3) (g4 : rng v4) (g5 : rng v5) (g8 : rng v8), K114 σ v1 v2 v3 v4 v5 v6 v8 → RG σ → Shp dm ra jx rm σ → JJ p l e R s m args below meth c 11 D cA A n0 s0 QM σ 114 [(0, .ref rm), (1, .int (i32 v1)), (2, .int (i32 v2)), (3, .int (i32 v3)), (4, .int (i32 v4)), (5, .int (i32 v5)), (6, .long v6), (8, .int (i32 v8))] []) {K297 : Sg → Int → Int → Int → Int → Int → Int64 → Int → Int → Prop} (hK297 : ∀ (σ : Sg) (v1 : Int) (v2 : Int) (v3 : Int) (v4 : Int) (v5 : Int) (v6 : Int64) (v8 : Int) (v10 : Int) (g1 : rng v1) (g2 : rng v2) (g3 : rng v3) (g4 : rng v4) (g5 : rng v5) (g8 : rng v8) (g10 : rng v10), K297 σ v1 v2 v3 v4 v5 v6 v8 v10 → RG σ → Shp dm ra jx rm σ → JJ p l e R s m args below meth c 11 D cA A n0 s0 QM σ 297 [(0, .ref rm), (1, .int (i32 v1)), (2, .int (i32 v2)), (3, .int (i32 v3)), (4, .int (i32 v4)), (5, .int (i32 v5)), (6, .long v6), (8, .int (i32 v8)), (10, .int (i32 v10))] []) : ∀ (σ : Sg) (v1 : Int) (v2 : Int) (v3 : Int) (v4 : Int) (v5 : Int) (v6 : Int64) (v8 : Int) (v10 : Int) (g1 : rng v1) (g2 : rng v2) (g3 : rng v3) (g4 : rng v4) (g5 : rng v5) (g8 : rng v8) (g10 : rng v10), w_X16_passTop_297 ra jx rm K43 K114 K297 Q X σ v1 v2 v3 v4 v5 v6 v8 v10 → RG σ → Shp dm ra jx rm σ → JJ p l e R s m args below meth c 11 D cA A n0 s0 QM σ 297 [(0, .ref rm), (1, .int (i32 v1)), (2, .int (i32 v2)), (3, .int (i32 v3)), (4, .int (i32 v4)), (5, .int (i32 v5)), (6, .long v6), (8, .int (i32 v8)), (10, .int (i32 v10))] [] := by
  intro σ v1 v2 v3 v4 v5 v6 v8 v10 g1 g2 g3 g4 g5 g8 g10 h hGσ hS H locs ls hH hl hc
  have B := K.1
  unfold w_X16_passTop_297 at h
  refine lv_iload B.1 B.2.1 dX16_passTop_297 (lv_at hl 8 rfl) ?_
  refine lv_bipush (v := i32 8) B.1 B.2.1 dX16_passTop_299 (by decide) ?_
  refine lv_icmp_ge (tgt := 318) B.1 B.2.1 dX16_passTop_301 (by decide) (fun h9 => ?_) (fun h9 => ?_)
  · rw [if_pos ((i32_le (by unfold rng; omega) g10).mp h9)] at h
    exact a_X16_passTop_318 K hQ hX hK43 hK114 _ _ _ _ _ _ _ _ g1 g2 g3 g4 g5 g8 h hGσ hS _ _ _ hH (lv_sub (l' := [(0, .ref rm), (1, .int (i32 v1)), (2, .int (i32 v2)), (3, .int (i32 v3)), (4, .int (i32 v4)), (5, .int (i32 v5)), (6, .long v6), (8, .int (i32 v8))]) hl [0, 1, 2, 3, 4, 5, 6, 7] rfl) hc
  · rw [if_neg (fun q => h9 ((i32_le (by unfold rng; omega) g10).mpr q))] at h
    exact a_X16_passTop_304 K hQ hX hK43 hK114 hK297 _ _ _ _ _ _ _ _ _ g1 g2 g3 g4 g5 g8 g10 h hGσ hS _ _ _ hH (lv_sub (l' := [(0, .ref rm), (1, .int (i32 v1)), (2, .int (i32 v2)), (3, .int (i32 v3)), (4, .int (i32 v4)), (5, .int (i32 v5)), (6, .long v6), (8, .int (i32 v8)), (10, .int (i32 v10))]) hl [0, 1, 2, 3, 4, 5, 6, 7, 8] rfl) hc
theorem al_X16_passTop_297 {Q : Sg → Unit → Prop} {X : Sg → String → Prop} (K : MC R p s m args c cX16_passTop 11 RX16 D cA tys A n0 s0 2 54 []) (hQ : HQV p l e R s m args below meth c cX16_passTop D cA A n0 s0 QM dm ra jx rm Q) (hX : HX p l e R s m args below meth c 11 D cA A n0 s0 QM dm ra jx rm X) {K43 : Sg → Int → Int → Int → Int → Int → Prop} (hK43 : ∀ (σ : Sg) (v1 : Int) (v2 : Int) (v3 : Int) (v4 : Int) (v5 : Int) (g1 : rng v1) (g2 : rng v2) (g3 : rng v3) (g4 : rng v4) (g5 : rng v5), K43 σ v1 v2 v3 v4 v5 → RG σ → Shp dm ra jx rm σ → JJ p l e R s m args below meth c 11 D cA A n0 s0 QM σ 43 [(0, .ref rm), (1, .int (i32 v1)), (2, .int (i32 v2)), (3, .int (i32 v3)), (4, .int (i32 v4)), (5, .int (i32 v5))] []) {K114 : Sg → Int → Int → Int → Int → Int → Int64 → Int → Prop} (hK114 : ∀ (σ : Sg) (v1 : Int) (v2 : Int) (v3 : Int) (v4 : Int) (v5 : Int) (v6 : Int64) (v8 : Int) (g1 : rng v1) (g2 : rng v2) (g3 : rng v3) (g4 : rng v4) (g5 : rng v5) (g8 : rng v8), K114 σ v1 v2 v3 v4 v5 v6 v8 → RG σ → Shp dm ra jx rm σ → JJ p l e R s m args below meth c 11 D cA A n0 s0 QM σ 114 [(0, .ref rm), (1, .int (i32 v1)), (2, .int (i32 v2)), (3, .int (i32 v3)), (4, .int (i32 v4)), (5, .int (i32 v5)), (6, .long v6), (8, .int (i32 v8))] []) : ∀ (n : Nat), ∀ (σ : Sg) (v1 : Int) (v2 : Int) (v3 : Int) (v4 : Int) (v5 : Int) (v6 : Int64) (v8 : Int) (v10 : Int) (g1 : rng v1) (g2 : rng v2) (g3 : rng v3) (g4 : rng v4) (g5 : rng v5) (g8 : rng v8) (g10 : rng v10), wl_X16_passTop_297 ra jx rm K43 K114 Q X n σ v1 v2 v3 v4 v5 v6 v8 v10 → RG σ → Shp dm ra jx rm σ → JJ p l e R s m args below meth c 11 D cA A n0 s0 QM σ 297 [(0, .ref rm), (1, .int (i32 v1)), (2, .int (i32 v2)), (3, .int (i32 v3)), (4, .int (i32 v4)), (5, .int (i32 v5)), (6, .long v6), (8, .int (i32 v8)), (10, .int (i32 v10))] [] := by
  intro n
  induction n with
  | zero => intro σ v1 v2 v3 v4 v5 v6 v8 v10 g1 g2 g3 g4 g5 g8 g10 h; exact h.elim
  | succ n ih => exact fun σ v1 v2 v3 v4 v5 v6 v8 v10 g1 g2 g3 g4 g5 g8 g10 h => a_X16_passTop_297 K hQ hX hK43 hK114 ih σ v1 v2 v3 v4 v5 v6 v8 v10 g1 g2 g3 g4 g5 g8 g10 h
set_option maxRecDepth 20000 in
theorem a_X16_passTop_248 {Q : Sg → Unit → Prop} {X : Sg → String → Prop} (K : MC R p s m args c cX16_passTop 11 RX16 D cA tys A n0 s0 2 54 []) (hQ : HQV p l e R s m args below meth c cX16_passTop D cA A n0 s0 QM dm ra jx rm Q) (hX : HX p l e R s m args below meth c 11 D cA A n0 s0 QM dm ra jx rm X) {K43 : Sg → Int → Int → Int → Int → Int → Prop} (hK43 : ∀ (σ : Sg) (v1 : Int) (v2 : Int) (v3 : Int) (v4 : Int) (v5 : Int) (g1 : rng v1) (g2 : rng v2) (g3 : rng v3) (g4 : rng v4) (g5 : rng v5), K43 σ v1 v2 v3 v4 v5 → RG σ → Shp dm ra jx rm σ → JJ p l e R s m args below meth c 11 D cA A n0 s0 QM σ 43 [(0, .ref rm), (1, .int (i32 v1)), (2, .int (i32 v2)), (3, .int (i32 v3)), (4, .int (i32 v4)), (5, .int (i32 v5))] []) {K114 : Sg → Int → Int → Int → Int → Int → Int64 → Int → Prop} (hK114 : ∀ (σ : Sg) (v1 : Int) (v2 : Int) (v3 : Int) (v4 : Int) (v5 : Int) (v6 : Int64) (v8 : Int) (g1 : rng v1) (g2 : rng v2) (g3 : rng v3) (g4 : rng v4) (g5 : rng v5) (g8 : rng v8), K114 σ v1 v2 v3 v4 v5 v6 v8 → RG σ → Shp dm ra jx rm σ → JJ p l e R s m args below meth c 11 D cA A n0 s0 QM σ 114 [(0, .ref rm), (1, .int (i32 v1)), (2, .int (i32 v2)), (3, .int (i32 v3)), (4, .int (i32 v4)), (5, .int (i32 v5)), (6, .long v6), (8, .int (i32 v8))] []) : ∀ (σ : Sg) (v1 : Int) (v2 : Int) (v3 : Int) (v4 : Int) (v5 : Int) (v6 : Int64) (v8 : Int) (v9 : Int) (g1 : rng v1) (g2 : rng v2) (g3 : rng v3) (g4 : rng v4) (g5 : rng v5) (g8 : rng v8) (g9 : rng v9), w_X16_passTop_248 ra jx rm K43 K114 Q X σ v1 v2 v3 v4 v5 v6 v8 v9 → RG σ → Shp dm ra jx rm σ → JJ p l e R s m args below meth c 11 D cA A n0 s0 QM σ 248 [(0, .ref rm), (1, .int (i32 v1)), (2, .int (i32 v2)), (3, .int (i32 v3)), (4, .int (i32 v4)), (5, .int (i32 v5)), (6, .long v6), (8, .int (i32 v8)), (9, .int (i32 v9))] [] := by
  intro σ v1 v2 v3 v4 v5 v6 v8 v9 g1 g2 g3 g4 g5 g8 g9 h hGσ hS H locs ls hH hl hc
  have B := K.1
  unfold w_X16_passTop_248 at h
  refine lv_aload_n B.1 B.2.1 dX16_passTop_248 rfl (lv_at hl 0 rfl) ?_
  refine r_arr B hH hS 120 (kd := 103) (n := 4000) (by decide) (by decide) wf_X16_897 rfl rfl dX16_passTop_249 ?_
  refine lv_iload B.1 B.2.1 dX16_passTop_252 (lv_at hl 8 rfl) ?_
  refine lv_iconst (v := i32 1) B.1 B.2.1 dX16_passTop_254 (by decide) ?_
  obtain ⟨q1, h⟩ := h
  obtain ⟨σ39, eσ39⟩ : ∃ z, z = pI σ (ra 120) v9.toNat (nZ 1) := ⟨_, rfl⟩
  have h := h σ39 eσ39
  refine x_zast B K.2.1 hH (hS.ar (k := 120) (kd := 103) (n := 4000) (by decide)) (by decide) q1 dX16_passTop_255 (fun H locs hH => ?_)
  have hH : Hd D cA A s (pI σ (ra 120) v9.toNat (nZ 1)) H locs := hH
  rw [← eσ39] at hH
  have hGσ39 : RG σ39 := by rw [eσ39]; exact hGσ.pI (rng_toInt _)
  have hS : Shp dm ra jx rm σ39 := by rw [eσ39]; exact hS
  have hc : CB n0 s0 σ39 := by rw [eσ39]; exact hc
  rw [show gc σ = gc σ39 by rw [eσ39], show gs σ = gs σ39 by rw [eσ39]]
  refine lv_aload_n B.1 B.2.1 dX16_passTop_256 rfl (lv_at hl 0 rfl) ?_
  refine lv_aload_n B.1 B.2.1 dX16_passTop_257 rfl (lv_at hl 0 rfl) ?_
  refine r_arr B hH hS 119 (kd := 100) (n := 4000) (by decide) (by decide) wf_X16_877 rfl rfl dX16_passTop_258 ?_
  refine lv_iload B.1 B.2.1 dX16_passTop_261 (lv_at hl 8 rfl) ?_
  obtain ⟨q3, h⟩ := h
  refine x_iald B K.2.1 hH (hS.ar (k := 119) (kd := 100) (n := 4000) (by decide)) (by decide) q3 dX16_passTop_263 ?_
  refine c_V B hH hl hc K.2.2.1 (C := RX16) (T := TX16) (N := 123) (ci := 16) (As := [.int (i32 (gI σ39 (ra 119) v9.toNat))]) (ok_X16_load K.2.1 σ39 (gI σ39 (ra 119) v9.toNat) (hGσ39 _ _) hGσ39 hS h) wc_X16_880 1 hd_X16_load ⟨Nat.le_trans (Nat.le_of_ble_eq_true rfl) K.2.2.2.1, Nat.le_trans (Nat.le_of_ble_eq_true rfl) K.2.2.2.2.1⟩ hS.1.1 hS.1.2 (by decide) rfl rfl (rest := []) rfl (Nat.le_of_ble_eq_true rfl) dX16_passTop_264 (fun σ40 w hq => ?_) (fun σ9 E9 hx9 => hX σ9 E9 _ _ _ (tb_out K.2.2.2.2.2 rfl) hx9.1 hx9.2.1 hx9.2.2)
  obtain ⟨rfl, h, hGσ40, hS⟩ := hq
  intro H locs ls hH hl hc
  refine W.eq (g2 := F0 m 267 ls []) (rfl) ?_
  try dsimp only at h
  refine lv_aload_n B.1 B.2.1 dX16_passTop_267 rfl (lv_at hl 0 rfl) ?_
  refine r_arr B hH hS 81 (kd := 101) (n := 8) (by decide) (by decide) wf_X16_542 rfl rfl dX16_passTop_268 ?_
  refine lv_aload_n B.1 B.2.1 dX16_passTop_271 rfl (lv_at hl 0 rfl) ?_
  refine r_getp B hH hS 17 (by decide) wf_X16_356 rfl rfl dX16_passTop_272 ?_
  obtain ⟨a41, ea41, ja41, h⟩ := h
  refine W.eq (g2 := F0 m 275 ls [.ref a41, .ref (ra 81)]) (by rw [ea41]; rfl) ?_
  refine n_arr B hH hS ja41 6 (kd := 100) (n := 16) (by decide) (by decide) (List.mem_of_getElem? (i := 6) rfl) rfl dX16_passTop_275 ?_
  refine lv_iload_n B.1 B.2.1 dX16_passTop_278 rfl (lv_at hl 2 rfl) ?_
  obtain ⟨q5, h⟩ := h
  refine x_iald B K.2.1 hH (hS.ja ja41 (k := 6) (kd := 100) (n := 16) (by decide)) (by decide) q5 dX16_passTop_279 ?_
  refine lv_iload B.1 B.2.1 dX16_passTop_280 (lv_at hl 7 rfl) ?_
  refine lv_i2l B.1 B.2.1 dX16_passTop_282 (i32_i64 g8) ?_
  obtain ⟨q6, h⟩ := h
  obtain ⟨σ42, eσ42⟩ : ∃ z, z = pJ σ40 (ra 81) (gI σ40 (jx a41 6) v2.toNat).toNat (Int64.ofInt v8) := ⟨_, rfl⟩
  have h := h σ42 eσ42
  refine x_last B K.2.1 hH (hS.ar (k := 81) (kd := 101) (n := 8) (by decide)) (by decide) q6 dX16_passTop_283 (fun H locs hH => ?_)
  have hH : Hd D cA A s (pJ σ40 (ra 81) (gI σ40 (jx a41 6) v2.toNat).toNat (Int64.ofInt v8)) H locs := hH
  rw [← eσ42] at hH
  have hGσ42 : RG σ42 := by rw [eσ42]; exact hGσ40.pJ
  have hS : Shp dm ra jx rm σ42 := by rw [eσ42]; exact hS
  have hc : CB n0 s0 σ42 := by rw [eσ42]; exact hc
  rw [show gc σ40 = gc σ42 by rw [eσ42], show gs σ40 = gs σ42 by rw [eσ42]]
  refine lv_aload_n B.1 B.2.1 dX16_passTop_284 rfl (lv_at hl 0 rfl) ?_
  refine r_getp B hH hS 17 (by decide) wf_X16_356 rfl rfl dX16_passTop_285 ?_
  obtain ⟨a43, ea43, ja43, h⟩ := h
  refine W.eq (g2 := F0 m 288 ls [.ref a43]) (by rw [ea43]; rfl) ?_
  refine n_arr B hH hS ja43 6 (kd := 100) (n := 16) (by decide) (by decide) (List.mem_of_getElem? (i := 6) rfl) rfl dX16_passTop_288 ?_
  refine lv_iload_n B.1 B.2.1 dX16_passTop_291 rfl (lv_at hl 2 rfl) ?_
  obtain ⟨q9, h⟩ := h
  refine x_iald B K.2.1 hH (hS.ja ja43 (k := 6) (kd := 100) (n := 16) (by decide)) (by decide) q9 dX16_passTop_292 ?_
  refine lv_iconst (v := i32 1) B.1 B.2.1 dX16_passTop_293 (by decide) ?_
  obtain ⟨q10, h⟩ := h
  refine lv_iadd B.1 B.2.1 dX16_passTop_294 ?_
  rw [i32_add]
  refine lv_istore (lv' := [(10, .int (i32 ((gI σ42 (jx a43 6) v2.toNat) + 1))), (0, .ref rm), (1, .int (i32 v1)), (2, .int (i32 v2)), (3, .int (i32 v3)), (4, .int (i32 v4)), (5, .int (i32 v5)), (6, .long v6), (8, .int (i32 v8)), (9, .int (i32 v9))]) B.1 B.2.1 dX16_passTop_295 hl (by decide) rfl (fun ls hl => ?_)
  obtain ⟨n9, h⟩ := h
  exact al_X16_passTop_297 K hQ hX hK43 hK114 n9 _ _ _ _ _ _ _ _ _ g1 g2 g3 g4 g5 g8 q10 h hGσ42 hS _ _ _ hH (lv_sub (l' := [(0, .ref rm), (1, .int (i32 v1)), (2, .int (i32 v2)), (3, .int (i32 v3)), (4, .int (i32 v4)), (5, .int (i32 v5)), (6, .long v6), (8, .int (i32 v8)), (10, .int (i32 ((gI σ42 (jx a43 6) v2.toNat) + 1)))]) hl [1, 2, 3, 4, 5, 6, 7, 8, 0] rfl) hc
set_option maxRecDepth 20000 in
theorem a_X16_passTop_242 {Q : Sg → Unit → Prop} {X : Sg → String → Prop} (K : MC R p s m args c cX16_passTop 11 RX16 D cA tys A n0 s0 2 54 []) (hQ : HQV p l e R s m args below meth c cX16_passTop D cA A n0 s0 QM dm ra jx rm Q) (hX : HX p l e R s m args below meth c 11 D cA A n0 s0 QM dm ra jx rm X) {K43 : Sg → Int → Int → Int → Int → Int → Prop} (hK43 : ∀ (σ : Sg) (v1 : Int) (v2 : Int) (v3 : Int) (v4 : Int) (v5 : Int) (g1 : rng v1) (g2 : rng v2) (g3 : rng v3) (g4 : rng v4) (g5 : rng v5), K43 σ v1 v2 v3 v4 v5 → RG σ → Shp dm ra jx rm σ → JJ p l e R s m args below meth c 11 D cA A n0 s0 QM σ 43 [(0, .ref rm), (1, .int (i32 v1)), (2, .int (i32 v2)), (3, .int (i32 v3)), (4, .int (i32 v4)), (5, .int (i32 v5))] []) {K114 : Sg → Int → Int → Int → Int → Int → Int64 → Int → Prop} (hK114 : ∀ (σ : Sg) (v1 : Int) (v2 : Int) (v3 : Int) (v4 : Int) (v5 : Int) (v6 : Int64) (v8 : Int) (g1 : rng v1) (g2 : rng v2) (g3 : rng v3) (g4 : rng v4) (g5 : rng v5) (g8 : rng v8), K114 σ v1 v2 v3 v4 v5 v6 v8 → RG σ → Shp dm ra jx rm σ → JJ p l e R s m args below meth c 11 D cA A n0 s0 QM σ 114 [(0, .ref rm), (1, .int (i32 v1)), (2, .int (i32 v2)), (3, .int (i32 v3)), (4, .int (i32 v4)), (5, .int (i32 v5)), (6, .long v6), (8, .int (i32 v8))] []) : ∀ (σ : Sg) (v1 : Int) (v2 : Int) (v3 : Int) (v4 : Int) (v5 : Int) (v6 : Int64) (v8 : Int) (v9 : Int) (g1 : rng v1) (g2 : rng v2) (g3 : rng v3) (g4 : rng v4) (g5 : rng v5) (g8 : rng v8) (g9 : rng v9), w_X16_passTop_242 ra jx rm K43 K114 Q X σ v1 v2 v3 v4 v5 v6 v8 v9 → RG σ → Shp dm ra jx rm σ → JJ p l e R s m args below meth c 11 D cA A n0 s0 QM σ 242 [(0, .ref rm), (1, .int (i32 v1)), (2, .int (i32 v2)), (3, .int (i32 v3)), (4, .int (i32 v4)), (5, .int (i32 v5)), (6, .long v6), (8, .int (i32 v8)), (9, .int (i32 v9))] [] := by
  intro σ v1 v2 v3 v4 v5 v6 v8 v9 g1 g2 g3 g4 g5 g8 g9 h hGσ hS H locs ls hH hl hc
  have B := K.1
  unfold w_X16_passTop_242 at h
  refine lv_iload B.1 B.2.1 dX16_passTop_242 (lv_at hl 8 rfl) ?_
  refine lv_iconst (v := i32 (-1)) B.1 B.2.1 dX16_passTop_244 (by decide) ?_
  refine lv_icmp_eq (tgt := 351) B.1 B.2.1 dX16_passTop_245 (by decide) (fun h9 => ?_) (fun h9 => ?_)
  · rw [if_pos ((i32_eq g9 (by unfold rng; omega)).mp h9)] at h
    exact a_X16_passTop_351 K hQ hX hK43 hK114 _ _ _ _ _ _ _ _ g1 g2 g3 g4 g5 g8 h hGσ hS _ _ _ hH (lv_sub (l' := [(0, .ref rm), (1, .int (i32 v1)), (2, .int (i32 v2)), (3, .int (i32 v3)), (4, .int (i32 v4)), (5, .int (i32 v5)), (6, .long v6), (8, .int (i32 v8))]) hl [0, 1, 2, 3, 4, 5, 6, 7] rfl) hc
  · rw [if_neg (fun q => h9 ((i32_eq g9 (by unfold rng; omega)).mpr q))] at h
    exact a_X16_passTop_248 K hQ hX hK43 hK114 _ _ _ _ _ _ _ _ _ g1 g2 g3 g4 g5 g8 g9 h hGσ hS _ _ _ hH (lv_sub (l' := [(0, .ref rm), (1, .int (i32 v1)), (2, .int (i32 v2)), (3, .int (i32 v3)), (4, .int (i32 v4)), (5, .int (i32 v5)), (6, .long v6), (8, .int (i32 v8)), (9, .int (i32 v9))]) hl [0, 1, 2, 3, 4, 5, 6, 7, 8] rfl) hc
set_option maxRecDepth 20000 in
theorem a_X16_passTop_234 {Q : Sg → Unit → Prop} {X : Sg → String → Prop} (K : MC R p s m args c cX16_passTop 11 RX16 D cA tys A n0 s0 2 54 []) (hQ : HQV p l e R s m args below meth c cX16_passTop D cA A n0 s0 QM dm ra jx rm Q) (hX : HX p l e R s m args below meth c 11 D cA A n0 s0 QM dm ra jx rm X) {K43 : Sg → Int → Int → Int → Int → Int → Prop} (hK43 : ∀ (σ : Sg) (v1 : Int) (v2 : Int) (v3 : Int) (v4 : Int) (v5 : Int) (g1 : rng v1) (g2 : rng v2) (g3 : rng v3) (g4 : rng v4) (g5 : rng v5), K43 σ v1 v2 v3 v4 v5 → RG σ → Shp dm ra jx rm σ → JJ p l e R s m args below meth c 11 D cA A n0 s0 QM σ 43 [(0, .ref rm), (1, .int (i32 v1)), (2, .int (i32 v2)), (3, .int (i32 v3)), (4, .int (i32 v4)), (5, .int (i32 v5))] []) {K114 : Sg → Int → Int → Int → Int → Int → Int64 → Int → Prop} (hK114 : ∀ (σ : Sg) (v1 : Int) (v2 : Int) (v3 : Int) (v4 : Int) (v5 : Int) (v6 : Int64) (v8 : Int) (g1 : rng v1) (g2 : rng v2) (g3 : rng v3) (g4 : rng v4) (g5 : rng v5) (g8 : rng v8), K114 σ v1 v2 v3 v4 v5 v6 v8 → RG σ → Shp dm ra jx rm σ → JJ p l e R s m args below meth c 11 D cA A n0 s0 QM σ 114 [(0, .ref rm), (1, .int (i32 v1)), (2, .int (i32 v2)), (3, .int (i32 v3)), (4, .int (i32 v4)), (5, .int (i32 v5)), (6, .long v6), (8, .int (i32 v8))] []) {K137 : Sg → Int → Int → Int → Int → Int → Int64 → Int → Int → Int → Prop} (hK137 : ∀ (σ : Sg) (v1 : Int) (v2 : Int) (v3 : Int) (v4 : Int) (v5 : Int) (v6 : Int64) (v8 : Int) (v9 : Int) (v10 : Int) (g1 : rng v1) (g2 : rng v2) (g3 : rng v3) (g4 : rng v4) (g5 : rng v5) (g8 : rng v8) (g9 : rng v9) (g10 : rng v10), K137 σ v1 v2 v3 v4 v5 v6 v8 v9 v10 → RG σ → Shp dm ra jx rm σ → JJ p l e R s m args below meth c 11 D cA A n0 s0 QM σ 137 [(0, .ref rm), (1, .int (i32 v1)), (2, .int (i32 v2)), (3, .int (i32 v3)), (4, .int (i32 v4)), (5, .int (i32 v5)), (6, .long v6), (8, .int (i32 v8)), (9, .int (i32 v9)), (10, .int (i32 v10))] []) : ∀ (σ : Sg) (v1 : Int) (v2 : Int) (v3 : Int) (v4 : Int) (v5 : Int) (v6 : Int64) (v8 : Int) (v10 : Int) (u0 : Int) (g1 : rng v1) (g2 : rng v2) (g3 : rng v3) (g4 : rng v4) (g5 : rng v5) (g8 : rng v8) (g10 : rng v10) (gu0 : rng u0), w_X16_passTop_234 ra jx rm K43 K114 K137 Q X σ v1 v2 v3 v4 v5 v6 v8 v10 u0 → RG σ → Shp dm ra jx rm σ → JJ p l e R s m args below meth c 11 D cA A n0 s0 QM σ 234 [(0, .ref rm), (1, .int (i32 v1)), (2, .int (i32 v2)), (3, .int (i32 v3)), (4, .int (i32 v4)), (5, .int (i32 v5)), (6, .long v6), (8, .int (i32 v8)), (10, .int (i32 v10))] [.int (i32 u0)] := by
  intro σ v1 v2 v3 v4 v5 v6 v8 v10 u0 g1 g2 g3 g4 g5 g8 g10 gu0 h hGσ hS H locs ls hH hl hc
  have B := K.1
  unfold w_X16_passTop_234 at h
  refine lv_istore (lv' := [(9, .int (i32 u0)), (0, .ref rm), (1, .int (i32 v1)), (2, .int (i32 v2)), (3, .int (i32 v3)), (4, .int (i32 v4)), (5, .int (i32 v5)), (6, .long v6), (8, .int (i32 v8)), (10, .int (i32 v10))]) B.1 B.2.1 dX16_passTop_234 hl (by decide) rfl (fun ls hl => ?_)
  obtain ⟨q1, h⟩ := h
  refine lv_iinc (k := 9) (v := i32 (v10 + 1)) (lv' := [(10, .int (i32 (v10 + 1))), (9, .int (i32 u0)), (0, .ref rm), (1, .int (i32 v1)), (2, .int (i32 v2)), (3, .int (i32 v3)), (4, .int (i32 v4)), (5, .int (i32 v5)), (6, .long v6), (8, .int (i32 v8))]) B.1 B.2.1 dX16_passTop_236 hl rfl (i32_add _ _) (by decide) rfl (fun ls hl => ?_)
  refine lv_goto (tgt := 137) B.1 B.2.1 dX16_passTop_239 (by decide) ?_
  exact hK137 _ _ _ _ _ _ _ _ _ _ g1 g2 g3 g4 g5 g8 gu0 q1 h hGσ hS _ _ _ hH (lv_sub (l' := [(0, .ref rm), (1, .int (i32 v1)), (2, .int (i32 v2)), (3, .int (i32 v3)), (4, .int (i32 v4)), (5, .int (i32 v5)), (6, .long v6), (8, .int (i32 v8)), (9, .int (i32 u0)), (10, .int (i32 (v10 + 1)))]) hl [2, 3, 4, 5, 6, 7, 8, 9, 1, 0] rfl) hc
set_option maxRecDepth 20000 in
theorem a_X16_passTop_232 {Q : Sg → Unit → Prop} {X : Sg → String → Prop} (K : MC R p s m args c cX16_passTop 11 RX16 D cA tys A n0 s0 2 54 []) (hQ : HQV p l e R s m args below meth c cX16_passTop D cA A n0 s0 QM dm ra jx rm Q) (hX : HX p l e R s m args below meth c 11 D cA A n0 s0 QM dm ra jx rm X) {K43 : Sg → Int → Int → Int → Int → Int → Prop} (hK43 : ∀ (σ : Sg) (v1 : Int) (v2 : Int) (v3 : Int) (v4 : Int) (v5 : Int) (g1 : rng v1) (g2 : rng v2) (g3 : rng v3) (g4 : rng v4) (g5 : rng v5), K43 σ v1 v2 v3 v4 v5 → RG σ → Shp dm ra jx rm σ → JJ p l e R s m args below meth c 11 D cA A n0 s0 QM σ 43 [(0, .ref rm), (1, .int (i32 v1)), (2, .int (i32 v2)), (3, .int (i32 v3)), (4, .int (i32 v4)), (5, .int (i32 v5))] []) {K114 : Sg → Int → Int → Int → Int → Int → Int64 → Int → Prop} (hK114 : ∀ (σ : Sg) (v1 : Int) (v2 : Int) (v3 : Int) (v4 : Int) (v5 : Int) (v6 : Int64) (v8 : Int) (g1 : rng v1) (g2 : rng v2) (g3 : rng v3) (g4 : rng v4) (g5 : rng v5) (g8 : rng v8), K114 σ v1 v2 v3 v4 v5 v6 v8 → RG σ → Shp dm ra jx rm σ → JJ p l e R s m args below meth c 11 D cA A n0 s0 QM σ 114 [(0, .ref rm), (1, .int (i32 v1)), (2, .int (i32 v2)), (3, .int (i32 v3)), (4, .int (i32 v4)), (5, .int (i32 v5)), (6, .long v6), (8, .int (i32 v8))] []) {K137 : Sg → Int → Int → Int → Int → Int → Int64 → Int → Int → Int → Prop} (hK137 : ∀ (σ : Sg) (v1 : Int) (v2 : Int) (v3 : Int) (v4 : Int) (v5 : Int) (v6 : Int64) (v8 : Int) (v9 : Int) (v10 : Int) (g1 : rng v1) (g2 : rng v2) (g3 : rng v3) (g4 : rng v4) (g5 : rng v5) (g8 : rng v8) (g9 : rng v9) (g10 : rng v10), K137 σ v1 v2 v3 v4 v5 v6 v8 v9 v10 → RG σ → Shp dm ra jx rm σ → JJ p l e R s m args below meth c 11 D cA A n0 s0 QM σ 137 [(0, .ref rm), (1, .int (i32 v1)), (2, .int (i32 v2)), (3, .int (i32 v3)), (4, .int (i32 v4)), (5, .int (i32 v5)), (6, .long v6), (8, .int (i32 v8)), (9, .int (i32 v9)), (10, .int (i32 v10))] []) : ∀ (σ : Sg) (v1 : Int) (v2 : Int) (v3 : Int) (v4 : Int) (v5 : Int) (v6 : Int64) (v8 : Int) (v9 : Int) (v10 : Int) (g1 : rng v1) (g2 : rng v2) (g3 : rng v3) (g4 : rng v4) (g5 : rng v5) (g8 : rng v8) (g9 : rng v9) (g10 : rng v10), w_X16_passTop_232 ra jx rm K43 K114 K137 Q X σ v1 v2 v3 v4 v5 v6 v8 v9 v10 → RG σ → Shp dm ra jx rm σ → JJ p l e R s m args below meth c 11 D cA A n0 s0 QM σ 232 [(0, .ref rm), (1, .int (i32 v1)), (2, .int (i32 v2)), (3, .int (i32 v3)), (4, .int (i32 v4)), (5, .int (i32 v5)), (6, .long v6), (8, .int (i32 v8)), (9, .int (i32 v9)), (10, .int (i32 v10))] [] := by
  intro σ v1 v2 v3 v4 v5 v6 v8 v9 v10 g1 g2 g3 g4 g5 g8 g9 g10 h hGσ hS H locs ls hH hl hc
  have B := K.1
  unfold w_X16_passTop_232 at h
  refine lv_iload B.1 B.2.1 dX16_passTop_232 (lv_at hl 8 rfl) ?_
  exact a_X16_passTop_234 K hQ hX hK43 hK114 hK137 _ _ _ _ _ _ _ _ _ _ g1 g2 g3 g4 g5 g8 g10 g9 h hGσ hS _ _ _ hH (lv_sub (l' := [(0, .ref rm), (1, .int (i32 v1)), (2, .int (i32 v2)), (3, .int (i32 v3)), (4, .int (i32 v4)), (5, .int (i32 v5)), (6, .long v6), (8, .int (i32 v8)), (10, .int (i32 v10))]) hl [0, 1, 2, 3, 4, 5, 6, 7, 9] rfl) hc
set_option maxRecDepth 20000 in
theorem a_X16_passTop_227 {Q : Sg → Unit → Prop} {X : Sg → String → Prop} (K : MC R p s m args c cX16_passTop 11 RX16 D cA tys A n0 s0 2 54 []) (hQ : HQV p l e R s m args below meth c cX16_passTop D cA A n0 s0 QM dm ra jx rm Q) (hX : HX p l e R s m args below meth c 11 D cA A n0 s0 QM dm ra jx rm X) {K43 : Sg → Int → Int → Int → Int → Int → Prop} (hK43 : ∀ (σ : Sg) (v1 : Int) (v2 : Int) (v3 : Int) (v4 : Int) (v5 : Int) (g1 : rng v1) (g2 : rng v2) (g3 : rng v3) (g4 : rng v4) (g5 : rng v5), K43 σ v1 v2 v3 v4 v5 → RG σ → Shp dm ra jx rm σ → JJ p l e R s m args below meth c 11 D cA A n0 s0 QM σ 43 [(0, .ref rm), (1, .int (i32 v1)), (2, .int (i32 v2)), (3, .int (i32 v3)), (4, .int (i32 v4)), (5, .int (i32 v5))] []) {K114 : Sg → Int → Int → Int → Int → Int → Int64 → Int → Prop} (hK114 : ∀ (σ : Sg) (v1 : Int) (v2 : Int) (v3 : Int) (v4 : Int) (v5 : Int) (v6 : Int64) (v8 : Int) (g1 : rng v1) (g2 : rng v2) (g3 : rng v3) (g4 : rng v4) (g5 : rng v5) (g8 : rng v8), K114 σ v1 v2 v3 v4 v5 v6 v8 → RG σ → Shp dm ra jx rm σ → JJ p l e R s m args below meth c 11 D cA A n0 s0 QM σ 114 [(0, .ref rm), (1, .int (i32 v1)), (2, .int (i32 v2)), (3, .int (i32 v3)), (4, .int (i32 v4)), (5, .int (i32 v5)), (6, .long v6), (8, .int (i32 v8))] []) {K137 : Sg → Int → Int → Int → Int → Int → Int64 → Int → Int → Int → Prop} (hK137 : ∀ (σ : Sg) (v1 : Int) (v2 : Int) (v3 : Int) (v4 : Int) (v5 : Int) (v6 : Int64) (v8 : Int) (v9 : Int) (v10 : Int) (g1 : rng v1) (g2 : rng v2) (g3 : rng v3) (g4 : rng v4) (g5 : rng v5) (g8 : rng v8) (g9 : rng v9) (g10 : rng v10), K137 σ v1 v2 v3 v4 v5 v6 v8 v9 v10 → RG σ → Shp dm ra jx rm σ → JJ p l e R s m args below meth c 11 D cA A n0 s0 QM σ 137 [(0, .ref rm), (1, .int (i32 v1)), (2, .int (i32 v2)), (3, .int (i32 v3)), (4, .int (i32 v4)), (5, .int (i32 v5)), (6, .long v6), (8, .int (i32 v8)), (9, .int (i32 v9)), (10, .int (i32 v10))] []) : ∀ (σ : Sg) (v1 : Int) (v2 : Int) (v3 : Int) (v4 : Int) (v5 : Int) (v6 : Int64) (v8 : Int) (v10 : Int) (g1 : rng v1) (g2 : rng v2) (g3 : rng v3) (g4 : rng v4) (g5 : rng v5) (g8 : rng v8) (g10 : rng v10), w_X16_passTop_227 ra jx rm K43 K114 K137 Q X σ v1 v2 v3 v4 v5 v6 v8 v10 → RG σ → Shp dm ra jx rm σ → JJ p l e R s m args below meth c 11 D cA A n0 s0 QM σ 227 [(0, .ref rm), (1, .int (i32 v1)), (2, .int (i32 v2)), (3, .int (i32 v3)), (4, .int (i32 v4)), (5, .int (i32 v5)), (6, .long v6), (8, .int (i32 v8)), (10, .int (i32 v10))] [] := by
  intro σ v1 v2 v3 v4 v5 v6 v8 v10 g1 g2 g3 g4 g5 g8 g10 h hGσ hS H locs ls hH hl hc
  have B := K.1
  unfold w_X16_passTop_227 at h
  refine lv_iload B.1 B.2.1 dX16_passTop_227 (lv_at hl 8 rfl) ?_
  refine lv_goto (tgt := 234) B.1 B.2.1 dX16_passTop_229 (by decide) ?_
  exact a_X16_passTop_234 K hQ hX hK43 hK114 hK137 _ _ _ _ _ _ _ _ _ _ g1 g2 g3 g4 g5 g8 g10 g10 h hGσ hS _ _ _ hH (lv_sub (l' := [(0, .ref rm), (1, .int (i32 v1)), (2, .int (i32 v2)), (3, .int (i32 v3)), (4, .int (i32 v4)), (5, .int (i32 v5)), (6, .long v6), (8, .int (i32 v8)), (10, .int (i32 v10))]) hl [0, 1, 2, 3, 4, 5, 6, 7, 8] rfl) hc
set_option maxRecDepth 20000 in
theorem a_X16_passTop_187 {Q : Sg → Unit → Prop} {X : Sg → String → Prop} (K : MC R p s m args c cX16_passTop 11 RX16 D cA tys A n0 s0 2 54 []) (hQ : HQV p l e R s m args below meth c cX16_passTop D cA A n0 s0 QM dm ra jx rm Q) (hX : HX p l e R s m args below meth c 11 D cA A n0 s0 QM dm ra jx rm X) {K43 : Sg → Int → Int → Int → Int → Int → Prop} (hK43 : ∀ (σ : Sg) (v1 : Int) (v2 : Int) (v3 : Int) (v4 : Int) (v5 : Int) (g1 : rng v1) (g2 : rng v2) (g3 : rng v3) (g4 : rng v4) (g5 : rng v5), K43 σ v1 v2 v3 v4 v5 → RG σ → Shp dm ra jx rm σ → JJ p l e R s m args below meth c 11 D cA A n0 s0 QM σ 43 [(0, .ref rm), (1, .int (i32 v1)), (2, .int (i32 v2)), (3, .int (i32 v3)), (4, .int (i32 v4)), (5, .int (i32 v5))] []) {K114 : Sg → Int → Int → Int → Int → Int → Int64 → Int → Prop} (hK114 : ∀ (σ : Sg) (v1 : Int) (v2 : Int) (v3 : Int) (v4 : Int) (v5 : Int) (v6 : Int64) (v8 : Int) (g1 : rng v1) (g2 : rng v2) (g3 : rng v3) (g4 : rng v4) (g5 : rng v5) (g8 : rng v8), K114 σ v1 v2 v3 v4 v5 v6 v8 → RG σ → Shp dm ra jx rm σ → JJ p l e R s m args below meth c 11 D cA A n0 s0 QM σ 114 [(0, .ref rm), (1, .int (i32 v1)), (2, .int (i32 v2)), (3, .int (i32 v3)), (4, .int (i32 v4)), (5, .int (i32 v5)), (6, .long v6), (8, .int (i32 v8))] []) {K137 : Sg → Int → Int → Int → Int → Int → Int64 → Int → Int → Int → Prop} (hK137 : ∀ (σ : Sg) (v1 : Int) (v2 : Int) (v3 : Int) (v4 : Int) (v5 : Int) (v6 : Int64) (v8 : Int) (v9 : Int) (v10 : Int) (g1 : rng v1) (g2 : rng v2) (g3 : rng v3) (g4 : rng v4) (g5 : rng v5) (g8 : rng v8) (g9 : rng v9) (g10 : rng v10), K137 σ v1 v2 v3 v4 v5 v6 v8 v9 v10 → RG σ → Shp dm ra jx rm σ → JJ p l e R s m args below meth c 11 D cA A n0 s0 QM σ 137 [(0, .ref rm), (1, .int (i32 v1)), (2, .int (i32 v2)), (3, .int (i32 v3)), (4, .int (i32 v4)), (5, .int (i32 v5)), (6, .long v6), (8, .int (i32 v8)), (9, .int (i32 v9)), (10, .int (i32 v10))] []) : ∀ (σ : Sg) (v1 : Int) (v2 : Int) (v3 : Int) (v4 : Int) (v5 : Int) (v6 : Int64) (v8 : Int) (v9 : Int) (v10 : Int) (g1 : rng v1) (g2 : rng v2) (g3 : rng v3) (g4 : rng v4) (g5 : rng v5) (g8 : rng v8) (g9 : rng v9) (g10 : rng v10), w_X16_passTop_187 ra jx rm K43 K114 K137 Q X σ v1 v2 v3 v4 v5 v6 v8 v9 v10 → RG σ → Shp dm ra jx rm σ → JJ p l e R s m args below meth c 11 D cA A n0 s0 QM σ 187 [(0, .ref rm), (1, .int (i32 v1)), (2, .int (i32 v2)), (3, .int (i32 v3)), (4, .int (i32 v4)), (5, .int (i32 v5)), (6, .long v6), (8, .int (i32 v8)), (9, .int (i32 v9)), (10, .int (i32 v10))] [] := by
  intro σ v1 v2 v3 v4 v5 v6 v8 v9 v10 g1 g2 g3 g4 g5 g8 g9 g10 h hGσ hS H locs ls hH hl hc
  have B := K.1
  unfold w_X16_passTop_187 at h
  refine lv_aload_n B.1 B.2.1 dX16_passTop_187 rfl (lv_at hl 0 rfl) ?_
  refine r_arr B hH hS 116 (kd := 101) (n := 32000) (by decide) (by decide) wf_X16_867 rfl rfl dX16_passTop_188 ?_
  refine lv_bipush (v := i32 8) B.1 B.2.1 dX16_passTop_191 (by decide) ?_
  refine lv_aload_n B.1 B.2.1 dX16_passTop_193 rfl (lv_at hl 0 rfl) ?_
  refine r_arr B hH hS 119 (kd := 100) (n := 4000) (by decide) (by decide) wf_X16_877 rfl rfl dX16_passTop_194 ?_
  refine lv_iload B.1 B.2.1 dX16_passTop_197 (lv_at hl 9 rfl) ?_
  obtain ⟨q1, h⟩ := h
  refine x_iald B K.2.1 hH (hS.ar (k := 119) (kd := 100) (n := 4000) (by decide)) (by decide) q1 dX16_passTop_199 ?_
  obtain ⟨q2, h⟩ := h
  refine lv_imul B.1 B.2.1 dX16_passTop_200 ?_
  rw [i32_mul]
  refine lv_iload B.1 B.2.1 dX16_passTop_201 (lv_at hl 4 rfl) ?_
  obtain ⟨q3, h⟩ := h
  refine lv_iadd B.1 B.2.1 dX16_passTop_203 ?_
  rw [i32_add]
  obtain ⟨q4, h⟩ := h
  refine x_lald B K.2.1 hH (hS.ar (k := 116) (kd := 101) (n := 32000) (by decide)) (by decide) q4 dX16_passTop_204 ?_
  refine lv_aload_n B.1 B.2.1 dX16_passTop_205 rfl (lv_at hl 0 rfl) ?_
  refine r_arr B hH hS 116 (kd := 101) (n := 32000) (by decide) (by decide) wf_X16_867 rfl rfl dX16_passTop_206 ?_
  refine lv_bipush (v := i32 8) B.1 B.2.1 dX16_passTop_209 (by decide) ?_
  refine lv_aload_n B.1 B.2.1 dX16_passTop_211 rfl (lv_at hl 0 rfl) ?_
  refine r_arr B hH hS 119 (kd := 100) (n := 4000) (by decide) (by decide) wf_X16_877 rfl rfl dX16_passTop_212 ?_
  refine lv_iload B.1 B.2.1 dX16_passTop_215 (lv_at hl 8 rfl) ?_
  obtain ⟨q5, h⟩ := h
  refine x_iald B K.2.1 hH (hS.ar (k := 119) (kd := 100) (n := 4000) (by decide)) (by decide) q5 dX16_passTop_217 ?_
  obtain ⟨q6, h⟩ := h
  refine lv_imul B.1 B.2.1 dX16_passTop_218 ?_
  rw [i32_mul]
  refine lv_iload B.1 B.2.1 dX16_passTop_219 (lv_at hl 4 rfl) ?_
  obtain ⟨q7, h⟩ := h
  refine lv_iadd B.1 B.2.1 dX16_passTop_221 ?_
  rw [i32_add]
  obtain ⟨q8, h⟩ := h
  refine x_lald B K.2.1 hH (hS.ar (k := 116) (kd := 101) (n := 32000) (by decide)) (by decide) q8 dX16_passTop_222 ?_
  refine W.lcmp B.1 B.2.1 dX16_passTop_223 ?_
  refine lv_if_le (tgt := 232) B.1 B.2.1 dX16_passTop_224 (by decide) (fun h9 => ?_) (fun h9 => ?_)
  · rw [if_pos ((lg_cmp_le _ _).mp h9)] at h
    exact a_X16_passTop_232 K hQ hX hK43 hK114 hK137 _ _ _ _ _ _ _ _ _ _ g1 g2 g3 g4 g5 g8 g9 g10 h hGσ hS _ _ _ hH (lv_sub (l' := [(0, .ref rm), (1, .int (i32 v1)), (2, .int (i32 v2)), (3, .int (i32 v3)), (4, .int (i32 v4)), (5, .int (i32 v5)), (6, .long v6), (8, .int (i32 v8)), (9, .int (i32 v9)), (10, .int (i32 v10))]) hl [0, 1, 2, 3, 4, 5, 6, 7, 8, 9] rfl) hc
  · rw [if_neg (fun q => h9 ((lg_cmp_le _ _).mpr q))] at h
    exact a_X16_passTop_227 K hQ hX hK43 hK114 hK137 _ _ _ _ _ _ _ _ _ g1 g2 g3 g4 g5 g8 g10 h hGσ hS _ _ _ hH (lv_sub (l' := [(0, .ref rm), (1, .int (i32 v1)), (2, .int (i32 v2)), (3, .int (i32 v3)), (4, .int (i32 v4)), (5, .int (i32 v5)), (6, .long v6), (8, .int (i32 v8)), (10, .int (i32 v10))]) hl [0, 1, 2, 3, 4, 5, 6, 7, 9] rfl) hc
set_option maxRecDepth 20000 in
theorem a_X16_passTop_181 {Q : Sg → Unit → Prop} {X : Sg → String → Prop} (K : MC R p s m args c cX16_passTop 11 RX16 D cA tys A n0 s0 2 54 []) (hQ : HQV p l e R s m args below meth c cX16_passTop D cA A n0 s0 QM dm ra jx rm Q) (hX : HX p l e R s m args below meth c 11 D cA A n0 s0 QM dm ra jx rm X) {K43 : Sg → Int → Int → Int → Int → Int → Prop} (hK43 : ∀ (σ : Sg) (v1 : Int) (v2 : Int) (v3 : Int) (v4 : Int) (v5 : Int) (g1 : rng v1) (g2 : rng v2) (g3 : rng v3) (g4 : rng v4) (g5 : rng v5), K43 σ v1 v2 v3 v4 v5 → RG σ → Shp dm ra jx rm σ → JJ p l e R s m args below meth c 11 D cA A n0 s0 QM σ 43 [(0, .ref rm), (1, .int (i32 v1)), (2, .int (i32 v2)), (3, .int (i32 v3)), (4, .int (i32 v4)), (5, .int (i32 v5))] []) {K114 : Sg → Int → Int → Int → Int → Int → Int64 → Int → Prop} (hK114 : ∀ (σ : Sg) (v1 : Int) (v2 : Int) (v3 : Int) (v4 : Int) (v5 : Int) (v6 : Int64) (v8 : Int) (g1 : rng v1) (g2 : rng v2) (g3 : rng v3) (g4 : rng v4) (g5 : rng v5) (g8 : rng v8), K114 σ v1 v2 v3 v4 v5 v6 v8 → RG σ → Shp dm ra jx rm σ → JJ p l e R s m args below meth c 11 D cA A n0 s0 QM σ 114 [(0, .ref rm), (1, .int (i32 v1)), (2, .int (i32 v2)), (3, .int (i32 v3)), (4, .int (i32 v4)), (5, .int (i32 v5)), (6, .long v6), (8, .int (i32 v8))] []) {K137 : Sg → Int → Int → Int → Int → Int → Int64 → Int → Int → Int → Prop} (hK137 : ∀ (σ : Sg) (v1 : Int) (v2 : Int) (v3 : Int) (v4 : Int) (v5 : Int) (v6 : Int64) (v8 : Int) (v9 : Int) (v10 : Int) (g1 : rng v1) (g2 : rng v2) (g3 : rng v3) (g4 : rng v4) (g5 : rng v5) (g8 : rng v8) (g9 : rng v9) (g10 : rng v10), K137 σ v1 v2 v3 v4 v5 v6 v8 v9 v10 → RG σ → Shp dm ra jx rm σ → JJ p l e R s m args below meth c 11 D cA A n0 s0 QM σ 137 [(0, .ref rm), (1, .int (i32 v1)), (2, .int (i32 v2)), (3, .int (i32 v3)), (4, .int (i32 v4)), (5, .int (i32 v5)), (6, .long v6), (8, .int (i32 v8)), (9, .int (i32 v9)), (10, .int (i32 v10))] []) : ∀ (σ : Sg) (v1 : Int) (v2 : Int) (v3 : Int) (v4 : Int) (v5 : Int) (v6 : Int64) (v8 : Int) (v9 : Int) (v10 : Int) (g1 : rng v1) (g2 : rng v2) (g3 : rng v3) (g4 : rng v4) (g5 : rng v5) (g8 : rng v8) (g9 : rng v9) (g10 : rng v10), w_X16_passTop_181 ra jx rm K43 K114 K137 Q X σ v1 v2 v3 v4 v5 v6 v8 v9 v10 → RG σ → Shp dm ra jx rm σ → JJ p l e R s m args below meth c 11 D cA A n0 s0 QM σ 181 [(0, .ref rm), (1, .int (i32 v1)), (2, .int (i32 v2)), (3, .int (i32 v3)), (4, .int (i32 v4)), (5, .int (i32 v5)), (6, .long v6), (8, .int (i32 v8)), (9, .int (i32 v9)), (10, .int (i32 v10))] [] := by
  intro σ v1 v2 v3 v4 v5 v6 v8 v9 v10 g1 g2 g3 g4 g5 g8 g9 g10 h hGσ hS H locs ls hH hl hc
  have B := K.1
  unfold w_X16_passTop_181 at h
  refine lv_iload B.1 B.2.1 dX16_passTop_181 (lv_at hl 8 rfl) ?_
  refine lv_iconst (v := i32 (-1)) B.1 B.2.1 dX16_passTop_183 (by decide) ?_
  refine lv_icmp_eq (tgt := 227) B.1 B.2.1 dX16_passTop_184 (by decide) (fun h9 => ?_) (fun h9 => ?_)
  · rw [if_pos ((i32_eq g9 (by unfold rng; omega)).mp h9)] at h
    exact a_X16_passTop_227 K hQ hX hK43 hK114 hK137 _ _ _ _ _ _ _ _ _ g1 g2 g3 g4 g5 g8 g10 h hGσ hS _ _ _ hH (lv_sub (l' := [(0, .ref rm), (1, .int (i32 v1)), (2, .int (i32 v2)), (3, .int (i32 v3)), (4, .int (i32 v4)), (5, .int (i32 v5)), (6, .long v6), (8, .int (i32 v8)), (10, .int (i32 v10))]) hl [0, 1, 2, 3, 4, 5, 6, 7, 9] rfl) hc
  · rw [if_neg (fun q => h9 ((i32_eq g9 (by unfold rng; omega)).mpr q))] at h
    exact a_X16_passTop_187 K hQ hX hK43 hK114 hK137 _ _ _ _ _ _ _ _ _ _ g1 g2 g3 g4 g5 g8 g9 g10 h hGσ hS _ _ _ hH (lv_sub (l' := [(0, .ref rm), (1, .int (i32 v1)), (2, .int (i32 v2)), (3, .int (i32 v3)), (4, .int (i32 v4)), (5, .int (i32 v5)), (6, .long v6), (8, .int (i32 v8)), (9, .int (i32 v9)), (10, .int (i32 v10))]) hl [0, 1, 2, 3, 4, 5, 6, 7, 8, 9] rfl) hc
set_option maxRecDepth 20000 in
theorem a_X16_passTop_171 {Q : Sg → Unit → Prop} {X : Sg → String → Prop} (K : MC R p s m args c cX16_passTop 11 RX16 D cA tys A n0 s0 2 54 []) (hQ : HQV p l e R s m args below meth c cX16_passTop D cA A n0 s0 QM dm ra jx rm Q) (hX : HX p l e R s m args below meth c 11 D cA A n0 s0 QM dm ra jx rm X) {K43 : Sg → Int → Int → Int → Int → Int → Prop} (hK43 : ∀ (σ : Sg) (v1 : Int) (v2 : Int) (v3 : Int) (v4 : Int) (v5 : Int) (g1 : rng v1) (g2 : rng v2) (g3 : rng v3) (g4 : rng v4) (g5 : rng v5), K43 σ v1 v2 v3 v4 v5 → RG σ → Shp dm ra jx rm σ → JJ p l e R s m args below meth c 11 D cA A n0 s0 QM σ 43 [(0, .ref rm), (1, .int (i32 v1)), (2, .int (i32 v2)), (3, .int (i32 v3)), (4, .int (i32 v4)), (5, .int (i32 v5))] []) {K114 : Sg → Int → Int → Int → Int → Int → Int64 → Int → Prop} (hK114 : ∀ (σ : Sg) (v1 : Int) (v2 : Int) (v3 : Int) (v4 : Int) (v5 : Int) (v6 : Int64) (v8 : Int) (g1 : rng v1) (g2 : rng v2) (g3 : rng v3) (g4 : rng v4) (g5 : rng v5) (g8 : rng v8), K114 σ v1 v2 v3 v4 v5 v6 v8 → RG σ → Shp dm ra jx rm σ → JJ p l e R s m args below meth c 11 D cA A n0 s0 QM σ 114 [(0, .ref rm), (1, .int (i32 v1)), (2, .int (i32 v2)), (3, .int (i32 v3)), (4, .int (i32 v4)), (5, .int (i32 v5)), (6, .long v6), (8, .int (i32 v8))] []) {K137 : Sg → Int → Int → Int → Int → Int → Int64 → Int → Int → Int → Prop} (hK137 : ∀ (σ : Sg) (v1 : Int) (v2 : Int) (v3 : Int) (v4 : Int) (v5 : Int) (v6 : Int64) (v8 : Int) (v9 : Int) (v10 : Int) (g1 : rng v1) (g2 : rng v2) (g3 : rng v3) (g4 : rng v4) (g5 : rng v5) (g8 : rng v8) (g9 : rng v9) (g10 : rng v10), K137 σ v1 v2 v3 v4 v5 v6 v8 v9 v10 → RG σ → Shp dm ra jx rm σ → JJ p l e R s m args below meth c 11 D cA A n0 s0 QM σ 137 [(0, .ref rm), (1, .int (i32 v1)), (2, .int (i32 v2)), (3, .int (i32 v3)), (4, .int (i32 v4)), (5, .int (i32 v5)), (6, .long v6), (8, .int (i32 v8)), (9, .int (i32 v9)), (10, .int (i32 v10))] []) : ∀ (σ : Sg) (v1 : Int) (v2 : Int) (v3 : Int) (v4 : Int) (v5 : Int) (v6 : Int64) (v8 : Int) (v9 : Int) (v10 : Int) (g1 : rng v1) (g2 : rng v2) (g3 : rng v3) (g4 : rng v4) (g5 : rng v5) (g8 : rng v8) (g9 : rng v9) (g10 : rng v10), w_X16_passTop_171 ra jx rm K43 K114 K137 Q X σ v1 v2 v3 v4 v5 v6 v8 v9 v10 → RG σ → Shp dm ra jx rm σ → JJ p l e R s m args below meth c 11 D cA A n0 s0 QM σ 171 [(0, .ref rm), (1, .int (i32 v1)), (2, .int (i32 v2)), (3, .int (i32 v3)), (4, .int (i32 v4)), (5, .int (i32 v5)), (6, .long v6), (8, .int (i32 v8)), (9, .int (i32 v9)), (10, .int (i32 v10))] [] := by
  intro σ v1 v2 v3 v4 v5 v6 v8 v9 v10 g1 g2 g3 g4 g5 g8 g9 g10 h hGσ hS H locs ls hH hl hc
  have B := K.1
  unfold w_X16_passTop_171 at h
  refine lv_aload_n B.1 B.2.1 dX16_passTop_171 rfl (lv_at hl 0 rfl) ?_
  refine r_arr B hH hS 120 (kd := 103) (n := 4000) (by decide) (by decide) wf_X16_897 rfl rfl dX16_passTop_172 ?_
  refine lv_iload B.1 B.2.1 dX16_passTop_175 (lv_at hl 9 rfl) ?_
  obtain ⟨q1, h⟩ := h
  refine x_zald B K.2.1 hH (hS.ar (k := 120) (kd := 103) (n := 4000) (by decide)) (by decide) q1 dX16_passTop_177 ?_
  refine lv_if_ne (tgt := 232) B.1 B.2.1 dX16_passTop_178 (by decide) (fun h9 => ?_) (fun h9 => ?_)
  · rw [if_pos (fun q => h9 ((z_eq (hGσ _ _)).mpr q))] at h
    exact a_X16_passTop_232 K hQ hX hK43 hK114 hK137 _ _ _ _ _ _ _ _ _ _ g1 g2 g3 g4 g5 g8 g9 g10 h hGσ hS _ _ _ hH (lv_sub (l' := [(0, .ref rm), (1, .int (i32 v1)), (2, .int (i32 v2)), (3, .int (i32 v3)), (4, .int (i32 v4)), (5, .int (i32 v5)), (6, .long v6), (8, .int (i32 v8)), (9, .int (i32 v9)), (10, .int (i32 v10))]) hl [0, 1, 2, 3, 4, 5, 6, 7, 8, 9] rfl) hc
  · rw [if_neg (fun q => q ((z_eq (hGσ _ _)).mp h9))] at h
    exact a_X16_passTop_181 K hQ hX hK43 hK114 hK137 _ _ _ _ _ _ _ _ _ _ g1 g2 g3 g4 g5 g8 g9 g10 h hGσ hS _ _ _ hH (lv_sub (l' := [(0, .ref rm), (1, .int (i32 v1)), (2, .int (i32 v2)), (3, .int (i32 v3)), (4, .int (i32 v4)), (5, .int (i32 v5)), (6, .long v6), (8, .int (i32 v8)), (9, .int (i32 v9)), (10, .int (i32 v10))]) hl [0, 1, 2, 3, 4, 5, 6, 7, 8, 9] rfl) hc
set_option maxRecDepth 20000 in
theorem a_X16_passTop_143 {Q : Sg → Unit → Prop} {X : Sg → String → Prop} (K : MC R p s m args c cX16_passTop 11 RX16 D cA tys A n0 s0 2 54 []) (hQ : HQV p l e R s m args below meth c cX16_passTop D cA A n0 s0 QM dm ra jx rm Q) (hX : HX p l e R s m args below meth c 11 D cA A n0 s0 QM dm ra jx rm X) {K43 : Sg → Int → Int → Int → Int → Int → Prop} (hK43 : ∀ (σ : Sg) (v1 : Int) (v2 : Int) (v3 : Int) (v4 : Int) (v5 : Int) (g1 : rng v1) (g2 : rng v2) (g3 : rng v3) (g4 : rng v4) (g5 : rng v5), K43 σ v1 v2 v3 v4 v5 → RG σ → Shp dm ra jx rm σ → JJ p l e R s m args below meth c 11 D cA A n0 s0 QM σ 43 [(0, .ref rm), (1, .int (i32 v1)), (2, .int (i32 v2)), (3, .int (i32 v3)), (4, .int (i32 v4)), (5, .int (i32 v5))] []) {K114 : Sg → Int → Int → Int → Int → Int → Int64 → Int → Prop} (hK114 : ∀ (σ : Sg) (v1 : Int) (v2 : Int) (v3 : Int) (v4 : Int) (v5 : Int) (v6 : Int64) (v8 : Int) (g1 : rng v1) (g2 : rng v2) (g3 : rng v3) (g4 : rng v4) (g5 : rng v5) (g8 : rng v8), K114 σ v1 v2 v3 v4 v5 v6 v8 → RG σ → Shp dm ra jx rm σ → JJ p l e R s m args below meth c 11 D cA A n0 s0 QM σ 114 [(0, .ref rm), (1, .int (i32 v1)), (2, .int (i32 v2)), (3, .int (i32 v3)), (4, .int (i32 v4)), (5, .int (i32 v5)), (6, .long v6), (8, .int (i32 v8))] []) {K137 : Sg → Int → Int → Int → Int → Int → Int64 → Int → Int → Int → Prop} (hK137 : ∀ (σ : Sg) (v1 : Int) (v2 : Int) (v3 : Int) (v4 : Int) (v5 : Int) (v6 : Int64) (v8 : Int) (v9 : Int) (v10 : Int) (g1 : rng v1) (g2 : rng v2) (g3 : rng v3) (g4 : rng v4) (g5 : rng v5) (g8 : rng v8) (g9 : rng v9) (g10 : rng v10), K137 σ v1 v2 v3 v4 v5 v6 v8 v9 v10 → RG σ → Shp dm ra jx rm σ → JJ p l e R s m args below meth c 11 D cA A n0 s0 QM σ 137 [(0, .ref rm), (1, .int (i32 v1)), (2, .int (i32 v2)), (3, .int (i32 v3)), (4, .int (i32 v4)), (5, .int (i32 v5)), (6, .long v6), (8, .int (i32 v8)), (9, .int (i32 v9)), (10, .int (i32 v10))] []) : ∀ (σ : Sg) (v1 : Int) (v2 : Int) (v3 : Int) (v4 : Int) (v5 : Int) (v6 : Int64) (v8 : Int) (v9 : Int) (v10 : Int) (g1 : rng v1) (g2 : rng v2) (g3 : rng v3) (g4 : rng v4) (g5 : rng v5) (g8 : rng v8) (g9 : rng v9) (g10 : rng v10), w_X16_passTop_143 ra jx rm K43 K114 K137 Q X σ v1 v2 v3 v4 v5 v6 v8 v9 v10 → RG σ → Shp dm ra jx rm σ → JJ p l e R s m args below meth c 11 D cA A n0 s0 QM σ 143 [(0, .ref rm), (1, .int (i32 v1)), (2, .int (i32 v2)), (3, .int (i32 v3)), (4, .int (i32 v4)), (5, .int (i32 v5)), (6, .long v6), (8, .int (i32 v8)), (9, .int (i32 v9)), (10, .int (i32 v10))] [] := by
  intro σ v1 v2 v3 v4 v5 v6 v8 v9 v10 g1 g2 g3 g4 g5 g8 g9 g10 h hGσ hS H locs ls hH hl hc
  have B := K.1
  unfold w_X16_passTop_143 at h
  refine lv_aload_n B.1 B.2.1 dX16_passTop_143 rfl (lv_at hl 0 rfl) ?_
  refine r_arr B hH hS 115 (kd := 101) (n := 4000) (by decide) (by decide) wf_X16_864 rfl rfl dX16_passTop_144 ?_
  refine lv_aload_n B.1 B.2.1 dX16_passTop_147 rfl (lv_at hl 0 rfl) ?_
  refine r_arr B hH hS 119 (kd := 100) (n := 4000) (by decide) (by decide) wf_X16_877 rfl rfl dX16_passTop_148 ?_
  refine lv_iload B.1 B.2.1 dX16_passTop_151 (lv_at hl 9 rfl) ?_
  obtain ⟨q1, h⟩ := h
  refine x_iald B K.2.1 hH (hS.ar (k := 119) (kd := 100) (n := 4000) (by decide)) (by decide) q1 dX16_passTop_153 ?_
  obtain ⟨q2, h⟩ := h
  refine x_lald B K.2.1 hH (hS.ar (k := 115) (kd := 101) (n := 4000) (by decide)) (by decide) q2 dX16_passTop_154 ?_
  refine lv_aload_n B.1 B.2.1 dX16_passTop_155 rfl (lv_at hl 0 rfl) ?_
  refine r_getp B hH hS 17 (by decide) wf_X16_356 rfl rfl dX16_passTop_156 ?_
  obtain ⟨a44, ea44, ja44, h⟩ := h
  refine W.eq (g2 := F0 m 159 ls [.ref a44, .long (gJ σ (ra 115) (gI σ (ra 119) v10.toNat).toNat)]) (by rw [ea44]; rfl) ?_
  refine n_arr B hH hS ja44 9 (kd := 101) (n := 16) (by decide) (by decide) (List.mem_of_getElem? (i := 9) rfl) rfl dX16_passTop_159 ?_
  refine lv_iload_n B.1 B.2.1 dX16_passTop_162 rfl (lv_at hl 1 rfl) ?_
  obtain ⟨q4, h⟩ := h
  refine x_lald B K.2.1 hH (hS.ja ja44 (k := 9) (kd := 101) (n := 16) (by decide)) (by decide) q4 dX16_passTop_163 ?_
  obtain ⟨q5, h⟩ := h
  refine lv_ldiv B.1 B.2.1 dX16_passTop_164 q5 ?_
  refine lv_lload B.1 B.2.1 dX16_passTop_165 (lv_at hl 6 rfl) ?_
  refine W.lcmp B.1 B.2.1 dX16_passTop_167 ?_
  refine lv_if_ne (tgt := 242) B.1 B.2.1 dX16_passTop_168 (by decide) (fun h9 => ?_) (fun h9 => ?_)
  · rw [if_pos (fun q => h9 ((lg_cmp_eq _ _).mpr q))] at h
    exact a_X16_passTop_242 K hQ hX hK43 hK114 _ _ _ _ _ _ _ _ _ g1 g2 g3 g4 g5 g8 g9 h hGσ hS _ _ _ hH (lv_sub (l' := [(0, .ref rm), (1, .int (i32 v1)), (2, .int (i32 v2)), (3, .int (i32 v3)), (4, .int (i32 v4)), (5, .int (i32 v5)), (6, .long v6), (8, .int (i32 v8)), (9, .int (i32 v9))]) hl [0, 1, 2, 3, 4, 5, 6, 7, 8] rfl) hc
  · rw [if_neg (fun q => q ((lg_cmp_eq _ _).mp h9))] at h
    exact a_X16_passTop_171 K hQ hX hK43 hK114 hK137 _ _ _ _ _ _ _ _ _ _ g1 g2 g3 g4 g5 g8 g9 g10 h hGσ hS _ _ _ hH (lv_sub (l' := [(0, .ref rm), (1, .int (i32 v1)), (2, .int (i32 v2)), (3, .int (i32 v3)), (4, .int (i32 v4)), (5, .int (i32 v5)), (6, .long v6), (8, .int (i32 v8)), (9, .int (i32 v9)), (10, .int (i32 v10))]) hl [0, 1, 2, 3, 4, 5, 6, 7, 8, 9] rfl) hc
set_option maxRecDepth 20000 in
theorem a_X16_passTop_137 {Q : Sg → Unit → Prop} {X : Sg → String → Prop} (K : MC R p s m args c cX16_passTop 11 RX16 D cA tys A n0 s0 2 54 []) (hQ : HQV p l e R s m args below meth c cX16_passTop D cA A n0 s0 QM dm ra jx rm Q) (hX : HX p l e R s m args below meth c 11 D cA A n0 s0 QM dm ra jx rm X) {K43 : Sg → Int → Int → Int → Int → Int → Prop} (hK43 : ∀ (σ : Sg) (v1 : Int) (v2 : Int) (v3 : Int) (v4 : Int) (v5 : Int) (g1 : rng v1) (g2 : rng v2) (g3 : rng v3) (g4 : rng v4) (g5 : rng v5), K43 σ v1 v2 v3 v4 v5 → RG σ → Shp dm ra jx rm σ → JJ p l e R s m args below meth c 11 D cA A n0 s0 QM σ 43 [(0, .ref rm), (1, .int (i32 v1)), (2, .int (i32 v2)), (3, .int (i32 v3)), (4, .int (i32 v4)), (5, .int (i32 v5))] []) {K114 : Sg → Int → Int → Int → Int → Int → Int64 → Int → Prop} (hK114 : ∀ (σ : Sg) (v1 : Int) (v2 : Int) (v3 : Int) (v4 : Int) (v5 : Int) (v6 : Int64) (v8 : Int) (g1 : rng v1) (g2 : rng v2) (g3 : rng v3) (g4 : rng v4) (g5 : rng v5) (g8 : rng v8), K114 σ v1 v2 v3 v4 v5 v6 v8 → RG σ → Shp dm ra jx rm σ → JJ p l e R s m args below meth c 11 D cA A n0 s0 QM σ 114 [(0, .ref rm), (1, .int (i32 v1)), (2, .int (i32 v2)), (3, .int (i32 v3)), (4, .int (i32 v4)), (5, .int (i32 v5)), (6, .long v6), (8, .int (i32 v8))] []) {K137 : Sg → Int → Int → Int → Int → Int → Int64 → Int → Int → Int → Prop} (hK137 : ∀ (σ : Sg) (v1 : Int) (v2 : Int) (v3 : Int) (v4 : Int) (v5 : Int) (v6 : Int64) (v8 : Int) (v9 : Int) (v10 : Int) (g1 : rng v1) (g2 : rng v2) (g3 : rng v3) (g4 : rng v4) (g5 : rng v5) (g8 : rng v8) (g9 : rng v9) (g10 : rng v10), K137 σ v1 v2 v3 v4 v5 v6 v8 v9 v10 → RG σ → Shp dm ra jx rm σ → JJ p l e R s m args below meth c 11 D cA A n0 s0 QM σ 137 [(0, .ref rm), (1, .int (i32 v1)), (2, .int (i32 v2)), (3, .int (i32 v3)), (4, .int (i32 v4)), (5, .int (i32 v5)), (6, .long v6), (8, .int (i32 v8)), (9, .int (i32 v9)), (10, .int (i32 v10))] []) : ∀ (σ : Sg) (v1 : Int) (v2 : Int) (v3 : Int) (v4 : Int) (v5 : Int) (v6 : Int64) (v8 : Int) (v9 : Int) (v10 : Int) (g1 : rng v1) (g2 : rng v2) (g3 : rng v3) (g4 : rng v4) (g5 : rng v5) (g8 : rng v8) (g9 : rng v9) (g10 : rng v10), w_X16_passTop_137 ra jx rm K43 K114 K137 Q X σ v1 v2 v3 v4 v5 v6 v8 v9 v10 → RG σ → Shp dm ra jx rm σ → JJ p l e R s m args below meth c 11 D cA A n0 s0 QM σ 137 [(0, .ref rm), (1, .int (i32 v1)), (2, .int (i32 v2)), (3, .int (i32 v3)), (4, .int (i32 v4)), (5, .int (i32 v5)), (6, .long v6), (8, .int (i32 v8)), (9, .int (i32 v9)), (10, .int (i32 v10))] [] := by
  intro σ v1 v2 v3 v4 v5 v6 v8 v9 v10 g1 g2 g3 g4 g5 g8 g9 g10 h hGσ hS H locs ls hH hl hc
  have B := K.1
  unfold w_X16_passTop_137 at h
  refine lv_iload B.1 B.2.1 dX16_passTop_137 (lv_at hl 9 rfl) ?_
  refine lv_iload_n B.1 B.2.1 dX16_passTop_139 rfl (lv_at hl 3 rfl) ?_
  refine lv_icmp_ge (tgt := 242) B.1 B.2.1 dX16_passTop_140 (by decide) (fun h9 => ?_) (fun h9 => ?_)
  · rw [if_pos ((i32_le g3 g10).mp h9)] at h
    exact a_X16_passTop_242 K hQ hX hK43 hK114 _ _ _ _ _ _ _ _ _ g1 g2 g3 g4 g5 g8 g9 h hGσ hS _ _ _ hH (lv_sub (l' := [(0, .ref rm), (1, .int (i32 v1)), (2, .int (i32 v2)), (3, .int (i32 v3)), (4, .int (i32 v4)), (5, .int (i32 v5)), (6, .long v6), (8, .int (i32 v8)), (9, .int (i32 v9))]) hl [0, 1, 2, 3, 4, 5, 6, 7, 8] rfl) hc
  · rw [if_neg (fun q => h9 ((i32_le g3 g10).mpr q))] at h
    exact a_X16_passTop_143 K hQ hX hK43 hK114 hK137 _ _ _ _ _ _ _ _ _ _ g1 g2 g3 g4 g5 g8 g9 g10 h hGσ hS _ _ _ hH (lv_sub (l' := [(0, .ref rm), (1, .int (i32 v1)), (2, .int (i32 v2)), (3, .int (i32 v3)), (4, .int (i32 v4)), (5, .int (i32 v5)), (6, .long v6), (8, .int (i32 v8)), (9, .int (i32 v9)), (10, .int (i32 v10))]) hl [0, 1, 2, 3, 4, 5, 6, 7, 8, 9] rfl) hc
theorem al_X16_passTop_137 {Q : Sg → Unit → Prop} {X : Sg → String → Prop} (K : MC R p s m args c cX16_passTop 11 RX16 D cA tys A n0 s0 2 54 []) (hQ : HQV p l e R s m args below meth c cX16_passTop D cA A n0 s0 QM dm ra jx rm Q) (hX : HX p l e R s m args below meth c 11 D cA A n0 s0 QM dm ra jx rm X) {K43 : Sg → Int → Int → Int → Int → Int → Prop} (hK43 : ∀ (σ : Sg) (v1 : Int) (v2 : Int) (v3 : Int) (v4 : Int) (v5 : Int) (g1 : rng v1) (g2 : rng v2) (g3 : rng v3) (g4 : rng v4) (g5 : rng v5), K43 σ v1 v2 v3 v4 v5 → RG σ → Shp dm ra jx rm σ → JJ p l e R s m args below meth c 11 D cA A n0 s0 QM σ 43 [(0, .ref rm), (1, .int (i32 v1)), (2, .int (i32 v2)), (3, .int (i32 v3)), (4, .int (i32 v4)), (5, .int (i32 v5))] []) {K114 : Sg → Int → Int → Int → Int → Int → Int64 → Int → Prop} (hK114 : ∀ (σ : Sg) (v1 : Int) (v2 : Int) (v3 : Int) (v4 : Int) (v5 : Int) (v6 : Int64) (v8 : Int) (g1 : rng v1) (g2 : rng v2) (g3 : rng v3) (g4 : rng v4) (g5 : rng v5) (g8 : rng v8), K114 σ v1 v2 v3 v4 v5 v6 v8 → RG σ → Shp dm ra jx rm σ → JJ p l e R s m args below meth c 11 D cA A n0 s0 QM σ 114 [(0, .ref rm), (1, .int (i32 v1)), (2, .int (i32 v2)), (3, .int (i32 v3)), (4, .int (i32 v4)), (5, .int (i32 v5)), (6, .long v6), (8, .int (i32 v8))] []) : ∀ (n : Nat), ∀ (σ : Sg) (v1 : Int) (v2 : Int) (v3 : Int) (v4 : Int) (v5 : Int) (v6 : Int64) (v8 : Int) (v9 : Int) (v10 : Int) (g1 : rng v1) (g2 : rng v2) (g3 : rng v3) (g4 : rng v4) (g5 : rng v5) (g8 : rng v8) (g9 : rng v9) (g10 : rng v10), wl_X16_passTop_137 ra jx rm K43 K114 Q X n σ v1 v2 v3 v4 v5 v6 v8 v9 v10 → RG σ → Shp dm ra jx rm σ → JJ p l e R s m args below meth c 11 D cA A n0 s0 QM σ 137 [(0, .ref rm), (1, .int (i32 v1)), (2, .int (i32 v2)), (3, .int (i32 v3)), (4, .int (i32 v4)), (5, .int (i32 v5)), (6, .long v6), (8, .int (i32 v8)), (9, .int (i32 v9)), (10, .int (i32 v10))] [] := by
  intro n
  induction n with
  | zero => intro σ v1 v2 v3 v4 v5 v6 v8 v9 v10 g1 g2 g3 g4 g5 g8 g9 g10 h; exact h.elim
  | succ n ih => exact fun σ v1 v2 v3 v4 v5 v6 v8 v9 v10 g1 g2 g3 g4 g5 g8 g9 g10 h => a_X16_passTop_137 K hQ hX hK43 hK114 ih σ v1 v2 v3 v4 v5 v6 v8 v9 v10 g1 g2 g3 g4 g5 g8 g9 g10 h
set_option maxRecDepth 20000 in
theorem a_X16_passTop_130 {Q : Sg → Unit → Prop} {X : Sg → String → Prop} (K : MC R p s m args c cX16_passTop 11 RX16 D cA tys A n0 s0 2 54 []) (hQ : HQV p l e R s m args below meth c cX16_passTop D cA A n0 s0 QM dm ra jx rm Q) (hX : HX p l e R s m args below meth c 11 D cA A n0 s0 QM dm ra jx rm X) {K43 : Sg → Int → Int → Int → Int → Int → Prop} (hK43 : ∀ (σ : Sg) (v1 : Int) (v2 : Int) (v3 : Int) (v4 : Int) (v5 : Int) (g1 : rng v1) (g2 : rng v2) (g3 : rng v3) (g4 : rng v4) (g5 : rng v5), K43 σ v1 v2 v3 v4 v5 → RG σ → Shp dm ra jx rm σ → JJ p l e R s m args below meth c 11 D cA A n0 s0 QM σ 43 [(0, .ref rm), (1, .int (i32 v1)), (2, .int (i32 v2)), (3, .int (i32 v3)), (4, .int (i32 v4)), (5, .int (i32 v5))] []) {K114 : Sg → Int → Int → Int → Int → Int → Int64 → Int → Prop} (hK114 : ∀ (σ : Sg) (v1 : Int) (v2 : Int) (v3 : Int) (v4 : Int) (v5 : Int) (v6 : Int64) (v8 : Int) (g1 : rng v1) (g2 : rng v2) (g3 : rng v3) (g4 : rng v4) (g5 : rng v5) (g8 : rng v8), K114 σ v1 v2 v3 v4 v5 v6 v8 → RG σ → Shp dm ra jx rm σ → JJ p l e R s m args below meth c 11 D cA A n0 s0 QM σ 114 [(0, .ref rm), (1, .int (i32 v1)), (2, .int (i32 v2)), (3, .int (i32 v3)), (4, .int (i32 v4)), (5, .int (i32 v5)), (6, .long v6), (8, .int (i32 v8))] []) : ∀ (σ : Sg) (v1 : Int) (v2 : Int) (v3 : Int) (v4 : Int) (v5 : Int) (v6 : Int64) (v8 : Int) (g1 : rng v1) (g2 : rng v2) (g3 : rng v3) (g4 : rng v4) (g5 : rng v5) (g8 : rng v8), w_X16_passTop_130 ra jx rm K43 K114 Q X σ v1 v2 v3 v4 v5 v6 v8 → RG σ → Shp dm ra jx rm σ → JJ p l e R s m args below meth c 11 D cA A n0 s0 QM σ 130 [(0, .ref rm), (1, .int (i32 v1)), (2, .int (i32 v2)), (3, .int (i32 v3)), (4, .int (i32 v4)), (5, .int (i32 v5)), (6, .long v6), (8, .int (i32 v8))] [] := by
  intro σ v1 v2 v3 v4 v5 v6 v8 g1 g2 g3 g4 g5 g8 h hGσ hS H locs ls hH hl hc
  have B := K.1
  unfold w_X16_passTop_130 at h
  refine lv_iconst (v := i32 (-1)) B.1 B.2.1 dX16_passTop_130 (by decide) ?_
  refine lv_istore (lv' := [(9, .int (i32 (-1))), (0, .ref rm), (1, .int (i32 v1)), (2, .int (i32 v2)), (3, .int (i32 v3)), (4, .int (i32 v4)), (5, .int (i32 v5)), (6, .long v6), (8, .int (i32 v8))]) B.1 B.2.1 dX16_passTop_131 hl (by decide) rfl (fun ls hl => ?_)
  refine lv_iload B.1 B.2.1 dX16_passTop_133 (lv_at hl 6 rfl) ?_
  refine lv_istore (lv' := [(10, .int (i32 v5)), (9, .int (i32 (-1))), (0, .ref rm), (1, .int (i32 v1)), (2, .int (i32 v2)), (3, .int (i32 v3)), (4, .int (i32 v4)), (5, .int (i32 v5)), (6, .long v6), (8, .int (i32 v8))]) B.1 B.2.1 dX16_passTop_135 hl (by decide) rfl (fun ls hl => ?_)
  obtain ⟨n9, h⟩ := h
  exact al_X16_passTop_137 K hQ hX hK43 hK114 n9 _ _ _ _ _ _ _ _ _ _ g1 g2 g3 g4 g5 g8 (by unfold rng; omega) g5 h hGσ hS _ _ _ hH (lv_sub (l' := [(0, .ref rm), (1, .int (i32 v1)), (2, .int (i32 v2)), (3, .int (i32 v3)), (4, .int (i32 v4)), (5, .int (i32 v5)), (6, .long v6), (8, .int (i32 v8)), (9, .int (i32 (-1))), (10, .int (i32 v5))]) hl [2, 3, 4, 5, 6, 7, 8, 9, 1, 0] rfl) hc
set_option maxRecDepth 20000 in
theorem a_X16_passTop_114 {Q : Sg → Unit → Prop} {X : Sg → String → Prop} (K : MC R p s m args c cX16_passTop 11 RX16 D cA tys A n0 s0 2 54 []) (hQ : HQV p l e R s m args below meth c cX16_passTop D cA A n0 s0 QM dm ra jx rm Q) (hX : HX p l e R s m args below meth c 11 D cA A n0 s0 QM dm ra jx rm X) {K43 : Sg → Int → Int → Int → Int → Int → Prop} (hK43 : ∀ (σ : Sg) (v1 : Int) (v2 : Int) (v3 : Int) (v4 : Int) (v5 : Int) (g1 : rng v1) (g2 : rng v2) (g3 : rng v3) (g4 : rng v4) (g5 : rng v5), K43 σ v1 v2 v3 v4 v5 → RG σ → Shp dm ra jx rm σ → JJ p l e R s m args below meth c 11 D cA A n0 s0 QM σ 43 [(0, .ref rm), (1, .int (i32 v1)), (2, .int (i32 v2)), (3, .int (i32 v3)), (4, .int (i32 v4)), (5, .int (i32 v5))] []) {K114 : Sg → Int → Int → Int → Int → Int → Int64 → Int → Prop} (hK114 : ∀ (σ : Sg) (v1 : Int) (v2 : Int) (v3 : Int) (v4 : Int) (v5 : Int) (v6 : Int64) (v8 : Int) (g1 : rng v1) (g2 : rng v2) (g3 : rng v3) (g4 : rng v4) (g5 : rng v5) (g8 : rng v8), K114 σ v1 v2 v3 v4 v5 v6 v8 → RG σ → Shp dm ra jx rm σ → JJ p l e R s m args below meth c 11 D cA A n0 s0 QM σ 114 [(0, .ref rm), (1, .int (i32 v1)), (2, .int (i32 v2)), (3, .int (i32 v3)), (4, .int (i32 v4)), (5, .int (i32 v5)), (6, .long v6), (8, .int (i32 v8))] []) : ∀ (σ : Sg) (v1 : Int) (v2 : Int) (v3 : Int) (v4 : Int) (v5 : Int) (v6 : Int64) (v8 : Int) (g1 : rng v1) (g2 : rng v2) (g3 : rng v3) (g4 : rng v4) (g5 : rng v5) (g8 : rng v8), w_X16_passTop_114 ra jx rm K43 K114 Q X σ v1 v2 v3 v4 v5 v6 v8 → RG σ → Shp dm ra jx rm σ → JJ p l e R s m args below meth c 11 D cA A n0 s0 QM σ 114 [(0, .ref rm), (1, .int (i32 v1)), (2, .int (i32 v2)), (3, .int (i32 v3)), (4, .int (i32 v4)), (5, .int (i32 v5)), (6, .long v6), (8, .int (i32 v8))] [] := by
  intro σ v1 v2 v3 v4 v5 v6 v8 g1 g2 g3 g4 g5 g8 h hGσ hS H locs ls hH hl hc
  have B := K.1
  unfold w_X16_passTop_114 at h
  refine lv_iload B.1 B.2.1 dX16_passTop_114 (lv_at hl 7 rfl) ?_
  refine lv_i2l B.1 B.2.1 dX16_passTop_116 (i32_i64 g8) ?_
  refine lv_aload_n B.1 B.2.1 dX16_passTop_117 rfl (lv_at hl 0 rfl) ?_
  refine r_getp B hH hS 17 (by decide) wf_X16_356 rfl rfl dX16_passTop_118 ?_
  obtain ⟨a45, ea45, ja45, h⟩ := h
  refine W.eq (g2 := F0 m 121 ls [.ref a45, .long (Int64.ofInt v8)]) (by rw [ea45]; rfl) ?_
  refine n_arr B hH hS ja45 8 (kd := 101) (n := 16) (by decide) (by decide) (List.mem_of_getElem? (i := 8) rfl) rfl dX16_passTop_121 ?_
  refine lv_iload_n B.1 B.2.1 dX16_passTop_124 rfl (lv_at hl 1 rfl) ?_
  obtain ⟨q2, h⟩ := h
  refine x_lald B K.2.1 hH (hS.ja ja45 (k := 8) (kd := 101) (n := 16) (by decide)) (by decide) q2 dX16_passTop_125 ?_
  refine W.lcmp B.1 B.2.1 dX16_passTop_126 ?_
  refine lv_if_gt (tgt := 357) B.1 B.2.1 dX16_passTop_127 (by decide) (fun h9 => ?_) (fun h9 => ?_)
  · rw [if_pos ((lg_cmp_gt _ _).mp h9)] at h
    exact a_X16_passTop_357 K hQ hX hK43 _ _ _ _ _ _ g1 g2 g3 g4 g5 h hGσ hS _ _ _ hH (lv_sub (l' := [(0, .ref rm), (1, .int (i32 v1)), (2, .int (i32 v2)), (3, .int (i32 v3)), (4, .int (i32 v4)), (5, .int (i32 v5))]) hl [0, 1, 2, 3, 4, 5] rfl) hc
  · rw [if_neg (fun q => h9 ((lg_cmp_gt _ _).mpr q))] at h
    exact a_X16_passTop_130 K hQ hX hK43 hK114 _ _ _ _ _ _ _ _ g1 g2 g3 g4 g5 g8 h hGσ hS _ _ _ hH (lv_sub (l' := [(0, .ref rm), (1, .int (i32 v1)), (2, .int (i32 v2)), (3, .int (i32 v3)), (4, .int (i32 v4)), (5, .int (i32 v5)), (6, .long v6), (8, .int (i32 v8))]) hl [0, 1, 2, 3, 4, 5, 6, 7] rfl) hc
theorem al_X16_passTop_114 {Q : Sg → Unit → Prop} {X : Sg → String → Prop} (K : MC R p s m args c cX16_passTop 11 RX16 D cA tys A n0 s0 2 54 []) (hQ : HQV p l e R s m args below meth c cX16_passTop D cA A n0 s0 QM dm ra jx rm Q) (hX : HX p l e R s m args below meth c 11 D cA A n0 s0 QM dm ra jx rm X) {K43 : Sg → Int → Int → Int → Int → Int → Prop} (hK43 : ∀ (σ : Sg) (v1 : Int) (v2 : Int) (v3 : Int) (v4 : Int) (v5 : Int) (g1 : rng v1) (g2 : rng v2) (g3 : rng v3) (g4 : rng v4) (g5 : rng v5), K43 σ v1 v2 v3 v4 v5 → RG σ → Shp dm ra jx rm σ → JJ p l e R s m args below meth c 11 D cA A n0 s0 QM σ 43 [(0, .ref rm), (1, .int (i32 v1)), (2, .int (i32 v2)), (3, .int (i32 v3)), (4, .int (i32 v4)), (5, .int (i32 v5))] []) : ∀ (n : Nat), ∀ (σ : Sg) (v1 : Int) (v2 : Int) (v3 : Int) (v4 : Int) (v5 : Int) (v6 : Int64) (v8 : Int) (g1 : rng v1) (g2 : rng v2) (g3 : rng v3) (g4 : rng v4) (g5 : rng v5) (g8 : rng v8), wl_X16_passTop_114 ra jx rm K43 Q X n σ v1 v2 v3 v4 v5 v6 v8 → RG σ → Shp dm ra jx rm σ → JJ p l e R s m args below meth c 11 D cA A n0 s0 QM σ 114 [(0, .ref rm), (1, .int (i32 v1)), (2, .int (i32 v2)), (3, .int (i32 v3)), (4, .int (i32 v4)), (5, .int (i32 v5)), (6, .long v6), (8, .int (i32 v8))] [] := by
  intro n
  induction n with
  | zero => intro σ v1 v2 v3 v4 v5 v6 v8 g1 g2 g3 g4 g5 g8 h; exact h.elim
  | succ n ih => exact fun σ v1 v2 v3 v4 v5 v6 v8 g1 g2 g3 g4 g5 g8 h => a_X16_passTop_114 K hQ hX hK43 ih σ v1 v2 v3 v4 v5 v6 v8 g1 g2 g3 g4 g5 g8 h
set_option maxRecDepth 20000 in
theorem a_X16_passTop_111 {Q : Sg → Unit → Prop} {X : Sg → String → Prop} (K : MC R p s m args c cX16_passTop 11 RX16 D cA tys A n0 s0 2 54 []) (hQ : HQV p l e R s m args below meth c cX16_passTop D cA A n0 s0 QM dm ra jx rm Q) (hX : HX p l e R s m args below meth c 11 D cA A n0 s0 QM dm ra jx rm X) {K43 : Sg → Int → Int → Int → Int → Int → Prop} (hK43 : ∀ (σ : Sg) (v1 : Int) (v2 : Int) (v3 : Int) (v4 : Int) (v5 : Int) (g1 : rng v1) (g2 : rng v2) (g3 : rng v3) (g4 : rng v4) (g5 : rng v5), K43 σ v1 v2 v3 v4 v5 → RG σ → Shp dm ra jx rm σ → JJ p l e R s m args below meth c 11 D cA A n0 s0 QM σ 43 [(0, .ref rm), (1, .int (i32 v1)), (2, .int (i32 v2)), (3, .int (i32 v3)), (4, .int (i32 v4)), (5, .int (i32 v5))] []) : ∀ (σ : Sg) (v1 : Int) (v2 : Int) (v3 : Int) (v4 : Int) (v5 : Int) (v6 : Int64) (g1 : rng v1) (g2 : rng v2) (g3 : rng v3) (g4 : rng v4) (g5 : rng v5), w_X16_passTop_111 ra jx rm K43 Q X σ v1 v2 v3 v4 v5 v6 → RG σ → Shp dm ra jx rm σ → JJ p l e R s m args below meth c 11 D cA A n0 s0 QM σ 111 [(0, .ref rm), (1, .int (i32 v1)), (2, .int (i32 v2)), (3, .int (i32 v3)), (4, .int (i32 v4)), (5, .int (i32 v5)), (6, .long v6)] [] := by
  intro σ v1 v2 v3 v4 v5 v6 g1 g2 g3 g4 g5 h hGσ hS H locs ls hH hl hc
  have B := K.1
  unfold w_X16_passTop_111 at h
  refine lv_iconst (v := i32 1) B.1 B.2.1 dX16_passTop_111 (by decide) ?_
  refine lv_istore (lv' := [(8, .int (i32 1)), (0, .ref rm), (1, .int (i32 v1)), (2, .int (i32 v2)), (3, .int (i32 v3)), (4, .int (i32 v4)), (5, .int (i32 v5)), (6, .long v6)]) B.1 B.2.1 dX16_passTop_112 hl (by decide) rfl (fun ls hl => ?_)
  obtain ⟨n9, h⟩ := h
  exact al_X16_passTop_114 K hQ hX hK43 n9 _ _ _ _ _ _ _ _ g1 g2 g3 g4 g5 (by unfold rng; omega) h hGσ hS _ _ _ hH (lv_sub (l' := [(0, .ref rm), (1, .int (i32 v1)), (2, .int (i32 v2)), (3, .int (i32 v3)), (4, .int (i32 v4)), (5, .int (i32 v5)), (6, .long v6), (8, .int (i32 1))]) hl [1, 2, 3, 4, 5, 6, 7, 0] rfl) hc
set_option maxRecDepth 20000 in
theorem a_X16_passTop_108 {Q : Sg → Unit → Prop} {X : Sg → String → Prop} (K : MC R p s m args c cX16_passTop 11 RX16 D cA tys A n0 s0 2 54 []) (hQ : HQV p l e R s m args below meth c cX16_passTop D cA A n0 s0 QM dm ra jx rm Q) (hX : HX p l e R s m args below meth c 11 D cA A n0 s0 QM dm ra jx rm X) {K43 : Sg → Int → Int → Int → Int → Int → Prop} (hK43 : ∀ (σ : Sg) (v1 : Int) (v2 : Int) (v3 : Int) (v4 : Int) (v5 : Int) (g1 : rng v1) (g2 : rng v2) (g3 : rng v3) (g4 : rng v4) (g5 : rng v5), K43 σ v1 v2 v3 v4 v5 → RG σ → Shp dm ra jx rm σ → JJ p l e R s m args below meth c 11 D cA A n0 s0 QM σ 43 [(0, .ref rm), (1, .int (i32 v1)), (2, .int (i32 v2)), (3, .int (i32 v3)), (4, .int (i32 v4)), (5, .int (i32 v5))] []) : ∀ (σ : Sg) (v1 : Int) (v2 : Int) (v3 : Int) (v4 : Int) (v5 : Int) (g1 : rng v1) (g2 : rng v2) (g3 : rng v3) (g4 : rng v4) (g5 : rng v5), w_X16_passTop_108 ra jx rm K43 Q X σ v1 v2 v3 v4 v5 → RG σ → Shp dm ra jx rm σ → JJ p l e R s m args below meth c 11 D cA A n0 s0 QM σ 108 [(0, .ref rm), (1, .int (i32 v1)), (2, .int (i32 v2)), (3, .int (i32 v3)), (4, .int (i32 v4)), (5, .int (i32 v5))] [] := by
  intro σ v1 v2 v3 v4 v5 g1 g2 g3 g4 g5 h hGσ hS H locs ls hH hl hc
  have B := K.1
  unfold w_X16_passTop_108 at h
  refine lv_goto (tgt := 357) B.1 B.2.1 dX16_passTop_108 (by decide) ?_
  exact a_X16_passTop_357 K hQ hX hK43 _ _ _ _ _ _ g1 g2 g3 g4 g5 h hGσ hS _ _ _ hH (lv_sub (l' := [(0, .ref rm), (1, .int (i32 v1)), (2, .int (i32 v2)), (3, .int (i32 v3)), (4, .int (i32 v4)), (5, .int (i32 v5))]) hl [0, 1, 2, 3, 4, 5] rfl) hc
set_option maxRecDepth 20000 in
theorem a_X16_passTop_78 {Q : Sg → Unit → Prop} {X : Sg → String → Prop} (K : MC R p s m args c cX16_passTop 11 RX16 D cA tys A n0 s0 2 54 []) (hQ : HQV p l e R s m args below meth c cX16_passTop D cA A n0 s0 QM dm ra jx rm Q) (hX : HX p l e R s m args below meth c 11 D cA A n0 s0 QM dm ra jx rm X) {K43 : Sg → Int → Int → Int → Int → Int → Prop} (hK43 : ∀ (σ : Sg) (v1 : Int) (v2 : Int) (v3 : Int) (v4 : Int) (v5 : Int) (g1 : rng v1) (g2 : rng v2) (g3 : rng v3) (g4 : rng v4) (g5 : rng v5), K43 σ v1 v2 v3 v4 v5 → RG σ → Shp dm ra jx rm σ → JJ p l e R s m args below meth c 11 D cA A n0 s0 QM σ 43 [(0, .ref rm), (1, .int (i32 v1)), (2, .int (i32 v2)), (3, .int (i32 v3)), (4, .int (i32 v4)), (5, .int (i32 v5))] []) : ∀ (σ : Sg) (v1 : Int) (v2 : Int) (v3 : Int) (v4 : Int) (v5 : Int) (v6 : Int64) (g1 : rng v1) (g2 : rng v2) (g3 : rng v3) (g4 : rng v4) (g5 : rng v5), w_X16_passTop_78 ra jx rm K43 Q X σ v1 v2 v3 v4 v5 v6 → RG σ → Shp dm ra jx rm σ → JJ p l e R s m args below meth c 11 D cA A n0 s0 QM σ 78 [(0, .ref rm), (1, .int (i32 v1)), (2, .int (i32 v2)), (3, .int (i32 v3)), (4, .int (i32 v4)), (5, .int (i32 v5)), (6, .long v6)] [] := by
  intro σ v1 v2 v3 v4 v5 v6 g1 g2 g3 g4 g5 h hGσ hS H locs ls hH hl hc
  have B := K.1
  unfold w_X16_passTop_78 at h
  refine lv_aload_n B.1 B.2.1 dX16_passTop_78 rfl (lv_at hl 0 rfl) ?_
  refine r_arr B hH hS 115 (kd := 101) (n := 4000) (by decide) (by decide) wf_X16_864 rfl rfl dX16_passTop_79 ?_
  refine lv_aload_n B.1 B.2.1 dX16_passTop_82 rfl (lv_at hl 0 rfl) ?_
  refine r_arr B hH hS 119 (kd := 100) (n := 4000) (by decide) (by decide) wf_X16_877 rfl rfl dX16_passTop_83 ?_
  refine lv_iload B.1 B.2.1 dX16_passTop_86 (lv_at hl 5 rfl) ?_
  refine lv_iconst (v := i32 1) B.1 B.2.1 dX16_passTop_88 (by decide) ?_
  obtain ⟨q1, h⟩ := h
  refine lv_isub B.1 B.2.1 dX16_passTop_89 ?_
  rw [i32_sub]
  obtain ⟨q2, h⟩ := h
  refine x_iald B K.2.1 hH (hS.ar (k := 119) (kd := 100) (n := 4000) (by decide)) (by decide) q2 dX16_passTop_90 ?_
  obtain ⟨q3, h⟩ := h
  refine x_lald B K.2.1 hH (hS.ar (k := 115) (kd := 101) (n := 4000) (by decide)) (by decide) q3 dX16_passTop_91 ?_
  refine lv_aload_n B.1 B.2.1 dX16_passTop_92 rfl (lv_at hl 0 rfl) ?_
  refine r_getp B hH hS 17 (by decide) wf_X16_356 rfl rfl dX16_passTop_93 ?_
  obtain ⟨a46, ea46, ja46, h⟩ := h
  refine W.eq (g2 := F0 m 96 ls [.ref a46, .long (gJ σ (ra 115) (gI σ (ra 119) (v5 - 1).toNat).toNat)]) (by rw [ea46]; rfl) ?_
  refine n_arr B hH hS ja46 9 (kd := 101) (n := 16) (by decide) (by decide) (List.mem_of_getElem? (i := 9) rfl) rfl dX16_passTop_96 ?_
  refine lv_iload_n B.1 B.2.1 dX16_passTop_99 rfl (lv_at hl 1 rfl) ?_
  obtain ⟨q5, h⟩ := h
  refine x_lald B K.2.1 hH (hS.ja ja46 (k := 9) (kd := 101) (n := 16) (by decide)) (by decide) q5 dX16_passTop_100 ?_
  obtain ⟨q6, h⟩ := h
  refine lv_ldiv B.1 B.2.1 dX16_passTop_101 q6 ?_
  refine lv_lload B.1 B.2.1 dX16_passTop_102 (lv_at hl 6 rfl) ?_
  refine W.lcmp B.1 B.2.1 dX16_passTop_104 ?_
  refine lv_if_ne (tgt := 111) B.1 B.2.1 dX16_passTop_105 (by decide) (fun h9 => ?_) (fun h9 => ?_)
  · rw [if_pos (fun q => h9 ((lg_cmp_eq _ _).mpr q))] at h
    exact a_X16_passTop_111 K hQ hX hK43 _ _ _ _ _ _ _ g1 g2 g3 g4 g5 h hGσ hS _ _ _ hH (lv_sub (l' := [(0, .ref rm), (1, .int (i32 v1)), (2, .int (i32 v2)), (3, .int (i32 v3)), (4, .int (i32 v4)), (5, .int (i32 v5)), (6, .long v6)]) hl [0, 1, 2, 3, 4, 5, 6] rfl) hc
  · rw [if_neg (fun q => q ((lg_cmp_eq _ _).mp h9))] at h
    exact a_X16_passTop_108 K hQ hX hK43 _ _ _ _ _ _ g1 g2 g3 g4 g5 h hGσ hS _ _ _ hH (lv_sub (l' := [(0, .ref rm), (1, .int (i32 v1)), (2, .int (i32 v2)), (3, .int (i32 v3)), (4, .int (i32 v4)), (5, .int (i32 v5))]) hl [0, 1, 2, 3, 4, 5] rfl) hc
set_option maxRecDepth 20000 in
theorem a_X16_passTop_49 {Q : Sg → Unit → Prop} {X : Sg → String → Prop} (K : MC R p s m args c cX16_passTop 11 RX16 D cA tys A n0 s0 2 54 []) (hQ : HQV p l e R s m args below meth c cX16_passTop D cA A n0 s0 QM dm ra jx rm Q) (hX : HX p l e R s m args below meth c 11 D cA A n0 s0 QM dm ra jx rm X) {K43 : Sg → Int → Int → Int → Int → Int → Prop} (hK43 : ∀ (σ : Sg) (v1 : Int) (v2 : Int) (v3 : Int) (v4 : Int) (v5 : Int) (g1 : rng v1) (g2 : rng v2) (g3 : rng v3) (g4 : rng v4) (g5 : rng v5), K43 σ v1 v2 v3 v4 v5 → RG σ → Shp dm ra jx rm σ → JJ p l e R s m args below meth c 11 D cA A n0 s0 QM σ 43 [(0, .ref rm), (1, .int (i32 v1)), (2, .int (i32 v2)), (3, .int (i32 v3)), (4, .int (i32 v4)), (5, .int (i32 v5))] []) : ∀ (σ : Sg) (v1 : Int) (v2 : Int) (v3 : Int) (v4 : Int) (v5 : Int) (g1 : rng v1) (g2 : rng v2) (g3 : rng v3) (g4 : rng v4) (g5 : rng v5), w_X16_passTop_49 ra jx rm K43 Q X σ v1 v2 v3 v4 v5 → RG σ → Shp dm ra jx rm σ → JJ p l e R s m args below meth c 11 D cA A n0 s0 QM σ 49 [(0, .ref rm), (1, .int (i32 v1)), (2, .int (i32 v2)), (3, .int (i32 v3)), (4, .int (i32 v4)), (5, .int (i32 v5))] [] := by
  intro σ v1 v2 v3 v4 v5 g1 g2 g3 g4 g5 h hGσ hS H locs ls hH hl hc
  have B := K.1
  unfold w_X16_passTop_49 at h
  refine lv_aload_n B.1 B.2.1 dX16_passTop_49 rfl (lv_at hl 0 rfl) ?_
  refine r_arr B hH hS 115 (kd := 101) (n := 4000) (by decide) (by decide) wf_X16_864 rfl rfl dX16_passTop_50 ?_
  refine lv_aload_n B.1 B.2.1 dX16_passTop_53 rfl (lv_at hl 0 rfl) ?_
  refine r_arr B hH hS 119 (kd := 100) (n := 4000) (by decide) (by decide) wf_X16_877 rfl rfl dX16_passTop_54 ?_
  refine lv_iload B.1 B.2.1 dX16_passTop_57 (lv_at hl 5 rfl) ?_
  obtain ⟨q1, h⟩ := h
  refine x_iald B K.2.1 hH (hS.ar (k := 119) (kd := 100) (n := 4000) (by decide)) (by decide) q1 dX16_passTop_59 ?_
  obtain ⟨q2, h⟩ := h
  refine x_lald B K.2.1 hH (hS.ar (k := 115) (kd := 101) (n := 4000) (by decide)) (by decide) q2 dX16_passTop_60 ?_
  refine lv_aload_n B.1 B.2.1 dX16_passTop_61 rfl (lv_at hl 0 rfl) ?_
  refine r_getp B hH hS 17 (by decide) wf_X16_356 rfl rfl dX16_passTop_62 ?_
  obtain ⟨a47, ea47, ja47, h⟩ := h
  refine W.eq (g2 := F0 m 65 ls [.ref a47, .long (gJ σ (ra 115) (gI σ (ra 119) v5.toNat).toNat)]) (by rw [ea47]; rfl) ?_
  refine n_arr B hH hS ja47 9 (kd := 101) (n := 16) (by decide) (by decide) (List.mem_of_getElem? (i := 9) rfl) rfl dX16_passTop_65 ?_
  refine lv_iload_n B.1 B.2.1 dX16_passTop_68 rfl (lv_at hl 1 rfl) ?_
  obtain ⟨q4, h⟩ := h
  refine x_lald B K.2.1 hH (hS.ja ja47 (k := 9) (kd := 101) (n := 16) (by decide)) (by decide) q4 dX16_passTop_69 ?_
  obtain ⟨q5, h⟩ := h
  refine lv_ldiv B.1 B.2.1 dX16_passTop_70 q5 ?_
  refine lv_lstore (lv' := [(6, .long ((gJ σ (ra 115) (gI σ (ra 119) v5.toNat).toNat) / (gJ σ (jx a47 9) v1.toNat))), (0, .ref rm), (1, .int (i32 v1)), (2, .int (i32 v2)), (3, .int (i32 v3)), (4, .int (i32 v4)), (5, .int (i32 v5))]) B.1 B.2.1 dX16_passTop_71 hl (by decide) rfl (fun ls hl => ?_)
  refine lv_iload B.1 B.2.1 dX16_passTop_73 (lv_at hl 6 rfl) ?_
  refine lv_if_le (tgt := 111) B.1 B.2.1 dX16_passTop_75 (by decide) (fun h9 => ?_) (fun h9 => ?_)
  · rw [if_pos ((z_le g5).mp h9)] at h
    exact a_X16_passTop_111 K hQ hX hK43 _ _ _ _ _ _ _ g1 g2 g3 g4 g5 h hGσ hS _ _ _ hH (lv_sub (l' := [(0, .ref rm), (1, .int (i32 v1)), (2, .int (i32 v2)), (3, .int (i32 v3)), (4, .int (i32 v4)), (5, .int (i32 v5)), (6, .long ((gJ σ (ra 115) (gI σ (ra 119) v5.toNat).toNat) / (gJ σ (jx a47 9) v1.toNat)))]) hl [1, 2, 3, 4, 5, 6, 0] rfl) hc
  · rw [if_neg (fun q => h9 ((z_le g5).mpr q))] at h
    exact a_X16_passTop_78 K hQ hX hK43 _ _ _ _ _ _ _ g1 g2 g3 g4 g5 h hGσ hS _ _ _ hH (lv_sub (l' := [(0, .ref rm), (1, .int (i32 v1)), (2, .int (i32 v2)), (3, .int (i32 v3)), (4, .int (i32 v4)), (5, .int (i32 v5)), (6, .long ((gJ σ (ra 115) (gI σ (ra 119) v5.toNat).toNat) / (gJ σ (jx a47 9) v1.toNat)))]) hl [1, 2, 3, 4, 5, 6, 0] rfl) hc
set_option maxRecDepth 20000 in
theorem a_X16_passTop_43 {Q : Sg → Unit → Prop} {X : Sg → String → Prop} (K : MC R p s m args c cX16_passTop 11 RX16 D cA tys A n0 s0 2 54 []) (hQ : HQV p l e R s m args below meth c cX16_passTop D cA A n0 s0 QM dm ra jx rm Q) (hX : HX p l e R s m args below meth c 11 D cA A n0 s0 QM dm ra jx rm X) {K43 : Sg → Int → Int → Int → Int → Int → Prop} (hK43 : ∀ (σ : Sg) (v1 : Int) (v2 : Int) (v3 : Int) (v4 : Int) (v5 : Int) (g1 : rng v1) (g2 : rng v2) (g3 : rng v3) (g4 : rng v4) (g5 : rng v5), K43 σ v1 v2 v3 v4 v5 → RG σ → Shp dm ra jx rm σ → JJ p l e R s m args below meth c 11 D cA A n0 s0 QM σ 43 [(0, .ref rm), (1, .int (i32 v1)), (2, .int (i32 v2)), (3, .int (i32 v3)), (4, .int (i32 v4)), (5, .int (i32 v5))] []) : ∀ (σ : Sg) (v1 : Int) (v2 : Int) (v3 : Int) (v4 : Int) (v5 : Int) (g1 : rng v1) (g2 : rng v2) (g3 : rng v3) (g4 : rng v4) (g5 : rng v5), w_X16_passTop_43 ra jx rm K43 Q X σ v1 v2 v3 v4 v5 → RG σ → Shp dm ra jx rm σ → JJ p l e R s m args below meth c 11 D cA A n0 s0 QM σ 43 [(0, .ref rm), (1, .int (i32 v1)), (2, .int (i32 v2)), (3, .int (i32 v3)), (4, .int (i32 v4)), (5, .int (i32 v5))] [] := by
  intro σ v1 v2 v3 v4 v5 g1 g2 g3 g4 g5 h hGσ hS H locs ls hH hl hc
  have B := K.1
  unfold w_X16_passTop_43 at h
  refine lv_iload B.1 B.2.1 dX16_passTop_43 (lv_at hl 5 rfl) ?_
  refine lv_iload_n B.1 B.2.1 dX16_passTop_45 rfl (lv_at hl 3 rfl) ?_
  refine lv_icmp_ge (tgt := 363) B.1 B.2.1 dX16_passTop_46 (by decide) (fun h9 => ?_) (fun h9 => ?_)
  · rw [if_pos ((i32_le g3 g5).mp h9)] at h
    exact a_X16_passTop_363 K hQ hX _ h hGσ hS _ _ _ hH (lv_sub (l' := [(0, .ref rm)]) hl [0] rfl) hc
  · rw [if_neg (fun q => h9 ((i32_le g3 g5).mpr q))] at h
    exact a_X16_passTop_49 K hQ hX hK43 _ _ _ _ _ _ g1 g2 g3 g4 g5 h hGσ hS _ _ _ hH (lv_sub (l' := [(0, .ref rm), (1, .int (i32 v1)), (2, .int (i32 v2)), (3, .int (i32 v3)), (4, .int (i32 v4)), (5, .int (i32 v5))]) hl [0, 1, 2, 3, 4, 5] rfl) hc
theorem al_X16_passTop_43 {Q : Sg → Unit → Prop} {X : Sg → String → Prop} (K : MC R p s m args c cX16_passTop 11 RX16 D cA tys A n0 s0 2 54 []) (hQ : HQV p l e R s m args below meth c cX16_passTop D cA A n0 s0 QM dm ra jx rm Q) (hX : HX p l e R s m args below meth c 11 D cA A n0 s0 QM dm ra jx rm X) : ∀ (n : Nat), ∀ (σ : Sg) (v1 : Int) (v2 : Int) (v3 : Int) (v4 : Int) (v5 : Int) (g1 : rng v1) (g2 : rng v2) (g3 : rng v3) (g4 : rng v4) (g5 : rng v5), wl_X16_passTop_43 ra jx rm Q X n σ v1 v2 v3 v4 v5 → RG σ → Shp dm ra jx rm σ → JJ p l e R s m args below meth c 11 D cA A n0 s0 QM σ 43 [(0, .ref rm), (1, .int (i32 v1)), (2, .int (i32 v2)), (3, .int (i32 v3)), (4, .int (i32 v4)), (5, .int (i32 v5))] [] := by
  intro n
  induction n with
  | zero => intro σ v1 v2 v3 v4 v5 g1 g2 g3 g4 g5 h; exact h.elim
  | succ n ih => exact fun σ v1 v2 v3 v4 v5 g1 g2 g3 g4 g5 h => a_X16_passTop_43 K hQ hX ih σ v1 v2 v3 v4 v5 g1 g2 g3 g4 g5 h
set_option maxRecDepth 20000 in
theorem a_X16_passTop_40 {Q : Sg → Unit → Prop} {X : Sg → String → Prop} (K : MC R p s m args c cX16_passTop 11 RX16 D cA tys A n0 s0 2 54 []) (hQ : HQV p l e R s m args below meth c cX16_passTop D cA A n0 s0 QM dm ra jx rm Q) (hX : HX p l e R s m args below meth c 11 D cA A n0 s0 QM dm ra jx rm X) : ∀ (σ : Sg) (v1 : Int) (v2 : Int) (v3 : Int) (v4 : Int) (g1 : rng v1) (g2 : rng v2) (g3 : rng v3) (g4 : rng v4), w_X16_passTop_40 ra jx rm Q X σ v1 v2 v3 v4 → RG σ → Shp dm ra jx rm σ → JJ p l e R s m args below meth c 11 D cA A n0 s0 QM σ 40 [(0, .ref rm), (1, .int (i32 v1)), (2, .int (i32 v2)), (3, .int (i32 v3)), (4, .int (i32 v4))] [] := by
  intro σ v1 v2 v3 v4 g1 g2 g3 g4 h hGσ hS H locs ls hH hl hc
  have B := K.1
  unfold w_X16_passTop_40 at h
  refine lv_iconst (v := i32 0) B.1 B.2.1 dX16_passTop_40 (by decide) ?_
  refine lv_istore (lv' := [(5, .int (i32 0)), (0, .ref rm), (1, .int (i32 v1)), (2, .int (i32 v2)), (3, .int (i32 v3)), (4, .int (i32 v4))]) B.1 B.2.1 dX16_passTop_41 hl (by decide) rfl (fun ls hl => ?_)
  obtain ⟨n9, h⟩ := h
  exact al_X16_passTop_43 K hQ hX n9 _ _ _ _ _ _ g1 g2 g3 g4 (by unfold rng; omega) h hGσ hS _ _ _ hH (lv_sub (l' := [(0, .ref rm), (1, .int (i32 v1)), (2, .int (i32 v2)), (3, .int (i32 v3)), (4, .int (i32 v4)), (5, .int (i32 0))]) hl [1, 2, 3, 4, 5, 0] rfl) hc
set_option maxRecDepth 20000 in
theorem a_X16_passTop_26 {Q : Sg → Unit → Prop} {X : Sg → String → Prop} (K : MC R p s m args c cX16_passTop 11 RX16 D cA tys A n0 s0 2 54 []) (hQ : HQV p l e R s m args below meth c cX16_passTop D cA A n0 s0 QM dm ra jx rm Q) (hX : HX p l e R s m args below meth c 11 D cA A n0 s0 QM dm ra jx rm X) {K20 : Sg → Int → Int → Int → Int → Int → Prop} (hK20 : ∀ (σ : Sg) (v1 : Int) (v2 : Int) (v3 : Int) (v4 : Int) (v5 : Int) (g1 : rng v1) (g2 : rng v2) (g3 : rng v3) (g4 : rng v4) (g5 : rng v5), K20 σ v1 v2 v3 v4 v5 → RG σ → Shp dm ra jx rm σ → JJ p l e R s m args below meth c 11 D cA A n0 s0 QM σ 20 [(0, .ref rm), (1, .int (i32 v1)), (2, .int (i32 v2)), (3, .int (i32 v3)), (4, .int (i32 v4)), (5, .int (i32 v5))] []) : ∀ (σ : Sg) (v1 : Int) (v2 : Int) (v3 : Int) (v4 : Int) (v5 : Int) (g1 : rng v1) (g2 : rng v2) (g3 : rng v3) (g4 : rng v4) (g5 : rng v5), w_X16_passTop_26 ra jx rm K20 Q X σ v1 v2 v3 v4 v5 → RG σ → Shp dm ra jx rm σ → JJ p l e R s m args below meth c 11 D cA A n0 s0 QM σ 26 [(0, .ref rm), (1, .int (i32 v1)), (2, .int (i32 v2)), (3, .int (i32 v3)), (4, .int (i32 v4)), (5, .int (i32 v5))] [] := by
  intro σ v1 v2 v3 v4 v5 g1 g2 g3 g4 g5 h hGσ hS H locs ls hH hl hc
  have B := K.1
  unfold w_X16_passTop_26 at h
  refine lv_aload_n B.1 B.2.1 dX16_passTop_26 rfl (lv_at hl 0 rfl) ?_
  refine r_arr B hH hS 120 (kd := 103) (n := 4000) (by decide) (by decide) wf_X16_897 rfl rfl dX16_passTop_27 ?_
  refine lv_iload B.1 B.2.1 dX16_passTop_30 (lv_at hl 5 rfl) ?_
  refine lv_iconst (v := i32 0) B.1 B.2.1 dX16_passTop_32 (by decide) ?_
  obtain ⟨q1, h⟩ := h
  obtain ⟨σ48, eσ48⟩ : ∃ z, z = pI σ (ra 120) v5.toNat (nZ 0) := ⟨_, rfl⟩
  have h := h σ48 eσ48
  refine x_zast B K.2.1 hH (hS.ar (k := 120) (kd := 103) (n := 4000) (by decide)) (by decide) q1 dX16_passTop_33 (fun H locs hH => ?_)
  have hH : Hd D cA A s (pI σ (ra 120) v5.toNat (nZ 0)) H locs := hH
  rw [← eσ48] at hH
  have hGσ48 : RG σ48 := by rw [eσ48]; exact hGσ.pI (rng_toInt _)
  have hS : Shp dm ra jx rm σ48 := by rw [eσ48]; exact hS
  have hc : CB n0 s0 σ48 := by rw [eσ48]; exact hc
  rw [show gc σ = gc σ48 by rw [eσ48], show gs σ = gs σ48 by rw [eσ48]]
  obtain ⟨q3, h⟩ := h
  refine lv_iinc (k := 5) (v := i32 (v5 + 1)) (lv' := [(5, .int (i32 (v5 + 1))), (0, .ref rm), (1, .int (i32 v1)), (2, .int (i32 v2)), (3, .int (i32 v3)), (4, .int (i32 v4))]) B.1 B.2.1 dX16_passTop_34 hl rfl (i32_add _ _) (by decide) rfl (fun ls hl => ?_)
  refine lv_goto (tgt := 20) B.1 B.2.1 dX16_passTop_37 (by decide) ?_
  exact hK20 _ _ _ _ _ _ g1 g2 g3 g4 q3 h hGσ48 hS _ _ _ hH (lv_sub (l' := [(0, .ref rm), (1, .int (i32 v1)), (2, .int (i32 v2)), (3, .int (i32 v3)), (4, .int (i32 v4)), (5, .int (i32 (v5 + 1)))]) hl [1, 2, 3, 4, 5, 0] rfl) hc
set_option maxRecDepth 20000 in
theorem a_X16_passTop_20 {Q : Sg → Unit → Prop} {X : Sg → String → Prop} (K : MC R p s m args c cX16_passTop 11 RX16 D cA tys A n0 s0 2 54 []) (hQ : HQV p l e R s m args below meth c cX16_passTop D cA A n0 s0 QM dm ra jx rm Q) (hX : HX p l e R s m args below meth c 11 D cA A n0 s0 QM dm ra jx rm X) {K20 : Sg → Int → Int → Int → Int → Int → Prop} (hK20 : ∀ (σ : Sg) (v1 : Int) (v2 : Int) (v3 : Int) (v4 : Int) (v5 : Int) (g1 : rng v1) (g2 : rng v2) (g3 : rng v3) (g4 : rng v4) (g5 : rng v5), K20 σ v1 v2 v3 v4 v5 → RG σ → Shp dm ra jx rm σ → JJ p l e R s m args below meth c 11 D cA A n0 s0 QM σ 20 [(0, .ref rm), (1, .int (i32 v1)), (2, .int (i32 v2)), (3, .int (i32 v3)), (4, .int (i32 v4)), (5, .int (i32 v5))] []) : ∀ (σ : Sg) (v1 : Int) (v2 : Int) (v3 : Int) (v4 : Int) (v5 : Int) (g1 : rng v1) (g2 : rng v2) (g3 : rng v3) (g4 : rng v4) (g5 : rng v5), w_X16_passTop_20 ra jx rm K20 Q X σ v1 v2 v3 v4 v5 → RG σ → Shp dm ra jx rm σ → JJ p l e R s m args below meth c 11 D cA A n0 s0 QM σ 20 [(0, .ref rm), (1, .int (i32 v1)), (2, .int (i32 v2)), (3, .int (i32 v3)), (4, .int (i32 v4)), (5, .int (i32 v5))] [] := by
  intro σ v1 v2 v3 v4 v5 g1 g2 g3 g4 g5 h hGσ hS H locs ls hH hl hc
  have B := K.1
  unfold w_X16_passTop_20 at h
  refine lv_iload B.1 B.2.1 dX16_passTop_20 (lv_at hl 5 rfl) ?_
  refine lv_iload_n B.1 B.2.1 dX16_passTop_22 rfl (lv_at hl 3 rfl) ?_
  refine lv_icmp_ge (tgt := 40) B.1 B.2.1 dX16_passTop_23 (by decide) (fun h9 => ?_) (fun h9 => ?_)
  · rw [if_pos ((i32_le g3 g5).mp h9)] at h
    exact a_X16_passTop_40 K hQ hX _ _ _ _ _ g1 g2 g3 g4 h hGσ hS _ _ _ hH (lv_sub (l' := [(0, .ref rm), (1, .int (i32 v1)), (2, .int (i32 v2)), (3, .int (i32 v3)), (4, .int (i32 v4))]) hl [0, 1, 2, 3, 4] rfl) hc
  · rw [if_neg (fun q => h9 ((i32_le g3 g5).mpr q))] at h
    exact a_X16_passTop_26 K hQ hX hK20 _ _ _ _ _ _ g1 g2 g3 g4 g5 h hGσ hS _ _ _ hH (lv_sub (l' := [(0, .ref rm), (1, .int (i32 v1)), (2, .int (i32 v2)), (3, .int (i32 v3)), (4, .int (i32 v4)), (5, .int (i32 v5))]) hl [0, 1, 2, 3, 4, 5] rfl) hc
theorem al_X16_passTop_20 {Q : Sg → Unit → Prop} {X : Sg → String → Prop} (K : MC R p s m args c cX16_passTop 11 RX16 D cA tys A n0 s0 2 54 []) (hQ : HQV p l e R s m args below meth c cX16_passTop D cA A n0 s0 QM dm ra jx rm Q) (hX : HX p l e R s m args below meth c 11 D cA A n0 s0 QM dm ra jx rm X) : ∀ (n : Nat), ∀ (σ : Sg) (v1 : Int) (v2 : Int) (v3 : Int) (v4 : Int) (v5 : Int) (g1 : rng v1) (g2 : rng v2) (g3 : rng v3) (g4 : rng v4) (g5 : rng v5), wl_X16_passTop_20 ra jx rm Q X n σ v1 v2 v3 v4 v5 → RG σ → Shp dm ra jx rm σ → JJ p l e R s m args below meth c 11 D cA A n0 s0 QM σ 20 [(0, .ref rm), (1, .int (i32 v1)), (2, .int (i32 v2)), (3, .int (i32 v3)), (4, .int (i32 v4)), (5, .int (i32 v5))] [] := by
  intro n
  induction n with
  | zero => intro σ v1 v2 v3 v4 v5 g1 g2 g3 g4 g5 h; exact h.elim
  | succ n ih => exact fun σ v1 v2 v3 v4 v5 g1 g2 g3 g4 g5 h => a_X16_passTop_20 K hQ hX ih σ v1 v2 v3 v4 v5 g1 g2 g3 g4 g5 h
set_option maxRecDepth 20000 in
theorem a_X16_passTop_0 {Q : Sg → Unit → Prop} {X : Sg → String → Prop} (K : MC R p s m args c cX16_passTop 11 RX16 D cA tys A n0 s0 2 54 []) (hQ : HQV p l e R s m args below meth c cX16_passTop D cA A n0 s0 QM dm ra jx rm Q) (hX : HX p l e R s m args below meth c 11 D cA A n0 s0 QM dm ra jx rm X) : ∀ (σ : Sg) (v1 : Int) (v2 : Int) (g1 : rng v1) (g2 : rng v2), w_X16_passTop_0 ra jx rm Q X σ v1 v2 → RG σ → Shp dm ra jx rm σ → JJ p l e R s m args below meth c 11 D cA A n0 s0 QM σ 0 [(0, .ref rm), (1, .int (i32 v1)), (2, .int (i32 v2))] [] := by
  intro σ v1 v2 g1 g2 h hGσ hS H locs ls hH hl hc
  have B := K.1
  unfold w_X16_passTop_0 at h
  refine lv_aload_n B.1 B.2.1 dX16_passTop_0 rfl (lv_at hl 0 rfl) ?_
  refine lv_iload_n B.1 B.2.1 dX16_passTop_1 rfl (lv_at hl 2 rfl) ?_
  refine c_V B hH hl hc K.2.2.1 (C := RX16) (T := TX16) (N := 123) (ci := 16) (As := [.int (i32 v2)]) (ok_X16_sort K.2.1 σ v2 g2 hGσ hS h) wc_X16_883 1 hd_X16_sort ⟨Nat.le_trans (Nat.le_of_ble_eq_true rfl) K.2.2.2.1, Nat.le_trans (Nat.le_of_ble_eq_true rfl) K.2.2.2.2.1⟩ hS.1.1 hS.1.2 (by decide) rfl rfl (rest := []) rfl (Nat.le_of_ble_eq_true rfl) dX16_passTop_2 (fun σ49 w hq => ?_) (fun σ9 E9 hx9 => hX σ9 E9 _ _ _ (tb_out K.2.2.2.2.2 rfl) hx9.1 hx9.2.1 hx9.2.2)
  obtain ⟨r50, rfl, gr50, h, hGσ49, hS⟩ := hq
  intro H locs ls hH hl hc
  refine W.eq (g2 := F0 m 5 ls [.int (i32 r50)]) (rfl) ?_
  try dsimp only at h
  refine lv_istore_n (lv' := [(3, .int (i32 r50)), (0, .ref rm), (1, .int (i32 v1)), (2, .int (i32 v2))]) B.1 B.2.1 dX16_passTop_5 rfl hl (by decide) rfl (fun ls hl => ?_)
  refine lv_aload_n B.1 B.2.1 dX16_passTop_6 rfl (lv_at hl 1 rfl) ?_
  refine r_getp B hH hS 17 (by decide) wf_X16_356 rfl rfl dX16_passTop_7 ?_
  obtain ⟨a51, ea51, ja51, h⟩ := h
  refine W.eq (g2 := F0 m 10 ls [.ref a51]) (by rw [ea51]; rfl) ?_
  refine n_arr B hH hS ja51 10 (kd := 100) (n := 16) (by decide) (by decide) (List.mem_of_getElem? (i := 10) rfl) rfl dX16_passTop_10 ?_
  refine lv_iload_n B.1 B.2.1 dX16_passTop_13 rfl (lv_at hl 2 rfl) ?_
  obtain ⟨q2, h⟩ := h
  refine x_iald B K.2.1 hH (hS.ja ja51 (k := 10) (kd := 100) (n := 16) (by decide)) (by decide) q2 dX16_passTop_14 ?_
  refine lv_istore (lv' := [(4, .int (i32 (gI σ49 (jx a51 10) v1.toNat))), (3, .int (i32 r50)), (0, .ref rm), (1, .int (i32 v1)), (2, .int (i32 v2))]) B.1 B.2.1 dX16_passTop_15 hl (by decide) rfl (fun ls hl => ?_)
  refine lv_iconst (v := i32 0) B.1 B.2.1 dX16_passTop_17 (by decide) ?_
  refine lv_istore (lv' := [(5, .int (i32 0)), (4, .int (i32 (gI σ49 (jx a51 10) v1.toNat))), (3, .int (i32 r50)), (0, .ref rm), (1, .int (i32 v1)), (2, .int (i32 v2))]) B.1 B.2.1 dX16_passTop_18 hl (by decide) rfl (fun ls hl => ?_)
  obtain ⟨n9, h⟩ := h
  exact al_X16_passTop_20 K hQ hX n9 _ _ _ _ _ _ g1 g2 gr50 (hGσ49 _ _) (by unfold rng; omega) h hGσ49 hS _ _ _ hH (lv_sub (l' := [(0, .ref rm), (1, .int (i32 v1)), (2, .int (i32 v2)), (3, .int (i32 r50)), (4, .int (i32 (gI σ49 (jx a51 10) v1.toNat))), (5, .int (i32 0))]) hl [3, 4, 5, 2, 1, 0] rfl) hc
theorem ok_X16_passTop (hT : Tys cA tys) {Q : Sg → Unit → Prop} {X : Sg → String → Prop} (σ : Sg) (v1 : Int) (v2 : Int) (g1 : rng v1) (g2 : rng v2) (hG : RG σ) (hS : Shp dm ra jx rm σ) (h : wp_X16_passTop ra jx rm v1 v2 σ Q X) : Ok l D cA tys A yX16_passTop (.code yX16_passTop cX16_passTop 11 none) 2 54 [.ref rm, .int (i32 v1), .int (i32 v2)] σ (QnV dm ra jx rm Q) (QxR dm ra jx rm X) := by
  unfold wp_X16_passTop at h
  exact ok_V (plainFor_of_name (by decide)) (by exact Nat.le_of_ble_eq_true rfl) hT (fun p e R s m args below meth c K hQ hX H locs ls hH hl hc => a_X16_passTop_0 K hQ hX σ v1 v2 g1 g2 h hG hS H locs ls hH (lv_sub (l' := [(0, .ref rm), (1, .int (i32 v1)), (2, .int (i32 v2))]) hl [0, 1, 2] rfl) hc)
theorem dX16_passUnique_0 : decode cX16_passUnique 0 = .ok (.aload_n 0, 1) := by decide +kernel
theorem dX16_passUnique_1 : decode cX16_passUnique 1 = .ok (.getfield 861, 3) := by decide +kernel
theorem dX16_passUnique_4 : decode cX16_passUnique 4 = .ok (.istore_n 3, 1) := by decide +kernel
theorem dX16_passUnique_5 : decode cX16_passUnique 5 = .ok (.aload_n 0, 1) := by decide +kernel
theorem dX16_passUnique_6 : decode cX16_passUnique 6 = .ok (.iload_n 2, 1) := by decide +kernel
theorem dX16_passUnique_7 : decode cX16_passUnique 7 = .ok (.invokevirtual 883, 3) := by decide +kernel
theorem dX16_passUnique_10 : decode cX16_passUnique 10 = .ok (.istore 4, 2) := by decide +kernel
theorem dX16_passUnique_12 : decode cX16_passUnique 12 = .ok (.iconst 0, 1) := by decide +kernel
theorem dX16_passUnique_13 : decode cX16_passUnique 13 = .ok (.istore 5, 2) := by decide +kernel
theorem dX16_passUnique_15 : decode cX16_passUnique 15 = .ok (.iload 5, 2) := by decide +kernel
theorem dX16_passUnique_17 : decode cX16_passUnique 17 = .ok (.iload 4, 2) := by decide +kernel
theorem dX16_passUnique_19 : decode cX16_passUnique 19 = .ok (.if_icmp .ge 144, 3) := by decide +kernel
theorem dX16_passUnique_22 : decode cX16_passUnique 22 = .ok (.aload_n 0, 1) := by decide +kernel
theorem dX16_passUnique_23 : decode cX16_passUnique 23 = .ok (.getfield 877, 3) := by decide +kernel
theorem dX16_passUnique_26 : decode cX16_passUnique 26 = .ok (.iload 5, 2) := by decide +kernel
theorem dX16_passUnique_28 : decode cX16_passUnique 28 = .ok (.iaload, 1) := by decide +kernel
theorem dX16_passUnique_29 : decode cX16_passUnique 29 = .ok (.istore 6, 2) := by decide +kernel
theorem dX16_passUnique_31 : decode cX16_passUnique 31 = .ok (.aload_n 0, 1) := by decide +kernel
theorem dX16_passUnique_32 : decode cX16_passUnique 32 = .ok (.iload 6, 2) := by decide +kernel
theorem dX16_passUnique_34 : decode cX16_passUnique 34 = .ok (.invokevirtual 880, 3) := by decide +kernel
theorem dX16_passUnique_37 : decode cX16_passUnique 37 = .ok (.iconst 1, 1) := by decide +kernel
theorem dX16_passUnique_38 : decode cX16_passUnique 38 = .ok (.istore 7, 2) := by decide +kernel
theorem dX16_passUnique_40 : decode cX16_passUnique 40 = .ok (.iload_n 3, 1) := by decide +kernel
theorem dX16_passUnique_41 : decode cX16_passUnique 41 = .ok (.istore 8, 2) := by decide +kernel
theorem dX16_passUnique_43 : decode cX16_passUnique 43 = .ok (.iload 8, 2) := by decide +kernel
theorem dX16_passUnique_45 : decode cX16_passUnique 45 = .ok (.aload_n 0, 1) := by decide +kernel
theorem dX16_passUnique_46 : decode cX16_passUnique 46 = .ok (.getfield 861, 3) := by decide +kernel
theorem dX16_passUnique_49 : decode cX16_passUnique 49 = .ok (.if_icmp .ge 87, 3) := by decide +kernel
theorem dX16_passUnique_52 : decode cX16_passUnique 52 = .ok (.iload 7, 2) := by decide +kernel
theorem dX16_passUnique_54 : decode cX16_passUnique 54 = .ok (.ifCond .eq 73, 3) := by decide +kernel
theorem dX16_passUnique_57 : decode cX16_passUnique 57 = .ok (.aload_n 0, 1) := by decide +kernel
theorem dX16_passUnique_58 : decode cX16_passUnique 58 = .ok (.getfield 867, 3) := by decide +kernel
theorem dX16_passUnique_61 : decode cX16_passUnique 61 = .ok (.bipush 8, 2) := by decide +kernel
theorem dX16_passUnique_63 : decode cX16_passUnique 63 = .ok (.iload 8, 2) := by decide +kernel
theorem dX16_passUnique_65 : decode cX16_passUnique 65 = .ok (.imul, 1) := by decide +kernel
theorem dX16_passUnique_66 : decode cX16_passUnique 66 = .ok (.aload_n 0, 1) := by decide +kernel
theorem dX16_passUnique_67 : decode cX16_passUnique 67 = .ok (.getfield 356, 3) := by decide +kernel
theorem dX16_passUnique_70 : decode cX16_passUnique 70 = .ok (.getfield 239, 3) := by decide +kernel
theorem dX16_passUnique_73 : decode cX16_passUnique 73 = .ok (.iload_n 1, 1) := by decide +kernel
theorem dX16_passUnique_74 : decode cX16_passUnique 74 = .ok (.iaload, 1) := by decide +kernel
theorem dX16_passUnique_75 : decode cX16_passUnique 75 = .ok (.iadd, 1) := by decide +kernel
theorem dX16_passUnique_76 : decode cX16_passUnique 76 = .ok (.laload, 1) := by decide +kernel
theorem dX16_passUnique_77 : decode cX16_passUnique 77 = .ok (.aload_n 0, 1) := by decide +kernel
theorem dX16_passUnique_78 : decode cX16_passUnique 78 = .ok (.getfield 542, 3) := by decide +kernel
theorem dX16_passUnique_81 : decode cX16_passUnique 81 = .ok (.aload_n 0, 1) := by decide +kernel
theorem dX16_passUnique_82 : decode cX16_passUnique 82 = .ok (.getfield 356, 3) := by decide +kernel
theorem dX16_passUnique_85 : decode cX16_passUnique 85 = .ok (.getfield 239, 3) := by decide +kernel
theorem dX16_passUnique_88 : decode cX16_passUnique 88 = .ok (.iload_n 1, 1) := by decide +kernel
theorem dX16_passUnique_89 : decode cX16_passUnique 89 = .ok (.iaload, 1) := by decide +kernel
theorem dX16_passUnique_90 : decode cX16_passUnique 90 = .ok (.laload, 1) := by decide +kernel
theorem dX16_passUnique_91 : decode cX16_passUnique 91 = .ok (.lcmp, 1) := by decide +kernel
theorem dX16_passUnique_92 : decode cX16_passUnique 92 = .ok (.ifCond .ne 31, 3) := by decide +kernel
theorem dX16_passUnique_95 : decode cX16_passUnique 95 = .ok (.aload_n 0, 1) := by decide +kernel
theorem dX16_passUnique_96 : decode cX16_passUnique 96 = .ok (.getfield 864, 3) := by decide +kernel
theorem dX16_passUnique_99 : decode cX16_passUnique 99 = .ok (.iload 6, 2) := by decide +kernel
theorem dX16_passUnique_101 : decode cX16_passUnique 101 = .ok (.laload, 1) := by decide +kernel
theorem dX16_passUnique_102 : decode cX16_passUnique 102 = .ok (.aload_n 0, 1) := by decide +kernel
theorem dX16_passUnique_103 : decode cX16_passUnique 103 = .ok (.getfield 864, 3) := by decide +kernel
theorem dX16_passUnique_106 : decode cX16_passUnique 106 = .ok (.iload 8, 2) := by decide +kernel
theorem dX16_passUnique_108 : decode cX16_passUnique 108 = .ok (.laload, 1) := by decide +kernel
theorem dX16_passUnique_109 : decode cX16_passUnique 109 = .ok (.lsub, 1) := by decide +kernel
theorem dX16_passUnique_110 : decode cX16_passUnique 110 = .ok (.aload_n 0, 1) := by decide +kernel
theorem dX16_passUnique_111 : decode cX16_passUnique 111 = .ok (.getfield 356, 3) := by decide +kernel
theorem dX16_passUnique_114 : decode cX16_passUnique 114 = .ok (.getfield 191, 3) := by decide +kernel
theorem dX16_passUnique_117 : decode cX16_passUnique 117 = .ok (.iload_n 1, 1) := by decide +kernel
theorem dX16_passUnique_118 : decode cX16_passUnique 118 = .ok (.laload, 1) := by decide +kernel
theorem dX16_passUnique_119 : decode cX16_passUnique 119 = .ok (.lcmp, 1) := by decide +kernel
theorem dX16_passUnique_120 : decode cX16_passUnique 120 = .ok (.ifCond .lt 7, 3) := by decide +kernel
theorem dX16_passUnique_123 : decode cX16_passUnique 123 = .ok (.iconst 1, 1) := by decide +kernel
theorem dX16_passUnique_124 : decode cX16_passUnique 124 = .ok (.goto 4, 3) := by decide +kernel
theorem dX16_passUnique_127 : decode cX16_passUnique 127 = .ok (.iconst 0, 1) := by decide +kernel
theorem dX16_passUnique_128 : decode cX16_passUnique 128 = .ok (.istore 7, 2) := by decide +kernel
theorem dX16_passUnique_130 : decode cX16_passUnique 130 = .ok (.iinc 8 1, 3) := by decide +kernel
theorem dX16_passUnique_133 : decode cX16_passUnique 133 = .ok (.goto (-90), 3) := by decide +kernel
theorem dX16_passUnique_136 : decode cX16_passUnique 136 = .ok (.iload 7, 2) := by decide +kernel
theorem dX16_passUnique_138 : decode cX16_passUnique 138 = .ok (.ifCond .eq 19, 3) := by decide +kernel
theorem dX16_passUnique_141 : decode cX16_passUnique 141 = .ok (.aload_n 0, 1) := by decide +kernel
theorem dX16_passUnique_142 : decode cX16_passUnique 142 = .ok (.aload_n 0, 1) := by decide +kernel
theorem dX16_passUnique_143 : decode cX16_passUnique 143 = .ok (.getfield 864, 3) := by decide +kernel
theorem dX16_passUnique_146 : decode cX16_passUnique 146 = .ok (.iload 6, 2) := by decide +kernel
theorem dX16_passUnique_148 : decode cX16_passUnique 148 = .ok (.laload, 1) := by decide +kernel
theorem dX16_passUnique_149 : decode cX16_passUnique 149 = .ok (.aload_n 0, 1) := by decide +kernel
theorem dX16_passUnique_150 : decode cX16_passUnique 150 = .ok (.getfield 542, 3) := by decide +kernel
theorem dX16_passUnique_153 : decode cX16_passUnique 153 = .ok (.iconst 0, 1) := by decide +kernel
theorem dX16_passUnique_154 : decode cX16_passUnique 154 = .ok (.invokevirtual 870, 3) := by decide +kernel
theorem dX16_passUnique_157 : decode cX16_passUnique 157 = .ok (.iinc 5 1, 3) := by decide +kernel
theorem dX16_passUnique_160 : decode cX16_passUnique 160 = .ok (.goto (-145), 3) := by decide +kernel
theorem dX16_passUnique_163 : decode cX16_passUnique 163 = .ok (.return_, 1) := by decide +kernel
set_option maxRecDepth 20000 in
theorem a_X16_passUnique_163 {Q : Sg → Unit → Prop} {X : Sg → String → Prop} (K : MC R p s m args c cX16_passUnique 9 RX16 D cA tys A n0 s0 2 54 []) (hQ : HQV p l e R s m args below meth c cX16_passUnique D cA A n0 s0 QM dm ra jx rm Q) (hX : HX p l e R s m args below meth c 9 D cA A n0 s0 QM dm ra jx rm X) : ∀ (σ : Sg), w_X16_passUnique_163 ra jx rm Q X σ → RG σ → Shp dm ra jx rm σ → JJ p l e R s m args below meth c 9 D cA A n0 s0 QM σ 163 [(0, .ref rm)] [] := by
  intro σ h hGσ hS H locs ls hH hl hc
  have B := K.1
  unfold w_X16_passUnique_163 at h
  exact hQ _ _ _ _ _ dX16_passUnique_163 hH hc h hGσ hS
set_option maxRecDepth 20000 in
theorem a_X16_passUnique_157 {Q : Sg → Unit → Prop} {X : Sg → String → Prop} (K : MC R p s m args c cX16_passUnique 9 RX16 D cA tys A n0 s0 2 54 []) (hQ : HQV p l e R s m args below meth c cX16_passUnique D cA A n0 s0 QM dm ra jx rm Q) (hX : HX p l e R s m args below meth c 9 D cA A n0 s0 QM dm ra jx rm X) {K15 : Sg → Int → Int → Int → Int → Prop} (hK15 : ∀ (σ : Sg) (v1 : Int) (v3 : Int) (v4 : Int) (v5 : Int) (g1 : rng v1) (g3 : rng v3) (g4 : rng v4) (g5 : rng v5), K15 σ v1 v3 v4 v5 → RG σ → Shp dm ra jx rm σ → JJ p l e R s m args below meth c 9 D cA A n0 s0 QM σ 15 [(0, .ref rm), (1, .int (i32 v1)), (3, .int (i32 v3)), (4, .int (i32 v4)), (5, .int (i32 v5))] []) : ∀ (σ : Sg) (v1 : Int) (v3 : Int) (v4 : Int) (v5 : Int) (g1 : rng v1) (g3 : rng v3) (g4 : rng v4) (g5 : rng v5), w_X16_passUnique_157 ra jx rm K15 Q X σ v1 v3 v4 v5 → RG σ → Shp dm ra jx rm σ → JJ p l e R s m args below meth c 9 D cA A n0 s0 QM σ 157 [(0, .ref rm), (1, .int (i32 v1)), (3, .int (i32 v3)), (4, .int (i32 v4)), (5, .int (i32 v5))] [] := by
  intro σ v1 v3 v4 v5 g1 g3 g4 g5 h hGσ hS H locs ls hH hl hc
  have B := K.1
  unfold w_X16_passUnique_157 at h
  obtain ⟨q1, h⟩ := h
  refine lv_iinc (k := 4) (v := i32 (v5 + 1)) (lv' := [(5, .int (i32 (v5 + 1))), (0, .ref rm), (1, .int (i32 v1)), (3, .int (i32 v3)), (4, .int (i32 v4))]) B.1 B.2.1 dX16_passUnique_157 hl rfl (i32_add _ _) (by decide) rfl (fun ls hl => ?_)
  refine lv_goto (tgt := 15) B.1 B.2.1 dX16_passUnique_160 (by decide) ?_
  exact hK15 _ _ _ _ _ g1 g3 g4 q1 h hGσ hS _ _ _ hH (lv_sub (l' := [(0, .ref rm), (1, .int (i32 v1)), (3, .int (i32 v3)), (4, .int (i32 v4)), (5, .int (i32 (v5 + 1)))]) hl [1, 2, 3, 4, 0] rfl) hc
set_option maxRecDepth 20000 in
theorem a_X16_passUnique_141 {Q : Sg → Unit → Prop} {X : Sg → String → Prop} (K : MC R p s m args c cX16_passUnique 9 RX16 D cA tys A n0 s0 2 54 []) (hQ : HQV p l e R s m args below meth c cX16_passUnique D cA A n0 s0 QM dm ra jx rm Q) (hX : HX p l e R s m args below meth c 9 D cA A n0 s0 QM dm ra jx rm X) {K15 : Sg → Int → Int → Int → Int → Prop} (hK15 : ∀ (σ : Sg) (v1 : Int) (v3 : Int) (v4 : Int) (v5 : Int) (g1 : rng v1) (g3 : rng v3) (g4 : rng v4) (g5 : rng v5), K15 σ v1 v3 v4 v5 → RG σ → Shp dm ra jx rm σ → JJ p l e R s m args below meth c 9 D cA A n0 s0 QM σ 15 [(0, .ref rm), (1, .int (i32 v1)), (3, .int (i32 v3)), (4, .int (i32 v4)), (5, .int (i32 v5))] []) : ∀ (σ : Sg) (v1 : Int) (v3 : Int) (v4 : Int) (v5 : Int) (v6 : Int) (g1 : rng v1) (g3 : rng v3) (g4 : rng v4) (g5 : rng v5) (g6 : rng v6), w_X16_passUnique_141 ra jx rm K15 Q X σ v1 v3 v4 v5 v6 → RG σ → Shp dm ra jx rm σ → JJ p l e R s m args below meth c 9 D cA A n0 s0 QM σ 141 [(0, .ref rm), (1, .int (i32 v1)), (3, .int (i32 v3)), (4, .int (i32 v4)), (5, .int (i32 v5)), (6, .int (i32 v6))] [] := by
  intro σ v1 v3 v4 v5 v6 g1 g3 g4 g5 g6 h hGσ hS H locs ls hH hl hc
  have B := K.1
  unfold w_X16_passUnique_141 at h
  refine lv_aload_n B.1 B.2.1 dX16_passUnique_141 rfl (lv_at hl 0 rfl) ?_
  refine lv_aload_n B.1 B.2.1 dX16_passUnique_142 rfl (lv_at hl 0 rfl) ?_
  refine r_arr B hH hS 115 (kd := 101) (n := 4000) (by decide) (by decide) wf_X16_864 rfl rfl dX16_passUnique_143 ?_
  refine lv_iload B.1 B.2.1 dX16_passUnique_146 (lv_at hl 5 rfl) ?_
  obtain ⟨q1, h⟩ := h
  refine x_lald B K.2.1 hH (hS.ar (k := 115) (kd := 101) (n := 4000) (by decide)) (by decide) q1 dX16_passUnique_148 ?_
  refine lv_aload_n B.1 B.2.1 dX16_passUnique_149 rfl (lv_at hl 0 rfl) ?_
  refine r_arr B hH hS 81 (kd := 101) (n := 8) (by decide) (by decide) wf_X16_542 rfl rfl dX16_passUnique_150 ?_
  refine lv_iconst (v := i32 0) B.1 B.2.1 dX16_passUnique_153 (by decide) ?_
  refine c_V B hH hl hc K.2.2.1 (C := RX16) (T := TX16) (N := 123) (ci := 16) (As := [.long (gJ σ (ra 115) v6.toNat), va_rf (some (ra 81)), .int (i32 0)]) (ok_X16_pass K.2.1 σ (gJ σ (ra 115) v6.toNat) (some (ra 81)) 0 (by unfold rng; omega) hGσ hS h) wc_X16_870 3 hd_X16_pass ⟨Nat.le_trans (Nat.le_of_ble_eq_true rfl) K.2.2.2.1, Nat.le_trans (Nat.le_of_ble_eq_true rfl) K.2.2.2.2.1⟩ hS.1.1 hS.1.2 (by decide) rfl rfl (rest := []) rfl (Nat.le_of_ble_eq_true rfl) dX16_passUnique_154 (fun σ15 w hq => ?_) (fun σ9 E9 hx9 => hX σ9 E9 _ _ _ (tb_out K.2.2.2.2.2 rfl) hx9.1 hx9.2.1 hx9.2.2)
  obtain ⟨rfl, h, hGσ15, hS⟩ := hq
  intro H locs ls hH hl hc
  refine W.eq (g2 := F0 m 157 ls []) (rfl) ?_
  try dsimp only at h
  exact a_X16_passUnique_157 K hQ hX hK15 _ _ _ _ _ g1 g3 g4 g5 h hGσ15 hS _ _ _ hH (lv_sub (l' := [(0, .ref rm), (1, .int (i32 v1)), (3, .int (i32 v3)), (4, .int (i32 v4)), (5, .int (i32 v5))]) hl [0, 1, 2, 3, 4] rfl) hc
set_option maxRecDepth 20000 in
theorem a_X16_passUnique_136 {Q : Sg → Unit → Prop} {X : Sg → String → Prop} (K : MC R p s m args c cX16_passUnique 9 RX16 D cA tys A n0 s0 2 54 []) (hQ : HQV p l e R s m args below meth c cX16_passUnique D cA A n0 s0 QM dm ra jx rm Q) (hX : HX p l e R s m args below meth c 9 D cA A n0 s0 QM dm ra jx rm X) {K15 : Sg → Int → Int → Int → Int → Prop} (hK15 : ∀ (σ : Sg) (v1 : Int) (v3 : Int) (v4 : Int) (v5 : Int) (g1 : rng v1) (g3 : rng v3) (g4 : rng v4) (g5 : rng v5), K15 σ v1 v3 v4 v5 → RG σ → Shp dm ra jx rm σ → JJ p l e R s m args below meth c 9 D cA A n0 s0 QM σ 15 [(0, .ref rm), (1, .int (i32 v1)), (3, .int (i32 v3)), (4, .int (i32 v4)), (5, .int (i32 v5))] []) : ∀ (σ : Sg) (v1 : Int) (v3 : Int) (v4 : Int) (v5 : Int) (v6 : Int) (v7 : Int) (g1 : rng v1) (g3 : rng v3) (g4 : rng v4) (g5 : rng v5) (g6 : rng v6) (g7 : rng v7), w_X16_passUnique_136 ra jx rm K15 Q X σ v1 v3 v4 v5 v6 v7 → RG σ → Shp dm ra jx rm σ → JJ p l e R s m args below meth c 9 D cA A n0 s0 QM σ 136 [(0, .ref rm), (1, .int (i32 v1)), (3, .int (i32 v3)), (4, .int (i32 v4)), (5, .int (i32 v5)), (6, .int (i32 v6)), (7, .int (i32 v7))] [] := by
  intro σ v1 v3 v4 v5 v6 v7 g1 g3 g4 g5 g6 g7 h hGσ hS H locs ls hH hl hc
  have B := K.1
  unfold w_X16_passUnique_136 at h
  refine lv_iload B.1 B.2.1 dX16_passUnique_136 (lv_at hl 6 rfl) ?_
  refine lv_if_eq (tgt := 157) B.1 B.2.1 dX16_passUnique_138 (by decide) (fun h9 => ?_) (fun h9 => ?_)
  · rw [if_pos ((z_eq g7).mp h9)] at h
    exact a_X16_passUnique_157 K hQ hX hK15 _ _ _ _ _ g1 g3 g4 g5 h hGσ hS _ _ _ hH (lv_sub (l' := [(0, .ref rm), (1, .int (i32 v1)), (3, .int (i32 v3)), (4, .int (i32 v4)), (5, .int (i32 v5))]) hl [0, 1, 2, 3, 4] rfl) hc
  · rw [if_neg (fun q => h9 ((z_eq g7).mpr q))] at h
    exact a_X16_passUnique_141 K hQ hX hK15 _ _ _ _ _ _ g1 g3 g4 g5 g6 h hGσ hS _ _ _ hH (lv_sub (l' := [(0, .ref rm), (1, .int (i32 v1)), (3, .int (i32 v3)), (4, .int (i32 v4)), (5, .int (i32 v5)), (6, .int (i32 v6))]) hl [0, 1, 2, 3, 4, 5] rfl) hc
set_option maxRecDepth 20000 in
theorem a_X16_passUnique_128 {Q : Sg → Unit → Prop} {X : Sg → String → Prop} (K : MC R p s m args c cX16_passUnique 9 RX16 D cA tys A n0 s0 2 54 []) (hQ : HQV p l e R s m args below meth c cX16_passUnique D cA A n0 s0 QM dm ra jx rm Q) (hX : HX p l e R s m args below meth c 9 D cA A n0 s0 QM dm ra jx rm X) {K15 : Sg → Int → Int → Int → Int → Prop} (hK15 : ∀ (σ : Sg) (v1 : Int) (v3 : Int) (v4 : Int) (v5 : Int) (g1 : rng v1) (g3 : rng v3) (g4 : rng v4) (g5 : rng v5), K15 σ v1 v3 v4 v5 → RG σ → Shp dm ra jx rm σ → JJ p l e R s m args below meth c 9 D cA A n0 s0 QM σ 15 [(0, .ref rm), (1, .int (i32 v1)), (3, .int (i32 v3)), (4, .int (i32 v4)), (5, .int (i32 v5))] []) {K43 : Sg → Int → Int → Int → Int → Int → Int → Int → Prop} (hK43 : ∀ (σ : Sg) (v1 : Int) (v3 : Int) (v4 : Int) (v5 : Int) (v6 : Int) (v7 : Int) (v8 : Int) (g1 : rng v1) (g3 : rng v3) (g4 : rng v4) (g5 : rng v5) (g6 : rng v6) (g7 : rng v7) (g8 : rng v8), K43 σ v1 v3 v4 v5 v6 v7 v8 → RG σ → Shp dm ra jx rm σ → JJ p l e R s m args below meth c 9 D cA A n0 s0 QM σ 43 [(0, .ref rm), (1, .int (i32 v1)), (3, .int (i32 v3)), (4, .int (i32 v4)), (5, .int (i32 v5)), (6, .int (i32 v6)), (7, .int (i32 v7)), (8, .int (i32 v8))] []) : ∀ (σ : Sg) (v1 : Int) (v3 : Int) (v4 : Int) (v5 : Int) (v6 : Int) (v8 : Int) (u0 : Int) (g1 : rng v1) (g3 : rng v3) (g4 : rng v4) (g5 : rng v5) (g6 : rng v6) (g8 : rng v8) (gu0 : rng u0), w_X16_passUnique_128 ra jx rm K15 K43 Q X σ v1 v3 v4 v5 v6 v8 u0 → RG σ → Shp dm ra jx rm σ → JJ p l e R s m args below meth c 9 D cA A n0 s0 QM σ 128 [(0, .ref rm), (1, .int (i32 v1)), (3, .int (i32 v3)), (4, .int (i32 v4)), (5, .int (i32 v5)), (6, .int (i32 v6)), (8, .int (i32 v8))] [.int (i32 u0)] := by
  intro σ v1 v3 v4 v5 v6 v8 u0 g1 g3 g4 g5 g6 g8 gu0 h hGσ hS H locs ls hH hl hc
  have B := K.1
  unfold w_X16_passUnique_128 at h
  refine lv_istore (lv' := [(7, .int (i32 u0)), (0, .ref rm), (1, .int (i32 v1)), (3, .int (i32 v3)), (4, .int (i32 v4)), (5, .int (i32 v5)), (6, .int (i32 v6)), (8, .int (i32 v8))]) B.1 B.2.1 dX16_passUnique_128 hl (by decide) rfl (fun ls hl => ?_)
  obtain ⟨q1, h⟩ := h
  refine lv_iinc (k := 7) (v := i32 (v8 + 1)) (lv' := [(8, .int (i32 (v8 + 1))), (7, .int (i32 u0)), (0, .ref rm), (1, .int (i32 v1)), (3, .int (i32 v3)), (4, .int (i32 v4)), (5, .int (i32 v5)), (6, .int (i32 v6))]) B.1 B.2.1 dX16_passUnique_130 hl rfl (i32_add _ _) (by decide) rfl (fun ls hl => ?_)
  refine lv_goto (tgt := 43) B.1 B.2.1 dX16_passUnique_133 (by decide) ?_
  exact hK43 _ _ _ _ _ _ _ _ g1 g3 g4 g5 g6 gu0 q1 h hGσ hS _ _ _ hH (lv_sub (l' := [(0, .ref rm), (1, .int (i32 v1)), (3, .int (i32 v3)), (4, .int (i32 v4)), (5, .int (i32 v5)), (6, .int (i32 v6)), (7, .int (i32 u0)), (8, .int (i32 (v8 + 1)))]) hl [2, 3, 4, 5, 6, 7, 1, 0] rfl) hc
set_option maxRecDepth 20000 in
theorem a_X16_passUnique_127 {Q : Sg → Unit → Prop} {X : Sg → String → Prop} (K : MC R p s m args c cX16_passUnique 9 RX16 D cA tys A n0 s0 2 54 []) (hQ : HQV p l e R s m args below meth c cX16_passUnique D cA A n0 s0 QM dm ra jx rm Q) (hX : HX p l e R s m args below meth c 9 D cA A n0 s0 QM dm ra jx rm X) {K15 : Sg → Int → Int → Int → Int → Prop} (hK15 : ∀ (σ : Sg) (v1 : Int) (v3 : Int) (v4 : Int) (v5 : Int) (g1 : rng v1) (g3 : rng v3) (g4 : rng v4) (g5 : rng v5), K15 σ v1 v3 v4 v5 → RG σ → Shp dm ra jx rm σ → JJ p l e R s m args below meth c 9 D cA A n0 s0 QM σ 15 [(0, .ref rm), (1, .int (i32 v1)), (3, .int (i32 v3)), (4, .int (i32 v4)), (5, .int (i32 v5))] []) {K43 : Sg → Int → Int → Int → Int → Int → Int → Int → Prop} (hK43 : ∀ (σ : Sg) (v1 : Int) (v3 : Int) (v4 : Int) (v5 : Int) (v6 : Int) (v7 : Int) (v8 : Int) (g1 : rng v1) (g3 : rng v3) (g4 : rng v4) (g5 : rng v5) (g6 : rng v6) (g7 : rng v7) (g8 : rng v8), K43 σ v1 v3 v4 v5 v6 v7 v8 → RG σ → Shp dm ra jx rm σ → JJ p l e R s m args below meth c 9 D cA A n0 s0 QM σ 43 [(0, .ref rm), (1, .int (i32 v1)), (3, .int (i32 v3)), (4, .int (i32 v4)), (5, .int (i32 v5)), (6, .int (i32 v6)), (7, .int (i32 v7)), (8, .int (i32 v8))] []) : ∀ (σ : Sg) (v1 : Int) (v3 : Int) (v4 : Int) (v5 : Int) (v6 : Int) (v8 : Int) (g1 : rng v1) (g3 : rng v3) (g4 : rng v4) (g5 : rng v5) (g6 : rng v6) (g8 : rng v8), w_X16_passUnique_127 ra jx rm K15 K43 Q X σ v1 v3 v4 v5 v6 v8 → RG σ → Shp dm ra jx rm σ → JJ p l e R s m args below meth c 9 D cA A n0 s0 QM σ 127 [(0, .ref rm), (1, .int (i32 v1)), (3, .int (i32 v3)), (4, .int (i32 v4)), (5, .int (i32 v5)), (6, .int (i32 v6)), (8, .int (i32 v8))] [] := by
  intro σ v1 v3 v4 v5 v6 v8 g1 g3 g4 g5 g6 g8 h hGσ hS H locs ls hH hl hc
  have B := K.1
  unfold w_X16_passUnique_127 at h
  refine lv_iconst (v := i32 0) B.1 B.2.1 dX16_passUnique_127 (by decide) ?_
  exact a_X16_passUnique_128 K hQ hX hK15 hK43 _ _ _ _ _ _ _ _ g1 g3 g4 g5 g6 g8 (by unfold rng; omega) h hGσ hS _ _ _ hH (lv_sub (l' := [(0, .ref rm), (1, .int (i32 v1)), (3, .int (i32 v3)), (4, .int (i32 v4)), (5, .int (i32 v5)), (6, .int (i32 v6)), (8, .int (i32 v8))]) hl [0, 1, 2, 3, 4, 5, 6] rfl) hc
set_option maxRecDepth 20000 in
theorem a_X16_passUnique_123 {Q : Sg → Unit → Prop} {X : Sg → String → Prop} (K : MC R p s m args c cX16_passUnique 9 RX16 D cA tys A n0 s0 2 54 []) (hQ : HQV p l e R s m args below meth c cX16_passUnique D cA A n0 s0 QM dm ra jx rm Q) (hX : HX p l e R s m args below meth c 9 D cA A n0 s0 QM dm ra jx rm X) {K15 : Sg → Int → Int → Int → Int → Prop} (hK15 : ∀ (σ : Sg) (v1 : Int) (v3 : Int) (v4 : Int) (v5 : Int) (g1 : rng v1) (g3 : rng v3) (g4 : rng v4) (g5 : rng v5), K15 σ v1 v3 v4 v5 → RG σ → Shp dm ra jx rm σ → JJ p l e R s m args below meth c 9 D cA A n0 s0 QM σ 15 [(0, .ref rm), (1, .int (i32 v1)), (3, .int (i32 v3)), (4, .int (i32 v4)), (5, .int (i32 v5))] []) {K43 : Sg → Int → Int → Int → Int → Int → Int → Int → Prop} (hK43 : ∀ (σ : Sg) (v1 : Int) (v3 : Int) (v4 : Int) (v5 : Int) (v6 : Int) (v7 : Int) (v8 : Int) (g1 : rng v1) (g3 : rng v3) (g4 : rng v4) (g5 : rng v5) (g6 : rng v6) (g7 : rng v7) (g8 : rng v8), K43 σ v1 v3 v4 v5 v6 v7 v8 → RG σ → Shp dm ra jx rm σ → JJ p l e R s m args below meth c 9 D cA A n0 s0 QM σ 43 [(0, .ref rm), (1, .int (i32 v1)), (3, .int (i32 v3)), (4, .int (i32 v4)), (5, .int (i32 v5)), (6, .int (i32 v6)), (7, .int (i32 v7)), (8, .int (i32 v8))] []) : ∀ (σ : Sg) (v1 : Int) (v3 : Int) (v4 : Int) (v5 : Int) (v6 : Int) (v8 : Int) (g1 : rng v1) (g3 : rng v3) (g4 : rng v4) (g5 : rng v5) (g6 : rng v6) (g8 : rng v8), w_X16_passUnique_123 ra jx rm K15 K43 Q X σ v1 v3 v4 v5 v6 v8 → RG σ → Shp dm ra jx rm σ → JJ p l e R s m args below meth c 9 D cA A n0 s0 QM σ 123 [(0, .ref rm), (1, .int (i32 v1)), (3, .int (i32 v3)), (4, .int (i32 v4)), (5, .int (i32 v5)), (6, .int (i32 v6)), (8, .int (i32 v8))] [] := by
  intro σ v1 v3 v4 v5 v6 v8 g1 g3 g4 g5 g6 g8 h hGσ hS H locs ls hH hl hc
  have B := K.1
  unfold w_X16_passUnique_123 at h
  refine lv_iconst (v := i32 1) B.1 B.2.1 dX16_passUnique_123 (by decide) ?_
  refine lv_goto (tgt := 128) B.1 B.2.1 dX16_passUnique_124 (by decide) ?_
  exact a_X16_passUnique_128 K hQ hX hK15 hK43 _ _ _ _ _ _ _ _ g1 g3 g4 g5 g6 g8 (by unfold rng; omega) h hGσ hS _ _ _ hH (lv_sub (l' := [(0, .ref rm), (1, .int (i32 v1)), (3, .int (i32 v3)), (4, .int (i32 v4)), (5, .int (i32 v5)), (6, .int (i32 v6)), (8, .int (i32 v8))]) hl [0, 1, 2, 3, 4, 5, 6] rfl) hc
set_option maxRecDepth 20000 in
theorem a_X16_passUnique_95 {Q : Sg → Unit → Prop} {X : Sg → String → Prop} (K : MC R p s m args c cX16_passUnique 9 RX16 D cA tys A n0 s0 2 54 []) (hQ : HQV p l e R s m args below meth c cX16_passUnique D cA A n0 s0 QM dm ra jx rm Q) (hX : HX p l e R s m args below meth c 9 D cA A n0 s0 QM dm ra jx rm X) {K15 : Sg → Int → Int → Int → Int → Prop} (hK15 : ∀ (σ : Sg) (v1 : Int) (v3 : Int) (v4 : Int) (v5 : Int) (g1 : rng v1) (g3 : rng v3) (g4 : rng v4) (g5 : rng v5), K15 σ v1 v3 v4 v5 → RG σ → Shp dm ra jx rm σ → JJ p l e R s m args below meth c 9 D cA A n0 s0 QM σ 15 [(0, .ref rm), (1, .int (i32 v1)), (3, .int (i32 v3)), (4, .int (i32 v4)), (5, .int (i32 v5))] []) {K43 : Sg → Int → Int → Int → Int → Int → Int → Int → Prop} (hK43 : ∀ (σ : Sg) (v1 : Int) (v3 : Int) (v4 : Int) (v5 : Int) (v6 : Int) (v7 : Int) (v8 : Int) (g1 : rng v1) (g3 : rng v3) (g4 : rng v4) (g5 : rng v5) (g6 : rng v6) (g7 : rng v7) (g8 : rng v8), K43 σ v1 v3 v4 v5 v6 v7 v8 → RG σ → Shp dm ra jx rm σ → JJ p l e R s m args below meth c 9 D cA A n0 s0 QM σ 43 [(0, .ref rm), (1, .int (i32 v1)), (3, .int (i32 v3)), (4, .int (i32 v4)), (5, .int (i32 v5)), (6, .int (i32 v6)), (7, .int (i32 v7)), (8, .int (i32 v8))] []) : ∀ (σ : Sg) (v1 : Int) (v3 : Int) (v4 : Int) (v5 : Int) (v6 : Int) (v8 : Int) (g1 : rng v1) (g3 : rng v3) (g4 : rng v4) (g5 : rng v5) (g6 : rng v6) (g8 : rng v8), w_X16_passUnique_95 ra jx rm K15 K43 Q X σ v1 v3 v4 v5 v6 v8 → RG σ → Shp dm ra jx rm σ → JJ p l e R s m args below meth c 9 D cA A n0 s0 QM σ 95 [(0, .ref rm), (1, .int (i32 v1)), (3, .int (i32 v3)), (4, .int (i32 v4)), (5, .int (i32 v5)), (6, .int (i32 v6)), (8, .int (i32 v8))] [] := by
  intro σ v1 v3 v4 v5 v6 v8 g1 g3 g4 g5 g6 g8 h hGσ hS H locs ls hH hl hc
  have B := K.1
  unfold w_X16_passUnique_95 at h
  refine lv_aload_n B.1 B.2.1 dX16_passUnique_95 rfl (lv_at hl 0 rfl) ?_
  refine r_arr B hH hS 115 (kd := 101) (n := 4000) (by decide) (by decide) wf_X16_864 rfl rfl dX16_passUnique_96 ?_
  refine lv_iload B.1 B.2.1 dX16_passUnique_99 (lv_at hl 5 rfl) ?_
  obtain ⟨q1, h⟩ := h
  refine x_lald B K.2.1 hH (hS.ar (k := 115) (kd := 101) (n := 4000) (by decide)) (by decide) q1 dX16_passUnique_101 ?_
  refine lv_aload_n B.1 B.2.1 dX16_passUnique_102 rfl (lv_at hl 0 rfl) ?_
  refine r_arr B hH hS 115 (kd := 101) (n := 4000) (by decide) (by decide) wf_X16_864 rfl rfl dX16_passUnique_103 ?_
  refine lv_iload B.1 B.2.1 dX16_passUnique_106 (lv_at hl 6 rfl) ?_
  obtain ⟨q2, h⟩ := h
  refine x_lald B K.2.1 hH (hS.ar (k := 115) (kd := 101) (n := 4000) (by decide)) (by decide) q2 dX16_passUnique_108 ?_
  refine lv_lsub B.1 B.2.1 dX16_passUnique_109 ?_
  refine lv_aload_n B.1 B.2.1 dX16_passUnique_110 rfl (lv_at hl 0 rfl) ?_
  refine r_getp B hH hS 17 (by decide) wf_X16_356 rfl rfl dX16_passUnique_111 ?_
  obtain ⟨a16, ea16, ja16, h⟩ := h
  refine W.eq (g2 := F0 m 114 ls [.ref a16, .long ((gJ σ (ra 115) v6.toNat) - (gJ σ (ra 115) v8.toNat))]) (by rw [ea16]; rfl) ?_
  refine n_arr B hH hS ja16 8 (kd := 101) (n := 16) (by decide) (by decide) (List.mem_of_getElem? (i := 8) rfl) rfl dX16_passUnique_114 ?_
  refine lv_iload_n B.1 B.2.1 dX16_passUnique_117 rfl (lv_at hl 1 rfl) ?_
  obtain ⟨q4, h⟩ := h
  refine x_lald B K.2.1 hH (hS.ja ja16 (k := 8) (kd := 101) (n := 16) (by decide)) (by decide) q4 dX16_passUnique_118 ?_
  refine W.lcmp B.1 B.2.1 dX16_passUnique_119 ?_
  refine lv_if_lt (tgt := 127) B.1 B.2.1 dX16_passUnique_120 (by decide) (fun h9 => ?_) (fun h9 => ?_)
  · rw [if_pos ((lg_cmp_lt _ _).mp h9)] at h
    exact a_X16_passUnique_127 K hQ hX hK15 hK43 _ _ _ _ _ _ _ g1 g3 g4 g5 g6 g8 h hGσ hS _ _ _ hH (lv_sub (l' := [(0, .ref rm), (1, .int (i32 v1)), (3, .int (i32 v3)), (4, .int (i32 v4)), (5, .int (i32 v5)), (6, .int (i32 v6)), (8, .int (i32 v8))]) hl [0, 1, 2, 3, 4, 5, 6] rfl) hc
  · rw [if_neg (fun q => h9 ((lg_cmp_lt _ _).mpr q))] at h
    exact a_X16_passUnique_123 K hQ hX hK15 hK43 _ _ _ _ _ _ _ g1 g3 g4 g5 g6 g8 h hGσ hS _ _ _ hH (lv_sub (l' := [(0, .ref rm), (1, .int (i32 v1)), (3, .int (i32 v3)), (4, .int (i32 v4)), (5, .int (i32 v5)), (6, .int (i32 v6)), (8, .int (i32 v8))]) hl [0, 1, 2, 3, 4, 5, 6] rfl) hc
set_option maxRecDepth 20000 in
theorem a_X16_passUnique_57 {Q : Sg → Unit → Prop} {X : Sg → String → Prop} (K : MC R p s m args c cX16_passUnique 9 RX16 D cA tys A n0 s0 2 54 []) (hQ : HQV p l e R s m args below meth c cX16_passUnique D cA A n0 s0 QM dm ra jx rm Q) (hX : HX p l e R s m args below meth c 9 D cA A n0 s0 QM dm ra jx rm X) {K15 : Sg → Int → Int → Int → Int → Prop} (hK15 : ∀ (σ : Sg) (v1 : Int) (v3 : Int) (v4 : Int) (v5 : Int) (g1 : rng v1) (g3 : rng v3) (g4 : rng v4) (g5 : rng v5), K15 σ v1 v3 v4 v5 → RG σ → Shp dm ra jx rm σ → JJ p l e R s m args below meth c 9 D cA A n0 s0 QM σ 15 [(0, .ref rm), (1, .int (i32 v1)), (3, .int (i32 v3)), (4, .int (i32 v4)), (5, .int (i32 v5))] []) {K43 : Sg → Int → Int → Int → Int → Int → Int → Int → Prop} (hK43 : ∀ (σ : Sg) (v1 : Int) (v3 : Int) (v4 : Int) (v5 : Int) (v6 : Int) (v7 : Int) (v8 : Int) (g1 : rng v1) (g3 : rng v3) (g4 : rng v4) (g5 : rng v5) (g6 : rng v6) (g7 : rng v7) (g8 : rng v8), K43 σ v1 v3 v4 v5 v6 v7 v8 → RG σ → Shp dm ra jx rm σ → JJ p l e R s m args below meth c 9 D cA A n0 s0 QM σ 43 [(0, .ref rm), (1, .int (i32 v1)), (3, .int (i32 v3)), (4, .int (i32 v4)), (5, .int (i32 v5)), (6, .int (i32 v6)), (7, .int (i32 v7)), (8, .int (i32 v8))] []) : ∀ (σ : Sg) (v1 : Int) (v3 : Int) (v4 : Int) (v5 : Int) (v6 : Int) (v8 : Int) (g1 : rng v1) (g3 : rng v3) (g4 : rng v4) (g5 : rng v5) (g6 : rng v6) (g8 : rng v8), w_X16_passUnique_57 ra jx rm K15 K43 Q X σ v1 v3 v4 v5 v6 v8 → RG σ → Shp dm ra jx rm σ → JJ p l e R s m args below meth c 9 D cA A n0 s0 QM σ 57 [(0, .ref rm), (1, .int (i32 v1)), (3, .int (i32 v3)), (4, .int (i32 v4)), (5, .int (i32 v5)), (6, .int (i32 v6)), (8, .int (i32 v8))] [] := by
  intro σ v1 v3 v4 v5 v6 v8 g1 g3 g4 g5 g6 g8 h hGσ hS H locs ls hH hl hc
  have B := K.1
  unfold w_X16_passUnique_57 at h
  refine lv_aload_n B.1 B.2.1 dX16_passUnique_57 rfl (lv_at hl 0 rfl) ?_
  refine r_arr B hH hS 116 (kd := 101) (n := 32000) (by decide) (by decide) wf_X16_867 rfl rfl dX16_passUnique_58 ?_
  refine lv_bipush (v := i32 8) B.1 B.2.1 dX16_passUnique_61 (by decide) ?_
  refine lv_iload B.1 B.2.1 dX16_passUnique_63 (lv_at hl 6 rfl) ?_
  obtain ⟨q1, h⟩ := h
  refine lv_imul B.1 B.2.1 dX16_passUnique_65 ?_
  rw [i32_mul]
  refine lv_aload_n B.1 B.2.1 dX16_passUnique_66 rfl (lv_at hl 0 rfl) ?_
  refine r_getp B hH hS 17 (by decide) wf_X16_356 rfl rfl dX16_passUnique_67 ?_
  obtain ⟨a17, ea17, ja17, h⟩ := h
  refine W.eq (g2 := F0 m 70 ls [.ref a17, .int (i32 (8 * v8)), .ref (ra 116)]) (by rw [ea17]; rfl) ?_
  refine n_arr B hH hS ja17 10 (kd := 100) (n := 16) (by decide) (by decide) (List.mem_of_getElem? (i := 10) rfl) rfl dX16_passUnique_70 ?_
  refine lv_iload_n B.1 B.2.1 dX16_passUnique_73 rfl (lv_at hl 1 rfl) ?_
  obtain ⟨q3, h⟩ := h
  refine x_iald B K.2.1 hH (hS.ja ja17 (k := 10) (kd := 100) (n := 16) (by decide)) (by decide) q3 dX16_passUnique_74 ?_
  obtain ⟨q4, h⟩ := h
  refine lv_iadd B.1 B.2.1 dX16_passUnique_75 ?_
  rw [i32_add]
  obtain ⟨q5, h⟩ := h
  refine x_lald B K.2.1 hH (hS.ar (k := 116) (kd := 101) (n := 32000) (by decide)) (by decide) q5 dX16_passUnique_76 ?_
  refine lv_aload_n B.1 B.2.1 dX16_passUnique_77 rfl (lv_at hl 0 rfl) ?_
  refine r_arr B hH hS 81 (kd := 101) (n := 8) (by decide) (by decide) wf_X16_542 rfl rfl dX16_passUnique_78 ?_
  refine lv_aload_n B.1 B.2.1 dX16_passUnique_81 rfl (lv_at hl 0 rfl) ?_
  refine r_getp B hH hS 17 (by decide) wf_X16_356 rfl rfl dX16_passUnique_82 ?_
  obtain ⟨a18, ea18, ja18, h⟩ := h
  refine W.eq (g2 := F0 m 85 ls [.ref a18, .ref (ra 81), .long (gJ σ (ra 116) ((8 * v8) + (gI σ (jx a17 10) v1.toNat)).toNat)]) (by rw [ea18]; rfl) ?_
  refine n_arr B hH hS ja18 10 (kd := 100) (n := 16) (by decide) (by decide) (List.mem_of_getElem? (i := 10) rfl) rfl dX16_passUnique_85 ?_
  refine lv_iload_n B.1 B.2.1 dX16_passUnique_88 rfl (lv_at hl 1 rfl) ?_
  obtain ⟨q7, h⟩ := h
  refine x_iald B K.2.1 hH (hS.ja ja18 (k := 10) (kd := 100) (n := 16) (by decide)) (by decide) q7 dX16_passUnique_89 ?_
  obtain ⟨q8, h⟩ := h
  refine x_lald B K.2.1 hH (hS.ar (k := 81) (kd := 101) (n := 8) (by decide)) (by decide) q8 dX16_passUnique_90 ?_
  refine W.lcmp B.1 B.2.1 dX16_passUnique_91 ?_
  refine lv_if_ne (tgt := 123) B.1 B.2.1 dX16_passUnique_92 (by decide) (fun h9 => ?_) (fun h9 => ?_)
  · rw [if_pos (fun q => h9 ((lg_cmp_eq _ _).mpr q))] at h
    exact a_X16_passUnique_123 K hQ hX hK15 hK43 _ _ _ _ _ _ _ g1 g3 g4 g5 g6 g8 h hGσ hS _ _ _ hH (lv_sub (l' := [(0, .ref rm), (1, .int (i32 v1)), (3, .int (i32 v3)), (4, .int (i32 v4)), (5, .int (i32 v5)), (6, .int (i32 v6)), (8, .int (i32 v8))]) hl [0, 1, 2, 3, 4, 5, 6] rfl) hc
  · rw [if_neg (fun q => q ((lg_cmp_eq _ _).mp h9))] at h
    exact a_X16_passUnique_95 K hQ hX hK15 hK43 _ _ _ _ _ _ _ g1 g3 g4 g5 g6 g8 h hGσ hS _ _ _ hH (lv_sub (l' := [(0, .ref rm), (1, .int (i32 v1)), (3, .int (i32 v3)), (4, .int (i32 v4)), (5, .int (i32 v5)), (6, .int (i32 v6)), (8, .int (i32 v8))]) hl [0, 1, 2, 3, 4, 5, 6] rfl) hc
set_option maxRecDepth 20000 in
theorem a_X16_passUnique_52 {Q : Sg → Unit → Prop} {X : Sg → String → Prop} (K : MC R p s m args c cX16_passUnique 9 RX16 D cA tys A n0 s0 2 54 []) (hQ : HQV p l e R s m args below meth c cX16_passUnique D cA A n0 s0 QM dm ra jx rm Q) (hX : HX p l e R s m args below meth c 9 D cA A n0 s0 QM dm ra jx rm X) {K15 : Sg → Int → Int → Int → Int → Prop} (hK15 : ∀ (σ : Sg) (v1 : Int) (v3 : Int) (v4 : Int) (v5 : Int) (g1 : rng v1) (g3 : rng v3) (g4 : rng v4) (g5 : rng v5), K15 σ v1 v3 v4 v5 → RG σ → Shp dm ra jx rm σ → JJ p l e R s m args below meth c 9 D cA A n0 s0 QM σ 15 [(0, .ref rm), (1, .int (i32 v1)), (3, .int (i32 v3)), (4, .int (i32 v4)), (5, .int (i32 v5))] []) {K43 : Sg → Int → Int → Int → Int → Int → Int → Int → Prop} (hK43 : ∀ (σ : Sg) (v1 : Int) (v3 : Int) (v4 : Int) (v5 : Int) (v6 : Int) (v7 : Int) (v8 : Int) (g1 : rng v1) (g3 : rng v3) (g4 : rng v4) (g5 : rng v5) (g6 : rng v6) (g7 : rng v7) (g8 : rng v8), K43 σ v1 v3 v4 v5 v6 v7 v8 → RG σ → Shp dm ra jx rm σ → JJ p l e R s m args below meth c 9 D cA A n0 s0 QM σ 43 [(0, .ref rm), (1, .int (i32 v1)), (3, .int (i32 v3)), (4, .int (i32 v4)), (5, .int (i32 v5)), (6, .int (i32 v6)), (7, .int (i32 v7)), (8, .int (i32 v8))] []) : ∀ (σ : Sg) (v1 : Int) (v3 : Int) (v4 : Int) (v5 : Int) (v6 : Int) (v7 : Int) (v8 : Int) (g1 : rng v1) (g3 : rng v3) (g4 : rng v4) (g5 : rng v5) (g6 : rng v6) (g7 : rng v7) (g8 : rng v8), w_X16_passUnique_52 ra jx rm K15 K43 Q X σ v1 v3 v4 v5 v6 v7 v8 → RG σ → Shp dm ra jx rm σ → JJ p l e R s m args below meth c 9 D cA A n0 s0 QM σ 52 [(0, .ref rm), (1, .int (i32 v1)), (3, .int (i32 v3)), (4, .int (i32 v4)), (5, .int (i32 v5)), (6, .int (i32 v6)), (7, .int (i32 v7)), (8, .int (i32 v8))] [] := by
  intro σ v1 v3 v4 v5 v6 v7 v8 g1 g3 g4 g5 g6 g7 g8 h hGσ hS H locs ls hH hl hc
  have B := K.1
  unfold w_X16_passUnique_52 at h
  refine lv_iload B.1 B.2.1 dX16_passUnique_52 (lv_at hl 6 rfl) ?_
  refine lv_if_eq (tgt := 127) B.1 B.2.1 dX16_passUnique_54 (by decide) (fun h9 => ?_) (fun h9 => ?_)
  · rw [if_pos ((z_eq g7).mp h9)] at h
    exact a_X16_passUnique_127 K hQ hX hK15 hK43 _ _ _ _ _ _ _ g1 g3 g4 g5 g6 g8 h hGσ hS _ _ _ hH (lv_sub (l' := [(0, .ref rm), (1, .int (i32 v1)), (3, .int (i32 v3)), (4, .int (i32 v4)), (5, .int (i32 v5)), (6, .int (i32 v6)), (8, .int (i32 v8))]) hl [0, 1, 2, 3, 4, 5, 7] rfl) hc
  · rw [if_neg (fun q => h9 ((z_eq g7).mpr q))] at h
    exact a_X16_passUnique_57 K hQ hX hK15 hK43 _ _ _ _ _ _ _ g1 g3 g4 g5 g6 g8 h hGσ hS _ _ _ hH (lv_sub (l' := [(0, .ref rm), (1, .int (i32 v1)), (3, .int (i32 v3)), (4, .int (i32 v4)), (5, .int (i32 v5)), (6, .int (i32 v6)), (8, .int (i32 v8))]) hl [0, 1, 2, 3, 4, 5, 7] rfl) hc
set_option maxRecDepth 20000 in
theorem a_X16_passUnique_43 {Q : Sg → Unit → Prop} {X : Sg → String → Prop} (K : MC R p s m args c cX16_passUnique 9 RX16 D cA tys A n0 s0 2 54 []) (hQ : HQV p l e R s m args below meth c cX16_passUnique D cA A n0 s0 QM dm ra jx rm Q) (hX : HX p l e R s m args below meth c 9 D cA A n0 s0 QM dm ra jx rm X) {K15 : Sg → Int → Int → Int → Int → Prop} (hK15 : ∀ (σ : Sg) (v1 : Int) (v3 : Int) (v4 : Int) (v5 : Int) (g1 : rng v1) (g3 : rng v3) (g4 : rng v4) (g5 : rng v5), K15 σ v1 v3 v4 v5 → RG σ → Shp dm ra jx rm σ → JJ p l e R s m args below meth c 9 D cA A n0 s0 QM σ 15 [(0, .ref rm), (1, .int (i32 v1)), (3, .int (i32 v3)), (4, .int (i32 v4)), (5, .int (i32 v5))] []) {K43 : Sg → Int → Int → Int → Int → Int → Int → Int → Prop} (hK43 : ∀ (σ : Sg) (v1 : Int) (v3 : Int) (v4 : Int) (v5 : Int) (v6 : Int) (v7 : Int) (v8 : Int) (g1 : rng v1) (g3 : rng v3) (g4 : rng v4) (g5 : rng v5) (g6 : rng v6) (g7 : rng v7) (g8 : rng v8), K43 σ v1 v3 v4 v5 v6 v7 v8 → RG σ → Shp dm ra jx rm σ → JJ p l e R s m args below meth c 9 D cA A n0 s0 QM σ 43 [(0, .ref rm), (1, .int (i32 v1)), (3, .int (i32 v3)), (4, .int (i32 v4)), (5, .int (i32 v5)), (6, .int (i32 v6)), (7, .int (i32 v7)), (8, .int (i32 v8))] []) : ∀ (σ : Sg) (v1 : Int) (v3 : Int) (v4 : Int) (v5 : Int) (v6 : Int) (v7 : Int) (v8 : Int) (g1 : rng v1) (g3 : rng v3) (g4 : rng v4) (g5 : rng v5) (g6 : rng v6) (g7 : rng v7) (g8 : rng v8), w_X16_passUnique_43 ra jx rm K15 K43 Q X σ v1 v3 v4 v5 v6 v7 v8 → RG σ → Shp dm ra jx rm σ → JJ p l e R s m args below meth c 9 D cA A n0 s0 QM σ 43 [(0, .ref rm), (1, .int (i32 v1)), (3, .int (i32 v3)), (4, .int (i32 v4)), (5, .int (i32 v5)), (6, .int (i32 v6)), (7, .int (i32 v7)), (8, .int (i32 v8))] [] := by
  intro σ v1 v3 v4 v5 v6 v7 v8 g1 g3 g4 g5 g6 g7 g8 h hGσ hS H locs ls hH hl hc
  have B := K.1
  unfold w_X16_passUnique_43 at h
  refine lv_iload B.1 B.2.1 dX16_passUnique_43 (lv_at hl 7 rfl) ?_
  refine lv_aload_n B.1 B.2.1 dX16_passUnique_45 rfl (lv_at hl 0 rfl) ?_
  refine r_geti B hH hS 117 (by decide) wf_X16_861 rfl rfl dX16_passUnique_46 ?_
  refine lv_icmp_ge (tgt := 136) B.1 B.2.1 dX16_passUnique_49 (by decide) (fun h9 => ?_) (fun h9 => ?_)
  · rw [if_pos ((i32_le (hGσ _ _) g8).mp h9)] at h
    exact a_X16_passUnique_136 K hQ hX hK15 _ _ _ _ _ _ _ g1 g3 g4 g5 g6 g7 h hGσ hS _ _ _ hH (lv_sub (l' := [(0, .ref rm), (1, .int (i32 v1)), (3, .int (i32 v3)), (4, .int (i32 v4)), (5, .int (i32 v5)), (6, .int (i32 v6)), (7, .int (i32 v7))]) hl [0, 1, 2, 3, 4, 5, 6] rfl) hc
  · rw [if_neg (fun q => h9 ((i32_le (hGσ _ _) g8).mpr q))] at h
    exact a_X16_passUnique_52 K hQ hX hK15 hK43 _ _ _ _ _ _ _ _ g1 g3 g4 g5 g6 g7 g8 h hGσ hS _ _ _ hH (lv_sub (l' := [(0, .ref rm), (1, .int (i32 v1)), (3, .int (i32 v3)), (4, .int (i32 v4)), (5, .int (i32 v5)), (6, .int (i32 v6)), (7, .int (i32 v7)), (8, .int (i32 v8))]) hl [0, 1, 2, 3, 4, 5, 6, 7] rfl) hc
theorem al_X16_passUnique_43 {Q : Sg → Unit → Prop} {X : Sg → String → Prop} (K : MC R p s m args c cX16_passUnique 9 RX16 D cA tys A n0 s0 2 54 []) (hQ : HQV p l e R s m args below meth c cX16_passUnique D cA A n0 s0 QM dm ra jx rm Q) (hX : HX p l e R s m args below meth c 9 D cA A n0 s0 QM dm ra jx rm X) {K15 : Sg → Int → Int → Int → Int → Prop} (hK15 : ∀ (σ : Sg) (v1 : Int) (v3 : Int) (v4 : Int) (v5 : Int) (g1 : rng v1) (g3 : rng v3) (g4 : rng v4) (g5 : rng v5), K15 σ v1 v3 v4 v5 → RG σ → Shp dm ra jx rm σ → JJ p l e R s m args below meth c 9 D cA A n0 s0 QM σ 15 [(0, .ref rm), (1, .int (i32 v1)), (3, .int (i32 v3)), (4, .int (i32 v4)), (5, .int (i32 v5))] []) : ∀ (n : Nat), ∀ (σ : Sg) (v1 : Int) (v3 : Int) (v4 : Int) (v5 : Int) (v6 : Int) (v7 : Int) (v8 : Int) (g1 : rng v1) (g3 : rng v3) (g4 : rng v4) (g5 : rng v5) (g6 : rng v6) (g7 : rng v7) (g8 : rng v8), wl_X16_passUnique_43 ra jx rm K15 Q X n σ v1 v3 v4 v5 v6 v7 v8 → RG σ → Shp dm ra jx rm σ → JJ p l e R s m args below meth c 9 D cA A n0 s0 QM σ 43 [(0, .ref rm), (1, .int (i32 v1)), (3, .int (i32 v3)), (4, .int (i32 v4)), (5, .int (i32 v5)), (6, .int (i32 v6)), (7, .int (i32 v7)), (8, .int (i32 v8))] [] := by
  intro n
  induction n with
  | zero => intro σ v1 v3 v4 v5 v6 v7 v8 g1 g3 g4 g5 g6 g7 g8 h; exact h.elim
  | succ n ih => exact fun σ v1 v3 v4 v5 v6 v7 v8 g1 g3 g4 g5 g6 g7 g8 h => a_X16_passUnique_43 K hQ hX hK15 ih σ v1 v3 v4 v5 v6 v7 v8 g1 g3 g4 g5 g6 g7 g8 h
set_option maxRecDepth 20000 in
theorem a_X16_passUnique_22 {Q : Sg → Unit → Prop} {X : Sg → String → Prop} (K : MC R p s m args c cX16_passUnique 9 RX16 D cA tys A n0 s0 2 54 []) (hQ : HQV p l e R s m args below meth c cX16_passUnique D cA A n0 s0 QM dm ra jx rm Q) (hX : HX p l e R s m args below meth c 9 D cA A n0 s0 QM dm ra jx rm X) {K15 : Sg → Int → Int → Int → Int → Prop} (hK15 : ∀ (σ : Sg) (v1 : Int) (v3 : Int) (v4 : Int) (v5 : Int) (g1 : rng v1) (g3 : rng v3) (g4 : rng v4) (g5 : rng v5), K15 σ v1 v3 v4 v5 → RG σ → Shp dm ra jx rm σ → JJ p l e R s m args below meth c 9 D cA A n0 s0 QM σ 15 [(0, .ref rm), (1, .int (i32 v1)), (3, .int (i32 v3)), (4, .int (i32 v4)), (5, .int (i32 v5))] []) : ∀ (σ : Sg) (v1 : Int) (v3 : Int) (v4 : Int) (v5 : Int) (g1 : rng v1) (g3 : rng v3) (g4 : rng v4) (g5 : rng v5), w_X16_passUnique_22 ra jx rm K15 Q X σ v1 v3 v4 v5 → RG σ → Shp dm ra jx rm σ → JJ p l e R s m args below meth c 9 D cA A n0 s0 QM σ 22 [(0, .ref rm), (1, .int (i32 v1)), (3, .int (i32 v3)), (4, .int (i32 v4)), (5, .int (i32 v5))] [] := by
  intro σ v1 v3 v4 v5 g1 g3 g4 g5 h hGσ hS H locs ls hH hl hc
  have B := K.1
  unfold w_X16_passUnique_22 at h
  refine lv_aload_n B.1 B.2.1 dX16_passUnique_22 rfl (lv_at hl 0 rfl) ?_
  refine r_arr B hH hS 119 (kd := 100) (n := 4000) (by decide) (by decide) wf_X16_877 rfl rfl dX16_passUnique_23 ?_
  refine lv_iload B.1 B.2.1 dX16_passUnique_26 (lv_at hl 4 rfl) ?_
  obtain ⟨q1, h⟩ := h
  refine x_iald B K.2.1 hH (hS.ar (k := 119) (kd := 100) (n := 4000) (by decide)) (by decide) q1 dX16_passUnique_28 ?_
  refine lv_istore (lv' := [(6, .int (i32 (gI σ (ra 119) v5.toNat))), (0, .ref rm), (1, .int (i32 v1)), (3, .int (i32 v3)), (4, .int (i32 v4)), (5, .int (i32 v5))]) B.1 B.2.1 dX16_passUnique_29 hl (by decide) rfl (fun ls hl => ?_)
  refine lv_aload_n B.1 B.2.1 dX16_passUnique_31 rfl (lv_at hl 1 rfl) ?_
  refine lv_iload B.1 B.2.1 dX16_passUnique_32 (lv_at hl 0 rfl) ?_
  refine c_V B hH hl hc K.2.2.1 (C := RX16) (T := TX16) (N := 123) (ci := 16) (As := [.int (i32 (gI σ (ra 119) v5.toNat))]) (ok_X16_load K.2.1 σ (gI σ (ra 119) v5.toNat) (hGσ _ _) hGσ hS h) wc_X16_880 1 hd_X16_load ⟨Nat.le_trans (Nat.le_of_ble_eq_true rfl) K.2.2.2.1, Nat.le_trans (Nat.le_of_ble_eq_true rfl) K.2.2.2.2.1⟩ hS.1.1 hS.1.2 (by decide) rfl rfl (rest := []) rfl (Nat.le_of_ble_eq_true rfl) dX16_passUnique_34 (fun σ19 w hq => ?_) (fun σ9 E9 hx9 => hX σ9 E9 _ _ _ (tb_out K.2.2.2.2.2 rfl) hx9.1 hx9.2.1 hx9.2.2)
  obtain ⟨rfl, h, hGσ19, hS⟩ := hq
  intro H locs ls hH hl hc
  refine W.eq (g2 := F0 m 37 ls []) (rfl) ?_
  try dsimp only at h
  refine lv_iconst (v := i32 1) B.1 B.2.1 dX16_passUnique_37 (by decide) ?_
  refine lv_istore (lv' := [(7, .int (i32 1)), (6, .int (i32 (gI σ (ra 119) v5.toNat))), (0, .ref rm), (1, .int (i32 v1)), (3, .int (i32 v3)), (4, .int (i32 v4)), (5, .int (i32 v5))]) B.1 B.2.1 dX16_passUnique_38 hl (by decide) rfl (fun ls hl => ?_)
  refine lv_iload_n B.1 B.2.1 dX16_passUnique_40 rfl (lv_at hl 4 rfl) ?_
  refine lv_istore (lv' := [(8, .int (i32 v3)), (7, .int (i32 1)), (6, .int (i32 (gI σ (ra 119) v5.toNat))), (0, .ref rm), (1, .int (i32 v1)), (3, .int (i32 v3)), (4, .int (i32 v4)), (5, .int (i32 v5))]) B.1 B.2.1 dX16_passUnique_41 hl (by decide) rfl (fun ls hl => ?_)
  obtain ⟨n9, h⟩ := h
  exact al_X16_passUnique_43 K hQ hX hK15 n9 _ _ _ _ _ _ _ _ g1 g3 g4 g5 (hGσ _ _) (by unfold rng; omega) g3 h hGσ19 hS _ _ _ hH (lv_sub (l' := [(0, .ref rm), (1, .int (i32 v1)), (3, .int (i32 v3)), (4, .int (i32 v4)), (5, .int (i32 v5)), (6, .int (i32 (gI σ (ra 119) v5.toNat))), (7, .int (i32 1)), (8, .int (i32 v3))]) hl [3, 4, 5, 6, 7, 2, 1, 0] rfl) hc
set_option maxRecDepth 20000 in
theorem a_X16_passUnique_15 {Q : Sg → Unit → Prop} {X : Sg → String → Prop} (K : MC R p s m args c cX16_passUnique 9 RX16 D cA tys A n0 s0 2 54 []) (hQ : HQV p l e R s m args below meth c cX16_passUnique D cA A n0 s0 QM dm ra jx rm Q) (hX : HX p l e R s m args below meth c 9 D cA A n0 s0 QM dm ra jx rm X) {K15 : Sg → Int → Int → Int → Int → Prop} (hK15 : ∀ (σ : Sg) (v1 : Int) (v3 : Int) (v4 : Int) (v5 : Int) (g1 : rng v1) (g3 : rng v3) (g4 : rng v4) (g5 : rng v5), K15 σ v1 v3 v4 v5 → RG σ → Shp dm ra jx rm σ → JJ p l e R s m args below meth c 9 D cA A n0 s0 QM σ 15 [(0, .ref rm), (1, .int (i32 v1)), (3, .int (i32 v3)), (4, .int (i32 v4)), (5, .int (i32 v5))] []) : ∀ (σ : Sg) (v1 : Int) (v3 : Int) (v4 : Int) (v5 : Int) (g1 : rng v1) (g3 : rng v3) (g4 : rng v4) (g5 : rng v5), w_X16_passUnique_15 ra jx rm K15 Q X σ v1 v3 v4 v5 → RG σ → Shp dm ra jx rm σ → JJ p l e R s m args below meth c 9 D cA A n0 s0 QM σ 15 [(0, .ref rm), (1, .int (i32 v1)), (3, .int (i32 v3)), (4, .int (i32 v4)), (5, .int (i32 v5))] [] := by
  intro σ v1 v3 v4 v5 g1 g3 g4 g5 h hGσ hS H locs ls hH hl hc
  have B := K.1
  unfold w_X16_passUnique_15 at h
  refine lv_iload B.1 B.2.1 dX16_passUnique_15 (lv_at hl 4 rfl) ?_
  refine lv_iload B.1 B.2.1 dX16_passUnique_17 (lv_at hl 3 rfl) ?_
  refine lv_icmp_ge (tgt := 163) B.1 B.2.1 dX16_passUnique_19 (by decide) (fun h9 => ?_) (fun h9 => ?_)
  · rw [if_pos ((i32_le g4 g5).mp h9)] at h
    exact a_X16_passUnique_163 K hQ hX _ h hGσ hS _ _ _ hH (lv_sub (l' := [(0, .ref rm)]) hl [0] rfl) hc
  · rw [if_neg (fun q => h9 ((i32_le g4 g5).mpr q))] at h
    exact a_X16_passUnique_22 K hQ hX hK15 _ _ _ _ _ g1 g3 g4 g5 h hGσ hS _ _ _ hH (lv_sub (l' := [(0, .ref rm), (1, .int (i32 v1)), (3, .int (i32 v3)), (4, .int (i32 v4)), (5, .int (i32 v5))]) hl [0, 1, 2, 3, 4] rfl) hc
theorem al_X16_passUnique_15 {Q : Sg → Unit → Prop} {X : Sg → String → Prop} (K : MC R p s m args c cX16_passUnique 9 RX16 D cA tys A n0 s0 2 54 []) (hQ : HQV p l e R s m args below meth c cX16_passUnique D cA A n0 s0 QM dm ra jx rm Q) (hX : HX p l e R s m args below meth c 9 D cA A n0 s0 QM dm ra jx rm X) : ∀ (n : Nat), ∀ (σ : Sg) (v1 : Int) (v3 : Int) (v4 : Int) (v5 : Int) (g1 : rng v1) (g3 : rng v3) (g4 : rng v4) (g5 : rng v5), wl_X16_passUnique_15 ra jx rm Q X n σ v1 v3 v4 v5 → RG σ → Shp dm ra jx rm σ → JJ p l e R s m args below meth c 9 D cA A n0 s0 QM σ 15 [(0, .ref rm), (1, .int (i32 v1)), (3, .int (i32 v3)), (4, .int (i32 v4)), (5, .int (i32 v5))] [] := by
  intro n
  induction n with
  | zero => intro σ v1 v3 v4 v5 g1 g3 g4 g5 h; exact h.elim
  | succ n ih => exact fun σ v1 v3 v4 v5 g1 g3 g4 g5 h => a_X16_passUnique_15 K hQ hX ih σ v1 v3 v4 v5 g1 g3 g4 g5 h
set_option maxRecDepth 20000 in
theorem a_X16_passUnique_0 {Q : Sg → Unit → Prop} {X : Sg → String → Prop} (K : MC R p s m args c cX16_passUnique 9 RX16 D cA tys A n0 s0 2 54 []) (hQ : HQV p l e R s m args below meth c cX16_passUnique D cA A n0 s0 QM dm ra jx rm Q) (hX : HX p l e R s m args below meth c 9 D cA A n0 s0 QM dm ra jx rm X) : ∀ (σ : Sg) (v1 : Int) (v2 : Int) (g1 : rng v1) (g2 : rng v2), w_X16_passUnique_0 ra jx rm Q X σ v1 v2 → RG σ → Shp dm ra jx rm σ → JJ p l e R s m args below meth c 9 D cA A n0 s0 QM σ 0 [(0, .ref rm), (1, .int (i32 v1)), (2, .int (i32 v2))] [] := by
  intro σ v1 v2 g1 g2 h hGσ hS H locs ls hH hl hc
  have B := K.1
  unfold w_X16_passUnique_0 at h
  refine lv_aload_n B.1 B.2.1 dX16_passUnique_0 rfl (lv_at hl 0 rfl) ?_
  refine r_geti B hH hS 117 (by decide) wf_X16_861 rfl rfl dX16_passUnique_1 ?_
  refine lv_istore_n (lv' := [(3, .int (i32 (gI σ rm 117))), (0, .ref rm), (1, .int (i32 v1)), (2, .int (i32 v2))]) B.1 B.2.1 dX16_passUnique_4 rfl hl (by decide) rfl (fun ls hl => ?_)
  refine lv_aload_n B.1 B.2.1 dX16_passUnique_5 rfl (lv_at hl 1 rfl) ?_
  refine lv_iload_n B.1 B.2.1 dX16_passUnique_6 rfl (lv_at hl 3 rfl) ?_
  refine c_V B hH hl hc K.2.2.1 (C := RX16) (T := TX16) (N := 123) (ci := 16) (As := [.int (i32 v2)]) (ok_X16_sort K.2.1 σ v2 g2 hGσ hS h) wc_X16_883 1 hd_X16_sort ⟨Nat.le_trans (Nat.le_of_ble_eq_true rfl) K.2.2.2.1, Nat.le_trans (Nat.le_of_ble_eq_true rfl) K.2.2.2.2.1⟩ hS.1.1 hS.1.2 (by decide) rfl rfl (rest := []) rfl (Nat.le_of_ble_eq_true rfl) dX16_passUnique_7 (fun σ20 w hq => ?_) (fun σ9 E9 hx9 => hX σ9 E9 _ _ _ (tb_out K.2.2.2.2.2 rfl) hx9.1 hx9.2.1 hx9.2.2)
  obtain ⟨r21, rfl, gr21, h, hGσ20, hS⟩ := hq
  intro H locs ls hH hl hc
  refine W.eq (g2 := F0 m 10 ls [.int (i32 r21)]) (rfl) ?_
  try dsimp only at h
  refine lv_istore (lv' := [(4, .int (i32 r21)), (3, .int (i32 (gI σ rm 117))), (0, .ref rm), (1, .int (i32 v1)), (2, .int (i32 v2))]) B.1 B.2.1 dX16_passUnique_10 hl (by decide) rfl (fun ls hl => ?_)
  refine lv_iconst (v := i32 0) B.1 B.2.1 dX16_passUnique_12 (by decide) ?_
  refine lv_istore (lv' := [(5, .int (i32 0)), (4, .int (i32 r21)), (3, .int (i32 (gI σ rm 117))), (0, .ref rm), (1, .int (i32 v1)), (2, .int (i32 v2))]) B.1 B.2.1 dX16_passUnique_13 hl (by decide) rfl (fun ls hl => ?_)
  obtain ⟨n9, h⟩ := h
  exact al_X16_passUnique_15 K hQ hX n9 _ _ _ _ _ g1 (hGσ _ _) gr21 (by unfold rng; omega) h hGσ20 hS _ _ _ hH (lv_sub (l' := [(0, .ref rm), (1, .int (i32 v1)), (3, .int (i32 (gI σ rm 117))), (4, .int (i32 r21)), (5, .int (i32 0))]) hl [3, 4, 2, 1, 0] rfl) hc
theorem ok_X16_passUnique (hT : Tys cA tys) {Q : Sg → Unit → Prop} {X : Sg → String → Prop} (σ : Sg) (v1 : Int) (v2 : Int) (g1 : rng v1) (g2 : rng v2) (hG : RG σ) (hS : Shp dm ra jx rm σ) (h : wp_X16_passUnique ra jx rm v1 v2 σ Q X) : Ok l D cA tys A yX16_passUnique (.code yX16_passUnique cX16_passUnique 9 none) 2 54 [.ref rm, .int (i32 v1), .int (i32 v2)] σ (QnV dm ra jx rm Q) (QxR dm ra jx rm X) := by
  unfold wp_X16_passUnique at h
  exact ok_V (plainFor_of_name (by decide)) (by exact Nat.le_of_ble_eq_true rfl) hT (fun p e R s m args below meth c K hQ hX H locs ls hH hl hc => a_X16_passUnique_0 K hQ hX σ v1 v2 g1 g2 h hG hS H locs ls hH (lv_sub (l' := [(0, .ref rm), (1, .int (i32 v1)), (2, .int (i32 v2))]) hl [0, 1, 2] rfl) hc)
theorem dX16_passOver_0 : decode cX16_passOver 0 = .ok (.aload_n 0, 1) := by decide +kernel
theorem dX16_passOver_1 : decode cX16_passOver 1 = .ok (.getfield 356, 3) := by decide +kernel
theorem dX16_passOver_4 : decode cX16_passOver 4 = .ok (.getfield 216, 3) := by decide +kernel
theorem dX16_passOver_7 : decode cX16_passOver 7 = .ok (.iload_n 1, 1) := by decide +kernel
theorem dX16_passOver_8 : decode cX16_passOver 8 = .ok (.iaload, 1) := by decide +kernel
theorem dX16_passOver_9 : decode cX16_passOver 9 = .ok (.istore_n 2, 1) := by decide +kernel
theorem dX16_passOver_10 : decode cX16_passOver 10 = .ok (.aload_n 0, 1) := by decide +kernel
theorem dX16_passOver_11 : decode cX16_passOver 11 = .ok (.getfield 356, 3) := by decide +kernel
theorem dX16_passOver_14 : decode cX16_passOver 14 = .ok (.getfield 246, 3) := by decide +kernel
theorem dX16_passOver_17 : decode cX16_passOver 17 = .ok (.iload_n 1, 1) := by decide +kernel
theorem dX16_passOver_18 : decode cX16_passOver 18 = .ok (.iaload, 1) := by decide +kernel
theorem dX16_passOver_19 : decode cX16_passOver 19 = .ok (.tableswitch 169 0 10 #[57, 65, 65, 74, 97, 97, 106, 124, 142, 151, 160], 57) := by decide +kernel
theorem dX16_passOver_76 : decode cX16_passOver 76 = .ok (.aload_n 0, 1) := by decide +kernel
theorem dX16_passOver_77 : decode cX16_passOver 77 = .ok (.iload_n 1, 1) := by decide +kernel
theorem dX16_passOver_78 : decode cX16_passOver 78 = .ok (.invokevirtual 913, 3) := by decide +kernel
theorem dX16_passOver_81 : decode cX16_passOver 81 = .ok (.goto 107, 3) := by decide +kernel
theorem dX16_passOver_84 : decode cX16_passOver 84 = .ok (.aload_n 0, 1) := by decide +kernel
theorem dX16_passOver_85 : decode cX16_passOver 85 = .ok (.iload_n 1, 1) := by decide +kernel
theorem dX16_passOver_86 : decode cX16_passOver 86 = .ok (.iload_n 2, 1) := by decide +kernel
theorem dX16_passOver_87 : decode cX16_passOver 87 = .ok (.invokevirtual 916, 3) := by decide +kernel
theorem dX16_passOver_90 : decode cX16_passOver 90 = .ok (.goto 98, 3) := by decide +kernel
theorem dX16_passOver_93 : decode cX16_passOver 93 = .ok (.aload_n 0, 1) := by decide +kernel
theorem dX16_passOver_94 : decode cX16_passOver 94 = .ok (.iload_n 1, 1) := by decide +kernel
theorem dX16_passOver_95 : decode cX16_passOver 95 = .ok (.iload_n 2, 1) := by decide +kernel
theorem dX16_passOver_96 : decode cX16_passOver 96 = .ok (.invokevirtual 916, 3) := by decide +kernel
theorem dX16_passOver_99 : decode cX16_passOver 99 = .ok (.aload_n 0, 1) := by decide +kernel
theorem dX16_passOver_100 : decode cX16_passOver 100 = .ok (.iload_n 1, 1) := by decide +kernel
theorem dX16_passOver_101 : decode cX16_passOver 101 = .ok (.aload_n 0, 1) := by decide +kernel
theorem dX16_passOver_102 : decode cX16_passOver 102 = .ok (.getfield 356, 3) := by decide +kernel
theorem dX16_passOver_105 : decode cX16_passOver 105 = .ok (.getfield 231, 3) := by decide +kernel
theorem dX16_passOver_108 : decode cX16_passOver 108 = .ok (.iload_n 1, 1) := by decide +kernel
theorem dX16_passOver_109 : decode cX16_passOver 109 = .ok (.iaload, 1) := by decide +kernel
theorem dX16_passOver_110 : decode cX16_passOver 110 = .ok (.invokevirtual 916, 3) := by decide +kernel
theorem dX16_passOver_113 : decode cX16_passOver 113 = .ok (.goto 75, 3) := by decide +kernel
theorem dX16_passOver_116 : decode cX16_passOver 116 = .ok (.aload_n 0, 1) := by decide +kernel
theorem dX16_passOver_117 : decode cX16_passOver 117 = .ok (.iload_n 1, 1) := by decide +kernel
theorem dX16_passOver_118 : decode cX16_passOver 118 = .ok (.iload_n 2, 1) := by decide +kernel
theorem dX16_passOver_119 : decode cX16_passOver 119 = .ok (.invokevirtual 919, 3) := by decide +kernel
theorem dX16_passOver_122 : decode cX16_passOver 122 = .ok (.goto 66, 3) := by decide +kernel
theorem dX16_passOver_125 : decode cX16_passOver 125 = .ok (.aload_n 0, 1) := by decide +kernel
theorem dX16_passOver_126 : decode cX16_passOver 126 = .ok (.iload_n 1, 1) := by decide +kernel
theorem dX16_passOver_127 : decode cX16_passOver 127 = .ok (.iload_n 2, 1) := by decide +kernel
theorem dX16_passOver_128 : decode cX16_passOver 128 = .ok (.aload_n 0, 1) := by decide +kernel
theorem dX16_passOver_129 : decode cX16_passOver 129 = .ok (.getfield 356, 3) := by decide +kernel
theorem dX16_passOver_132 : decode cX16_passOver 132 = .ok (.getfield 231, 3) := by decide +kernel
theorem dX16_passOver_135 : decode cX16_passOver 135 = .ok (.iload_n 1, 1) := by decide +kernel
theorem dX16_passOver_136 : decode cX16_passOver 136 = .ok (.iaload, 1) := by decide +kernel
theorem dX16_passOver_137 : decode cX16_passOver 137 = .ok (.invokevirtual 922, 3) := by decide +kernel
theorem dX16_passOver_140 : decode cX16_passOver 140 = .ok (.goto 48, 3) := by decide +kernel
theorem dX16_passOver_143 : decode cX16_passOver 143 = .ok (.aload_n 0, 1) := by decide +kernel
theorem dX16_passOver_144 : decode cX16_passOver 144 = .ok (.iload_n 1, 1) := by decide +kernel
theorem dX16_passOver_145 : decode cX16_passOver 145 = .ok (.iload_n 2, 1) := by decide +kernel
theorem dX16_passOver_146 : decode cX16_passOver 146 = .ok (.aload_n 0, 1) := by decide +kernel
theorem dX16_passOver_147 : decode cX16_passOver 147 = .ok (.getfield 356, 3) := by decide +kernel
theorem dX16_passOver_150 : decode cX16_passOver 150 = .ok (.getfield 231, 3) := by decide +kernel
theorem dX16_passOver_153 : decode cX16_passOver 153 = .ok (.iload_n 1, 1) := by decide +kernel
theorem dX16_passOver_154 : decode cX16_passOver 154 = .ok (.iaload, 1) := by decide +kernel
theorem dX16_passOver_155 : decode cX16_passOver 155 = .ok (.invokevirtual 925, 3) := by decide +kernel
theorem dX16_passOver_158 : decode cX16_passOver 158 = .ok (.goto 30, 3) := by decide +kernel
theorem dX16_passOver_161 : decode cX16_passOver 161 = .ok (.aload_n 0, 1) := by decide +kernel
theorem dX16_passOver_162 : decode cX16_passOver 162 = .ok (.iload_n 1, 1) := by decide +kernel
theorem dX16_passOver_163 : decode cX16_passOver 163 = .ok (.iload_n 2, 1) := by decide +kernel
theorem dX16_passOver_164 : decode cX16_passOver 164 = .ok (.invokevirtual 928, 3) := by decide +kernel
theorem dX16_passOver_167 : decode cX16_passOver 167 = .ok (.goto 21, 3) := by decide +kernel
theorem dX16_passOver_170 : decode cX16_passOver 170 = .ok (.aload_n 0, 1) := by decide +kernel
theorem dX16_passOver_171 : decode cX16_passOver 171 = .ok (.iload_n 1, 1) := by decide +kernel
theorem dX16_passOver_172 : decode cX16_passOver 172 = .ok (.iload_n 2, 1) := by decide +kernel
theorem dX16_passOver_173 : decode cX16_passOver 173 = .ok (.invokevirtual 931, 3) := by decide +kernel
theorem dX16_passOver_176 : decode cX16_passOver 176 = .ok (.goto 12, 3) := by decide +kernel
theorem dX16_passOver_179 : decode cX16_passOver 179 = .ok (.aload_n 0, 1) := by decide +kernel
theorem dX16_passOver_180 : decode cX16_passOver 180 = .ok (.iload_n 1, 1) := by decide +kernel
theorem dX16_passOver_181 : decode cX16_passOver 181 = .ok (.iload_n 2, 1) := by decide +kernel
theorem dX16_passOver_182 : decode cX16_passOver 182 = .ok (.invokevirtual 934, 3) := by decide +kernel
theorem dX16_passOver_185 : decode cX16_passOver 185 = .ok (.goto 3, 3) := by decide +kernel
theorem dX16_passOver_188 : decode cX16_passOver 188 = .ok (.return_, 1) := by decide +kernel
set_option maxRecDepth 20000 in
theorem a_X16_passOver_188 {Q : Sg → Unit → Prop} {X : Sg → String → Prop} (K : MC R p s m args c cX16_passOver 3 RX16 D cA tys A n0 s0 4 115 []) (hQ : HQV p l e R s m args below meth c cX16_passOver D cA A n0 s0 QM dm ra jx rm Q) (hX : HX p l e R s m args below meth c 3 D cA A n0 s0 QM dm ra jx rm X) : ∀ (σ : Sg), w_X16_passOver_188 ra jx rm Q X σ → RG σ → Shp dm ra jx rm σ → JJ p l e R s m args below meth c 3 D cA A n0 s0 QM σ 188 [(0, .ref rm)] [] := by
  intro σ h hGσ hS H locs ls hH hl hc
  have B := K.1
  unfold w_X16_passOver_188 at h
  exact hQ _ _ _ _ _ dX16_passOver_188 hH hc h hGσ hS
set_option maxRecDepth 20000 in
theorem a_X16_passOver_76 {Q : Sg → Unit → Prop} {X : Sg → String → Prop} (K : MC R p s m args c cX16_passOver 3 RX16 D cA tys A n0 s0 4 115 []) (hQ : HQV p l e R s m args below meth c cX16_passOver D cA A n0 s0 QM dm ra jx rm Q) (hX : HX p l e R s m args below meth c 3 D cA A n0 s0 QM dm ra jx rm X) : ∀ (σ : Sg) (v1 : Int) (g1 : rng v1), w_X16_passOver_76 ra jx rm Q X σ v1 → RG σ → Shp dm ra jx rm σ → JJ p l e R s m args below meth c 3 D cA A n0 s0 QM σ 76 [(0, .ref rm), (1, .int (i32 v1))] [] := by
  intro σ v1 g1 h hGσ hS H locs ls hH hl hc
  have B := K.1
  unfold w_X16_passOver_76 at h
  refine lv_aload_n B.1 B.2.1 dX16_passOver_76 rfl (lv_at hl 0 rfl) ?_
  refine lv_iload_n B.1 B.2.1 dX16_passOver_77 rfl (lv_at hl 1 rfl) ?_
  refine c_V B hH hl hc K.2.2.1 (C := RX16) (T := TX16) (N := 123) (ci := 16) (As := [.int (i32 v1)]) (ok_X16_passSource K.2.1 σ v1 g1 hGσ hS h) wc_X16_913 1 hd_X16_passSource ⟨Nat.le_trans (Nat.le_of_ble_eq_true rfl) K.2.2.2.1, Nat.le_trans (Nat.le_of_ble_eq_true rfl) K.2.2.2.2.1⟩ hS.1.1 hS.1.2 (by decide) rfl rfl (rest := []) rfl (Nat.le_of_ble_eq_true rfl) dX16_passOver_78 (fun σ31 w hq => ?_) (fun σ9 E9 hx9 => hX σ9 E9 _ _ _ (tb_out K.2.2.2.2.2 rfl) hx9.1 hx9.2.1 hx9.2.2)
  obtain ⟨rfl, h, hGσ31, hS⟩ := hq
  intro H locs ls hH hl hc
  refine W.eq (g2 := F0 m 81 ls []) (rfl) ?_
  try dsimp only at h
  refine lv_goto (tgt := 188) B.1 B.2.1 dX16_passOver_81 (by decide) ?_
  exact a_X16_passOver_188 K hQ hX _ h hGσ31 hS _ _ _ hH (lv_sub (l' := [(0, .ref rm)]) hl [0] rfl) hc
set_option maxRecDepth 20000 in
theorem a_X16_passOver_84 {Q : Sg → Unit → Prop} {X : Sg → String → Prop} (K : MC R p s m args c cX16_passOver 3 RX16 D cA tys A n0 s0 4 115 []) (hQ : HQV p l e R s m args below meth c cX16_passOver D cA A n0 s0 QM dm ra jx rm Q) (hX : HX p l e R s m args below meth c 3 D cA A n0 s0 QM dm ra jx rm X) : ∀ (σ : Sg) (v1 : Int) (v2 : Int) (g1 : rng v1) (g2 : rng v2), w_X16_passOver_84 ra jx rm Q X σ v1 v2 → RG σ → Shp dm ra jx rm σ → JJ p l e R s m args below meth c 3 D cA A n0 s0 QM σ 84 [(0, .ref rm), (1, .int (i32 v1)), (2, .int (i32 v2))] [] := by
  intro σ v1 v2 g1 g2 h hGσ hS H locs ls hH hl hc
  have B := K.1
  unfold w_X16_passOver_84 at h
  refine lv_aload_n B.1 B.2.1 dX16_passOver_84 rfl (lv_at hl 0 rfl) ?_
  refine lv_iload_n B.1 B.2.1 dX16_passOver_85 rfl (lv_at hl 1 rfl) ?_
  refine lv_iload_n B.1 B.2.1 dX16_passOver_86 rfl (lv_at hl 2 rfl) ?_
  refine c_V B hH hl hc K.2.2.1 (C := RX16) (T := TX16) (N := 123) (ci := 16) (As := [.int (i32 v1), .int (i32 v2)]) (ok_X16_passEach K.2.1 σ v1 v2 g1 g2 hGσ hS h) wc_X16_916 2 hd_X16_passEach ⟨Nat.le_trans (Nat.le_of_ble_eq_true rfl) K.2.2.2.1, Nat.le_trans (Nat.le_of_ble_eq_true rfl) K.2.2.2.2.1⟩ hS.1.1 hS.1.2 (by decide) rfl rfl (rest := []) rfl (Nat.le_of_ble_eq_true rfl) dX16_passOver_87 (fun σ32 w hq => ?_) (fun σ9 E9 hx9 => hX σ9 E9 _ _ _ (tb_out K.2.2.2.2.2 rfl) hx9.1 hx9.2.1 hx9.2.2)
  obtain ⟨rfl, h, hGσ32, hS⟩ := hq
  intro H locs ls hH hl hc
  refine W.eq (g2 := F0 m 90 ls []) (rfl) ?_
  try dsimp only at h
  refine lv_goto (tgt := 188) B.1 B.2.1 dX16_passOver_90 (by decide) ?_
  exact a_X16_passOver_188 K hQ hX _ h hGσ32 hS _ _ _ hH (lv_sub (l' := [(0, .ref rm)]) hl [0] rfl) hc
set_option maxRecDepth 20000 in
theorem a_X16_passOver_93 {Q : Sg → Unit → Prop} {X : Sg → String → Prop} (K : MC R p s m args c cX16_passOver 3 RX16 D cA tys A n0 s0 4 115 []) (hQ : HQV p l e R s m args below meth c cX16_passOver D cA A n0 s0 QM dm ra jx rm Q) (hX : HX p l e R s m args below meth c 3 D cA A n0 s0 QM dm ra jx rm X) : ∀ (σ : Sg) (v1 : Int) (v2 : Int) (g1 : rng v1) (g2 : rng v2), w_X16_passOver_93 ra jx rm Q X σ v1 v2 → RG σ → Shp dm ra jx rm σ → JJ p l e R s m args below meth c 3 D cA A n0 s0 QM σ 93 [(0, .ref rm), (1, .int (i32 v1)), (2, .int (i32 v2))] [] := by
  intro σ v1 v2 g1 g2 h hGσ hS H locs ls hH hl hc
  have B := K.1
  unfold w_X16_passOver_93 at h
  refine lv_aload_n B.1 B.2.1 dX16_passOver_93 rfl (lv_at hl 0 rfl) ?_
  refine lv_iload_n B.1 B.2.1 dX16_passOver_94 rfl (lv_at hl 1 rfl) ?_
  refine lv_iload_n B.1 B.2.1 dX16_passOver_95 rfl (lv_at hl 2 rfl) ?_
  refine c_V B hH hl hc K.2.2.1 (C := RX16) (T := TX16) (N := 123) (ci := 16) (As := [.int (i32 v1), .int (i32 v2)]) (ok_X16_passEach K.2.1 σ v1 v2 g1 g2 hGσ hS h) wc_X16_916 2 hd_X16_passEach ⟨Nat.le_trans (Nat.le_of_ble_eq_true rfl) K.2.2.2.1, Nat.le_trans (Nat.le_of_ble_eq_true rfl) K.2.2.2.2.1⟩ hS.1.1 hS.1.2 (by decide) rfl rfl (rest := []) rfl (Nat.le_of_ble_eq_true rfl) dX16_passOver_96 (fun σ33 w hq => ?_) (fun σ9 E9 hx9 => hX σ9 E9 _ _ _ (tb_out K.2.2.2.2.2 rfl) hx9.1 hx9.2.1 hx9.2.2)
  obtain ⟨rfl, h, hGσ33, hS⟩ := hq
  intro H locs ls hH hl hc
  refine W.eq (g2 := F0 m 99 ls []) (rfl) ?_
  try dsimp only at h
  refine lv_aload_n B.1 B.2.1 dX16_passOver_99 rfl (lv_at hl 0 rfl) ?_
  refine lv_iload_n B.1 B.2.1 dX16_passOver_100 rfl (lv_at hl 1 rfl) ?_
  refine lv_aload_n B.1 B.2.1 dX16_passOver_101 rfl (lv_at hl 0 rfl) ?_
  refine r_getp B hH hS 17 (by decide) wf_X16_356 rfl rfl dX16_passOver_102 ?_
  obtain ⟨a34, ea34, ja34, h⟩ := h
  refine W.eq (g2 := F0 m 105 ls [.ref a34, .int (i32 v1), .ref rm]) (by rw [ea34]; rfl) ?_
  refine n_arr B hH hS ja34 5 (kd := 100) (n := 16) (by decide) (by decide) (List.mem_of_getElem? (i := 5) rfl) rfl dX16_passOver_105 ?_
  refine lv_iload_n B.1 B.2.1 dX16_passOver_108 rfl (lv_at hl 1 rfl) ?_
  obtain ⟨q2, h⟩ := h
  refine x_iald B K.2.1 hH (hS.ja ja34 (k := 5) (kd := 100) (n := 16) (by decide)) (by decide) q2 dX16_passOver_109 ?_
  refine c_V B hH hl hc K.2.2.1 (C := RX16) (T := TX16) (N := 123) (ci := 16) (As := [.int (i32 v1), .int (i32 (gI σ33 (jx a34 5) v1.toNat))]) (ok_X16_passEach K.2.1 σ33 v1 (gI σ33 (jx a34 5) v1.toNat) g1 (hGσ33 _ _) hGσ33 hS h) wc_X16_916 2 hd_X16_passEach ⟨Nat.le_trans (Nat.le_of_ble_eq_true rfl) K.2.2.2.1, Nat.le_trans (Nat.le_of_ble_eq_true rfl) K.2.2.2.2.1⟩ hS.1.1 hS.1.2 (by decide) rfl rfl (rest := []) rfl (Nat.le_of_ble_eq_true rfl) dX16_passOver_110 (fun σ35 w hq => ?_) (fun σ9 E9 hx9 => hX σ9 E9 _ _ _ (tb_out K.2.2.2.2.2 rfl) hx9.1 hx9.2.1 hx9.2.2)
  obtain ⟨rfl, h, hGσ35, hS⟩ := hq
  intro H locs ls hH hl hc
  refine W.eq (g2 := F0 m 113 ls []) (rfl) ?_
  try dsimp only at h
  refine lv_goto (tgt := 188) B.1 B.2.1 dX16_passOver_113 (by decide) ?_
  exact a_X16_passOver_188 K hQ hX _ h hGσ35 hS _ _ _ hH (lv_sub (l' := [(0, .ref rm)]) hl [0] rfl) hc
set_option maxRecDepth 20000 in
theorem a_X16_passOver_116 {Q : Sg → Unit → Prop} {X : Sg → String → Prop} (K : MC R p s m args c cX16_passOver 3 RX16 D cA tys A n0 s0 4 115 []) (hQ : HQV p l e R s m args below meth c cX16_passOver D cA A n0 s0 QM dm ra jx rm Q) (hX : HX p l e R s m args below meth c 3 D cA A n0 s0 QM dm ra jx rm X) : ∀ (σ : Sg) (v1 : Int) (v2 : Int) (g1 : rng v1) (g2 : rng v2), w_X16_passOver_116 ra jx rm Q X σ v1 v2 → RG σ → Shp dm ra jx rm σ → JJ p l e R s m args below meth c 3 D cA A n0 s0 QM σ 116 [(0, .ref rm), (1, .int (i32 v1)), (2, .int (i32 v2))] [] := by
  intro σ v1 v2 g1 g2 h hGσ hS H locs ls hH hl hc
  have B := K.1
  unfold w_X16_passOver_116 at h
  refine lv_aload_n B.1 B.2.1 dX16_passOver_116 rfl (lv_at hl 0 rfl) ?_
  refine lv_iload_n B.1 B.2.1 dX16_passOver_117 rfl (lv_at hl 1 rfl) ?_
  refine lv_iload_n B.1 B.2.1 dX16_passOver_118 rfl (lv_at hl 2 rfl) ?_
  refine c_V B hH hl hc K.2.2.1 (C := RX16) (T := TX16) (N := 123) (ci := 16) (As := [.int (i32 v1), .int (i32 v2)]) (ok_X16_passFold K.2.1 σ v1 v2 g1 g2 hGσ hS h) wc_X16_919 2 hd_X16_passFold ⟨Nat.le_trans (Nat.le_of_ble_eq_true rfl) K.2.2.2.1, Nat.le_trans (Nat.le_of_ble_eq_true rfl) K.2.2.2.2.1⟩ hS.1.1 hS.1.2 (by decide) rfl rfl (rest := []) rfl (Nat.le_of_ble_eq_true rfl) dX16_passOver_119 (fun σ36 w hq => ?_) (fun σ9 E9 hx9 => hX σ9 E9 _ _ _ (tb_out K.2.2.2.2.2 rfl) hx9.1 hx9.2.1 hx9.2.2)
  obtain ⟨rfl, h, hGσ36, hS⟩ := hq
  intro H locs ls hH hl hc
  refine W.eq (g2 := F0 m 122 ls []) (rfl) ?_
  try dsimp only at h
  refine lv_goto (tgt := 188) B.1 B.2.1 dX16_passOver_122 (by decide) ?_
  exact a_X16_passOver_188 K hQ hX _ h hGσ36 hS _ _ _ hH (lv_sub (l' := [(0, .ref rm)]) hl [0] rfl) hc
set_option maxRecDepth 20000 in
theorem a_X16_passOver_125 {Q : Sg → Unit → Prop} {X : Sg → String → Prop} (K : MC R p s m args c cX16_passOver 3 RX16 D cA tys A n0 s0 4 115 []) (hQ : HQV p l e R s m args below meth c cX16_passOver D cA A n0 s0 QM dm ra jx rm Q) (hX : HX p l e R s m args below meth c 3 D cA A n0 s0 QM dm ra jx rm X) : ∀ (σ : Sg) (v1 : Int) (v2 : Int) (g1 : rng v1) (g2 : rng v2), w_X16_passOver_125 ra jx rm Q X σ v1 v2 → RG σ → Shp dm ra jx rm σ → JJ p l e R s m args below meth c 3 D cA A n0 s0 QM σ 125 [(0, .ref rm), (1, .int (i32 v1)), (2, .int (i32 v2))] [] := by
  intro σ v1 v2 g1 g2 h hGσ hS H locs ls hH hl hc
  have B := K.1
  unfold w_X16_passOver_125 at h
  refine lv_aload_n B.1 B.2.1 dX16_passOver_125 rfl (lv_at hl 0 rfl) ?_
  refine lv_iload_n B.1 B.2.1 dX16_passOver_126 rfl (lv_at hl 1 rfl) ?_
  refine lv_iload_n B.1 B.2.1 dX16_passOver_127 rfl (lv_at hl 2 rfl) ?_
  refine lv_aload_n B.1 B.2.1 dX16_passOver_128 rfl (lv_at hl 0 rfl) ?_
  refine r_getp B hH hS 17 (by decide) wf_X16_356 rfl rfl dX16_passOver_129 ?_
  obtain ⟨a37, ea37, ja37, h⟩ := h
  refine W.eq (g2 := F0 m 132 ls [.ref a37, .int (i32 v2), .int (i32 v1), .ref rm]) (by rw [ea37]; rfl) ?_
  refine n_arr B hH hS ja37 5 (kd := 100) (n := 16) (by decide) (by decide) (List.mem_of_getElem? (i := 5) rfl) rfl dX16_passOver_132 ?_
  refine lv_iload_n B.1 B.2.1 dX16_passOver_135 rfl (lv_at hl 1 rfl) ?_
  obtain ⟨q2, h⟩ := h
  refine x_iald B K.2.1 hH (hS.ja ja37 (k := 5) (kd := 100) (n := 16) (by decide)) (by decide) q2 dX16_passOver_136 ?_
  refine c_V B hH hl hc K.2.2.1 (C := RX16) (T := TX16) (N := 123) (ci := 16) (As := [.int (i32 v1), .int (i32 v2), .int (i32 (gI σ (jx a37 5) v1.toNat))]) (ok_X16_passJoin K.2.1 σ v1 v2 (gI σ (jx a37 5) v1.toNat) g1 g2 (hGσ _ _) hGσ hS h) wc_X16_922 3 hd_X16_passJoin ⟨Nat.le_trans (Nat.le_of_ble_eq_true rfl) K.2.2.2.1, Nat.le_trans (Nat.le_of_ble_eq_true rfl) K.2.2.2.2.1⟩ hS.1.1 hS.1.2 (by decide) rfl rfl (rest := []) rfl (Nat.le_of_ble_eq_true rfl) dX16_passOver_137 (fun σ38 w hq => ?_) (fun σ9 E9 hx9 => hX σ9 E9 _ _ _ (tb_out K.2.2.2.2.2 rfl) hx9.1 hx9.2.1 hx9.2.2)
  obtain ⟨rfl, h, hGσ38, hS⟩ := hq
  intro H locs ls hH hl hc
  refine W.eq (g2 := F0 m 140 ls []) (rfl) ?_
  try dsimp only at h
  refine lv_goto (tgt := 188) B.1 B.2.1 dX16_passOver_140 (by decide) ?_
  exact a_X16_passOver_188 K hQ hX _ h hGσ38 hS _ _ _ hH (lv_sub (l' := [(0, .ref rm)]) hl [0] rfl) hc
set_option maxRecDepth 20000 in
theorem a_X16_passOver_143 {Q : Sg → Unit → Prop} {X : Sg → String → Prop} (K : MC R p s m args c cX16_passOver 3 RX16 D cA tys A n0 s0 4 115 []) (hQ : HQV p l e R s m args below meth c cX16_passOver D cA A n0 s0 QM dm ra jx rm Q) (hX : HX p l e R s m args below meth c 3 D cA A n0 s0 QM dm ra jx rm X) : ∀ (σ : Sg) (v1 : Int) (v2 : Int) (g1 : rng v1) (g2 : rng v2), w_X16_passOver_143 ra jx rm Q X σ v1 v2 → RG σ → Shp dm ra jx rm σ → JJ p l e R s m args below meth c 3 D cA A n0 s0 QM σ 143 [(0, .ref rm), (1, .int (i32 v1)), (2, .int (i32 v2))] [] := by
  intro σ v1 v2 g1 g2 h hGσ hS H locs ls hH hl hc
  have B := K.1
  unfold w_X16_passOver_143 at h
  refine lv_aload_n B.1 B.2.1 dX16_passOver_143 rfl (lv_at hl 0 rfl) ?_
  refine lv_iload_n B.1 B.2.1 dX16_passOver_144 rfl (lv_at hl 1 rfl) ?_
  refine lv_iload_n B.1 B.2.1 dX16_passOver_145 rfl (lv_at hl 2 rfl) ?_
  refine lv_aload_n B.1 B.2.1 dX16_passOver_146 rfl (lv_at hl 0 rfl) ?_
  refine r_getp B hH hS 17 (by decide) wf_X16_356 rfl rfl dX16_passOver_147 ?_
  obtain ⟨a39, ea39, ja39, h⟩ := h
  refine W.eq (g2 := F0 m 150 ls [.ref a39, .int (i32 v2), .int (i32 v1), .ref rm]) (by rw [ea39]; rfl) ?_
  refine n_arr B hH hS ja39 5 (kd := 100) (n := 16) (by decide) (by decide) (List.mem_of_getElem? (i := 5) rfl) rfl dX16_passOver_150 ?_
  refine lv_iload_n B.1 B.2.1 dX16_passOver_153 rfl (lv_at hl 1 rfl) ?_
  obtain ⟨q2, h⟩ := h
  refine x_iald B K.2.1 hH (hS.ja ja39 (k := 5) (kd := 100) (n := 16) (by decide)) (by decide) q2 dX16_passOver_154 ?_
  refine c_V B hH hl hc K.2.2.1 (C := RX16) (T := TX16) (N := 123) (ci := 16) (As := [.int (i32 v1), .int (i32 v2), .int (i32 (gI σ (jx a39 5) v1.toNat))]) (ok_X16_passLook K.2.1 σ v1 v2 (gI σ (jx a39 5) v1.toNat) g1 g2 (hGσ _ _) hGσ hS h) wc_X16_925 3 hd_X16_passLook ⟨Nat.le_trans (Nat.le_of_ble_eq_true rfl) K.2.2.2.1, Nat.le_trans (Nat.le_of_ble_eq_true rfl) K.2.2.2.2.1⟩ hS.1.1 hS.1.2 (by decide) rfl rfl (rest := []) rfl (Nat.le_of_ble_eq_true rfl) dX16_passOver_155 (fun σ40 w hq => ?_) (fun σ9 E9 hx9 => hX σ9 E9 _ _ _ (tb_out K.2.2.2.2.2 rfl) hx9.1 hx9.2.1 hx9.2.2)
  obtain ⟨rfl, h, hGσ40, hS⟩ := hq
  intro H locs ls hH hl hc
  refine W.eq (g2 := F0 m 158 ls []) (rfl) ?_
  try dsimp only at h
  refine lv_goto (tgt := 188) B.1 B.2.1 dX16_passOver_158 (by decide) ?_
  exact a_X16_passOver_188 K hQ hX _ h hGσ40 hS _ _ _ hH (lv_sub (l' := [(0, .ref rm)]) hl [0] rfl) hc
set_option maxRecDepth 20000 in
theorem a_X16_passOver_161 {Q : Sg → Unit → Prop} {X : Sg → String → Prop} (K : MC R p s m args c cX16_passOver 3 RX16 D cA tys A n0 s0 4 115 []) (hQ : HQV p l e R s m args below meth c cX16_passOver D cA A n0 s0 QM dm ra jx rm Q) (hX : HX p l e R s m args below meth c 3 D cA A n0 s0 QM dm ra jx rm X) : ∀ (σ : Sg) (v1 : Int) (v2 : Int) (g1 : rng v1) (g2 : rng v2), w_X16_passOver_161 ra jx rm Q X σ v1 v2 → RG σ → Shp dm ra jx rm σ → JJ p l e R s m args below meth c 3 D cA A n0 s0 QM σ 161 [(0, .ref rm), (1, .int (i32 v1)), (2, .int (i32 v2))] [] := by
  intro σ v1 v2 g1 g2 h hGσ hS H locs ls hH hl hc
  have B := K.1
  unfold w_X16_passOver_161 at h
  refine lv_aload_n B.1 B.2.1 dX16_passOver_161 rfl (lv_at hl 0 rfl) ?_
  refine lv_iload_n B.1 B.2.1 dX16_passOver_162 rfl (lv_at hl 1 rfl) ?_
  refine lv_iload_n B.1 B.2.1 dX16_passOver_163 rfl (lv_at hl 2 rfl) ?_
  refine c_V B hH hl hc K.2.2.1 (C := RX16) (T := TX16) (N := 123) (ci := 16) (As := [.int (i32 v1), .int (i32 v2)]) (ok_X16_passMatch K.2.1 σ v1 v2 g1 g2 hGσ hS h) wc_X16_928 2 hd_X16_passMatch ⟨Nat.le_trans (Nat.le_of_ble_eq_true rfl) K.2.2.2.1, Nat.le_trans (Nat.le_of_ble_eq_true rfl) K.2.2.2.2.1⟩ hS.1.1 hS.1.2 (by decide) rfl rfl (rest := []) rfl (Nat.le_of_ble_eq_true rfl) dX16_passOver_164 (fun σ41 w hq => ?_) (fun σ9 E9 hx9 => hX σ9 E9 _ _ _ (tb_out K.2.2.2.2.2 rfl) hx9.1 hx9.2.1 hx9.2.2)
  obtain ⟨rfl, h, hGσ41, hS⟩ := hq
  intro H locs ls hH hl hc
  refine W.eq (g2 := F0 m 167 ls []) (rfl) ?_
  try dsimp only at h
  refine lv_goto (tgt := 188) B.1 B.2.1 dX16_passOver_167 (by decide) ?_
  exact a_X16_passOver_188 K hQ hX _ h hGσ41 hS _ _ _ hH (lv_sub (l' := [(0, .ref rm)]) hl [0] rfl) hc
set_option maxRecDepth 20000 in
theorem a_X16_passOver_170 {Q : Sg → Unit → Prop} {X : Sg → String → Prop} (K : MC R p s m args c cX16_passOver 3 RX16 D cA tys A n0 s0 4 115 []) (hQ : HQV p l e R s m args below meth c cX16_passOver D cA A n0 s0 QM dm ra jx rm Q) (hX : HX p l e R s m args below meth c 3 D cA A n0 s0 QM dm ra jx rm X) : ∀ (σ : Sg) (v1 : Int) (v2 : Int) (g1 : rng v1) (g2 : rng v2), w_X16_passOver_170 ra jx rm Q X σ v1 v2 → RG σ → Shp dm ra jx rm σ → JJ p l e R s m args below meth c 3 D cA A n0 s0 QM σ 170 [(0, .ref rm), (1, .int (i32 v1)), (2, .int (i32 v2))] [] := by
  intro σ v1 v2 g1 g2 h hGσ hS H locs ls hH hl hc
  have B := K.1
  unfold w_X16_passOver_170 at h
  refine lv_aload_n B.1 B.2.1 dX16_passOver_170 rfl (lv_at hl 0 rfl) ?_
  refine lv_iload_n B.1 B.2.1 dX16_passOver_171 rfl (lv_at hl 1 rfl) ?_
  refine lv_iload_n B.1 B.2.1 dX16_passOver_172 rfl (lv_at hl 2 rfl) ?_
  refine c_V B hH hl hc K.2.2.1 (C := RX16) (T := TX16) (N := 123) (ci := 16) (As := [.int (i32 v1), .int (i32 v2)]) (ok_X16_passUnique K.2.1 σ v1 v2 g1 g2 hGσ hS h) wc_X16_931 2 hd_X16_passUnique ⟨Nat.le_trans (Nat.le_of_ble_eq_true rfl) K.2.2.2.1, Nat.le_trans (Nat.le_of_ble_eq_true rfl) K.2.2.2.2.1⟩ hS.1.1 hS.1.2 (by decide) rfl rfl (rest := []) rfl (Nat.le_of_ble_eq_true rfl) dX16_passOver_173 (fun σ42 w hq => ?_) (fun σ9 E9 hx9 => hX σ9 E9 _ _ _ (tb_out K.2.2.2.2.2 rfl) hx9.1 hx9.2.1 hx9.2.2)
  obtain ⟨rfl, h, hGσ42, hS⟩ := hq
  intro H locs ls hH hl hc
  refine W.eq (g2 := F0 m 176 ls []) (rfl) ?_
  try dsimp only at h
  refine lv_goto (tgt := 188) B.1 B.2.1 dX16_passOver_176 (by decide) ?_
  exact a_X16_passOver_188 K hQ hX _ h hGσ42 hS _ _ _ hH (lv_sub (l' := [(0, .ref rm)]) hl [0] rfl) hc
set_option maxRecDepth 20000 in
theorem a_X16_passOver_179 {Q : Sg → Unit → Prop} {X : Sg → String → Prop} (K : MC R p s m args c cX16_passOver 3 RX16 D cA tys A n0 s0 4 115 []) (hQ : HQV p l e R s m args below meth c cX16_passOver D cA A n0 s0 QM dm ra jx rm Q) (hX : HX p l e R s m args below meth c 3 D cA A n0 s0 QM dm ra jx rm X) : ∀ (σ : Sg) (v1 : Int) (v2 : Int) (g1 : rng v1) (g2 : rng v2), w_X16_passOver_179 ra jx rm Q X σ v1 v2 → RG σ → Shp dm ra jx rm σ → JJ p l e R s m args below meth c 3 D cA A n0 s0 QM σ 179 [(0, .ref rm), (1, .int (i32 v1)), (2, .int (i32 v2))] [] := by
  intro σ v1 v2 g1 g2 h hGσ hS H locs ls hH hl hc
  have B := K.1
  unfold w_X16_passOver_179 at h
  refine lv_aload_n B.1 B.2.1 dX16_passOver_179 rfl (lv_at hl 0 rfl) ?_
  refine lv_iload_n B.1 B.2.1 dX16_passOver_180 rfl (lv_at hl 1 rfl) ?_
  refine lv_iload_n B.1 B.2.1 dX16_passOver_181 rfl (lv_at hl 2 rfl) ?_
  refine c_V B hH hl hc K.2.2.1 (C := RX16) (T := TX16) (N := 123) (ci := 16) (As := [.int (i32 v1), .int (i32 v2)]) (ok_X16_passTop K.2.1 σ v1 v2 g1 g2 hGσ hS h) wc_X16_934 2 hd_X16_passTop ⟨Nat.le_trans (Nat.le_of_ble_eq_true rfl) K.2.2.2.1, Nat.le_trans (Nat.le_of_ble_eq_true rfl) K.2.2.2.2.1⟩ hS.1.1 hS.1.2 (by decide) rfl rfl (rest := []) rfl (Nat.le_of_ble_eq_true rfl) dX16_passOver_182 (fun σ43 w hq => ?_) (fun σ9 E9 hx9 => hX σ9 E9 _ _ _ (tb_out K.2.2.2.2.2 rfl) hx9.1 hx9.2.1 hx9.2.2)
  obtain ⟨rfl, h, hGσ43, hS⟩ := hq
  intro H locs ls hH hl hc
  refine W.eq (g2 := F0 m 185 ls []) (rfl) ?_
  try dsimp only at h
  refine lv_goto (tgt := 188) B.1 B.2.1 dX16_passOver_185 (by decide) ?_
  exact a_X16_passOver_188 K hQ hX _ h hGσ43 hS _ _ _ hH (lv_sub (l' := [(0, .ref rm)]) hl [0] rfl) hc
set_option maxRecDepth 20000 in
theorem a_X16_passOver_0 {Q : Sg → Unit → Prop} {X : Sg → String → Prop} (K : MC R p s m args c cX16_passOver 3 RX16 D cA tys A n0 s0 4 115 []) (hQ : HQV p l e R s m args below meth c cX16_passOver D cA A n0 s0 QM dm ra jx rm Q) (hX : HX p l e R s m args below meth c 3 D cA A n0 s0 QM dm ra jx rm X) : ∀ (σ : Sg) (v1 : Int) (g1 : rng v1), w_X16_passOver_0 ra jx rm Q X σ v1 → RG σ → Shp dm ra jx rm σ → JJ p l e R s m args below meth c 3 D cA A n0 s0 QM σ 0 [(0, .ref rm), (1, .int (i32 v1))] [] := by
  intro σ v1 g1 h hGσ hS H locs ls hH hl hc
  have B := K.1
  unfold w_X16_passOver_0 at h
  refine lv_aload_n B.1 B.2.1 dX16_passOver_0 rfl (lv_at hl 0 rfl) ?_
  refine r_getp B hH hS 17 (by decide) wf_X16_356 rfl rfl dX16_passOver_1 ?_
  obtain ⟨a44, ea44, ja44, h⟩ := h
  refine W.eq (g2 := F0 m 4 ls [.ref a44]) (by rw [ea44]; rfl) ?_
  refine n_arr B hH hS ja44 4 (kd := 100) (n := 16) (by decide) (by decide) (List.mem_of_getElem? (i := 4) rfl) rfl dX16_passOver_4 ?_
  refine lv_iload_n B.1 B.2.1 dX16_passOver_7 rfl (lv_at hl 1 rfl) ?_
  obtain ⟨q2, h⟩ := h
  refine x_iald B K.2.1 hH (hS.ja ja44 (k := 4) (kd := 100) (n := 16) (by decide)) (by decide) q2 dX16_passOver_8 ?_
  refine lv_istore_n (lv' := [(2, .int (i32 (gI σ (jx a44 4) v1.toNat))), (0, .ref rm), (1, .int (i32 v1))]) B.1 B.2.1 dX16_passOver_9 rfl hl (by decide) rfl (fun ls hl => ?_)
  refine lv_aload_n B.1 B.2.1 dX16_passOver_10 rfl (lv_at hl 1 rfl) ?_
  refine r_getp B hH hS 17 (by decide) wf_X16_356 rfl rfl dX16_passOver_11 ?_
  obtain ⟨a45, ea45, ja45, h⟩ := h
  refine W.eq (g2 := F0 m 14 ls [.ref a45]) (by rw [ea45]; rfl) ?_
  refine n_arr B hH hS ja45 2 (kd := 100) (n := 16) (by decide) (by decide) (List.mem_of_getElem? (i := 2) rfl) rfl dX16_passOver_14 ?_
  refine lv_iload_n B.1 B.2.1 dX16_passOver_17 rfl (lv_at hl 2 rfl) ?_
  obtain ⟨q4, h⟩ := h
  refine x_iald B K.2.1 hH (hS.ja ja45 (k := 2) (kd := 100) (n := 16) (by decide)) (by decide) q4 dX16_passOver_18 ?_
  rcases Classical.em ((gI σ (jx a45 2) v1.toNat) = 0) with e9 | e9
  · rw [if_pos e9] at h
    refine lv_tableIn (off := 57) (tgt := 76) B.1 B.2.1 dX16_passOver_19 (by rw [i32_toInt (hGσ _ _), e9]; decide) (by rw [i32_toInt (hGσ _ _), e9]; decide) (by rw [i32_toInt (hGσ _ _), e9]; rfl) (by decide) ?_
    exact a_X16_passOver_76 K hQ hX _ _ g1 h hGσ hS _ _ _ hH (lv_sub (l' := [(0, .ref rm), (1, .int (i32 v1))]) hl [1, 2] rfl) hc
  rw [if_neg e9] at h
  have k5 := e9
  rcases Classical.em ((gI σ (jx a45 2) v1.toNat) = 1) with e9 | e9
  · rw [if_pos e9] at h
    refine lv_tableIn (off := 65) (tgt := 84) B.1 B.2.1 dX16_passOver_19 (by rw [i32_toInt (hGσ _ _), e9]; decide) (by rw [i32_toInt (hGσ _ _), e9]; decide) (by rw [i32_toInt (hGσ _ _), e9]; rfl) (by decide) ?_
    exact a_X16_passOver_84 K hQ hX _ _ _ g1 (hGσ _ _) h hGσ hS _ _ _ hH (lv_sub (l' := [(0, .ref rm), (1, .int (i32 v1)), (2, .int (i32 (gI σ (jx a44 4) v1.toNat)))]) hl [1, 2, 0] rfl) hc
  rw [if_neg e9] at h
  have k6 := e9
  rcases Classical.em ((gI σ (jx a45 2) v1.toNat) = 2) with e9 | e9
  · rw [if_pos e9] at h
    refine lv_tableIn (off := 65) (tgt := 84) B.1 B.2.1 dX16_passOver_19 (by rw [i32_toInt (hGσ _ _), e9]; decide) (by rw [i32_toInt (hGσ _ _), e9]; decide) (by rw [i32_toInt (hGσ _ _), e9]; rfl) (by decide) ?_
    exact a_X16_passOver_84 K hQ hX _ _ _ g1 (hGσ _ _) h hGσ hS _ _ _ hH (lv_sub (l' := [(0, .ref rm), (1, .int (i32 v1)), (2, .int (i32 (gI σ (jx a44 4) v1.toNat)))]) hl [1, 2, 0] rfl) hc
  rw [if_neg e9] at h
  have k7 := e9
  rcases Classical.em ((gI σ (jx a45 2) v1.toNat) = 3) with e9 | e9
  · rw [if_pos e9] at h
    refine lv_tableIn (off := 74) (tgt := 93) B.1 B.2.1 dX16_passOver_19 (by rw [i32_toInt (hGσ _ _), e9]; decide) (by rw [i32_toInt (hGσ _ _), e9]; decide) (by rw [i32_toInt (hGσ _ _), e9]; rfl) (by decide) ?_
    exact a_X16_passOver_93 K hQ hX _ _ _ g1 (hGσ _ _) h hGσ hS _ _ _ hH (lv_sub (l' := [(0, .ref rm), (1, .int (i32 v1)), (2, .int (i32 (gI σ (jx a44 4) v1.toNat)))]) hl [1, 2, 0] rfl) hc
  rw [if_neg e9] at h
  have k8 := e9
  rcases Classical.em ((gI σ (jx a45 2) v1.toNat) = 4) with e9 | e9
  · rw [if_pos e9] at h
    refine lv_tableIn (off := 97) (tgt := 116) B.1 B.2.1 dX16_passOver_19 (by rw [i32_toInt (hGσ _ _), e9]; decide) (by rw [i32_toInt (hGσ _ _), e9]; decide) (by rw [i32_toInt (hGσ _ _), e9]; rfl) (by decide) ?_
    exact a_X16_passOver_116 K hQ hX _ _ _ g1 (hGσ _ _) h hGσ hS _ _ _ hH (lv_sub (l' := [(0, .ref rm), (1, .int (i32 v1)), (2, .int (i32 (gI σ (jx a44 4) v1.toNat)))]) hl [1, 2, 0] rfl) hc
  rw [if_neg e9] at h
  have k9 := e9
  rcases Classical.em ((gI σ (jx a45 2) v1.toNat) = 5) with e9 | e9
  · rw [if_pos e9] at h
    refine lv_tableIn (off := 97) (tgt := 116) B.1 B.2.1 dX16_passOver_19 (by rw [i32_toInt (hGσ _ _), e9]; decide) (by rw [i32_toInt (hGσ _ _), e9]; decide) (by rw [i32_toInt (hGσ _ _), e9]; rfl) (by decide) ?_
    exact a_X16_passOver_116 K hQ hX _ _ _ g1 (hGσ _ _) h hGσ hS _ _ _ hH (lv_sub (l' := [(0, .ref rm), (1, .int (i32 v1)), (2, .int (i32 (gI σ (jx a44 4) v1.toNat)))]) hl [1, 2, 0] rfl) hc
  rw [if_neg e9] at h
  have k10 := e9
  rcases Classical.em ((gI σ (jx a45 2) v1.toNat) = 6) with e9 | e9
  · rw [if_pos e9] at h
    refine lv_tableIn (off := 106) (tgt := 125) B.1 B.2.1 dX16_passOver_19 (by rw [i32_toInt (hGσ _ _), e9]; decide) (by rw [i32_toInt (hGσ _ _), e9]; decide) (by rw [i32_toInt (hGσ _ _), e9]; rfl) (by decide) ?_
    exact a_X16_passOver_125 K hQ hX _ _ _ g1 (hGσ _ _) h hGσ hS _ _ _ hH (lv_sub (l' := [(0, .ref rm), (1, .int (i32 v1)), (2, .int (i32 (gI σ (jx a44 4) v1.toNat)))]) hl [1, 2, 0] rfl) hc
  rw [if_neg e9] at h
  have k11 := e9
  rcases Classical.em ((gI σ (jx a45 2) v1.toNat) = 7) with e9 | e9
  · rw [if_pos e9] at h
    refine lv_tableIn (off := 124) (tgt := 143) B.1 B.2.1 dX16_passOver_19 (by rw [i32_toInt (hGσ _ _), e9]; decide) (by rw [i32_toInt (hGσ _ _), e9]; decide) (by rw [i32_toInt (hGσ _ _), e9]; rfl) (by decide) ?_
    exact a_X16_passOver_143 K hQ hX _ _ _ g1 (hGσ _ _) h hGσ hS _ _ _ hH (lv_sub (l' := [(0, .ref rm), (1, .int (i32 v1)), (2, .int (i32 (gI σ (jx a44 4) v1.toNat)))]) hl [1, 2, 0] rfl) hc
  rw [if_neg e9] at h
  have k12 := e9
  rcases Classical.em ((gI σ (jx a45 2) v1.toNat) = 8) with e9 | e9
  · rw [if_pos e9] at h
    refine lv_tableIn (off := 142) (tgt := 161) B.1 B.2.1 dX16_passOver_19 (by rw [i32_toInt (hGσ _ _), e9]; decide) (by rw [i32_toInt (hGσ _ _), e9]; decide) (by rw [i32_toInt (hGσ _ _), e9]; rfl) (by decide) ?_
    exact a_X16_passOver_161 K hQ hX _ _ _ g1 (hGσ _ _) h hGσ hS _ _ _ hH (lv_sub (l' := [(0, .ref rm), (1, .int (i32 v1)), (2, .int (i32 (gI σ (jx a44 4) v1.toNat)))]) hl [1, 2, 0] rfl) hc
  rw [if_neg e9] at h
  have k13 := e9
  rcases Classical.em ((gI σ (jx a45 2) v1.toNat) = 9) with e9 | e9
  · rw [if_pos e9] at h
    refine lv_tableIn (off := 151) (tgt := 170) B.1 B.2.1 dX16_passOver_19 (by rw [i32_toInt (hGσ _ _), e9]; decide) (by rw [i32_toInt (hGσ _ _), e9]; decide) (by rw [i32_toInt (hGσ _ _), e9]; rfl) (by decide) ?_
    exact a_X16_passOver_170 K hQ hX _ _ _ g1 (hGσ _ _) h hGσ hS _ _ _ hH (lv_sub (l' := [(0, .ref rm), (1, .int (i32 v1)), (2, .int (i32 (gI σ (jx a44 4) v1.toNat)))]) hl [1, 2, 0] rfl) hc
  rw [if_neg e9] at h
  have k14 := e9
  rcases Classical.em ((gI σ (jx a45 2) v1.toNat) = 10) with e9 | e9
  · rw [if_pos e9] at h
    refine lv_tableIn (off := 160) (tgt := 179) B.1 B.2.1 dX16_passOver_19 (by rw [i32_toInt (hGσ _ _), e9]; decide) (by rw [i32_toInt (hGσ _ _), e9]; decide) (by rw [i32_toInt (hGσ _ _), e9]; rfl) (by decide) ?_
    exact a_X16_passOver_179 K hQ hX _ _ _ g1 (hGσ _ _) h hGσ hS _ _ _ hH (lv_sub (l' := [(0, .ref rm), (1, .int (i32 v1)), (2, .int (i32 (gI σ (jx a44 4) v1.toNat)))]) hl [1, 2, 0] rfl) hc
  rw [if_neg e9] at h
  have k15 := e9
  rcases (show ((gI σ (jx a45 2) v1.toNat) < 0 ∨ 10 < (gI σ (jx a45 2) v1.toNat)) ∨ False by omega) with e9 | e9
  · refine lv_tableOut (tgt := 188) B.1 B.2.1 dX16_passOver_19 (by rw [i32_toInt (hGσ _ _)]; exact e9) (by decide) ?_
    exact a_X16_passOver_188 K hQ hX _ h hGσ hS _ _ _ hH (lv_sub (l' := [(0, .ref rm)]) hl [1] rfl) hc
  exact e9.elim
theorem ok_X16_passOver (hT : Tys cA tys) {Q : Sg → Unit → Prop} {X : Sg → String → Prop} (σ : Sg) (v1 : Int) (g1 : rng v1) (hG : RG σ) (hS : Shp dm ra jx rm σ) (h : wp_X16_passOver ra jx rm v1 σ Q X) : Ok l D cA tys A yX16_passOver (.code yX16_passOver cX16_passOver 3 none) 4 115 [.ref rm, .int (i32 v1)] σ (QnV dm ra jx rm Q) (QxR dm ra jx rm X) := by
  unfold wp_X16_passOver at h
  exact ok_V (plainFor_of_name (by decide)) (by exact Nat.le_of_ble_eq_true rfl) hT (fun p e R s m args below meth c K hQ hX H locs ls hH hl hc => a_X16_passOver_0 K hQ hX σ v1 g1 h hG hS H locs ls hH (lv_sub (l' := [(0, .ref rm), (1, .int (i32 v1))]) hl [0, 1] rfl) hc)
theorem dX16_isRight_0 : decode cX16_isRight 0 = .ok (.aload_n 0, 1) := by decide +kernel
theorem dX16_isRight_1 : decode cX16_isRight 1 = .ok (.iconst 0, 1) := by decide +kernel
theorem dX16_isRight_2 : decode cX16_isRight 2 = .ok (.putfield 861, 3) := by decide +kernel
theorem dX16_isRight_5 : decode cX16_isRight 5 = .ok (.iconst 0, 1) := by decide +kernel
theorem dX16_isRight_6 : decode cX16_isRight 6 = .ok (.istore_n 1, 1) := by decide +kernel
theorem dX16_isRight_7 : decode cX16_isRight 7 = .ok (.iload_n 1, 1) := by decide +kernel
theorem dX16_isRight_8 : decode cX16_isRight 8 = .ok (.aload_n 0, 1) := by decide +kernel
theorem dX16_isRight_9 : decode cX16_isRight 9 = .ok (.getfield 356, 3) := by decide +kernel
theorem dX16_isRight_12 : decode cX16_isRight 12 = .ok (.getfield 316, 3) := by decide +kernel
theorem dX16_isRight_15 : decode cX16_isRight 15 = .ok (.if_icmp .ge 36, 3) := by decide +kernel
theorem dX16_isRight_18 : decode cX16_isRight 18 = .ok (.aload_n 0, 1) := by decide +kernel
theorem dX16_isRight_19 : decode cX16_isRight 19 = .ok (.getfield 874, 3) := by decide +kernel
theorem dX16_isRight_22 : decode cX16_isRight 22 = .ok (.iload_n 1, 1) := by decide +kernel
theorem dX16_isRight_23 : decode cX16_isRight 23 = .ok (.aload_n 0, 1) := by decide +kernel
theorem dX16_isRight_24 : decode cX16_isRight 24 = .ok (.getfield 861, 3) := by decide +kernel
theorem dX16_isRight_27 : decode cX16_isRight 27 = .ok (.iastore, 1) := by decide +kernel
theorem dX16_isRight_28 : decode cX16_isRight 28 = .ok (.aload_n 0, 1) := by decide +kernel
theorem dX16_isRight_29 : decode cX16_isRight 29 = .ok (.iload_n 1, 1) := by decide +kernel
theorem dX16_isRight_30 : decode cX16_isRight 30 = .ok (.invokevirtual 937, 3) := by decide +kernel
theorem dX16_isRight_33 : decode cX16_isRight 33 = .ok (.aload_n 0, 1) := by decide +kernel
theorem dX16_isRight_34 : decode cX16_isRight 34 = .ok (.getfield 874, 3) := by decide +kernel
theorem dX16_isRight_37 : decode cX16_isRight 37 = .ok (.iload_n 1, 1) := by decide +kernel
theorem dX16_isRight_38 : decode cX16_isRight 38 = .ok (.iconst 1, 1) := by decide +kernel
theorem dX16_isRight_39 : decode cX16_isRight 39 = .ok (.iadd, 1) := by decide +kernel
theorem dX16_isRight_40 : decode cX16_isRight 40 = .ok (.aload_n 0, 1) := by decide +kernel
theorem dX16_isRight_41 : decode cX16_isRight 41 = .ok (.getfield 861, 3) := by decide +kernel
theorem dX16_isRight_44 : decode cX16_isRight 44 = .ok (.iastore, 1) := by decide +kernel
theorem dX16_isRight_45 : decode cX16_isRight 45 = .ok (.iinc 1 1, 3) := by decide +kernel
theorem dX16_isRight_48 : decode cX16_isRight 48 = .ok (.goto (-41), 3) := by decide +kernel
theorem dX16_isRight_51 : decode cX16_isRight 51 = .ok (.goto 6, 3) := by decide +kernel
theorem dX16_isRight_54 : decode cX16_isRight 54 = .ok (.astore_n 1, 1) := by decide +kernel
theorem dX16_isRight_55 : decode cX16_isRight 55 = .ok (.iconst 0, 1) := by decide +kernel
theorem dX16_isRight_56 : decode cX16_isRight 56 = .ok (.ireturn, 1) := by decide +kernel
theorem dX16_isRight_57 : decode cX16_isRight 57 = .ok (.iconst 1, 1) := by decide +kernel
theorem dX16_isRight_58 : decode cX16_isRight 58 = .ok (.istore_n 1, 1) := by decide +kernel
theorem dX16_isRight_59 : decode cX16_isRight 59 = .ok (.iconst 0, 1) := by decide +kernel
theorem dX16_isRight_60 : decode cX16_isRight 60 = .ok (.istore_n 2, 1) := by decide +kernel
theorem dX16_isRight_61 : decode cX16_isRight 61 = .ok (.iload_n 2, 1) := by decide +kernel
theorem dX16_isRight_62 : decode cX16_isRight 62 = .ok (.aload_n 0, 1) := by decide +kernel
theorem dX16_isRight_63 : decode cX16_isRight 63 = .ok (.getfield 356, 3) := by decide +kernel
theorem dX16_isRight_66 : decode cX16_isRight 66 = .ok (.getfield 321, 3) := by decide +kernel
theorem dX16_isRight_69 : decode cX16_isRight 69 = .ok (.if_icmp .ge 19, 3) := by decide +kernel
theorem dX16_isRight_72 : decode cX16_isRight 72 = .ok (.iload_n 1, 1) := by decide +kernel
theorem dX16_isRight_73 : decode cX16_isRight 73 = .ok (.ifCond .eq 15, 3) := by decide +kernel
theorem dX16_isRight_76 : decode cX16_isRight 76 = .ok (.aload_n 0, 1) := by decide +kernel
theorem dX16_isRight_77 : decode cX16_isRight 77 = .ok (.iload_n 2, 1) := by decide +kernel
theorem dX16_isRight_78 : decode cX16_isRight 78 = .ok (.invokevirtual 940, 3) := by decide +kernel
theorem dX16_isRight_81 : decode cX16_isRight 81 = .ok (.istore_n 1, 1) := by decide +kernel
theorem dX16_isRight_82 : decode cX16_isRight 82 = .ok (.iinc 2 1, 3) := by decide +kernel
theorem dX16_isRight_85 : decode cX16_isRight 85 = .ok (.goto (-24), 3) := by decide +kernel
theorem dX16_isRight_88 : decode cX16_isRight 88 = .ok (.iload_n 1, 1) := by decide +kernel
theorem dX16_isRight_89 : decode cX16_isRight 89 = .ok (.ireturn, 1) := by decide +kernel
set_option maxRecDepth 20000 in
theorem a_X16_isRight_88 {Q : Sg → Int → Prop} {X : Sg → String → Prop} (K : MC R p s m args c cX16_isRight 3 RX16 D cA tys A n0 s0 5 137 [(5, 51, 54, 829)]) (hQ : HQZ p l e R s m args below meth c cX16_isRight D cA A n0 s0 QM dm ra jx rm Q) (hX : HX p l e R s m args below meth c 3 D cA A n0 s0 QM dm ra jx rm X) : ∀ (σ : Sg) (v1 : Int) (g1 : rng v1), w_X16_isRight_88 ra jx rm Q X σ v1 → RG σ → Shp dm ra jx rm σ → JJ p l e R s m args below meth c 3 D cA A n0 s0 QM σ 88 [(0, .ref rm), (1, .int (i32 v1))] [] := by
  intro σ v1 g1 h hGσ hS H locs ls hH hl hc
  have B := K.1
  unfold w_X16_isRight_88 at h
  refine lv_iload_n B.1 B.2.1 dX16_isRight_88 rfl (lv_at hl 1 rfl) ?_
  obtain ⟨qz, h⟩ := h
  exact hQ _ _ _ _ _ _ g1 qz dX16_isRight_89 hH hc h hGσ hS
set_option maxRecDepth 20000 in
theorem a_X16_isRight_76 {Q : Sg → Int → Prop} {X : Sg → String → Prop} (K : MC R p s m args c cX16_isRight 3 RX16 D cA tys A n0 s0 5 137 [(5, 51, 54, 829)]) (hQ : HQZ p l e R s m args below meth c cX16_isRight D cA A n0 s0 QM dm ra jx rm Q) (hX : HX p l e R s m args below meth c 3 D cA A n0 s0 QM dm ra jx rm X) {K61 : Sg → Int → Int → Prop} (hK61 : ∀ (σ : Sg) (v1 : Int) (v2 : Int) (g1 : rng v1) (g2 : rng v2), K61 σ v1 v2 → RG σ → Shp dm ra jx rm σ → JJ p l e R s m args below meth c 3 D cA A n0 s0 QM σ 61 [(0, .ref rm), (1, .int (i32 v1)), (2, .int (i32 v2))] []) : ∀ (σ : Sg) (v2 : Int) (g2 : rng v2), w_X16_isRight_76 ra jx rm K61 Q X σ v2 → RG σ → Shp dm ra jx rm σ → JJ p l e R s m args below meth c 3 D cA A n0 s0 QM σ 76 [(0, .ref rm), (2, .int (i32 v2))] [] := by
  intro σ v2 g2 h hGσ hS H locs ls hH hl hc
  have B := K.1
  unfold w_X16_isRight_76 at h
  refine lv_aload_n B.1 B.2.1 dX16_isRight_76 rfl (lv_at hl 0 rfl) ?_
  refine lv_iload_n B.1 B.2.1 dX16_isRight_77 rfl (lv_at hl 1 rfl) ?_
  refine c_V B hH hl hc K.2.2.1 (C := RX16) (T := TX16) (N := 123) (ci := 16) (As := [.int (i32 v2)]) (ok_X16_isShown K.2.1 σ v2 g2 hGσ hS h) wc_X16_940 1 hd_X16_isShown ⟨Nat.le_trans (Nat.le_of_ble_eq_true rfl) K.2.2.2.1, Nat.le_trans (Nat.le_of_ble_eq_true rfl) K.2.2.2.2.1⟩ hS.1.1 hS.1.2 (by decide) rfl rfl (rest := []) rfl (Nat.le_of_ble_eq_true rfl) dX16_isRight_78 (fun σ17 w hq => ?_) (fun σ9 E9 hx9 => hX σ9 E9 _ _ _ (tb_out K.2.2.2.2.2 rfl) hx9.1 hx9.2.1 hx9.2.2)
  obtain ⟨r18, rfl, ⟨gr18, gzr18⟩, h, hGσ17, hS⟩ := hq
  intro H locs ls hH hl hc
  refine W.eq (g2 := F0 m 81 ls [.int (i32 r18)]) (rfl) ?_
  try dsimp only at h
  refine lv_istore_n (lv' := [(1, .int (i32 r18)), (0, .ref rm), (2, .int (i32 v2))]) B.1 B.2.1 dX16_isRight_81 rfl hl (by decide) rfl (fun ls hl => ?_)
  obtain ⟨q1, h⟩ := h
  refine lv_iinc (k := 2) (v := i32 (v2 + 1)) (lv' := [(2, .int (i32 (v2 + 1))), (1, .int (i32 r18)), (0, .ref rm)]) B.1 B.2.1 dX16_isRight_82 hl rfl (i32_add _ _) (by decide) rfl (fun ls hl => ?_)
  refine lv_goto (tgt := 61) B.1 B.2.1 dX16_isRight_85 (by decide) ?_
  exact hK61 _ _ _ gr18 q1 h hGσ17 hS _ _ _ hH (lv_sub (l' := [(0, .ref rm), (1, .int (i32 r18)), (2, .int (i32 (v2 + 1)))]) hl [2, 1, 0] rfl) hc
set_option maxRecDepth 20000 in
theorem a_X16_isRight_72 {Q : Sg → Int → Prop} {X : Sg → String → Prop} (K : MC R p s m args c cX16_isRight 3 RX16 D cA tys A n0 s0 5 137 [(5, 51, 54, 829)]) (hQ : HQZ p l e R s m args below meth c cX16_isRight D cA A n0 s0 QM dm ra jx rm Q) (hX : HX p l e R s m args below meth c 3 D cA A n0 s0 QM dm ra jx rm X) {K61 : Sg → Int → Int → Prop} (hK61 : ∀ (σ : Sg) (v1 : Int) (v2 : Int) (g1 : rng v1) (g2 : rng v2), K61 σ v1 v2 → RG σ → Shp dm ra jx rm σ → JJ p l e R s m args below meth c 3 D cA A n0 s0 QM σ 61 [(0, .ref rm), (1, .int (i32 v1)), (2, .int (i32 v2))] []) : ∀ (σ : Sg) (v1 : Int) (v2 : Int) (g1 : rng v1) (g2 : rng v2), w_X16_isRight_72 ra jx rm K61 Q X σ v1 v2 → RG σ → Shp dm ra jx rm σ → JJ p l e R s m args below meth c 3 D cA A n0 s0 QM σ 72 [(0, .ref rm), (1, .int (i32 v1)), (2, .int (i32 v2))] [] := by
  intro σ v1 v2 g1 g2 h hGσ hS H locs ls hH hl hc
  have B := K.1
  unfold w_X16_isRight_72 at h
  refine lv_iload_n B.1 B.2.1 dX16_isRight_72 rfl (lv_at hl 1 rfl) ?_
  refine lv_if_eq (tgt := 88) B.1 B.2.1 dX16_isRight_73 (by decide) (fun h9 => ?_) (fun h9 => ?_)
  · rw [if_pos ((z_eq g1).mp h9)] at h
    exact a_X16_isRight_88 K hQ hX _ _ g1 h hGσ hS _ _ _ hH (lv_sub (l' := [(0, .ref rm), (1, .int (i32 v1))]) hl [0, 1] rfl) hc
  · rw [if_neg (fun q => h9 ((z_eq g1).mpr q))] at h
    exact a_X16_isRight_76 K hQ hX hK61 _ _ g2 h hGσ hS _ _ _ hH (lv_sub (l' := [(0, .ref rm), (2, .int (i32 v2))]) hl [0, 2] rfl) hc
set_option maxRecDepth 20000 in
theorem a_X16_isRight_61 {Q : Sg → Int → Prop} {X : Sg → String → Prop} (K : MC R p s m args c cX16_isRight 3 RX16 D cA tys A n0 s0 5 137 [(5, 51, 54, 829)]) (hQ : HQZ p l e R s m args below meth c cX16_isRight D cA A n0 s0 QM dm ra jx rm Q) (hX : HX p l e R s m args below meth c 3 D cA A n0 s0 QM dm ra jx rm X) {K61 : Sg → Int → Int → Prop} (hK61 : ∀ (σ : Sg) (v1 : Int) (v2 : Int) (g1 : rng v1) (g2 : rng v2), K61 σ v1 v2 → RG σ → Shp dm ra jx rm σ → JJ p l e R s m args below meth c 3 D cA A n0 s0 QM σ 61 [(0, .ref rm), (1, .int (i32 v1)), (2, .int (i32 v2))] []) : ∀ (σ : Sg) (v1 : Int) (v2 : Int) (g1 : rng v1) (g2 : rng v2), w_X16_isRight_61 ra jx rm K61 Q X σ v1 v2 → RG σ → Shp dm ra jx rm σ → JJ p l e R s m args below meth c 3 D cA A n0 s0 QM σ 61 [(0, .ref rm), (1, .int (i32 v1)), (2, .int (i32 v2))] [] := by
  intro σ v1 v2 g1 g2 h hGσ hS H locs ls hH hl hc
  have B := K.1
  unfold w_X16_isRight_61 at h
  refine lv_iload_n B.1 B.2.1 dX16_isRight_61 rfl (lv_at hl 2 rfl) ?_
  refine lv_aload_n B.1 B.2.1 dX16_isRight_62 rfl (lv_at hl 0 rfl) ?_
  refine r_getp B hH hS 17 (by decide) wf_X16_356 rfl rfl dX16_isRight_63 ?_
  obtain ⟨a19, ea19, ja19, h⟩ := h
  refine W.eq (g2 := F0 m 66 ls [.ref a19, .int (i32 v2)]) (by rw [ea19]; rfl) ?_
  refine n_geti B hH hS ja19 1 (by decide) (List.mem_of_getElem? (i := 1) rfl) rfl dX16_isRight_66 ?_
  refine lv_icmp_ge (tgt := 88) B.1 B.2.1 dX16_isRight_69 (by decide) (fun h9 => ?_) (fun h9 => ?_)
  · rw [if_pos ((i32_le (hGσ _ _) g2).mp h9)] at h
    exact a_X16_isRight_88 K hQ hX _ _ g1 h hGσ hS _ _ _ hH (lv_sub (l' := [(0, .ref rm), (1, .int (i32 v1))]) hl [0, 1] rfl) hc
  · rw [if_neg (fun q => h9 ((i32_le (hGσ _ _) g2).mpr q))] at h
    exact a_X16_isRight_72 K hQ hX hK61 _ _ _ g1 g2 h hGσ hS _ _ _ hH (lv_sub (l' := [(0, .ref rm), (1, .int (i32 v1)), (2, .int (i32 v2))]) hl [0, 1, 2] rfl) hc
theorem al_X16_isRight_61 {Q : Sg → Int → Prop} {X : Sg → String → Prop} (K : MC R p s m args c cX16_isRight 3 RX16 D cA tys A n0 s0 5 137 [(5, 51, 54, 829)]) (hQ : HQZ p l e R s m args below meth c cX16_isRight D cA A n0 s0 QM dm ra jx rm Q) (hX : HX p l e R s m args below meth c 3 D cA A n0 s0 QM dm ra jx rm X) : ∀ (n : Nat), ∀ (σ : Sg) (v1 : Int) (v2 : Int) (g1 : rng v1) (g2 : rng v2), wl_X16_isRight_61 ra jx rm Q X n σ v1 v2 → RG σ → Shp dm ra jx rm σ → JJ p l e R s m args below meth c 3 D cA A n0 s0 QM σ 61 [(0, .ref rm), (1, .int (i32 v1)), (2, .int (i32 v2))] [] := by
  intro n
  induction n with
  | zero => intro σ v1 v2 g1 g2 h; exact h.elim
  | succ n ih => exact fun σ v1 v2 g1 g2 h => a_X16_isRight_61 K hQ hX ih σ v1 v2 g1 g2 h
set_option maxRecDepth 20000 in
theorem a_X16_isRight_57 {Q : Sg → Int → Prop} {X : Sg → String → Prop} (K : MC R p s m args c cX16_isRight 3 RX16 D cA tys A n0 s0 5 137 [(5, 51, 54, 829)]) (hQ : HQZ p l e R s m args below meth c cX16_isRight D cA A n0 s0 QM dm ra jx rm Q) (hX : HX p l e R s m args below meth c 3 D cA A n0 s0 QM dm ra jx rm X) : ∀ (σ : Sg), w_X16_isRight_57 ra jx rm Q X σ → RG σ → Shp dm ra jx rm σ → JJ p l e R s m args below meth c 3 D cA A n0 s0 QM σ 57 [(0, .ref rm)] [] := by
  intro σ h hGσ hS H locs ls hH hl hc
  have B := K.1
  unfold w_X16_isRight_57 at h
  refine lv_iconst (v := i32 1) B.1 B.2.1 dX16_isRight_57 (by decide) ?_
  refine lv_istore_n (lv' := [(1, .int (i32 1)), (0, .ref rm)]) B.1 B.2.1 dX16_isRight_58 rfl hl (by decide) rfl (fun ls hl => ?_)
  refine lv_iconst (v := i32 0) B.1 B.2.1 dX16_isRight_59 (by decide) ?_
  refine lv_istore_n (lv' := [(2, .int (i32 0)), (1, .int (i32 1)), (0, .ref rm)]) B.1 B.2.1 dX16_isRight_60 rfl hl (by decide) rfl (fun ls hl => ?_)
  obtain ⟨n9, h⟩ := h
  exact al_X16_isRight_61 K hQ hX n9 _ _ _ (by unfold rng; omega) (by unfold rng; omega) h hGσ hS _ _ _ hH (lv_sub (l' := [(0, .ref rm), (1, .int (i32 1)), (2, .int (i32 0))]) hl [2, 1, 0] rfl) hc
set_option maxRecDepth 20000 in
theorem a_X16_isRight_51 {Q : Sg → Int → Prop} {X : Sg → String → Prop} (K : MC R p s m args c cX16_isRight 3 RX16 D cA tys A n0 s0 5 137 [(5, 51, 54, 829)]) (hQ : HQZ p l e R s m args below meth c cX16_isRight D cA A n0 s0 QM dm ra jx rm Q) (hX : HX p l e R s m args below meth c 3 D cA A n0 s0 QM dm ra jx rm X) : ∀ (σ : Sg), w_X16_isRight_51 ra jx rm Q X σ → RG σ → Shp dm ra jx rm σ → JJ p l e R s m args below meth c 3 D cA A n0 s0 QM σ 51 [(0, .ref rm)] [] := by
  intro σ h hGσ hS H locs ls hH hl hc
  have B := K.1
  unfold w_X16_isRight_51 at h
  refine lv_goto (tgt := 57) B.1 B.2.1 dX16_isRight_51 (by decide) ?_
  exact a_X16_isRight_57 K hQ hX _ h hGσ hS _ _ _ hH (lv_sub (l' := [(0, .ref rm)]) hl [0] rfl) hc
set_option maxRecDepth 20000 in
theorem a_X16_isRight_54 {Q : Sg → Int → Prop} {X : Sg → String → Prop} (K : MC R p s m args c cX16_isRight 3 RX16 D cA tys A n0 s0 5 137 [(5, 51, 54, 829)]) (hQ : HQZ p l e R s m args below meth c cX16_isRight D cA A n0 s0 QM dm ra jx rm Q) (hX : HX p l e R s m args below meth c 3 D cA A n0 s0 QM dm ra jx rm X) : ∀ (σ : Sg) (u0 : Option Nat), w_X16_isRight_54 ra jx rm Q X σ u0 → RG σ → Shp dm ra jx rm σ → JJ p l e R s m args below meth c 3 D cA A n0 s0 QM σ 54 [(0, .ref rm)] [va_rf u0] := by
  intro σ u0 h hGσ hS H locs ls hH hl hc
  have B := K.1
  unfold w_X16_isRight_54 at h
  refine lv_astore_nQ (lv' := [(1, va_rf u0), (0, .ref rm)]) B.1 B.2.1 dX16_isRight_54 rfl hl (by decide) rfl (fun ls hl => ?_)
  refine lv_iconst (v := i32 0) B.1 B.2.1 dX16_isRight_55 (by decide) ?_
  exact hQ _ _ _ _ _ _ (by unfold rng; omega) (Or.inl rfl) dX16_isRight_56 hH hc h hGσ hS
set_option maxRecDepth 20000 in
theorem a_X16_isRight_18 {Q : Sg → Int → Prop} {X : Sg → String → Prop} (K : MC R p s m args c cX16_isRight 3 RX16 D cA tys A n0 s0 5 137 [(5, 51, 54, 829)]) (hQ : HQZ p l e R s m args below meth c cX16_isRight D cA A n0 s0 QM dm ra jx rm Q) (hX : HX p l e R s m args below meth c 3 D cA A n0 s0 QM dm ra jx rm X) {K7 : Sg → Int → Prop} (hK7 : ∀ (σ : Sg) (v1 : Int) (g1 : rng v1), K7 σ v1 → RG σ → Shp dm ra jx rm σ → JJ p l e R s m args below meth c 3 D cA A n0 s0 QM σ 7 [(0, .ref rm), (1, .int (i32 v1))] []) : ∀ (σ : Sg) (v1 : Int) (g1 : rng v1), w_X16_isRight_18 ra jx rm K7 Q X σ v1 → RG σ → Shp dm ra jx rm σ → JJ p l e R s m args below meth c 3 D cA A n0 s0 QM σ 18 [(0, .ref rm), (1, .int (i32 v1))] [] := by
  intro σ v1 g1 h hGσ hS H locs ls hH hl hc
  have B := K.1
  unfold w_X16_isRight_18 at h
  refine lv_aload_n B.1 B.2.1 dX16_isRight_18 rfl (lv_at hl 0 rfl) ?_
  refine r_arr B hH hS 118 (kd := 100) (n := 17) (by decide) (by decide) wf_X16_874 rfl rfl dX16_isRight_19 ?_
  refine lv_iload_n B.1 B.2.1 dX16_isRight_22 rfl (lv_at hl 1 rfl) ?_
  refine lv_aload_n B.1 B.2.1 dX16_isRight_23 rfl (lv_at hl 0 rfl) ?_
  refine r_geti B hH hS 117 (by decide) wf_X16_861 rfl rfl dX16_isRight_24 ?_
  obtain ⟨q1, h⟩ := h
  obtain ⟨σ20, eσ20⟩ : ∃ z, z = pI σ (ra 118) v1.toNat (gI σ rm 117) := ⟨_, rfl⟩
  have h := h σ20 eσ20
  refine x_iast B K.2.1 hH (hS.ar (k := 118) (kd := 100) (n := 17) (by decide)) (by decide) q1 dX16_isRight_27 (fun H locs hH => ?_)
  have hH : Hd D cA A s (pI σ (ra 118) v1.toNat (gI σ rm 117)) H locs := hH
  rw [← eσ20] at hH
  have hGσ20 : RG σ20 := by rw [eσ20]; exact hGσ.pI (hGσ _ _)
  have hS : Shp dm ra jx rm σ20 := by rw [eσ20]; exact hS
  have hc : CB n0 s0 σ20 := by rw [eσ20]; exact hc
  rw [show gc σ = gc σ20 by rw [eσ20], show gs σ = gs σ20 by rw [eσ20]]
  refine lv_aload_n B.1 B.2.1 dX16_isRight_28 rfl (lv_at hl 0 rfl) ?_
  refine lv_iload_n B.1 B.2.1 dX16_isRight_29 rfl (lv_at hl 1 rfl) ?_
  refine c_V B hH hl hc K.2.2.1 (C := RX16) (T := TX16) (N := 123) (ci := 16) (As := [.int (i32 v1)]) (ok_X16_passOver K.2.1 σ20 v1 g1 hGσ20 hS h) wc_X16_937 1 hd_X16_passOver ⟨Nat.le_trans (Nat.le_of_ble_eq_true rfl) K.2.2.2.1, Nat.le_trans (Nat.le_of_ble_eq_true rfl) K.2.2.2.2.1⟩ hS.1.1 hS.1.2 (by decide) rfl rfl (rest := []) rfl (Nat.le_of_ble_eq_true rfl) dX16_isRight_30 (fun σ21 w hq => ?_) (fun σ9 E9 hx9 => (by obtain ⟨⟨rfl, h⟩, hG9, hS9⟩ := hx9; exact h_catchP B [] (K.2.2.2.2.2.trans rfl) rfl rfl (by decide) wl_X16_829 (by decide) (fun q9 H locs ls hH hl hc => a_X16_isRight_54 K hQ hX σ9 (some q9) (h (some q9)) hG9 hS9 H locs ls hH (lv_sub (l' := [(0, .ref rm)]) hl [0] rfl) hc)))
  obtain ⟨rfl, h, hGσ21, hS⟩ := hq
  intro H locs ls hH hl hc
  refine W.eq (g2 := F0 m 33 ls []) (rfl) ?_
  try dsimp only at h
  refine lv_aload_n B.1 B.2.1 dX16_isRight_33 rfl (lv_at hl 0 rfl) ?_
  refine r_arr B hH hS 118 (kd := 100) (n := 17) (by decide) (by decide) wf_X16_874 rfl rfl dX16_isRight_34 ?_
  refine lv_iload_n B.1 B.2.1 dX16_isRight_37 rfl (lv_at hl 1 rfl) ?_
  refine lv_iconst (v := i32 1) B.1 B.2.1 dX16_isRight_38 (by decide) ?_
  obtain ⟨q3, h⟩ := h
  refine lv_iadd B.1 B.2.1 dX16_isRight_39 ?_
  rw [i32_add]
  refine lv_aload_n B.1 B.2.1 dX16_isRight_40 rfl (lv_at hl 0 rfl) ?_
  refine r_geti B hH hS 117 (by decide) wf_X16_861 rfl rfl dX16_isRight_41 ?_
  obtain ⟨q4, h⟩ := h
  obtain ⟨σ22, eσ22⟩ : ∃ z, z = pI σ21 (ra 118) (v1 + 1).toNat (gI σ21 rm 117) := ⟨_, rfl⟩
  have h := h σ22 eσ22
  refine x_iast B K.2.1 hH (hS.ar (k := 118) (kd := 100) (n := 17) (by decide)) (by decide) q4 dX16_isRight_44 (fun H locs hH => ?_)
  have hH : Hd D cA A s (pI σ21 (ra 118) (v1 + 1).toNat (gI σ21 rm 117)) H locs := hH
  rw [← eσ22] at hH
  have hGσ22 : RG σ22 := by rw [eσ22]; exact hGσ21.pI (hGσ21 _ _)
  have hS : Shp dm ra jx rm σ22 := by rw [eσ22]; exact hS
  have hc : CB n0 s0 σ22 := by rw [eσ22]; exact hc
  rw [show gc σ21 = gc σ22 by rw [eσ22], show gs σ21 = gs σ22 by rw [eσ22]]
  obtain ⟨q6, h⟩ := h
  refine lv_iinc (k := 1) (v := i32 (v1 + 1)) (lv' := [(1, .int (i32 (v1 + 1))), (0, .ref rm)]) B.1 B.2.1 dX16_isRight_45 hl rfl (i32_add _ _) (by decide) rfl (fun ls hl => ?_)
  refine lv_goto (tgt := 7) B.1 B.2.1 dX16_isRight_48 (by decide) ?_
  exact hK7 _ _ q6 h hGσ22 hS _ _ _ hH (lv_sub (l' := [(0, .ref rm), (1, .int (i32 (v1 + 1)))]) hl [1, 0] rfl) hc
set_option maxRecDepth 20000 in
theorem a_X16_isRight_7 {Q : Sg → Int → Prop} {X : Sg → String → Prop} (K : MC R p s m args c cX16_isRight 3 RX16 D cA tys A n0 s0 5 137 [(5, 51, 54, 829)]) (hQ : HQZ p l e R s m args below meth c cX16_isRight D cA A n0 s0 QM dm ra jx rm Q) (hX : HX p l e R s m args below meth c 3 D cA A n0 s0 QM dm ra jx rm X) {K7 : Sg → Int → Prop} (hK7 : ∀ (σ : Sg) (v1 : Int) (g1 : rng v1), K7 σ v1 → RG σ → Shp dm ra jx rm σ → JJ p l e R s m args below meth c 3 D cA A n0 s0 QM σ 7 [(0, .ref rm), (1, .int (i32 v1))] []) : ∀ (σ : Sg) (v1 : Int) (g1 : rng v1), w_X16_isRight_7 ra jx rm K7 Q X σ v1 → RG σ → Shp dm ra jx rm σ → JJ p l e R s m args below meth c 3 D cA A n0 s0 QM σ 7 [(0, .ref rm), (1, .int (i32 v1))] [] := by
  intro σ v1 g1 h hGσ hS H locs ls hH hl hc
  have B := K.1
  unfold w_X16_isRight_7 at h
  refine lv_iload_n B.1 B.2.1 dX16_isRight_7 rfl (lv_at hl 1 rfl) ?_
  refine lv_aload_n B.1 B.2.1 dX16_isRight_8 rfl (lv_at hl 0 rfl) ?_
  refine r_getp B hH hS 17 (by decide) wf_X16_356 rfl rfl dX16_isRight_9 ?_
  obtain ⟨a23, ea23, ja23, h⟩ := h
  refine W.eq (g2 := F0 m 12 ls [.ref a23, .int (i32 v1)]) (by rw [ea23]; rfl) ?_
  refine n_geti B hH hS ja23 0 (by decide) (List.mem_of_getElem? (i := 0) rfl) rfl dX16_isRight_12 ?_
  refine lv_icmp_ge (tgt := 51) B.1 B.2.1 dX16_isRight_15 (by decide) (fun h9 => ?_) (fun h9 => ?_)
  · rw [if_pos ((i32_le (hGσ _ _) g1).mp h9)] at h
    exact a_X16_isRight_51 K hQ hX _ h hGσ hS _ _ _ hH (lv_sub (l' := [(0, .ref rm)]) hl [0] rfl) hc
  · rw [if_neg (fun q => h9 ((i32_le (hGσ _ _) g1).mpr q))] at h
    exact a_X16_isRight_18 K hQ hX hK7 _ _ g1 h hGσ hS _ _ _ hH (lv_sub (l' := [(0, .ref rm), (1, .int (i32 v1))]) hl [0, 1] rfl) hc
theorem al_X16_isRight_7 {Q : Sg → Int → Prop} {X : Sg → String → Prop} (K : MC R p s m args c cX16_isRight 3 RX16 D cA tys A n0 s0 5 137 [(5, 51, 54, 829)]) (hQ : HQZ p l e R s m args below meth c cX16_isRight D cA A n0 s0 QM dm ra jx rm Q) (hX : HX p l e R s m args below meth c 3 D cA A n0 s0 QM dm ra jx rm X) : ∀ (n : Nat), ∀ (σ : Sg) (v1 : Int) (g1 : rng v1), wl_X16_isRight_7 ra jx rm Q X n σ v1 → RG σ → Shp dm ra jx rm σ → JJ p l e R s m args below meth c 3 D cA A n0 s0 QM σ 7 [(0, .ref rm), (1, .int (i32 v1))] [] := by
  intro n
  induction n with
  | zero => intro σ v1 g1 h; exact h.elim
  | succ n ih => exact fun σ v1 g1 h => a_X16_isRight_7 K hQ hX ih σ v1 g1 h
set_option maxRecDepth 20000 in
theorem a_X16_isRight_5 {Q : Sg → Int → Prop} {X : Sg → String → Prop} (K : MC R p s m args c cX16_isRight 3 RX16 D cA tys A n0 s0 5 137 [(5, 51, 54, 829)]) (hQ : HQZ p l e R s m args below meth c cX16_isRight D cA A n0 s0 QM dm ra jx rm Q) (hX : HX p l e R s m args below meth c 3 D cA A n0 s0 QM dm ra jx rm X) : ∀ (σ : Sg), w_X16_isRight_5 ra jx rm Q X σ → RG σ → Shp dm ra jx rm σ → JJ p l e R s m args below meth c 3 D cA A n0 s0 QM σ 5 [(0, .ref rm)] [] := by
  intro σ h hGσ hS H locs ls hH hl hc
  have B := K.1
  unfold w_X16_isRight_5 at h
  refine lv_iconst (v := i32 0) B.1 B.2.1 dX16_isRight_5 (by decide) ?_
  refine lv_istore_n (lv' := [(1, .int (i32 0)), (0, .ref rm)]) B.1 B.2.1 dX16_isRight_6 rfl hl (by decide) rfl (fun ls hl => ?_)
  obtain ⟨n9, h⟩ := h
  exact al_X16_isRight_7 K hQ hX n9 _ _ (by unfold rng; omega) h hGσ hS _ _ _ hH (lv_sub (l' := [(0, .ref rm), (1, .int (i32 0))]) hl [1, 0] rfl) hc
set_option maxRecDepth 20000 in
theorem a_X16_isRight_0 {Q : Sg → Int → Prop} {X : Sg → String → Prop} (K : MC R p s m args c cX16_isRight 3 RX16 D cA tys A n0 s0 5 137 [(5, 51, 54, 829)]) (hQ : HQZ p l e R s m args below meth c cX16_isRight D cA A n0 s0 QM dm ra jx rm Q) (hX : HX p l e R s m args below meth c 3 D cA A n0 s0 QM dm ra jx rm X) : ∀ (σ : Sg), w_X16_isRight_0 ra jx rm Q X σ → RG σ → Shp dm ra jx rm σ → JJ p l e R s m args below meth c 3 D cA A n0 s0 QM σ 0 [(0, .ref rm)] [] := by
  intro σ h hGσ hS H locs ls hH hl hc
  have B := K.1
  unfold w_X16_isRight_0 at h
  refine lv_aload_n B.1 B.2.1 dX16_isRight_0 rfl (lv_at hl 0 rfl) ?_
  refine lv_iconst (v := i32 0) B.1 B.2.1 dX16_isRight_1 (by decide) ?_
  obtain ⟨σ24, eσ24⟩ : ∃ z, z = pI σ rm 117 0 := ⟨_, rfl⟩
  have h := h σ24 eσ24
  refine r_puti B hH hS 117 (ty := .int) (by decide) wf_X16_861 rfl rfl rfl rfl rfl rfl dX16_isRight_2 (fun H locs hH => ?_)
  have hH : Hd D cA A s (pI σ rm 117 0) H locs := hH
  rw [← eσ24] at hH
  have hGσ24 : RG σ24 := by rw [eσ24]; exact hGσ.pI (by unfold rng; omega)
  have hS : Shp dm ra jx rm σ24 := by rw [eσ24]; exact hS
  have hc : CB n0 s0 σ24 := by rw [eσ24]; exact hc
  rw [show gc σ = gc σ24 by rw [eσ24], show gs σ = gs σ24 by rw [eσ24]]
  exact a_X16_isRight_5 K hQ hX _ h hGσ24 hS _ _ _ hH (lv_sub (l' := [(0, .ref rm)]) hl [0] rfl) hc
theorem ok_X16_isRight (hT : Tys cA tys) {Q : Sg → Int → Prop} {X : Sg → String → Prop} (σ : Sg) (hG : RG σ) (hS : Shp dm ra jx rm σ) (h : wp_X16_isRight ra jx rm σ Q X) : Ok l D cA tys A yX16_isRight (.codeWith yX16_isRight cX16_isRight 3 (some .boolean) [(5, 51, 54, 829)]) 5 137 [.ref rm] σ (QnZ dm ra jx rm Q) (QxR dm ra jx rm X) := by
  unfold wp_X16_isRight at h
  exact ok_ZH (by decide) (plainFor_of_name (by decide)) (by exact Nat.le_of_ble_eq_true rfl) hT (fun p e R s m args below meth c K hQ hX H locs ls hH hl hc => a_X16_isRight_0 K hQ hX σ h hG hS H locs ls hH (lv_sub (l' := [(0, .ref rm)]) hl [0] rfl) hc)
theorem dX16_map_0 : decode cX16_map 0 = .ok (.aload_n 0, 1) := by decide +kernel
theorem dX16_map_1 : decode cX16_map 1 = .ok (.invokevirtual 213, 3) := by decide +kernel
theorem dX16_map_4 : decode cX16_map 4 = .ok (.istore_n 2, 1) := by decide +kernel
theorem dX16_map_5 : decode cX16_map 5 = .ok (.aload_n 0, 1) := by decide +kernel
theorem dX16_map_6 : decode cX16_map 6 = .ok (.getfield 118, 3) := by decide +kernel
theorem dX16_map_9 : decode cX16_map 9 = .ok (.getfield 216, 3) := by decide +kernel
theorem dX16_map_12 : decode cX16_map 12 = .ok (.iload_n 1, 1) := by decide +kernel
theorem dX16_map_13 : decode cX16_map 13 = .ok (.iload_n 2, 1) := by decide +kernel
theorem dX16_map_14 : decode cX16_map 14 = .ok (.iastore, 1) := by decide +kernel
theorem dX16_map_15 : decode cX16_map 15 = .ok (.aload_n 0, 1) := by decide +kernel
theorem dX16_map_16 : decode cX16_map 16 = .ok (.bipush 58, 2) := by decide +kernel
theorem dX16_map_18 : decode cX16_map 18 = .ok (.invokevirtual 159, 3) := by decide +kernel
theorem dX16_map_21 : decode cX16_map 21 = .ok (.iconst 1, 1) := by decide +kernel
theorem dX16_map_22 : decode cX16_map 22 = .ok (.istore_n 3, 1) := by decide +kernel
theorem dX16_map_23 : decode cX16_map 23 = .ok (.iload_n 3, 1) := by decide +kernel
theorem dX16_map_24 : decode cX16_map 24 = .ok (.ifCond .eq 86, 3) := by decide +kernel
theorem dX16_map_27 : decode cX16_map 27 = .ok (.aload_n 0, 1) := by decide +kernel
theorem dX16_map_28 : decode cX16_map 28 = .ok (.iload_n 1, 1) := by decide +kernel
theorem dX16_map_29 : decode cX16_map 29 = .ok (.bipush 8, 2) := by decide +kernel
theorem dX16_map_31 : decode cX16_map 31 = .ok (.invokevirtual 194, 3) := by decide +kernel
theorem dX16_map_34 : decode cX16_map 34 = .ok (.aload_n 0, 1) := by decide +kernel
theorem dX16_map_35 : decode cX16_map 35 = .ok (.bipush 61, 2) := by decide +kernel
theorem dX16_map_37 : decode cX16_map 37 = .ok (.invokevirtual 159, 3) := by decide +kernel
theorem dX16_map_40 : decode cX16_map 40 = .ok (.aload_n 0, 1) := by decide +kernel
theorem dX16_map_41 : decode cX16_map 41 = .ok (.getfield 118, 3) := by decide +kernel
theorem dX16_map_44 : decode cX16_map 44 = .ok (.getfield 219, 3) := by decide +kernel
theorem dX16_map_47 : decode cX16_map 47 = .ok (.bipush 8, 2) := by decide +kernel
theorem dX16_map_49 : decode cX16_map 49 = .ok (.iload_n 1, 1) := by decide +kernel
theorem dX16_map_50 : decode cX16_map 50 = .ok (.imul, 1) := by decide +kernel
theorem dX16_map_51 : decode cX16_map 51 = .ok (.aload_n 0, 1) := by decide +kernel
theorem dX16_map_52 : decode cX16_map 52 = .ok (.getfield 118, 3) := by decide +kernel
theorem dX16_map_55 : decode cX16_map 55 = .ok (.getfield 222, 3) := by decide +kernel
theorem dX16_map_58 : decode cX16_map 58 = .ok (.iload_n 1, 1) := by decide +kernel
theorem dX16_map_59 : decode cX16_map 59 = .ok (.iaload, 1) := by decide +kernel
theorem dX16_map_60 : decode cX16_map 60 = .ok (.iadd, 1) := by decide +kernel
theorem dX16_map_61 : decode cX16_map 61 = .ok (.aload_n 0, 1) := by decide +kernel
theorem dX16_map_62 : decode cX16_map 62 = .ok (.iload_n 2, 1) := by decide +kernel
theorem dX16_map_63 : decode cX16_map 63 = .ok (.invokevirtual 225, 3) := by decide +kernel
theorem dX16_map_66 : decode cX16_map 66 = .ok (.iastore, 1) := by decide +kernel
theorem dX16_map_67 : decode cX16_map 67 = .ok (.aload_n 0, 1) := by decide +kernel
theorem dX16_map_68 : decode cX16_map 68 = .ok (.getfield 118, 3) := by decide +kernel
theorem dX16_map_71 : decode cX16_map 71 = .ok (.getfield 222, 3) := by decide +kernel
theorem dX16_map_74 : decode cX16_map 74 = .ok (.iload_n 1, 1) := by decide +kernel
theorem dX16_map_75 : decode cX16_map 75 = .ok (.dup2, 1) := by decide +kernel
theorem dX16_map_76 : decode cX16_map 76 = .ok (.iaload, 1) := by decide +kernel
theorem dX16_map_77 : decode cX16_map 77 = .ok (.iconst 1, 1) := by decide +kernel
theorem dX16_map_78 : decode cX16_map 78 = .ok (.iadd, 1) := by decide +kernel
theorem dX16_map_79 : decode cX16_map 79 = .ok (.iastore, 1) := by decide +kernel
theorem dX16_map_80 : decode cX16_map 80 = .ok (.aload_n 0, 1) := by decide +kernel
theorem dX16_map_81 : decode cX16_map 81 = .ok (.invokevirtual 76, 3) := by decide +kernel
theorem dX16_map_84 : decode cX16_map 84 = .ok (.aload_n 0, 1) := by decide +kernel
theorem dX16_map_85 : decode cX16_map 85 = .ok (.getfield 38, 3) := by decide +kernel
theorem dX16_map_88 : decode cX16_map 88 = .ok (.bipush 44, 2) := by decide +kernel
theorem dX16_map_90 : decode cX16_map 90 = .ok (.if_icmp .ne 7, 3) := by decide +kernel
theorem dX16_map_93 : decode cX16_map 93 = .ok (.iconst 1, 1) := by decide +kernel
theorem dX16_map_94 : decode cX16_map 94 = .ok (.goto 4, 3) := by decide +kernel
theorem dX16_map_97 : decode cX16_map 97 = .ok (.iconst 0, 1) := by decide +kernel
theorem dX16_map_98 : decode cX16_map 98 = .ok (.istore_n 3, 1) := by decide +kernel
theorem dX16_map_99 : decode cX16_map 99 = .ok (.iload_n 3, 1) := by decide +kernel
theorem dX16_map_100 : decode cX16_map 100 = .ok (.ifCond .eq (-77), 3) := by decide +kernel
theorem dX16_map_103 : decode cX16_map 103 = .ok (.aload_n 0, 1) := by decide +kernel
theorem dX16_map_104 : decode cX16_map 104 = .ok (.invokevirtual 84, 3) := by decide +kernel
theorem dX16_map_107 : decode cX16_map 107 = .ok (.goto (-84), 3) := by decide +kernel
theorem dX16_map_110 : decode cX16_map 110 = .ok (.return_, 1) := by decide +kernel
set_option maxRecDepth 20000 in
theorem a_X16_map_110 {Q : Sg → Unit → Prop} {X : Sg → String → Prop} (K : MC R p s m args c cX16_map 4 RX16 D cA tys A n0 s0 142 10045 []) (hQ : HQV p l e R s m args below meth c cX16_map D cA A n0 s0 QM dm ra jx rm Q) (hX : HX p l e R s m args below meth c 4 D cA A n0 s0 QM dm ra jx rm X) : ∀ (σ : Sg), w_X16_map_110 ra jx rm Q X σ → RG σ → Shp dm ra jx rm σ → JJ p l e R s m args below meth c 4 D cA A n0 s0 QM σ 110 [(0, .ref rm)] [] := by
  intro σ h hGσ hS H locs ls hH hl hc
  have B := K.1
  unfold w_X16_map_110 at h
  exact hQ _ _ _ _ _ dX16_map_110 hH hc h hGσ hS
set_option maxRecDepth 20000 in
theorem a_X16_map_103 {Q : Sg → Unit → Prop} {X : Sg → String → Prop} (K : MC R p s m args c cX16_map 4 RX16 D cA tys A n0 s0 142 10045 []) (hQ : HQV p l e R s m args below meth c cX16_map D cA A n0 s0 QM dm ra jx rm Q) (hX : HX p l e R s m args below meth c 4 D cA A n0 s0 QM dm ra jx rm X) {K23 : Sg → Int → Int → Int → Prop} (hK23 : ∀ (σ : Sg) (v1 : Int) (v2 : Int) (v3 : Int) (g1 : rng v1) (g2 : rng v2) (g3 : rng v3), K23 σ v1 v2 v3 → RG σ → Shp dm ra jx rm σ → JJ p l e R s m args below meth c 4 D cA A n0 s0 QM σ 23 [(0, .ref rm), (1, .int (i32 v1)), (2, .int (i32 v2)), (3, .int (i32 v3))] []) : ∀ (σ : Sg) (v1 : Int) (v2 : Int) (v3 : Int) (g1 : rng v1) (g2 : rng v2) (g3 : rng v3), w_X16_map_103 ra jx rm K23 Q X σ v1 v2 v3 → RG σ → Shp dm ra jx rm σ → JJ p l e R s m args below meth c 4 D cA A n0 s0 QM σ 103 [(0, .ref rm), (1, .int (i32 v1)), (2, .int (i32 v2)), (3, .int (i32 v3))] [] := by
  intro σ v1 v2 v3 g1 g2 g3 h hGσ hS H locs ls hH hl hc
  have B := K.1
  unfold w_X16_map_103 at h
  refine lv_aload_n B.1 B.2.1 dX16_map_103 rfl (lv_at hl 0 rfl) ?_
  refine c_V B hH hl hc K.2.2.1 (C := RX16) (T := TX16) (N := 123) (ci := 16) (As := []) (ok_X16_take K.2.1 σ hGσ hS h) wc_X16_84 0 hd_X16_take ⟨Nat.le_trans (Nat.le_of_ble_eq_true rfl) K.2.2.2.1, Nat.le_trans (Nat.le_of_ble_eq_true rfl) K.2.2.2.2.1⟩ hS.1.1 hS.1.2 (by decide) rfl rfl (rest := []) rfl (Nat.le_of_ble_eq_true rfl) dX16_map_104 (fun σ33 w hq => ?_) (fun σ9 E9 hx9 => hX σ9 E9 _ _ _ (tb_out K.2.2.2.2.2 rfl) hx9.1 hx9.2.1 hx9.2.2)
  obtain ⟨rfl, h, hGσ33, hS⟩ := hq
  intro H locs ls hH hl hc
  refine W.eq (g2 := F0 m 107 ls []) (rfl) ?_
  try dsimp only at h
  refine lv_goto (tgt := 23) B.1 B.2.1 dX16_map_107 (by decide) ?_
  exact hK23 _ _ _ _ g1 g2 g3 h hGσ33 hS _ _ _ hH (lv_sub (l' := [(0, .ref rm), (1, .int (i32 v1)), (2, .int (i32 v2)), (3, .int (i32 v3))]) hl [0, 1, 2, 3] rfl) hc
set_option maxRecDepth 20000 in
theorem a_X16_map_98 {Q : Sg → Unit → Prop} {X : Sg → String → Prop} (K : MC R p s m args c cX16_map 4 RX16 D cA tys A n0 s0 142 10045 []) (hQ : HQV p l e R s m args below meth c cX16_map D cA A n0 s0 QM dm ra jx rm Q) (hX : HX p l e R s m args below meth c 4 D cA A n0 s0 QM dm ra jx rm X) {K23 : Sg → Int → Int → Int → Prop} (hK23 : ∀ (σ : Sg) (v1 : Int) (v2 : Int) (v3 : Int) (g1 : rng v1) (g2 : rng v2) (g3 : rng v3), K23 σ v1 v2 v3 → RG σ → Shp dm ra jx rm σ → JJ p l e R s m args below meth c 4 D cA A n0 s0 QM σ 23 [(0, .ref rm), (1, .int (i32 v1)), (2, .int (i32 v2)), (3, .int (i32 v3))] []) : ∀ (σ : Sg) (v1 : Int) (v2 : Int) (u0 : Int) (g1 : rng v1) (g2 : rng v2) (gu0 : rng u0), w_X16_map_98 ra jx rm K23 Q X σ v1 v2 u0 → RG σ → Shp dm ra jx rm σ → JJ p l e R s m args below meth c 4 D cA A n0 s0 QM σ 98 [(0, .ref rm), (1, .int (i32 v1)), (2, .int (i32 v2))] [.int (i32 u0)] := by
  intro σ v1 v2 u0 g1 g2 gu0 h hGσ hS H locs ls hH hl hc
  have B := K.1
  unfold w_X16_map_98 at h
  refine lv_istore_n (lv' := [(3, .int (i32 u0)), (0, .ref rm), (1, .int (i32 v1)), (2, .int (i32 v2))]) B.1 B.2.1 dX16_map_98 rfl hl (by decide) rfl (fun ls hl => ?_)
  refine lv_iload_n B.1 B.2.1 dX16_map_99 rfl (lv_at hl 0 rfl) ?_
  refine lv_if_eq (tgt := 23) B.1 B.2.1 dX16_map_100 (by decide) (fun h9 => ?_) (fun h9 => ?_)
  · rw [if_pos ((z_eq gu0).mp h9)] at h
    exact hK23 _ _ _ _ g1 g2 gu0 h hGσ hS _ _ _ hH (lv_sub (l' := [(0, .ref rm), (1, .int (i32 v1)), (2, .int (i32 v2)), (3, .int (i32 u0))]) hl [1, 2, 3, 0] rfl) hc
  · rw [if_neg (fun q => h9 ((z_eq gu0).mpr q))] at h
    exact a_X16_map_103 K hQ hX hK23 _ _ _ _ g1 g2 gu0 h hGσ hS _ _ _ hH (lv_sub (l' := [(0, .ref rm), (1, .int (i32 v1)), (2, .int (i32 v2)), (3, .int (i32 u0))]) hl [1, 2, 3, 0] rfl) hc
set_option maxRecDepth 20000 in
theorem a_X16_map_97 {Q : Sg → Unit → Prop} {X : Sg → String → Prop} (K : MC R p s m args c cX16_map 4 RX16 D cA tys A n0 s0 142 10045 []) (hQ : HQV p l e R s m args below meth c cX16_map D cA A n0 s0 QM dm ra jx rm Q) (hX : HX p l e R s m args below meth c 4 D cA A n0 s0 QM dm ra jx rm X) {K23 : Sg → Int → Int → Int → Prop} (hK23 : ∀ (σ : Sg) (v1 : Int) (v2 : Int) (v3 : Int) (g1 : rng v1) (g2 : rng v2) (g3 : rng v3), K23 σ v1 v2 v3 → RG σ → Shp dm ra jx rm σ → JJ p l e R s m args below meth c 4 D cA A n0 s0 QM σ 23 [(0, .ref rm), (1, .int (i32 v1)), (2, .int (i32 v2)), (3, .int (i32 v3))] []) : ∀ (σ : Sg) (v1 : Int) (v2 : Int) (g1 : rng v1) (g2 : rng v2), w_X16_map_97 ra jx rm K23 Q X σ v1 v2 → RG σ → Shp dm ra jx rm σ → JJ p l e R s m args below meth c 4 D cA A n0 s0 QM σ 97 [(0, .ref rm), (1, .int (i32 v1)), (2, .int (i32 v2))] [] := by
  intro σ v1 v2 g1 g2 h hGσ hS H locs ls hH hl hc
  have B := K.1
  unfold w_X16_map_97 at h
  refine lv_iconst (v := i32 0) B.1 B.2.1 dX16_map_97 (by decide) ?_
  exact a_X16_map_98 K hQ hX hK23 _ _ _ _ g1 g2 (by unfold rng; omega) h hGσ hS _ _ _ hH (lv_sub (l' := [(0, .ref rm), (1, .int (i32 v1)), (2, .int (i32 v2))]) hl [0, 1, 2] rfl) hc
set_option maxRecDepth 20000 in
theorem a_X16_map_93 {Q : Sg → Unit → Prop} {X : Sg → String → Prop} (K : MC R p s m args c cX16_map 4 RX16 D cA tys A n0 s0 142 10045 []) (hQ : HQV p l e R s m args below meth c cX16_map D cA A n0 s0 QM dm ra jx rm Q) (hX : HX p l e R s m args below meth c 4 D cA A n0 s0 QM dm ra jx rm X) {K23 : Sg → Int → Int → Int → Prop} (hK23 : ∀ (σ : Sg) (v1 : Int) (v2 : Int) (v3 : Int) (g1 : rng v1) (g2 : rng v2) (g3 : rng v3), K23 σ v1 v2 v3 → RG σ → Shp dm ra jx rm σ → JJ p l e R s m args below meth c 4 D cA A n0 s0 QM σ 23 [(0, .ref rm), (1, .int (i32 v1)), (2, .int (i32 v2)), (3, .int (i32 v3))] []) : ∀ (σ : Sg) (v1 : Int) (v2 : Int) (g1 : rng v1) (g2 : rng v2), w_X16_map_93 ra jx rm K23 Q X σ v1 v2 → RG σ → Shp dm ra jx rm σ → JJ p l e R s m args below meth c 4 D cA A n0 s0 QM σ 93 [(0, .ref rm), (1, .int (i32 v1)), (2, .int (i32 v2))] [] := by
  intro σ v1 v2 g1 g2 h hGσ hS H locs ls hH hl hc
  have B := K.1
  unfold w_X16_map_93 at h
  refine lv_iconst (v := i32 1) B.1 B.2.1 dX16_map_93 (by decide) ?_
  refine lv_goto (tgt := 98) B.1 B.2.1 dX16_map_94 (by decide) ?_
  exact a_X16_map_98 K hQ hX hK23 _ _ _ _ g1 g2 (by unfold rng; omega) h hGσ hS _ _ _ hH (lv_sub (l' := [(0, .ref rm), (1, .int (i32 v1)), (2, .int (i32 v2))]) hl [0, 1, 2] rfl) hc
set_option maxRecDepth 20000 in
theorem a_X16_map_27 {Q : Sg → Unit → Prop} {X : Sg → String → Prop} (K : MC R p s m args c cX16_map 4 RX16 D cA tys A n0 s0 142 10045 []) (hQ : HQV p l e R s m args below meth c cX16_map D cA A n0 s0 QM dm ra jx rm Q) (hX : HX p l e R s m args below meth c 4 D cA A n0 s0 QM dm ra jx rm X) {K23 : Sg → Int → Int → Int → Prop} (hK23 : ∀ (σ : Sg) (v1 : Int) (v2 : Int) (v3 : Int) (g1 : rng v1) (g2 : rng v2) (g3 : rng v3), K23 σ v1 v2 v3 → RG σ → Shp dm ra jx rm σ → JJ p l e R s m args below meth c 4 D cA A n0 s0 QM σ 23 [(0, .ref rm), (1, .int (i32 v1)), (2, .int (i32 v2)), (3, .int (i32 v3))] []) : ∀ (σ : Sg) (v1 : Int) (v2 : Int) (g1 : rng v1) (g2 : rng v2), w_X16_map_27 ra jx rm K23 Q X σ v1 v2 → RG σ → Shp dm ra jx rm σ → JJ p l e R s m args below meth c 4 D cA A n0 s0 QM σ 27 [(0, .ref rm), (1, .int (i32 v1)), (2, .int (i32 v2))] [] := by
  intro σ v1 v2 g1 g2 h hGσ hS H locs ls hH hl hc
  have B := K.1
  unfold w_X16_map_27 at h
  refine lv_aload_n B.1 B.2.1 dX16_map_27 rfl (lv_at hl 0 rfl) ?_
  refine lv_iload_n B.1 B.2.1 dX16_map_28 rfl (lv_at hl 1 rfl) ?_
  refine lv_bipush (v := i32 8) B.1 B.2.1 dX16_map_29 (by decide) ?_
  refine c_V B hH hl hc K.2.2.1 (C := RX16) (T := TX16) (N := 123) (ci := 16) (As := [.int (i32 v1), .int (i32 8)]) (ok_X16_newColumn K.2.1 σ v1 8 g1 (by unfold rng; omega) hGσ hS h) wc_X16_194 2 hd_X16_newColumn ⟨Nat.le_trans (Nat.le_of_ble_eq_true rfl) K.2.2.2.1, Nat.le_trans (Nat.le_of_ble_eq_true rfl) K.2.2.2.2.1⟩ hS.1.1 hS.1.2 (by decide) rfl rfl (rest := []) rfl (Nat.le_of_ble_eq_true rfl) dX16_map_31 (fun σ34 w hq => ?_) (fun σ9 E9 hx9 => hX σ9 E9 _ _ _ (tb_out K.2.2.2.2.2 rfl) hx9.1 hx9.2.1 hx9.2.2)
  obtain ⟨rfl, h, hGσ34, hS⟩ := hq
  intro H locs ls hH hl hc
  refine W.eq (g2 := F0 m 34 ls []) (rfl) ?_
  try dsimp only at h
  refine lv_aload_n B.1 B.2.1 dX16_map_34 rfl (lv_at hl 0 rfl) ?_
  refine lv_bipush (v := i32 61) B.1 B.2.1 dX16_map_35 (by decide) ?_
  refine c_V B hH hl hc K.2.2.1 (C := RX16) (T := TX16) (N := 123) (ci := 16) (As := [.int (i32 61)]) (ok_X16_sign K.2.1 σ34 61 (by unfold rng; omega) hGσ34 hS h) wc_X16_159 1 hd_X16_sign ⟨Nat.le_trans (Nat.le_of_ble_eq_true rfl) K.2.2.2.1, Nat.le_trans (Nat.le_of_ble_eq_true rfl) K.2.2.2.2.1⟩ hS.1.1 hS.1.2 (by decide) rfl rfl (rest := []) rfl (Nat.le_of_ble_eq_true rfl) dX16_map_37 (fun σ35 w hq => ?_) (fun σ9 E9 hx9 => hX σ9 E9 _ _ _ (tb_out K.2.2.2.2.2 rfl) hx9.1 hx9.2.1 hx9.2.2)
  obtain ⟨rfl, h, hGσ35, hS⟩ := hq
  intro H locs ls hH hl hc
  refine W.eq (g2 := F0 m 40 ls []) (rfl) ?_
  try dsimp only at h
  refine lv_aload_n B.1 B.2.1 dX16_map_40 rfl (lv_at hl 0 rfl) ?_
  refine r_getp B hH hS 18 (by decide) wf_X16_118 rfl rfl dX16_map_41 ?_
  obtain ⟨a36, ea36, ja36, h⟩ := h
  refine W.eq (g2 := F0 m 44 ls [.ref a36]) (by rw [ea36]; rfl) ?_
  refine n_arr B hH hS ja36 13 (kd := 100) (n := 128) (by decide) (by decide) (List.mem_of_getElem? (i := 13) rfl) rfl dX16_map_44 ?_
  refine lv_bipush (v := i32 8) B.1 B.2.1 dX16_map_47 (by decide) ?_
  refine lv_iload_n B.1 B.2.1 dX16_map_49 rfl (lv_at hl 1 rfl) ?_
  obtain ⟨q2, h⟩ := h
  refine lv_imul B.1 B.2.1 dX16_map_50 ?_
  rw [i32_mul]
  refine lv_aload_n B.1 B.2.1 dX16_map_51 rfl (lv_at hl 0 rfl) ?_
  refine r_getp B hH hS 18 (by decide) wf_X16_118 rfl rfl dX16_map_52 ?_
  obtain ⟨a37, ea37, ja37, h⟩ := h
  refine W.eq (g2 := F0 m 55 ls [.ref a37, .int (i32 (8 * v1)), .ref (jx a36 13)]) (by rw [ea37]; rfl) ?_
  refine n_arr B hH hS ja37 12 (kd := 100) (n := 16) (by decide) (by decide) (List.mem_of_getElem? (i := 12) rfl) rfl dX16_map_55 ?_
  refine lv_iload_n B.1 B.2.1 dX16_map_58 rfl (lv_at hl 1 rfl) ?_
  obtain ⟨q4, h⟩ := h
  refine x_iald B K.2.1 hH (hS.ja ja37 (k := 12) (kd := 100) (n := 16) (by decide)) (by decide) q4 dX16_map_59 ?_
  obtain ⟨q5, h⟩ := h
  refine lv_iadd B.1 B.2.1 dX16_map_60 ?_
  rw [i32_add]
  refine lv_aload_n B.1 B.2.1 dX16_map_61 rfl (lv_at hl 0 rfl) ?_
  refine lv_iload_n B.1 B.2.1 dX16_map_62 rfl (lv_at hl 2 rfl) ?_
  refine c_V B hH hl hc K.2.2.1 (C := RX16) (T := TX16) (N := 123) (ci := 16) (As := [.int (i32 v2)]) (ok_X16_value K.2.1 σ35 v2 g2 hGσ35 hS h) wc_X16_225 1 hd_X16_value ⟨Nat.le_trans (Nat.le_of_ble_eq_true rfl) K.2.2.2.1, Nat.le_trans (Nat.le_of_ble_eq_true rfl) K.2.2.2.2.1⟩ hS.1.1 hS.1.2 (by decide) rfl rfl (rest := [.int (i32 ((8 * v1) + (gI σ35 (jx a37 12) v1.toNat))), .ref (jx a36 13)]) rfl (Nat.le_of_ble_eq_true rfl) dX16_map_63 (fun σ38 w hq => ?_) (fun σ9 E9 hx9 => hX σ9 E9 _ _ _ (tb_out K.2.2.2.2.2 rfl) hx9.1 hx9.2.1 hx9.2.2)
  obtain ⟨r39, rfl, gr39, h, hGσ38, hS⟩ := hq
  intro H locs ls hH hl hc
  refine W.eq (g2 := F0 m 66 ls [.int (i32 r39), .int (i32 ((8 * v1) + (gI σ35 (jx a37 12) v1.toNat))), .ref (jx a36 13)]) (rfl) ?_
  try dsimp only at h
  obtain ⟨q6, h⟩ := h
  obtain ⟨σ40, eσ40⟩ : ∃ z, z = pI σ38 (jx a36 13) ((8 * v1) + (gI σ35 (jx a37 12) v1.toNat)).toNat r39 := ⟨_, rfl⟩
  have h := h σ40 eσ40
  refine x_iast B K.2.1 hH (hS.ja ja36 (k := 13) (kd := 100) (n := 128) (by decide)) (by decide) q6 dX16_map_66 (fun H locs hH => ?_)
  have hH : Hd D cA A s (pI σ38 (jx a36 13) ((8 * v1) + (gI σ35 (jx a37 12) v1.toNat)).toNat r39) H locs := hH
  rw [← eσ40] at hH
  have hGσ40 : RG σ40 := by rw [eσ40]; exact hGσ38.pI gr39
  have hS : Shp dm ra jx rm σ40 := by rw [eσ40]; exact hS
  have hc : CB n0 s0 σ40 := by rw [eσ40]; exact hc
  rw [show gc σ38 = gc σ40 by rw [eσ40], show gs σ38 = gs σ40 by rw [eσ40]]
  refine lv_aload_n B.1 B.2.1 dX16_map_67 rfl (lv_at hl 0 rfl) ?_
  refine r_getp B hH hS 18 (by decide) wf_X16_118 rfl rfl dX16_map_68 ?_
  obtain ⟨a41, ea41, ja41, h⟩ := h
  refine W.eq (g2 := F0 m 71 ls [.ref a41]) (by rw [ea41]; rfl) ?_
  refine n_arr B hH hS ja41 12 (kd := 100) (n := 16) (by decide) (by decide) (List.mem_of_getElem? (i := 12) rfl) rfl dX16_map_71 ?_
  refine lv_iload_n B.1 B.2.1 dX16_map_74 rfl (lv_at hl 1 rfl) ?_
  refine lv_dup2_11 B.1 B.2.1 dX16_map_75 rfl rfl ?_
  obtain ⟨q9, h⟩ := h
  refine x_iald B K.2.1 hH (hS.ja ja41 (k := 12) (kd := 100) (n := 16) (by decide)) (by decide) q9 dX16_map_76 ?_
  refine lv_iconst (v := i32 1) B.1 B.2.1 dX16_map_77 (by decide) ?_
  obtain ⟨q10, h⟩ := h
  refine lv_iadd B.1 B.2.1 dX16_map_78 ?_
  rw [i32_add]
  obtain ⟨q11, h⟩ := h
  obtain ⟨σ42, eσ42⟩ : ∃ z, z = pI σ40 (jx a41 12) v1.toNat ((gI σ40 (jx a41 12) v1.toNat) + 1) := ⟨_, rfl⟩
  have h := h σ42 eσ42
  refine x_iast B K.2.1 hH (hS.ja ja41 (k := 12) (kd := 100) (n := 16) (by decide)) (by decide) q11 dX16_map_79 (fun H locs hH => ?_)
  have hH : Hd D cA A s (pI σ40 (jx a41 12) v1.toNat ((gI σ40 (jx a41 12) v1.toNat) + 1)) H locs := hH
  rw [← eσ42] at hH
  have hGσ42 : RG σ42 := by rw [eσ42]; exact hGσ40.pI q10
  have hS : Shp dm ra jx rm σ42 := by rw [eσ42]; exact hS
  have hc : CB n0 s0 σ42 := by rw [eσ42]; exact hc
  rw [show gc σ40 = gc σ42 by rw [eσ42], show gs σ40 = gs σ42 by rw [eσ42]]
  refine lv_aload_n B.1 B.2.1 dX16_map_80 rfl (lv_at hl 0 rfl) ?_
  refine c_V B hH hl hc K.2.2.1 (C := RX16) (T := TX16) (N := 123) (ci := 16) (As := []) (ok_X16_see K.2.1 σ42 hGσ42 hS h) wc_X16_76 0 hd_X16_see ⟨Nat.le_trans (Nat.le_of_ble_eq_true rfl) K.2.2.2.1, Nat.le_trans (Nat.le_of_ble_eq_true rfl) K.2.2.2.2.1⟩ hS.1.1 hS.1.2 (by decide) rfl rfl (rest := []) rfl (Nat.le_of_ble_eq_true rfl) dX16_map_81 (fun σ43 w hq => ?_) (fun σ9 E9 hx9 => hX σ9 E9 _ _ _ (tb_out K.2.2.2.2.2 rfl) hx9.1 hx9.2.1 hx9.2.2)
  obtain ⟨rfl, h, hGσ43, hS⟩ := hq
  intro H locs ls hH hl hc
  refine W.eq (g2 := F0 m 84 ls []) (rfl) ?_
  try dsimp only at h
  refine lv_aload_n B.1 B.2.1 dX16_map_84 rfl (lv_at hl 0 rfl) ?_
  refine r_geti B hH hS 9 (by decide) wf_X16_38 rfl rfl dX16_map_85 ?_
  refine lv_bipush (v := i32 44) B.1 B.2.1 dX16_map_88 (by decide) ?_
  refine lv_icmp_ne (tgt := 97) B.1 B.2.1 dX16_map_90 (by decide) (fun h9 => ?_) (fun h9 => ?_)
  · rw [if_pos (fun q => h9 ((i32_eq (hGσ43 _ _) (by unfold rng; omega)).mpr q))] at h
    exact a_X16_map_97 K hQ hX hK23 _ _ _ g1 g2 h hGσ43 hS _ _ _ hH (lv_sub (l' := [(0, .ref rm), (1, .int (i32 v1)), (2, .int (i32 v2))]) hl [0, 1, 2] rfl) hc
  · rw [if_neg (fun q => q ((i32_eq (hGσ43 _ _) (by unfold rng; omega)).mp h9))] at h
    exact a_X16_map_93 K hQ hX hK23 _ _ _ g1 g2 h hGσ43 hS _ _ _ hH (lv_sub (l' := [(0, .ref rm), (1, .int (i32 v1)), (2, .int (i32 v2))]) hl [0, 1, 2] rfl) hc
set_option maxRecDepth 20000 in
theorem a_X16_map_23 {Q : Sg → Unit → Prop} {X : Sg → String → Prop} (K : MC R p s m args c cX16_map 4 RX16 D cA tys A n0 s0 142 10045 []) (hQ : HQV p l e R s m args below meth c cX16_map D cA A n0 s0 QM dm ra jx rm Q) (hX : HX p l e R s m args below meth c 4 D cA A n0 s0 QM dm ra jx rm X) {K23 : Sg → Int → Int → Int → Prop} (hK23 : ∀ (σ : Sg) (v1 : Int) (v2 : Int) (v3 : Int) (g1 : rng v1) (g2 : rng v2) (g3 : rng v3), K23 σ v1 v2 v3 → RG σ → Shp dm ra jx rm σ → JJ p l e R s m args below meth c 4 D cA A n0 s0 QM σ 23 [(0, .ref rm), (1, .int (i32 v1)), (2, .int (i32 v2)), (3, .int (i32 v3))] []) : ∀ (σ : Sg) (v1 : Int) (v2 : Int) (v3 : Int) (g1 : rng v1) (g2 : rng v2) (g3 : rng v3), w_X16_map_23 ra jx rm K23 Q X σ v1 v2 v3 → RG σ → Shp dm ra jx rm σ → JJ p l e R s m args below meth c 4 D cA A n0 s0 QM σ 23 [(0, .ref rm), (1, .int (i32 v1)), (2, .int (i32 v2)), (3, .int (i32 v3))] [] := by
  intro σ v1 v2 v3 g1 g2 g3 h hGσ hS H locs ls hH hl hc
  have B := K.1
  unfold w_X16_map_23 at h
  refine lv_iload_n B.1 B.2.1 dX16_map_23 rfl (lv_at hl 3 rfl) ?_
  refine lv_if_eq (tgt := 110) B.1 B.2.1 dX16_map_24 (by decide) (fun h9 => ?_) (fun h9 => ?_)
  · rw [if_pos ((z_eq g3).mp h9)] at h
    exact a_X16_map_110 K hQ hX _ h hGσ hS _ _ _ hH (lv_sub (l' := [(0, .ref rm)]) hl [0] rfl) hc
  · rw [if_neg (fun q => h9 ((z_eq g3).mpr q))] at h
    exact a_X16_map_27 K hQ hX hK23 _ _ _ g1 g2 h hGσ hS _ _ _ hH (lv_sub (l' := [(0, .ref rm), (1, .int (i32 v1)), (2, .int (i32 v2))]) hl [0, 1, 2] rfl) hc
theorem al_X16_map_23 {Q : Sg → Unit → Prop} {X : Sg → String → Prop} (K : MC R p s m args c cX16_map 4 RX16 D cA tys A n0 s0 142 10045 []) (hQ : HQV p l e R s m args below meth c cX16_map D cA A n0 s0 QM dm ra jx rm Q) (hX : HX p l e R s m args below meth c 4 D cA A n0 s0 QM dm ra jx rm X) : ∀ (n : Nat), ∀ (σ : Sg) (v1 : Int) (v2 : Int) (v3 : Int) (g1 : rng v1) (g2 : rng v2) (g3 : rng v3), wl_X16_map_23 ra jx rm Q X n σ v1 v2 v3 → RG σ → Shp dm ra jx rm σ → JJ p l e R s m args below meth c 4 D cA A n0 s0 QM σ 23 [(0, .ref rm), (1, .int (i32 v1)), (2, .int (i32 v2)), (3, .int (i32 v3))] [] := by
  intro n
  induction n with
  | zero => intro σ v1 v2 v3 g1 g2 g3 h; exact h.elim
  | succ n ih => exact fun σ v1 v2 v3 g1 g2 g3 h => a_X16_map_23 K hQ hX ih σ v1 v2 v3 g1 g2 g3 h
set_option maxRecDepth 20000 in
theorem a_X16_map_0 {Q : Sg → Unit → Prop} {X : Sg → String → Prop} (K : MC R p s m args c cX16_map 4 RX16 D cA tys A n0 s0 142 10045 []) (hQ : HQV p l e R s m args below meth c cX16_map D cA A n0 s0 QM dm ra jx rm Q) (hX : HX p l e R s m args below meth c 4 D cA A n0 s0 QM dm ra jx rm X) : ∀ (σ : Sg) (v1 : Int) (g1 : rng v1), w_X16_map_0 ra jx rm Q X σ v1 → RG σ → Shp dm ra jx rm σ → JJ p l e R s m args below meth c 4 D cA A n0 s0 QM σ 0 [(0, .ref rm), (1, .int (i32 v1))] [] := by
  intro σ v1 g1 h hGσ hS H locs ls hH hl hc
  have B := K.1
  unfold w_X16_map_0 at h
  refine lv_aload_n B.1 B.2.1 dX16_map_0 rfl (lv_at hl 0 rfl) ?_
  refine c_V B hH hl hc K.2.2.1 (C := RX16) (T := TX16) (N := 123) (ci := 16) (As := []) (ok_X16_input K.2.1 σ hGσ hS h) wc_X16_213 0 hd_X16_input ⟨Nat.le_trans (Nat.le_of_ble_eq_true rfl) K.2.2.2.1, Nat.le_trans (Nat.le_of_ble_eq_true rfl) K.2.2.2.2.1⟩ hS.1.1 hS.1.2 (by decide) rfl rfl (rest := []) rfl (Nat.le_of_ble_eq_true rfl) dX16_map_1 (fun σ44 w hq => ?_) (fun σ9 E9 hx9 => hX σ9 E9 _ _ _ (tb_out K.2.2.2.2.2 rfl) hx9.1 hx9.2.1 hx9.2.2)
  obtain ⟨r45, rfl, gr45, h, hGσ44, hS⟩ := hq
  intro H locs ls hH hl hc
  refine W.eq (g2 := F0 m 4 ls [.int (i32 r45)]) (rfl) ?_
  try dsimp only at h
  refine lv_istore_n (lv' := [(2, .int (i32 r45)), (0, .ref rm), (1, .int (i32 v1))]) B.1 B.2.1 dX16_map_4 rfl hl (by decide) rfl (fun ls hl => ?_)
  refine lv_aload_n B.1 B.2.1 dX16_map_5 rfl (lv_at hl 1 rfl) ?_
  refine r_getp B hH hS 18 (by decide) wf_X16_118 rfl rfl dX16_map_6 ?_
  obtain ⟨a46, ea46, ja46, h⟩ := h
  refine W.eq (g2 := F0 m 9 ls [.ref a46]) (by rw [ea46]; rfl) ?_
  refine n_arr B hH hS ja46 4 (kd := 100) (n := 16) (by decide) (by decide) (List.mem_of_getElem? (i := 4) rfl) rfl dX16_map_9 ?_
  refine lv_iload_n B.1 B.2.1 dX16_map_12 rfl (lv_at hl 2 rfl) ?_
  refine lv_iload_n B.1 B.2.1 dX16_map_13 rfl (lv_at hl 0 rfl) ?_
  obtain ⟨q2, h⟩ := h
  obtain ⟨σ47, eσ47⟩ : ∃ z, z = pI σ44 (jx a46 4) v1.toNat r45 := ⟨_, rfl⟩
  have h := h σ47 eσ47
  refine x_iast B K.2.1 hH (hS.ja ja46 (k := 4) (kd := 100) (n := 16) (by decide)) (by decide) q2 dX16_map_14 (fun H locs hH => ?_)
  have hH : Hd D cA A s (pI σ44 (jx a46 4) v1.toNat r45) H locs := hH
  rw [← eσ47] at hH
  have hGσ47 : RG σ47 := by rw [eσ47]; exact hGσ44.pI gr45
  have hS : Shp dm ra jx rm σ47 := by rw [eσ47]; exact hS
  have hc : CB n0 s0 σ47 := by rw [eσ47]; exact hc
  rw [show gc σ44 = gc σ47 by rw [eσ47], show gs σ44 = gs σ47 by rw [eσ47]]
  refine lv_aload_n B.1 B.2.1 dX16_map_15 rfl (lv_at hl 1 rfl) ?_
  refine lv_bipush (v := i32 58) B.1 B.2.1 dX16_map_16 (by decide) ?_
  refine c_V B hH hl hc K.2.2.1 (C := RX16) (T := TX16) (N := 123) (ci := 16) (As := [.int (i32 58)]) (ok_X16_sign K.2.1 σ47 58 (by unfold rng; omega) hGσ47 hS h) wc_X16_159 1 hd_X16_sign ⟨Nat.le_trans (Nat.le_of_ble_eq_true rfl) K.2.2.2.1, Nat.le_trans (Nat.le_of_ble_eq_true rfl) K.2.2.2.2.1⟩ hS.1.1 hS.1.2 (by decide) rfl rfl (rest := []) rfl (Nat.le_of_ble_eq_true rfl) dX16_map_18 (fun σ48 w hq => ?_) (fun σ9 E9 hx9 => hX σ9 E9 _ _ _ (tb_out K.2.2.2.2.2 rfl) hx9.1 hx9.2.1 hx9.2.2)
  obtain ⟨rfl, h, hGσ48, hS⟩ := hq
  intro H locs ls hH hl hc
  refine W.eq (g2 := F0 m 21 ls []) (rfl) ?_
  try dsimp only at h
  refine lv_iconst (v := i32 1) B.1 B.2.1 dX16_map_21 (by decide) ?_
  refine lv_istore_n (lv' := [(3, .int (i32 1)), (2, .int (i32 r45)), (0, .ref rm), (1, .int (i32 v1))]) B.1 B.2.1 dX16_map_22 rfl hl (by decide) rfl (fun ls hl => ?_)
  obtain ⟨n9, h⟩ := h
  exact al_X16_map_23 K hQ hX n9 _ _ _ _ g1 gr45 (by unfold rng; omega) h hGσ48 hS _ _ _ hH (lv_sub (l' := [(0, .ref rm), (1, .int (i32 v1)), (2, .int (i32 r45)), (3, .int (i32 1))]) hl [2, 3, 1, 0] rfl) hc
theorem ok_X16_map (hT : Tys cA tys) {Q : Sg → Unit → Prop} {X : Sg → String → Prop} (σ : Sg) (v1 : Int) (g1 : rng v1) (hG : RG σ) (hS : Shp dm ra jx rm σ) (h : wp_X16_map ra jx rm v1 σ Q X) : Ok l D cA tys A yX16_map (.code yX16_map cX16_map 4 none) 142 10045 [.ref rm, .int (i32 v1)] σ (QnV dm ra jx rm Q) (QxR dm ra jx rm X) := by
  unfold wp_X16_map at h
  exact ok_V (plainFor_of_name (by decide)) (by exact Nat.le_of_ble_eq_true rfl) hT (fun p e R s m args below meth c K hQ hX H locs ls hH hl hc => a_X16_map_0 K hQ hX σ v1 g1 h hG hS H locs ls hH (lv_sub (l' := [(0, .ref rm), (1, .int (i32 v1))]) hl [0, 1] rfl) hc)
theorem dX16_match_0 : decode cX16_match 0 = .ok (.aload_n 0, 1) := by decide +kernel
theorem dX16_match_1 : decode cX16_match 1 = .ok (.invokevirtual 213, 3) := by decide +kernel
theorem dX16_match_4 : decode cX16_match 4 = .ok (.istore_n 2, 1) := by decide +kernel
theorem dX16_match_5 : decode cX16_match 5 = .ok (.aload_n 0, 1) := by decide +kernel
theorem dX16_match_6 : decode cX16_match 6 = .ok (.getfield 118, 3) := by decide +kernel
theorem dX16_match_9 : decode cX16_match 9 = .ok (.getfield 216, 3) := by decide +kernel
theorem dX16_match_12 : decode cX16_match 12 = .ok (.iload_n 1, 1) := by decide +kernel
theorem dX16_match_13 : decode cX16_match 13 = .ok (.iload_n 2, 1) := by decide +kernel
theorem dX16_match_14 : decode cX16_match 14 = .ok (.iastore, 1) := by decide +kernel
theorem dX16_match_15 : decode cX16_match 15 = .ok (.aload_n 0, 1) := by decide +kernel
theorem dX16_match_16 : decode cX16_match 16 = .ok (.ldc 237, 2) := by decide +kernel
theorem dX16_match_18 : decode cX16_match 18 = .ok (.invokevirtual 200, 3) := by decide +kernel
theorem dX16_match_21 : decode cX16_match 21 = .ok (.aload_n 0, 1) := by decide +kernel
theorem dX16_match_22 : decode cX16_match 22 = .ok (.invokevirtual 164, 3) := by decide +kernel
theorem dX16_match_25 : decode cX16_match 25 = .ok (.lstore_n 3, 1) := by decide +kernel
theorem dX16_match_26 : decode cX16_match 26 = .ok (.aload_n 0, 1) := by decide +kernel
theorem dX16_match_27 : decode cX16_match 27 = .ok (.getfield 118, 3) := by decide +kernel
theorem dX16_match_30 : decode cX16_match 30 = .ok (.iload_n 2, 1) := by decide +kernel
theorem dX16_match_31 : decode cX16_match 31 = .ok (.lload_n 3, 1) := by decide +kernel
theorem dX16_match_32 : decode cX16_match 32 = .ok (.invokevirtual 168, 3) := by decide +kernel
theorem dX16_match_35 : decode cX16_match 35 = .ok (.istore 5, 2) := by decide +kernel
theorem dX16_match_37 : decode cX16_match 37 = .ok (.iload 5, 2) := by decide +kernel
theorem dX16_match_39 : decode cX16_match 39 = .ok (.iconst (-1), 1) := by decide +kernel
theorem dX16_match_40 : decode cX16_match 40 = .ok (.if_icmp .ne 9, 3) := by decide +kernel
theorem dX16_match_43 : decode cX16_match 43 = .ok (.aload_n 0, 1) := by decide +kernel
theorem dX16_match_44 : decode cX16_match 44 = .ok (.iconst 5, 1) := by decide +kernel
theorem dX16_match_45 : decode cX16_match 45 = .ok (.invokevirtual 65, 3) := by decide +kernel
theorem dX16_match_48 : decode cX16_match 48 = .ok (.athrow, 1) := by decide +kernel
theorem dX16_match_49 : decode cX16_match 49 = .ok (.lload_n 3, 1) := by decide +kernel
theorem dX16_match_50 : decode cX16_match 50 = .ok (.ldc_w 267, 3) := by decide +kernel
theorem dX16_match_53 : decode cX16_match 53 = .ok (.invokestatic 99, 3) := by decide +kernel
theorem dX16_match_56 : decode cX16_match 56 = .ok (.lcmp, 1) := by decide +kernel
theorem dX16_match_57 : decode cX16_match 57 = .ok (.ifCond .eq 14, 3) := by decide +kernel
theorem dX16_match_60 : decode cX16_match 60 = .ok (.lload_n 3, 1) := by decide +kernel
theorem dX16_match_61 : decode cX16_match 61 = .ok (.ldc_w 268, 3) := by decide +kernel
theorem dX16_match_64 : decode cX16_match 64 = .ok (.invokestatic 99, 3) := by decide +kernel
theorem dX16_match_67 : decode cX16_match 67 = .ok (.lcmp, 1) := by decide +kernel
theorem dX16_match_68 : decode cX16_match 68 = .ok (.ifCond .ne 10, 3) := by decide +kernel
theorem dX16_match_71 : decode cX16_match 71 = .ok (.aload_n 0, 1) := by decide +kernel
theorem dX16_match_72 : decode cX16_match 72 = .ok (.bipush 6, 2) := by decide +kernel
theorem dX16_match_74 : decode cX16_match 74 = .ok (.invokevirtual 65, 3) := by decide +kernel
theorem dX16_match_77 : decode cX16_match 77 = .ok (.athrow, 1) := by decide +kernel
theorem dX16_match_78 : decode cX16_match 78 = .ok (.aload_n 0, 1) := by decide +kernel
theorem dX16_match_79 : decode cX16_match 79 = .ok (.invokevirtual 84, 3) := by decide +kernel
theorem dX16_match_82 : decode cX16_match 82 = .ok (.aload_n 0, 1) := by decide +kernel
theorem dX16_match_83 : decode cX16_match 83 = .ok (.getfield 118, 3) := by decide +kernel
theorem dX16_match_86 : decode cX16_match 86 = .ok (.getfield 239, 3) := by decide +kernel
theorem dX16_match_89 : decode cX16_match 89 = .ok (.iload_n 1, 1) := by decide +kernel
theorem dX16_match_90 : decode cX16_match 90 = .ok (.iload 5, 2) := by decide +kernel
theorem dX16_match_92 : decode cX16_match 92 = .ok (.iastore, 1) := by decide +kernel
theorem dX16_match_93 : decode cX16_match 93 = .ok (.aload_n 0, 1) := by decide +kernel
theorem dX16_match_94 : decode cX16_match 94 = .ok (.getfield 118, 3) := by decide +kernel
theorem dX16_match_97 : decode cX16_match 97 = .ok (.iload_n 1, 1) := by decide +kernel
theorem dX16_match_98 : decode cX16_match 98 = .ok (.lload_n 3, 1) := by decide +kernel
theorem dX16_match_99 : decode cX16_match 99 = .ok (.invokevirtual 182, 3) := by decide +kernel
theorem dX16_match_102 : decode cX16_match 102 = .ok (.aload_n 0, 1) := by decide +kernel
theorem dX16_match_103 : decode cX16_match 103 = .ok (.getfield 118, 3) := by decide +kernel
theorem dX16_match_106 : decode cX16_match 106 = .ok (.iload_n 1, 1) := by decide +kernel
theorem dX16_match_107 : decode cX16_match 107 = .ok (.ldc_w 267, 3) := by decide +kernel
theorem dX16_match_110 : decode cX16_match 110 = .ok (.invokestatic 99, 3) := by decide +kernel
theorem dX16_match_113 : decode cX16_match 113 = .ok (.invokevirtual 182, 3) := by decide +kernel
theorem dX16_match_116 : decode cX16_match 116 = .ok (.aload_n 0, 1) := by decide +kernel
theorem dX16_match_117 : decode cX16_match 117 = .ok (.getfield 118, 3) := by decide +kernel
theorem dX16_match_120 : decode cX16_match 120 = .ok (.iload_n 1, 1) := by decide +kernel
theorem dX16_match_121 : decode cX16_match 121 = .ok (.ldc_w 268, 3) := by decide +kernel
theorem dX16_match_124 : decode cX16_match 124 = .ok (.invokestatic 99, 3) := by decide +kernel
theorem dX16_match_127 : decode cX16_match 127 = .ok (.invokevirtual 182, 3) := by decide +kernel
theorem dX16_match_130 : decode cX16_match 130 = .ok (.aload_n 0, 1) := by decide +kernel
theorem dX16_match_131 : decode cX16_match 131 = .ok (.bipush 58, 2) := by decide +kernel
theorem dX16_match_133 : decode cX16_match 133 = .ok (.invokevirtual 159, 3) := by decide +kernel
theorem dX16_match_136 : decode cX16_match 136 = .ok (.aload_n 0, 1) := by decide +kernel
theorem dX16_match_137 : decode cX16_match 137 = .ok (.getfield 118, 3) := by decide +kernel
theorem dX16_match_140 : decode cX16_match 140 = .ok (.getfield 219, 3) := by decide +kernel
theorem dX16_match_143 : decode cX16_match 143 = .ok (.bipush 8, 2) := by decide +kernel
theorem dX16_match_145 : decode cX16_match 145 = .ok (.iload_n 1, 1) := by decide +kernel
theorem dX16_match_146 : decode cX16_match 146 = .ok (.imul, 1) := by decide +kernel
theorem dX16_match_147 : decode cX16_match 147 = .ok (.aload_n 0, 1) := by decide +kernel
theorem dX16_match_148 : decode cX16_match 148 = .ok (.iload_n 2, 1) := by decide +kernel
theorem dX16_match_149 : decode cX16_match 149 = .ok (.invokevirtual 225, 3) := by decide +kernel
theorem dX16_match_152 : decode cX16_match 152 = .ok (.iastore, 1) := by decide +kernel
theorem dX16_match_153 : decode cX16_match 153 = .ok (.aload_n 0, 1) := by decide +kernel
theorem dX16_match_154 : decode cX16_match 154 = .ok (.getfield 118, 3) := by decide +kernel
theorem dX16_match_157 : decode cX16_match 157 = .ok (.getfield 222, 3) := by decide +kernel
theorem dX16_match_160 : decode cX16_match 160 = .ok (.iload_n 1, 1) := by decide +kernel
theorem dX16_match_161 : decode cX16_match 161 = .ok (.iconst 1, 1) := by decide +kernel
theorem dX16_match_162 : decode cX16_match 162 = .ok (.iastore, 1) := by decide +kernel
theorem dX16_match_163 : decode cX16_match 163 = .ok (.aload_n 0, 1) := by decide +kernel
theorem dX16_match_164 : decode cX16_match 164 = .ok (.ldc_w 270, 3) := by decide +kernel
theorem dX16_match_167 : decode cX16_match 167 = .ok (.invokevirtual 103, 3) := by decide +kernel
theorem dX16_match_170 : decode cX16_match 170 = .ok (.ifCond .ne 8, 3) := by decide +kernel
theorem dX16_match_173 : decode cX16_match 173 = .ok (.aload_n 0, 1) := by decide +kernel
theorem dX16_match_174 : decode cX16_match 174 = .ok (.invokevirtual 80, 3) := by decide +kernel
theorem dX16_match_177 : decode cX16_match 177 = .ok (.athrow, 1) := by decide +kernel
theorem dX16_match_178 : decode cX16_match 178 = .ok (.aload_n 0, 1) := by decide +kernel
theorem dX16_match_179 : decode cX16_match 179 = .ok (.ldc_w 270, 3) := by decide +kernel
theorem dX16_match_182 : decode cX16_match 182 = .ok (.invokevirtual 103, 3) := by decide +kernel
theorem dX16_match_185 : decode cX16_match 185 = .ok (.ifCond .eq 70, 3) := by decide +kernel
theorem dX16_match_188 : decode cX16_match 188 = .ok (.aload_n 0, 1) := by decide +kernel
theorem dX16_match_189 : decode cX16_match 189 = .ok (.getfield 118, 3) := by decide +kernel
theorem dX16_match_192 : decode cX16_match 192 = .ok (.getfield 222, 3) := by decide +kernel
theorem dX16_match_195 : decode cX16_match 195 = .ok (.iload_n 1, 1) := by decide +kernel
theorem dX16_match_196 : decode cX16_match 196 = .ok (.iaload, 1) := by decide +kernel
theorem dX16_match_197 : decode cX16_match 197 = .ok (.iconst 4, 1) := by decide +kernel
theorem dX16_match_198 : decode cX16_match 198 = .ok (.if_icmp .ne 10, 3) := by decide +kernel
theorem dX16_match_201 : decode cX16_match 201 = .ok (.aload_n 0, 1) := by decide +kernel
theorem dX16_match_202 : decode cX16_match 202 = .ok (.bipush 8, 2) := by decide +kernel
theorem dX16_match_204 : decode cX16_match 204 = .ok (.invokevirtual 65, 3) := by decide +kernel
theorem dX16_match_207 : decode cX16_match 207 = .ok (.athrow, 1) := by decide +kernel
theorem dX16_match_208 : decode cX16_match 208 = .ok (.aload_n 0, 1) := by decide +kernel
theorem dX16_match_209 : decode cX16_match 209 = .ok (.invokevirtual 84, 3) := by decide +kernel
theorem dX16_match_212 : decode cX16_match 212 = .ok (.aload_n 0, 1) := by decide +kernel
theorem dX16_match_213 : decode cX16_match 213 = .ok (.getfield 118, 3) := by decide +kernel
theorem dX16_match_216 : decode cX16_match 216 = .ok (.getfield 219, 3) := by decide +kernel
theorem dX16_match_219 : decode cX16_match 219 = .ok (.bipush 8, 2) := by decide +kernel
theorem dX16_match_221 : decode cX16_match 221 = .ok (.iload_n 1, 1) := by decide +kernel
theorem dX16_match_222 : decode cX16_match 222 = .ok (.imul, 1) := by decide +kernel
theorem dX16_match_223 : decode cX16_match 223 = .ok (.aload_n 0, 1) := by decide +kernel
theorem dX16_match_224 : decode cX16_match 224 = .ok (.getfield 118, 3) := by decide +kernel
theorem dX16_match_227 : decode cX16_match 227 = .ok (.getfield 222, 3) := by decide +kernel
theorem dX16_match_230 : decode cX16_match 230 = .ok (.iload_n 1, 1) := by decide +kernel
theorem dX16_match_231 : decode cX16_match 231 = .ok (.iaload, 1) := by decide +kernel
theorem dX16_match_232 : decode cX16_match 232 = .ok (.iadd, 1) := by decide +kernel
theorem dX16_match_233 : decode cX16_match 233 = .ok (.aload_n 0, 1) := by decide +kernel
theorem dX16_match_234 : decode cX16_match 234 = .ok (.iload_n 2, 1) := by decide +kernel
theorem dX16_match_235 : decode cX16_match 235 = .ok (.invokevirtual 225, 3) := by decide +kernel
theorem dX16_match_238 : decode cX16_match 238 = .ok (.iastore, 1) := by decide +kernel
theorem dX16_match_239 : decode cX16_match 239 = .ok (.aload_n 0, 1) := by decide +kernel
theorem dX16_match_240 : decode cX16_match 240 = .ok (.getfield 118, 3) := by decide +kernel
theorem dX16_match_243 : decode cX16_match 243 = .ok (.getfield 222, 3) := by decide +kernel
theorem dX16_match_246 : decode cX16_match 246 = .ok (.iload_n 1, 1) := by decide +kernel
theorem dX16_match_247 : decode cX16_match 247 = .ok (.dup2, 1) := by decide +kernel
theorem dX16_match_248 : decode cX16_match 248 = .ok (.iaload, 1) := by decide +kernel
theorem dX16_match_249 : decode cX16_match 249 = .ok (.iconst 1, 1) := by decide +kernel
theorem dX16_match_250 : decode cX16_match 250 = .ok (.iadd, 1) := by decide +kernel
theorem dX16_match_251 : decode cX16_match 251 = .ok (.iastore, 1) := by decide +kernel
theorem dX16_match_252 : decode cX16_match 252 = .ok (.goto (-74), 3) := by decide +kernel
theorem dX16_match_255 : decode cX16_match 255 = .ok (.aload_n 0, 1) := by decide +kernel
theorem dX16_match_256 : decode cX16_match 256 = .ok (.ldc_w 272, 3) := by decide +kernel
theorem dX16_match_259 : decode cX16_match 259 = .ok (.invokevirtual 200, 3) := by decide +kernel
theorem dX16_match_262 : decode cX16_match 262 = .ok (.aload_n 0, 1) := by decide +kernel
theorem dX16_match_263 : decode cX16_match 263 = .ok (.getfield 118, 3) := by decide +kernel
theorem dX16_match_266 : decode cX16_match 266 = .ok (.getfield 191, 3) := by decide +kernel
theorem dX16_match_269 : decode cX16_match 269 = .ok (.iload_n 1, 1) := by decide +kernel
theorem dX16_match_270 : decode cX16_match 270 = .ok (.aload_n 0, 1) := by decide +kernel
theorem dX16_match_271 : decode cX16_match 271 = .ok (.lconst 0, 1) := by decide +kernel
theorem dX16_match_272 : decode cX16_match 272 = .ok (.ldc2_w 207, 3) := by decide +kernel
theorem dX16_match_275 : decode cX16_match 275 = .ok (.invokevirtual 209, 3) := by decide +kernel
theorem dX16_match_278 : decode cX16_match 278 = .ok (.lastore, 1) := by decide +kernel
theorem dX16_match_279 : decode cX16_match 279 = .ok (.return_, 1) := by decide +kernel
set_option maxRecDepth 20000 in
theorem a_X16_match_71 {Q : Sg → Unit → Prop} {X : Sg → String → Prop} (K : MC R p s m args c cX16_match 6 RX16 D cA tys A n0 s0 142 10045 []) (hQ : HQV p l e R s m args below meth c cX16_match D cA A n0 s0 QM dm ra jx rm Q) (hX : HX p l e R s m args below meth c 6 D cA A n0 s0 QM dm ra jx rm X) : ∀ (σ : Sg), w_X16_match_71 ra jx rm Q X σ → RG σ → Shp dm ra jx rm σ → JJ p l e R s m args below meth c 6 D cA A n0 s0 QM σ 71 [(0, .ref rm)] [] := by
  intro σ h hGσ hS H locs ls hH hl hc
  have B := K.1
  unfold w_X16_match_71 at h
  refine lv_aload_n B.1 B.2.1 dX16_match_71 rfl (lv_at hl 0 rfl) ?_
  refine lv_bipush (v := i32 6) B.1 B.2.1 dX16_match_72 (by decide) ?_
  refine c_V B hH hl hc K.2.2.1 (C := RX16) (T := TX16) (N := 123) (ci := 16) (As := [.int (i32 6)]) (ok_X16_fail K.2.1 σ 6 (by unfold rng; omega) hGσ hS h) wc_X16_65 1 hd_X16_fail ⟨Nat.le_trans (Nat.le_of_ble_eq_true rfl) K.2.2.2.1, Nat.le_trans (Nat.le_of_ble_eq_true rfl) K.2.2.2.2.1⟩ hS.1.1 hS.1.2 (by decide) rfl rfl (rest := []) rfl (Nat.le_of_ble_eq_true rfl) dX16_match_74 (fun σ121 w hq => ?_) (fun σ9 E9 hx9 => hX σ9 E9 _ _ _ (tb_out K.2.2.2.2.2 rfl) hx9.1 hx9.2.1 hx9.2.2)
  obtain ⟨r122, rfl, h, hGσ121, hS⟩ := hq
  intro H locs ls hH hl hc
  refine W.eq (g2 := F0 m 77 ls [va_rf r122]) (rfl) ?_
  try dsimp only at h
  obtain ⟨qt, h⟩ := h
  refine W.eq (g2 := F0 m 77 ls [.ref (ra 1)]) (by rw [qt]; rfl) ?_
  have hx9 := And.intro h (And.intro hGσ121 hS)
  refine h_athrow B hH hl hc (ci := 14) (hS.ob (k := 1) (ci := 14) (by decide)).1 (hS.ob (k := 1) (ci := 14) (by decide)).2 (by decide) rfl dX16_match_77 ?_
  exact hX σ121 _ _ _ _ (tb_out K.2.2.2.2.2 rfl) hx9.1 hx9.2.1 hx9.2.2
set_option maxRecDepth 20000 in
theorem a_X16_match_255 {Q : Sg → Unit → Prop} {X : Sg → String → Prop} (K : MC R p s m args c cX16_match 6 RX16 D cA tys A n0 s0 142 10045 []) (hQ : HQV p l e R s m args below meth c cX16_match D cA A n0 s0 QM dm ra jx rm Q) (hX : HX p l e R s m args below meth c 6 D cA A n0 s0 QM dm ra jx rm X) : ∀ (σ : Sg) (v1 : Int) (g1 : rng v1), w_X16_match_255 ra jx rm Q X σ v1 → RG σ → Shp dm ra jx rm σ → JJ p l e R s m args below meth c 6 D cA A n0 s0 QM σ 255 [(0, .ref rm), (1, .int (i32 v1))] [] := by
  intro σ v1 g1 h hGσ hS H locs ls hH hl hc
  have B := K.1
  unfold w_X16_match_255 at h
  refine lv_aload_n B.1 B.2.1 dX16_match_255 rfl (lv_at hl 0 rfl) ?_
  refine xs_ldcw B.1 B.2.1 B.2.2.1 (B.2.2.2.2.2.2.2.2.2.2.1 _ (List.mem_of_getElem? (l := stL) (i := 14) rfl)).1 dX16_match_256 ?_
  refine c_V B hH hl hc K.2.2.1 (C := RX16) (T := TX16) (N := 123) (ci := 16) (As := [.ref (cA (1000 + 272))]) (ok_X16_keyword K.2.1 σ 272 st_272 hGσ hS h) wc_X16_200 1 hd_X16_keyword ⟨Nat.le_trans (Nat.le_of_ble_eq_true rfl) K.2.2.2.1, Nat.le_trans (Nat.le_of_ble_eq_true rfl) K.2.2.2.2.1⟩ hS.1.1 hS.1.2 (by decide) rfl rfl (rest := []) rfl (Nat.le_of_ble_eq_true rfl) dX16_match_259 (fun σ123 w hq => ?_) (fun σ9 E9 hx9 => hX σ9 E9 _ _ _ (tb_out K.2.2.2.2.2 rfl) hx9.1 hx9.2.1 hx9.2.2)
  obtain ⟨rfl, h, hGσ123, hS⟩ := hq
  intro H locs ls hH hl hc
  refine W.eq (g2 := F0 m 262 ls []) (rfl) ?_
  try dsimp only at h
  refine lv_aload_n B.1 B.2.1 dX16_match_262 rfl (lv_at hl 0 rfl) ?_
  refine r_getp B hH hS 18 (by decide) wf_X16_118 rfl rfl dX16_match_263 ?_
  obtain ⟨a124, ea124, ja124, h⟩ := h
  refine W.eq (g2 := F0 m 266 ls [.ref a124]) (by rw [ea124]; rfl) ?_
  refine n_arr B hH hS ja124 8 (kd := 101) (n := 16) (by decide) (by decide) (List.mem_of_getElem? (i := 8) rfl) rfl dX16_match_266 ?_
  refine lv_iload_n B.1 B.2.1 dX16_match_269 rfl (lv_at hl 1 rfl) ?_
  refine lv_aload_n B.1 B.2.1 dX16_match_270 rfl (lv_at hl 0 rfl) ?_
  refine lv_lconst (v := 0) B.1 B.2.1 dX16_match_271 (by decide) ?_
  refine lv_ldc2 B.1 B.2.1 B.2.2.1 (B.2.2.2.1 _ (wk_X16_207)) dX16_match_272 ?_
  refine c_V B hH hl hc K.2.2.1 (C := RX16) (T := TX16) (N := 123) (ci := 16) (As := [.long 0, .long 1000]) (ok_X16_bounded K.2.1 σ123 0 1000 hGσ123 hS h) wc_X16_209 2 hd_X16_bounded ⟨Nat.le_trans (Nat.le_of_ble_eq_true rfl) K.2.2.2.1, Nat.le_trans (Nat.le_of_ble_eq_true rfl) K.2.2.2.2.1⟩ hS.1.1 hS.1.2 (by decide) rfl rfl (rest := [.int (i32 v1), .ref (jx a124 8)]) rfl (Nat.le_of_ble_eq_true rfl) dX16_match_275 (fun σ125 w hq => ?_) (fun σ9 E9 hx9 => hX σ9 E9 _ _ _ (tb_out K.2.2.2.2.2 rfl) hx9.1 hx9.2.1 hx9.2.2)
  obtain ⟨r126, rfl, h, hGσ125, hS⟩ := hq
  intro H locs ls hH hl hc
  refine W.eq (g2 := F0 m 278 ls [.long r126, .int (i32 v1), .ref (jx a124 8)]) (rfl) ?_
  try dsimp only at h
  obtain ⟨q2, h⟩ := h
  obtain ⟨σ127, eσ127⟩ : ∃ z, z = pJ σ125 (jx a124 8) v1.toNat r126 := ⟨_, rfl⟩
  have h := h σ127 eσ127
  refine x_last B K.2.1 hH (hS.ja ja124 (k := 8) (kd := 101) (n := 16) (by decide)) (by decide) q2 dX16_match_278 (fun H locs hH => ?_)
  have hH : Hd D cA A s (pJ σ125 (jx a124 8) v1.toNat r126) H locs := hH
  rw [← eσ127] at hH
  have hGσ127 : RG σ127 := by rw [eσ127]; exact hGσ125.pJ
  have hS : Shp dm ra jx rm σ127 := by rw [eσ127]; exact hS
  have hc : CB n0 s0 σ127 := by rw [eσ127]; exact hc
  rw [show gc σ125 = gc σ127 by rw [eσ127], show gs σ125 = gs σ127 by rw [eσ127]]
  exact hQ _ _ _ _ _ dX16_match_279 hH hc h hGσ127 hS
set_option maxRecDepth 20000 in
theorem a_X16_match_208 {Q : Sg → Unit → Prop} {X : Sg → String → Prop} (K : MC R p s m args c cX16_match 6 RX16 D cA tys A n0 s0 142 10045 []) (hQ : HQV p l e R s m args below meth c cX16_match D cA A n0 s0 QM dm ra jx rm Q) (hX : HX p l e R s m args below meth c 6 D cA A n0 s0 QM dm ra jx rm X) {K178 : Sg → Int → Int → Prop} (hK178 : ∀ (σ : Sg) (v1 : Int) (v2 : Int) (g1 : rng v1) (g2 : rng v2), K178 σ v1 v2 → RG σ → Shp dm ra jx rm σ → JJ p l e R s m args below meth c 6 D cA A n0 s0 QM σ 178 [(0, .ref rm), (1, .int (i32 v1)), (2, .int (i32 v2))] []) : ∀ (σ : Sg) (v1 : Int) (v2 : Int) (g1 : rng v1) (g2 : rng v2), w_X16_match_208 ra jx rm K178 Q X σ v1 v2 → RG σ → Shp dm ra jx rm σ → JJ p l e R s m args below meth c 6 D cA A n0 s0 QM σ 208 [(0, .ref rm), (1, .int (i32 v1)), (2, .int (i32 v2))] [] := by
  intro σ v1 v2 g1 g2 h hGσ hS H locs ls hH hl hc
  have B := K.1
  unfold w_X16_match_208 at h
  refine lv_aload_n B.1 B.2.1 dX16_match_208 rfl (lv_at hl 0 rfl) ?_
  refine c_V B hH hl hc K.2.2.1 (C := RX16) (T := TX16) (N := 123) (ci := 16) (As := []) (ok_X16_take K.2.1 σ hGσ hS h) wc_X16_84 0 hd_X16_take ⟨Nat.le_trans (Nat.le_of_ble_eq_true rfl) K.2.2.2.1, Nat.le_trans (Nat.le_of_ble_eq_true rfl) K.2.2.2.2.1⟩ hS.1.1 hS.1.2 (by decide) rfl rfl (rest := []) rfl (Nat.le_of_ble_eq_true rfl) dX16_match_209 (fun σ128 w hq => ?_) (fun σ9 E9 hx9 => hX σ9 E9 _ _ _ (tb_out K.2.2.2.2.2 rfl) hx9.1 hx9.2.1 hx9.2.2)
  obtain ⟨rfl, h, hGσ128, hS⟩ := hq
  intro H locs ls hH hl hc
  refine W.eq (g2 := F0 m 212 ls []) (rfl) ?_
  try dsimp only at h
  refine lv_aload_n B.1 B.2.1 dX16_match_212 rfl (lv_at hl 0 rfl) ?_
  refine r_getp B hH hS 18 (by decide) wf_X16_118 rfl rfl dX16_match_213 ?_
  obtain ⟨a129, ea129, ja129, h⟩ := h
  refine W.eq (g2 := F0 m 216 ls [.ref a129]) (by rw [ea129]; rfl) ?_
  refine n_arr B hH hS ja129 13 (kd := 100) (n := 128) (by decide) (by decide) (List.mem_of_getElem? (i := 13) rfl) rfl dX16_match_216 ?_
  refine lv_bipush (v := i32 8) B.1 B.2.1 dX16_match_219 (by decide) ?_
  refine lv_iload_n B.1 B.2.1 dX16_match_221 rfl (lv_at hl 1 rfl) ?_
  obtain ⟨q2, h⟩ := h
  refine lv_imul B.1 B.2.1 dX16_match_222 ?_
  rw [i32_mul]
  refine lv_aload_n B.1 B.2.1 dX16_match_223 rfl (lv_at hl 0 rfl) ?_
  refine r_getp B hH hS 18 (by decide) wf_X16_118 rfl rfl dX16_match_224 ?_
  obtain ⟨a130, ea130, ja130, h⟩ := h
  refine W.eq (g2 := F0 m 227 ls [.ref a130, .int (i32 (8 * v1)), .ref (jx a129 13)]) (by rw [ea130]; rfl) ?_
  refine n_arr B hH hS ja130 12 (kd := 100) (n := 16) (by decide) (by decide) (List.mem_of_getElem? (i := 12) rfl) rfl dX16_match_227 ?_
  refine lv_iload_n B.1 B.2.1 dX16_match_230 rfl (lv_at hl 1 rfl) ?_
  obtain ⟨q4, h⟩ := h
  refine x_iald B K.2.1 hH (hS.ja ja130 (k := 12) (kd := 100) (n := 16) (by decide)) (by decide) q4 dX16_match_231 ?_
  obtain ⟨q5, h⟩ := h
  refine lv_iadd B.1 B.2.1 dX16_match_232 ?_
  rw [i32_add]
  refine lv_aload_n B.1 B.2.1 dX16_match_233 rfl (lv_at hl 0 rfl) ?_
  refine lv_iload_n B.1 B.2.1 dX16_match_234 rfl (lv_at hl 2 rfl) ?_
  refine c_V B hH hl hc K.2.2.1 (C := RX16) (T := TX16) (N := 123) (ci := 16) (As := [.int (i32 v2)]) (ok_X16_value K.2.1 σ128 v2 g2 hGσ128 hS h) wc_X16_225 1 hd_X16_value ⟨Nat.le_trans (Nat.le_of_ble_eq_true rfl) K.2.2.2.1, Nat.le_trans (Nat.le_of_ble_eq_true rfl) K.2.2.2.2.1⟩ hS.1.1 hS.1.2 (by decide) rfl rfl (rest := [.int (i32 ((8 * v1) + (gI σ128 (jx a130 12) v1.toNat))), .ref (jx a129 13)]) rfl (Nat.le_of_ble_eq_true rfl) dX16_match_235 (fun σ131 w hq => ?_) (fun σ9 E9 hx9 => hX σ9 E9 _ _ _ (tb_out K.2.2.2.2.2 rfl) hx9.1 hx9.2.1 hx9.2.2)
  obtain ⟨r132, rfl, gr132, h, hGσ131, hS⟩ := hq
  intro H locs ls hH hl hc
  refine W.eq (g2 := F0 m 238 ls [.int (i32 r132), .int (i32 ((8 * v1) + (gI σ128 (jx a130 12) v1.toNat))), .ref (jx a129 13)]) (rfl) ?_
  try dsimp only at h
  obtain ⟨q6, h⟩ := h
  obtain ⟨σ133, eσ133⟩ : ∃ z, z = pI σ131 (jx a129 13) ((8 * v1) + (gI σ128 (jx a130 12) v1.toNat)).toNat r132 := ⟨_, rfl⟩
  have h := h σ133 eσ133
  refine x_iast B K.2.1 hH (hS.ja ja129 (k := 13) (kd := 100) (n := 128) (by decide)) (by decide) q6 dX16_match_238 (fun H locs hH => ?_)
  have hH : Hd D cA A s (pI σ131 (jx a129 13) ((8 * v1) + (gI σ128 (jx a130 12) v1.toNat)).toNat r132) H locs := hH
  rw [← eσ133] at hH
  have hGσ133 : RG σ133 := by rw [eσ133]; exact hGσ131.pI gr132
  have hS : Shp dm ra jx rm σ133 := by rw [eσ133]; exact hS
  have hc : CB n0 s0 σ133 := by rw [eσ133]; exact hc
  rw [show gc σ131 = gc σ133 by rw [eσ133], show gs σ131 = gs σ133 by rw [eσ133]]
  refine lv_aload_n B.1 B.2.1 dX16_match_239 rfl (lv_at hl 0 rfl) ?_
  refine r_getp B hH hS 18 (by decide) wf_X16_118 rfl rfl dX16_match_240 ?_
  obtain ⟨a134, ea134, ja134, h⟩ := h
  refine W.eq (g2 := F0 m 243 ls [.ref a134]) (by rw [ea134]; rfl) ?_
  refine n_arr B hH hS ja134 12 (kd := 100) (n := 16) (by decide) (by decide) (List.mem_of_getElem? (i := 12) rfl) rfl dX16_match_243 ?_
  refine lv_iload_n B.1 B.2.1 dX16_match_246 rfl (lv_at hl 1 rfl) ?_
  refine lv_dup2_11 B.1 B.2.1 dX16_match_247 rfl rfl ?_
  obtain ⟨q9, h⟩ := h
  refine x_iald B K.2.1 hH (hS.ja ja134 (k := 12) (kd := 100) (n := 16) (by decide)) (by decide) q9 dX16_match_248 ?_
  refine lv_iconst (v := i32 1) B.1 B.2.1 dX16_match_249 (by decide) ?_
  obtain ⟨q10, h⟩ := h
  refine lv_iadd B.1 B.2.1 dX16_match_250 ?_
  rw [i32_add]
  obtain ⟨q11, h⟩ := h
  obtain ⟨σ135, eσ135⟩ : ∃ z, z = pI σ133 (jx a134 12) v1.toNat ((gI σ133 (jx a134 12) v1.toNat) + 1) := ⟨_, rfl⟩
  have h := h σ135 eσ135
  refine x_iast B K.2.1 hH (hS.ja ja134 (k := 12) (kd := 100) (n := 16) (by decide)) (by decide) q11 dX16_match_251 (fun H locs hH => ?_)
  have hH : Hd D cA A s (pI σ133 (jx a134 12) v1.toNat ((gI σ133 (jx a134 12) v1.toNat) + 1)) H locs := hH
  rw [← eσ135] at hH
  have hGσ135 : RG σ135 := by rw [eσ135]; exact hGσ133.pI q10
  have hS : Shp dm ra jx rm σ135 := by rw [eσ135]; exact hS
  have hc : CB n0 s0 σ135 := by rw [eσ135]; exact hc
  rw [show gc σ133 = gc σ135 by rw [eσ135], show gs σ133 = gs σ135 by rw [eσ135]]
  refine lv_goto (tgt := 178) B.1 B.2.1 dX16_match_252 (by decide) ?_
  exact hK178 _ _ _ g1 g2 h hGσ135 hS _ _ _ hH (lv_sub (l' := [(0, .ref rm), (1, .int (i32 v1)), (2, .int (i32 v2))]) hl [0, 1, 2] rfl) hc
set_option maxRecDepth 20000 in
theorem a_X16_match_201 {Q : Sg → Unit → Prop} {X : Sg → String → Prop} (K : MC R p s m args c cX16_match 6 RX16 D cA tys A n0 s0 142 10045 []) (hQ : HQV p l e R s m args below meth c cX16_match D cA A n0 s0 QM dm ra jx rm Q) (hX : HX p l e R s m args below meth c 6 D cA A n0 s0 QM dm ra jx rm X) : ∀ (σ : Sg), w_X16_match_201 ra jx rm Q X σ → RG σ → Shp dm ra jx rm σ → JJ p l e R s m args below meth c 6 D cA A n0 s0 QM σ 201 [(0, .ref rm)] [] := by
  intro σ h hGσ hS H locs ls hH hl hc
  have B := K.1
  unfold w_X16_match_201 at h
  refine lv_aload_n B.1 B.2.1 dX16_match_201 rfl (lv_at hl 0 rfl) ?_
  refine lv_bipush (v := i32 8) B.1 B.2.1 dX16_match_202 (by decide) ?_
  refine c_V B hH hl hc K.2.2.1 (C := RX16) (T := TX16) (N := 123) (ci := 16) (As := [.int (i32 8)]) (ok_X16_fail K.2.1 σ 8 (by unfold rng; omega) hGσ hS h) wc_X16_65 1 hd_X16_fail ⟨Nat.le_trans (Nat.le_of_ble_eq_true rfl) K.2.2.2.1, Nat.le_trans (Nat.le_of_ble_eq_true rfl) K.2.2.2.2.1⟩ hS.1.1 hS.1.2 (by decide) rfl rfl (rest := []) rfl (Nat.le_of_ble_eq_true rfl) dX16_match_204 (fun σ136 w hq => ?_) (fun σ9 E9 hx9 => hX σ9 E9 _ _ _ (tb_out K.2.2.2.2.2 rfl) hx9.1 hx9.2.1 hx9.2.2)
  obtain ⟨r137, rfl, h, hGσ136, hS⟩ := hq
  intro H locs ls hH hl hc
  refine W.eq (g2 := F0 m 207 ls [va_rf r137]) (rfl) ?_
  try dsimp only at h
  obtain ⟨qt, h⟩ := h
  refine W.eq (g2 := F0 m 207 ls [.ref (ra 1)]) (by rw [qt]; rfl) ?_
  have hx9 := And.intro h (And.intro hGσ136 hS)
  refine h_athrow B hH hl hc (ci := 14) (hS.ob (k := 1) (ci := 14) (by decide)).1 (hS.ob (k := 1) (ci := 14) (by decide)).2 (by decide) rfl dX16_match_207 ?_
  exact hX σ136 _ _ _ _ (tb_out K.2.2.2.2.2 rfl) hx9.1 hx9.2.1 hx9.2.2
set_option maxRecDepth 20000 in
theorem a_X16_match_188 {Q : Sg → Unit → Prop} {X : Sg → String → Prop} (K : MC R p s m args c cX16_match 6 RX16 D cA tys A n0 s0 142 10045 []) (hQ : HQV p l e R s m args below meth c cX16_match D cA A n0 s0 QM dm ra jx rm Q) (hX : HX p l e R s m args below meth c 6 D cA A n0 s0 QM dm ra jx rm X) {K178 : Sg → Int → Int → Prop} (hK178 : ∀ (σ : Sg) (v1 : Int) (v2 : Int) (g1 : rng v1) (g2 : rng v2), K178 σ v1 v2 → RG σ → Shp dm ra jx rm σ → JJ p l e R s m args below meth c 6 D cA A n0 s0 QM σ 178 [(0, .ref rm), (1, .int (i32 v1)), (2, .int (i32 v2))] []) : ∀ (σ : Sg) (v1 : Int) (v2 : Int) (g1 : rng v1) (g2 : rng v2), w_X16_match_188 ra jx rm K178 Q X σ v1 v2 → RG σ → Shp dm ra jx rm σ → JJ p l e R s m args below meth c 6 D cA A n0 s0 QM σ 188 [(0, .ref rm), (1, .int (i32 v1)), (2, .int (i32 v2))] [] := by
  intro σ v1 v2 g1 g2 h hGσ hS H locs ls hH hl hc
  have B := K.1
  unfold w_X16_match_188 at h
  refine lv_aload_n B.1 B.2.1 dX16_match_188 rfl (lv_at hl 0 rfl) ?_
  refine r_getp B hH hS 18 (by decide) wf_X16_118 rfl rfl dX16_match_189 ?_
  obtain ⟨a138, ea138, ja138, h⟩ := h
  refine W.eq (g2 := F0 m 192 ls [.ref a138]) (by rw [ea138]; rfl) ?_
  refine n_arr B hH hS ja138 12 (kd := 100) (n := 16) (by decide) (by decide) (List.mem_of_getElem? (i := 12) rfl) rfl dX16_match_192 ?_
  refine lv_iload_n B.1 B.2.1 dX16_match_195 rfl (lv_at hl 1 rfl) ?_
  obtain ⟨q2, h⟩ := h
  refine x_iald B K.2.1 hH (hS.ja ja138 (k := 12) (kd := 100) (n := 16) (by decide)) (by decide) q2 dX16_match_196 ?_
  refine lv_iconst (v := i32 4) B.1 B.2.1 dX16_match_197 (by decide) ?_
  refine lv_icmp_ne (tgt := 208) B.1 B.2.1 dX16_match_198 (by decide) (fun h9 => ?_) (fun h9 => ?_)
  · rw [if_pos (fun q => h9 ((i32_eq (hGσ _ _) (by unfold rng; omega)).mpr q))] at h
    exact a_X16_match_208 K hQ hX hK178 _ _ _ g1 g2 h hGσ hS _ _ _ hH (lv_sub (l' := [(0, .ref rm), (1, .int (i32 v1)), (2, .int (i32 v2))]) hl [0, 1, 2] rfl) hc
  · rw [if_neg (fun q => q ((i32_eq (hGσ _ _) (by unfold rng; omega)).mp h9))] at h
    exact a_X16_match_201 K hQ hX _ h hGσ hS _ _ _ hH (lv_sub (l' := [(0, .ref rm)]) hl [0] rfl) hc
set_option maxRecDepth 20000 in
theorem a_X16_match_178 {Q : Sg → Unit → Prop} {X : Sg → String → Prop} (K : MC R p s m args c cX16_match 6 RX16 D cA tys A n0 s0 142 10045 []) (hQ : HQV p l e R s m args below meth c cX16_match D cA A n0 s0 QM dm ra jx rm Q) (hX : HX p l e R s m args below meth c 6 D cA A n0 s0 QM dm ra jx rm X) {K178 : Sg → Int → Int → Prop} (hK178 : ∀ (σ : Sg) (v1 : Int) (v2 : Int) (g1 : rng v1) (g2 : rng v2), K178 σ v1 v2 → RG σ → Shp dm ra jx rm σ → JJ p l e R s m args below meth c 6 D cA A n0 s0 QM σ 178 [(0, .ref rm), (1, .int (i32 v1)), (2, .int (i32 v2))] []) : ∀ (σ : Sg) (v1 : Int) (v2 : Int) (g1 : rng v1) (g2 : rng v2), w_X16_match_178 ra jx rm K178 Q X σ v1 v2 → RG σ → Shp dm ra jx rm σ → JJ p l e R s m args below meth c 6 D cA A n0 s0 QM σ 178 [(0, .ref rm), (1, .int (i32 v1)), (2, .int (i32 v2))] [] := by
  intro σ v1 v2 g1 g2 h hGσ hS H locs ls hH hl hc
  have B := K.1
  unfold w_X16_match_178 at h
  refine lv_aload_n B.1 B.2.1 dX16_match_178 rfl (lv_at hl 0 rfl) ?_
  refine xs_ldcw B.1 B.2.1 B.2.2.1 (B.2.2.2.2.2.2.2.2.2.2.1 _ (List.mem_of_getElem? (l := stL) (i := 13) rfl)).1 dX16_match_179 ?_
  refine c_V B hH hl hc K.2.2.1 (C := RX16) (T := TX16) (N := 123) (ci := 16) (As := [.ref (cA (1000 + 270))]) (ok_X16_isWord K.2.1 σ 270 st_270 hGσ hS h) wc_X16_103 1 hd_X16_isWord ⟨Nat.le_trans (Nat.le_of_ble_eq_true rfl) K.2.2.2.1, Nat.le_trans (Nat.le_of_ble_eq_true rfl) K.2.2.2.2.1⟩ hS.1.1 hS.1.2 (by decide) rfl rfl (rest := []) rfl (Nat.le_of_ble_eq_true rfl) dX16_match_182 (fun σ139 w hq => ?_) (fun σ9 E9 hx9 => hX σ9 E9 _ _ _ (tb_out K.2.2.2.2.2 rfl) hx9.1 hx9.2.1 hx9.2.2)
  obtain ⟨r140, rfl, ⟨gr140, gzr140⟩, h, hGσ139, hS⟩ := hq
  intro H locs ls hH hl hc
  refine W.eq (g2 := F0 m 185 ls [.int (i32 r140)]) (rfl) ?_
  try dsimp only at h
  refine lv_if_eq (tgt := 255) B.1 B.2.1 dX16_match_185 (by decide) (fun h9 => ?_) (fun h9 => ?_)
  · rw [if_pos ((z_eq gr140).mp h9)] at h
    exact a_X16_match_255 K hQ hX _ _ g1 h hGσ139 hS _ _ _ hH (lv_sub (l' := [(0, .ref rm), (1, .int (i32 v1))]) hl [0, 1] rfl) hc
  · rw [if_neg (fun q => h9 ((z_eq gr140).mpr q))] at h
    exact a_X16_match_188 K hQ hX hK178 _ _ _ g1 g2 h hGσ139 hS _ _ _ hH (lv_sub (l' := [(0, .ref rm), (1, .int (i32 v1)), (2, .int (i32 v2))]) hl [0, 1, 2] rfl) hc
theorem al_X16_match_178 {Q : Sg → Unit → Prop} {X : Sg → String → Prop} (K : MC R p s m args c cX16_match 6 RX16 D cA tys A n0 s0 142 10045 []) (hQ : HQV p l e R s m args below meth c cX16_match D cA A n0 s0 QM dm ra jx rm Q) (hX : HX p l e R s m args below meth c 6 D cA A n0 s0 QM dm ra jx rm X) : ∀ (n : Nat), ∀ (σ : Sg) (v1 : Int) (v2 : Int) (g1 : rng v1) (g2 : rng v2), wl_X16_match_178 ra jx rm Q X n σ v1 v2 → RG σ → Shp dm ra jx rm σ → JJ p l e R s m args below meth c 6 D cA A n0 s0 QM σ 178 [(0, .ref rm), (1, .int (i32 v1)), (2, .int (i32 v2))] [] := by
  intro n
  induction n with
  | zero => intro σ v1 v2 g1 g2 h; exact h.elim
  | succ n ih => exact fun σ v1 v2 g1 g2 h => a_X16_match_178 K hQ hX ih σ v1 v2 g1 g2 h
set_option maxRecDepth 20000 in
theorem a_X16_match_173 {Q : Sg → Unit → Prop} {X : Sg → String → Prop} (K : MC R p s m args c cX16_match 6 RX16 D cA tys A n0 s0 142 10045 []) (hQ : HQV p l e R s m args below meth c cX16_match D cA A n0 s0 QM dm ra jx rm Q) (hX : HX p l e R s m args below meth c 6 D cA A n0 s0 QM dm ra jx rm X) : ∀ (σ : Sg), w_X16_match_173 ra jx rm Q X σ → RG σ → Shp dm ra jx rm σ → JJ p l e R s m args below meth c 6 D cA A n0 s0 QM σ 173 [(0, .ref rm)] [] := by
  intro σ h hGσ hS H locs ls hH hl hc
  have B := K.1
  unfold w_X16_match_173 at h
  refine lv_aload_n B.1 B.2.1 dX16_match_173 rfl (lv_at hl 0 rfl) ?_
  refine c_V B hH hl hc K.2.2.1 (C := RX16) (T := TX16) (N := 123) (ci := 16) (As := []) (ok_X16_misplaced K.2.1 σ hGσ hS h) wc_X16_80 0 hd_X16_misplaced ⟨Nat.le_trans (Nat.le_of_ble_eq_true rfl) K.2.2.2.1, Nat.le_trans (Nat.le_of_ble_eq_true rfl) K.2.2.2.2.1⟩ hS.1.1 hS.1.2 (by decide) rfl rfl (rest := []) rfl (Nat.le_of_ble_eq_true rfl) dX16_match_174 (fun σ141 w hq => ?_) (fun σ9 E9 hx9 => hX σ9 E9 _ _ _ (tb_out K.2.2.2.2.2 rfl) hx9.1 hx9.2.1 hx9.2.2)
  obtain ⟨r142, rfl, h, hGσ141, hS⟩ := hq
  intro H locs ls hH hl hc
  refine W.eq (g2 := F0 m 177 ls [va_rf r142]) (rfl) ?_
  try dsimp only at h
  obtain ⟨qt, h⟩ := h
  refine W.eq (g2 := F0 m 177 ls [.ref (ra 1)]) (by rw [qt]; rfl) ?_
  have hx9 := And.intro h (And.intro hGσ141 hS)
  refine h_athrow B hH hl hc (ci := 14) (hS.ob (k := 1) (ci := 14) (by decide)).1 (hS.ob (k := 1) (ci := 14) (by decide)).2 (by decide) rfl dX16_match_177 ?_
  exact hX σ141 _ _ _ _ (tb_out K.2.2.2.2.2 rfl) hx9.1 hx9.2.1 hx9.2.2
set_option maxRecDepth 20000 in
theorem a_X16_match_78 {Q : Sg → Unit → Prop} {X : Sg → String → Prop} (K : MC R p s m args c cX16_match 6 RX16 D cA tys A n0 s0 142 10045 []) (hQ : HQV p l e R s m args below meth c cX16_match D cA A n0 s0 QM dm ra jx rm Q) (hX : HX p l e R s m args below meth c 6 D cA A n0 s0 QM dm ra jx rm X) : ∀ (σ : Sg) (v1 : Int) (v2 : Int) (v3 : Int64) (v5 : Int) (g1 : rng v1) (g2 : rng v2) (g5 : rng v5), w_X16_match_78 ra jx rm Q X σ v1 v2 v3 v5 → RG σ → Shp dm ra jx rm σ → JJ p l e R s m args below meth c 6 D cA A n0 s0 QM σ 78 [(0, .ref rm), (1, .int (i32 v1)), (2, .int (i32 v2)), (3, .long v3), (5, .int (i32 v5))] [] := by
  intro σ v1 v2 v3 v5 g1 g2 g5 h hGσ hS H locs ls hH hl hc
  have B := K.1
  unfold w_X16_match_78 at h
  refine lv_aload_n B.1 B.2.1 dX16_match_78 rfl (lv_at hl 0 rfl) ?_
  refine c_V B hH hl hc K.2.2.1 (C := RX16) (T := TX16) (N := 123) (ci := 16) (As := []) (ok_X16_take K.2.1 σ hGσ hS h) wc_X16_84 0 hd_X16_take ⟨Nat.le_trans (Nat.le_of_ble_eq_true rfl) K.2.2.2.1, Nat.le_trans (Nat.le_of_ble_eq_true rfl) K.2.2.2.2.1⟩ hS.1.1 hS.1.2 (by decide) rfl rfl (rest := []) rfl (Nat.le_of_ble_eq_true rfl) dX16_match_79 (fun σ143 w hq => ?_) (fun σ9 E9 hx9 => hX σ9 E9 _ _ _ (tb_out K.2.2.2.2.2 rfl) hx9.1 hx9.2.1 hx9.2.2)
  obtain ⟨rfl, h, hGσ143, hS⟩ := hq
  intro H locs ls hH hl hc
  refine W.eq (g2 := F0 m 82 ls []) (rfl) ?_
  try dsimp only at h
  refine lv_aload_n B.1 B.2.1 dX16_match_82 rfl (lv_at hl 0 rfl) ?_
  refine r_getp B hH hS 18 (by decide) wf_X16_118 rfl rfl dX16_match_83 ?_
  obtain ⟨a144, ea144, ja144, h⟩ := h
  refine W.eq (g2 := F0 m 86 ls [.ref a144]) (by rw [ea144]; rfl) ?_
  refine n_arr B hH hS ja144 10 (kd := 100) (n := 16) (by decide) (by decide) (List.mem_of_getElem? (i := 10) rfl) rfl dX16_match_86 ?_
  refine lv_iload_n B.1 B.2.1 dX16_match_89 rfl (lv_at hl 1 rfl) ?_
  refine lv_iload B.1 B.2.1 dX16_match_90 (lv_at hl 4 rfl) ?_
  obtain ⟨q2, h⟩ := h
  obtain ⟨σ145, eσ145⟩ : ∃ z, z = pI σ143 (jx a144 10) v1.toNat v5 := ⟨_, rfl⟩
  have h := h σ145 eσ145
  refine x_iast B K.2.1 hH (hS.ja ja144 (k := 10) (kd := 100) (n := 16) (by decide)) (by decide) q2 dX16_match_92 (fun H locs hH => ?_)
  have hH : Hd D cA A s (pI σ143 (jx a144 10) v1.toNat v5) H locs := hH
  rw [← eσ145] at hH
  have hGσ145 : RG σ145 := by rw [eσ145]; exact hGσ143.pI g5
  have hS : Shp dm ra jx rm σ145 := by rw [eσ145]; exact hS
  have hc : CB n0 s0 σ145 := by rw [eσ145]; exact hc
  rw [show gc σ143 = gc σ145 by rw [eσ145], show gs σ143 = gs σ145 by rw [eσ145]]
  refine lv_aload_n B.1 B.2.1 dX16_match_93 rfl (lv_at hl 0 rfl) ?_
  refine r_getp B hH hS 18 (by decide) wf_X16_118 rfl rfl dX16_match_94 ?_
  refine lv_iload_n B.1 B.2.1 dX16_match_97 rfl (lv_at hl 1 rfl) ?_
  refine lv_lload_n B.1 B.2.1 dX16_match_98 rfl (lv_at hl 3 rfl) ?_
  obtain ⟨a146, ea146, ja146, h⟩ := h
  refine W.eq (g2 := F0 m 99 ls [.long v3, .int (i32 v1), .ref a146]) (by rw [ea146]; rfl) ?_
  refine c_V B hH hl hc K.2.2.1 (C := RX15) (T := TX15) (N := 20) (ci := 15) (As := [.int (i32 v1), .long v3]) (ok_X15_add ja146 K.2.1 σ145 v1 v3 g1 hGσ145 hS h) wc_X16_182 2 hd_X15_add ⟨Nat.le_trans (Nat.le_of_ble_eq_true rfl) K.2.2.2.1, Nat.le_trans (Nat.le_of_ble_eq_true rfl) K.2.2.2.2.1⟩ (hS.jb ja146).1 (hS.jb ja146).2 (by decide) rfl rfl (rest := []) rfl (Nat.le_of_ble_eq_true rfl) dX16_match_99 (fun σ147 w hq => ?_) (fun σ9 E9 hx9 => hX σ9 E9 _ _ _ (tb_out K.2.2.2.2.2 rfl) hx9.1 hx9.2.1 hx9.2.2)
  obtain ⟨rfl, h, hGσ147, hS⟩ := hq
  intro H locs ls hH hl hc
  refine W.eq (g2 := F0 m 102 ls []) (rfl) ?_
  try dsimp only at h
  refine lv_aload_n B.1 B.2.1 dX16_match_102 rfl (lv_at hl 0 rfl) ?_
  refine r_getp B hH hS 18 (by decide) wf_X16_118 rfl rfl dX16_match_103 ?_
  refine lv_iload_n B.1 B.2.1 dX16_match_106 rfl (lv_at hl 1 rfl) ?_
  refine xs_ldcw B.1 B.2.1 B.2.2.1 (B.2.2.2.2.2.2.2.2.2.2.1 _ (List.mem_of_getElem? (l := stL) (i := 11) rfl)).1 dX16_match_107 ?_
  refine c_S B hH hl hc K.2.2.1 (As := [.ref (cA (1000 + 267))]) (ok_X16_nameOf K.2.1 σ147 267 st_267 hGσ147 hS h) wc_X16_99 1 hd_X16_nameOf ⟨Nat.le_trans (Nat.le_of_ble_eq_true rfl) K.2.2.2.1, Nat.le_trans (Nat.le_of_ble_eq_true rfl) K.2.2.2.2.1⟩ rfl (rest := [.int (i32 v1), va_rf (gP σ147 rm 18)]) rfl (by simp only [List.map_cons, List.map_nil, rf_cat]; exact Nat.le_of_ble_eq_true rfl) dX16_match_110 (fun σ148 w hq => ?_) (fun σ9 E9 hx9 => hX σ9 E9 _ _ _ (tb_out K.2.2.2.2.2 rfl) hx9.1 hx9.2.1 hx9.2.2)
  obtain ⟨r149, rfl, h, hGσ148, hS⟩ := hq
  intro H locs ls hH hl hc
  refine W.eq (g2 := F0 m 113 ls [.long r149, .int (i32 v1), va_rf (gP σ147 rm 18)]) (rfl) ?_
  try dsimp only at h
  obtain ⟨a150, ea150, ja150, h⟩ := h
  refine W.eq (g2 := F0 m 113 ls [.long r149, .int (i32 v1), .ref a150]) (by rw [ea150]; rfl) ?_
  refine c_V B hH hl hc K.2.2.1 (C := RX15) (T := TX15) (N := 20) (ci := 15) (As := [.int (i32 v1), .long r149]) (ok_X15_add ja150 K.2.1 σ148 v1 r149 g1 hGσ148 hS h) wc_X16_182 2 hd_X15_add ⟨Nat.le_trans (Nat.le_of_ble_eq_true rfl) K.2.2.2.1, Nat.le_trans (Nat.le_of_ble_eq_true rfl) K.2.2.2.2.1⟩ (hS.jb ja150).1 (hS.jb ja150).2 (by decide) rfl rfl (rest := []) rfl (Nat.le_of_ble_eq_true rfl) dX16_match_113 (fun σ151 w hq => ?_) (fun σ9 E9 hx9 => hX σ9 E9 _ _ _ (tb_out K.2.2.2.2.2 rfl) hx9.1 hx9.2.1 hx9.2.2)
  obtain ⟨rfl, h, hGσ151, hS⟩ := hq
  intro H locs ls hH hl hc
  refine W.eq (g2 := F0 m 116 ls []) (rfl) ?_
  try dsimp only at h
  refine lv_aload_n B.1 B.2.1 dX16_match_116 rfl (lv_at hl 0 rfl) ?_
  refine r_getp B hH hS 18 (by decide) wf_X16_118 rfl rfl dX16_match_117 ?_
  refine lv_iload_n B.1 B.2.1 dX16_match_120 rfl (lv_at hl 1 rfl) ?_
  refine xs_ldcw B.1 B.2.1 B.2.2.1 (B.2.2.2.2.2.2.2.2.2.2.1 _ (List.mem_of_getElem? (l := stL) (i := 12) rfl)).1 dX16_match_121 ?_
  refine c_S B hH hl hc K.2.2.1 (As := [.ref (cA (1000 + 268))]) (ok_X16_nameOf K.2.1 σ151 268 st_268 hGσ151 hS h) wc_X16_99 1 hd_X16_nameOf ⟨Nat.le_trans (Nat.le_of_ble_eq_true rfl) K.2.2.2.1, Nat.le_trans (Nat.le_of_ble_eq_true rfl) K.2.2.2.2.1⟩ rfl (rest := [.int (i32 v1), va_rf (gP σ151 rm 18)]) rfl (by simp only [List.map_cons, List.map_nil, rf_cat]; exact Nat.le_of_ble_eq_true rfl) dX16_match_124 (fun σ152 w hq => ?_) (fun σ9 E9 hx9 => hX σ9 E9 _ _ _ (tb_out K.2.2.2.2.2 rfl) hx9.1 hx9.2.1 hx9.2.2)
  obtain ⟨r153, rfl, h, hGσ152, hS⟩ := hq
  intro H locs ls hH hl hc
  refine W.eq (g2 := F0 m 127 ls [.long r153, .int (i32 v1), va_rf (gP σ151 rm 18)]) (rfl) ?_
  try dsimp only at h
  obtain ⟨a154, ea154, ja154, h⟩ := h
  refine W.eq (g2 := F0 m 127 ls [.long r153, .int (i32 v1), .ref a154]) (by rw [ea154]; rfl) ?_
  refine c_V B hH hl hc K.2.2.1 (C := RX15) (T := TX15) (N := 20) (ci := 15) (As := [.int (i32 v1), .long r153]) (ok_X15_add ja154 K.2.1 σ152 v1 r153 g1 hGσ152 hS h) wc_X16_182 2 hd_X15_add ⟨Nat.le_trans (Nat.le_of_ble_eq_true rfl) K.2.2.2.1, Nat.le_trans (Nat.le_of_ble_eq_true rfl) K.2.2.2.2.1⟩ (hS.jb ja154).1 (hS.jb ja154).2 (by decide) rfl rfl (rest := []) rfl (Nat.le_of_ble_eq_true rfl) dX16_match_127 (fun σ155 w hq => ?_) (fun σ9 E9 hx9 => hX σ9 E9 _ _ _ (tb_out K.2.2.2.2.2 rfl) hx9.1 hx9.2.1 hx9.2.2)
  obtain ⟨rfl, h, hGσ155, hS⟩ := hq
  intro H locs ls hH hl hc
  refine W.eq (g2 := F0 m 130 ls []) (rfl) ?_
  try dsimp only at h
  refine lv_aload_n B.1 B.2.1 dX16_match_130 rfl (lv_at hl 0 rfl) ?_
  refine lv_bipush (v := i32 58) B.1 B.2.1 dX16_match_131 (by decide) ?_
  refine c_V B hH hl hc K.2.2.1 (C := RX16) (T := TX16) (N := 123) (ci := 16) (As := [.int (i32 58)]) (ok_X16_sign K.2.1 σ155 58 (by unfold rng; omega) hGσ155 hS h) wc_X16_159 1 hd_X16_sign ⟨Nat.le_trans (Nat.le_of_ble_eq_true rfl) K.2.2.2.1, Nat.le_trans (Nat.le_of_ble_eq_true rfl) K.2.2.2.2.1⟩ hS.1.1 hS.1.2 (by decide) rfl rfl (rest := []) rfl (Nat.le_of_ble_eq_true rfl) dX16_match_133 (fun σ156 w hq => ?_) (fun σ9 E9 hx9 => hX σ9 E9 _ _ _ (tb_out K.2.2.2.2.2 rfl) hx9.1 hx9.2.1 hx9.2.2)
  obtain ⟨rfl, h, hGσ156, hS⟩ := hq
  intro H locs ls hH hl hc
  refine W.eq (g2 := F0 m 136 ls []) (rfl) ?_
  try dsimp only at h
  refine lv_aload_n B.1 B.2.1 dX16_match_136 rfl (lv_at hl 0 rfl) ?_
  refine r_getp B hH hS 18 (by decide) wf_X16_118 rfl rfl dX16_match_137 ?_
  obtain ⟨a157, ea157, ja157, h⟩ := h
  refine W.eq (g2 := F0 m 140 ls [.ref a157]) (by rw [ea157]; rfl) ?_
  refine n_arr B hH hS ja157 13 (kd := 100) (n := 128) (by decide) (by decide) (List.mem_of_getElem? (i := 13) rfl) rfl dX16_match_140 ?_
  refine lv_bipush (v := i32 8) B.1 B.2.1 dX16_match_143 (by decide) ?_
  refine lv_iload_n B.1 B.2.1 dX16_match_145 rfl (lv_at hl 1 rfl) ?_
  obtain ⟨q8, h⟩ := h
  refine lv_imul B.1 B.2.1 dX16_match_146 ?_
  rw [i32_mul]
  refine lv_aload_n B.1 B.2.1 dX16_match_147 rfl (lv_at hl 0 rfl) ?_
  refine lv_iload_n B.1 B.2.1 dX16_match_148 rfl (lv_at hl 2 rfl) ?_
  refine c_V B hH hl hc K.2.2.1 (C := RX16) (T := TX16) (N := 123) (ci := 16) (As := [.int (i32 v2)]) (ok_X16_value K.2.1 σ156 v2 g2 hGσ156 hS h) wc_X16_225 1 hd_X16_value ⟨Nat.le_trans (Nat.le_of_ble_eq_true rfl) K.2.2.2.1, Nat.le_trans (Nat.le_of_ble_eq_true rfl) K.2.2.2.2.1⟩ hS.1.1 hS.1.2 (by decide) rfl rfl (rest := [.int (i32 (8 * v1)), .ref (jx a157 13)]) rfl (Nat.le_of_ble_eq_true rfl) dX16_match_149 (fun σ158 w hq => ?_) (fun σ9 E9 hx9 => hX σ9 E9 _ _ _ (tb_out K.2.2.2.2.2 rfl) hx9.1 hx9.2.1 hx9.2.2)
  obtain ⟨r159, rfl, gr159, h, hGσ158, hS⟩ := hq
  intro H locs ls hH hl hc
  refine W.eq (g2 := F0 m 152 ls [.int (i32 r159), .int (i32 (8 * v1)), .ref (jx a157 13)]) (rfl) ?_
  try dsimp only at h
  obtain ⟨q9, h⟩ := h
  obtain ⟨σ160, eσ160⟩ : ∃ z, z = pI σ158 (jx a157 13) (8 * v1).toNat r159 := ⟨_, rfl⟩
  have h := h σ160 eσ160
  refine x_iast B K.2.1 hH (hS.ja ja157 (k := 13) (kd := 100) (n := 128) (by decide)) (by decide) q9 dX16_match_152 (fun H locs hH => ?_)
  have hH : Hd D cA A s (pI σ158 (jx a157 13) (8 * v1).toNat r159) H locs := hH
  rw [← eσ160] at hH
  have hGσ160 : RG σ160 := by rw [eσ160]; exact hGσ158.pI gr159
  have hS : Shp dm ra jx rm σ160 := by rw [eσ160]; exact hS
  have hc : CB n0 s0 σ160 := by rw [eσ160]; exact hc
  rw [show gc σ158 = gc σ160 by rw [eσ160], show gs σ158 = gs σ160 by rw [eσ160]]
  refine lv_aload_n B.1 B.2.1 dX16_match_153 rfl (lv_at hl 0 rfl) ?_
  refine r_getp B hH hS 18 (by decide) wf_X16_118 rfl rfl dX16_match_154 ?_
  obtain ⟨a161, ea161, ja161, h⟩ := h
  refine W.eq (g2 := F0 m 157 ls [.ref a161]) (by rw [ea161]; rfl) ?_
  refine n_arr B hH hS ja161 12 (kd := 100) (n := 16) (by decide) (by decide) (List.mem_of_getElem? (i := 12) rfl) rfl dX16_match_157 ?_
  refine lv_iload_n B.1 B.2.1 dX16_match_160 rfl (lv_at hl 1 rfl) ?_
  refine lv_iconst (v := i32 1) B.1 B.2.1 dX16_match_161 (by decide) ?_
  obtain ⟨q12, h⟩ := h
  obtain ⟨σ162, eσ162⟩ : ∃ z, z = pI σ160 (jx a161 12) v1.toNat 1 := ⟨_, rfl⟩
  have h := h σ162 eσ162
  refine x_iast B K.2.1 hH (hS.ja ja161 (k := 12) (kd := 100) (n := 16) (by decide)) (by decide) q12 dX16_match_162 (fun H locs hH => ?_)
  have hH : Hd D cA A s (pI σ160 (jx a161 12) v1.toNat 1) H locs := hH
  rw [← eσ162] at hH
  have hGσ162 : RG σ162 := by rw [eσ162]; exact hGσ160.pI (by unfold rng; omega)
  have hS : Shp dm ra jx rm σ162 := by rw [eσ162]; exact hS
  have hc : CB n0 s0 σ162 := by rw [eσ162]; exact hc
  rw [show gc σ160 = gc σ162 by rw [eσ162], show gs σ160 = gs σ162 by rw [eσ162]]
  refine lv_aload_n B.1 B.2.1 dX16_match_163 rfl (lv_at hl 0 rfl) ?_
  refine xs_ldcw B.1 B.2.1 B.2.2.1 (B.2.2.2.2.2.2.2.2.2.2.1 _ (List.mem_of_getElem? (l := stL) (i := 13) rfl)).1 dX16_match_164 ?_
  refine c_V B hH hl hc K.2.2.1 (C := RX16) (T := TX16) (N := 123) (ci := 16) (As := [.ref (cA (1000 + 270))]) (ok_X16_isWord K.2.1 σ162 270 st_270 hGσ162 hS h) wc_X16_103 1 hd_X16_isWord ⟨Nat.le_trans (Nat.le_of_ble_eq_true rfl) K.2.2.2.1, Nat.le_trans (Nat.le_of_ble_eq_true rfl) K.2.2.2.2.1⟩ hS.1.1 hS.1.2 (by decide) rfl rfl (rest := []) rfl (Nat.le_of_ble_eq_true rfl) dX16_match_167 (fun σ163 w hq => ?_) (fun σ9 E9 hx9 => hX σ9 E9 _ _ _ (tb_out K.2.2.2.2.2 rfl) hx9.1 hx9.2.1 hx9.2.2)
  obtain ⟨r164, rfl, ⟨gr164, gzr164⟩, h, hGσ163, hS⟩ := hq
  intro H locs ls hH hl hc
  refine W.eq (g2 := F0 m 170 ls [.int (i32 r164)]) (rfl) ?_
  try dsimp only at h
  refine lv_if_ne (tgt := 178) B.1 B.2.1 dX16_match_170 (by decide) (fun h9 => ?_) (fun h9 => ?_)
  · rw [if_pos (fun q => h9 ((z_eq gr164).mpr q))] at h
    obtain ⟨n9, h⟩ := h
    exact al_X16_match_178 K hQ hX n9 _ _ _ g1 g2 h hGσ163 hS _ _ _ hH (lv_sub (l' := [(0, .ref rm), (1, .int (i32 v1)), (2, .int (i32 v2))]) hl [0, 1, 2] rfl) hc
  · rw [if_neg (fun q => q ((z_eq gr164).mp h9))] at h
    exact a_X16_match_173 K hQ hX _ h hGσ163 hS _ _ _ hH (lv_sub (l' := [(0, .ref rm)]) hl [0] rfl) hc
set_option maxRecDepth 20000 in
theorem a_X16_match_60 {Q : Sg → Unit → Prop} {X : Sg → String → Prop} (K : MC R p s m args c cX16_match 6 RX16 D cA tys A n0 s0 142 10045 []) (hQ : HQV p l e R s m args below meth c cX16_match D cA A n0 s0 QM dm ra jx rm Q) (hX : HX p l e R s m args below meth c 6 D cA A n0 s0 QM dm ra jx rm X) : ∀ (σ : Sg) (v1 : Int) (v2 : Int) (v3 : Int64) (v5 : Int) (g1 : rng v1) (g2 : rng v2) (g5 : rng v5), w_X16_match_60 ra jx rm Q X σ v1 v2 v3 v5 → RG σ → Shp dm ra jx rm σ → JJ p l e R s m args below meth c 6 D cA A n0 s0 QM σ 60 [(0, .ref rm), (1, .int (i32 v1)), (2, .int (i32 v2)), (3, .long v3), (5, .int (i32 v5))] [] := by
  intro σ v1 v2 v3 v5 g1 g2 g5 h hGσ hS H locs ls hH hl hc
  have B := K.1
  unfold w_X16_match_60 at h
  refine lv_lload_n B.1 B.2.1 dX16_match_60 rfl (lv_at hl 3 rfl) ?_
  refine xs_ldcw B.1 B.2.1 B.2.2.1 (B.2.2.2.2.2.2.2.2.2.2.1 _ (List.mem_of_getElem? (l := stL) (i := 12) rfl)).1 dX16_match_61 ?_
  refine c_S B hH hl hc K.2.2.1 (As := [.ref (cA (1000 + 268))]) (ok_X16_nameOf K.2.1 σ 268 st_268 hGσ hS h) wc_X16_99 1 hd_X16_nameOf ⟨Nat.le_trans (Nat.le_of_ble_eq_true rfl) K.2.2.2.1, Nat.le_trans (Nat.le_of_ble_eq_true rfl) K.2.2.2.2.1⟩ rfl (rest := [.long v3]) rfl (Nat.le_of_ble_eq_true rfl) dX16_match_64 (fun σ165 w hq => ?_) (fun σ9 E9 hx9 => hX σ9 E9 _ _ _ (tb_out K.2.2.2.2.2 rfl) hx9.1 hx9.2.1 hx9.2.2)
  obtain ⟨r166, rfl, h, hGσ165, hS⟩ := hq
  intro H locs ls hH hl hc
  refine W.eq (g2 := F0 m 67 ls [.long r166, .long v3]) (rfl) ?_
  try dsimp only at h
  refine W.lcmp B.1 B.2.1 dX16_match_67 ?_
  refine lv_if_ne (tgt := 78) B.1 B.2.1 dX16_match_68 (by decide) (fun h9 => ?_) (fun h9 => ?_)
  · rw [if_pos (fun q => h9 ((lg_cmp_eq _ _).mpr q))] at h
    exact a_X16_match_78 K hQ hX _ _ _ _ _ g1 g2 g5 h hGσ165 hS _ _ _ hH (lv_sub (l' := [(0, .ref rm), (1, .int (i32 v1)), (2, .int (i32 v2)), (3, .long v3), (5, .int (i32 v5))]) hl [0, 1, 2, 3, 4] rfl) hc
  · rw [if_neg (fun q => q ((lg_cmp_eq _ _).mp h9))] at h
    exact a_X16_match_71 K hQ hX _ h hGσ165 hS _ _ _ hH (lv_sub (l' := [(0, .ref rm)]) hl [0] rfl) hc
set_option maxRecDepth 20000 in
theorem a_X16_match_49 {Q : Sg → Unit → Prop} {X : Sg → String → Prop} (K : MC R p s m args c cX16_match 6 RX16 D cA tys A n0 s0 142 10045 []) (hQ : HQV p l e R s m args below meth c cX16_match D cA A n0 s0 QM dm ra jx rm Q) (hX : HX p l e R s m args below meth c 6 D cA A n0 s0 QM dm ra jx rm X) : ∀ (σ : Sg) (v1 : Int) (v2 : Int) (v3 : Int64) (v5 : Int) (g1 : rng v1) (g2 : rng v2) (g5 : rng v5), w_X16_match_49 ra jx rm Q X σ v1 v2 v3 v5 → RG σ → Shp dm ra jx rm σ → JJ p l e R s m args below meth c 6 D cA A n0 s0 QM σ 49 [(0, .ref rm), (1, .int (i32 v1)), (2, .int (i32 v2)), (3, .long v3), (5, .int (i32 v5))] [] := by
  intro σ v1 v2 v3 v5 g1 g2 g5 h hGσ hS H locs ls hH hl hc
  have B := K.1
  unfold w_X16_match_49 at h
  refine lv_lload_n B.1 B.2.1 dX16_match_49 rfl (lv_at hl 3 rfl) ?_
  refine xs_ldcw B.1 B.2.1 B.2.2.1 (B.2.2.2.2.2.2.2.2.2.2.1 _ (List.mem_of_getElem? (l := stL) (i := 11) rfl)).1 dX16_match_50 ?_
  refine c_S B hH hl hc K.2.2.1 (As := [.ref (cA (1000 + 267))]) (ok_X16_nameOf K.2.1 σ 267 st_267 hGσ hS h) wc_X16_99 1 hd_X16_nameOf ⟨Nat.le_trans (Nat.le_of_ble_eq_true rfl) K.2.2.2.1, Nat.le_trans (Nat.le_of_ble_eq_true rfl) K.2.2.2.2.1⟩ rfl (rest := [.long v3]) rfl (Nat.le_of_ble_eq_true rfl) dX16_match_53 (fun σ167 w hq => ?_) (fun σ9 E9 hx9 => hX σ9 E9 _ _ _ (tb_out K.2.2.2.2.2 rfl) hx9.1 hx9.2.1 hx9.2.2)
  obtain ⟨r168, rfl, h, hGσ167, hS⟩ := hq
  intro H locs ls hH hl hc
  refine W.eq (g2 := F0 m 56 ls [.long r168, .long v3]) (rfl) ?_
  try dsimp only at h
  refine W.lcmp B.1 B.2.1 dX16_match_56 ?_
  refine lv_if_eq (tgt := 71) B.1 B.2.1 dX16_match_57 (by decide) (fun h9 => ?_) (fun h9 => ?_)
  · rw [if_pos ((lg_cmp_eq _ _).mp h9)] at h
    exact a_X16_match_71 K hQ hX _ h hGσ167 hS _ _ _ hH (lv_sub (l' := [(0, .ref rm)]) hl [0] rfl) hc
  · rw [if_neg (fun q => h9 ((lg_cmp_eq _ _).mpr q))] at h
    exact a_X16_match_60 K hQ hX _ _ _ _ _ g1 g2 g5 h hGσ167 hS _ _ _ hH (lv_sub (l' := [(0, .ref rm), (1, .int (i32 v1)), (2, .int (i32 v2)), (3, .long v3), (5, .int (i32 v5))]) hl [0, 1, 2, 3, 4] rfl) hc
set_option maxRecDepth 20000 in
theorem a_X16_match_43 {Q : Sg → Unit → Prop} {X : Sg → String → Prop} (K : MC R p s m args c cX16_match 6 RX16 D cA tys A n0 s0 142 10045 []) (hQ : HQV p l e R s m args below meth c cX16_match D cA A n0 s0 QM dm ra jx rm Q) (hX : HX p l e R s m args below meth c 6 D cA A n0 s0 QM dm ra jx rm X) : ∀ (σ : Sg), w_X16_match_43 ra jx rm Q X σ → RG σ → Shp dm ra jx rm σ → JJ p l e R s m args below meth c 6 D cA A n0 s0 QM σ 43 [(0, .ref rm)] [] := by
  intro σ h hGσ hS H locs ls hH hl hc
  have B := K.1
  unfold w_X16_match_43 at h
  refine lv_aload_n B.1 B.2.1 dX16_match_43 rfl (lv_at hl 0 rfl) ?_
  refine lv_iconst (v := i32 5) B.1 B.2.1 dX16_match_44 (by decide) ?_
  refine c_V B hH hl hc K.2.2.1 (C := RX16) (T := TX16) (N := 123) (ci := 16) (As := [.int (i32 5)]) (ok_X16_fail K.2.1 σ 5 (by unfold rng; omega) hGσ hS h) wc_X16_65 1 hd_X16_fail ⟨Nat.le_trans (Nat.le_of_ble_eq_true rfl) K.2.2.2.1, Nat.le_trans (Nat.le_of_ble_eq_true rfl) K.2.2.2.2.1⟩ hS.1.1 hS.1.2 (by decide) rfl rfl (rest := []) rfl (Nat.le_of_ble_eq_true rfl) dX16_match_45 (fun σ169 w hq => ?_) (fun σ9 E9 hx9 => hX σ9 E9 _ _ _ (tb_out K.2.2.2.2.2 rfl) hx9.1 hx9.2.1 hx9.2.2)
  obtain ⟨r170, rfl, h, hGσ169, hS⟩ := hq
  intro H locs ls hH hl hc
  refine W.eq (g2 := F0 m 48 ls [va_rf r170]) (rfl) ?_
  try dsimp only at h
  obtain ⟨qt, h⟩ := h
  refine W.eq (g2 := F0 m 48 ls [.ref (ra 1)]) (by rw [qt]; rfl) ?_
  have hx9 := And.intro h (And.intro hGσ169 hS)
  refine h_athrow B hH hl hc (ci := 14) (hS.ob (k := 1) (ci := 14) (by decide)).1 (hS.ob (k := 1) (ci := 14) (by decide)).2 (by decide) rfl dX16_match_48 ?_
  exact hX σ169 _ _ _ _ (tb_out K.2.2.2.2.2 rfl) hx9.1 hx9.2.1 hx9.2.2
set_option maxRecDepth 20000 in
theorem a_X16_match_0 {Q : Sg → Unit → Prop} {X : Sg → String → Prop} (K : MC R p s m args c cX16_match 6 RX16 D cA tys A n0 s0 142 10045 []) (hQ : HQV p l e R s m args below meth c cX16_match D cA A n0 s0 QM dm ra jx rm Q) (hX : HX p l e R s m args below meth c 6 D cA A n0 s0 QM dm ra jx rm X) : ∀ (σ : Sg) (v1 : Int) (g1 : rng v1), w_X16_match_0 ra jx rm Q X σ v1 → RG σ → Shp dm ra jx rm σ → JJ p l e R s m args below meth c 6 D cA A n0 s0 QM σ 0 [(0, .ref rm), (1, .int (i32 v1))] [] := by
  intro σ v1 g1 h hGσ hS H locs ls hH hl hc
  have B := K.1
  unfold w_X16_match_0 at h
  refine lv_aload_n B.1 B.2.1 dX16_match_0 rfl (lv_at hl 0 rfl) ?_
  refine c_V B hH hl hc K.2.2.1 (C := RX16) (T := TX16) (N := 123) (ci := 16) (As := []) (ok_X16_input K.2.1 σ hGσ hS h) wc_X16_213 0 hd_X16_input ⟨Nat.le_trans (Nat.le_of_ble_eq_true rfl) K.2.2.2.1, Nat.le_trans (Nat.le_of_ble_eq_true rfl) K.2.2.2.2.1⟩ hS.1.1 hS.1.2 (by decide) rfl rfl (rest := []) rfl (Nat.le_of_ble_eq_true rfl) dX16_match_1 (fun σ171 w hq => ?_) (fun σ9 E9 hx9 => hX σ9 E9 _ _ _ (tb_out K.2.2.2.2.2 rfl) hx9.1 hx9.2.1 hx9.2.2)
  obtain ⟨r172, rfl, gr172, h, hGσ171, hS⟩ := hq
  intro H locs ls hH hl hc
  refine W.eq (g2 := F0 m 4 ls [.int (i32 r172)]) (rfl) ?_
  try dsimp only at h
  refine lv_istore_n (lv' := [(2, .int (i32 r172)), (0, .ref rm), (1, .int (i32 v1))]) B.1 B.2.1 dX16_match_4 rfl hl (by decide) rfl (fun ls hl => ?_)
  refine lv_aload_n B.1 B.2.1 dX16_match_5 rfl (lv_at hl 1 rfl) ?_
  refine r_getp B hH hS 18 (by decide) wf_X16_118 rfl rfl dX16_match_6 ?_
  obtain ⟨a173, ea173, ja173, h⟩ := h
  refine W.eq (g2 := F0 m 9 ls [.ref a173]) (by rw [ea173]; rfl) ?_
  refine n_arr B hH hS ja173 4 (kd := 100) (n := 16) (by decide) (by decide) (List.mem_of_getElem? (i := 4) rfl) rfl dX16_match_9 ?_
  refine lv_iload_n B.1 B.2.1 dX16_match_12 rfl (lv_at hl 2 rfl) ?_
  refine lv_iload_n B.1 B.2.1 dX16_match_13 rfl (lv_at hl 0 rfl) ?_
  obtain ⟨q2, h⟩ := h
  obtain ⟨σ174, eσ174⟩ : ∃ z, z = pI σ171 (jx a173 4) v1.toNat r172 := ⟨_, rfl⟩
  have h := h σ174 eσ174
  refine x_iast B K.2.1 hH (hS.ja ja173 (k := 4) (kd := 100) (n := 16) (by decide)) (by decide) q2 dX16_match_14 (fun H locs hH => ?_)
  have hH : Hd D cA A s (pI σ171 (jx a173 4) v1.toNat r172) H locs := hH
  rw [← eσ174] at hH
  have hGσ174 : RG σ174 := by rw [eσ174]; exact hGσ171.pI gr172
  have hS : Shp dm ra jx rm σ174 := by rw [eσ174]; exact hS
  have hc : CB n0 s0 σ174 := by rw [eσ174]; exact hc
  rw [show gc σ171 = gc σ174 by rw [eσ174], show gs σ171 = gs σ174 by rw [eσ174]]
  refine lv_aload_n B.1 B.2.1 dX16_match_15 rfl (lv_at hl 1 rfl) ?_
  refine xs_ldc B.1 B.2.1 B.2.2.1 (B.2.2.2.2.2.2.2.2.2.2.1 _ (List.mem_of_getElem? (l := stL) (i := 3) rfl)).1 dX16_match_16 ?_
  refine c_V B hH hl hc K.2.2.1 (C := RX16) (T := TX16) (N := 123) (ci := 16) (As := [.ref (cA (1000 + 237))]) (ok_X16_keyword K.2.1 σ174 237 st_237 hGσ174 hS h) wc_X16_200 1 hd_X16_keyword ⟨Nat.le_trans (Nat.le_of_ble_eq_true rfl) K.2.2.2.1, Nat.le_trans (Nat.le_of_ble_eq_true rfl) K.2.2.2.2.1⟩ hS.1.1 hS.1.2 (by decide) rfl rfl (rest := []) rfl (Nat.le_of_ble_eq_true rfl) dX16_match_18 (fun σ175 w hq => ?_) (fun σ9 E9 hx9 => hX σ9 E9 _ _ _ (tb_out K.2.2.2.2.2 rfl) hx9.1 hx9.2.1 hx9.2.2)
  obtain ⟨rfl, h, hGσ175, hS⟩ := hq
  intro H locs ls hH hl hc
  refine W.eq (g2 := F0 m 21 ls []) (rfl) ?_
  try dsimp only at h
  refine lv_aload_n B.1 B.2.1 dX16_match_21 rfl (lv_at hl 1 rfl) ?_
  refine c_V B hH hl hc K.2.2.1 (C := RX16) (T := TX16) (N := 123) (ci := 16) (As := []) (ok_X16_seeName K.2.1 σ175 hGσ175 hS h) wc_X16_164 0 hd_X16_seeName ⟨Nat.le_trans (Nat.le_of_ble_eq_true rfl) K.2.2.2.1, Nat.le_trans (Nat.le_of_ble_eq_true rfl) K.2.2.2.2.1⟩ hS.1.1 hS.1.2 (by decide) rfl rfl (rest := []) rfl (Nat.le_of_ble_eq_true rfl) dX16_match_22 (fun σ176 w hq => ?_) (fun σ9 E9 hx9 => hX σ9 E9 _ _ _ (tb_out K.2.2.2.2.2 rfl) hx9.1 hx9.2.1 hx9.2.2)
  obtain ⟨r177, rfl, h, hGσ176, hS⟩ := hq
  intro H locs ls hH hl hc
  refine W.eq (g2 := F0 m 25 ls [.long r177]) (rfl) ?_
  try dsimp only at h
  refine lv_lstore_n (lv' := [(3, .long r177), (2, .int (i32 r172)), (0, .ref rm), (1, .int (i32 v1))]) B.1 B.2.1 dX16_match_25 rfl hl (by decide) rfl (fun ls hl => ?_)
  refine lv_aload_n B.1 B.2.1 dX16_match_26 rfl (lv_at hl 2 rfl) ?_
  refine r_getp B hH hS 18 (by decide) wf_X16_118 rfl rfl dX16_match_27 ?_
  refine lv_iload_n B.1 B.2.1 dX16_match_30 rfl (lv_at hl 1 rfl) ?_
  refine lv_lload_n B.1 B.2.1 dX16_match_31 rfl (lv_at hl 0 rfl) ?_
  obtain ⟨a178, ea178, ja178, h⟩ := h
  refine W.eq (g2 := F0 m 32 ls [.long r177, .int (i32 r172), .ref a178]) (by rw [ea178]; rfl) ?_
  refine c_V B hH hl hc K.2.2.1 (C := RX15) (T := TX15) (N := 20) (ci := 15) (As := [.int (i32 r172), .long r177]) (ok_X15_column ja178 K.2.1 σ176 r172 r177 gr172 hGσ176 hS h) wc_X16_168 2 hd_X15_column ⟨Nat.le_trans (Nat.le_of_ble_eq_true rfl) K.2.2.2.1, Nat.le_trans (Nat.le_of_ble_eq_true rfl) K.2.2.2.2.1⟩ (hS.jb ja178).1 (hS.jb ja178).2 (by decide) rfl rfl (rest := []) rfl (Nat.le_of_ble_eq_true rfl) dX16_match_32 (fun σ179 w hq => ?_) (fun σ9 E9 hx9 => hX σ9 E9 _ _ _ (tb_out K.2.2.2.2.2 rfl) hx9.1 hx9.2.1 hx9.2.2)
  obtain ⟨r180, rfl, gr180, h, hGσ179, hS⟩ := hq
  intro H locs ls hH hl hc
  refine W.eq (g2 := F0 m 35 ls [.int (i32 r180)]) (rfl) ?_
  try dsimp only at h
  refine lv_istore (lv' := [(5, .int (i32 r180)), (3, .long r177), (2, .int (i32 r172)), (0, .ref rm), (1, .int (i32 v1))]) B.1 B.2.1 dX16_match_35 hl (by decide) rfl (fun ls hl => ?_)
  refine lv_iload B.1 B.2.1 dX16_match_37 (lv_at hl 0 rfl) ?_
  refine lv_iconst (v := i32 (-1)) B.1 B.2.1 dX16_match_39 (by decide) ?_
  refine lv_icmp_ne (tgt := 49) B.1 B.2.1 dX16_match_40 (by decide) (fun h9 => ?_) (fun h9 => ?_)
  · rw [if_pos (fun q => h9 ((i32_eq gr180 (by unfold rng; omega)).mpr q))] at h
    exact a_X16_match_49 K hQ hX _ _ _ _ _ g1 gr172 gr180 h hGσ179 hS _ _ _ hH (lv_sub (l' := [(0, .ref rm), (1, .int (i32 v1)), (2, .int (i32 r172)), (3, .long r177), (5, .int (i32 r180))]) hl [3, 4, 2, 1, 0] rfl) hc
  · rw [if_neg (fun q => q ((i32_eq gr180 (by unfold rng; omega)).mp h9))] at h
    exact a_X16_match_43 K hQ hX _ h hGσ179 hS _ _ _ hH (lv_sub (l' := [(0, .ref rm)]) hl [3] rfl) hc
theorem ok_X16_match (hT : Tys cA tys) {Q : Sg → Unit → Prop} {X : Sg → String → Prop} (σ : Sg) (v1 : Int) (g1 : rng v1) (hG : RG σ) (hS : Shp dm ra jx rm σ) (h : wp_X16_match ra jx rm v1 σ Q X) : Ok l D cA tys A yX16_match (.code yX16_match cX16_match 6 none) 142 10045 [.ref rm, .int (i32 v1)] σ (QnV dm ra jx rm Q) (QxR dm ra jx rm X) := by
  unfold wp_X16_match at h
  exact ok_V (plainFor_of_name (by decide)) (by exact Nat.le_of_ble_eq_true rfl) hT (fun p e R s m args below meth c K hQ hX H locs ls hH hl hc => a_X16_match_0 K hQ hX σ v1 g1 h hG hS H locs ls hH (lv_sub (l' := [(0, .ref rm), (1, .int (i32 v1))]) hl [0, 1] rfl) hc)
theorem dX16_pair_0 : decode cX16_pair 0 = .ok (.aload_n 0, 1) := by decide +kernel
theorem dX16_pair_1 : decode cX16_pair 1 = .ok (.invokevirtual 213, 3) := by decide +kernel
theorem dX16_pair_4 : decode cX16_pair 4 = .ok (.istore_n 2, 1) := by decide +kernel
theorem dX16_pair_5 : decode cX16_pair 5 = .ok (.aload_n 0, 1) := by decide +kernel
theorem dX16_pair_6 : decode cX16_pair 6 = .ok (.invokevirtual 175, 3) := by decide +kernel
theorem dX16_pair_9 : decode cX16_pair 9 = .ok (.istore_n 3, 1) := by decide +kernel
theorem dX16_pair_10 : decode cX16_pair 10 = .ok (.iconst 1, 1) := by decide +kernel
theorem dX16_pair_11 : decode cX16_pair 11 = .ok (.istore 4, 2) := by decide +kernel
theorem dX16_pair_13 : decode cX16_pair 13 = .ok (.iconst 0, 1) := by decide +kernel
theorem dX16_pair_14 : decode cX16_pair 14 = .ok (.istore 5, 2) := by decide +kernel
theorem dX16_pair_16 : decode cX16_pair 16 = .ok (.iload 5, 2) := by decide +kernel
theorem dX16_pair_18 : decode cX16_pair 18 = .ok (.aload_n 0, 1) := by decide +kernel
theorem dX16_pair_19 : decode cX16_pair 19 = .ok (.getfield 118, 3) := by decide +kernel
theorem dX16_pair_22 : decode cX16_pair 22 = .ok (.getfield 178, 3) := by decide +kernel
theorem dX16_pair_25 : decode cX16_pair 25 = .ok (.iload_n 3, 1) := by decide +kernel
theorem dX16_pair_26 : decode cX16_pair 26 = .ok (.iaload, 1) := by decide +kernel
theorem dX16_pair_27 : decode cX16_pair 27 = .ok (.if_icmp .ge 48, 3) := by decide +kernel
theorem dX16_pair_30 : decode cX16_pair 30 = .ok (.iload 4, 2) := by decide +kernel
theorem dX16_pair_32 : decode cX16_pair 32 = .ok (.ifCond .eq 34, 3) := by decide +kernel
theorem dX16_pair_35 : decode cX16_pair 35 = .ok (.aload_n 0, 1) := by decide +kernel
theorem dX16_pair_36 : decode cX16_pair 36 = .ok (.getfield 118, 3) := by decide +kernel
theorem dX16_pair_39 : decode cX16_pair 39 = .ok (.iload_n 2, 1) := by decide +kernel
theorem dX16_pair_40 : decode cX16_pair 40 = .ok (.aload_n 0, 1) := by decide +kernel
theorem dX16_pair_41 : decode cX16_pair 41 = .ok (.getfield 118, 3) := by decide +kernel
theorem dX16_pair_44 : decode cX16_pair 44 = .ok (.getfield 228, 3) := by decide +kernel
theorem dX16_pair_47 : decode cX16_pair 47 = .ok (.bipush 9, 2) := by decide +kernel
theorem dX16_pair_49 : decode cX16_pair 49 = .ok (.iload_n 3, 1) := by decide +kernel
theorem dX16_pair_50 : decode cX16_pair 50 = .ok (.imul, 1) := by decide +kernel
theorem dX16_pair_51 : decode cX16_pair 51 = .ok (.iload 5, 2) := by decide +kernel
theorem dX16_pair_53 : decode cX16_pair 53 = .ok (.iadd, 1) := by decide +kernel
theorem dX16_pair_54 : decode cX16_pair 54 = .ok (.laload, 1) := by decide +kernel
theorem dX16_pair_55 : decode cX16_pair 55 = .ok (.invokevirtual 168, 3) := by decide +kernel
theorem dX16_pair_58 : decode cX16_pair 58 = .ok (.iconst (-1), 1) := by decide +kernel
theorem dX16_pair_59 : decode cX16_pair 59 = .ok (.if_icmp .ne 7, 3) := by decide +kernel
theorem dX16_pair_62 : decode cX16_pair 62 = .ok (.iconst 1, 1) := by decide +kernel
theorem dX16_pair_63 : decode cX16_pair 63 = .ok (.goto 4, 3) := by decide +kernel
theorem dX16_pair_66 : decode cX16_pair 66 = .ok (.iconst 0, 1) := by decide +kernel
theorem dX16_pair_67 : decode cX16_pair 67 = .ok (.istore 4, 2) := by decide +kernel
theorem dX16_pair_69 : decode cX16_pair 69 = .ok (.iinc 5 1, 3) := by decide +kernel
theorem dX16_pair_72 : decode cX16_pair 72 = .ok (.goto (-56), 3) := by decide +kernel
theorem dX16_pair_75 : decode cX16_pair 75 = .ok (.iload 4, 2) := by decide +kernel
theorem dX16_pair_77 : decode cX16_pair 77 = .ok (.ifCond .ne 10, 3) := by decide +kernel
theorem dX16_pair_80 : decode cX16_pair 80 = .ok (.aload_n 0, 1) := by decide +kernel
theorem dX16_pair_81 : decode cX16_pair 81 = .ok (.bipush 6, 2) := by decide +kernel
theorem dX16_pair_83 : decode cX16_pair 83 = .ok (.invokevirtual 65, 3) := by decide +kernel
theorem dX16_pair_86 : decode cX16_pair 86 = .ok (.athrow, 1) := by decide +kernel
theorem dX16_pair_87 : decode cX16_pair 87 = .ok (.aload_n 0, 1) := by decide +kernel
theorem dX16_pair_88 : decode cX16_pair 88 = .ok (.getfield 118, 3) := by decide +kernel
theorem dX16_pair_91 : decode cX16_pair 91 = .ok (.getfield 178, 3) := by decide +kernel
theorem dX16_pair_94 : decode cX16_pair 94 = .ok (.iload_n 2, 1) := by decide +kernel
theorem dX16_pair_95 : decode cX16_pair 95 = .ok (.iaload, 1) := by decide +kernel
theorem dX16_pair_96 : decode cX16_pair 96 = .ok (.aload_n 0, 1) := by decide +kernel
theorem dX16_pair_97 : decode cX16_pair 97 = .ok (.getfield 118, 3) := by decide +kernel
theorem dX16_pair_100 : decode cX16_pair 100 = .ok (.getfield 178, 3) := by decide +kernel
theorem dX16_pair_103 : decode cX16_pair 103 = .ok (.iload_n 3, 1) := by decide +kernel
theorem dX16_pair_104 : decode cX16_pair 104 = .ok (.iaload, 1) := by decide +kernel
theorem dX16_pair_105 : decode cX16_pair 105 = .ok (.iadd, 1) := by decide +kernel
theorem dX16_pair_106 : decode cX16_pair 106 = .ok (.bipush 8, 2) := by decide +kernel
theorem dX16_pair_108 : decode cX16_pair 108 = .ok (.if_icmp .le 10, 3) := by decide +kernel
theorem dX16_pair_111 : decode cX16_pair 111 = .ok (.aload_n 0, 1) := by decide +kernel
theorem dX16_pair_112 : decode cX16_pair 112 = .ok (.bipush 8, 2) := by decide +kernel
theorem dX16_pair_114 : decode cX16_pair 114 = .ok (.invokevirtual 65, 3) := by decide +kernel
theorem dX16_pair_117 : decode cX16_pair 117 = .ok (.athrow, 1) := by decide +kernel
theorem dX16_pair_118 : decode cX16_pair 118 = .ok (.aload_n 0, 1) := by decide +kernel
theorem dX16_pair_119 : decode cX16_pair 119 = .ok (.invokevirtual 84, 3) := by decide +kernel
theorem dX16_pair_122 : decode cX16_pair 122 = .ok (.aload_n 0, 1) := by decide +kernel
theorem dX16_pair_123 : decode cX16_pair 123 = .ok (.getfield 118, 3) := by decide +kernel
theorem dX16_pair_126 : decode cX16_pair 126 = .ok (.getfield 216, 3) := by decide +kernel
theorem dX16_pair_129 : decode cX16_pair 129 = .ok (.iload_n 1, 1) := by decide +kernel
theorem dX16_pair_130 : decode cX16_pair 130 = .ok (.iload_n 2, 1) := by decide +kernel
theorem dX16_pair_131 : decode cX16_pair 131 = .ok (.iastore, 1) := by decide +kernel
theorem dX16_pair_132 : decode cX16_pair 132 = .ok (.aload_n 0, 1) := by decide +kernel
theorem dX16_pair_133 : decode cX16_pair 133 = .ok (.getfield 118, 3) := by decide +kernel
theorem dX16_pair_136 : decode cX16_pair 136 = .ok (.getfield 231, 3) := by decide +kernel
theorem dX16_pair_139 : decode cX16_pair 139 = .ok (.iload_n 1, 1) := by decide +kernel
theorem dX16_pair_140 : decode cX16_pair 140 = .ok (.iload_n 3, 1) := by decide +kernel
theorem dX16_pair_141 : decode cX16_pair 141 = .ok (.iastore, 1) := by decide +kernel
theorem dX16_pair_142 : decode cX16_pair 142 = .ok (.aload_n 0, 1) := by decide +kernel
theorem dX16_pair_143 : decode cX16_pair 143 = .ok (.getfield 118, 3) := by decide +kernel
theorem dX16_pair_146 : decode cX16_pair 146 = .ok (.iload_n 1, 1) := by decide +kernel
theorem dX16_pair_147 : decode cX16_pair 147 = .ok (.iload_n 2, 1) := by decide +kernel
theorem dX16_pair_148 : decode cX16_pair 148 = .ok (.invokevirtual 234, 3) := by decide +kernel
theorem dX16_pair_151 : decode cX16_pair 151 = .ok (.aload_n 0, 1) := by decide +kernel
theorem dX16_pair_152 : decode cX16_pair 152 = .ok (.getfield 118, 3) := by decide +kernel
theorem dX16_pair_155 : decode cX16_pair 155 = .ok (.iload_n 1, 1) := by decide +kernel
theorem dX16_pair_156 : decode cX16_pair 156 = .ok (.iload_n 3, 1) := by decide +kernel
theorem dX16_pair_157 : decode cX16_pair 157 = .ok (.invokevirtual 234, 3) := by decide +kernel
theorem dX16_pair_160 : decode cX16_pair 160 = .ok (.aload_n 0, 1) := by decide +kernel
theorem dX16_pair_161 : decode cX16_pair 161 = .ok (.ldc 237, 2) := by decide +kernel
theorem dX16_pair_163 : decode cX16_pair 163 = .ok (.invokevirtual 200, 3) := by decide +kernel
theorem dX16_pair_166 : decode cX16_pair 166 = .ok (.aload_n 0, 1) := by decide +kernel
theorem dX16_pair_167 : decode cX16_pair 167 = .ok (.getfield 118, 3) := by decide +kernel
theorem dX16_pair_170 : decode cX16_pair 170 = .ok (.getfield 239, 3) := by decide +kernel
theorem dX16_pair_173 : decode cX16_pair 173 = .ok (.iload_n 1, 1) := by decide +kernel
theorem dX16_pair_174 : decode cX16_pair 174 = .ok (.aload_n 0, 1) := by decide +kernel
theorem dX16_pair_175 : decode cX16_pair 175 = .ok (.iload_n 2, 1) := by decide +kernel
theorem dX16_pair_176 : decode cX16_pair 176 = .ok (.invokevirtual 241, 3) := by decide +kernel
theorem dX16_pair_179 : decode cX16_pair 179 = .ok (.iastore, 1) := by decide +kernel
theorem dX16_pair_180 : decode cX16_pair 180 = .ok (.aload_n 0, 1) := by decide +kernel
theorem dX16_pair_181 : decode cX16_pair 181 = .ok (.getfield 118, 3) := by decide +kernel
theorem dX16_pair_184 : decode cX16_pair 184 = .ok (.getfield 264, 3) := by decide +kernel
theorem dX16_pair_187 : decode cX16_pair 187 = .ok (.iload_n 1, 1) := by decide +kernel
theorem dX16_pair_188 : decode cX16_pair 188 = .ok (.aload_n 0, 1) := by decide +kernel
theorem dX16_pair_189 : decode cX16_pair 189 = .ok (.iload_n 3, 1) := by decide +kernel
theorem dX16_pair_190 : decode cX16_pair 190 = .ok (.invokevirtual 241, 3) := by decide +kernel
theorem dX16_pair_193 : decode cX16_pair 193 = .ok (.iastore, 1) := by decide +kernel
theorem dX16_pair_194 : decode cX16_pair 194 = .ok (.return_, 1) := by decide +kernel
set_option maxRecDepth 20000 in
theorem a_X16_pair_118 {Q : Sg → Unit → Prop} {X : Sg → String → Prop} (K : MC R p s m args c cX16_pair 6 RX16 D cA tys A n0 s0 9 195 []) (hQ : HQV p l e R s m args below meth c cX16_pair D cA A n0 s0 QM dm ra jx rm Q) (hX : HX p l e R s m args below meth c 6 D cA A n0 s0 QM dm ra jx rm X) : ∀ (σ : Sg) (v1 : Int) (v2 : Int) (v3 : Int) (g1 : rng v1) (g2 : rng v2) (g3 : rng v3), w_X16_pair_118 ra jx rm Q X σ v1 v2 v3 → RG σ → Shp dm ra jx rm σ → JJ p l e R s m args below meth c 6 D cA A n0 s0 QM σ 118 [(0, .ref rm), (1, .int (i32 v1)), (2, .int (i32 v2)), (3, .int (i32 v3))] [] := by
  intro σ v1 v2 v3 g1 g2 g3 h hGσ hS H locs ls hH hl hc
  have B := K.1
  unfold w_X16_pair_118 at h
  refine lv_aload_n B.1 B.2.1 dX16_pair_118 rfl (lv_at hl 0 rfl) ?_
  refine c_V B hH hl hc K.2.2.1 (C := RX16) (T := TX16) (N := 123) (ci := 16) (As := []) (ok_X16_take K.2.1 σ hGσ hS h) wc_X16_84 0 hd_X16_take ⟨Nat.le_trans (Nat.le_of_ble_eq_true rfl) K.2.2.2.1, Nat.le_trans (Nat.le_of_ble_eq_true rfl) K.2.2.2.2.1⟩ hS.1.1 hS.1.2 (by decide) rfl rfl (rest := []) rfl (Nat.le_of_ble_eq_true rfl) dX16_pair_119 (fun σ67 w hq => ?_) (fun σ9 E9 hx9 => hX σ9 E9 _ _ _ (tb_out K.2.2.2.2.2 rfl) hx9.1 hx9.2.1 hx9.2.2)
  obtain ⟨rfl, h, hGσ67, hS⟩ := hq
  intro H locs ls hH hl hc
  refine W.eq (g2 := F0 m 122 ls []) (rfl) ?_
  try dsimp only at h
  refine lv_aload_n B.1 B.2.1 dX16_pair_122 rfl (lv_at hl 0 rfl) ?_
  refine r_getp B hH hS 18 (by decide) wf_X16_118 rfl rfl dX16_pair_123 ?_
  obtain ⟨a68, ea68, ja68, h⟩ := h
  refine W.eq (g2 := F0 m 126 ls [.ref a68]) (by rw [ea68]; rfl) ?_
  refine n_arr B hH hS ja68 4 (kd := 100) (n := 16) (by decide) (by decide) (List.mem_of_getElem? (i := 4) rfl) rfl dX16_pair_126 ?_
  refine lv_iload_n B.1 B.2.1 dX16_pair_129 rfl (lv_at hl 1 rfl) ?_
  refine lv_iload_n B.1 B.2.1 dX16_pair_130 rfl (lv_at hl 2 rfl) ?_
  obtain ⟨q2, h⟩ := h
  obtain ⟨σ69, eσ69⟩ : ∃ z, z = pI σ67 (jx a68 4) v1.toNat v2 := ⟨_, rfl⟩
  have h := h σ69 eσ69
  refine x_iast B K.2.1 hH (hS.ja ja68 (k := 4) (kd := 100) (n := 16) (by decide)) (by decide) q2 dX16_pair_131 (fun H locs hH => ?_)
  have hH : Hd D cA A s (pI σ67 (jx a68 4) v1.toNat v2) H locs := hH
  rw [← eσ69] at hH
  have hGσ69 : RG σ69 := by rw [eσ69]; exact hGσ67.pI g2
  have hS : Shp dm ra jx rm σ69 := by rw [eσ69]; exact hS
  have hc : CB n0 s0 σ69 := by rw [eσ69]; exact hc
  rw [show gc σ67 = gc σ69 by rw [eσ69], show gs σ67 = gs σ69 by rw [eσ69]]
  refine lv_aload_n B.1 B.2.1 dX16_pair_132 rfl (lv_at hl 0 rfl) ?_
  refine r_getp B hH hS 18 (by decide) wf_X16_118 rfl rfl dX16_pair_133 ?_
  obtain ⟨a70, ea70, ja70, h⟩ := h
  refine W.eq (g2 := F0 m 136 ls [.ref a70]) (by rw [ea70]; rfl) ?_
  refine n_arr B hH hS ja70 5 (kd := 100) (n := 16) (by decide) (by decide) (List.mem_of_getElem? (i := 5) rfl) rfl dX16_pair_136 ?_
  refine lv_iload_n B.1 B.2.1 dX16_pair_139 rfl (lv_at hl 1 rfl) ?_
  refine lv_iload_n B.1 B.2.1 dX16_pair_140 rfl (lv_at hl 3 rfl) ?_
  obtain ⟨q5, h⟩ := h
  obtain ⟨σ71, eσ71⟩ : ∃ z, z = pI σ69 (jx a70 5) v1.toNat v3 := ⟨_, rfl⟩
  have h := h σ71 eσ71
  refine x_iast B K.2.1 hH (hS.ja ja70 (k := 5) (kd := 100) (n := 16) (by decide)) (by decide) q5 dX16_pair_141 (fun H locs hH => ?_)
  have hH : Hd D cA A s (pI σ69 (jx a70 5) v1.toNat v3) H locs := hH
  rw [← eσ71] at hH
  have hGσ71 : RG σ71 := by rw [eσ71]; exact hGσ69.pI g3
  have hS : Shp dm ra jx rm σ71 := by rw [eσ71]; exact hS
  have hc : CB n0 s0 σ71 := by rw [eσ71]; exact hc
  rw [show gc σ69 = gc σ71 by rw [eσ71], show gs σ69 = gs σ71 by rw [eσ71]]
  refine lv_aload_n B.1 B.2.1 dX16_pair_142 rfl (lv_at hl 0 rfl) ?_
  refine r_getp B hH hS 18 (by decide) wf_X16_118 rfl rfl dX16_pair_143 ?_
  refine lv_iload_n B.1 B.2.1 dX16_pair_146 rfl (lv_at hl 1 rfl) ?_
  refine lv_iload_n B.1 B.2.1 dX16_pair_147 rfl (lv_at hl 2 rfl) ?_
  obtain ⟨a72, ea72, ja72, h⟩ := h
  refine W.eq (g2 := F0 m 148 ls [.int (i32 v2), .int (i32 v1), .ref a72]) (by rw [ea72]; rfl) ?_
  refine c_V B hH hl hc K.2.2.1 (C := RX15) (T := TX15) (N := 20) (ci := 15) (As := [.int (i32 v1), .int (i32 v2)]) (ok_X15_copyColumns ja72 K.2.1 σ71 v1 v2 g1 g2 hGσ71 hS h) wc_X16_234 2 hd_X15_copyColumns ⟨Nat.le_trans (Nat.le_of_ble_eq_true rfl) K.2.2.2.1, Nat.le_trans (Nat.le_of_ble_eq_true rfl) K.2.2.2.2.1⟩ (hS.jb ja72).1 (hS.jb ja72).2 (by decide) rfl rfl (rest := []) rfl (Nat.le_of_ble_eq_true rfl) dX16_pair_148 (fun σ73 w hq => ?_) (fun σ9 E9 hx9 => hX σ9 E9 _ _ _ (tb_out K.2.2.2.2.2 rfl) hx9.1 hx9.2.1 hx9.2.2)
  obtain ⟨rfl, h, hGσ73, hS⟩ := hq
  intro H locs ls hH hl hc
  refine W.eq (g2 := F0 m 151 ls []) (rfl) ?_
  try dsimp only at h
  refine lv_aload_n B.1 B.2.1 dX16_pair_151 rfl (lv_at hl 0 rfl) ?_
  refine r_getp B hH hS 18 (by decide) wf_X16_118 rfl rfl dX16_pair_152 ?_
  refine lv_iload_n B.1 B.2.1 dX16_pair_155 rfl (lv_at hl 1 rfl) ?_
  refine lv_iload_n B.1 B.2.1 dX16_pair_156 rfl (lv_at hl 3 rfl) ?_
  obtain ⟨a74, ea74, ja74, h⟩ := h
  refine W.eq (g2 := F0 m 157 ls [.int (i32 v3), .int (i32 v1), .ref a74]) (by rw [ea74]; rfl) ?_
  refine c_V B hH hl hc K.2.2.1 (C := RX15) (T := TX15) (N := 20) (ci := 15) (As := [.int (i32 v1), .int (i32 v3)]) (ok_X15_copyColumns ja74 K.2.1 σ73 v1 v3 g1 g3 hGσ73 hS h) wc_X16_234 2 hd_X15_copyColumns ⟨Nat.le_trans (Nat.le_of_ble_eq_true rfl) K.2.2.2.1, Nat.le_trans (Nat.le_of_ble_eq_true rfl) K.2.2.2.2.1⟩ (hS.jb ja74).1 (hS.jb ja74).2 (by decide) rfl rfl (rest := []) rfl (Nat.le_of_ble_eq_true rfl) dX16_pair_157 (fun σ75 w hq => ?_) (fun σ9 E9 hx9 => hX σ9 E9 _ _ _ (tb_out K.2.2.2.2.2 rfl) hx9.1 hx9.2.1 hx9.2.2)
  obtain ⟨rfl, h, hGσ75, hS⟩ := hq
  intro H locs ls hH hl hc
  refine W.eq (g2 := F0 m 160 ls []) (rfl) ?_
  try dsimp only at h
  refine lv_aload_n B.1 B.2.1 dX16_pair_160 rfl (lv_at hl 0 rfl) ?_
  refine xs_ldc B.1 B.2.1 B.2.2.1 (B.2.2.2.2.2.2.2.2.2.2.1 _ (List.mem_of_getElem? (l := stL) (i := 3) rfl)).1 dX16_pair_161 ?_
  refine c_V B hH hl hc K.2.2.1 (C := RX16) (T := TX16) (N := 123) (ci := 16) (As := [.ref (cA (1000 + 237))]) (ok_X16_keyword K.2.1 σ75 237 st_237 hGσ75 hS h) wc_X16_200 1 hd_X16_keyword ⟨Nat.le_trans (Nat.le_of_ble_eq_true rfl) K.2.2.2.1, Nat.le_trans (Nat.le_of_ble_eq_true rfl) K.2.2.2.2.1⟩ hS.1.1 hS.1.2 (by decide) rfl rfl (rest := []) rfl (Nat.le_of_ble_eq_true rfl) dX16_pair_163 (fun σ76 w hq => ?_) (fun σ9 E9 hx9 => hX σ9 E9 _ _ _ (tb_out K.2.2.2.2.2 rfl) hx9.1 hx9.2.1 hx9.2.2)
  obtain ⟨rfl, h, hGσ76, hS⟩ := hq
  intro H locs ls hH hl hc
  refine W.eq (g2 := F0 m 166 ls []) (rfl) ?_
  try dsimp only at h
  refine lv_aload_n B.1 B.2.1 dX16_pair_166 rfl (lv_at hl 0 rfl) ?_
  refine r_getp B hH hS 18 (by decide) wf_X16_118 rfl rfl dX16_pair_167 ?_
  obtain ⟨a77, ea77, ja77, h⟩ := h
  refine W.eq (g2 := F0 m 170 ls [.ref a77]) (by rw [ea77]; rfl) ?_
  refine n_arr B hH hS ja77 10 (kd := 100) (n := 16) (by decide) (by decide) (List.mem_of_getElem? (i := 10) rfl) rfl dX16_pair_170 ?_
  refine lv_iload_n B.1 B.2.1 dX16_pair_173 rfl (lv_at hl 1 rfl) ?_
  refine lv_aload_n B.1 B.2.1 dX16_pair_174 rfl (lv_at hl 0 rfl) ?_
  refine lv_iload_n B.1 B.2.1 dX16_pair_175 rfl (lv_at hl 2 rfl) ?_
  refine c_V B hH hl hc K.2.2.1 (C := RX16) (T := TX16) (N := 123) (ci := 16) (As := [.int (i32 v2)]) (ok_X16_columnOf K.2.1 σ76 v2 g2 hGσ76 hS h) wc_X16_241 1 hd_X16_columnOf ⟨Nat.le_trans (Nat.le_of_ble_eq_true rfl) K.2.2.2.1, Nat.le_trans (Nat.le_of_ble_eq_true rfl) K.2.2.2.2.1⟩ hS.1.1 hS.1.2 (by decide) rfl rfl (rest := [.int (i32 v1), .ref (jx a77 10)]) rfl (Nat.le_of_ble_eq_true rfl) dX16_pair_176 (fun σ78 w hq => ?_) (fun σ9 E9 hx9 => hX σ9 E9 _ _ _ (tb_out K.2.2.2.2.2 rfl) hx9.1 hx9.2.1 hx9.2.2)
  obtain ⟨r79, rfl, gr79, h, hGσ78, hS⟩ := hq
  intro H locs ls hH hl hc
  refine W.eq (g2 := F0 m 179 ls [.int (i32 r79), .int (i32 v1), .ref (jx a77 10)]) (rfl) ?_
  try dsimp only at h
  obtain ⟨q10, h⟩ := h
  obtain ⟨σ80, eσ80⟩ : ∃ z, z = pI σ78 (jx a77 10) v1.toNat r79 := ⟨_, rfl⟩
  have h := h σ80 eσ80
  refine x_iast B K.2.1 hH (hS.ja ja77 (k := 10) (kd := 100) (n := 16) (by decide)) (by decide) q10 dX16_pair_179 (fun H locs hH => ?_)
  have hH : Hd D cA A s (pI σ78 (jx a77 10) v1.toNat r79) H locs := hH
  rw [← eσ80] at hH
  have hGσ80 : RG σ80 := by rw [eσ80]; exact hGσ78.pI gr79
  have hS : Shp dm ra jx rm σ80 := by rw [eσ80]; exact hS
  have hc : CB n0 s0 σ80 := by rw [eσ80]; exact hc
  rw [show gc σ78 = gc σ80 by rw [eσ80], show gs σ78 = gs σ80 by rw [eσ80]]
  refine lv_aload_n B.1 B.2.1 dX16_pair_180 rfl (lv_at hl 0 rfl) ?_
  refine r_getp B hH hS 18 (by decide) wf_X16_118 rfl rfl dX16_pair_181 ?_
  obtain ⟨a81, ea81, ja81, h⟩ := h
  refine W.eq (g2 := F0 m 184 ls [.ref a81]) (by rw [ea81]; rfl) ?_
  refine n_arr B hH hS ja81 11 (kd := 100) (n := 16) (by decide) (by decide) (List.mem_of_getElem? (i := 11) rfl) rfl dX16_pair_184 ?_
  refine lv_iload_n B.1 B.2.1 dX16_pair_187 rfl (lv_at hl 1 rfl) ?_
  refine lv_aload_n B.1 B.2.1 dX16_pair_188 rfl (lv_at hl 0 rfl) ?_
  refine lv_iload_n B.1 B.2.1 dX16_pair_189 rfl (lv_at hl 3 rfl) ?_
  refine c_V B hH hl hc K.2.2.1 (C := RX16) (T := TX16) (N := 123) (ci := 16) (As := [.int (i32 v3)]) (ok_X16_columnOf K.2.1 σ80 v3 g3 hGσ80 hS h) wc_X16_241 1 hd_X16_columnOf ⟨Nat.le_trans (Nat.le_of_ble_eq_true rfl) K.2.2.2.1, Nat.le_trans (Nat.le_of_ble_eq_true rfl) K.2.2.2.2.1⟩ hS.1.1 hS.1.2 (by decide) rfl rfl (rest := [.int (i32 v1), .ref (jx a81 11)]) rfl (Nat.le_of_ble_eq_true rfl) dX16_pair_190 (fun σ82 w hq => ?_) (fun σ9 E9 hx9 => hX σ9 E9 _ _ _ (tb_out K.2.2.2.2.2 rfl) hx9.1 hx9.2.1 hx9.2.2)
  obtain ⟨r83, rfl, gr83, h, hGσ82, hS⟩ := hq
  intro H locs ls hH hl hc
  refine W.eq (g2 := F0 m 193 ls [.int (i32 r83), .int (i32 v1), .ref (jx a81 11)]) (rfl) ?_
  try dsimp only at h
  obtain ⟨q13, h⟩ := h
  obtain ⟨σ84, eσ84⟩ : ∃ z, z = pI σ82 (jx a81 11) v1.toNat r83 := ⟨_, rfl⟩
  have h := h σ84 eσ84
  refine x_iast B K.2.1 hH (hS.ja ja81 (k := 11) (kd := 100) (n := 16) (by decide)) (by decide) q13 dX16_pair_193 (fun H locs hH => ?_)
  have hH : Hd D cA A s (pI σ82 (jx a81 11) v1.toNat r83) H locs := hH
  rw [← eσ84] at hH
  have hGσ84 : RG σ84 := by rw [eσ84]; exact hGσ82.pI gr83
  have hS : Shp dm ra jx rm σ84 := by rw [eσ84]; exact hS
  have hc : CB n0 s0 σ84 := by rw [eσ84]; exact hc
  rw [show gc σ82 = gc σ84 by rw [eσ84], show gs σ82 = gs σ84 by rw [eσ84]]
  exact hQ _ _ _ _ _ dX16_pair_194 hH hc h hGσ84 hS
set_option maxRecDepth 20000 in
theorem a_X16_pair_111 {Q : Sg → Unit → Prop} {X : Sg → String → Prop} (K : MC R p s m args c cX16_pair 6 RX16 D cA tys A n0 s0 9 195 []) (hQ : HQV p l e R s m args below meth c cX16_pair D cA A n0 s0 QM dm ra jx rm Q) (hX : HX p l e R s m args below meth c 6 D cA A n0 s0 QM dm ra jx rm X) : ∀ (σ : Sg), w_X16_pair_111 ra jx rm Q X σ → RG σ → Shp dm ra jx rm σ → JJ p l e R s m args below meth c 6 D cA A n0 s0 QM σ 111 [(0, .ref rm)] [] := by
  intro σ h hGσ hS H locs ls hH hl hc
  have B := K.1
  unfold w_X16_pair_111 at h
  refine lv_aload_n B.1 B.2.1 dX16_pair_111 rfl (lv_at hl 0 rfl) ?_
  refine lv_bipush (v := i32 8) B.1 B.2.1 dX16_pair_112 (by decide) ?_
  refine c_V B hH hl hc K.2.2.1 (C := RX16) (T := TX16) (N := 123) (ci := 16) (As := [.int (i32 8)]) (ok_X16_fail K.2.1 σ 8 (by unfold rng; omega) hGσ hS h) wc_X16_65 1 hd_X16_fail ⟨Nat.le_trans (Nat.le_of_ble_eq_true rfl) K.2.2.2.1, Nat.le_trans (Nat.le_of_ble_eq_true rfl) K.2.2.2.2.1⟩ hS.1.1 hS.1.2 (by decide) rfl rfl (rest := []) rfl (Nat.le_of_ble_eq_true rfl) dX16_pair_114 (fun σ85 w hq => ?_) (fun σ9 E9 hx9 => hX σ9 E9 _ _ _ (tb_out K.2.2.2.2.2 rfl) hx9.1 hx9.2.1 hx9.2.2)
  obtain ⟨r86, rfl, h, hGσ85, hS⟩ := hq
  intro H locs ls hH hl hc
  refine W.eq (g2 := F0 m 117 ls [va_rf r86]) (rfl) ?_
  try dsimp only at h
  obtain ⟨qt, h⟩ := h
  refine W.eq (g2 := F0 m 117 ls [.ref (ra 1)]) (by rw [qt]; rfl) ?_
  have hx9 := And.intro h (And.intro hGσ85 hS)
  refine h_athrow B hH hl hc (ci := 14) (hS.ob (k := 1) (ci := 14) (by decide)).1 (hS.ob (k := 1) (ci := 14) (by decide)).2 (by decide) rfl dX16_pair_117 ?_
  exact hX σ85 _ _ _ _ (tb_out K.2.2.2.2.2 rfl) hx9.1 hx9.2.1 hx9.2.2
set_option maxRecDepth 20000 in
theorem a_X16_pair_87 {Q : Sg → Unit → Prop} {X : Sg → String → Prop} (K : MC R p s m args c cX16_pair 6 RX16 D cA tys A n0 s0 9 195 []) (hQ : HQV p l e R s m args below meth c cX16_pair D cA A n0 s0 QM dm ra jx rm Q) (hX : HX p l e R s m args below meth c 6 D cA A n0 s0 QM dm ra jx rm X) : ∀ (σ : Sg) (v1 : Int) (v2 : Int) (v3 : Int) (g1 : rng v1) (g2 : rng v2) (g3 : rng v3), w_X16_pair_87 ra jx rm Q X σ v1 v2 v3 → RG σ → Shp dm ra jx rm σ → JJ p l e R s m args below meth c 6 D cA A n0 s0 QM σ 87 [(0, .ref rm), (1, .int (i32 v1)), (2, .int (i32 v2)), (3, .int (i32 v3))] [] := by
  intro σ v1 v2 v3 g1 g2 g3 h hGσ hS H locs ls hH hl hc
  have B := K.1
  unfold w_X16_pair_87 at h
  refine lv_aload_n B.1 B.2.1 dX16_pair_87 rfl (lv_at hl 0 rfl) ?_
  refine r_getp B hH hS 18 (by decide) wf_X16_118 rfl rfl dX16_pair_88 ?_
  obtain ⟨a87, ea87, ja87, h⟩ := h
  refine W.eq (g2 := F0 m 91 ls [.ref a87]) (by rw [ea87]; rfl) ?_
  refine n_arr B hH hS ja87 6 (kd := 100) (n := 16) (by decide) (by decide) (List.mem_of_getElem? (i := 6) rfl) rfl dX16_pair_91 ?_
  refine lv_iload_n B.1 B.2.1 dX16_pair_94 rfl (lv_at hl 2 rfl) ?_
  obtain ⟨q2, h⟩ := h
  refine x_iald B K.2.1 hH (hS.ja ja87 (k := 6) (kd := 100) (n := 16) (by decide)) (by decide) q2 dX16_pair_95 ?_
  refine lv_aload_n B.1 B.2.1 dX16_pair_96 rfl (lv_at hl 0 rfl) ?_
  refine r_getp B hH hS 18 (by decide) wf_X16_118 rfl rfl dX16_pair_97 ?_
  obtain ⟨a88, ea88, ja88, h⟩ := h
  refine W.eq (g2 := F0 m 100 ls [.ref a88, .int (i32 (gI σ (jx a87 6) v2.toNat))]) (by rw [ea88]; rfl) ?_
  refine n_arr B hH hS ja88 6 (kd := 100) (n := 16) (by decide) (by decide) (List.mem_of_getElem? (i := 6) rfl) rfl dX16_pair_100 ?_
  refine lv_iload_n B.1 B.2.1 dX16_pair_103 rfl (lv_at hl 3 rfl) ?_
  obtain ⟨q4, h⟩ := h
  refine x_iald B K.2.1 hH (hS.ja ja88 (k := 6) (kd := 100) (n := 16) (by decide)) (by decide) q4 dX16_pair_104 ?_
  obtain ⟨q5, h⟩ := h
  refine lv_iadd B.1 B.2.1 dX16_pair_105 ?_
  rw [i32_add]
  refine lv_bipush (v := i32 8) B.1 B.2.1 dX16_pair_106 (by decide) ?_
  refine lv_icmp_le (tgt := 118) B.1 B.2.1 dX16_pair_108 (by decide) (fun h9 => ?_) (fun h9 => ?_)
  · rw [if_pos ((i32_le q5 (by unfold rng; omega)).mp h9)] at h
    exact a_X16_pair_118 K hQ hX _ _ _ _ g1 g2 g3 h hGσ hS _ _ _ hH (lv_sub (l' := [(0, .ref rm), (1, .int (i32 v1)), (2, .int (i32 v2)), (3, .int (i32 v3))]) hl [0, 1, 2, 3] rfl) hc
  · rw [if_neg (fun q => h9 ((i32_le q5 (by unfold rng; omega)).mpr q))] at h
    exact a_X16_pair_111 K hQ hX _ h hGσ hS _ _ _ hH (lv_sub (l' := [(0, .ref rm)]) hl [0] rfl) hc
set_option maxRecDepth 20000 in
theorem a_X16_pair_80 {Q : Sg → Unit → Prop} {X : Sg → String → Prop} (K : MC R p s m args c cX16_pair 6 RX16 D cA tys A n0 s0 9 195 []) (hQ : HQV p l e R s m args below meth c cX16_pair D cA A n0 s0 QM dm ra jx rm Q) (hX : HX p l e R s m args below meth c 6 D cA A n0 s0 QM dm ra jx rm X) : ∀ (σ : Sg), w_X16_pair_80 ra jx rm Q X σ → RG σ → Shp dm ra jx rm σ → JJ p l e R s m args below meth c 6 D cA A n0 s0 QM σ 80 [(0, .ref rm)] [] := by
  intro σ h hGσ hS H locs ls hH hl hc
  have B := K.1
  unfold w_X16_pair_80 at h
  refine lv_aload_n B.1 B.2.1 dX16_pair_80 rfl (lv_at hl 0 rfl) ?_
  refine lv_bipush (v := i32 6) B.1 B.2.1 dX16_pair_81 (by decide) ?_
  refine c_V B hH hl hc K.2.2.1 (C := RX16) (T := TX16) (N := 123) (ci := 16) (As := [.int (i32 6)]) (ok_X16_fail K.2.1 σ 6 (by unfold rng; omega) hGσ hS h) wc_X16_65 1 hd_X16_fail ⟨Nat.le_trans (Nat.le_of_ble_eq_true rfl) K.2.2.2.1, Nat.le_trans (Nat.le_of_ble_eq_true rfl) K.2.2.2.2.1⟩ hS.1.1 hS.1.2 (by decide) rfl rfl (rest := []) rfl (Nat.le_of_ble_eq_true rfl) dX16_pair_83 (fun σ89 w hq => ?_) (fun σ9 E9 hx9 => hX σ9 E9 _ _ _ (tb_out K.2.2.2.2.2 rfl) hx9.1 hx9.2.1 hx9.2.2)
  obtain ⟨r90, rfl, h, hGσ89, hS⟩ := hq
  intro H locs ls hH hl hc
  refine W.eq (g2 := F0 m 86 ls [va_rf r90]) (rfl) ?_
  try dsimp only at h
  obtain ⟨qt, h⟩ := h
  refine W.eq (g2 := F0 m 86 ls [.ref (ra 1)]) (by rw [qt]; rfl) ?_
  have hx9 := And.intro h (And.intro hGσ89 hS)
  refine h_athrow B hH hl hc (ci := 14) (hS.ob (k := 1) (ci := 14) (by decide)).1 (hS.ob (k := 1) (ci := 14) (by decide)).2 (by decide) rfl dX16_pair_86 ?_
  exact hX σ89 _ _ _ _ (tb_out K.2.2.2.2.2 rfl) hx9.1 hx9.2.1 hx9.2.2
set_option maxRecDepth 20000 in
theorem a_X16_pair_75 {Q : Sg → Unit → Prop} {X : Sg → String → Prop} (K : MC R p s m args c cX16_pair 6 RX16 D cA tys A n0 s0 9 195 []) (hQ : HQV p l e R s m args below meth c cX16_pair D cA A n0 s0 QM dm ra jx rm Q) (hX : HX p l e R s m args below meth c 6 D cA A n0 s0 QM dm ra jx rm X) : ∀ (σ : Sg) (v1 : Int) (v2 : Int) (v3 : Int) (v4 : Int) (g1 : rng v1) (g2 : rng v2) (g3 : rng v3) (g4 : rng v4), w_X16_pair_75 ra jx rm Q X σ v1 v2 v3 v4 → RG σ → Shp dm ra jx rm σ → JJ p l e R s m args below meth c 6 D cA A n0 s0 QM σ 75 [(0, .ref rm), (1, .int (i32 v1)), (2, .int (i32 v2)), (3, .int (i32 v3)), (4, .int (i32 v4))] [] := by
  intro σ v1 v2 v3 v4 g1 g2 g3 g4 h hGσ hS H locs ls hH hl hc
  have B := K.1
  unfold w_X16_pair_75 at h
  refine lv_iload B.1 B.2.1 dX16_pair_75 (lv_at hl 4 rfl) ?_
  refine lv_if_ne (tgt := 87) B.1 B.2.1 dX16_pair_77 (by decide) (fun h9 => ?_) (fun h9 => ?_)
  · rw [if_pos (fun q => h9 ((z_eq g4).mpr q))] at h
    exact a_X16_pair_87 K hQ hX _ _ _ _ g1 g2 g3 h hGσ hS _ _ _ hH (lv_sub (l' := [(0, .ref rm), (1, .int (i32 v1)), (2, .int (i32 v2)), (3, .int (i32 v3))]) hl [0, 1, 2, 3] rfl) hc
  · rw [if_neg (fun q => q ((z_eq g4).mp h9))] at h
    exact a_X16_pair_80 K hQ hX _ h hGσ hS _ _ _ hH (lv_sub (l' := [(0, .ref rm)]) hl [0] rfl) hc
set_option maxRecDepth 20000 in
theorem a_X16_pair_67 {Q : Sg → Unit → Prop} {X : Sg → String → Prop} (K : MC R p s m args c cX16_pair 6 RX16 D cA tys A n0 s0 9 195 []) (hQ : HQV p l e R s m args below meth c cX16_pair D cA A n0 s0 QM dm ra jx rm Q) (hX : HX p l e R s m args below meth c 6 D cA A n0 s0 QM dm ra jx rm X) {K16 : Sg → Int → Int → Int → Int → Int → Prop} (hK16 : ∀ (σ : Sg) (v1 : Int) (v2 : Int) (v3 : Int) (v4 : Int) (v5 : Int) (g1 : rng v1) (g2 : rng v2) (g3 : rng v3) (g4 : rng v4) (g5 : rng v5), K16 σ v1 v2 v3 v4 v5 → RG σ → Shp dm ra jx rm σ → JJ p l e R s m args below meth c 6 D cA A n0 s0 QM σ 16 [(0, .ref rm), (1, .int (i32 v1)), (2, .int (i32 v2)), (3, .int (i32 v3)), (4, .int (i32 v4)), (5, .int (i32 v5))] []) : ∀ (σ : Sg) (v1 : Int) (v2 : Int) (v3 : Int) (v5 : Int) (u0 : Int) (g1 : rng v1) (g2 : rng v2) (g3 : rng v3) (g5 : rng v5) (gu0 : rng u0), w_X16_pair_67 ra jx rm K16 Q X σ v1 v2 v3 v5 u0 → RG σ → Shp dm ra jx rm σ → JJ p l e R s m args below meth c 6 D cA A n0 s0 QM σ 67 [(0, .ref rm), (1, .int (i32 v1)), (2, .int (i32 v2)), (3, .int (i32 v3)), (5, .int (i32 v5))] [.int (i32 u0)] := by
  intro σ v1 v2 v3 v5 u0 g1 g2 g3 g5 gu0 h hGσ hS H locs ls hH hl hc
  have B := K.1
  unfold w_X16_pair_67 at h
  refine lv_istore (lv' := [(4, .int (i32 u0)), (0, .ref rm), (1, .int (i32 v1)), (2, .int (i32 v2)), (3, .int (i32 v3)), (5, .int (i32 v5))]) B.1 B.2.1 dX16_pair_67 hl (by decide) rfl (fun ls hl => ?_)
  obtain ⟨q1, h⟩ := h
  refine lv_iinc (k := 5) (v := i32 (v5 + 1)) (lv' := [(5, .int (i32 (v5 + 1))), (4, .int (i32 u0)), (0, .ref rm), (1, .int (i32 v1)), (2, .int (i32 v2)), (3, .int (i32 v3))]) B.1 B.2.1 dX16_pair_69 hl rfl (i32_add _ _) (by decide) rfl (fun ls hl => ?_)
  refine lv_goto (tgt := 16) B.1 B.2.1 dX16_pair_72 (by decide) ?_
  exact hK16 _ _ _ _ _ _ g1 g2 g3 gu0 q1 h hGσ hS _ _ _ hH (lv_sub (l' := [(0, .ref rm), (1, .int (i32 v1)), (2, .int (i32 v2)), (3, .int (i32 v3)), (4, .int (i32 u0)), (5, .int (i32 (v5 + 1)))]) hl [2, 3, 4, 5, 1, 0] rfl) hc
set_option maxRecDepth 20000 in
theorem a_X16_pair_66 {Q : Sg → Unit → Prop} {X : Sg → String → Prop} (K : MC R p s m args c cX16_pair 6 RX16 D cA tys A n0 s0 9 195 []) (hQ : HQV p l e R s m args below meth c cX16_pair D cA A n0 s0 QM dm ra jx rm Q) (hX : HX p l e R s m args below meth c 6 D cA A n0 s0 QM dm ra jx rm X) {K16 : Sg → Int → Int → Int → Int → Int → Prop} (hK16 : ∀ (σ : Sg) (v1 : Int) (v2 : Int) (v3 : Int) (v4 : Int) (v5 : Int) (g1 : rng v1) (g2 : rng v2) (g3 : rng v3) (g4 : rng v4) (g5 : rng v5), K16 σ v1 v2 v3 v4 v5 → RG σ → Shp dm ra jx rm σ → JJ p l e R s m args below meth c 6 D cA A n0 s0 QM σ 16 [(0, .ref rm), (1, .int (i32 v1)), (2, .int (i32 v2)), (3, .int (i32 v3)), (4, .int (i32 v4)), (5, .int (i32 v5))] []) : ∀ (σ : Sg) (v1 : Int) (v2 : Int) (v3 : Int) (v5 : Int) (g1 : rng v1) (g2 : rng v2) (g3 : rng v3) (g5 : rng v5), w_X16_pair_66 ra jx rm K16 Q X σ v1 v2 v3 v5 → RG σ → Shp dm ra jx rm σ → JJ p l e R s m args below meth c 6 D cA A n0 s0 QM σ 66 [(0, .ref rm), (1, .int (i32 v1)), (2, .int (i32 v2)), (3, .int (i32 v3)), (5, .int (i32 v5))] [] := by
  intro σ v1 v2 v3 v5 g1 g2 g3 g5 h hGσ hS H locs ls hH hl hc
  have B := K.1
  unfold w_X16_pair_66 at h
  refine lv_iconst (v := i32 0) B.1 B.2.1 dX16_pair_66 (by decide) ?_
  exact a_X16_pair_67 K hQ hX hK16 _ _ _ _ _ _ g1 g2 g3 g5 (by unfold rng; omega) h hGσ hS _ _ _ hH (lv_sub (l' := [(0, .ref rm), (1, .int (i32 v1)), (2, .int (i32 v2)), (3, .int (i32 v3)), (5, .int (i32 v5))]) hl [0, 1, 2, 3, 4] rfl) hc
set_option maxRecDepth 20000 in
theorem a_X16_pair_62 {Q : Sg → Unit → Prop} {X : Sg → String → Prop} (K : MC R p s m args c cX16_pair 6 RX16 D cA tys A n0 s0 9 195 []) (hQ : HQV p l e R s m args below meth c cX16_pair D cA A n0 s0 QM dm ra jx rm Q) (hX : HX p l e R s m args below meth c 6 D cA A n0 s0 QM dm ra jx rm X) {K16 : Sg → Int → Int → Int → Int → Int → Prop} (hK16 : ∀ (σ : Sg) (v1 : Int) (v2 : Int) (v3 : Int) (v4 : Int) (v5 : Int) (g1 : rng v1) (g2 : rng v2) (g3 : rng v3) (g4 : rng v4) (g5 : rng v5), K16 σ v1 v2 v3 v4 v5 → RG σ → Shp dm ra jx rm σ → JJ p l e R s m args below meth c 6 D cA A n0 s0 QM σ 16 [(0, .ref rm), (1, .int (i32 v1)), (2, .int (i32 v2)), (3, .int (i32 v3)), (4, .int (i32 v4)), (5, .int (i32 v5))] []) : ∀ (σ : Sg) (v1 : Int) (v2 : Int) (v3 : Int) (v5 : Int) (g1 : rng v1) (g2 : rng v2) (g3 : rng v3) (g5 : rng v5), w_X16_pair_62 ra jx rm K16 Q X σ v1 v2 v3 v5 → RG σ → Shp dm ra jx rm σ → JJ p l e R s m args below meth c 6 D cA A n0 s0 QM σ 62 [(0, .ref rm), (1, .int (i32 v1)), (2, .int (i32 v2)), (3, .int (i32 v3)), (5, .int (i32 v5))] [] := by
  intro σ v1 v2 v3 v5 g1 g2 g3 g5 h hGσ hS H locs ls hH hl hc
  have B := K.1
  unfold w_X16_pair_62 at h
  refine lv_iconst (v := i32 1) B.1 B.2.1 dX16_pair_62 (by decide) ?_
  refine lv_goto (tgt := 67) B.1 B.2.1 dX16_pair_63 (by decide) ?_
  exact a_X16_pair_67 K hQ hX hK16 _ _ _ _ _ _ g1 g2 g3 g5 (by unfold rng; omega) h hGσ hS _ _ _ hH (lv_sub (l' := [(0, .ref rm), (1, .int (i32 v1)), (2, .int (i32 v2)), (3, .int (i32 v3)), (5, .int (i32 v5))]) hl [0, 1, 2, 3, 4] rfl) hc
set_option maxRecDepth 20000 in
theorem a_X16_pair_35 {Q : Sg → Unit → Prop} {X : Sg → String → Prop} (K : MC R p s m args c cX16_pair 6 RX16 D cA tys A n0 s0 9 195 []) (hQ : HQV p l e R s m args below meth c cX16_pair D cA A n0 s0 QM dm ra jx rm Q) (hX : HX p l e R s m args below meth c 6 D cA A n0 s0 QM dm ra jx rm X) {K16 : Sg → Int → Int → Int → Int → Int → Prop} (hK16 : ∀ (σ : Sg) (v1 : Int) (v2 : Int) (v3 : Int) (v4 : Int) (v5 : Int) (g1 : rng v1) (g2 : rng v2) (g3 : rng v3) (g4 : rng v4) (g5 : rng v5), K16 σ v1 v2 v3 v4 v5 → RG σ → Shp dm ra jx rm σ → JJ p l e R s m args below meth c 6 D cA A n0 s0 QM σ 16 [(0, .ref rm), (1, .int (i32 v1)), (2, .int (i32 v2)), (3, .int (i32 v3)), (4, .int (i32 v4)), (5, .int (i32 v5))] []) : ∀ (σ : Sg) (v1 : Int) (v2 : Int) (v3 : Int) (v5 : Int) (g1 : rng v1) (g2 : rng v2) (g3 : rng v3) (g5 : rng v5), w_X16_pair_35 ra jx rm K16 Q X σ v1 v2 v3 v5 → RG σ → Shp dm ra jx rm σ → JJ p l e R s m args below meth c 6 D cA A n0 s0 QM σ 35 [(0, .ref rm), (1, .int (i32 v1)), (2, .int (i32 v2)), (3, .int (i32 v3)), (5, .int (i32 v5))] [] := by
  intro σ v1 v2 v3 v5 g1 g2 g3 g5 h hGσ hS H locs ls hH hl hc
  have B := K.1
  unfold w_X16_pair_35 at h
  refine lv_aload_n B.1 B.2.1 dX16_pair_35 rfl (lv_at hl 0 rfl) ?_
  refine r_getp B hH hS 18 (by decide) wf_X16_118 rfl rfl dX16_pair_36 ?_
  refine lv_iload_n B.1 B.2.1 dX16_pair_39 rfl (lv_at hl 2 rfl) ?_
  refine lv_aload_n B.1 B.2.1 dX16_pair_40 rfl (lv_at hl 0 rfl) ?_
  refine r_getp B hH hS 18 (by decide) wf_X16_118 rfl rfl dX16_pair_41 ?_
  obtain ⟨a91, ea91, ja91, h⟩ := h
  refine W.eq (g2 := F0 m 44 ls [.ref a91, .int (i32 v2), va_rf (gP σ rm 18)]) (by rw [ea91]; rfl) ?_
  refine n_arr B hH hS ja91 7 (kd := 101) (n := 144) (by decide) (by decide) (List.mem_of_getElem? (i := 7) rfl) rfl dX16_pair_44 ?_
  refine lv_bipush (v := i32 9) B.1 B.2.1 dX16_pair_47 (by decide) ?_
  refine lv_iload_n B.1 B.2.1 dX16_pair_49 rfl (lv_at hl 3 rfl) ?_
  obtain ⟨q2, h⟩ := h
  refine lv_imul B.1 B.2.1 dX16_pair_50 ?_
  rw [i32_mul]
  refine lv_iload B.1 B.2.1 dX16_pair_51 (lv_at hl 4 rfl) ?_
  obtain ⟨q3, h⟩ := h
  refine lv_iadd B.1 B.2.1 dX16_pair_53 ?_
  rw [i32_add]
  obtain ⟨q4, h⟩ := h
  refine x_lald B K.2.1 hH (hS.ja ja91 (k := 7) (kd := 101) (n := 144) (by decide)) (by decide) q4 dX16_pair_54 ?_
  obtain ⟨a92, ea92, ja92, h⟩ := h
  refine W.eq (g2 := F0 m 55 ls [.long (gJ σ (jx a91 7) ((9 * v3) + v5).toNat), .int (i32 v2), .ref a92]) (by rw [ea92]; rfl) ?_
  refine c_V B hH hl hc K.2.2.1 (C := RX15) (T := TX15) (N := 20) (ci := 15) (As := [.int (i32 v2), .long (gJ σ (jx a91 7) ((9 * v3) + v5).toNat)]) (ok_X15_column ja92 K.2.1 σ v2 (gJ σ (jx a91 7) ((9 * v3) + v5).toNat) g2 hGσ hS h) wc_X16_168 2 hd_X15_column ⟨Nat.le_trans (Nat.le_of_ble_eq_true rfl) K.2.2.2.1, Nat.le_trans (Nat.le_of_ble_eq_true rfl) K.2.2.2.2.1⟩ (hS.jb ja92).1 (hS.jb ja92).2 (by decide) rfl rfl (rest := []) rfl (Nat.le_of_ble_eq_true rfl) dX16_pair_55 (fun σ93 w hq => ?_) (fun σ9 E9 hx9 => hX σ9 E9 _ _ _ (tb_out K.2.2.2.2.2 rfl) hx9.1 hx9.2.1 hx9.2.2)
  obtain ⟨r94, rfl, gr94, h, hGσ93, hS⟩ := hq
  intro H locs ls hH hl hc
  refine W.eq (g2 := F0 m 58 ls [.int (i32 r94)]) (rfl) ?_
  try dsimp only at h
  refine lv_iconst (v := i32 (-1)) B.1 B.2.1 dX16_pair_58 (by decide) ?_
  refine lv_icmp_ne (tgt := 66) B.1 B.2.1 dX16_pair_59 (by decide) (fun h9 => ?_) (fun h9 => ?_)
  · rw [if_pos (fun q => h9 ((i32_eq gr94 (by unfold rng; omega)).mpr q))] at h
    exact a_X16_pair_66 K hQ hX hK16 _ _ _ _ _ g1 g2 g3 g5 h hGσ93 hS _ _ _ hH (lv_sub (l' := [(0, .ref rm), (1, .int (i32 v1)), (2, .int (i32 v2)), (3, .int (i32 v3)), (5, .int (i32 v5))]) hl [0, 1, 2, 3, 4] rfl) hc
  · rw [if_neg (fun q => q ((i32_eq gr94 (by unfold rng; omega)).mp h9))] at h
    exact a_X16_pair_62 K hQ hX hK16 _ _ _ _ _ g1 g2 g3 g5 h hGσ93 hS _ _ _ hH (lv_sub (l' := [(0, .ref rm), (1, .int (i32 v1)), (2, .int (i32 v2)), (3, .int (i32 v3)), (5, .int (i32 v5))]) hl [0, 1, 2, 3, 4] rfl) hc
set_option maxRecDepth 20000 in
theorem a_X16_pair_30 {Q : Sg → Unit → Prop} {X : Sg → String → Prop} (K : MC R p s m args c cX16_pair 6 RX16 D cA tys A n0 s0 9 195 []) (hQ : HQV p l e R s m args below meth c cX16_pair D cA A n0 s0 QM dm ra jx rm Q) (hX : HX p l e R s m args below meth c 6 D cA A n0 s0 QM dm ra jx rm X) {K16 : Sg → Int → Int → Int → Int → Int → Prop} (hK16 : ∀ (σ : Sg) (v1 : Int) (v2 : Int) (v3 : Int) (v4 : Int) (v5 : Int) (g1 : rng v1) (g2 : rng v2) (g3 : rng v3) (g4 : rng v4) (g5 : rng v5), K16 σ v1 v2 v3 v4 v5 → RG σ → Shp dm ra jx rm σ → JJ p l e R s m args below meth c 6 D cA A n0 s0 QM σ 16 [(0, .ref rm), (1, .int (i32 v1)), (2, .int (i32 v2)), (3, .int (i32 v3)), (4, .int (i32 v4)), (5, .int (i32 v5))] []) : ∀ (σ : Sg) (v1 : Int) (v2 : Int) (v3 : Int) (v4 : Int) (v5 : Int) (g1 : rng v1) (g2 : rng v2) (g3 : rng v3) (g4 : rng v4) (g5 : rng v5), w_X16_pair_30 ra jx rm K16 Q X σ v1 v2 v3 v4 v5 → RG σ → Shp dm ra jx rm σ → JJ p l e R s m args below meth c 6 D cA A n0 s0 QM σ 30 [(0, .ref rm), (1, .int (i32 v1)), (2, .int (i32 v2)), (3, .int (i32 v3)), (4, .int (i32 v4)), (5, .int (i32 v5))] [] := by
  intro σ v1 v2 v3 v4 v5 g1 g2 g3 g4 g5 h hGσ hS H locs ls hH hl hc
  have B := K.1
  unfold w_X16_pair_30 at h
  refine lv_iload B.1 B.2.1 dX16_pair_30 (lv_at hl 4 rfl) ?_
  refine lv_if_eq (tgt := 66) B.1 B.2.1 dX16_pair_32 (by decide) (fun h9 => ?_) (fun h9 => ?_)
  · rw [if_pos ((z_eq g4).mp h9)] at h
    exact a_X16_pair_66 K hQ hX hK16 _ _ _ _ _ g1 g2 g3 g5 h hGσ hS _ _ _ hH (lv_sub (l' := [(0, .ref rm), (1, .int (i32 v1)), (2, .int (i32 v2)), (3, .int (i32 v3)), (5, .int (i32 v5))]) hl [0, 1, 2, 3, 5] rfl) hc
  · rw [if_neg (fun q => h9 ((z_eq g4).mpr q))] at h
    exact a_X16_pair_35 K hQ hX hK16 _ _ _ _ _ g1 g2 g3 g5 h hGσ hS _ _ _ hH (lv_sub (l' := [(0, .ref rm), (1, .int (i32 v1)), (2, .int (i32 v2)), (3, .int (i32 v3)), (5, .int (i32 v5))]) hl [0, 1, 2, 3, 5] rfl) hc
set_option maxRecDepth 20000 in
theorem a_X16_pair_16 {Q : Sg → Unit → Prop} {X : Sg → String → Prop} (K : MC R p s m args c cX16_pair 6 RX16 D cA tys A n0 s0 9 195 []) (hQ : HQV p l e R s m args below meth c cX16_pair D cA A n0 s0 QM dm ra jx rm Q) (hX : HX p l e R s m args below meth c 6 D cA A n0 s0 QM dm ra jx rm X) {K16 : Sg → Int → Int → Int → Int → Int → Prop} (hK16 : ∀ (σ : Sg) (v1 : Int) (v2 : Int) (v3 : Int) (v4 : Int) (v5 : Int) (g1 : rng v1) (g2 : rng v2) (g3 : rng v3) (g4 : rng v4) (g5 : rng v5), K16 σ v1 v2 v3 v4 v5 → RG σ → Shp dm ra jx rm σ → JJ p l e R s m args below meth c 6 D cA A n0 s0 QM σ 16 [(0, .ref rm), (1, .int (i32 v1)), (2, .int (i32 v2)), (3, .int (i32 v3)), (4, .int (i32 v4)), (5, .int (i32 v5))] []) : ∀ (σ : Sg) (v1 : Int) (v2 : Int) (v3 : Int) (v4 : Int) (v5 : Int) (g1 : rng v1) (g2 : rng v2) (g3 : rng v3) (g4 : rng v4) (g5 : rng v5), w_X16_pair_16 ra jx rm K16 Q X σ v1 v2 v3 v4 v5 → RG σ → Shp dm ra jx rm σ → JJ p l e R s m args below meth c 6 D cA A n0 s0 QM σ 16 [(0, .ref rm), (1, .int (i32 v1)), (2, .int (i32 v2)), (3, .int (i32 v3)), (4, .int (i32 v4)), (5, .int (i32 v5))] [] := by
  intro σ v1 v2 v3 v4 v5 g1 g2 g3 g4 g5 h hGσ hS H locs ls hH hl hc
  have B := K.1
  unfold w_X16_pair_16 at h
  refine lv_iload B.1 B.2.1 dX16_pair_16 (lv_at hl 5 rfl) ?_
  refine lv_aload_n B.1 B.2.1 dX16_pair_18 rfl (lv_at hl 0 rfl) ?_
  refine r_getp B hH hS 18 (by decide) wf_X16_118 rfl rfl dX16_pair_19 ?_
  obtain ⟨a95, ea95, ja95, h⟩ := h
  refine W.eq (g2 := F0 m 22 ls [.ref a95, .int (i32 v5)]) (by rw [ea95]; rfl) ?_
  refine n_arr B hH hS ja95 6 (kd := 100) (n := 16) (by decide) (by decide) (List.mem_of_getElem? (i := 6) rfl) rfl dX16_pair_22 ?_
  refine lv_iload_n B.1 B.2.1 dX16_pair_25 rfl (lv_at hl 3 rfl) ?_
  obtain ⟨q2, h⟩ := h
  refine x_iald B K.2.1 hH (hS.ja ja95 (k := 6) (kd := 100) (n := 16) (by decide)) (by decide) q2 dX16_pair_26 ?_
  refine lv_icmp_ge (tgt := 75) B.1 B.2.1 dX16_pair_27 (by decide) (fun h9 => ?_) (fun h9 => ?_)
  · rw [if_pos ((i32_le (hGσ _ _) g5).mp h9)] at h
    exact a_X16_pair_75 K hQ hX _ _ _ _ _ g1 g2 g3 g4 h hGσ hS _ _ _ hH (lv_sub (l' := [(0, .ref rm), (1, .int (i32 v1)), (2, .int (i32 v2)), (3, .int (i32 v3)), (4, .int (i32 v4))]) hl [0, 1, 2, 3, 4] rfl) hc
  · rw [if_neg (fun q => h9 ((i32_le (hGσ _ _) g5).mpr q))] at h
    exact a_X16_pair_30 K hQ hX hK16 _ _ _ _ _ _ g1 g2 g3 g4 g5 h hGσ hS _ _ _ hH (lv_sub (l' := [(0, .ref rm), (1, .int (i32 v1)), (2, .int (i32 v2)), (3, .int (i32 v3)), (4, .int (i32 v4)), (5, .int (i32 v5))]) hl [0, 1, 2, 3, 4, 5] rfl) hc
theorem al_X16_pair_16 {Q : Sg → Unit → Prop} {X : Sg → String → Prop} (K : MC R p s m args c cX16_pair 6 RX16 D cA tys A n0 s0 9 195 []) (hQ : HQV p l e R s m args below meth c cX16_pair D cA A n0 s0 QM dm ra jx rm Q) (hX : HX p l e R s m args below meth c 6 D cA A n0 s0 QM dm ra jx rm X) : ∀ (n : Nat), ∀ (σ : Sg) (v1 : Int) (v2 : Int) (v3 : Int) (v4 : Int) (v5 : Int) (g1 : rng v1) (g2 : rng v2) (g3 : rng v3) (g4 : rng v4) (g5 : rng v5), wl_X16_pair_16 ra jx rm Q X n σ v1 v2 v3 v4 v5 → RG σ → Shp dm ra jx rm σ → JJ p l e R s m args below meth c 6 D cA A n0 s0 QM σ 16 [(0, .ref rm), (1, .int (i32 v1)), (2, .int (i32 v2)), (3, .int (i32 v3)), (4, .int (i32 v4)), (5, .int (i32 v5))] [] := by
  intro n
  induction n with
  | zero => intro σ v1 v2 v3 v4 v5 g1 g2 g3 g4 g5 h; exact h.elim
  | succ n ih => exact fun σ v1 v2 v3 v4 v5 g1 g2 g3 g4 g5 h => a_X16_pair_16 K hQ hX ih σ v1 v2 v3 v4 v5 g1 g2 g3 g4 g5 h
set_option maxRecDepth 20000 in
theorem a_X16_pair_0 {Q : Sg → Unit → Prop} {X : Sg → String → Prop} (K : MC R p s m args c cX16_pair 6 RX16 D cA tys A n0 s0 9 195 []) (hQ : HQV p l e R s m args below meth c cX16_pair D cA A n0 s0 QM dm ra jx rm Q) (hX : HX p l e R s m args below meth c 6 D cA A n0 s0 QM dm ra jx rm X) : ∀ (σ : Sg) (v1 : Int) (g1 : rng v1), w_X16_pair_0 ra jx rm Q X σ v1 → RG σ → Shp dm ra jx rm σ → JJ p l e R s m args below meth c 6 D cA A n0 s0 QM σ 0 [(0, .ref rm), (1, .int (i32 v1))] [] := by
  intro σ v1 g1 h hGσ hS H locs ls hH hl hc
  have B := K.1
  unfold w_X16_pair_0 at h
  refine lv_aload_n B.1 B.2.1 dX16_pair_0 rfl (lv_at hl 0 rfl) ?_
  refine c_V B hH hl hc K.2.2.1 (C := RX16) (T := TX16) (N := 123) (ci := 16) (As := []) (ok_X16_input K.2.1 σ hGσ hS h) wc_X16_213 0 hd_X16_input ⟨Nat.le_trans (Nat.le_of_ble_eq_true rfl) K.2.2.2.1, Nat.le_trans (Nat.le_of_ble_eq_true rfl) K.2.2.2.2.1⟩ hS.1.1 hS.1.2 (by decide) rfl rfl (rest := []) rfl (Nat.le_of_ble_eq_true rfl) dX16_pair_1 (fun σ96 w hq => ?_) (fun σ9 E9 hx9 => hX σ9 E9 _ _ _ (tb_out K.2.2.2.2.2 rfl) hx9.1 hx9.2.1 hx9.2.2)
  obtain ⟨r97, rfl, gr97, h, hGσ96, hS⟩ := hq
  intro H locs ls hH hl hc
  refine W.eq (g2 := F0 m 4 ls [.int (i32 r97)]) (rfl) ?_
  try dsimp only at h
  refine lv_istore_n (lv' := [(2, .int (i32 r97)), (0, .ref rm), (1, .int (i32 v1))]) B.1 B.2.1 dX16_pair_4 rfl hl (by decide) rfl (fun ls hl => ?_)
  refine lv_aload_n B.1 B.2.1 dX16_pair_5 rfl (lv_at hl 1 rfl) ?_
  refine c_V B hH hl hc K.2.2.1 (C := RX16) (T := TX16) (N := 123) (ci := 16) (As := []) (ok_X16_seeInput K.2.1 σ96 hGσ96 hS h) wc_X16_175 0 hd_X16_seeInput ⟨Nat.le_trans (Nat.le_of_ble_eq_true rfl) K.2.2.2.1, Nat.le_trans (Nat.le_of_ble_eq_true rfl) K.2.2.2.2.1⟩ hS.1.1 hS.1.2 (by decide) rfl rfl (rest := []) rfl (Nat.le_of_ble_eq_true rfl) dX16_pair_6 (fun σ98 w hq => ?_) (fun σ9 E9 hx9 => hX σ9 E9 _ _ _ (tb_out K.2.2.2.2.2 rfl) hx9.1 hx9.2.1 hx9.2.2)
  obtain ⟨r99, rfl, gr99, h, hGσ98, hS⟩ := hq
  intro H locs ls hH hl hc
  refine W.eq (g2 := F0 m 9 ls [.int (i32 r99)]) (rfl) ?_
  try dsimp only at h
  refine lv_istore_n (lv' := [(3, .int (i32 r99)), (2, .int (i32 r97)), (0, .ref rm), (1, .int (i32 v1))]) B.1 B.2.1 dX16_pair_9 rfl hl (by decide) rfl (fun ls hl => ?_)
  refine lv_iconst (v := i32 1) B.1 B.2.1 dX16_pair_10 (by decide) ?_
  refine lv_istore (lv' := [(4, .int (i32 1)), (3, .int (i32 r99)), (2, .int (i32 r97)), (0, .ref rm), (1, .int (i32 v1))]) B.1 B.2.1 dX16_pair_11 hl (by decide) rfl (fun ls hl => ?_)
  refine lv_iconst (v := i32 0) B.1 B.2.1 dX16_pair_13 (by decide) ?_
  refine lv_istore (lv' := [(5, .int (i32 0)), (4, .int (i32 1)), (3, .int (i32 r99)), (2, .int (i32 r97)), (0, .ref rm), (1, .int (i32 v1))]) B.1 B.2.1 dX16_pair_14 hl (by decide) rfl (fun ls hl => ?_)
  obtain ⟨n9, h⟩ := h
  exact al_X16_pair_16 K hQ hX n9 _ _ _ _ _ _ g1 gr97 gr99 (by unfold rng; omega) (by unfold rng; omega) h hGσ98 hS _ _ _ hH (lv_sub (l' := [(0, .ref rm), (1, .int (i32 v1)), (2, .int (i32 r97)), (3, .int (i32 r99)), (4, .int (i32 1)), (5, .int (i32 0))]) hl [4, 5, 3, 2, 1, 0] rfl) hc
theorem ok_X16_pair (hT : Tys cA tys) {Q : Sg → Unit → Prop} {X : Sg → String → Prop} (σ : Sg) (v1 : Int) (g1 : rng v1) (hG : RG σ) (hS : Shp dm ra jx rm σ) (h : wp_X16_pair ra jx rm v1 σ Q X) : Ok l D cA tys A yX16_pair (.code yX16_pair cX16_pair 6 none) 9 195 [.ref rm, .int (i32 v1)] σ (QnV dm ra jx rm Q) (QxR dm ra jx rm X) := by
  unfold wp_X16_pair at h
  exact ok_V (plainFor_of_name (by decide)) (by exact Nat.le_of_ble_eq_true rfl) hT (fun p e R s m args below meth c K hQ hX H locs ls hH hl hc => a_X16_pair_0 K hQ hX σ v1 g1 h hG hS H locs ls hH (lv_sub (l' := [(0, .ref rm), (1, .int (i32 v1))]) hl [0, 1] rfl) hc)
theorem dX16_signed_0 : decode cX16_signed 0 = .ok (.aload_n 0, 1) := by decide +kernel
theorem dX16_signed_1 : decode cX16_signed 1 = .ok (.invokevirtual 76, 3) := by decide +kernel
theorem dX16_signed_4 : decode cX16_signed 4 = .ok (.aload_n 0, 1) := by decide +kernel
theorem dX16_signed_5 : decode cX16_signed 5 = .ok (.getfield 38, 3) := by decide +kernel
theorem dX16_signed_8 : decode cX16_signed 8 = .ok (.bipush 45, 2) := by decide +kernel
theorem dX16_signed_10 : decode cX16_signed 10 = .ok (.if_icmp .ne 7, 3) := by decide +kernel
theorem dX16_signed_13 : decode cX16_signed 13 = .ok (.iconst 1, 1) := by decide +kernel
theorem dX16_signed_14 : decode cX16_signed 14 = .ok (.goto 4, 3) := by decide +kernel
theorem dX16_signed_17 : decode cX16_signed 17 = .ok (.iconst 0, 1) := by decide +kernel
theorem dX16_signed_18 : decode cX16_signed 18 = .ok (.istore 4, 2) := by decide +kernel
theorem dX16_signed_20 : decode cX16_signed 20 = .ok (.iload 4, 2) := by decide +kernel
theorem dX16_signed_22 : decode cX16_signed 22 = .ok (.ifCond .eq 7, 3) := by decide +kernel
theorem dX16_signed_25 : decode cX16_signed 25 = .ok (.aload_n 0, 1) := by decide +kernel
theorem dX16_signed_26 : decode cX16_signed 26 = .ok (.invokevirtual 84, 3) := by decide +kernel
theorem dX16_signed_29 : decode cX16_signed 29 = .ok (.aload_n 0, 1) := by decide +kernel
theorem dX16_signed_30 : decode cX16_signed 30 = .ok (.invokevirtual 76, 3) := by decide +kernel
theorem dX16_signed_33 : decode cX16_signed 33 = .ok (.aload_n 0, 1) := by decide +kernel
theorem dX16_signed_34 : decode cX16_signed 34 = .ok (.getfield 38, 3) := by decide +kernel
theorem dX16_signed_37 : decode cX16_signed 37 = .ok (.iconst 2, 1) := by decide +kernel
theorem dX16_signed_38 : decode cX16_signed 38 = .ok (.if_icmp .eq 8, 3) := by decide +kernel
theorem dX16_signed_41 : decode cX16_signed 41 = .ok (.aload_n 0, 1) := by decide +kernel
theorem dX16_signed_42 : decode cX16_signed 42 = .ok (.invokevirtual 80, 3) := by decide +kernel
theorem dX16_signed_45 : decode cX16_signed 45 = .ok (.athrow, 1) := by decide +kernel
theorem dX16_signed_46 : decode cX16_signed 46 = .ok (.iload 4, 2) := by decide +kernel
theorem dX16_signed_48 : decode cX16_signed 48 = .ok (.ifCond .eq 11, 3) := by decide +kernel
theorem dX16_signed_51 : decode cX16_signed 51 = .ok (.aload_n 0, 1) := by decide +kernel
theorem dX16_signed_52 : decode cX16_signed 52 = .ok (.getfield 60, 3) := by decide +kernel
theorem dX16_signed_55 : decode cX16_signed 55 = .ok (.lneg, 1) := by decide +kernel
theorem dX16_signed_56 : decode cX16_signed 56 = .ok (.goto 7, 3) := by decide +kernel
theorem dX16_signed_59 : decode cX16_signed 59 = .ok (.aload_n 0, 1) := by decide +kernel
theorem dX16_signed_60 : decode cX16_signed 60 = .ok (.getfield 60, 3) := by decide +kernel
theorem dX16_signed_63 : decode cX16_signed 63 = .ok (.lstore 5, 2) := by decide +kernel
theorem dX16_signed_65 : decode cX16_signed 65 = .ok (.aload_n 0, 1) := by decide +kernel
theorem dX16_signed_66 : decode cX16_signed 66 = .ok (.getfield 60, 3) := by decide +kernel
theorem dX16_signed_69 : decode cX16_signed 69 = .ok (.ldc2_w 207, 3) := by decide +kernel
theorem dX16_signed_72 : decode cX16_signed 72 = .ok (.lcmp, 1) := by decide +kernel
theorem dX16_signed_73 : decode cX16_signed 73 = .ok (.ifCond .gt 14, 3) := by decide +kernel
theorem dX16_signed_76 : decode cX16_signed 76 = .ok (.iload_n 1, 1) := by decide +kernel
theorem dX16_signed_77 : decode cX16_signed 77 = .ok (.ifCond .eq 17, 3) := by decide +kernel
theorem dX16_signed_80 : decode cX16_signed 80 = .ok (.lload 5, 2) := by decide +kernel
theorem dX16_signed_82 : decode cX16_signed 82 = .ok (.lload_n 2, 1) := by decide +kernel
theorem dX16_signed_83 : decode cX16_signed 83 = .ok (.lcmp, 1) := by decide +kernel
theorem dX16_signed_84 : decode cX16_signed 84 = .ok (.ifCond .ge 10, 3) := by decide +kernel
theorem dX16_signed_87 : decode cX16_signed 87 = .ok (.aload_n 0, 1) := by decide +kernel
theorem dX16_signed_88 : decode cX16_signed 88 = .ok (.bipush 7, 2) := by decide +kernel
theorem dX16_signed_90 : decode cX16_signed 90 = .ok (.invokevirtual 65, 3) := by decide +kernel
theorem dX16_signed_93 : decode cX16_signed 93 = .ok (.athrow, 1) := by decide +kernel
theorem dX16_signed_94 : decode cX16_signed 94 = .ok (.aload_n 0, 1) := by decide +kernel
theorem dX16_signed_95 : decode cX16_signed 95 = .ok (.invokevirtual 84, 3) := by decide +kernel
theorem dX16_signed_98 : decode cX16_signed 98 = .ok (.lload 5, 2) := by decide +kernel
theorem dX16_signed_100 : decode cX16_signed 100 = .ok (.lreturn, 1) := by decide +kernel
set_option maxRecDepth 20000 in
theorem a_X16_signed_87 {Q : Sg → Int64 → Prop} {X : Sg → String → Prop} (K : MC R p s m args c cX16_signed 7 RX16 D cA tys A n0 s0 5 113 []) (hQ : HQJ p l e R s m args below meth c cX16_signed D cA A n0 s0 QM dm ra jx rm Q) (hX : HX p l e R s m args below meth c 7 D cA A n0 s0 QM dm ra jx rm X) : ∀ (σ : Sg), w_X16_signed_87 ra jx rm Q X σ → RG σ → Shp dm ra jx rm σ → JJ p l e R s m args below meth c 7 D cA A n0 s0 QM σ 87 [(0, .ref rm)] [] := by
  intro σ h hGσ hS H locs ls hH hl hc
  have B := K.1
  unfold w_X16_signed_87 at h
  refine lv_aload_n B.1 B.2.1 dX16_signed_87 rfl (lv_at hl 0 rfl) ?_
  refine lv_bipush (v := i32 7) B.1 B.2.1 dX16_signed_88 (by decide) ?_
  refine c_V B hH hl hc K.2.2.1 (C := RX16) (T := TX16) (N := 123) (ci := 16) (As := [.int (i32 7)]) (ok_X16_fail K.2.1 σ 7 (by unfold rng; omega) hGσ hS h) wc_X16_65 1 hd_X16_fail ⟨Nat.le_trans (Nat.le_of_ble_eq_true rfl) K.2.2.2.1, Nat.le_trans (Nat.le_of_ble_eq_true rfl) K.2.2.2.2.1⟩ hS.1.1 hS.1.2 (by decide) rfl rfl (rest := []) rfl (Nat.le_of_ble_eq_true rfl) dX16_signed_90 (fun σ17 w hq => ?_) (fun σ9 E9 hx9 => hX σ9 E9 _ _ _ (tb_out K.2.2.2.2.2 rfl) hx9.1 hx9.2.1 hx9.2.2)
  obtain ⟨r18, rfl, h, hGσ17, hS⟩ := hq
  intro H locs ls hH hl hc
  refine W.eq (g2 := F0 m 93 ls [va_rf r18]) (rfl) ?_
  try dsimp only at h
  obtain ⟨qt, h⟩ := h
  refine W.eq (g2 := F0 m 93 ls [.ref (ra 1)]) (by rw [qt]; rfl) ?_
  have hx9 := And.intro h (And.intro hGσ17 hS)
  refine h_athrow B hH hl hc (ci := 14) (hS.ob (k := 1) (ci := 14) (by decide)).1 (hS.ob (k := 1) (ci := 14) (by decide)).2 (by decide) rfl dX16_signed_93 ?_
  exact hX σ17 _ _ _ _ (tb_out K.2.2.2.2.2 rfl) hx9.1 hx9.2.1 hx9.2.2
set_option maxRecDepth 20000 in
theorem a_X16_signed_94 {Q : Sg → Int64 → Prop} {X : Sg → String → Prop} (K : MC R p s m args c cX16_signed 7 RX16 D cA tys A n0 s0 5 113 []) (hQ : HQJ p l e R s m args below meth c cX16_signed D cA A n0 s0 QM dm ra jx rm Q) (hX : HX p l e R s m args below meth c 7 D cA A n0 s0 QM dm ra jx rm X) : ∀ (σ : Sg) (v5 : Int64), w_X16_signed_94 ra jx rm Q X σ v5 → RG σ → Shp dm ra jx rm σ → JJ p l e R s m args below meth c 7 D cA A n0 s0 QM σ 94 [(0, .ref rm), (5, .long v5)] [] := by
  intro σ v5 h hGσ hS H locs ls hH hl hc
  have B := K.1
  unfold w_X16_signed_94 at h
  refine lv_aload_n B.1 B.2.1 dX16_signed_94 rfl (lv_at hl 0 rfl) ?_
  refine c_V B hH hl hc K.2.2.1 (C := RX16) (T := TX16) (N := 123) (ci := 16) (As := []) (ok_X16_take K.2.1 σ hGσ hS h) wc_X16_84 0 hd_X16_take ⟨Nat.le_trans (Nat.le_of_ble_eq_true rfl) K.2.2.2.1, Nat.le_trans (Nat.le_of_ble_eq_true rfl) K.2.2.2.2.1⟩ hS.1.1 hS.1.2 (by decide) rfl rfl (rest := []) rfl (Nat.le_of_ble_eq_true rfl) dX16_signed_95 (fun σ19 w hq => ?_) (fun σ9 E9 hx9 => hX σ9 E9 _ _ _ (tb_out K.2.2.2.2.2 rfl) hx9.1 hx9.2.1 hx9.2.2)
  obtain ⟨rfl, h, hGσ19, hS⟩ := hq
  intro H locs ls hH hl hc
  refine W.eq (g2 := F0 m 98 ls []) (rfl) ?_
  try dsimp only at h
  refine lv_lload B.1 B.2.1 dX16_signed_98 (lv_at hl 1 rfl) ?_
  exact hQ _ _ _ _ _ _ dX16_signed_100 hH hc h hGσ19 hS
set_option maxRecDepth 20000 in
theorem a_X16_signed_80 {Q : Sg → Int64 → Prop} {X : Sg → String → Prop} (K : MC R p s m args c cX16_signed 7 RX16 D cA tys A n0 s0 5 113 []) (hQ : HQJ p l e R s m args below meth c cX16_signed D cA A n0 s0 QM dm ra jx rm Q) (hX : HX p l e R s m args below meth c 7 D cA A n0 s0 QM dm ra jx rm X) : ∀ (σ : Sg) (v2 : Int64) (v5 : Int64), w_X16_signed_80 ra jx rm Q X σ v2 v5 → RG σ → Shp dm ra jx rm σ → JJ p l e R s m args below meth c 7 D cA A n0 s0 QM σ 80 [(0, .ref rm), (2, .long v2), (5, .long v5)] [] := by
  intro σ v2 v5 h hGσ hS H locs ls hH hl hc
  have B := K.1
  unfold w_X16_signed_80 at h
  refine lv_lload B.1 B.2.1 dX16_signed_80 (lv_at hl 2 rfl) ?_
  refine lv_lload_n B.1 B.2.1 dX16_signed_82 rfl (lv_at hl 1 rfl) ?_
  refine W.lcmp B.1 B.2.1 dX16_signed_83 ?_
  refine lv_if_ge (tgt := 94) B.1 B.2.1 dX16_signed_84 (by decide) (fun h9 => ?_) (fun h9 => ?_)
  · rw [if_pos ((lg_cmp_ge _ _).mp h9)] at h
    exact a_X16_signed_94 K hQ hX _ _ h hGσ hS _ _ _ hH (lv_sub (l' := [(0, .ref rm), (5, .long v5)]) hl [0, 2] rfl) hc
  · rw [if_neg (fun q => h9 ((lg_cmp_ge _ _).mpr q))] at h
    exact a_X16_signed_87 K hQ hX _ h hGσ hS _ _ _ hH (lv_sub (l' := [(0, .ref rm)]) hl [0] rfl) hc
set_option maxRecDepth 20000 in
theorem a_X16_signed_76 {Q : Sg → Int64 → Prop} {X : Sg → String → Prop} (K : MC R p s m args c cX16_signed 7 RX16 D cA tys A n0 s0 5 113 []) (hQ : HQJ p l e R s m args below meth c cX16_signed D cA A n0 s0 QM dm ra jx rm Q) (hX : HX p l e R s m args below meth c 7 D cA A n0 s0 QM dm ra jx rm X) : ∀ (σ : Sg) (v1 : Int) (v2 : Int64) (v5 : Int64) (g1 : rng v1), w_X16_signed_76 ra jx rm Q X σ v1 v2 v5 → RG σ → Shp dm ra jx rm σ → JJ p l e R s m args below meth c 7 D cA A n0 s0 QM σ 76 [(0, .ref rm), (1, .int (i32 v1)), (2, .long v2), (5, .long v5)] [] := by
  intro σ v1 v2 v5 g1 h hGσ hS H locs ls hH hl hc
  have B := K.1
  unfold w_X16_signed_76 at h
  refine lv_iload_n B.1 B.2.1 dX16_signed_76 rfl (lv_at hl 1 rfl) ?_
  refine lv_if_eq (tgt := 94) B.1 B.2.1 dX16_signed_77 (by decide) (fun h9 => ?_) (fun h9 => ?_)
  · rw [if_pos ((z_eq g1).mp h9)] at h
    exact a_X16_signed_94 K hQ hX _ _ h hGσ hS _ _ _ hH (lv_sub (l' := [(0, .ref rm), (5, .long v5)]) hl [0, 3] rfl) hc
  · rw [if_neg (fun q => h9 ((z_eq g1).mpr q))] at h
    exact a_X16_signed_80 K hQ hX _ _ _ h hGσ hS _ _ _ hH (lv_sub (l' := [(0, .ref rm), (2, .long v2), (5, .long v5)]) hl [0, 2, 3] rfl) hc
set_option maxRecDepth 20000 in
theorem a_X16_signed_63 {Q : Sg → Int64 → Prop} {X : Sg → String → Prop} (K : MC R p s m args c cX16_signed 7 RX16 D cA tys A n0 s0 5 113 []) (hQ : HQJ p l e R s m args below meth c cX16_signed D cA A n0 s0 QM dm ra jx rm Q) (hX : HX p l e R s m args below meth c 7 D cA A n0 s0 QM dm ra jx rm X) : ∀ (σ : Sg) (v1 : Int) (v2 : Int64) (u0 : Int64) (g1 : rng v1), w_X16_signed_63 ra jx rm Q X σ v1 v2 u0 → RG σ → Shp dm ra jx rm σ → JJ p l e R s m args below meth c 7 D cA A n0 s0 QM σ 63 [(0, .ref rm), (1, .int (i32 v1)), (2, .long v2)] [.long u0] := by
  intro σ v1 v2 u0 g1 h hGσ hS H locs ls hH hl hc
  have B := K.1
  unfold w_X16_signed_63 at h
  refine lv_lstore (lv' := [(5, .long u0), (0, .ref rm), (1, .int (i32 v1)), (2, .long v2)]) B.1 B.2.1 dX16_signed_63 hl (by decide) rfl (fun ls hl => ?_)
  refine lv_aload_n B.1 B.2.1 dX16_signed_65 rfl (lv_at hl 1 rfl) ?_
  refine r_getl B hH hS 13 (by decide) wf_X16_60 rfl rfl dX16_signed_66 ?_
  refine lv_ldc2 B.1 B.2.1 B.2.2.1 (B.2.2.2.1 _ (wk_X16_207)) dX16_signed_69 ?_
  refine W.lcmp B.1 B.2.1 dX16_signed_72 ?_
  refine lv_if_gt (tgt := 87) B.1 B.2.1 dX16_signed_73 (by decide) (fun h9 => ?_) (fun h9 => ?_)
  · rw [if_pos ((lg_cmp_gt _ _).mp h9)] at h
    exact a_X16_signed_87 K hQ hX _ h hGσ hS _ _ _ hH (lv_sub (l' := [(0, .ref rm)]) hl [1] rfl) hc
  · rw [if_neg (fun q => h9 ((lg_cmp_gt _ _).mpr q))] at h
    exact a_X16_signed_76 K hQ hX _ _ _ _ g1 h hGσ hS _ _ _ hH (lv_sub (l' := [(0, .ref rm), (1, .int (i32 v1)), (2, .long v2), (5, .long u0)]) hl [1, 2, 3, 0] rfl) hc
set_option maxRecDepth 20000 in
theorem a_X16_signed_59 {Q : Sg → Int64 → Prop} {X : Sg → String → Prop} (K : MC R p s m args c cX16_signed 7 RX16 D cA tys A n0 s0 5 113 []) (hQ : HQJ p l e R s m args below meth c cX16_signed D cA A n0 s0 QM dm ra jx rm Q) (hX : HX p l e R s m args below meth c 7 D cA A n0 s0 QM dm ra jx rm X) : ∀ (σ : Sg) (v1 : Int) (v2 : Int64) (g1 : rng v1), w_X16_signed_59 ra jx rm Q X σ v1 v2 → RG σ → Shp dm ra jx rm σ → JJ p l e R s m args below meth c 7 D cA A n0 s0 QM σ 59 [(0, .ref rm), (1, .int (i32 v1)), (2, .long v2)] [] := by
  intro σ v1 v2 g1 h hGσ hS H locs ls hH hl hc
  have B := K.1
  unfold w_X16_signed_59 at h
  refine lv_aload_n B.1 B.2.1 dX16_signed_59 rfl (lv_at hl 0 rfl) ?_
  refine r_getl B hH hS 13 (by decide) wf_X16_60 rfl rfl dX16_signed_60 ?_
  exact a_X16_signed_63 K hQ hX _ _ _ _ g1 h hGσ hS _ _ _ hH (lv_sub (l' := [(0, .ref rm), (1, .int (i32 v1)), (2, .long v2)]) hl [0, 1, 2] rfl) hc
set_option maxRecDepth 20000 in
theorem a_X16_signed_51 {Q : Sg → Int64 → Prop} {X : Sg → String → Prop} (K : MC R p s m args c cX16_signed 7 RX16 D cA tys A n0 s0 5 113 []) (hQ : HQJ p l e R s m args below meth c cX16_signed D cA A n0 s0 QM dm ra jx rm Q) (hX : HX p l e R s m args below meth c 7 D cA A n0 s0 QM dm ra jx rm X) : ∀ (σ : Sg) (v1 : Int) (v2 : Int64) (g1 : rng v1), w_X16_signed_51 ra jx rm Q X σ v1 v2 → RG σ → Shp dm ra jx rm σ → JJ p l e R s m args below meth c 7 D cA A n0 s0 QM σ 51 [(0, .ref rm), (1, .int (i32 v1)), (2, .long v2)] [] := by
  intro σ v1 v2 g1 h hGσ hS H locs ls hH hl hc
  have B := K.1
  unfold w_X16_signed_51 at h
  refine lv_aload_n B.1 B.2.1 dX16_signed_51 rfl (lv_at hl 0 rfl) ?_
  refine r_getl B hH hS 13 (by decide) wf_X16_60 rfl rfl dX16_signed_52 ?_
  refine lv_lneg B.1 B.2.1 dX16_signed_55 ?_
  refine lv_goto (tgt := 63) B.1 B.2.1 dX16_signed_56 (by decide) ?_
  exact a_X16_signed_63 K hQ hX _ _ _ _ g1 h hGσ hS _ _ _ hH (lv_sub (l' := [(0, .ref rm), (1, .int (i32 v1)), (2, .long v2)]) hl [0, 1, 2] rfl) hc
set_option maxRecDepth 20000 in
theorem a_X16_signed_46 {Q : Sg → Int64 → Prop} {X : Sg → String → Prop} (K : MC R p s m args c cX16_signed 7 RX16 D cA tys A n0 s0 5 113 []) (hQ : HQJ p l e R s m args below meth c cX16_signed D cA A n0 s0 QM dm ra jx rm Q) (hX : HX p l e R s m args below meth c 7 D cA A n0 s0 QM dm ra jx rm X) : ∀ (σ : Sg) (v1 : Int) (v2 : Int64) (v4 : Int) (g1 : rng v1) (g4 : rng v4), w_X16_signed_46 ra jx rm Q X σ v1 v2 v4 → RG σ → Shp dm ra jx rm σ → JJ p l e R s m args below meth c 7 D cA A n0 s0 QM σ 46 [(0, .ref rm), (1, .int (i32 v1)), (2, .long v2), (4, .int (i32 v4))] [] := by
  intro σ v1 v2 v4 g1 g4 h hGσ hS H locs ls hH hl hc
  have B := K.1
  unfold w_X16_signed_46 at h
  refine lv_iload B.1 B.2.1 dX16_signed_46 (lv_at hl 3 rfl) ?_
  refine lv_if_eq (tgt := 59) B.1 B.2.1 dX16_signed_48 (by decide) (fun h9 => ?_) (fun h9 => ?_)
  · rw [if_pos ((z_eq g4).mp h9)] at h
    exact a_X16_signed_59 K hQ hX _ _ _ g1 h hGσ hS _ _ _ hH (lv_sub (l' := [(0, .ref rm), (1, .int (i32 v1)), (2, .long v2)]) hl [0, 1, 2] rfl) hc
  · rw [if_neg (fun q => h9 ((z_eq g4).mpr q))] at h
    exact a_X16_signed_51 K hQ hX _ _ _ g1 h hGσ hS _ _ _ hH (lv_sub (l' := [(0, .ref rm), (1, .int (i32 v1)), (2, .long v2)]) hl [0, 1, 2] rfl) hc
set_option maxRecDepth 20000 in
theorem a_X16_signed_41 {Q : Sg → Int64 → Prop} {X : Sg → String → Prop} (K : MC R p s m args c cX16_signed 7 RX16 D cA tys A n0 s0 5 113 []) (hQ : HQJ p l e R s m args below meth c cX16_signed D cA A n0 s0 QM dm ra jx rm Q) (hX : HX p l e R s m args below meth c 7 D cA A n0 s0 QM dm ra jx rm X) : ∀ (σ : Sg), w_X16_signed_41 ra jx rm Q X σ → RG σ → Shp dm ra jx rm σ → JJ p l e R s m args below meth c 7 D cA A n0 s0 QM σ 41 [(0, .ref rm)] [] := by
  intro σ h hGσ hS H locs ls hH hl hc
  have B := K.1
  unfold w_X16_signed_41 at h
  refine lv_aload_n B.1 B.2.1 dX16_signed_41 rfl (lv_at hl 0 rfl) ?_
  refine c_V B hH hl hc K.2.2.1 (C := RX16) (T := TX16) (N := 123) (ci := 16) (As := []) (ok_X16_misplaced K.2.1 σ hGσ hS h) wc_X16_80 0 hd_X16_misplaced ⟨Nat.le_trans (Nat.le_of_ble_eq_true rfl) K.2.2.2.1, Nat.le_trans (Nat.le_of_ble_eq_true rfl) K.2.2.2.2.1⟩ hS.1.1 hS.1.2 (by decide) rfl rfl (rest := []) rfl (Nat.le_of_ble_eq_true rfl) dX16_signed_42 (fun σ20 w hq => ?_) (fun σ9 E9 hx9 => hX σ9 E9 _ _ _ (tb_out K.2.2.2.2.2 rfl) hx9.1 hx9.2.1 hx9.2.2)
  obtain ⟨r21, rfl, h, hGσ20, hS⟩ := hq
  intro H locs ls hH hl hc
  refine W.eq (g2 := F0 m 45 ls [va_rf r21]) (rfl) ?_
  try dsimp only at h
  obtain ⟨qt, h⟩ := h
  refine W.eq (g2 := F0 m 45 ls [.ref (ra 1)]) (by rw [qt]; rfl) ?_
  have hx9 := And.intro h (And.intro hGσ20 hS)
  refine h_athrow B hH hl hc (ci := 14) (hS.ob (k := 1) (ci := 14) (by decide)).1 (hS.ob (k := 1) (ci := 14) (by decide)).2 (by decide) rfl dX16_signed_45 ?_
  exact hX σ20 _ _ _ _ (tb_out K.2.2.2.2.2 rfl) hx9.1 hx9.2.1 hx9.2.2
set_option maxRecDepth 20000 in
theorem a_X16_signed_29 {Q : Sg → Int64 → Prop} {X : Sg → String → Prop} (K : MC R p s m args c cX16_signed 7 RX16 D cA tys A n0 s0 5 113 []) (hQ : HQJ p l e R s m args below meth c cX16_signed D cA A n0 s0 QM dm ra jx rm Q) (hX : HX p l e R s m args below meth c 7 D cA A n0 s0 QM dm ra jx rm X) : ∀ (σ : Sg) (v1 : Int) (v2 : Int64) (v4 : Int) (g1 : rng v1) (g4 : rng v4), w_X16_signed_29 ra jx rm Q X σ v1 v2 v4 → RG σ → Shp dm ra jx rm σ → JJ p l e R s m args below meth c 7 D cA A n0 s0 QM σ 29 [(0, .ref rm), (1, .int (i32 v1)), (2, .long v2), (4, .int (i32 v4))] [] := by
  intro σ v1 v2 v4 g1 g4 h hGσ hS H locs ls hH hl hc
  have B := K.1
  unfold w_X16_signed_29 at h
  refine lv_aload_n B.1 B.2.1 dX16_signed_29 rfl (lv_at hl 0 rfl) ?_
  refine c_V B hH hl hc K.2.2.1 (C := RX16) (T := TX16) (N := 123) (ci := 16) (As := []) (ok_X16_see K.2.1 σ hGσ hS h) wc_X16_76 0 hd_X16_see ⟨Nat.le_trans (Nat.le_of_ble_eq_true rfl) K.2.2.2.1, Nat.le_trans (Nat.le_of_ble_eq_true rfl) K.2.2.2.2.1⟩ hS.1.1 hS.1.2 (by decide) rfl rfl (rest := []) rfl (Nat.le_of_ble_eq_true rfl) dX16_signed_30 (fun σ22 w hq => ?_) (fun σ9 E9 hx9 => hX σ9 E9 _ _ _ (tb_out K.2.2.2.2.2 rfl) hx9.1 hx9.2.1 hx9.2.2)
  obtain ⟨rfl, h, hGσ22, hS⟩ := hq
  intro H locs ls hH hl hc
  refine W.eq (g2 := F0 m 33 ls []) (rfl) ?_
  try dsimp only at h
  refine lv_aload_n B.1 B.2.1 dX16_signed_33 rfl (lv_at hl 0 rfl) ?_
  refine r_geti B hH hS 9 (by decide) wf_X16_38 rfl rfl dX16_signed_34 ?_
  refine lv_iconst (v := i32 2) B.1 B.2.1 dX16_signed_37 (by decide) ?_
  refine lv_icmp_eq (tgt := 46) B.1 B.2.1 dX16_signed_38 (by decide) (fun h9 => ?_) (fun h9 => ?_)
  · rw [if_pos ((i32_eq (hGσ22 _ _) (by unfold rng; omega)).mp h9)] at h
    exact a_X16_signed_46 K hQ hX _ _ _ _ g1 g4 h hGσ22 hS _ _ _ hH (lv_sub (l' := [(0, .ref rm), (1, .int (i32 v1)), (2, .long v2), (4, .int (i32 v4))]) hl [0, 1, 2, 3] rfl) hc
  · rw [if_neg (fun q => h9 ((i32_eq (hGσ22 _ _) (by unfold rng; omega)).mpr q))] at h
    exact a_X16_signed_41 K hQ hX _ h hGσ22 hS _ _ _ hH (lv_sub (l' := [(0, .ref rm)]) hl [0] rfl) hc
set_option maxRecDepth 20000 in
theorem a_X16_signed_25 {Q : Sg → Int64 → Prop} {X : Sg → String → Prop} (K : MC R p s m args c cX16_signed 7 RX16 D cA tys A n0 s0 5 113 []) (hQ : HQJ p l e R s m args below meth c cX16_signed D cA A n0 s0 QM dm ra jx rm Q) (hX : HX p l e R s m args below meth c 7 D cA A n0 s0 QM dm ra jx rm X) : ∀ (σ : Sg) (v1 : Int) (v2 : Int64) (v4 : Int) (g1 : rng v1) (g4 : rng v4), w_X16_signed_25 ra jx rm Q X σ v1 v2 v4 → RG σ → Shp dm ra jx rm σ → JJ p l e R s m args below meth c 7 D cA A n0 s0 QM σ 25 [(0, .ref rm), (1, .int (i32 v1)), (2, .long v2), (4, .int (i32 v4))] [] := by
  intro σ v1 v2 v4 g1 g4 h hGσ hS H locs ls hH hl hc
  have B := K.1
  unfold w_X16_signed_25 at h
  refine lv_aload_n B.1 B.2.1 dX16_signed_25 rfl (lv_at hl 0 rfl) ?_
  refine c_V B hH hl hc K.2.2.1 (C := RX16) (T := TX16) (N := 123) (ci := 16) (As := []) (ok_X16_take K.2.1 σ hGσ hS h) wc_X16_84 0 hd_X16_take ⟨Nat.le_trans (Nat.le_of_ble_eq_true rfl) K.2.2.2.1, Nat.le_trans (Nat.le_of_ble_eq_true rfl) K.2.2.2.2.1⟩ hS.1.1 hS.1.2 (by decide) rfl rfl (rest := []) rfl (Nat.le_of_ble_eq_true rfl) dX16_signed_26 (fun σ23 w hq => ?_) (fun σ9 E9 hx9 => hX σ9 E9 _ _ _ (tb_out K.2.2.2.2.2 rfl) hx9.1 hx9.2.1 hx9.2.2)
  obtain ⟨rfl, h, hGσ23, hS⟩ := hq
  intro H locs ls hH hl hc
  refine W.eq (g2 := F0 m 29 ls []) (rfl) ?_
  try dsimp only at h
  exact a_X16_signed_29 K hQ hX _ _ _ _ g1 g4 h hGσ23 hS _ _ _ hH (lv_sub (l' := [(0, .ref rm), (1, .int (i32 v1)), (2, .long v2), (4, .int (i32 v4))]) hl [0, 1, 2, 3] rfl) hc
set_option maxRecDepth 20000 in
theorem a_X16_signed_18 {Q : Sg → Int64 → Prop} {X : Sg → String → Prop} (K : MC R p s m args c cX16_signed 7 RX16 D cA tys A n0 s0 5 113 []) (hQ : HQJ p l e R s m args below meth c cX16_signed D cA A n0 s0 QM dm ra jx rm Q) (hX : HX p l e R s m args below meth c 7 D cA A n0 s0 QM dm ra jx rm X) : ∀ (σ : Sg) (v1 : Int) (v2 : Int64) (u0 : Int) (g1 : rng v1) (gu0 : rng u0), w_X16_signed_18 ra jx rm Q X σ v1 v2 u0 → RG σ → Shp dm ra jx rm σ → JJ p l e R s m args below meth c 7 D cA A n0 s0 QM σ 18 [(0, .ref rm), (1, .int (i32 v1)), (2, .long v2)] [.int (i32 u0)] := by
  intro σ v1 v2 u0 g1 gu0 h hGσ hS H locs ls hH hl hc
  have B := K.1
  unfold w_X16_signed_18 at h
  refine lv_istore (lv' := [(4, .int (i32 u0)), (0, .ref rm), (1, .int (i32 v1)), (2, .long v2)]) B.1 B.2.1 dX16_signed_18 hl (by decide) rfl (fun ls hl => ?_)
  refine lv_iload B.1 B.2.1 dX16_signed_20 (lv_at hl 0 rfl) ?_
  refine lv_if_eq (tgt := 29) B.1 B.2.1 dX16_signed_22 (by decide) (fun h9 => ?_) (fun h9 => ?_)
  · rw [if_pos ((z_eq gu0).mp h9)] at h
    exact a_X16_signed_29 K hQ hX _ _ _ _ g1 gu0 h hGσ hS _ _ _ hH (lv_sub (l' := [(0, .ref rm), (1, .int (i32 v1)), (2, .long v2), (4, .int (i32 u0))]) hl [1, 2, 3, 0] rfl) hc
  · rw [if_neg (fun q => h9 ((z_eq gu0).mpr q))] at h
    exact a_X16_signed_25 K hQ hX _ _ _ _ g1 gu0 h hGσ hS _ _ _ hH (lv_sub (l' := [(0, .ref rm), (1, .int (i32 v1)), (2, .long v2), (4, .int (i32 u0))]) hl [1, 2, 3, 0] rfl) hc
set_option maxRecDepth 20000 in
theorem a_X16_signed_17 {Q : Sg → Int64 → Prop} {X : Sg → String → Prop} (K : MC R p s m args c cX16_signed 7 RX16 D cA tys A n0 s0 5 113 []) (hQ : HQJ p l e R s m args below meth c cX16_signed D cA A n0 s0 QM dm ra jx rm Q) (hX : HX p l e R s m args below meth c 7 D cA A n0 s0 QM dm ra jx rm X) : ∀ (σ : Sg) (v1 : Int) (v2 : Int64) (g1 : rng v1), w_X16_signed_17 ra jx rm Q X σ v1 v2 → RG σ → Shp dm ra jx rm σ → JJ p l e R s m args below meth c 7 D cA A n0 s0 QM σ 17 [(0, .ref rm), (1, .int (i32 v1)), (2, .long v2)] [] := by
  intro σ v1 v2 g1 h hGσ hS H locs ls hH hl hc
  have B := K.1
  unfold w_X16_signed_17 at h
  refine lv_iconst (v := i32 0) B.1 B.2.1 dX16_signed_17 (by decide) ?_
  exact a_X16_signed_18 K hQ hX _ _ _ _ g1 (by unfold rng; omega) h hGσ hS _ _ _ hH (lv_sub (l' := [(0, .ref rm), (1, .int (i32 v1)), (2, .long v2)]) hl [0, 1, 2] rfl) hc
set_option maxRecDepth 20000 in
theorem a_X16_signed_13 {Q : Sg → Int64 → Prop} {X : Sg → String → Prop} (K : MC R p s m args c cX16_signed 7 RX16 D cA tys A n0 s0 5 113 []) (hQ : HQJ p l e R s m args below meth c cX16_signed D cA A n0 s0 QM dm ra jx rm Q) (hX : HX p l e R s m args below meth c 7 D cA A n0 s0 QM dm ra jx rm X) : ∀ (σ : Sg) (v1 : Int) (v2 : Int64) (g1 : rng v1), w_X16_signed_13 ra jx rm Q X σ v1 v2 → RG σ → Shp dm ra jx rm σ → JJ p l e R s m args below meth c 7 D cA A n0 s0 QM σ 13 [(0, .ref rm), (1, .int (i32 v1)), (2, .long v2)] [] := by
  intro σ v1 v2 g1 h hGσ hS H locs ls hH hl hc
  have B := K.1
  unfold w_X16_signed_13 at h
  refine lv_iconst (v := i32 1) B.1 B.2.1 dX16_signed_13 (by decide) ?_
  refine lv_goto (tgt := 18) B.1 B.2.1 dX16_signed_14 (by decide) ?_
  exact a_X16_signed_18 K hQ hX _ _ _ _ g1 (by unfold rng; omega) h hGσ hS _ _ _ hH (lv_sub (l' := [(0, .ref rm), (1, .int (i32 v1)), (2, .long v2)]) hl [0, 1, 2] rfl) hc
set_option maxRecDepth 20000 in
theorem a_X16_signed_0 {Q : Sg → Int64 → Prop} {X : Sg → String → Prop} (K : MC R p s m args c cX16_signed 7 RX16 D cA tys A n0 s0 5 113 []) (hQ : HQJ p l e R s m args below meth c cX16_signed D cA A n0 s0 QM dm ra jx rm Q) (hX : HX p l e R s m args below meth c 7 D cA A n0 s0 QM dm ra jx rm X) : ∀ (σ : Sg) (v1 : Int) (v2 : Int64) (g1 : rng v1), w_X16_signed_0 ra jx rm Q X σ v1 v2 → RG σ → Shp dm ra jx rm σ → JJ p l e R s m args below meth c 7 D cA A n0 s0 QM σ 0 [(0, .ref rm), (1, .int (i32 v1)), (2, .long v2)] [] := by
  intro σ v1 v2 g1 h hGσ hS H locs ls hH hl hc
  have B := K.1
  unfold w_X16_signed_0 at h
  refine lv_aload_n B.1 B.2.1 dX16_signed_0 rfl (lv_at hl 0 rfl) ?_
  refine c_V B hH hl hc K.2.2.1 (C := RX16) (T := TX16) (N := 123) (ci := 16) (As := []) (ok_X16_see K.2.1 σ hGσ hS h) wc_X16_76 0 hd_X16_see ⟨Nat.le_trans (Nat.le_of_ble_eq_true rfl) K.2.2.2.1, Nat.le_trans (Nat.le_of_ble_eq_true rfl) K.2.2.2.2.1⟩ hS.1.1 hS.1.2 (by decide) rfl rfl (rest := []) rfl (Nat.le_of_ble_eq_true rfl) dX16_signed_1 (fun σ24 w hq => ?_) (fun σ9 E9 hx9 => hX σ9 E9 _ _ _ (tb_out K.2.2.2.2.2 rfl) hx9.1 hx9.2.1 hx9.2.2)
  obtain ⟨rfl, h, hGσ24, hS⟩ := hq
  intro H locs ls hH hl hc
  refine W.eq (g2 := F0 m 4 ls []) (rfl) ?_
  try dsimp only at h
  refine lv_aload_n B.1 B.2.1 dX16_signed_4 rfl (lv_at hl 0 rfl) ?_
  refine r_geti B hH hS 9 (by decide) wf_X16_38 rfl rfl dX16_signed_5 ?_
  refine lv_bipush (v := i32 45) B.1 B.2.1 dX16_signed_8 (by decide) ?_
  refine lv_icmp_ne (tgt := 17) B.1 B.2.1 dX16_signed_10 (by decide) (fun h9 => ?_) (fun h9 => ?_)
  · rw [if_pos (fun q => h9 ((i32_eq (hGσ24 _ _) (by unfold rng; omega)).mpr q))] at h
    exact a_X16_signed_17 K hQ hX _ _ _ g1 h hGσ24 hS _ _ _ hH (lv_sub (l' := [(0, .ref rm), (1, .int (i32 v1)), (2, .long v2)]) hl [0, 1, 2] rfl) hc
  · rw [if_neg (fun q => q ((i32_eq (hGσ24 _ _) (by unfold rng; omega)).mp h9))] at h
    exact a_X16_signed_13 K hQ hX _ _ _ g1 h hGσ24 hS _ _ _ hH (lv_sub (l' := [(0, .ref rm), (1, .int (i32 v1)), (2, .long v2)]) hl [0, 1, 2] rfl) hc
theorem ok_X16_signed (hT : Tys cA tys) {Q : Sg → Int64 → Prop} {X : Sg → String → Prop} (σ : Sg) (v1 : Int) (v2 : Int64) (g1 : rng v1) (hG : RG σ) (hS : Shp dm ra jx rm σ) (h : wp_X16_signed ra jx rm v1 v2 σ Q X) : Ok l D cA tys A yX16_signed (.code yX16_signed cX16_signed 7 (some .long)) 5 113 [.ref rm, .int (i32 v1), .long v2] σ (QnJ dm ra jx rm Q) (QxR dm ra jx rm X) := by
  unfold wp_X16_signed at h
  exact ok_J (plainFor_of_name (by decide)) (by exact Nat.le_of_ble_eq_true rfl) hT (fun p e R s m args below meth c K hQ hX H locs ls hH hl hc => a_X16_signed_0 K hQ hX σ v1 v2 g1 h hG hS H locs ls hH (lv_sub (l' := [(0, .ref rm), (1, .int (i32 v1)), (2, .long v2)]) hl [0, 1, 2] rfl) hc)
theorem dX16_source_0 : decode cX16_source 0 = .ok (.aload_n 0, 1) := by decide +kernel
theorem dX16_source_1 : decode cX16_source 1 = .ok (.invokevirtual 76, 3) := by decide +kernel
theorem dX16_source_4 : decode cX16_source 4 = .ok (.aload_n 0, 1) := by decide +kernel
theorem dX16_source_5 : decode cX16_source 5 = .ok (.getfield 38, 3) := by decide +kernel
theorem dX16_source_8 : decode cX16_source 8 = .ok (.iconst 2, 1) := by decide +kernel
theorem dX16_source_9 : decode cX16_source 9 = .ok (.if_icmp .eq 8, 3) := by decide +kernel
theorem dX16_source_12 : decode cX16_source 12 = .ok (.aload_n 0, 1) := by decide +kernel
theorem dX16_source_13 : decode cX16_source 13 = .ok (.invokevirtual 80, 3) := by decide +kernel
theorem dX16_source_16 : decode cX16_source 16 = .ok (.athrow, 1) := by decide +kernel
theorem dX16_source_17 : decode cX16_source 17 = .ok (.aload_n 0, 1) := by decide +kernel
theorem dX16_source_18 : decode cX16_source 18 = .ok (.getfield 60, 3) := by decide +kernel
theorem dX16_source_21 : decode cX16_source 21 = .ok (.lconst 0, 1) := by decide +kernel
theorem dX16_source_22 : decode cX16_source 22 = .ok (.ldc2_w 186, 3) := by decide +kernel
theorem dX16_source_25 : decode cX16_source 25 = .ok (.invokestatic 45, 3) := by decide +kernel
theorem dX16_source_28 : decode cX16_source 28 = .ok (.ifCond .eq 20, 3) := by decide +kernel
theorem dX16_source_31 : decode cX16_source 31 = .ok (.aload_n 0, 1) := by decide +kernel
theorem dX16_source_32 : decode cX16_source 32 = .ok (.getfield 118, 3) := by decide +kernel
theorem dX16_source_35 : decode cX16_source 35 = .ok (.getfield 188, 3) := by decide +kernel
theorem dX16_source_38 : decode cX16_source 38 = .ok (.aload_n 0, 1) := by decide +kernel
theorem dX16_source_39 : decode cX16_source 39 = .ok (.getfield 60, 3) := by decide +kernel
theorem dX16_source_42 : decode cX16_source 42 = .ok (.l2i, 1) := by decide +kernel
theorem dX16_source_43 : decode cX16_source 43 = .ok (.iaload, 1) := by decide +kernel
theorem dX16_source_44 : decode cX16_source 44 = .ok (.iconst (-1), 1) := by decide +kernel
theorem dX16_source_45 : decode cX16_source 45 = .ok (.if_icmp .eq 10, 3) := by decide +kernel
theorem dX16_source_48 : decode cX16_source 48 = .ok (.aload_n 0, 1) := by decide +kernel
theorem dX16_source_49 : decode cX16_source 49 = .ok (.bipush 7, 2) := by decide +kernel
theorem dX16_source_51 : decode cX16_source 51 = .ok (.invokevirtual 65, 3) := by decide +kernel
theorem dX16_source_54 : decode cX16_source 54 = .ok (.athrow, 1) := by decide +kernel
theorem dX16_source_55 : decode cX16_source 55 = .ok (.aload_n 0, 1) := by decide +kernel
theorem dX16_source_56 : decode cX16_source 56 = .ok (.getfield 118, 3) := by decide +kernel
theorem dX16_source_59 : decode cX16_source 59 = .ok (.getfield 191, 3) := by decide +kernel
theorem dX16_source_62 : decode cX16_source 62 = .ok (.iload_n 1, 1) := by decide +kernel
theorem dX16_source_63 : decode cX16_source 63 = .ok (.aload_n 0, 1) := by decide +kernel
theorem dX16_source_64 : decode cX16_source 64 = .ok (.getfield 60, 3) := by decide +kernel
theorem dX16_source_67 : decode cX16_source 67 = .ok (.lastore, 1) := by decide +kernel
theorem dX16_source_68 : decode cX16_source 68 = .ok (.aload_n 0, 1) := by decide +kernel
theorem dX16_source_69 : decode cX16_source 69 = .ok (.getfield 118, 3) := by decide +kernel
theorem dX16_source_72 : decode cX16_source 72 = .ok (.getfield 188, 3) := by decide +kernel
theorem dX16_source_75 : decode cX16_source 75 = .ok (.aload_n 0, 1) := by decide +kernel
theorem dX16_source_76 : decode cX16_source 76 = .ok (.getfield 60, 3) := by decide +kernel
theorem dX16_source_79 : decode cX16_source 79 = .ok (.l2i, 1) := by decide +kernel
theorem dX16_source_80 : decode cX16_source 80 = .ok (.iload_n 1, 1) := by decide +kernel
theorem dX16_source_81 : decode cX16_source 81 = .ok (.iastore, 1) := by decide +kernel
theorem dX16_source_82 : decode cX16_source 82 = .ok (.aload_n 0, 1) := by decide +kernel
theorem dX16_source_83 : decode cX16_source 83 = .ok (.invokevirtual 84, 3) := by decide +kernel
theorem dX16_source_86 : decode cX16_source 86 = .ok (.aload_n 0, 1) := by decide +kernel
theorem dX16_source_87 : decode cX16_source 87 = .ok (.bipush 40, 2) := by decide +kernel
theorem dX16_source_89 : decode cX16_source 89 = .ok (.invokevirtual 159, 3) := by decide +kernel
theorem dX16_source_92 : decode cX16_source 92 = .ok (.aload_n 0, 1) := by decide +kernel
theorem dX16_source_93 : decode cX16_source 93 = .ok (.iload_n 1, 1) := by decide +kernel
theorem dX16_source_94 : decode cX16_source 94 = .ok (.iconst 4, 1) := by decide +kernel
theorem dX16_source_95 : decode cX16_source 95 = .ok (.invokevirtual 194, 3) := by decide +kernel
theorem dX16_source_98 : decode cX16_source 98 = .ok (.aload_n 0, 1) := by decide +kernel
theorem dX16_source_99 : decode cX16_source 99 = .ok (.invokevirtual 76, 3) := by decide +kernel
theorem dX16_source_102 : decode cX16_source 102 = .ok (.aload_n 0, 1) := by decide +kernel
theorem dX16_source_103 : decode cX16_source 103 = .ok (.getfield 38, 3) := by decide +kernel
theorem dX16_source_106 : decode cX16_source 106 = .ok (.bipush 41, 2) := by decide +kernel
theorem dX16_source_108 : decode cX16_source 108 = .ok (.if_icmp .eq 16, 3) := by decide +kernel
theorem dX16_source_111 : decode cX16_source 111 = .ok (.aload_n 0, 1) := by decide +kernel
theorem dX16_source_112 : decode cX16_source 112 = .ok (.iload_n 1, 1) := by decide +kernel
theorem dX16_source_113 : decode cX16_source 113 = .ok (.iconst 4, 1) := by decide +kernel
theorem dX16_source_114 : decode cX16_source 114 = .ok (.invokevirtual 194, 3) := by decide +kernel
theorem dX16_source_117 : decode cX16_source 117 = .ok (.aload_n 0, 1) := by decide +kernel
theorem dX16_source_118 : decode cX16_source 118 = .ok (.invokevirtual 76, 3) := by decide +kernel
theorem dX16_source_121 : decode cX16_source 121 = .ok (.goto (-19), 3) := by decide +kernel
theorem dX16_source_124 : decode cX16_source 124 = .ok (.aload_n 0, 1) := by decide +kernel
theorem dX16_source_125 : decode cX16_source 125 = .ok (.invokevirtual 84, 3) := by decide +kernel
theorem dX16_source_128 : decode cX16_source 128 = .ok (.aload_n 0, 1) := by decide +kernel
theorem dX16_source_129 : decode cX16_source 129 = .ok (.ldc 198, 2) := by decide +kernel
theorem dX16_source_131 : decode cX16_source 131 = .ok (.invokevirtual 200, 3) := by decide +kernel
theorem dX16_source_134 : decode cX16_source 134 = .ok (.aload_n 0, 1) := by decide +kernel
theorem dX16_source_135 : decode cX16_source 135 = .ok (.getfield 118, 3) := by decide +kernel
theorem dX16_source_138 : decode cX16_source 138 = .ok (.getfield 204, 3) := by decide +kernel
theorem dX16_source_141 : decode cX16_source 141 = .ok (.iload_n 1, 1) := by decide +kernel
theorem dX16_source_142 : decode cX16_source 142 = .ok (.aload_n 0, 1) := by decide +kernel
theorem dX16_source_143 : decode cX16_source 143 = .ok (.lconst 0, 1) := by decide +kernel
theorem dX16_source_144 : decode cX16_source 144 = .ok (.ldc2_w 207, 3) := by decide +kernel
theorem dX16_source_147 : decode cX16_source 147 = .ok (.invokevirtual 209, 3) := by decide +kernel
theorem dX16_source_150 : decode cX16_source 150 = .ok (.lastore, 1) := by decide +kernel
theorem dX16_source_151 : decode cX16_source 151 = .ok (.return_, 1) := by decide +kernel
set_option maxRecDepth 20000 in
theorem a_X16_source_48 {Q : Sg → Unit → Prop} {X : Sg → String → Prop} (K : MC R p s m args c cX16_source 2 RX16 D cA tys A n0 s0 8 177 []) (hQ : HQV p l e R s m args below meth c cX16_source D cA A n0 s0 QM dm ra jx rm Q) (hX : HX p l e R s m args below meth c 2 D cA A n0 s0 QM dm ra jx rm X) : ∀ (σ : Sg), w_X16_source_48 ra jx rm Q X σ → RG σ → Shp dm ra jx rm σ → JJ p l e R s m args below meth c 2 D cA A n0 s0 QM σ 48 [(0, .ref rm)] [] := by
  intro σ h hGσ hS H locs ls hH hl hc
  have B := K.1
  unfold w_X16_source_48 at h
  refine lv_aload_n B.1 B.2.1 dX16_source_48 rfl (lv_at hl 0 rfl) ?_
  refine lv_bipush (v := i32 7) B.1 B.2.1 dX16_source_49 (by decide) ?_
  refine c_V B hH hl hc K.2.2.1 (C := RX16) (T := TX16) (N := 123) (ci := 16) (As := [.int (i32 7)]) (ok_X16_fail K.2.1 σ 7 (by unfold rng; omega) hGσ hS h) wc_X16_65 1 hd_X16_fail ⟨Nat.le_trans (Nat.le_of_ble_eq_true rfl) K.2.2.2.1, Nat.le_trans (Nat.le_of_ble_eq_true rfl) K.2.2.2.2.1⟩ hS.1.1 hS.1.2 (by decide) rfl rfl (rest := []) rfl (Nat.le_of_ble_eq_true rfl) dX16_source_51 (fun σ49 w hq => ?_) (fun σ9 E9 hx9 => hX σ9 E9 _ _ _ (tb_out K.2.2.2.2.2 rfl) hx9.1 hx9.2.1 hx9.2.2)
  obtain ⟨r50, rfl, h, hGσ49, hS⟩ := hq
  intro H locs ls hH hl hc
  refine W.eq (g2 := F0 m 54 ls [va_rf r50]) (rfl) ?_
  try dsimp only at h
  obtain ⟨qt, h⟩ := h
  refine W.eq (g2 := F0 m 54 ls [.ref (ra 1)]) (by rw [qt]; rfl) ?_
  have hx9 := And.intro h (And.intro hGσ49 hS)
  refine h_athrow B hH hl hc (ci := 14) (hS.ob (k := 1) (ci := 14) (by decide)).1 (hS.ob (k := 1) (ci := 14) (by decide)).2 (by decide) rfl dX16_source_54 ?_
  exact hX σ49 _ _ _ _ (tb_out K.2.2.2.2.2 rfl) hx9.1 hx9.2.1 hx9.2.2
set_option maxRecDepth 20000 in
theorem a_X16_source_124 {Q : Sg → Unit → Prop} {X : Sg → String → Prop} (K : MC R p s m args c cX16_source 2 RX16 D cA tys A n0 s0 8 177 []) (hQ : HQV p l e R s m args below meth c cX16_source D cA A n0 s0 QM dm ra jx rm Q) (hX : HX p l e R s m args below meth c 2 D cA A n0 s0 QM dm ra jx rm X) : ∀ (σ : Sg) (v1 : Int) (g1 : rng v1), w_X16_source_124 ra jx rm Q X σ v1 → RG σ → Shp dm ra jx rm σ → JJ p l e R s m args below meth c 2 D cA A n0 s0 QM σ 124 [(0, .ref rm), (1, .int (i32 v1))] [] := by
  intro σ v1 g1 h hGσ hS H locs ls hH hl hc
  have B := K.1
  unfold w_X16_source_124 at h
  refine lv_aload_n B.1 B.2.1 dX16_source_124 rfl (lv_at hl 0 rfl) ?_
  refine c_V B hH hl hc K.2.2.1 (C := RX16) (T := TX16) (N := 123) (ci := 16) (As := []) (ok_X16_take K.2.1 σ hGσ hS h) wc_X16_84 0 hd_X16_take ⟨Nat.le_trans (Nat.le_of_ble_eq_true rfl) K.2.2.2.1, Nat.le_trans (Nat.le_of_ble_eq_true rfl) K.2.2.2.2.1⟩ hS.1.1 hS.1.2 (by decide) rfl rfl (rest := []) rfl (Nat.le_of_ble_eq_true rfl) dX16_source_125 (fun σ51 w hq => ?_) (fun σ9 E9 hx9 => hX σ9 E9 _ _ _ (tb_out K.2.2.2.2.2 rfl) hx9.1 hx9.2.1 hx9.2.2)
  obtain ⟨rfl, h, hGσ51, hS⟩ := hq
  intro H locs ls hH hl hc
  refine W.eq (g2 := F0 m 128 ls []) (rfl) ?_
  try dsimp only at h
  refine lv_aload_n B.1 B.2.1 dX16_source_128 rfl (lv_at hl 0 rfl) ?_
  refine xs_ldc B.1 B.2.1 B.2.2.1 (B.2.2.2.2.2.2.2.2.2.2.1 _ (List.mem_of_getElem? (l := stL) (i := 2) rfl)).1 dX16_source_129 ?_
  refine c_V B hH hl hc K.2.2.1 (C := RX16) (T := TX16) (N := 123) (ci := 16) (As := [.ref (cA (1000 + 198))]) (ok_X16_keyword K.2.1 σ51 198 st_198 hGσ51 hS h) wc_X16_200 1 hd_X16_keyword ⟨Nat.le_trans (Nat.le_of_ble_eq_true rfl) K.2.2.2.1, Nat.le_trans (Nat.le_of_ble_eq_true rfl) K.2.2.2.2.1⟩ hS.1.1 hS.1.2 (by decide) rfl rfl (rest := []) rfl (Nat.le_of_ble_eq_true rfl) dX16_source_131 (fun σ52 w hq => ?_) (fun σ9 E9 hx9 => hX σ9 E9 _ _ _ (tb_out K.2.2.2.2.2 rfl) hx9.1 hx9.2.1 hx9.2.2)
  obtain ⟨rfl, h, hGσ52, hS⟩ := hq
  intro H locs ls hH hl hc
  refine W.eq (g2 := F0 m 134 ls []) (rfl) ?_
  try dsimp only at h
  refine lv_aload_n B.1 B.2.1 dX16_source_134 rfl (lv_at hl 0 rfl) ?_
  refine r_getp B hH hS 18 (by decide) wf_X16_118 rfl rfl dX16_source_135 ?_
  obtain ⟨a53, ea53, ja53, h⟩ := h
  refine W.eq (g2 := F0 m 138 ls [.ref a53]) (by rw [ea53]; rfl) ?_
  refine n_arr B hH hS ja53 9 (kd := 101) (n := 16) (by decide) (by decide) (List.mem_of_getElem? (i := 9) rfl) rfl dX16_source_138 ?_
  refine lv_iload_n B.1 B.2.1 dX16_source_141 rfl (lv_at hl 1 rfl) ?_
  refine lv_aload_n B.1 B.2.1 dX16_source_142 rfl (lv_at hl 0 rfl) ?_
  refine lv_lconst (v := 0) B.1 B.2.1 dX16_source_143 (by decide) ?_
  refine lv_ldc2 B.1 B.2.1 B.2.2.1 (B.2.2.2.1 _ (wk_X16_207)) dX16_source_144 ?_
  refine c_V B hH hl hc K.2.2.1 (C := RX16) (T := TX16) (N := 123) (ci := 16) (As := [.long 0, .long 1000]) (ok_X16_bounded K.2.1 σ52 0 1000 hGσ52 hS h) wc_X16_209 2 hd_X16_bounded ⟨Nat.le_trans (Nat.le_of_ble_eq_true rfl) K.2.2.2.1, Nat.le_trans (Nat.le_of_ble_eq_true rfl) K.2.2.2.2.1⟩ hS.1.1 hS.1.2 (by decide) rfl rfl (rest := [.int (i32 v1), .ref (jx a53 9)]) rfl (Nat.le_of_ble_eq_true rfl) dX16_source_147 (fun σ54 w hq => ?_) (fun σ9 E9 hx9 => hX σ9 E9 _ _ _ (tb_out K.2.2.2.2.2 rfl) hx9.1 hx9.2.1 hx9.2.2)
  obtain ⟨r55, rfl, h, hGσ54, hS⟩ := hq
  intro H locs ls hH hl hc
  refine W.eq (g2 := F0 m 150 ls [.long r55, .int (i32 v1), .ref (jx a53 9)]) (rfl) ?_
  try dsimp only at h
  obtain ⟨q2, h⟩ := h
  obtain ⟨σ56, eσ56⟩ : ∃ z, z = pJ σ54 (jx a53 9) v1.toNat r55 := ⟨_, rfl⟩
  have h := h σ56 eσ56
  refine x_last B K.2.1 hH (hS.ja ja53 (k := 9) (kd := 101) (n := 16) (by decide)) (by decide) q2 dX16_source_150 (fun H locs hH => ?_)
  have hH : Hd D cA A s (pJ σ54 (jx a53 9) v1.toNat r55) H locs := hH
  rw [← eσ56] at hH
  have hGσ56 : RG σ56 := by rw [eσ56]; exact hGσ54.pJ
  have hS : Shp dm ra jx rm σ56 := by rw [eσ56]; exact hS
  have hc : CB n0 s0 σ56 := by rw [eσ56]; exact hc
  rw [show gc σ54 = gc σ56 by rw [eσ56], show gs σ54 = gs σ56 by rw [eσ56]]
  exact hQ _ _ _ _ _ dX16_source_151 hH hc h hGσ56 hS
set_option maxRecDepth 20000 in
theorem a_X16_source_111 {Q : Sg → Unit → Prop} {X : Sg → String → Prop} (K : MC R p s m args c cX16_source 2 RX16 D cA tys A n0 s0 8 177 []) (hQ : HQV p l e R s m args below meth c cX16_source D cA A n0 s0 QM dm ra jx rm Q) (hX : HX p l e R s m args below meth c 2 D cA A n0 s0 QM dm ra jx rm X) {K102 : Sg → Int → Prop} (hK102 : ∀ (σ : Sg) (v1 : Int) (g1 : rng v1), K102 σ v1 → RG σ → Shp dm ra jx rm σ → JJ p l e R s m args below meth c 2 D cA A n0 s0 QM σ 102 [(0, .ref rm), (1, .int (i32 v1))] []) : ∀ (σ : Sg) (v1 : Int) (g1 : rng v1), w_X16_source_111 ra jx rm K102 Q X σ v1 → RG σ → Shp dm ra jx rm σ → JJ p l e R s m args below meth c 2 D cA A n0 s0 QM σ 111 [(0, .ref rm), (1, .int (i32 v1))] [] := by
  intro σ v1 g1 h hGσ hS H locs ls hH hl hc
  have B := K.1
  unfold w_X16_source_111 at h
  refine lv_aload_n B.1 B.2.1 dX16_source_111 rfl (lv_at hl 0 rfl) ?_
  refine lv_iload_n B.1 B.2.1 dX16_source_112 rfl (lv_at hl 1 rfl) ?_
  refine lv_iconst (v := i32 4) B.1 B.2.1 dX16_source_113 (by decide) ?_
  refine c_V B hH hl hc K.2.2.1 (C := RX16) (T := TX16) (N := 123) (ci := 16) (As := [.int (i32 v1), .int (i32 4)]) (ok_X16_newColumn K.2.1 σ v1 4 g1 (by unfold rng; omega) hGσ hS h) wc_X16_194 2 hd_X16_newColumn ⟨Nat.le_trans (Nat.le_of_ble_eq_true rfl) K.2.2.2.1, Nat.le_trans (Nat.le_of_ble_eq_true rfl) K.2.2.2.2.1⟩ hS.1.1 hS.1.2 (by decide) rfl rfl (rest := []) rfl (Nat.le_of_ble_eq_true rfl) dX16_source_114 (fun σ57 w hq => ?_) (fun σ9 E9 hx9 => hX σ9 E9 _ _ _ (tb_out K.2.2.2.2.2 rfl) hx9.1 hx9.2.1 hx9.2.2)
  obtain ⟨rfl, h, hGσ57, hS⟩ := hq
  intro H locs ls hH hl hc
  refine W.eq (g2 := F0 m 117 ls []) (rfl) ?_
  try dsimp only at h
  refine lv_aload_n B.1 B.2.1 dX16_source_117 rfl (lv_at hl 0 rfl) ?_
  refine c_V B hH hl hc K.2.2.1 (C := RX16) (T := TX16) (N := 123) (ci := 16) (As := []) (ok_X16_see K.2.1 σ57 hGσ57 hS h) wc_X16_76 0 hd_X16_see ⟨Nat.le_trans (Nat.le_of_ble_eq_true rfl) K.2.2.2.1, Nat.le_trans (Nat.le_of_ble_eq_true rfl) K.2.2.2.2.1⟩ hS.1.1 hS.1.2 (by decide) rfl rfl (rest := []) rfl (Nat.le_of_ble_eq_true rfl) dX16_source_118 (fun σ58 w hq => ?_) (fun σ9 E9 hx9 => hX σ9 E9 _ _ _ (tb_out K.2.2.2.2.2 rfl) hx9.1 hx9.2.1 hx9.2.2)
  obtain ⟨rfl, h, hGσ58, hS⟩ := hq
  intro H locs ls hH hl hc
  refine W.eq (g2 := F0 m 121 ls []) (rfl) ?_
  try dsimp only at h
  refine lv_goto (tgt := 102) B.1 B.2.1 dX16_source_121 (by decide) ?_
  exact hK102 _ _ g1 h hGσ58 hS _ _ _ hH (lv_sub (l' := [(0, .ref rm), (1, .int (i32 v1))]) hl [0, 1] rfl) hc
set_option maxRecDepth 20000 in
theorem a_X16_source_102 {Q : Sg → Unit → Prop} {X : Sg → String → Prop} (K : MC R p s m args c cX16_source 2 RX16 D cA tys A n0 s0 8 177 []) (hQ : HQV p l e R s m args below meth c cX16_source D cA A n0 s0 QM dm ra jx rm Q) (hX : HX p l e R s m args below meth c 2 D cA A n0 s0 QM dm ra jx rm X) {K102 : Sg → Int → Prop} (hK102 : ∀ (σ : Sg) (v1 : Int) (g1 : rng v1), K102 σ v1 → RG σ → Shp dm ra jx rm σ → JJ p l e R s m args below meth c 2 D cA A n0 s0 QM σ 102 [(0, .ref rm), (1, .int (i32 v1))] []) : ∀ (σ : Sg) (v1 : Int) (g1 : rng v1), w_X16_source_102 ra jx rm K102 Q X σ v1 → RG σ → Shp dm ra jx rm σ → JJ p l e R s m args below meth c 2 D cA A n0 s0 QM σ 102 [(0, .ref rm), (1, .int (i32 v1))] [] := by
  intro σ v1 g1 h hGσ hS H locs ls hH hl hc
  have B := K.1
  unfold w_X16_source_102 at h
  refine lv_aload_n B.1 B.2.1 dX16_source_102 rfl (lv_at hl 0 rfl) ?_
  refine r_geti B hH hS 9 (by decide) wf_X16_38 rfl rfl dX16_source_103 ?_
  refine lv_bipush (v := i32 41) B.1 B.2.1 dX16_source_106 (by decide) ?_
  refine lv_icmp_eq (tgt := 124) B.1 B.2.1 dX16_source_108 (by decide) (fun h9 => ?_) (fun h9 => ?_)
  · rw [if_pos ((i32_eq (hGσ _ _) (by unfold rng; omega)).mp h9)] at h
    exact a_X16_source_124 K hQ hX _ _ g1 h hGσ hS _ _ _ hH (lv_sub (l' := [(0, .ref rm), (1, .int (i32 v1))]) hl [0, 1] rfl) hc
  · rw [if_neg (fun q => h9 ((i32_eq (hGσ _ _) (by unfold rng; omega)).mpr q))] at h
    exact a_X16_source_111 K hQ hX hK102 _ _ g1 h hGσ hS _ _ _ hH (lv_sub (l' := [(0, .ref rm), (1, .int (i32 v1))]) hl [0, 1] rfl) hc
theorem al_X16_source_102 {Q : Sg → Unit → Prop} {X : Sg → String → Prop} (K : MC R p s m args c cX16_source 2 RX16 D cA tys A n0 s0 8 177 []) (hQ : HQV p l e R s m args below meth c cX16_source D cA A n0 s0 QM dm ra jx rm Q) (hX : HX p l e R s m args below meth c 2 D cA A n0 s0 QM dm ra jx rm X) : ∀ (n : Nat), ∀ (σ : Sg) (v1 : Int) (g1 : rng v1), wl_X16_source_102 ra jx rm Q X n σ v1 → RG σ → Shp dm ra jx rm σ → JJ p l e R s m args below meth c 2 D cA A n0 s0 QM σ 102 [(0, .ref rm), (1, .int (i32 v1))] [] := by
  intro n
  induction n with
  | zero => intro σ v1 g1 h; exact h.elim
  | succ n ih => exact fun σ v1 g1 h => a_X16_source_102 K hQ hX ih σ v1 g1 h
set_option maxRecDepth 20000 in
theorem a_X16_source_55 {Q : Sg → Unit → Prop} {X : Sg → String → Prop} (K : MC R p s m args c cX16_source 2 RX16 D cA tys A n0 s0 8 177 []) (hQ : HQV p l e R s m args below meth c cX16_source D cA A n0 s0 QM dm ra jx rm Q) (hX : HX p l e R s m args below meth c 2 D cA A n0 s0 QM dm ra jx rm X) : ∀ (σ : Sg) (v1 : Int) (g1 : rng v1), w_X16_source_55 ra jx rm Q X σ v1 → RG σ → Shp dm ra jx rm σ → JJ p l e R s m args below meth c 2 D cA A n0 s0 QM σ 55 [(0, .ref rm), (1, .int (i32 v1))] [] := by
  intro σ v1 g1 h hGσ hS H locs ls hH hl hc
  have B := K.1
  unfold w_X16_source_55 at h
  refine lv_aload_n B.1 B.2.1 dX16_source_55 rfl (lv_at hl 0 rfl) ?_
  refine r_getp B hH hS 18 (by decide) wf_X16_118 rfl rfl dX16_source_56 ?_
  obtain ⟨a59, ea59, ja59, h⟩ := h
  refine W.eq (g2 := F0 m 59 ls [.ref a59]) (by rw [ea59]; rfl) ?_
  refine n_arr B hH hS ja59 8 (kd := 101) (n := 16) (by decide) (by decide) (List.mem_of_getElem? (i := 8) rfl) rfl dX16_source_59 ?_
  refine lv_iload_n B.1 B.2.1 dX16_source_62 rfl (lv_at hl 1 rfl) ?_
  refine lv_aload_n B.1 B.2.1 dX16_source_63 rfl (lv_at hl 0 rfl) ?_
  refine r_getl B hH hS 13 (by decide) wf_X16_60 rfl rfl dX16_source_64 ?_
  obtain ⟨q2, h⟩ := h
  obtain ⟨σ60, eσ60⟩ : ∃ z, z = pJ σ (jx a59 8) v1.toNat (gJ σ rm 13) := ⟨_, rfl⟩
  have h := h σ60 eσ60
  refine x_last B K.2.1 hH (hS.ja ja59 (k := 8) (kd := 101) (n := 16) (by decide)) (by decide) q2 dX16_source_67 (fun H locs hH => ?_)
  have hH : Hd D cA A s (pJ σ (jx a59 8) v1.toNat (gJ σ rm 13)) H locs := hH
  rw [← eσ60] at hH
  have hGσ60 : RG σ60 := by rw [eσ60]; exact hGσ.pJ
  have hS : Shp dm ra jx rm σ60 := by rw [eσ60]; exact hS
  have hc : CB n0 s0 σ60 := by rw [eσ60]; exact hc
  rw [show gc σ = gc σ60 by rw [eσ60], show gs σ = gs σ60 by rw [eσ60]]
  refine lv_aload_n B.1 B.2.1 dX16_source_68 rfl (lv_at hl 0 rfl) ?_
  refine r_getp B hH hS 18 (by decide) wf_X16_118 rfl rfl dX16_source_69 ?_
  obtain ⟨a61, ea61, ja61, h⟩ := h
  refine W.eq (g2 := F0 m 72 ls [.ref a61]) (by rw [ea61]; rfl) ?_
  refine n_arr B hH hS ja61 18 (kd := 100) (n := 4) (by decide) (by decide) (List.mem_of_getElem? (i := 18) rfl) rfl dX16_source_72 ?_
  refine lv_aload_n B.1 B.2.1 dX16_source_75 rfl (lv_at hl 0 rfl) ?_
  refine r_getl B hH hS 13 (by decide) wf_X16_60 rfl rfl dX16_source_76 ?_
  refine lv_l2i B.1 B.2.1 dX16_source_79 rfl ?_
  refine W.eq (g2 := F0 m 80 ls [.int (i32 ((gJ σ60 rm 13).toInt32.toInt)), .ref (jx a61 18)]) (by simp only [i32_self]) ?_
  refine lv_iload_n B.1 B.2.1 dX16_source_80 rfl (lv_at hl 1 rfl) ?_
  obtain ⟨q5, h⟩ := h
  obtain ⟨σ62, eσ62⟩ : ∃ z, z = pI σ60 (jx a61 18) ((gJ σ60 rm 13).toInt32.toInt).toNat v1 := ⟨_, rfl⟩
  have h := h σ62 eσ62
  refine x_iast B K.2.1 hH (hS.ja ja61 (k := 18) (kd := 100) (n := 4) (by decide)) (by decide) q5 dX16_source_81 (fun H locs hH => ?_)
  have hH : Hd D cA A s (pI σ60 (jx a61 18) ((gJ σ60 rm 13).toInt32.toInt).toNat v1) H locs := hH
  rw [← eσ62] at hH
  have hGσ62 : RG σ62 := by rw [eσ62]; exact hGσ60.pI g1
  have hS : Shp dm ra jx rm σ62 := by rw [eσ62]; exact hS
  have hc : CB n0 s0 σ62 := by rw [eσ62]; exact hc
  rw [show gc σ60 = gc σ62 by rw [eσ62], show gs σ60 = gs σ62 by rw [eσ62]]
  refine lv_aload_n B.1 B.2.1 dX16_source_82 rfl (lv_at hl 0 rfl) ?_
  refine c_V B hH hl hc K.2.2.1 (C := RX16) (T := TX16) (N := 123) (ci := 16) (As := []) (ok_X16_take K.2.1 σ62 hGσ62 hS h) wc_X16_84 0 hd_X16_take ⟨Nat.le_trans (Nat.le_of_ble_eq_true rfl) K.2.2.2.1, Nat.le_trans (Nat.le_of_ble_eq_true rfl) K.2.2.2.2.1⟩ hS.1.1 hS.1.2 (by decide) rfl rfl (rest := []) rfl (Nat.le_of_ble_eq_true rfl) dX16_source_83 (fun σ63 w hq => ?_) (fun σ9 E9 hx9 => hX σ9 E9 _ _ _ (tb_out K.2.2.2.2.2 rfl) hx9.1 hx9.2.1 hx9.2.2)
  obtain ⟨rfl, h, hGσ63, hS⟩ := hq
  intro H locs ls hH hl hc
  refine W.eq (g2 := F0 m 86 ls []) (rfl) ?_
  try dsimp only at h
  refine lv_aload_n B.1 B.2.1 dX16_source_86 rfl (lv_at hl 0 rfl) ?_
  refine lv_bipush (v := i32 40) B.1 B.2.1 dX16_source_87 (by decide) ?_
  refine c_V B hH hl hc K.2.2.1 (C := RX16) (T := TX16) (N := 123) (ci := 16) (As := [.int (i32 40)]) (ok_X16_sign K.2.1 σ63 40 (by unfold rng; omega) hGσ63 hS h) wc_X16_159 1 hd_X16_sign ⟨Nat.le_trans (Nat.le_of_ble_eq_true rfl) K.2.2.2.1, Nat.le_trans (Nat.le_of_ble_eq_true rfl) K.2.2.2.2.1⟩ hS.1.1 hS.1.2 (by decide) rfl rfl (rest := []) rfl (Nat.le_of_ble_eq_true rfl) dX16_source_89 (fun σ64 w hq => ?_) (fun σ9 E9 hx9 => hX σ9 E9 _ _ _ (tb_out K.2.2.2.2.2 rfl) hx9.1 hx9.2.1 hx9.2.2)
  obtain ⟨rfl, h, hGσ64, hS⟩ := hq
  intro H locs ls hH hl hc
  refine W.eq (g2 := F0 m 92 ls []) (rfl) ?_
  try dsimp only at h
  refine lv_aload_n B.1 B.2.1 dX16_source_92 rfl (lv_at hl 0 rfl) ?_
  refine lv_iload_n B.1 B.2.1 dX16_source_93 rfl (lv_at hl 1 rfl) ?_
  refine lv_iconst (v := i32 4) B.1 B.2.1 dX16_source_94 (by decide) ?_
  refine c_V B hH hl hc K.2.2.1 (C := RX16) (T := TX16) (N := 123) (ci := 16) (As := [.int (i32 v1), .int (i32 4)]) (ok_X16_newColumn K.2.1 σ64 v1 4 g1 (by unfold rng; omega) hGσ64 hS h) wc_X16_194 2 hd_X16_newColumn ⟨Nat.le_trans (Nat.le_of_ble_eq_true rfl) K.2.2.2.1, Nat.le_trans (Nat.le_of_ble_eq_true rfl) K.2.2.2.2.1⟩ hS.1.1 hS.1.2 (by decide) rfl rfl (rest := []) rfl (Nat.le_of_ble_eq_true rfl) dX16_source_95 (fun σ65 w hq => ?_) (fun σ9 E9 hx9 => hX σ9 E9 _ _ _ (tb_out K.2.2.2.2.2 rfl) hx9.1 hx9.2.1 hx9.2.2)
  obtain ⟨rfl, h, hGσ65, hS⟩ := hq
  intro H locs ls hH hl hc
  refine W.eq (g2 := F0 m 98 ls []) (rfl) ?_
  try dsimp only at h
  refine lv_aload_n B.1 B.2.1 dX16_source_98 rfl (lv_at hl 0 rfl) ?_
  refine c_V B hH hl hc K.2.2.1 (C := RX16) (T := TX16) (N := 123) (ci := 16) (As := []) (ok_X16_see K.2.1 σ65 hGσ65 hS h) wc_X16_76 0 hd_X16_see ⟨Nat.le_trans (Nat.le_of_ble_eq_true rfl) K.2.2.2.1, Nat.le_trans (Nat.le_of_ble_eq_true rfl) K.2.2.2.2.1⟩ hS.1.1 hS.1.2 (by decide) rfl rfl (rest := []) rfl (Nat.le_of_ble_eq_true rfl) dX16_source_99 (fun σ66 w hq => ?_) (fun σ9 E9 hx9 => hX σ9 E9 _ _ _ (tb_out K.2.2.2.2.2 rfl) hx9.1 hx9.2.1 hx9.2.2)
  obtain ⟨rfl, h, hGσ66, hS⟩ := hq
  intro H locs ls hH hl hc
  refine W.eq (g2 := F0 m 102 ls []) (rfl) ?_
  try dsimp only at h
  obtain ⟨n9, h⟩ := h
  exact al_X16_source_102 K hQ hX n9 _ _ g1 h hGσ66 hS _ _ _ hH (lv_sub (l' := [(0, .ref rm), (1, .int (i32 v1))]) hl [0, 1] rfl) hc
set_option maxRecDepth 20000 in
theorem a_X16_source_31 {Q : Sg → Unit → Prop} {X : Sg → String → Prop} (K : MC R p s m args c cX16_source 2 RX16 D cA tys A n0 s0 8 177 []) (hQ : HQV p l e R s m args below meth c cX16_source D cA A n0 s0 QM dm ra jx rm Q) (hX : HX p l e R s m args below meth c 2 D cA A n0 s0 QM dm ra jx rm X) : ∀ (σ : Sg) (v1 : Int) (g1 : rng v1), w_X16_source_31 ra jx rm Q X σ v1 → RG σ → Shp dm ra jx rm σ → JJ p l e R s m args below meth c 2 D cA A n0 s0 QM σ 31 [(0, .ref rm), (1, .int (i32 v1))] [] := by
  intro σ v1 g1 h hGσ hS H locs ls hH hl hc
  have B := K.1
  unfold w_X16_source_31 at h
  refine lv_aload_n B.1 B.2.1 dX16_source_31 rfl (lv_at hl 0 rfl) ?_
  refine r_getp B hH hS 18 (by decide) wf_X16_118 rfl rfl dX16_source_32 ?_
  obtain ⟨a67, ea67, ja67, h⟩ := h
  refine W.eq (g2 := F0 m 35 ls [.ref a67]) (by rw [ea67]; rfl) ?_
  refine n_arr B hH hS ja67 18 (kd := 100) (n := 4) (by decide) (by decide) (List.mem_of_getElem? (i := 18) rfl) rfl dX16_source_35 ?_
  refine lv_aload_n B.1 B.2.1 dX16_source_38 rfl (lv_at hl 0 rfl) ?_
  refine r_getl B hH hS 13 (by decide) wf_X16_60 rfl rfl dX16_source_39 ?_
  refine lv_l2i B.1 B.2.1 dX16_source_42 rfl ?_
  refine W.eq (g2 := F0 m 43 ls [.int (i32 ((gJ σ rm 13).toInt32.toInt)), .ref (jx a67 18)]) (by simp only [i32_self]) ?_
  obtain ⟨q2, h⟩ := h
  refine x_iald B K.2.1 hH (hS.ja ja67 (k := 18) (kd := 100) (n := 4) (by decide)) (by decide) q2 dX16_source_43 ?_
  refine lv_iconst (v := i32 (-1)) B.1 B.2.1 dX16_source_44 (by decide) ?_
  refine lv_icmp_eq (tgt := 55) B.1 B.2.1 dX16_source_45 (by decide) (fun h9 => ?_) (fun h9 => ?_)
  · rw [if_pos ((i32_eq (hGσ _ _) (by unfold rng; omega)).mp h9)] at h
    exact a_X16_source_55 K hQ hX _ _ g1 h hGσ hS _ _ _ hH (lv_sub (l' := [(0, .ref rm), (1, .int (i32 v1))]) hl [0, 1] rfl) hc
  · rw [if_neg (fun q => h9 ((i32_eq (hGσ _ _) (by unfold rng; omega)).mpr q))] at h
    exact a_X16_source_48 K hQ hX _ h hGσ hS _ _ _ hH (lv_sub (l' := [(0, .ref rm)]) hl [0] rfl) hc
set_option maxRecDepth 20000 in
theorem a_X16_source_17 {Q : Sg → Unit → Prop} {X : Sg → String → Prop} (K : MC R p s m args c cX16_source 2 RX16 D cA tys A n0 s0 8 177 []) (hQ : HQV p l e R s m args below meth c cX16_source D cA A n0 s0 QM dm ra jx rm Q) (hX : HX p l e R s m args below meth c 2 D cA A n0 s0 QM dm ra jx rm X) : ∀ (σ : Sg) (v1 : Int) (g1 : rng v1), w_X16_source_17 ra jx rm Q X σ v1 → RG σ → Shp dm ra jx rm σ → JJ p l e R s m args below meth c 2 D cA A n0 s0 QM σ 17 [(0, .ref rm), (1, .int (i32 v1))] [] := by
  intro σ v1 g1 h hGσ hS H locs ls hH hl hc
  have B := K.1
  unfold w_X16_source_17 at h
  refine lv_aload_n B.1 B.2.1 dX16_source_17 rfl (lv_at hl 0 rfl) ?_
  refine r_getl B hH hS 13 (by decide) wf_X16_60 rfl rfl dX16_source_18 ?_
  refine lv_lconst (v := 0) B.1 B.2.1 dX16_source_21 (by decide) ?_
  refine lv_ldc2 B.1 B.2.1 B.2.2.1 (B.2.2.2.1 _ (wk_X16_186)) dX16_source_22 ?_
  refine c_S B hH hl hc K.2.2.1 (As := [.long (gJ σ rm 13), .long 0, .long 3]) (ok_X16_within K.2.1 σ (gJ σ rm 13) 0 3 hGσ hS h) wc_X16_45 3 hd_X16_within ⟨Nat.le_trans (Nat.le_of_ble_eq_true rfl) K.2.2.2.1, Nat.le_trans (Nat.le_of_ble_eq_true rfl) K.2.2.2.2.1⟩ rfl (rest := []) rfl (Nat.le_of_ble_eq_true rfl) dX16_source_25 (fun σ68 w hq => ?_) (fun σ9 E9 hx9 => hX σ9 E9 _ _ _ (tb_out K.2.2.2.2.2 rfl) hx9.1 hx9.2.1 hx9.2.2)
  obtain ⟨r69, rfl, ⟨gr69, gzr69⟩, h, hGσ68, hS⟩ := hq
  intro H locs ls hH hl hc
  refine W.eq (g2 := F0 m 28 ls [.int (i32 r69)]) (rfl) ?_
  try dsimp only at h
  refine lv_if_eq (tgt := 48) B.1 B.2.1 dX16_source_28 (by decide) (fun h9 => ?_) (fun h9 => ?_)
  · rw [if_pos ((z_eq gr69).mp h9)] at h
    exact a_X16_source_48 K hQ hX _ h hGσ68 hS _ _ _ hH (lv_sub (l' := [(0, .ref rm)]) hl [0] rfl) hc
  · rw [if_neg (fun q => h9 ((z_eq gr69).mpr q))] at h
    exact a_X16_source_31 K hQ hX _ _ g1 h hGσ68 hS _ _ _ hH (lv_sub (l' := [(0, .ref rm), (1, .int (i32 v1))]) hl [0, 1] rfl) hc
set_option maxRecDepth 20000 in
theorem a_X16_source_12 {Q : Sg → Unit → Prop} {X : Sg → String → Prop} (K : MC R p s m args c cX16_source 2 RX16 D cA tys A n0 s0 8 177 []) (hQ : HQV p l e R s m args below meth c cX16_source D cA A n0 s0 QM dm ra jx rm Q) (hX : HX p l e R s m args below meth c 2 D cA A n0 s0 QM dm ra jx rm X) : ∀ (σ : Sg), w_X16_source_12 ra jx rm Q X σ → RG σ → Shp dm ra jx rm σ → JJ p l e R s m args below meth c 2 D cA A n0 s0 QM σ 12 [(0, .ref rm)] [] := by
  intro σ h hGσ hS H locs ls hH hl hc
  have B := K.1
  unfold w_X16_source_12 at h
  refine lv_aload_n B.1 B.2.1 dX16_source_12 rfl (lv_at hl 0 rfl) ?_
  refine c_V B hH hl hc K.2.2.1 (C := RX16) (T := TX16) (N := 123) (ci := 16) (As := []) (ok_X16_misplaced K.2.1 σ hGσ hS h) wc_X16_80 0 hd_X16_misplaced ⟨Nat.le_trans (Nat.le_of_ble_eq_true rfl) K.2.2.2.1, Nat.le_trans (Nat.le_of_ble_eq_true rfl) K.2.2.2.2.1⟩ hS.1.1 hS.1.2 (by decide) rfl rfl (rest := []) rfl (Nat.le_of_ble_eq_true rfl) dX16_source_13 (fun σ70 w hq => ?_) (fun σ9 E9 hx9 => hX σ9 E9 _ _ _ (tb_out K.2.2.2.2.2 rfl) hx9.1 hx9.2.1 hx9.2.2)
  obtain ⟨r71, rfl, h, hGσ70, hS⟩ := hq
  intro H locs ls hH hl hc
  refine W.eq (g2 := F0 m 16 ls [va_rf r71]) (rfl) ?_
  try dsimp only at h
  obtain ⟨qt, h⟩ := h
  refine W.eq (g2 := F0 m 16 ls [.ref (ra 1)]) (by rw [qt]; rfl) ?_
  have hx9 := And.intro h (And.intro hGσ70 hS)
  refine h_athrow B hH hl hc (ci := 14) (hS.ob (k := 1) (ci := 14) (by decide)).1 (hS.ob (k := 1) (ci := 14) (by decide)).2 (by decide) rfl dX16_source_16 ?_
  exact hX σ70 _ _ _ _ (tb_out K.2.2.2.2.2 rfl) hx9.1 hx9.2.1 hx9.2.2
set_option maxRecDepth 20000 in
theorem a_X16_source_0 {Q : Sg → Unit → Prop} {X : Sg → String → Prop} (K : MC R p s m args c cX16_source 2 RX16 D cA tys A n0 s0 8 177 []) (hQ : HQV p l e R s m args below meth c cX16_source D cA A n0 s0 QM dm ra jx rm Q) (hX : HX p l e R s m args below meth c 2 D cA A n0 s0 QM dm ra jx rm X) : ∀ (σ : Sg) (v1 : Int) (g1 : rng v1), w_X16_source_0 ra jx rm Q X σ v1 → RG σ → Shp dm ra jx rm σ → JJ p l e R s m args below meth c 2 D cA A n0 s0 QM σ 0 [(0, .ref rm), (1, .int (i32 v1))] [] := by
  intro σ v1 g1 h hGσ hS H locs ls hH hl hc
  have B := K.1
  unfold w_X16_source_0 at h
  refine lv_aload_n B.1 B.2.1 dX16_source_0 rfl (lv_at hl 0 rfl) ?_
  refine c_V B hH hl hc K.2.2.1 (C := RX16) (T := TX16) (N := 123) (ci := 16) (As := []) (ok_X16_see K.2.1 σ hGσ hS h) wc_X16_76 0 hd_X16_see ⟨Nat.le_trans (Nat.le_of_ble_eq_true rfl) K.2.2.2.1, Nat.le_trans (Nat.le_of_ble_eq_true rfl) K.2.2.2.2.1⟩ hS.1.1 hS.1.2 (by decide) rfl rfl (rest := []) rfl (Nat.le_of_ble_eq_true rfl) dX16_source_1 (fun σ72 w hq => ?_) (fun σ9 E9 hx9 => hX σ9 E9 _ _ _ (tb_out K.2.2.2.2.2 rfl) hx9.1 hx9.2.1 hx9.2.2)
  obtain ⟨rfl, h, hGσ72, hS⟩ := hq
  intro H locs ls hH hl hc
  refine W.eq (g2 := F0 m 4 ls []) (rfl) ?_
  try dsimp only at h
  refine lv_aload_n B.1 B.2.1 dX16_source_4 rfl (lv_at hl 0 rfl) ?_
  refine r_geti B hH hS 9 (by decide) wf_X16_38 rfl rfl dX16_source_5 ?_
  refine lv_iconst (v := i32 2) B.1 B.2.1 dX16_source_8 (by decide) ?_
  refine lv_icmp_eq (tgt := 17) B.1 B.2.1 dX16_source_9 (by decide) (fun h9 => ?_) (fun h9 => ?_)
  · rw [if_pos ((i32_eq (hGσ72 _ _) (by unfold rng; omega)).mp h9)] at h
    exact a_X16_source_17 K hQ hX _ _ g1 h hGσ72 hS _ _ _ hH (lv_sub (l' := [(0, .ref rm), (1, .int (i32 v1))]) hl [0, 1] rfl) hc
  · rw [if_neg (fun q => h9 ((i32_eq (hGσ72 _ _) (by unfold rng; omega)).mpr q))] at h
    exact a_X16_source_12 K hQ hX _ h hGσ72 hS _ _ _ hH (lv_sub (l' := [(0, .ref rm)]) hl [0] rfl) hc
theorem ok_X16_source (hT : Tys cA tys) {Q : Sg → Unit → Prop} {X : Sg → String → Prop} (σ : Sg) (v1 : Int) (g1 : rng v1) (hG : RG σ) (hS : Shp dm ra jx rm σ) (h : wp_X16_source ra jx rm v1 σ Q X) : Ok l D cA tys A yX16_source (.code yX16_source cX16_source 2 none) 8 177 [.ref rm, .int (i32 v1)] σ (QnV dm ra jx rm Q) (QxR dm ra jx rm X) := by
  unfold wp_X16_source at h
  exact ok_V (plainFor_of_name (by decide)) (by exact Nat.le_of_ble_eq_true rfl) hT (fun p e R s m args below meth c K hQ hX H locs ls hH hl hc => a_X16_source_0 K hQ hX σ v1 g1 h hG hS H locs ls hH (lv_sub (l' := [(0, .ref rm), (1, .int (i32 v1))]) hl [0, 1] rfl) hc)
end M62

section M60
variable {p : Program} {l : Launch} {e : Env} {R : Room} {s : State} {m : MethodId} {args : Array Value} {below : List Frame} {meth : Method} {c : Code} {D : va_G} {cA : Nat → ClassId} {tys : List (ClassId × FieldType)} {A : Nat → Prop} {n0 s0 : Nat} {QM : State → Prop} {dm : List Nat × Nat × Nat} {ra : Nat → Nat} {jx : Nat → Nat → Nat} {rm : Nat}
theorem dX16_topOf_0 : decode cX16_topOf 0 = .ok (.aload_n 0, 1) := by decide +kernel
theorem dX16_topOf_1 : decode cX16_topOf 1 = .ok (.getfield 356, 3) := by decide +kernel
theorem dX16_topOf_4 : decode cX16_topOf 4 = .ok (.getfield 239, 3) := by decide +kernel
theorem dX16_topOf_7 : decode cX16_topOf 7 = .ok (.iload_n 2, 1) := by decide +kernel
theorem dX16_topOf_8 : decode cX16_topOf 8 = .ok (.iaload, 1) := by decide +kernel
theorem dX16_topOf_9 : decode cX16_topOf 9 = .ok (.istore 8, 2) := by decide +kernel
theorem dX16_topOf_11 : decode cX16_topOf 11 = .ok (.iconst 1, 1) := by decide +kernel
theorem dX16_topOf_12 : decode cX16_topOf 12 = .ok (.istore 9, 2) := by decide +kernel
theorem dX16_topOf_14 : decode cX16_topOf 14 = .ok (.iload 9, 2) := by decide +kernel
theorem dX16_topOf_16 : decode cX16_topOf 16 = .ok (.i2l, 1) := by decide +kernel
theorem dX16_topOf_17 : decode cX16_topOf 17 = .ok (.aload_n 0, 1) := by decide +kernel
theorem dX16_topOf_18 : decode cX16_topOf 18 = .ok (.getfield 356, 3) := by decide +kernel
theorem dX16_topOf_21 : decode cX16_topOf 21 = .ok (.getfield 191, 3) := by decide +kernel
theorem dX16_topOf_24 : decode cX16_topOf 24 = .ok (.iload_n 2, 1) := by decide +kernel
theorem dX16_topOf_25 : decode cX16_topOf 25 = .ok (.laload, 1) := by decide +kernel
theorem dX16_topOf_26 : decode cX16_topOf 26 = .ok (.lcmp, 1) := by decide +kernel
theorem dX16_topOf_27 : decode cX16_topOf 27 = .ok (.ifCond .gt 235, 3) := by decide +kernel
theorem dX16_topOf_30 : decode cX16_topOf 30 = .ok (.iconst (-1), 1) := by decide +kernel
theorem dX16_topOf_31 : decode cX16_topOf 31 = .ok (.istore 10, 2) := by decide +kernel
theorem dX16_topOf_33 : decode cX16_topOf 33 = .ok (.aload_n 0, 1) := by decide +kernel
theorem dX16_topOf_34 : decode cX16_topOf 34 = .ok (.getfield 504, 3) := by decide +kernel
theorem dX16_topOf_37 : decode cX16_topOf 37 = .ok (.iload_n 1, 1) := by decide +kernel
theorem dX16_topOf_38 : decode cX16_topOf 38 = .ok (.iaload, 1) := by decide +kernel
theorem dX16_topOf_39 : decode cX16_topOf 39 = .ok (.istore 11, 2) := by decide +kernel
theorem dX16_topOf_41 : decode cX16_topOf 41 = .ok (.iload 11, 2) := by decide +kernel
theorem dX16_topOf_43 : decode cX16_topOf 43 = .ok (.iconst (-1), 1) := by decide +kernel
theorem dX16_topOf_44 : decode cX16_topOf 44 = .ok (.if_icmp .eq 113, 3) := by decide +kernel
theorem dX16_topOf_47 : decode cX16_topOf 47 = .ok (.aload_n 0, 1) := by decide +kernel
theorem dX16_topOf_48 : decode cX16_topOf 48 = .ok (.getfield 522, 3) := by decide +kernel
theorem dX16_topOf_51 : decode cX16_topOf 51 = .ok (.iload 11, 2) := by decide +kernel
theorem dX16_topOf_53 : decode cX16_topOf 53 = .ok (.laload, 1) := by decide +kernel
theorem dX16_topOf_54 : decode cX16_topOf 54 = .ok (.lload 6, 2) := by decide +kernel
theorem dX16_topOf_56 : decode cX16_topOf 56 = .ok (.ldiv, 1) := by decide +kernel
theorem dX16_topOf_57 : decode cX16_topOf 57 = .ok (.lload_n 3, 1) := by decide +kernel
theorem dX16_topOf_58 : decode cX16_topOf 58 = .ok (.lcmp, 1) := by decide +kernel
theorem dX16_topOf_59 : decode cX16_topOf 59 = .ok (.ifCond .ne 86, 3) := by decide +kernel
theorem dX16_topOf_62 : decode cX16_topOf 62 = .ok (.iload 10, 2) := by decide +kernel
theorem dX16_topOf_64 : decode cX16_topOf 64 = .ok (.iconst (-1), 1) := by decide +kernel
theorem dX16_topOf_65 : decode cX16_topOf 65 = .ok (.if_icmp .eq 76, 3) := by decide +kernel
theorem dX16_topOf_68 : decode cX16_topOf 68 = .ok (.aload_n 0, 1) := by decide +kernel
theorem dX16_topOf_69 : decode cX16_topOf 69 = .ok (.getfield 528, 3) := by decide +kernel
theorem dX16_topOf_72 : decode cX16_topOf 72 = .ok (.bipush 8, 2) := by decide +kernel
theorem dX16_topOf_74 : decode cX16_topOf 74 = .ok (.iload 11, 2) := by decide +kernel
theorem dX16_topOf_76 : decode cX16_topOf 76 = .ok (.imul, 1) := by decide +kernel
theorem dX16_topOf_77 : decode cX16_topOf 77 = .ok (.iload 8, 2) := by decide +kernel
theorem dX16_topOf_79 : decode cX16_topOf 79 = .ok (.iadd, 1) := by decide +kernel
theorem dX16_topOf_80 : decode cX16_topOf 80 = .ok (.laload, 1) := by decide +kernel
theorem dX16_topOf_81 : decode cX16_topOf 81 = .ok (.aload_n 0, 1) := by decide +kernel
theorem dX16_topOf_82 : decode cX16_topOf 82 = .ok (.getfield 528, 3) := by decide +kernel
theorem dX16_topOf_85 : decode cX16_topOf 85 = .ok (.bipush 8, 2) := by decide +kernel
theorem dX16_topOf_87 : decode cX16_topOf 87 = .ok (.iload 10, 2) := by decide +kernel
theorem dX16_topOf_89 : decode cX16_topOf 89 = .ok (.imul, 1) := by decide +kernel
theorem dX16_topOf_90 : decode cX16_topOf 90 = .ok (.iload 8, 2) := by decide +kernel
theorem dX16_topOf_92 : decode cX16_topOf 92 = .ok (.iadd, 1) := by decide +kernel
theorem dX16_topOf_93 : decode cX16_topOf 93 = .ok (.laload, 1) := by decide +kernel
theorem dX16_topOf_94 : decode cX16_topOf 94 = .ok (.lcmp, 1) := by decide +kernel
theorem dX16_topOf_95 : decode cX16_topOf 95 = .ok (.ifCond .gt 46, 3) := by decide +kernel
theorem dX16_topOf_98 : decode cX16_topOf 98 = .ok (.aload_n 0, 1) := by decide +kernel
theorem dX16_topOf_99 : decode cX16_topOf 99 = .ok (.getfield 528, 3) := by decide +kernel
theorem dX16_topOf_102 : decode cX16_topOf 102 = .ok (.bipush 8, 2) := by decide +kernel
theorem dX16_topOf_104 : decode cX16_topOf 104 = .ok (.iload 11, 2) := by decide +kernel
theorem dX16_topOf_106 : decode cX16_topOf 106 = .ok (.imul, 1) := by decide +kernel
theorem dX16_topOf_107 : decode cX16_topOf 107 = .ok (.iload 8, 2) := by decide +kernel
theorem dX16_topOf_109 : decode cX16_topOf 109 = .ok (.iadd, 1) := by decide +kernel
theorem dX16_topOf_110 : decode cX16_topOf 110 = .ok (.laload, 1) := by decide +kernel
theorem dX16_topOf_111 : decode cX16_topOf 111 = .ok (.aload_n 0, 1) := by decide +kernel
theorem dX16_topOf_112 : decode cX16_topOf 112 = .ok (.getfield 528, 3) := by decide +kernel
theorem dX16_topOf_115 : decode cX16_topOf 115 = .ok (.bipush 8, 2) := by decide +kernel
theorem dX16_topOf_117 : decode cX16_topOf 117 = .ok (.iload 10, 2) := by decide +kernel
theorem dX16_topOf_119 : decode cX16_topOf 119 = .ok (.imul, 1) := by decide +kernel
theorem dX16_topOf_120 : decode cX16_topOf 120 = .ok (.iload 8, 2) := by decide +kernel
theorem dX16_topOf_122 : decode cX16_topOf 122 = .ok (.iadd, 1) := by decide +kernel
theorem dX16_topOf_123 : decode cX16_topOf 123 = .ok (.laload, 1) := by decide +kernel
theorem dX16_topOf_124 : decode cX16_topOf 124 = .ok (.lcmp, 1) := by decide +kernel
theorem dX16_topOf_125 : decode cX16_topOf 125 = .ok (.ifCond .ne 20, 3) := by decide +kernel
theorem dX16_topOf_128 : decode cX16_topOf 128 = .ok (.aload_n 0, 1) := by decide +kernel
theorem dX16_topOf_129 : decode cX16_topOf 129 = .ok (.iload 11, 2) := by decide +kernel
theorem dX16_topOf_131 : decode cX16_topOf 131 = .ok (.iload 10, 2) := by decide +kernel
theorem dX16_topOf_133 : decode cX16_topOf 133 = .ok (.iload 5, 2) := by decide +kernel
theorem dX16_topOf_135 : decode cX16_topOf 135 = .ok (.invokevirtual 538, 3) := by decide +kernel
theorem dX16_topOf_138 : decode cX16_topOf 138 = .ok (.ifCond .ge 7, 3) := by decide +kernel
theorem dX16_topOf_141 : decode cX16_topOf 141 = .ok (.iload 11, 2) := by decide +kernel
theorem dX16_topOf_143 : decode cX16_topOf 143 = .ok (.istore 10, 2) := by decide +kernel
theorem dX16_topOf_145 : decode cX16_topOf 145 = .ok (.aload_n 0, 1) := by decide +kernel
theorem dX16_topOf_146 : decode cX16_topOf 146 = .ok (.getfield 495, 3) := by decide +kernel
theorem dX16_topOf_149 : decode cX16_topOf 149 = .ok (.iload 11, 2) := by decide +kernel
theorem dX16_topOf_151 : decode cX16_topOf 151 = .ok (.iaload, 1) := by decide +kernel
theorem dX16_topOf_152 : decode cX16_topOf 152 = .ok (.istore 11, 2) := by decide +kernel
theorem dX16_topOf_154 : decode cX16_topOf 154 = .ok (.goto (-113), 3) := by decide +kernel
theorem dX16_topOf_157 : decode cX16_topOf 157 = .ok (.iload 10, 2) := by decide +kernel
theorem dX16_topOf_159 : decode cX16_topOf 159 = .ok (.iconst (-1), 1) := by decide +kernel
theorem dX16_topOf_160 : decode cX16_topOf 160 = .ok (.if_icmp .eq 96, 3) := by decide +kernel
theorem dX16_topOf_163 : decode cX16_topOf 163 = .ok (.iconst 0, 1) := by decide +kernel
theorem dX16_topOf_164 : decode cX16_topOf 164 = .ok (.istore 11, 2) := by decide +kernel
theorem dX16_topOf_166 : decode cX16_topOf 166 = .ok (.iload 11, 2) := by decide +kernel
theorem dX16_topOf_168 : decode cX16_topOf 168 = .ok (.bipush 8, 2) := by decide +kernel
theorem dX16_topOf_170 : decode cX16_topOf 170 = .ok (.if_icmp .ge 40, 3) := by decide +kernel
theorem dX16_topOf_173 : decode cX16_topOf 173 = .ok (.aload_n 0, 1) := by decide +kernel
theorem dX16_topOf_174 : decode cX16_topOf 174 = .ok (.getfield 578, 3) := by decide +kernel
theorem dX16_topOf_177 : decode cX16_topOf 177 = .ok (.iload 11, 2) := by decide +kernel
theorem dX16_topOf_179 : decode cX16_topOf 179 = .ok (.iload 11, 2) := by decide +kernel
theorem dX16_topOf_181 : decode cX16_topOf 181 = .ok (.iload 5, 2) := by decide +kernel
theorem dX16_topOf_183 : decode cX16_topOf 183 = .ok (.if_icmp .ge 19, 3) := by decide +kernel
theorem dX16_topOf_186 : decode cX16_topOf 186 = .ok (.aload_n 0, 1) := by decide +kernel
theorem dX16_topOf_187 : decode cX16_topOf 187 = .ok (.getfield 528, 3) := by decide +kernel
theorem dX16_topOf_190 : decode cX16_topOf 190 = .ok (.bipush 8, 2) := by decide +kernel
theorem dX16_topOf_192 : decode cX16_topOf 192 = .ok (.iload 10, 2) := by decide +kernel
theorem dX16_topOf_194 : decode cX16_topOf 194 = .ok (.imul, 1) := by decide +kernel
theorem dX16_topOf_195 : decode cX16_topOf 195 = .ok (.iload 11, 2) := by decide +kernel
theorem dX16_topOf_197 : decode cX16_topOf 197 = .ok (.iadd, 1) := by decide +kernel
theorem dX16_topOf_198 : decode cX16_topOf 198 = .ok (.laload, 1) := by decide +kernel
theorem dX16_topOf_199 : decode cX16_topOf 199 = .ok (.goto 4, 3) := by decide +kernel
theorem dX16_topOf_202 : decode cX16_topOf 202 = .ok (.lconst 0, 1) := by decide +kernel
theorem dX16_topOf_203 : decode cX16_topOf 203 = .ok (.lastore, 1) := by decide +kernel
theorem dX16_topOf_204 : decode cX16_topOf 204 = .ok (.iinc 11 1, 3) := by decide +kernel
theorem dX16_topOf_207 : decode cX16_topOf 207 = .ok (.goto (-41), 3) := by decide +kernel
theorem dX16_topOf_210 : decode cX16_topOf 210 = .ok (.aload_n 0, 1) := by decide +kernel
theorem dX16_topOf_211 : decode cX16_topOf 211 = .ok (.getfield 578, 3) := by decide +kernel
theorem dX16_topOf_214 : decode cX16_topOf 214 = .ok (.iload 5, 2) := by decide +kernel
theorem dX16_topOf_216 : decode cX16_topOf 216 = .ok (.iload 9, 2) := by decide +kernel
theorem dX16_topOf_218 : decode cX16_topOf 218 = .ok (.i2l, 1) := by decide +kernel
theorem dX16_topOf_219 : decode cX16_topOf 219 = .ok (.lastore, 1) := by decide +kernel
theorem dX16_topOf_220 : decode cX16_topOf 220 = .ok (.aload_n 0, 1) := by decide +kernel
theorem dX16_topOf_221 : decode cX16_topOf 221 = .ok (.getfield 531, 3) := by decide +kernel
theorem dX16_topOf_224 : decode cX16_topOf 224 = .ok (.iload 10, 2) := by decide +kernel
theorem dX16_topOf_226 : decode cX16_topOf 226 = .ok (.iaload, 1) := by decide +kernel
theorem dX16_topOf_227 : decode cX16_topOf 227 = .ok (.istore 11, 2) := by decide +kernel
theorem dX16_topOf_229 : decode cX16_topOf 229 = .ok (.aload_n 0, 1) := by decide +kernel
theorem dX16_topOf_230 : decode cX16_topOf 230 = .ok (.iload 10, 2) := by decide +kernel
theorem dX16_topOf_232 : decode cX16_topOf 232 = .ok (.invokevirtual 607, 3) := by decide +kernel
theorem dX16_topOf_235 : decode cX16_topOf 235 = .ok (.aload_n 0, 1) := by decide +kernel
theorem dX16_topOf_236 : decode cX16_topOf 236 = .ok (.iload_n 1, 1) := by decide +kernel
theorem dX16_topOf_237 : decode cX16_topOf 237 = .ok (.lload_n 3, 1) := by decide +kernel
theorem dX16_topOf_238 : decode cX16_topOf 238 = .ok (.lload 6, 2) := by decide +kernel
theorem dX16_topOf_240 : decode cX16_topOf 240 = .ok (.lmul, 1) := by decide +kernel
theorem dX16_topOf_241 : decode cX16_topOf 241 = .ok (.lload 6, 2) := by decide +kernel
theorem dX16_topOf_243 : decode cX16_topOf 243 = .ok (.ladd, 1) := by decide +kernel
theorem dX16_topOf_244 : decode cX16_topOf 244 = .ok (.lconst 1, 1) := by decide +kernel
theorem dX16_topOf_245 : decode cX16_topOf 245 = .ok (.lsub, 1) := by decide +kernel
theorem dX16_topOf_246 : decode cX16_topOf 246 = .ok (.aload_n 0, 1) := by decide +kernel
theorem dX16_topOf_247 : decode cX16_topOf 247 = .ok (.getfield 578, 3) := by decide +kernel
theorem dX16_topOf_250 : decode cX16_topOf 250 = .ok (.iconst 0, 1) := by decide +kernel
theorem dX16_topOf_251 : decode cX16_topOf 251 = .ok (.iload 11, 2) := by decide +kernel
theorem dX16_topOf_253 : decode cX16_topOf 253 = .ok (.invokevirtual 549, 3) := by decide +kernel
theorem dX16_topOf_256 : decode cX16_topOf 256 = .ok (.iinc 9 1, 3) := by decide +kernel
theorem dX16_topOf_259 : decode cX16_topOf 259 = .ok (.goto (-245), 3) := by decide +kernel
theorem dX16_topOf_262 : decode cX16_topOf 262 = .ok (.aload_n 0, 1) := by decide +kernel
theorem dX16_topOf_263 : decode cX16_topOf 263 = .ok (.getfield 504, 3) := by decide +kernel
theorem dX16_topOf_266 : decode cX16_topOf 266 = .ok (.iload_n 1, 1) := by decide +kernel
theorem dX16_topOf_267 : decode cX16_topOf 267 = .ok (.iaload, 1) := by decide +kernel
theorem dX16_topOf_268 : decode cX16_topOf 268 = .ok (.istore 9, 2) := by decide +kernel
theorem dX16_topOf_270 : decode cX16_topOf 270 = .ok (.iload 9, 2) := by decide +kernel
theorem dX16_topOf_272 : decode cX16_topOf 272 = .ok (.iconst (-1), 1) := by decide +kernel
theorem dX16_topOf_273 : decode cX16_topOf 273 = .ok (.if_icmp .eq 40, 3) := by decide +kernel
theorem dX16_topOf_276 : decode cX16_topOf 276 = .ok (.aload_n 0, 1) := by decide +kernel
theorem dX16_topOf_277 : decode cX16_topOf 277 = .ok (.getfield 495, 3) := by decide +kernel
theorem dX16_topOf_280 : decode cX16_topOf 280 = .ok (.iload 9, 2) := by decide +kernel
theorem dX16_topOf_282 : decode cX16_topOf 282 = .ok (.iaload, 1) := by decide +kernel
theorem dX16_topOf_283 : decode cX16_topOf 283 = .ok (.istore 10, 2) := by decide +kernel
theorem dX16_topOf_285 : decode cX16_topOf 285 = .ok (.aload_n 0, 1) := by decide +kernel
theorem dX16_topOf_286 : decode cX16_topOf 286 = .ok (.getfield 522, 3) := by decide +kernel
theorem dX16_topOf_289 : decode cX16_topOf 289 = .ok (.iload 9, 2) := by decide +kernel
theorem dX16_topOf_291 : decode cX16_topOf 291 = .ok (.laload, 1) := by decide +kernel
theorem dX16_topOf_292 : decode cX16_topOf 292 = .ok (.lload 6, 2) := by decide +kernel
theorem dX16_topOf_294 : decode cX16_topOf 294 = .ok (.ldiv, 1) := by decide +kernel
theorem dX16_topOf_295 : decode cX16_topOf 295 = .ok (.lload_n 3, 1) := by decide +kernel
theorem dX16_topOf_296 : decode cX16_topOf 296 = .ok (.lcmp, 1) := by decide +kernel
theorem dX16_topOf_297 : decode cX16_topOf 297 = .ok (.ifCond .ne 9, 3) := by decide +kernel
theorem dX16_topOf_300 : decode cX16_topOf 300 = .ok (.aload_n 0, 1) := by decide +kernel
theorem dX16_topOf_301 : decode cX16_topOf 301 = .ok (.iload 9, 2) := by decide +kernel
theorem dX16_topOf_303 : decode cX16_topOf 303 = .ok (.invokevirtual 607, 3) := by decide +kernel
theorem dX16_topOf_306 : decode cX16_topOf 306 = .ok (.iload 10, 2) := by decide +kernel
theorem dX16_topOf_308 : decode cX16_topOf 308 = .ok (.istore 9, 2) := by decide +kernel
theorem dX16_topOf_310 : decode cX16_topOf 310 = .ok (.goto (-40), 3) := by decide +kernel
theorem dX16_topOf_313 : decode cX16_topOf 313 = .ok (.return_, 1) := by decide +kernel
set_option maxRecDepth 20000 in
theorem a_X16_topOf_313 {Q : Sg → Unit → Prop} {X : Sg → String → Prop} (K : MC R p s m args c cX16_topOf 12 RX16 D cA tys A n0 s0 3 79 []) (hQ : HQV p l e R s m args below meth c cX16_topOf D cA A n0 s0 QM dm ra jx rm Q) (hX : HX p l e R s m args below meth c 12 D cA A n0 s0 QM dm ra jx rm X) : ∀ (σ : Sg), w_X16_topOf_313 ra jx rm Q X σ → RG σ → Shp dm ra jx rm σ → JJ p l e R s m args below meth c 12 D cA A n0 s0 QM σ 313 [(0, .ref rm)] [] := by
  intro σ h hGσ hS H locs ls hH hl hc
  have B := K.1
  unfold w_X16_topOf_313 at h
  exact hQ _ _ _ _ _ dX16_topOf_313 hH hc h hGσ hS
set_option maxRecDepth 20000 in
theorem a_X16_topOf_306 {Q : Sg → Unit → Prop} {X : Sg → String → Prop} (K : MC R p s m args c cX16_topOf 12 RX16 D cA tys A n0 s0 3 79 []) (hQ : HQV p l e R s m args below meth c cX16_topOf D cA A n0 s0 QM dm ra jx rm Q) (hX : HX p l e R s m args below meth c 12 D cA A n0 s0 QM dm ra jx rm X) {K270 : Sg → Int64 → Int64 → Int → Prop} (hK270 : ∀ (σ : Sg) (v3 : Int64) (v6 : Int64) (v9 : Int) (g9 : rng v9), K270 σ v3 v6 v9 → RG σ → Shp dm ra jx rm σ → JJ p l e R s m args below meth c 12 D cA A n0 s0 QM σ 270 [(0, .ref rm), (3, .long v3), (6, .long v6), (9, .int (i32 v9))] []) : ∀ (σ : Sg) (v3 : Int64) (v6 : Int64) (v10 : Int) (g10 : rng v10), w_X16_topOf_306 ra jx rm K270 Q X σ v3 v6 v10 → RG σ → Shp dm ra jx rm σ → JJ p l e R s m args below meth c 12 D cA A n0 s0 QM σ 306 [(0, .ref rm), (3, .long v3), (6, .long v6), (10, .int (i32 v10))] [] := by
  intro σ v3 v6 v10 g10 h hGσ hS H locs ls hH hl hc
  have B := K.1
  unfold w_X16_topOf_306 at h
  refine lv_iload B.1 B.2.1 dX16_topOf_306 (lv_at hl 3 rfl) ?_
  refine lv_istore (lv' := [(9, .int (i32 v10)), (0, .ref rm), (3, .long v3), (6, .long v6), (10, .int (i32 v10))]) B.1 B.2.1 dX16_topOf_308 hl (by decide) rfl (fun ls hl => ?_)
  refine lv_goto (tgt := 270) B.1 B.2.1 dX16_topOf_310 (by decide) ?_
  exact hK270 _ _ _ _ g10 h hGσ hS _ _ _ hH (lv_sub (l' := [(0, .ref rm), (3, .long v3), (6, .long v6), (9, .int (i32 v10))]) hl [1, 2, 3, 0] rfl) hc
set_option maxRecDepth 20000 in
theorem a_X16_topOf_300 {Q : Sg → Unit → Prop} {X : Sg → String → Prop} (K : MC R p s m args c cX16_topOf 12 RX16 D cA tys A n0 s0 3 79 []) (hQ : HQV p l e R s m args below meth c cX16_topOf D cA A n0 s0 QM dm ra jx rm Q) (hX : HX p l e R s m args below meth c 12 D cA A n0 s0 QM dm ra jx rm X) {K270 : Sg → Int64 → Int64 → Int → Prop} (hK270 : ∀ (σ : Sg) (v3 : Int64) (v6 : Int64) (v9 : Int) (g9 : rng v9), K270 σ v3 v6 v9 → RG σ → Shp dm ra jx rm σ → JJ p l e R s m args below meth c 12 D cA A n0 s0 QM σ 270 [(0, .ref rm), (3, .long v3), (6, .long v6), (9, .int (i32 v9))] []) : ∀ (σ : Sg) (v3 : Int64) (v6 : Int64) (v9 : Int) (v10 : Int) (g9 : rng v9) (g10 : rng v10), w_X16_topOf_300 ra jx rm K270 Q X σ v3 v6 v9 v10 → RG σ → Shp dm ra jx rm σ → JJ p l e R s m args below meth c 12 D cA A n0 s0 QM σ 300 [(0, .ref rm), (3, .long v3), (6, .long v6), (9, .int (i32 v9)), (10, .int (i32 v10))] [] := by
  intro σ v3 v6 v9 v10 g9 g10 h hGσ hS H locs ls hH hl hc
  have B := K.1
  unfold w_X16_topOf_300 at h
  refine lv_aload_n B.1 B.2.1 dX16_topOf_300 rfl (lv_at hl 0 rfl) ?_
  refine lv_iload B.1 B.2.1 dX16_topOf_301 (lv_at hl 3 rfl) ?_
  refine c_V B hH hl hc K.2.2.1 (C := RX16) (T := TX16) (N := 123) (ci := 16) (As := [.int (i32 v9)]) (ok_X16_drop K.2.1 σ v9 g9 hGσ hS h) wc_X16_607 1 hd_X16_drop ⟨Nat.le_trans (Nat.le_of_ble_eq_true rfl) K.2.2.2.1, Nat.le_trans (Nat.le_of_ble_eq_true rfl) K.2.2.2.2.1⟩ hS.1.1 hS.1.2 (by decide) rfl rfl (rest := []) rfl (Nat.le_of_ble_eq_true rfl) dX16_topOf_303 (fun σ19 w hq => ?_) (fun σ9 E9 hx9 => hX σ9 E9 _ _ _ (tb_out K.2.2.2.2.2 rfl) hx9.1 hx9.2.1 hx9.2.2)
  obtain ⟨rfl, h, hGσ19, hS⟩ := hq
  intro H locs ls hH hl hc
  refine W.eq (g2 := F0 m 306 ls []) (rfl) ?_
  try dsimp only at h
  exact a_X16_topOf_306 K hQ hX hK270 _ _ _ _ g10 h hGσ19 hS _ _ _ hH (lv_sub (l' := [(0, .ref rm), (3, .long v3), (6, .long v6), (10, .int (i32 v10))]) hl [0, 1, 2, 4] rfl) hc
set_option maxRecDepth 20000 in
theorem a_X16_topOf_276 {Q : Sg → Unit → Prop} {X : Sg → String → Prop} (K : MC R p s m args c cX16_topOf 12 RX16 D cA tys A n0 s0 3 79 []) (hQ : HQV p l e R s m args below meth c cX16_topOf D cA A n0 s0 QM dm ra jx rm Q) (hX : HX p l e R s m args below meth c 12 D cA A n0 s0 QM dm ra jx rm X) {K270 : Sg → Int64 → Int64 → Int → Prop} (hK270 : ∀ (σ : Sg) (v3 : Int64) (v6 : Int64) (v9 : Int) (g9 : rng v9), K270 σ v3 v6 v9 → RG σ → Shp dm ra jx rm σ → JJ p l e R s m args below meth c 12 D cA A n0 s0 QM σ 270 [(0, .ref rm), (3, .long v3), (6, .long v6), (9, .int (i32 v9))] []) : ∀ (σ : Sg) (v3 : Int64) (v6 : Int64) (v9 : Int) (g9 : rng v9), w_X16_topOf_276 ra jx rm K270 Q X σ v3 v6 v9 → RG σ → Shp dm ra jx rm σ → JJ p l e R s m args below meth c 12 D cA A n0 s0 QM σ 276 [(0, .ref rm), (3, .long v3), (6, .long v6), (9, .int (i32 v9))] [] := by
  intro σ v3 v6 v9 g9 h hGσ hS H locs ls hH hl hc
  have B := K.1
  unfold w_X16_topOf_276 at h
  refine lv_aload_n B.1 B.2.1 dX16_topOf_276 rfl (lv_at hl 0 rfl) ?_
  refine r_arr B hH hS 75 (kd := 100) (n := 4000) (by decide) (by decide) wf_X16_495 rfl rfl dX16_topOf_277 ?_
  refine lv_iload B.1 B.2.1 dX16_topOf_280 (lv_at hl 3 rfl) ?_
  obtain ⟨q1, h⟩ := h
  refine x_iald B K.2.1 hH (hS.ar (k := 75) (kd := 100) (n := 4000) (by decide)) (by decide) q1 dX16_topOf_282 ?_
  refine lv_istore (lv' := [(10, .int (i32 (gI σ (ra 75) v9.toNat))), (0, .ref rm), (3, .long v3), (6, .long v6), (9, .int (i32 v9))]) B.1 B.2.1 dX16_topOf_283 hl (by decide) rfl (fun ls hl => ?_)
  refine lv_aload_n B.1 B.2.1 dX16_topOf_285 rfl (lv_at hl 1 rfl) ?_
  refine r_arr B hH hS 71 (kd := 101) (n := 4000) (by decide) (by decide) wf_X16_522 rfl rfl dX16_topOf_286 ?_
  refine lv_iload B.1 B.2.1 dX16_topOf_289 (lv_at hl 4 rfl) ?_
  obtain ⟨q2, h⟩ := h
  refine x_lald B K.2.1 hH (hS.ar (k := 71) (kd := 101) (n := 4000) (by decide)) (by decide) q2 dX16_topOf_291 ?_
  refine lv_lload B.1 B.2.1 dX16_topOf_292 (lv_at hl 3 rfl) ?_
  obtain ⟨q3, h⟩ := h
  refine lv_ldiv B.1 B.2.1 dX16_topOf_294 q3 ?_
  refine lv_lload_n B.1 B.2.1 dX16_topOf_295 rfl (lv_at hl 2 rfl) ?_
  refine W.lcmp B.1 B.2.1 dX16_topOf_296 ?_
  refine lv_if_ne (tgt := 306) B.1 B.2.1 dX16_topOf_297 (by decide) (fun h9 => ?_) (fun h9 => ?_)
  · rw [if_pos (fun q => h9 ((lg_cmp_eq _ _).mpr q))] at h
    exact a_X16_topOf_306 K hQ hX hK270 _ _ _ _ (hGσ _ _) h hGσ hS _ _ _ hH (lv_sub (l' := [(0, .ref rm), (3, .long v3), (6, .long v6), (10, .int (i32 (gI σ (ra 75) v9.toNat)))]) hl [1, 2, 3, 0] rfl) hc
  · rw [if_neg (fun q => q ((lg_cmp_eq _ _).mp h9))] at h
    exact a_X16_topOf_300 K hQ hX hK270 _ _ _ _ _ g9 (hGσ _ _) h hGσ hS _ _ _ hH (lv_sub (l' := [(0, .ref rm), (3, .long v3), (6, .long v6), (9, .int (i32 v9)), (10, .int (i32 (gI σ (ra 75) v9.toNat)))]) hl [1, 2, 3, 4, 0] rfl) hc
set_option maxRecDepth 20000 in
theorem a_X16_topOf_270 {Q : Sg → Unit → Prop} {X : Sg → String → Prop} (K : MC R p s m args c cX16_topOf 12 RX16 D cA tys A n0 s0 3 79 []) (hQ : HQV p l e R s m args below meth c cX16_topOf D cA A n0 s0 QM dm ra jx rm Q) (hX : HX p l e R s m args below meth c 12 D cA A n0 s0 QM dm ra jx rm X) {K270 : Sg → Int64 → Int64 → Int → Prop} (hK270 : ∀ (σ : Sg) (v3 : Int64) (v6 : Int64) (v9 : Int) (g9 : rng v9), K270 σ v3 v6 v9 → RG σ → Shp dm ra jx rm σ → JJ p l e R s m args below meth c 12 D cA A n0 s0 QM σ 270 [(0, .ref rm), (3, .long v3), (6, .long v6), (9, .int (i32 v9))] []) : ∀ (σ : Sg) (v3 : Int64) (v6 : Int64) (v9 : Int) (g9 : rng v9), w_X16_topOf_270 ra jx rm K270 Q X σ v3 v6 v9 → RG σ → Shp dm ra jx rm σ → JJ p l e R s m args below meth c 12 D cA A n0 s0 QM σ 270 [(0, .ref rm), (3, .long v3), (6, .long v6), (9, .int (i32 v9))] [] := by
  intro σ v3 v6 v9 g9 h hGσ hS H locs ls hH hl hc
  have B := K.1
  unfold w_X16_topOf_270 at h
  refine lv_iload B.1 B.2.1 dX16_topOf_270 (lv_at hl 3 rfl) ?_
  refine lv_iconst (v := i32 (-1)) B.1 B.2.1 dX16_topOf_272 (by decide) ?_
  refine lv_icmp_eq (tgt := 313) B.1 B.2.1 dX16_topOf_273 (by decide) (fun h9 => ?_) (fun h9 => ?_)
  · rw [if_pos ((i32_eq g9 (by unfold rng; omega)).mp h9)] at h
    exact a_X16_topOf_313 K hQ hX _ h hGσ hS _ _ _ hH (lv_sub (l' := [(0, .ref rm)]) hl [0] rfl) hc
  · rw [if_neg (fun q => h9 ((i32_eq g9 (by unfold rng; omega)).mpr q))] at h
    exact a_X16_topOf_276 K hQ hX hK270 _ _ _ _ g9 h hGσ hS _ _ _ hH (lv_sub (l' := [(0, .ref rm), (3, .long v3), (6, .long v6), (9, .int (i32 v9))]) hl [0, 1, 2, 3] rfl) hc
theorem al_X16_topOf_270 {Q : Sg → Unit → Prop} {X : Sg → String → Prop} (K : MC R p s m args c cX16_topOf 12 RX16 D cA tys A n0 s0 3 79 []) (hQ : HQV p l e R s m args below meth c cX16_topOf D cA A n0 s0 QM dm ra jx rm Q) (hX : HX p l e R s m args below meth c 12 D cA A n0 s0 QM dm ra jx rm X) : ∀ (n : Nat), ∀ (σ : Sg) (v3 : Int64) (v6 : Int64) (v9 : Int) (g9 : rng v9), wl_X16_topOf_270 ra jx rm Q X n σ v3 v6 v9 → RG σ → Shp dm ra jx rm σ → JJ p l e R s m args below meth c 12 D cA A n0 s0 QM σ 270 [(0, .ref rm), (3, .long v3), (6, .long v6), (9, .int (i32 v9))] [] := by
  intro n
  induction n with
  | zero => intro σ v3 v6 v9 g9 h; exact h.elim
  | succ n ih => exact fun σ v3 v6 v9 g9 h => a_X16_topOf_270 K hQ hX ih σ v3 v6 v9 g9 h
set_option maxRecDepth 20000 in
theorem a_X16_topOf_262 {Q : Sg → Unit → Prop} {X : Sg → String → Prop} (K : MC R p s m args c cX16_topOf 12 RX16 D cA tys A n0 s0 3 79 []) (hQ : HQV p l e R s m args below meth c cX16_topOf D cA A n0 s0 QM dm ra jx rm Q) (hX : HX p l e R s m args below meth c 12 D cA A n0 s0 QM dm ra jx rm X) : ∀ (σ : Sg) (v1 : Int) (v3 : Int64) (v6 : Int64) (g1 : rng v1), w_X16_topOf_262 ra jx rm Q X σ v1 v3 v6 → RG σ → Shp dm ra jx rm σ → JJ p l e R s m args below meth c 12 D cA A n0 s0 QM σ 262 [(0, .ref rm), (1, .int (i32 v1)), (3, .long v3), (6, .long v6)] [] := by
  intro σ v1 v3 v6 g1 h hGσ hS H locs ls hH hl hc
  have B := K.1
  unfold w_X16_topOf_262 at h
  refine lv_aload_n B.1 B.2.1 dX16_topOf_262 rfl (lv_at hl 0 rfl) ?_
  refine r_arr B hH hS 76 (kd := 100) (n := 64) (by decide) (by decide) wf_X16_504 rfl rfl dX16_topOf_263 ?_
  refine lv_iload_n B.1 B.2.1 dX16_topOf_266 rfl (lv_at hl 1 rfl) ?_
  obtain ⟨q1, h⟩ := h
  refine x_iald B K.2.1 hH (hS.ar (k := 76) (kd := 100) (n := 64) (by decide)) (by decide) q1 dX16_topOf_267 ?_
  refine lv_istore (lv' := [(9, .int (i32 (gI σ (ra 76) v1.toNat))), (0, .ref rm), (1, .int (i32 v1)), (3, .long v3), (6, .long v6)]) B.1 B.2.1 dX16_topOf_268 hl (by decide) rfl (fun ls hl => ?_)
  obtain ⟨n9, h⟩ := h
  exact al_X16_topOf_270 K hQ hX n9 _ _ _ _ (hGσ _ _) h hGσ hS _ _ _ hH (lv_sub (l' := [(0, .ref rm), (3, .long v3), (6, .long v6), (9, .int (i32 (gI σ (ra 76) v1.toNat)))]) hl [1, 3, 4, 0] rfl) hc
set_option maxRecDepth 20000 in
theorem a_X16_topOf_256 {Q : Sg → Unit → Prop} {X : Sg → String → Prop} (K : MC R p s m args c cX16_topOf 12 RX16 D cA tys A n0 s0 3 79 []) (hQ : HQV p l e R s m args below meth c cX16_topOf D cA A n0 s0 QM dm ra jx rm Q) (hX : HX p l e R s m args below meth c 12 D cA A n0 s0 QM dm ra jx rm X) {K14 : Sg → Int → Int → Int64 → Int → Int64 → Int → Int → Prop} (hK14 : ∀ (σ : Sg) (v1 : Int) (v2 : Int) (v3 : Int64) (v5 : Int) (v6 : Int64) (v8 : Int) (v9 : Int) (g1 : rng v1) (g2 : rng v2) (g5 : rng v5) (g8 : rng v8) (g9 : rng v9), K14 σ v1 v2 v3 v5 v6 v8 v9 → RG σ → Shp dm ra jx rm σ → JJ p l e R s m args below meth c 12 D cA A n0 s0 QM σ 14 [(0, .ref rm), (1, .int (i32 v1)), (2, .int (i32 v2)), (3, .long v3), (5, .int (i32 v5)), (6, .long v6), (8, .int (i32 v8)), (9, .int (i32 v9))] []) : ∀ (σ : Sg) (v1 : Int) (v2 : Int) (v3 : Int64) (v5 : Int) (v6 : Int64) (v8 : Int) (v9 : Int) (g1 : rng v1) (g2 : rng v2) (g5 : rng v5) (g8 : rng v8) (g9 : rng v9), w_X16_topOf_256 ra jx rm K14 Q X σ v1 v2 v3 v5 v6 v8 v9 → RG σ → Shp dm ra jx rm σ → JJ p l e R s m args below meth c 12 D cA A n0 s0 QM σ 256 [(0, .ref rm), (1, .int (i32 v1)), (2, .int (i32 v2)), (3, .long v3), (5, .int (i32 v5)), (6, .long v6), (8, .int (i32 v8)), (9, .int (i32 v9))] [] := by
  intro σ v1 v2 v3 v5 v6 v8 v9 g1 g2 g5 g8 g9 h hGσ hS H locs ls hH hl hc
  have B := K.1
  unfold w_X16_topOf_256 at h
  obtain ⟨q1, h⟩ := h
  refine lv_iinc (k := 7) (v := i32 (v9 + 1)) (lv' := [(9, .int (i32 (v9 + 1))), (0, .ref rm), (1, .int (i32 v1)), (2, .int (i32 v2)), (3, .long v3), (5, .int (i32 v5)), (6, .long v6), (8, .int (i32 v8))]) B.1 B.2.1 dX16_topOf_256 hl rfl (i32_add _ _) (by decide) rfl (fun ls hl => ?_)
  refine lv_goto (tgt := 14) B.1 B.2.1 dX16_topOf_259 (by decide) ?_
  exact hK14 _ _ _ _ _ _ _ _ g1 g2 g5 g8 q1 h hGσ hS _ _ _ hH (lv_sub (l' := [(0, .ref rm), (1, .int (i32 v1)), (2, .int (i32 v2)), (3, .long v3), (5, .int (i32 v5)), (6, .long v6), (8, .int (i32 v8)), (9, .int (i32 (v9 + 1)))]) hl [1, 2, 3, 4, 5, 6, 7, 0] rfl) hc
set_option maxRecDepth 20000 in
theorem a_X16_topOf_210 {Q : Sg → Unit → Prop} {X : Sg → String → Prop} (K : MC R p s m args c cX16_topOf 12 RX16 D cA tys A n0 s0 3 79 []) (hQ : HQV p l e R s m args below meth c cX16_topOf D cA A n0 s0 QM dm ra jx rm Q) (hX : HX p l e R s m args below meth c 12 D cA A n0 s0 QM dm ra jx rm X) {K14 : Sg → Int → Int → Int64 → Int → Int64 → Int → Int → Prop} (hK14 : ∀ (σ : Sg) (v1 : Int) (v2 : Int) (v3 : Int64) (v5 : Int) (v6 : Int64) (v8 : Int) (v9 : Int) (g1 : rng v1) (g2 : rng v2) (g5 : rng v5) (g8 : rng v8) (g9 : rng v9), K14 σ v1 v2 v3 v5 v6 v8 v9 → RG σ → Shp dm ra jx rm σ → JJ p l e R s m args below meth c 12 D cA A n0 s0 QM σ 14 [(0, .ref rm), (1, .int (i32 v1)), (2, .int (i32 v2)), (3, .long v3), (5, .int (i32 v5)), (6, .long v6), (8, .int (i32 v8)), (9, .int (i32 v9))] []) : ∀ (σ : Sg) (v1 : Int) (v2 : Int) (v3 : Int64) (v5 : Int) (v6 : Int64) (v8 : Int) (v9 : Int) (v10 : Int) (g1 : rng v1) (g2 : rng v2) (g5 : rng v5) (g8 : rng v8) (g9 : rng v9) (g10 : rng v10), w_X16_topOf_210 ra jx rm K14 Q X σ v1 v2 v3 v5 v6 v8 v9 v10 → RG σ → Shp dm ra jx rm σ → JJ p l e R s m args below meth c 12 D cA A n0 s0 QM σ 210 [(0, .ref rm), (1, .int (i32 v1)), (2, .int (i32 v2)), (3, .long v3), (5, .int (i32 v5)), (6, .long v6), (8, .int (i32 v8)), (9, .int (i32 v9)), (10, .int (i32 v10))] [] := by
  intro σ v1 v2 v3 v5 v6 v8 v9 v10 g1 g2 g5 g8 g9 g10 h hGσ hS H locs ls hH hl hc
  have B := K.1
  unfold w_X16_topOf_210 at h
  refine lv_aload_n B.1 B.2.1 dX16_topOf_210 rfl (lv_at hl 0 rfl) ?_
  refine r_arr B hH hS 82 (kd := 101) (n := 16) (by decide) (by decide) wf_X16_578 rfl rfl dX16_topOf_211 ?_
  refine lv_iload B.1 B.2.1 dX16_topOf_214 (lv_at hl 4 rfl) ?_
  refine lv_iload B.1 B.2.1 dX16_topOf_216 (lv_at hl 7 rfl) ?_
  refine lv_i2l B.1 B.2.1 dX16_topOf_218 (i32_i64 g9) ?_
  obtain ⟨q1, h⟩ := h
  obtain ⟨σ20, eσ20⟩ : ∃ z, z = pJ σ (ra 82) v5.toNat (Int64.ofInt v9) := ⟨_, rfl⟩
  have h := h σ20 eσ20
  refine x_last B K.2.1 hH (hS.ar (k := 82) (kd := 101) (n := 16) (by decide)) (by decide) q1 dX16_topOf_219 (fun H locs hH => ?_)
  have hH : Hd D cA A s (pJ σ (ra 82) v5.toNat (Int64.ofInt v9)) H locs := hH
  rw [← eσ20] at hH
  have hGσ20 : RG σ20 := by rw [eσ20]; exact hGσ.pJ
  have hS : Shp dm ra jx rm σ20 := by rw [eσ20]; exact hS
  have hc : CB n0 s0 σ20 := by rw [eσ20]; exact hc
  rw [show gc σ = gc σ20 by rw [eσ20], show gs σ = gs σ20 by rw [eσ20]]
  refine lv_aload_n B.1 B.2.1 dX16_topOf_220 rfl (lv_at hl 0 rfl) ?_
  refine r_arr B hH hS 74 (kd := 100) (n := 4000) (by decide) (by decide) wf_X16_531 rfl rfl dX16_topOf_221 ?_
  refine lv_iload B.1 B.2.1 dX16_topOf_224 (lv_at hl 8 rfl) ?_
  obtain ⟨q3, h⟩ := h
  refine x_iald B K.2.1 hH (hS.ar (k := 74) (kd := 100) (n := 4000) (by decide)) (by decide) q3 dX16_topOf_226 ?_
  refine lv_istore (lv' := [(11, .int (i32 (gI σ20 (ra 74) v10.toNat))), (0, .ref rm), (1, .int (i32 v1)), (2, .int (i32 v2)), (3, .long v3), (5, .int (i32 v5)), (6, .long v6), (8, .int (i32 v8)), (9, .int (i32 v9)), (10, .int (i32 v10))]) B.1 B.2.1 dX16_topOf_227 hl (by decide) rfl (fun ls hl => ?_)
  refine lv_aload_n B.1 B.2.1 dX16_topOf_229 rfl (lv_at hl 1 rfl) ?_
  refine lv_iload B.1 B.2.1 dX16_topOf_230 (lv_at hl 9 rfl) ?_
  refine c_V B hH hl hc K.2.2.1 (C := RX16) (T := TX16) (N := 123) (ci := 16) (As := [.int (i32 v10)]) (ok_X16_drop K.2.1 σ20 v10 g10 hGσ20 hS h) wc_X16_607 1 hd_X16_drop ⟨Nat.le_trans (Nat.le_of_ble_eq_true rfl) K.2.2.2.1, Nat.le_trans (Nat.le_of_ble_eq_true rfl) K.2.2.2.2.1⟩ hS.1.1 hS.1.2 (by decide) rfl rfl (rest := []) rfl (Nat.le_of_ble_eq_true rfl) dX16_topOf_232 (fun σ21 w hq => ?_) (fun σ9 E9 hx9 => hX σ9 E9 _ _ _ (tb_out K.2.2.2.2.2 rfl) hx9.1 hx9.2.1 hx9.2.2)
  obtain ⟨rfl, h, hGσ21, hS⟩ := hq
  intro H locs ls hH hl hc
  refine W.eq (g2 := F0 m 235 ls []) (rfl) ?_
  try dsimp only at h
  refine lv_aload_n B.1 B.2.1 dX16_topOf_235 rfl (lv_at hl 1 rfl) ?_
  refine lv_iload_n B.1 B.2.1 dX16_topOf_236 rfl (lv_at hl 2 rfl) ?_
  refine lv_lload_n B.1 B.2.1 dX16_topOf_237 rfl (lv_at hl 4 rfl) ?_
  refine lv_lload B.1 B.2.1 dX16_topOf_238 (lv_at hl 6 rfl) ?_
  refine lv_lmul B.1 B.2.1 dX16_topOf_240 ?_
  refine lv_lload B.1 B.2.1 dX16_topOf_241 (lv_at hl 6 rfl) ?_
  refine lv_ladd B.1 B.2.1 dX16_topOf_243 ?_
  refine lv_lconst (v := 1) B.1 B.2.1 dX16_topOf_244 (by decide) ?_
  refine lv_lsub B.1 B.2.1 dX16_topOf_245 ?_
  refine lv_aload_n B.1 B.2.1 dX16_topOf_246 rfl (lv_at hl 1 rfl) ?_
  refine r_arr B hH hS 82 (kd := 101) (n := 16) (by decide) (by decide) wf_X16_578 rfl rfl dX16_topOf_247 ?_
  refine lv_iconst (v := i32 0) B.1 B.2.1 dX16_topOf_250 (by decide) ?_
  refine lv_iload B.1 B.2.1 dX16_topOf_251 (lv_at hl 0 rfl) ?_
  refine c_V B hH hl hc K.2.2.1 (C := RX16) (T := TX16) (N := 123) (ci := 16) (As := [.int (i32 v1), .long (((v3 * v6) + v6) - 1), va_rf (some (ra 82)), .int (i32 0), .int (i32 (gI σ20 (ra 74) v10.toNat))]) (ok_X16_emit K.2.1 σ21 v1 (((v3 * v6) + v6) - 1) (some (ra 82)) 0 (gI σ20 (ra 74) v10.toNat) g1 (by unfold rng; omega) (hGσ20 _ _) hGσ21 hS h) wc_X16_549 5 hd_X16_emit ⟨Nat.le_trans (Nat.le_of_ble_eq_true rfl) K.2.2.2.1, Nat.le_trans (Nat.le_of_ble_eq_true rfl) K.2.2.2.2.1⟩ hS.1.1 hS.1.2 (by decide) rfl rfl (rest := []) rfl (Nat.le_of_ble_eq_true rfl) dX16_topOf_253 (fun σ22 w hq => ?_) (fun σ9 E9 hx9 => hX σ9 E9 _ _ _ (tb_out K.2.2.2.2.2 rfl) hx9.1 hx9.2.1 hx9.2.2)
  obtain ⟨rfl, h, hGσ22, hS⟩ := hq
  intro H locs ls hH hl hc
  refine W.eq (g2 := F0 m 256 ls []) (rfl) ?_
  try dsimp only at h
  exact a_X16_topOf_256 K hQ hX hK14 _ _ _ _ _ _ _ _ g1 g2 g5 g8 g9 h hGσ22 hS _ _ _ hH (lv_sub (l' := [(0, .ref rm), (1, .int (i32 v1)), (2, .int (i32 v2)), (3, .long v3), (5, .int (i32 v5)), (6, .long v6), (8, .int (i32 v8)), (9, .int (i32 v9))]) hl [1, 2, 3, 4, 5, 6, 7, 8] rfl) hc
set_option maxRecDepth 20000 in
theorem a_X16_topOf_203 {Q : Sg → Unit → Prop} {X : Sg → String → Prop} (K : MC R p s m args c cX16_topOf 12 RX16 D cA tys A n0 s0 3 79 []) (hQ : HQV p l e R s m args below meth c cX16_topOf D cA A n0 s0 QM dm ra jx rm Q) (hX : HX p l e R s m args below meth c 12 D cA A n0 s0 QM dm ra jx rm X) {K14 : Sg → Int → Int → Int64 → Int → Int64 → Int → Int → Prop} (hK14 : ∀ (σ : Sg) (v1 : Int) (v2 : Int) (v3 : Int64) (v5 : Int) (v6 : Int64) (v8 : Int) (v9 : Int) (g1 : rng v1) (g2 : rng v2) (g5 : rng v5) (g8 : rng v8) (g9 : rng v9), K14 σ v1 v2 v3 v5 v6 v8 v9 → RG σ → Shp dm ra jx rm σ → JJ p l e R s m args below meth c 12 D cA A n0 s0 QM σ 14 [(0, .ref rm), (1, .int (i32 v1)), (2, .int (i32 v2)), (3, .long v3), (5, .int (i32 v5)), (6, .long v6), (8, .int (i32 v8)), (9, .int (i32 v9))] []) {K166 : Sg → Int → Int → Int64 → Int → Int64 → Int → Int → Int → Int → Prop} (hK166 : ∀ (σ : Sg) (v1 : Int) (v2 : Int) (v3 : Int64) (v5 : Int) (v6 : Int64) (v8 : Int) (v9 : Int) (v10 : Int) (v11 : Int) (g1 : rng v1) (g2 : rng v2) (g5 : rng v5) (g8 : rng v8) (g9 : rng v9) (g10 : rng v10) (g11 : rng v11), K166 σ v1 v2 v3 v5 v6 v8 v9 v10 v11 → RG σ → Shp dm ra jx rm σ → JJ p l e R s m args below meth c 12 D cA A n0 s0 QM σ 166 [(0, .ref rm), (1, .int (i32 v1)), (2, .int (i32 v2)), (3, .long v3), (5, .int (i32 v5)), (6, .long v6), (8, .int (i32 v8)), (9, .int (i32 v9)), (10, .int (i32 v10)), (11, .int (i32 v11))] []) : ∀ (σ : Sg) (v1 : Int) (v2 : Int) (v3 : Int64) (v5 : Int) (v6 : Int64) (v8 : Int) (v9 : Int) (v10 : Int) (v11 : Int) (u0 : Int64) (u1 : Int) (g1 : rng v1) (g2 : rng v2) (g5 : rng v5) (g8 : rng v8) (g9 : rng v9) (g10 : rng v10) (g11 : rng v11) (gu1 : rng u1), w_X16_topOf_203 ra jx rm K14 K166 Q X σ v1 v2 v3 v5 v6 v8 v9 v10 v11 u0 u1 → RG σ → Shp dm ra jx rm σ → JJ p l e R s m args below meth c 12 D cA A n0 s0 QM σ 203 [(0, .ref rm), (1, .int (i32 v1)), (2, .int (i32 v2)), (3, .long v3), (5, .int (i32 v5)), (6, .long v6), (8, .int (i32 v8)), (9, .int (i32 v9)), (10, .int (i32 v10)), (11, .int (i32 v11))] [.long u0, .int (i32 u1), .ref (ra 82)] := by
  intro σ v1 v2 v3 v5 v6 v8 v9 v10 v11 u0 u1 g1 g2 g5 g8 g9 g10 g11 gu1 h hGσ hS H locs ls hH hl hc
  have B := K.1
  unfold w_X16_topOf_203 at h
  obtain ⟨q1, h⟩ := h
  obtain ⟨σ23, eσ23⟩ : ∃ z, z = pJ σ (ra 82) u1.toNat u0 := ⟨_, rfl⟩
  have h := h σ23 eσ23
  refine x_last B K.2.1 hH (hS.ar (k := 82) (kd := 101) (n := 16) (by decide)) (by decide) q1 dX16_topOf_203 (fun H locs hH => ?_)
  have hH : Hd D cA A s (pJ σ (ra 82) u1.toNat u0) H locs := hH
  rw [← eσ23] at hH
  have hGσ23 : RG σ23 := by rw [eσ23]; exact hGσ.pJ
  have hS : Shp dm ra jx rm σ23 := by rw [eσ23]; exact hS
  have hc : CB n0 s0 σ23 := by rw [eσ23]; exact hc
  rw [show gc σ = gc σ23 by rw [eσ23], show gs σ = gs σ23 by rw [eσ23]]
  obtain ⟨q3, h⟩ := h
  refine lv_iinc (k := 9) (v := i32 (v11 + 1)) (lv' := [(11, .int (i32 (v11 + 1))), (0, .ref rm), (1, .int (i32 v1)), (2, .int (i32 v2)), (3, .long v3), (5, .int (i32 v5)), (6, .long v6), (8, .int (i32 v8)), (9, .int (i32 v9)), (10, .int (i32 v10))]) B.1 B.2.1 dX16_topOf_204 hl rfl (i32_add _ _) (by decide) rfl (fun ls hl => ?_)
  refine lv_goto (tgt := 166) B.1 B.2.1 dX16_topOf_207 (by decide) ?_
  exact hK166 _ _ _ _ _ _ _ _ _ _ g1 g2 g5 g8 g9 g10 q3 h hGσ23 hS _ _ _ hH (lv_sub (l' := [(0, .ref rm), (1, .int (i32 v1)), (2, .int (i32 v2)), (3, .long v3), (5, .int (i32 v5)), (6, .long v6), (8, .int (i32 v8)), (9, .int (i32 v9)), (10, .int (i32 v10)), (11, .int (i32 (v11 + 1)))]) hl [1, 2, 3, 4, 5, 6, 7, 8, 9, 0] rfl) hc
set_option maxRecDepth 20000 in
theorem a_X16_topOf_202 {Q : Sg → Unit → Prop} {X : Sg → String → Prop} (K : MC R p s m args c cX16_topOf 12 RX16 D cA tys A n0 s0 3 79 []) (hQ : HQV p l e R s m args below meth c cX16_topOf D cA A n0 s0 QM dm ra jx rm Q) (hX : HX p l e R s m args below meth c 12 D cA A n0 s0 QM dm ra jx rm X) {K14 : Sg → Int → Int → Int64 → Int → Int64 → Int → Int → Prop} (hK14 : ∀ (σ : Sg) (v1 : Int) (v2 : Int) (v3 : Int64) (v5 : Int) (v6 : Int64) (v8 : Int) (v9 : Int) (g1 : rng v1) (g2 : rng v2) (g5 : rng v5) (g8 : rng v8) (g9 : rng v9), K14 σ v1 v2 v3 v5 v6 v8 v9 → RG σ → Shp dm ra jx rm σ → JJ p l e R s m args below meth c 12 D cA A n0 s0 QM σ 14 [(0, .ref rm), (1, .int (i32 v1)), (2, .int (i32 v2)), (3, .long v3), (5, .int (i32 v5)), (6, .long v6), (8, .int (i32 v8)), (9, .int (i32 v9))] []) {K166 : Sg → Int → Int → Int64 → Int → Int64 → Int → Int → Int → Int → Prop} (hK166 : ∀ (σ : Sg) (v1 : Int) (v2 : Int) (v3 : Int64) (v5 : Int) (v6 : Int64) (v8 : Int) (v9 : Int) (v10 : Int) (v11 : Int) (g1 : rng v1) (g2 : rng v2) (g5 : rng v5) (g8 : rng v8) (g9 : rng v9) (g10 : rng v10) (g11 : rng v11), K166 σ v1 v2 v3 v5 v6 v8 v9 v10 v11 → RG σ → Shp dm ra jx rm σ → JJ p l e R s m args below meth c 12 D cA A n0 s0 QM σ 166 [(0, .ref rm), (1, .int (i32 v1)), (2, .int (i32 v2)), (3, .long v3), (5, .int (i32 v5)), (6, .long v6), (8, .int (i32 v8)), (9, .int (i32 v9)), (10, .int (i32 v10)), (11, .int (i32 v11))] []) : ∀ (σ : Sg) (v1 : Int) (v2 : Int) (v3 : Int64) (v5 : Int) (v6 : Int64) (v8 : Int) (v9 : Int) (v10 : Int) (v11 : Int) (u0 : Int) (g1 : rng v1) (g2 : rng v2) (g5 : rng v5) (g8 : rng v8) (g9 : rng v9) (g10 : rng v10) (g11 : rng v11) (gu0 : rng u0), w_X16_topOf_202 ra jx rm K14 K166 Q X σ v1 v2 v3 v5 v6 v8 v9 v10 v11 u0 → RG σ → Shp dm ra jx rm σ → JJ p l e R s m args below meth c 12 D cA A n0 s0 QM σ 202 [(0, .ref rm), (1, .int (i32 v1)), (2, .int (i32 v2)), (3, .long v3), (5, .int (i32 v5)), (6, .long v6), (8, .int (i32 v8)), (9, .int (i32 v9)), (10, .int (i32 v10)), (11, .int (i32 v11))] [.int (i32 u0), .ref (ra 82)] := by
  intro σ v1 v2 v3 v5 v6 v8 v9 v10 v11 u0 g1 g2 g5 g8 g9 g10 g11 gu0 h hGσ hS H locs ls hH hl hc
  have B := K.1
  unfold w_X16_topOf_202 at h
  refine lv_lconst (v := 0) B.1 B.2.1 dX16_topOf_202 (by decide) ?_
  exact a_X16_topOf_203 K hQ hX hK14 hK166 _ _ _ _ _ _ _ _ _ _ _ _ g1 g2 g5 g8 g9 g10 g11 gu0 h hGσ hS _ _ _ hH (lv_sub (l' := [(0, .ref rm), (1, .int (i32 v1)), (2, .int (i32 v2)), (3, .long v3), (5, .int (i32 v5)), (6, .long v6), (8, .int (i32 v8)), (9, .int (i32 v9)), (10, .int (i32 v10)), (11, .int (i32 v11))]) hl [0, 1, 2, 3, 4, 5, 6, 7, 8, 9] rfl) hc
set_option maxRecDepth 20000 in
theorem a_X16_topOf_186 {Q : Sg → Unit → Prop} {X : Sg → String → Prop} (K : MC R p s m args c cX16_topOf 12 RX16 D cA tys A n0 s0 3 79 []) (hQ : HQV p l e R s m args below meth c cX16_topOf D cA A n0 s0 QM dm ra jx rm Q) (hX : HX p l e R s m args below meth c 12 D cA A n0 s0 QM dm ra jx rm X) {K14 : Sg → Int → Int → Int64 → Int → Int64 → Int → Int → Prop} (hK14 : ∀ (σ : Sg) (v1 : Int) (v2 : Int) (v3 : Int64) (v5 : Int) (v6 : Int64) (v8 : Int) (v9 : Int) (g1 : rng v1) (g2 : rng v2) (g5 : rng v5) (g8 : rng v8) (g9 : rng v9), K14 σ v1 v2 v3 v5 v6 v8 v9 → RG σ → Shp dm ra jx rm σ → JJ p l e R s m args below meth c 12 D cA A n0 s0 QM σ 14 [(0, .ref rm), (1, .int (i32 v1)), (2, .int (i32 v2)), (3, .long v3), (5, .int (i32 v5)), (6, .long v6), (8, .int (i32 v8)), (9, .int (i32 v9))] []) {K166 : Sg → Int → Int → Int64 → Int → Int64 → Int → Int → Int → Int → Prop} (hK166 : ∀ (σ : Sg) (v1 : Int) (v2 : Int) (v3 : Int64) (v5 : Int) (v6 : Int64) (v8 : Int) (v9 : Int) (v10 : Int) (v11 : Int) (g1 : rng v1) (g2 : rng v2) (g5 : rng v5) (g8 : rng v8) (g9 : rng v9) (g10 : rng v10) (g11 : rng v11), K166 σ v1 v2 v3 v5 v6 v8 v9 v10 v11 → RG σ → Shp dm ra jx rm σ → JJ p l e R s m args below meth c 12 D cA A n0 s0 QM σ 166 [(0, .ref rm), (1, .int (i32 v1)), (2, .int (i32 v2)), (3, .long v3), (5, .int (i32 v5)), (6, .long v6), (8, .int (i32 v8)), (9, .int (i32 v9)), (10, .int (i32 v10)), (11, .int (i32 v11))] []) : ∀ (σ : Sg) (v1 : Int) (v2 : Int) (v3 : Int64) (v5 : Int) (v6 : Int64) (v8 : Int) (v9 : Int) (v10 : Int) (v11 : Int) (u0 : Int) (g1 : rng v1) (g2 : rng v2) (g5 : rng v5) (g8 : rng v8) (g9 : rng v9) (g10 : rng v10) (g11 : rng v11) (gu0 : rng u0), w_X16_topOf_186 ra jx rm K14 K166 Q X σ v1 v2 v3 v5 v6 v8 v9 v10 v11 u0 → RG σ → Shp dm ra jx rm σ → JJ p l e R s m args below meth c 12 D cA A n0 s0 QM σ 186 [(0, .ref rm), (1, .int (i32 v1)), (2, .int (i32 v2)), (3, .long v3), (5, .int (i32 v5)), (6, .long v6), (8, .int (i32 v8)), (9, .int (i32 v9)), (10, .int (i32 v10)), (11, .int (i32 v11))] [.int (i32 u0), .ref (ra 82)] := by
  intro σ v1 v2 v3 v5 v6 v8 v9 v10 v11 u0 g1 g2 g5 g8 g9 g10 g11 gu0 h hGσ hS H locs ls hH hl hc
  have B := K.1
  unfold w_X16_topOf_186 at h
  refine lv_aload_n B.1 B.2.1 dX16_topOf_186 rfl (lv_at hl 0 rfl) ?_
  refine r_arr B hH hS 73 (kd := 101) (n := 32000) (by decide) (by decide) wf_X16_528 rfl rfl dX16_topOf_187 ?_
  refine lv_bipush (v := i32 8) B.1 B.2.1 dX16_topOf_190 (by decide) ?_
  refine lv_iload B.1 B.2.1 dX16_topOf_192 (lv_at hl 8 rfl) ?_
  obtain ⟨q1, h⟩ := h
  refine lv_imul B.1 B.2.1 dX16_topOf_194 ?_
  rw [i32_mul]
  refine lv_iload B.1 B.2.1 dX16_topOf_195 (lv_at hl 9 rfl) ?_
  obtain ⟨q2, h⟩ := h
  refine lv_iadd B.1 B.2.1 dX16_topOf_197 ?_
  rw [i32_add]
  obtain ⟨q3, h⟩ := h
  refine x_lald B K.2.1 hH (hS.ar (k := 73) (kd := 101) (n := 32000) (by decide)) (by decide) q3 dX16_topOf_198 ?_
  refine lv_goto (tgt := 203) B.1 B.2.1 dX16_topOf_199 (by decide) ?_
  exact a_X16_topOf_203 K hQ hX hK14 hK166 _ _ _ _ _ _ _ _ _ _ _ _ g1 g2 g5 g8 g9 g10 g11 gu0 h hGσ hS _ _ _ hH (lv_sub (l' := [(0, .ref rm), (1, .int (i32 v1)), (2, .int (i32 v2)), (3, .long v3), (5, .int (i32 v5)), (6, .long v6), (8, .int (i32 v8)), (9, .int (i32 v9)), (10, .int (i32 v10)), (11, .int (i32 v11))]) hl [0, 1, 2, 3, 4, 5, 6, 7, 8, 9] rfl) hc
set_option maxRecDepth 20000 in
theorem a_X16_topOf_173 {Q : Sg → Unit → Prop} {X : Sg → String → Prop} (K : MC R p s m args c cX16_topOf 12 RX16 D cA tys A n0 s0 3 79 []) (hQ : HQV p l e R s m args below meth c cX16_topOf D cA A n0 s0 QM dm ra jx rm Q) (hX : HX p l e R s m args below meth c 12 D cA A n0 s0 QM dm ra jx rm X) {K14 : Sg → Int → Int → Int64 → Int → Int64 → Int → Int → Prop} (hK14 : ∀ (σ : Sg) (v1 : Int) (v2 : Int) (v3 : Int64) (v5 : Int) (v6 : Int64) (v8 : Int) (v9 : Int) (g1 : rng v1) (g2 : rng v2) (g5 : rng v5) (g8 : rng v8) (g9 : rng v9), K14 σ v1 v2 v3 v5 v6 v8 v9 → RG σ → Shp dm ra jx rm σ → JJ p l e R s m args below meth c 12 D cA A n0 s0 QM σ 14 [(0, .ref rm), (1, .int (i32 v1)), (2, .int (i32 v2)), (3, .long v3), (5, .int (i32 v5)), (6, .long v6), (8, .int (i32 v8)), (9, .int (i32 v9))] []) {K166 : Sg → Int → Int → Int64 → Int → Int64 → Int → Int → Int → Int → Prop} (hK166 : ∀ (σ : Sg) (v1 : Int) (v2 : Int) (v3 : Int64) (v5 : Int) (v6 : Int64) (v8 : Int) (v9 : Int) (v10 : Int) (v11 : Int) (g1 : rng v1) (g2 : rng v2) (g5 : rng v5) (g8 : rng v8) (g9 : rng v9) (g10 : rng v10) (g11 : rng v11), K166 σ v1 v2 v3 v5 v6 v8 v9 v10 v11 → RG σ → Shp dm ra jx rm σ → JJ p l e R s m args below meth c 12 D cA A n0 s0 QM σ 166 [(0, .ref rm), (1, .int (i32 v1)), (2, .int (i32 v2)), (3, .long v3), (5, .int (i32 v5)), (6, .long v6), (8, .int (i32 v8)), (9, .int (i32 v9)), (10, .int (i32 v10)), (11, .int (i32 v11))] []) : ∀ (σ : Sg) (v1 : Int) (v2 : Int) (v3 : Int64) (v5 : Int) (v6 : Int64) (v8 : Int) (v9 : Int) (v10 : Int) (v11 : Int) (g1 : rng v1) (g2 : rng v2) (g5 : rng v5) (g8 : rng v8) (g9 : rng v9) (g10 : rng v10) (g11 : rng v11), w_X16_topOf_173 ra jx rm K14 K166 Q X σ v1 v2 v3 v5 v6 v8 v9 v10 v11 → RG σ → Shp dm ra jx rm σ → JJ p l e R s m args below meth c 12 D cA A n0 s0 QM σ 173 [(0, .ref rm), (1, .int (i32 v1)), (2, .int (i32 v2)), (3, .long v3), (5, .int (i32 v5)), (6, .long v6), (8, .int (i32 v8)), (9, .int (i32 v9)), (10, .int (i32 v10)), (11, .int (i32 v11))] [] := by
  intro σ v1 v2 v3 v5 v6 v8 v9 v10 v11 g1 g2 g5 g8 g9 g10 g11 h hGσ hS H locs ls hH hl hc
  have B := K.1
  unfold w_X16_topOf_173 at h
  refine lv_aload_n B.1 B.2.1 dX16_topOf_173 rfl (lv_at hl 0 rfl) ?_
  refine r_arr B hH hS 82 (kd := 101) (n := 16) (by decide) (by decide) wf_X16_578 rfl rfl dX16_topOf_174 ?_
  refine lv_iload B.1 B.2.1 dX16_topOf_177 (lv_at hl 9 rfl) ?_
  refine lv_iload B.1 B.2.1 dX16_topOf_179 (lv_at hl 9 rfl) ?_
  refine lv_iload B.1 B.2.1 dX16_topOf_181 (lv_at hl 4 rfl) ?_
  refine lv_icmp_ge (tgt := 202) B.1 B.2.1 dX16_topOf_183 (by decide) (fun h9 => ?_) (fun h9 => ?_)
  · rw [if_pos ((i32_le g5 g11).mp h9)] at h
    exact a_X16_topOf_202 K hQ hX hK14 hK166 _ _ _ _ _ _ _ _ _ _ _ g1 g2 g5 g8 g9 g10 g11 g11 h hGσ hS _ _ _ hH (lv_sub (l' := [(0, .ref rm), (1, .int (i32 v1)), (2, .int (i32 v2)), (3, .long v3), (5, .int (i32 v5)), (6, .long v6), (8, .int (i32 v8)), (9, .int (i32 v9)), (10, .int (i32 v10)), (11, .int (i32 v11))]) hl [0, 1, 2, 3, 4, 5, 6, 7, 8, 9] rfl) hc
  · rw [if_neg (fun q => h9 ((i32_le g5 g11).mpr q))] at h
    exact a_X16_topOf_186 K hQ hX hK14 hK166 _ _ _ _ _ _ _ _ _ _ _ g1 g2 g5 g8 g9 g10 g11 g11 h hGσ hS _ _ _ hH (lv_sub (l' := [(0, .ref rm), (1, .int (i32 v1)), (2, .int (i32 v2)), (3, .long v3), (5, .int (i32 v5)), (6, .long v6), (8, .int (i32 v8)), (9, .int (i32 v9)), (10, .int (i32 v10)), (11, .int (i32 v11))]) hl [0, 1, 2, 3, 4, 5, 6, 7, 8, 9] rfl) hc
set_option maxRecDepth 20000 in
theorem a_X16_topOf_166 {Q : Sg → Unit → Prop} {X : Sg → String → Prop} (K : MC R p s m args c cX16_topOf 12 RX16 D cA tys A n0 s0 3 79 []) (hQ : HQV p l e R s m args below meth c cX16_topOf D cA A n0 s0 QM dm ra jx rm Q) (hX : HX p l e R s m args below meth c 12 D cA A n0 s0 QM dm ra jx rm X) {K14 : Sg → Int → Int → Int64 → Int → Int64 → Int → Int → Prop} (hK14 : ∀ (σ : Sg) (v1 : Int) (v2 : Int) (v3 : Int64) (v5 : Int) (v6 : Int64) (v8 : Int) (v9 : Int) (g1 : rng v1) (g2 : rng v2) (g5 : rng v5) (g8 : rng v8) (g9 : rng v9), K14 σ v1 v2 v3 v5 v6 v8 v9 → RG σ → Shp dm ra jx rm σ → JJ p l e R s m args below meth c 12 D cA A n0 s0 QM σ 14 [(0, .ref rm), (1, .int (i32 v1)), (2, .int (i32 v2)), (3, .long v3), (5, .int (i32 v5)), (6, .long v6), (8, .int (i32 v8)), (9, .int (i32 v9))] []) {K166 : Sg → Int → Int → Int64 → Int → Int64 → Int → Int → Int → Int → Prop} (hK166 : ∀ (σ : Sg) (v1 : Int) (v2 : Int) (v3 : Int64) (v5 : Int) (v6 : Int64) (v8 : Int) (v9 : Int) (v10 : Int) (v11 : Int) (g1 : rng v1) (g2 : rng v2) (g5 : rng v5) (g8 : rng v8) (g9 : rng v9) (g10 : rng v10) (g11 : rng v11), K166 σ v1 v2 v3 v5 v6 v8 v9 v10 v11 → RG σ → Shp dm ra jx rm σ → JJ p l e R s m args below meth c 12 D cA A n0 s0 QM σ 166 [(0, .ref rm), (1, .int (i32 v1)), (2, .int (i32 v2)), (3, .long v3), (5, .int (i32 v5)), (6, .long v6), (8, .int (i32 v8)), (9, .int (i32 v9)), (10, .int (i32 v10)), (11, .int (i32 v11))] []) : ∀ (σ : Sg) (v1 : Int) (v2 : Int) (v3 : Int64) (v5 : Int) (v6 : Int64) (v8 : Int) (v9 : Int) (v10 : Int) (v11 : Int) (g1 : rng v1) (g2 : rng v2) (g5 : rng v5) (g8 : rng v8) (g9 : rng v9) (g10 : rng v10) (g11 : rng v11), w_X16_topOf_166 ra jx rm K14 K166 Q X σ v1 v2 v3 v5 v6 v8 v9 v10 v11 → RG σ → Shp dm ra jx rm σ → JJ p l e R s m args below meth c 12 D cA A n0 s0 QM σ 166 [(0, .ref rm), (1, .int (i32 v1)), (2, .int (i32 v2)), (3, .long v3), (5, .int (i32 v5)), (6, .long v6), (8, .int (i32 v8)), (9, .int (i32 v9)), (10, .int (i32 v10)), (11, .int (i32 v11))] [] := by
  intro σ v1 v2 v3 v5 v6 v8 v9 v10 v11 g1 g2 g5 g8 g9 g10 g11 h hGσ hS H locs ls hH hl hc
  have B := K.1
  unfold w_X16_topOf_166 at h
  refine lv_iload B.1 B.2.1 dX16_topOf_166 (lv_at hl 9 rfl) ?_
  refine lv_bipush (v := i32 8) B.1 B.2.1 dX16_topOf_168 (by decide) ?_
  refine lv_icmp_ge (tgt := 210) B.1 B.2.1 dX16_topOf_170 (by decide) (fun h9 => ?_) (fun h9 => ?_)
  · rw [if_pos ((i32_le (by unfold rng; omega) g11).mp h9)] at h
    exact a_X16_topOf_210 K hQ hX hK14 _ _ _ _ _ _ _ _ _ g1 g2 g5 g8 g9 g10 h hGσ hS _ _ _ hH (lv_sub (l' := [(0, .ref rm), (1, .int (i32 v1)), (2, .int (i32 v2)), (3, .long v3), (5, .int (i32 v5)), (6, .long v6), (8, .int (i32 v8)), (9, .int (i32 v9)), (10, .int (i32 v10))]) hl [0, 1, 2, 3, 4, 5, 6, 7, 8] rfl) hc
  · rw [if_neg (fun q => h9 ((i32_le (by unfold rng; omega) g11).mpr q))] at h
    exact a_X16_topOf_173 K hQ hX hK14 hK166 _ _ _ _ _ _ _ _ _ _ g1 g2 g5 g8 g9 g10 g11 h hGσ hS _ _ _ hH (lv_sub (l' := [(0, .ref rm), (1, .int (i32 v1)), (2, .int (i32 v2)), (3, .long v3), (5, .int (i32 v5)), (6, .long v6), (8, .int (i32 v8)), (9, .int (i32 v9)), (10, .int (i32 v10)), (11, .int (i32 v11))]) hl [0, 1, 2, 3, 4, 5, 6, 7, 8, 9] rfl) hc
theorem al_X16_topOf_166 {Q : Sg → Unit → Prop} {X : Sg → String → Prop} (K : MC R p s m args c cX16_topOf 12 RX16 D cA tys A n0 s0 3 79 []) (hQ : HQV p l e R s m args below meth c cX16_topOf D cA A n0 s0 QM dm ra jx rm Q) (hX : HX p l e R s m args below meth c 12 D cA A n0 s0 QM dm ra jx rm X) {K14 : Sg → Int → Int → Int64 → Int → Int64 → Int → Int → Prop} (hK14 : ∀ (σ : Sg) (v1 : Int) (v2 : Int) (v3 : Int64) (v5 : Int) (v6 : Int64) (v8 : Int) (v9 : Int) (g1 : rng v1) (g2 : rng v2) (g5 : rng v5) (g8 : rng v8) (g9 : rng v9), K14 σ v1 v2 v3 v5 v6 v8 v9 → RG σ → Shp dm ra jx rm σ → JJ p l e R s m args below meth c 12 D cA A n0 s0 QM σ 14 [(0, .ref rm), (1, .int (i32 v1)), (2, .int (i32 v2)), (3, .long v3), (5, .int (i32 v5)), (6, .long v6), (8, .int (i32 v8)), (9, .int (i32 v9))] []) : ∀ (n : Nat), ∀ (σ : Sg) (v1 : Int) (v2 : Int) (v3 : Int64) (v5 : Int) (v6 : Int64) (v8 : Int) (v9 : Int) (v10 : Int) (v11 : Int) (g1 : rng v1) (g2 : rng v2) (g5 : rng v5) (g8 : rng v8) (g9 : rng v9) (g10 : rng v10) (g11 : rng v11), wl_X16_topOf_166 ra jx rm K14 Q X n σ v1 v2 v3 v5 v6 v8 v9 v10 v11 → RG σ → Shp dm ra jx rm σ → JJ p l e R s m args below meth c 12 D cA A n0 s0 QM σ 166 [(0, .ref rm), (1, .int (i32 v1)), (2, .int (i32 v2)), (3, .long v3), (5, .int (i32 v5)), (6, .long v6), (8, .int (i32 v8)), (9, .int (i32 v9)), (10, .int (i32 v10)), (11, .int (i32 v11))] [] := by
  intro n
  induction n with
  | zero => intro σ v1 v2 v3 v5 v6 v8 v9 v10 v11 g1 g2 g5 g8 g9 g10 g11 h; exact h.elim
  | succ n ih => exact fun σ v1 v2 v3 v5 v6 v8 v9 v10 v11 g1 g2 g5 g8 g9 g10 g11 h => a_X16_topOf_166 K hQ hX hK14 ih σ v1 v2 v3 v5 v6 v8 v9 v10 v11 g1 g2 g5 g8 g9 g10 g11 h
set_option maxRecDepth 20000 in
theorem a_X16_topOf_163 {Q : Sg → Unit → Prop} {X : Sg → String → Prop} (K : MC R p s m args c cX16_topOf 12 RX16 D cA tys A n0 s0 3 79 []) (hQ : HQV p l e R s m args below meth c cX16_topOf D cA A n0 s0 QM dm ra jx rm Q) (hX : HX p l e R s m args below meth c 12 D cA A n0 s0 QM dm ra jx rm X) {K14 : Sg → Int → Int → Int64 → Int → Int64 → Int → Int → Prop} (hK14 : ∀ (σ : Sg) (v1 : Int) (v2 : Int) (v3 : Int64) (v5 : Int) (v6 : Int64) (v8 : Int) (v9 : Int) (g1 : rng v1) (g2 : rng v2) (g5 : rng v5) (g8 : rng v8) (g9 : rng v9), K14 σ v1 v2 v3 v5 v6 v8 v9 → RG σ → Shp dm ra jx rm σ → JJ p l e R s m args below meth c 12 D cA A n0 s0 QM σ 14 [(0, .ref rm), (1, .int (i32 v1)), (2, .int (i32 v2)), (3, .long v3), (5, .int (i32 v5)), (6, .long v6), (8, .int (i32 v8)), (9, .int (i32 v9))] []) : ∀ (σ : Sg) (v1 : Int) (v2 : Int) (v3 : Int64) (v5 : Int) (v6 : Int64) (v8 : Int) (v9 : Int) (v10 : Int) (g1 : rng v1) (g2 : rng v2) (g5 : rng v5) (g8 : rng v8) (g9 : rng v9) (g10 : rng v10), w_X16_topOf_163 ra jx rm K14 Q X σ v1 v2 v3 v5 v6 v8 v9 v10 → RG σ → Shp dm ra jx rm σ → JJ p l e R s m args below meth c 12 D cA A n0 s0 QM σ 163 [(0, .ref rm), (1, .int (i32 v1)), (2, .int (i32 v2)), (3, .long v3), (5, .int (i32 v5)), (6, .long v6), (8, .int (i32 v8)), (9, .int (i32 v9)), (10, .int (i32 v10))] [] := by
  intro σ v1 v2 v3 v5 v6 v8 v9 v10 g1 g2 g5 g8 g9 g10 h hGσ hS H locs ls hH hl hc
  have B := K.1
  unfold w_X16_topOf_163 at h
  refine lv_iconst (v := i32 0) B.1 B.2.1 dX16_topOf_163 (by decide) ?_
  refine lv_istore (lv' := [(11, .int (i32 0)), (0, .ref rm), (1, .int (i32 v1)), (2, .int (i32 v2)), (3, .long v3), (5, .int (i32 v5)), (6, .long v6), (8, .int (i32 v8)), (9, .int (i32 v9)), (10, .int (i32 v10))]) B.1 B.2.1 dX16_topOf_164 hl (by decide) rfl (fun ls hl => ?_)
  obtain ⟨n9, h⟩ := h
  exact al_X16_topOf_166 K hQ hX hK14 n9 _ _ _ _ _ _ _ _ _ _ g1 g2 g5 g8 g9 g10 (by unfold rng; omega) h hGσ hS _ _ _ hH (lv_sub (l' := [(0, .ref rm), (1, .int (i32 v1)), (2, .int (i32 v2)), (3, .long v3), (5, .int (i32 v5)), (6, .long v6), (8, .int (i32 v8)), (9, .int (i32 v9)), (10, .int (i32 v10)), (11, .int (i32 0))]) hl [1, 2, 3, 4, 5, 6, 7, 8, 9, 0] rfl) hc
set_option maxRecDepth 20000 in
theorem a_X16_topOf_157 {Q : Sg → Unit → Prop} {X : Sg → String → Prop} (K : MC R p s m args c cX16_topOf 12 RX16 D cA tys A n0 s0 3 79 []) (hQ : HQV p l e R s m args below meth c cX16_topOf D cA A n0 s0 QM dm ra jx rm Q) (hX : HX p l e R s m args below meth c 12 D cA A n0 s0 QM dm ra jx rm X) {K14 : Sg → Int → Int → Int64 → Int → Int64 → Int → Int → Prop} (hK14 : ∀ (σ : Sg) (v1 : Int) (v2 : Int) (v3 : Int64) (v5 : Int) (v6 : Int64) (v8 : Int) (v9 : Int) (g1 : rng v1) (g2 : rng v2) (g5 : rng v5) (g8 : rng v8) (g9 : rng v9), K14 σ v1 v2 v3 v5 v6 v8 v9 → RG σ → Shp dm ra jx rm σ → JJ p l e R s m args below meth c 12 D cA A n0 s0 QM σ 14 [(0, .ref rm), (1, .int (i32 v1)), (2, .int (i32 v2)), (3, .long v3), (5, .int (i32 v5)), (6, .long v6), (8, .int (i32 v8)), (9, .int (i32 v9))] []) : ∀ (σ : Sg) (v1 : Int) (v2 : Int) (v3 : Int64) (v5 : Int) (v6 : Int64) (v8 : Int) (v9 : Int) (v10 : Int) (g1 : rng v1) (g2 : rng v2) (g5 : rng v5) (g8 : rng v8) (g9 : rng v9) (g10 : rng v10), w_X16_topOf_157 ra jx rm K14 Q X σ v1 v2 v3 v5 v6 v8 v9 v10 → RG σ → Shp dm ra jx rm σ → JJ p l e R s m args below meth c 12 D cA A n0 s0 QM σ 157 [(0, .ref rm), (1, .int (i32 v1)), (2, .int (i32 v2)), (3, .long v3), (5, .int (i32 v5)), (6, .long v6), (8, .int (i32 v8)), (9, .int (i32 v9)), (10, .int (i32 v10))] [] := by
  intro σ v1 v2 v3 v5 v6 v8 v9 v10 g1 g2 g5 g8 g9 g10 h hGσ hS H locs ls hH hl hc
  have B := K.1
  unfold w_X16_topOf_157 at h
  refine lv_iload B.1 B.2.1 dX16_topOf_157 (lv_at hl 8 rfl) ?_
  refine lv_iconst (v := i32 (-1)) B.1 B.2.1 dX16_topOf_159 (by decide) ?_
  refine lv_icmp_eq (tgt := 256) B.1 B.2.1 dX16_topOf_160 (by decide) (fun h9 => ?_) (fun h9 => ?_)
  · rw [if_pos ((i32_eq g10 (by unfold rng; omega)).mp h9)] at h
    exact a_X16_topOf_256 K hQ hX hK14 _ _ _ _ _ _ _ _ g1 g2 g5 g8 g9 h hGσ hS _ _ _ hH (lv_sub (l' := [(0, .ref rm), (1, .int (i32 v1)), (2, .int (i32 v2)), (3, .long v3), (5, .int (i32 v5)), (6, .long v6), (8, .int (i32 v8)), (9, .int (i32 v9))]) hl [0, 1, 2, 3, 4, 5, 6, 7] rfl) hc
  · rw [if_neg (fun q => h9 ((i32_eq g10 (by unfold rng; omega)).mpr q))] at h
    exact a_X16_topOf_163 K hQ hX hK14 _ _ _ _ _ _ _ _ _ g1 g2 g5 g8 g9 g10 h hGσ hS _ _ _ hH (lv_sub (l' := [(0, .ref rm), (1, .int (i32 v1)), (2, .int (i32 v2)), (3, .long v3), (5, .int (i32 v5)), (6, .long v6), (8, .int (i32 v8)), (9, .int (i32 v9)), (10, .int (i32 v10))]) hl [0, 1, 2, 3, 4, 5, 6, 7, 8] rfl) hc
set_option maxRecDepth 20000 in
theorem a_X16_topOf_145 {Q : Sg → Unit → Prop} {X : Sg → String → Prop} (K : MC R p s m args c cX16_topOf 12 RX16 D cA tys A n0 s0 3 79 []) (hQ : HQV p l e R s m args below meth c cX16_topOf D cA A n0 s0 QM dm ra jx rm Q) (hX : HX p l e R s m args below meth c 12 D cA A n0 s0 QM dm ra jx rm X) {K14 : Sg → Int → Int → Int64 → Int → Int64 → Int → Int → Prop} (hK14 : ∀ (σ : Sg) (v1 : Int) (v2 : Int) (v3 : Int64) (v5 : Int) (v6 : Int64) (v8 : Int) (v9 : Int) (g1 : rng v1) (g2 : rng v2) (g5 : rng v5) (g8 : rng v8) (g9 : rng v9), K14 σ v1 v2 v3 v5 v6 v8 v9 → RG σ → Shp dm ra jx rm σ → JJ p l e R s m args below meth c 12 D cA A n0 s0 QM σ 14 [(0, .ref rm), (1, .int (i32 v1)), (2, .int (i32 v2)), (3, .long v3), (5, .int (i32 v5)), (6, .long v6), (8, .int (i32 v8)), (9, .int (i32 v9))] []) {K41 : Sg → Int → Int → Int64 → Int → Int64 → Int → Int → Int → Int → Prop} (hK41 : ∀ (σ : Sg) (v1 : Int) (v2 : Int) (v3 : Int64) (v5 : Int) (v6 : Int64) (v8 : Int) (v9 : Int) (v10 : Int) (v11 : Int) (g1 : rng v1) (g2 : rng v2) (g5 : rng v5) (g8 : rng v8) (g9 : rng v9) (g10 : rng v10) (g11 : rng v11), K41 σ v1 v2 v3 v5 v6 v8 v9 v10 v11 → RG σ → Shp dm ra jx rm σ → JJ p l e R s m args below meth c 12 D cA A n0 s0 QM σ 41 [(0, .ref rm), (1, .int (i32 v1)), (2, .int (i32 v2)), (3, .long v3), (5, .int (i32 v5)), (6, .long v6), (8, .int (i32 v8)), (9, .int (i32 v9)), (10, .int (i32 v10)), (11, .int (i32 v11))] []) : ∀ (σ : Sg) (v1 : Int) (v2 : Int) (v3 : Int64) (v5 : Int) (v6 : Int64) (v8 : Int) (v9 : Int) (v10 : Int) (v11 : Int) (g1 : rng v1) (g2 : rng v2) (g5 : rng v5) (g8 : rng v8) (g9 : rng v9) (g10 : rng v10) (g11 : rng v11), w_X16_topOf_145 ra jx rm K14 K41 Q X σ v1 v2 v3 v5 v6 v8 v9 v10 v11 → RG σ → Shp dm ra jx rm σ → JJ p l e R s m args below meth c 12 D cA A n0 s0 QM σ 145 [(0, .ref rm), (1, .int (i32 v1)), (2, .int (i32 v2)), (3, .long v3), (5, .int (i32 v5)), (6, .long v6), (8, .int (i32 v8)), (9, .int (i32 v9)), (10, .int (i32 v10)), (11, .int (i32 v11))] [] := by
  intro σ v1 v2 v3 v5 v6 v8 v9 v10 v11 g1 g2 g5 g8 g9 g10 g11 h hGσ hS H locs ls hH hl hc
  have B := K.1
  unfold w_X16_topOf_145 at h
  refine lv_aload_n B.1 B.2.1 dX16_topOf_145 rfl (lv_at hl 0 rfl) ?_
  refine r_arr B hH hS 75 (kd := 100) (n := 4000) (by decide) (by decide) wf_X16_495 rfl rfl dX16_topOf_146 ?_
  refine lv_iload B.1 B.2.1 dX16_topOf_149 (lv_at hl 9 rfl) ?_
  obtain ⟨q1, h⟩ := h
  refine x_iald B K.2.1 hH (hS.ar (k := 75) (kd := 100) (n := 4000) (by decide)) (by decide) q1 dX16_topOf_151 ?_
  refine lv_istore (lv' := [(11, .int (i32 (gI σ (ra 75) v11.toNat))), (0, .ref rm), (1, .int (i32 v1)), (2, .int (i32 v2)), (3, .long v3), (5, .int (i32 v5)), (6, .long v6), (8, .int (i32 v8)), (9, .int (i32 v9)), (10, .int (i32 v10))]) B.1 B.2.1 dX16_topOf_152 hl (by decide) rfl (fun ls hl => ?_)
  refine lv_goto (tgt := 41) B.1 B.2.1 dX16_topOf_154 (by decide) ?_
  exact hK41 _ _ _ _ _ _ _ _ _ _ g1 g2 g5 g8 g9 g10 (hGσ _ _) h hGσ hS _ _ _ hH (lv_sub (l' := [(0, .ref rm), (1, .int (i32 v1)), (2, .int (i32 v2)), (3, .long v3), (5, .int (i32 v5)), (6, .long v6), (8, .int (i32 v8)), (9, .int (i32 v9)), (10, .int (i32 v10)), (11, .int (i32 (gI σ (ra 75) v11.toNat)))]) hl [1, 2, 3, 4, 5, 6, 7, 8, 9, 0] rfl) hc
set_option maxRecDepth 20000 in
theorem a_X16_topOf_141 {Q : Sg → Unit → Prop} {X : Sg → String → Prop} (K : MC R p s m args c cX16_topOf 12 RX16 D cA tys A n0 s0 3 79 []) (hQ : HQV p l e R s m args below meth c cX16_topOf D cA A n0 s0 QM dm ra jx rm Q) (hX : HX p l e R s m args below meth c 12 D cA A n0 s0 QM dm ra jx rm X) {K14 : Sg → Int → Int → Int64 → Int → Int64 → Int → Int → Prop} (hK14 : ∀ (σ : Sg) (v1 : Int) (v2 : Int) (v3 : Int64) (v5 : Int) (v6 : Int64) (v8 : Int) (v9 : Int) (g1 : rng v1) (g2 : rng v2) (g5 : rng v5) (g8 : rng v8) (g9 : rng v9), K14 σ v1 v2 v3 v5 v6 v8 v9 → RG σ → Shp dm ra jx rm σ → JJ p l e R s m args below meth c 12 D cA A n0 s0 QM σ 14 [(0, .ref rm), (1, .int (i32 v1)), (2, .int (i32 v2)), (3, .long v3), (5, .int (i32 v5)), (6, .long v6), (8, .int (i32 v8)), (9, .int (i32 v9))] []) {K41 : Sg → Int → Int → Int64 → Int → Int64 → Int → Int → Int → Int → Prop} (hK41 : ∀ (σ : Sg) (v1 : Int) (v2 : Int) (v3 : Int64) (v5 : Int) (v6 : Int64) (v8 : Int) (v9 : Int) (v10 : Int) (v11 : Int) (g1 : rng v1) (g2 : rng v2) (g5 : rng v5) (g8 : rng v8) (g9 : rng v9) (g10 : rng v10) (g11 : rng v11), K41 σ v1 v2 v3 v5 v6 v8 v9 v10 v11 → RG σ → Shp dm ra jx rm σ → JJ p l e R s m args below meth c 12 D cA A n0 s0 QM σ 41 [(0, .ref rm), (1, .int (i32 v1)), (2, .int (i32 v2)), (3, .long v3), (5, .int (i32 v5)), (6, .long v6), (8, .int (i32 v8)), (9, .int (i32 v9)), (10, .int (i32 v10)), (11, .int (i32 v11))] []) : ∀ (σ : Sg) (v1 : Int) (v2 : Int) (v3 : Int64) (v5 : Int) (v6 : Int64) (v8 : Int) (v9 : Int) (v11 : Int) (g1 : rng v1) (g2 : rng v2) (g5 : rng v5) (g8 : rng v8) (g9 : rng v9) (g11 : rng v11), w_X16_topOf_141 ra jx rm K14 K41 Q X σ v1 v2 v3 v5 v6 v8 v9 v11 → RG σ → Shp dm ra jx rm σ → JJ p l e R s m args below meth c 12 D cA A n0 s0 QM σ 141 [(0, .ref rm), (1, .int (i32 v1)), (2, .int (i32 v2)), (3, .long v3), (5, .int (i32 v5)), (6, .long v6), (8, .int (i32 v8)), (9, .int (i32 v9)), (11, .int (i32 v11))] [] := by
  intro σ v1 v2 v3 v5 v6 v8 v9 v11 g1 g2 g5 g8 g9 g11 h hGσ hS H locs ls hH hl hc
  have B := K.1
  unfold w_X16_topOf_141 at h
  refine lv_iload B.1 B.2.1 dX16_topOf_141 (lv_at hl 8 rfl) ?_
  refine lv_istore (lv' := [(10, .int (i32 v11)), (0, .ref rm), (1, .int (i32 v1)), (2, .int (i32 v2)), (3, .long v3), (5, .int (i32 v5)), (6, .long v6), (8, .int (i32 v8)), (9, .int (i32 v9)), (11, .int (i32 v11))]) B.1 B.2.1 dX16_topOf_143 hl (by decide) rfl (fun ls hl => ?_)
  exact a_X16_topOf_145 K hQ hX hK14 hK41 _ _ _ _ _ _ _ _ _ _ g1 g2 g5 g8 g9 g11 g11 h hGσ hS _ _ _ hH (lv_sub (l' := [(0, .ref rm), (1, .int (i32 v1)), (2, .int (i32 v2)), (3, .long v3), (5, .int (i32 v5)), (6, .long v6), (8, .int (i32 v8)), (9, .int (i32 v9)), (10, .int (i32 v11)), (11, .int (i32 v11))]) hl [1, 2, 3, 4, 5, 6, 7, 8, 0, 9] rfl) hc
set_option maxRecDepth 20000 in
theorem a_X16_topOf_128 {Q : Sg → Unit → Prop} {X : Sg → String → Prop} (K : MC R p s m args c cX16_topOf 12 RX16 D cA tys A n0 s0 3 79 []) (hQ : HQV p l e R s m args below meth c cX16_topOf D cA A n0 s0 QM dm ra jx rm Q) (hX : HX p l e R s m args below meth c 12 D cA A n0 s0 QM dm ra jx rm X) {K14 : Sg → Int → Int → Int64 → Int → Int64 → Int → Int → Prop} (hK14 : ∀ (σ : Sg) (v1 : Int) (v2 : Int) (v3 : Int64) (v5 : Int) (v6 : Int64) (v8 : Int) (v9 : Int) (g1 : rng v1) (g2 : rng v2) (g5 : rng v5) (g8 : rng v8) (g9 : rng v9), K14 σ v1 v2 v3 v5 v6 v8 v9 → RG σ → Shp dm ra jx rm σ → JJ p l e R s m args below meth c 12 D cA A n0 s0 QM σ 14 [(0, .ref rm), (1, .int (i32 v1)), (2, .int (i32 v2)), (3, .long v3), (5, .int (i32 v5)), (6, .long v6), (8, .int (i32 v8)), (9, .int (i32 v9))] []) {K41 : Sg → Int → Int → Int64 → Int → Int64 → Int → Int → Int → Int → Prop} (hK41 : ∀ (σ : Sg) (v1 : Int) (v2 : Int) (v3 : Int64) (v5 : Int) (v6 : Int64) (v8 : Int) (v9 : Int) (v10 : Int) (v11 : Int) (g1 : rng v1) (g2 : rng v2) (g5 : rng v5) (g8 : rng v8) (g9 : rng v9) (g10 : rng v10) (g11 : rng v11), K41 σ v1 v2 v3 v5 v6 v8 v9 v10 v11 → RG σ → Shp dm ra jx rm σ → JJ p l e R s m args below meth c 12 D cA A n0 s0 QM σ 41 [(0, .ref rm), (1, .int (i32 v1)), (2, .int (i32 v2)), (3, .long v3), (5, .int (i32 v5)), (6, .long v6), (8, .int (i32 v8)), (9, .int (i32 v9)), (10, .int (i32 v10)), (11, .int (i32 v11))] []) : ∀ (σ : Sg) (v1 : Int) (v2 : Int) (v3 : Int64) (v5 : Int) (v6 : Int64) (v8 : Int) (v9 : Int) (v10 : Int) (v11 : Int) (g1 : rng v1) (g2 : rng v2) (g5 : rng v5) (g8 : rng v8) (g9 : rng v9) (g10 : rng v10) (g11 : rng v11), w_X16_topOf_128 ra jx rm K14 K41 Q X σ v1 v2 v3 v5 v6 v8 v9 v10 v11 → RG σ → Shp dm ra jx rm σ → JJ p l e R s m args below meth c 12 D cA A n0 s0 QM σ 128 [(0, .ref rm), (1, .int (i32 v1)), (2, .int (i32 v2)), (3, .long v3), (5, .int (i32 v5)), (6, .long v6), (8, .int (i32 v8)), (9, .int (i32 v9)), (10, .int (i32 v10)), (11, .int (i32 v11))] [] := by
  intro σ v1 v2 v3 v5 v6 v8 v9 v10 v11 g1 g2 g5 g8 g9 g10 g11 h hGσ hS H locs ls hH hl hc
  have B := K.1
  unfold w_X16_topOf_128 at h
  refine lv_aload_n B.1 B.2.1 dX16_topOf_128 rfl (lv_at hl 0 rfl) ?_
  refine lv_iload B.1 B.2.1 dX16_topOf_129 (lv_at hl 9 rfl) ?_
  refine lv_iload B.1 B.2.1 dX16_topOf_131 (lv_at hl 8 rfl) ?_
  refine lv_iload B.1 B.2.1 dX16_topOf_133 (lv_at hl 4 rfl) ?_
  refine c_V B hH hl hc K.2.2.1 (C := RX16) (T := TX16) (N := 123) (ci := 16) (As := [.int (i32 v11), .int (i32 v10), .int (i32 v5)]) (ok_X16_orderOf K.2.1 σ v11 v10 v5 g11 g10 g5 hGσ hS h) wc_X16_538 3 hd_X16_orderOf ⟨Nat.le_trans (Nat.le_of_ble_eq_true rfl) K.2.2.2.1, Nat.le_trans (Nat.le_of_ble_eq_true rfl) K.2.2.2.2.1⟩ hS.1.1 hS.1.2 (by decide) rfl rfl (rest := []) rfl (Nat.le_of_ble_eq_true rfl) dX16_topOf_135 (fun σ24 w hq => ?_) (fun σ9 E9 hx9 => hX σ9 E9 _ _ _ (tb_out K.2.2.2.2.2 rfl) hx9.1 hx9.2.1 hx9.2.2)
  obtain ⟨r25, rfl, gr25, h, hGσ24, hS⟩ := hq
  intro H locs ls hH hl hc
  refine W.eq (g2 := F0 m 138 ls [.int (i32 r25)]) (rfl) ?_
  try dsimp only at h
  refine lv_if_ge (tgt := 145) B.1 B.2.1 dX16_topOf_138 (by decide) (fun h9 => ?_) (fun h9 => ?_)
  · rw [if_pos ((z_ge gr25).mp h9)] at h
    exact a_X16_topOf_145 K hQ hX hK14 hK41 _ _ _ _ _ _ _ _ _ _ g1 g2 g5 g8 g9 g10 g11 h hGσ24 hS _ _ _ hH (lv_sub (l' := [(0, .ref rm), (1, .int (i32 v1)), (2, .int (i32 v2)), (3, .long v3), (5, .int (i32 v5)), (6, .long v6), (8, .int (i32 v8)), (9, .int (i32 v9)), (10, .int (i32 v10)), (11, .int (i32 v11))]) hl [0, 1, 2, 3, 4, 5, 6, 7, 8, 9] rfl) hc
  · rw [if_neg (fun q => h9 ((z_ge gr25).mpr q))] at h
    exact a_X16_topOf_141 K hQ hX hK14 hK41 _ _ _ _ _ _ _ _ _ g1 g2 g5 g8 g9 g11 h hGσ24 hS _ _ _ hH (lv_sub (l' := [(0, .ref rm), (1, .int (i32 v1)), (2, .int (i32 v2)), (3, .long v3), (5, .int (i32 v5)), (6, .long v6), (8, .int (i32 v8)), (9, .int (i32 v9)), (11, .int (i32 v11))]) hl [0, 1, 2, 3, 4, 5, 6, 7, 9] rfl) hc
set_option maxRecDepth 20000 in
theorem a_X16_topOf_98 {Q : Sg → Unit → Prop} {X : Sg → String → Prop} (K : MC R p s m args c cX16_topOf 12 RX16 D cA tys A n0 s0 3 79 []) (hQ : HQV p l e R s m args below meth c cX16_topOf D cA A n0 s0 QM dm ra jx rm Q) (hX : HX p l e R s m args below meth c 12 D cA A n0 s0 QM dm ra jx rm X) {K14 : Sg → Int → Int → Int64 → Int → Int64 → Int → Int → Prop} (hK14 : ∀ (σ : Sg) (v1 : Int) (v2 : Int) (v3 : Int64) (v5 : Int) (v6 : Int64) (v8 : Int) (v9 : Int) (g1 : rng v1) (g2 : rng v2) (g5 : rng v5) (g8 : rng v8) (g9 : rng v9), K14 σ v1 v2 v3 v5 v6 v8 v9 → RG σ → Shp dm ra jx rm σ → JJ p l e R s m args below meth c 12 D cA A n0 s0 QM σ 14 [(0, .ref rm), (1, .int (i32 v1)), (2, .int (i32 v2)), (3, .long v3), (5, .int (i32 v5)), (6, .long v6), (8, .int (i32 v8)), (9, .int (i32 v9))] []) {K41 : Sg → Int → Int → Int64 → Int → Int64 → Int → Int → Int → Int → Prop} (hK41 : ∀ (σ : Sg) (v1 : Int) (v2 : Int) (v3 : Int64) (v5 : Int) (v6 : Int64) (v8 : Int) (v9 : Int) (v10 : Int) (v11 : Int) (g1 : rng v1) (g2 : rng v2) (g5 : rng v5) (g8 : rng v8) (g9 : rng v9) (g10 : rng v10) (g11 : rng v11), K41 σ v1 v2 v3 v5 v6 v8 v9 v10 v11 → RG σ → Shp dm ra jx rm σ → JJ p l e R s m args below meth c 12 D cA A n0 s0 QM σ 41 [(0, .ref rm), (1, .int (i32 v1)), (2, .int (i32 v2)), (3, .long v3), (5, .int (i32 v5)), (6, .long v6), (8, .int (i32 v8)), (9, .int (i32 v9)), (10, .int (i32 v10)), (11, .int (i32 v11))] []) : ∀ (σ : Sg) (v1 : Int) (v2 : Int) (v3 : Int64) (v5 : Int) (v6 : Int64) (v8 : Int) (v9 : Int) (v10 : Int) (v11 : Int) (g1 : rng v1) (g2 : rng v2) (g5 : rng v5) (g8 : rng v8) (g9 : rng v9) (g10 : rng v10) (g11 : rng v11), w_X16_topOf_98 ra jx rm K14 K41 Q X σ v1 v2 v3 v5 v6 v8 v9 v10 v11 → RG σ → Shp dm ra jx rm σ → JJ p l e R s m args below meth c 12 D cA A n0 s0 QM σ 98 [(0, .ref rm), (1, .int (i32 v1)), (2, .int (i32 v2)), (3, .long v3), (5, .int (i32 v5)), (6, .long v6), (8, .int (i32 v8)), (9, .int (i32 v9)), (10, .int (i32 v10)), (11, .int (i32 v11))] [] := by
  intro σ v1 v2 v3 v5 v6 v8 v9 v10 v11 g1 g2 g5 g8 g9 g10 g11 h hGσ hS H locs ls hH hl hc
  have B := K.1
  unfold w_X16_topOf_98 at h
  refine lv_aload_n B.1 B.2.1 dX16_topOf_98 rfl (lv_at hl 0 rfl) ?_
  refine r_arr B hH hS 73 (kd := 101) (n := 32000) (by decide) (by decide) wf_X16_528 rfl rfl dX16_topOf_99 ?_
  refine lv_bipush (v := i32 8) B.1 B.2.1 dX16_topOf_102 (by decide) ?_
  refine lv_iload B.1 B.2.1 dX16_topOf_104 (lv_at hl 9 rfl) ?_
  obtain ⟨q1, h⟩ := h
  refine lv_imul B.1 B.2.1 dX16_topOf_106 ?_
  rw [i32_mul]
  refine lv_iload B.1 B.2.1 dX16_topOf_107 (lv_at hl 6 rfl) ?_
  obtain ⟨q2, h⟩ := h
  refine lv_iadd B.1 B.2.1 dX16_topOf_109 ?_
  rw [i32_add]
  obtain ⟨q3, h⟩ := h
  refine x_lald B K.2.1 hH (hS.ar (k := 73) (kd := 101) (n := 32000) (by decide)) (by decide) q3 dX16_topOf_110 ?_
  refine lv_aload_n B.1 B.2.1 dX16_topOf_111 rfl (lv_at hl 0 rfl) ?_
  refine r_arr B hH hS 73 (kd := 101) (n := 32000) (by decide) (by decide) wf_X16_528 rfl rfl dX16_topOf_112 ?_
  refine lv_bipush (v := i32 8) B.1 B.2.1 dX16_topOf_115 (by decide) ?_
  refine lv_iload B.1 B.2.1 dX16_topOf_117 (lv_at hl 8 rfl) ?_
  obtain ⟨q4, h⟩ := h
  refine lv_imul B.1 B.2.1 dX16_topOf_119 ?_
  rw [i32_mul]
  refine lv_iload B.1 B.2.1 dX16_topOf_120 (lv_at hl 6 rfl) ?_
  obtain ⟨q5, h⟩ := h
  refine lv_iadd B.1 B.2.1 dX16_topOf_122 ?_
  rw [i32_add]
  obtain ⟨q6, h⟩ := h
  refine x_lald B K.2.1 hH (hS.ar (k := 73) (kd := 101) (n := 32000) (by decide)) (by decide) q6 dX16_topOf_123 ?_
  refine W.lcmp B.1 B.2.1 dX16_topOf_124 ?_
  refine lv_if_ne (tgt := 145) B.1 B.2.1 dX16_topOf_125 (by decide) (fun h9 => ?_) (fun h9 => ?_)
  · rw [if_pos (fun q => h9 ((lg_cmp_eq _ _).mpr q))] at h
    exact a_X16_topOf_145 K hQ hX hK14 hK41 _ _ _ _ _ _ _ _ _ _ g1 g2 g5 g8 g9 g10 g11 h hGσ hS _ _ _ hH (lv_sub (l' := [(0, .ref rm), (1, .int (i32 v1)), (2, .int (i32 v2)), (3, .long v3), (5, .int (i32 v5)), (6, .long v6), (8, .int (i32 v8)), (9, .int (i32 v9)), (10, .int (i32 v10)), (11, .int (i32 v11))]) hl [0, 1, 2, 3, 4, 5, 6, 7, 8, 9] rfl) hc
  · rw [if_neg (fun q => q ((lg_cmp_eq _ _).mp h9))] at h
    exact a_X16_topOf_128 K hQ hX hK14 hK41 _ _ _ _ _ _ _ _ _ _ g1 g2 g5 g8 g9 g10 g11 h hGσ hS _ _ _ hH (lv_sub (l' := [(0, .ref rm), (1, .int (i32 v1)), (2, .int (i32 v2)), (3, .long v3), (5, .int (i32 v5)), (6, .long v6), (8, .int (i32 v8)), (9, .int (i32 v9)), (10, .int (i32 v10)), (11, .int (i32 v11))]) hl [0, 1, 2, 3, 4, 5, 6, 7, 8, 9] rfl) hc
set_option maxRecDepth 20000 in
theorem a_X16_topOf_68 {Q : Sg → Unit → Prop} {X : Sg → String → Prop} (K : MC R p s m args c cX16_topOf 12 RX16 D cA tys A n0 s0 3 79 []) (hQ : HQV p l e R s m args below meth c cX16_topOf D cA A n0 s0 QM dm ra jx rm Q) (hX : HX p l e R s m args below meth c 12 D cA A n0 s0 QM dm ra jx rm X) {K14 : Sg → Int → Int → Int64 → Int → Int64 → Int → Int → Prop} (hK14 : ∀ (σ : Sg) (v1 : Int) (v2 : Int) (v3 : Int64) (v5 : Int) (v6 : Int64) (v8 : Int) (v9 : Int) (g1 : rng v1) (g2 : rng v2) (g5 : rng v5) (g8 : rng v8) (g9 : rng v9), K14 σ v1 v2 v3 v5 v6 v8 v9 → RG σ → Shp dm ra jx rm σ → JJ p l e R s m args below meth c 12 D cA A n0 s0 QM σ 14 [(0, .ref rm), (1, .int (i32 v1)), (2, .int (i32 v2)), (3, .long v3), (5, .int (i32 v5)), (6, .long v6), (8, .int (i32 v8)), (9, .int (i32 v9))] []) {K41 : Sg → Int → Int → Int64 → Int → Int64 → Int → Int → Int → Int → Prop} (hK41 : ∀ (σ : Sg) (v1 : Int) (v2 : Int) (v3 : Int64) (v5 : Int) (v6 : Int64) (v8 : Int) (v9 : Int) (v10 : Int) (v11 : Int) (g1 : rng v1) (g2 : rng v2) (g5 : rng v5) (g8 : rng v8) (g9 : rng v9) (g10 : rng v10) (g11 : rng v11), K41 σ v1 v2 v3 v5 v6 v8 v9 v10 v11 → RG σ → Shp dm ra jx rm σ → JJ p l e R s m args below meth c 12 D cA A n0 s0 QM σ 41 [(0, .ref rm), (1, .int (i32 v1)), (2, .int (i32 v2)), (3, .long v3), (5, .int (i32 v5)), (6, .long v6), (8, .int (i32 v8)), (9, .int (i32 v9)), (10, .int (i32 v10)), (11, .int (i32 v11))] []) : ∀ (σ : Sg) (v1 : Int) (v2 : Int) (v3 : Int64) (v5 : Int) (v6 : Int64) (v8 : Int) (v9 : Int) (v10 : Int) (v11 : Int) (g1 : rng v1) (g2 : rng v2) (g5 : rng v5) (g8 : rng v8) (g9 : rng v9) (g10 : rng v10) (g11 : rng v11), w_X16_topOf_68 ra jx rm K14 K41 Q X σ v1 v2 v3 v5 v6 v8 v9 v10 v11 → RG σ → Shp dm ra jx rm σ → JJ p l e R s m args below meth c 12 D cA A n0 s0 QM σ 68 [(0, .ref rm), (1, .int (i32 v1)), (2, .int (i32 v2)), (3, .long v3), (5, .int (i32 v5)), (6, .long v6), (8, .int (i32 v8)), (9, .int (i32 v9)), (10, .int (i32 v10)), (11, .int (i32 v11))] [] := by
  intro σ v1 v2 v3 v5 v6 v8 v9 v10 v11 g1 g2 g5 g8 g9 g10 g11 h hGσ hS H locs ls hH hl hc
  have B := K.1
  unfold w_X16_topOf_68 at h
  refine lv_aload_n B.1 B.2.1 dX16_topOf_68 rfl (lv_at hl 0 rfl) ?_
  refine r_arr B hH hS 73 (kd := 101) (n := 32000) (by decide) (by decide) wf_X16_528 rfl rfl dX16_topOf_69 ?_
  refine lv_bipush (v := i32 8) B.1 B.2.1 dX16_topOf_72 (by decide) ?_
  refine lv_iload B.1 B.2.1 dX16_topOf_74 (lv_at hl 9 rfl) ?_
  obtain ⟨q1, h⟩ := h
  refine lv_imul B.1 B.2.1 dX16_topOf_76 ?_
  rw [i32_mul]
  refine lv_iload B.1 B.2.1 dX16_topOf_77 (lv_at hl 6 rfl) ?_
  obtain ⟨q2, h⟩ := h
  refine lv_iadd B.1 B.2.1 dX16_topOf_79 ?_
  rw [i32_add]
  obtain ⟨q3, h⟩ := h
  refine x_lald B K.2.1 hH (hS.ar (k := 73) (kd := 101) (n := 32000) (by decide)) (by decide) q3 dX16_topOf_80 ?_
  refine lv_aload_n B.1 B.2.1 dX16_topOf_81 rfl (lv_at hl 0 rfl) ?_
  refine r_arr B hH hS 73 (kd := 101) (n := 32000) (by decide) (by decide) wf_X16_528 rfl rfl dX16_topOf_82 ?_
  refine lv_bipush (v := i32 8) B.1 B.2.1 dX16_topOf_85 (by decide) ?_
  refine lv_iload B.1 B.2.1 dX16_topOf_87 (lv_at hl 8 rfl) ?_
  obtain ⟨q4, h⟩ := h
  refine lv_imul B.1 B.2.1 dX16_topOf_89 ?_
  rw [i32_mul]
  refine lv_iload B.1 B.2.1 dX16_topOf_90 (lv_at hl 6 rfl) ?_
  obtain ⟨q5, h⟩ := h
  refine lv_iadd B.1 B.2.1 dX16_topOf_92 ?_
  rw [i32_add]
  obtain ⟨q6, h⟩ := h
  refine x_lald B K.2.1 hH (hS.ar (k := 73) (kd := 101) (n := 32000) (by decide)) (by decide) q6 dX16_topOf_93 ?_
  refine W.lcmp B.1 B.2.1 dX16_topOf_94 ?_
  refine lv_if_gt (tgt := 141) B.1 B.2.1 dX16_topOf_95 (by decide) (fun h9 => ?_) (fun h9 => ?_)
  · rw [if_pos ((lg_cmp_gt _ _).mp h9)] at h
    exact a_X16_topOf_141 K hQ hX hK14 hK41 _ _ _ _ _ _ _ _ _ g1 g2 g5 g8 g9 g11 h hGσ hS _ _ _ hH (lv_sub (l' := [(0, .ref rm), (1, .int (i32 v1)), (2, .int (i32 v2)), (3, .long v3), (5, .int (i32 v5)), (6, .long v6), (8, .int (i32 v8)), (9, .int (i32 v9)), (11, .int (i32 v11))]) hl [0, 1, 2, 3, 4, 5, 6, 7, 9] rfl) hc
  · rw [if_neg (fun q => h9 ((lg_cmp_gt _ _).mpr q))] at h
    exact a_X16_topOf_98 K hQ hX hK14 hK41 _ _ _ _ _ _ _ _ _ _ g1 g2 g5 g8 g9 g10 g11 h hGσ hS _ _ _ hH (lv_sub (l' := [(0, .ref rm), (1, .int (i32 v1)), (2, .int (i32 v2)), (3, .long v3), (5, .int (i32 v5)), (6, .long v6), (8, .int (i32 v8)), (9, .int (i32 v9)), (10, .int (i32 v10)), (11, .int (i32 v11))]) hl [0, 1, 2, 3, 4, 5, 6, 7, 8, 9] rfl) hc
set_option maxRecDepth 20000 in
theorem a_X16_topOf_62 {Q : Sg → Unit → Prop} {X : Sg → String → Prop} (K : MC R p s m args c cX16_topOf 12 RX16 D cA tys A n0 s0 3 79 []) (hQ : HQV p l e R s m args below meth c cX16_topOf D cA A n0 s0 QM dm ra jx rm Q) (hX : HX p l e R s m args below meth c 12 D cA A n0 s0 QM dm ra jx rm X) {K14 : Sg → Int → Int → Int64 → Int → Int64 → Int → Int → Prop} (hK14 : ∀ (σ : Sg) (v1 : Int) (v2 : Int) (v3 : Int64) (v5 : Int) (v6 : Int64) (v8 : Int) (v9 : Int) (g1 : rng v1) (g2 : rng v2) (g5 : rng v5) (g8 : rng v8) (g9 : rng v9), K14 σ v1 v2 v3 v5 v6 v8 v9 → RG σ → Shp dm ra jx rm σ → JJ p l e R s m args below meth c 12 D cA A n0 s0 QM σ 14 [(0, .ref rm), (1, .int (i32 v1)), (2, .int (i32 v2)), (3, .long v3), (5, .int (i32 v5)), (6, .long v6), (8, .int (i32 v8)), (9, .int (i32 v9))] []) {K41 : Sg → Int → Int → Int64 → Int → Int64 → Int → Int → Int → Int → Prop} (hK41 : ∀ (σ : Sg) (v1 : Int) (v2 : Int) (v3 : Int64) (v5 : Int) (v6 : Int64) (v8 : Int) (v9 : Int) (v10 : Int) (v11 : Int) (g1 : rng v1) (g2 : rng v2) (g5 : rng v5) (g8 : rng v8) (g9 : rng v9) (g10 : rng v10) (g11 : rng v11), K41 σ v1 v2 v3 v5 v6 v8 v9 v10 v11 → RG σ → Shp dm ra jx rm σ → JJ p l e R s m args below meth c 12 D cA A n0 s0 QM σ 41 [(0, .ref rm), (1, .int (i32 v1)), (2, .int (i32 v2)), (3, .long v3), (5, .int (i32 v5)), (6, .long v6), (8, .int (i32 v8)), (9, .int (i32 v9)), (10, .int (i32 v10)), (11, .int (i32 v11))] []) : ∀ (σ : Sg) (v1 : Int) (v2 : Int) (v3 : Int64) (v5 : Int) (v6 : Int64) (v8 : Int) (v9 : Int) (v10 : Int) (v11 : Int) (g1 : rng v1) (g2 : rng v2) (g5 : rng v5) (g8 : rng v8) (g9 : rng v9) (g10 : rng v10) (g11 : rng v11), w_X16_topOf_62 ra jx rm K14 K41 Q X σ v1 v2 v3 v5 v6 v8 v9 v10 v11 → RG σ → Shp dm ra jx rm σ → JJ p l e R s m args below meth c 12 D cA A n0 s0 QM σ 62 [(0, .ref rm), (1, .int (i32 v1)), (2, .int (i32 v2)), (3, .long v3), (5, .int (i32 v5)), (6, .long v6), (8, .int (i32 v8)), (9, .int (i32 v9)), (10, .int (i32 v10)), (11, .int (i32 v11))] [] := by
  intro σ v1 v2 v3 v5 v6 v8 v9 v10 v11 g1 g2 g5 g8 g9 g10 g11 h hGσ hS H locs ls hH hl hc
  have B := K.1
  unfold w_X16_topOf_62 at h
  refine lv_iload B.1 B.2.1 dX16_topOf_62 (lv_at hl 8 rfl) ?_
  refine lv_iconst (v := i32 (-1)) B.1 B.2.1 dX16_topOf_64 (by decide) ?_
  refine lv_icmp_eq (tgt := 141) B.1 B.2.1 dX16_topOf_65 (by decide) (fun h9 => ?_) (fun h9 => ?_)
  · rw [if_pos ((i32_eq g10 (by unfold rng; omega)).mp h9)] at h
    exact a_X16_topOf_141 K hQ hX hK14 hK41 _ _ _ _ _ _ _ _ _ g1 g2 g5 g8 g9 g11 h hGσ hS _ _ _ hH (lv_sub (l' := [(0, .ref rm), (1, .int (i32 v1)), (2, .int (i32 v2)), (3, .long v3), (5, .int (i32 v5)), (6, .long v6), (8, .int (i32 v8)), (9, .int (i32 v9)), (11, .int (i32 v11))]) hl [0, 1, 2, 3, 4, 5, 6, 7, 9] rfl) hc
  · rw [if_neg (fun q => h9 ((i32_eq g10 (by unfold rng; omega)).mpr q))] at h
    exact a_X16_topOf_68 K hQ hX hK14 hK41 _ _ _ _ _ _ _ _ _ _ g1 g2 g5 g8 g9 g10 g11 h hGσ hS _ _ _ hH (lv_sub (l' := [(0, .ref rm), (1, .int (i32 v1)), (2, .int (i32 v2)), (3, .long v3), (5, .int (i32 v5)), (6, .long v6), (8, .int (i32 v8)), (9, .int (i32 v9)), (10, .int (i32 v10)), (11, .int (i32 v11))]) hl [0, 1, 2, 3, 4, 5, 6, 7, 8, 9] rfl) hc
set_option maxRecDepth 20000 in
theorem a_X16_topOf_47 {Q : Sg → Unit → Prop} {X : Sg → String → Prop} (K : MC R p s m args c cX16_topOf 12 RX16 D cA tys A n0 s0 3 79 []) (hQ : HQV p l e R s m args below meth c cX16_topOf D cA A n0 s0 QM dm ra jx rm Q) (hX : HX p l e R s m args below meth c 12 D cA A n0 s0 QM dm ra jx rm X) {K14 : Sg → Int → Int → Int64 → Int → Int64 → Int → Int → Prop} (hK14 : ∀ (σ : Sg) (v1 : Int) (v2 : Int) (v3 : Int64) (v5 : Int) (v6 : Int64) (v8 : Int) (v9 : Int) (g1 : rng v1) (g2 : rng v2) (g5 : rng v5) (g8 : rng v8) (g9 : rng v9), K14 σ v1 v2 v3 v5 v6 v8 v9 → RG σ → Shp dm ra jx rm σ → JJ p l e R s m args below meth c 12 D cA A n0 s0 QM σ 14 [(0, .ref rm), (1, .int (i32 v1)), (2, .int (i32 v2)), (3, .long v3), (5, .int (i32 v5)), (6, .long v6), (8, .int (i32 v8)), (9, .int (i32 v9))] []) {K41 : Sg → Int → Int → Int64 → Int → Int64 → Int → Int → Int → Int → Prop} (hK41 : ∀ (σ : Sg) (v1 : Int) (v2 : Int) (v3 : Int64) (v5 : Int) (v6 : Int64) (v8 : Int) (v9 : Int) (v10 : Int) (v11 : Int) (g1 : rng v1) (g2 : rng v2) (g5 : rng v5) (g8 : rng v8) (g9 : rng v9) (g10 : rng v10) (g11 : rng v11), K41 σ v1 v2 v3 v5 v6 v8 v9 v10 v11 → RG σ → Shp dm ra jx rm σ → JJ p l e R s m args below meth c 12 D cA A n0 s0 QM σ 41 [(0, .ref rm), (1, .int (i32 v1)), (2, .int (i32 v2)), (3, .long v3), (5, .int (i32 v5)), (6, .long v6), (8, .int (i32 v8)), (9, .int (i32 v9)), (10, .int (i32 v10)), (11, .int (i32 v11))] []) : ∀ (σ : Sg) (v1 : Int) (v2 : Int) (v3 : Int64) (v5 : Int) (v6 : Int64) (v8 : Int) (v9 : Int) (v10 : Int) (v11 : Int) (g1 : rng v1) (g2 : rng v2) (g5 : rng v5) (g8 : rng v8) (g9 : rng v9) (g10 : rng v10) (g11 : rng v11), w_X16_topOf_47 ra jx rm K14 K41 Q X σ v1 v2 v3 v5 v6 v8 v9 v10 v11 → RG σ → Shp dm ra jx rm σ → JJ p l e R s m args below meth c 12 D cA A n0 s0 QM σ 47 [(0, .ref rm), (1, .int (i32 v1)), (2, .int (i32 v2)), (3, .long v3), (5, .int (i32 v5)), (6, .long v6), (8, .int (i32 v8)), (9, .int (i32 v9)), (10, .int (i32 v10)), (11, .int (i32 v11))] [] := by
  intro σ v1 v2 v3 v5 v6 v8 v9 v10 v11 g1 g2 g5 g8 g9 g10 g11 h hGσ hS H locs ls hH hl hc
  have B := K.1
  unfold w_X16_topOf_47 at h
  refine lv_aload_n B.1 B.2.1 dX16_topOf_47 rfl (lv_at hl 0 rfl) ?_
  refine r_arr B hH hS 71 (kd := 101) (n := 4000) (by decide) (by decide) wf_X16_522 rfl rfl dX16_topOf_48 ?_
  refine lv_iload B.1 B.2.1 dX16_topOf_51 (lv_at hl 9 rfl) ?_
  obtain ⟨q1, h⟩ := h
  refine x_lald B K.2.1 hH (hS.ar (k := 71) (kd := 101) (n := 4000) (by decide)) (by decide) q1 dX16_topOf_53 ?_
  refine lv_lload B.1 B.2.1 dX16_topOf_54 (lv_at hl 5 rfl) ?_
  obtain ⟨q2, h⟩ := h
  refine lv_ldiv B.1 B.2.1 dX16_topOf_56 q2 ?_
  refine lv_lload_n B.1 B.2.1 dX16_topOf_57 rfl (lv_at hl 3 rfl) ?_
  refine W.lcmp B.1 B.2.1 dX16_topOf_58 ?_
  refine lv_if_ne (tgt := 145) B.1 B.2.1 dX16_topOf_59 (by decide) (fun h9 => ?_) (fun h9 => ?_)
  · rw [if_pos (fun q => h9 ((lg_cmp_eq _ _).mpr q))] at h
    exact a_X16_topOf_145 K hQ hX hK14 hK41 _ _ _ _ _ _ _ _ _ _ g1 g2 g5 g8 g9 g10 g11 h hGσ hS _ _ _ hH (lv_sub (l' := [(0, .ref rm), (1, .int (i32 v1)), (2, .int (i32 v2)), (3, .long v3), (5, .int (i32 v5)), (6, .long v6), (8, .int (i32 v8)), (9, .int (i32 v9)), (10, .int (i32 v10)), (11, .int (i32 v11))]) hl [0, 1, 2, 3, 4, 5, 6, 7, 8, 9] rfl) hc
  · rw [if_neg (fun q => q ((lg_cmp_eq _ _).mp h9))] at h
    exact a_X16_topOf_62 K hQ hX hK14 hK41 _ _ _ _ _ _ _ _ _ _ g1 g2 g5 g8 g9 g10 g11 h hGσ hS _ _ _ hH (lv_sub (l' := [(0, .ref rm), (1, .int (i32 v1)), (2, .int (i32 v2)), (3, .long v3), (5, .int (i32 v5)), (6, .long v6), (8, .int (i32 v8)), (9, .int (i32 v9)), (10, .int (i32 v10)), (11, .int (i32 v11))]) hl [0, 1, 2, 3, 4, 5, 6, 7, 8, 9] rfl) hc
set_option maxRecDepth 20000 in
theorem a_X16_topOf_41 {Q : Sg → Unit → Prop} {X : Sg → String → Prop} (K : MC R p s m args c cX16_topOf 12 RX16 D cA tys A n0 s0 3 79 []) (hQ : HQV p l e R s m args below meth c cX16_topOf D cA A n0 s0 QM dm ra jx rm Q) (hX : HX p l e R s m args below meth c 12 D cA A n0 s0 QM dm ra jx rm X) {K14 : Sg → Int → Int → Int64 → Int → Int64 → Int → Int → Prop} (hK14 : ∀ (σ : Sg) (v1 : Int) (v2 : Int) (v3 : Int64) (v5 : Int) (v6 : Int64) (v8 : Int) (v9 : Int) (g1 : rng v1) (g2 : rng v2) (g5 : rng v5) (g8 : rng v8) (g9 : rng v9), K14 σ v1 v2 v3 v5 v6 v8 v9 → RG σ → Shp dm ra jx rm σ → JJ p l e R s m args below meth c 12 D cA A n0 s0 QM σ 14 [(0, .ref rm), (1, .int (i32 v1)), (2, .int (i32 v2)), (3, .long v3), (5, .int (i32 v5)), (6, .long v6), (8, .int (i32 v8)), (9, .int (i32 v9))] []) {K41 : Sg → Int → Int → Int64 → Int → Int64 → Int → Int → Int → Int → Prop} (hK41 : ∀ (σ : Sg) (v1 : Int) (v2 : Int) (v3 : Int64) (v5 : Int) (v6 : Int64) (v8 : Int) (v9 : Int) (v10 : Int) (v11 : Int) (g1 : rng v1) (g2 : rng v2) (g5 : rng v5) (g8 : rng v8) (g9 : rng v9) (g10 : rng v10) (g11 : rng v11), K41 σ v1 v2 v3 v5 v6 v8 v9 v10 v11 → RG σ → Shp dm ra jx rm σ → JJ p l e R s m args below meth c 12 D cA A n0 s0 QM σ 41 [(0, .ref rm), (1, .int (i32 v1)), (2, .int (i32 v2)), (3, .long v3), (5, .int (i32 v5)), (6, .long v6), (8, .int (i32 v8)), (9, .int (i32 v9)), (10, .int (i32 v10)), (11, .int (i32 v11))] []) : ∀ (σ : Sg) (v1 : Int) (v2 : Int) (v3 : Int64) (v5 : Int) (v6 : Int64) (v8 : Int) (v9 : Int) (v10 : Int) (v11 : Int) (g1 : rng v1) (g2 : rng v2) (g5 : rng v5) (g8 : rng v8) (g9 : rng v9) (g10 : rng v10) (g11 : rng v11), w_X16_topOf_41 ra jx rm K14 K41 Q X σ v1 v2 v3 v5 v6 v8 v9 v10 v11 → RG σ → Shp dm ra jx rm σ → JJ p l e R s m args below meth c 12 D cA A n0 s0 QM σ 41 [(0, .ref rm), (1, .int (i32 v1)), (2, .int (i32 v2)), (3, .long v3), (5, .int (i32 v5)), (6, .long v6), (8, .int (i32 v8)), (9, .int (i32 v9)), (10, .int (i32 v10)), (11, .int (i32 v11))] [] := by
  intro σ v1 v2 v3 v5 v6 v8 v9 v10 v11 g1 g2 g5 g8 g9 g10 g11 h hGσ hS H locs ls hH hl hc
  have B := K.1
  unfold w_X16_topOf_41 at h
  refine lv_iload B.1 B.2.1 dX16_topOf_41 (lv_at hl 9 rfl) ?_
  refine lv_iconst (v := i32 (-1)) B.1 B.2.1 dX16_topOf_43 (by decide) ?_
  refine lv_icmp_eq (tgt := 157) B.1 B.2.1 dX16_topOf_44 (by decide) (fun h9 => ?_) (fun h9 => ?_)
  · rw [if_pos ((i32_eq g11 (by unfold rng; omega)).mp h9)] at h
    exact a_X16_topOf_157 K hQ hX hK14 _ _ _ _ _ _ _ _ _ g1 g2 g5 g8 g9 g10 h hGσ hS _ _ _ hH (lv_sub (l' := [(0, .ref rm), (1, .int (i32 v1)), (2, .int (i32 v2)), (3, .long v3), (5, .int (i32 v5)), (6, .long v6), (8, .int (i32 v8)), (9, .int (i32 v9)), (10, .int (i32 v10))]) hl [0, 1, 2, 3, 4, 5, 6, 7, 8] rfl) hc
  · rw [if_neg (fun q => h9 ((i32_eq g11 (by unfold rng; omega)).mpr q))] at h
    exact a_X16_topOf_47 K hQ hX hK14 hK41 _ _ _ _ _ _ _ _ _ _ g1 g2 g5 g8 g9 g10 g11 h hGσ hS _ _ _ hH (lv_sub (l' := [(0, .ref rm), (1, .int (i32 v1)), (2, .int (i32 v2)), (3, .long v3), (5, .int (i32 v5)), (6, .long v6), (8, .int (i32 v8)), (9, .int (i32 v9)), (10, .int (i32 v10)), (11, .int (i32 v11))]) hl [0, 1, 2, 3, 4, 5, 6, 7, 8, 9] rfl) hc
theorem al_X16_topOf_41 {Q : Sg → Unit → Prop} {X : Sg → String → Prop} (K : MC R p s m args c cX16_topOf 12 RX16 D cA tys A n0 s0 3 79 []) (hQ : HQV p l e R s m args below meth c cX16_topOf D cA A n0 s0 QM dm ra jx rm Q) (hX : HX p l e R s m args below meth c 12 D cA A n0 s0 QM dm ra jx rm X) {K14 : Sg → Int → Int → Int64 → Int → Int64 → Int → Int → Prop} (hK14 : ∀ (σ : Sg) (v1 : Int) (v2 : Int) (v3 : Int64) (v5 : Int) (v6 : Int64) (v8 : Int) (v9 : Int) (g1 : rng v1) (g2 : rng v2) (g5 : rng v5) (g8 : rng v8) (g9 : rng v9), K14 σ v1 v2 v3 v5 v6 v8 v9 → RG σ → Shp dm ra jx rm σ → JJ p l e R s m args below meth c 12 D cA A n0 s0 QM σ 14 [(0, .ref rm), (1, .int (i32 v1)), (2, .int (i32 v2)), (3, .long v3), (5, .int (i32 v5)), (6, .long v6), (8, .int (i32 v8)), (9, .int (i32 v9))] []) : ∀ (n : Nat), ∀ (σ : Sg) (v1 : Int) (v2 : Int) (v3 : Int64) (v5 : Int) (v6 : Int64) (v8 : Int) (v9 : Int) (v10 : Int) (v11 : Int) (g1 : rng v1) (g2 : rng v2) (g5 : rng v5) (g8 : rng v8) (g9 : rng v9) (g10 : rng v10) (g11 : rng v11), wl_X16_topOf_41 ra jx rm K14 Q X n σ v1 v2 v3 v5 v6 v8 v9 v10 v11 → RG σ → Shp dm ra jx rm σ → JJ p l e R s m args below meth c 12 D cA A n0 s0 QM σ 41 [(0, .ref rm), (1, .int (i32 v1)), (2, .int (i32 v2)), (3, .long v3), (5, .int (i32 v5)), (6, .long v6), (8, .int (i32 v8)), (9, .int (i32 v9)), (10, .int (i32 v10)), (11, .int (i32 v11))] [] := by
  intro n
  induction n with
  | zero => intro σ v1 v2 v3 v5 v6 v8 v9 v10 v11 g1 g2 g5 g8 g9 g10 g11 h; exact h.elim
  | succ n ih => exact fun σ v1 v2 v3 v5 v6 v8 v9 v10 v11 g1 g2 g5 g8 g9 g10 g11 h => a_X16_topOf_41 K hQ hX hK14 ih σ v1 v2 v3 v5 v6 v8 v9 v10 v11 g1 g2 g5 g8 g9 g10 g11 h
set_option maxRecDepth 20000 in
theorem a_X16_topOf_30 {Q : Sg → Unit → Prop} {X : Sg → String → Prop} (K : MC R p s m args c cX16_topOf 12 RX16 D cA tys A n0 s0 3 79 []) (hQ : HQV p l e R s m args below meth c cX16_topOf D cA A n0 s0 QM dm ra jx rm Q) (hX : HX p l e R s m args below meth c 12 D cA A n0 s0 QM dm ra jx rm X) {K14 : Sg → Int → Int → Int64 → Int → Int64 → Int → Int → Prop} (hK14 : ∀ (σ : Sg) (v1 : Int) (v2 : Int) (v3 : Int64) (v5 : Int) (v6 : Int64) (v8 : Int) (v9 : Int) (g1 : rng v1) (g2 : rng v2) (g5 : rng v5) (g8 : rng v8) (g9 : rng v9), K14 σ v1 v2 v3 v5 v6 v8 v9 → RG σ → Shp dm ra jx rm σ → JJ p l e R s m args below meth c 12 D cA A n0 s0 QM σ 14 [(0, .ref rm), (1, .int (i32 v1)), (2, .int (i32 v2)), (3, .long v3), (5, .int (i32 v5)), (6, .long v6), (8, .int (i32 v8)), (9, .int (i32 v9))] []) : ∀ (σ : Sg) (v1 : Int) (v2 : Int) (v3 : Int64) (v5 : Int) (v6 : Int64) (v8 : Int) (v9 : Int) (g1 : rng v1) (g2 : rng v2) (g5 : rng v5) (g8 : rng v8) (g9 : rng v9), w_X16_topOf_30 ra jx rm K14 Q X σ v1 v2 v3 v5 v6 v8 v9 → RG σ → Shp dm ra jx rm σ → JJ p l e R s m args below meth c 12 D cA A n0 s0 QM σ 30 [(0, .ref rm), (1, .int (i32 v1)), (2, .int (i32 v2)), (3, .long v3), (5, .int (i32 v5)), (6, .long v6), (8, .int (i32 v8)), (9, .int (i32 v9))] [] := by
  intro σ v1 v2 v3 v5 v6 v8 v9 g1 g2 g5 g8 g9 h hGσ hS H locs ls hH hl hc
  have B := K.1
  unfold w_X16_topOf_30 at h
  refine lv_iconst (v := i32 (-1)) B.1 B.2.1 dX16_topOf_30 (by decide) ?_
  refine lv_istore (lv' := [(10, .int (i32 (-1))), (0, .ref rm), (1, .int (i32 v1)), (2, .int (i32 v2)), (3, .long v3), (5, .int (i32 v5)), (6, .long v6), (8, .int (i32 v8)), (9, .int (i32 v9))]) B.1 B.2.1 dX16_topOf_31 hl (by decide) rfl (fun ls hl => ?_)
  refine lv_aload_n B.1 B.2.1 dX16_topOf_33 rfl (lv_at hl 1 rfl) ?_
  refine r_arr B hH hS 76 (kd := 100) (n := 64) (by decide) (by decide) wf_X16_504 rfl rfl dX16_topOf_34 ?_
  refine lv_iload_n B.1 B.2.1 dX16_topOf_37 rfl (lv_at hl 2 rfl) ?_
  obtain ⟨q1, h⟩ := h
  refine x_iald B K.2.1 hH (hS.ar (k := 76) (kd := 100) (n := 64) (by decide)) (by decide) q1 dX16_topOf_38 ?_
  refine lv_istore (lv' := [(11, .int (i32 (gI σ (ra 76) v1.toNat))), (10, .int (i32 (-1))), (0, .ref rm), (1, .int (i32 v1)), (2, .int (i32 v2)), (3, .long v3), (5, .int (i32 v5)), (6, .long v6), (8, .int (i32 v8)), (9, .int (i32 v9))]) B.1 B.2.1 dX16_topOf_39 hl (by decide) rfl (fun ls hl => ?_)
  obtain ⟨n9, h⟩ := h
  exact al_X16_topOf_41 K hQ hX hK14 n9 _ _ _ _ _ _ _ _ _ _ g1 g2 g5 g8 g9 (by unfold rng; omega) (hGσ _ _) h hGσ hS _ _ _ hH (lv_sub (l' := [(0, .ref rm), (1, .int (i32 v1)), (2, .int (i32 v2)), (3, .long v3), (5, .int (i32 v5)), (6, .long v6), (8, .int (i32 v8)), (9, .int (i32 v9)), (10, .int (i32 (-1))), (11, .int (i32 (gI σ (ra 76) v1.toNat)))]) hl [2, 3, 4, 5, 6, 7, 8, 9, 1, 0] rfl) hc
set_option maxRecDepth 20000 in
theorem a_X16_topOf_14 {Q : Sg → Unit → Prop} {X : Sg → String → Prop} (K : MC R p s m args c cX16_topOf 12 RX16 D cA tys A n0 s0 3 79 []) (hQ : HQV p l e R s m args below meth c cX16_topOf D cA A n0 s0 QM dm ra jx rm Q) (hX : HX p l e R s m args below meth c 12 D cA A n0 s0 QM dm ra jx rm X) {K14 : Sg → Int → Int → Int64 → Int → Int64 → Int → Int → Prop} (hK14 : ∀ (σ : Sg) (v1 : Int) (v2 : Int) (v3 : Int64) (v5 : Int) (v6 : Int64) (v8 : Int) (v9 : Int) (g1 : rng v1) (g2 : rng v2) (g5 : rng v5) (g8 : rng v8) (g9 : rng v9), K14 σ v1 v2 v3 v5 v6 v8 v9 → RG σ → Shp dm ra jx rm σ → JJ p l e R s m args below meth c 12 D cA A n0 s0 QM σ 14 [(0, .ref rm), (1, .int (i32 v1)), (2, .int (i32 v2)), (3, .long v3), (5, .int (i32 v5)), (6, .long v6), (8, .int (i32 v8)), (9, .int (i32 v9))] []) : ∀ (σ : Sg) (v1 : Int) (v2 : Int) (v3 : Int64) (v5 : Int) (v6 : Int64) (v8 : Int) (v9 : Int) (g1 : rng v1) (g2 : rng v2) (g5 : rng v5) (g8 : rng v8) (g9 : rng v9), w_X16_topOf_14 ra jx rm K14 Q X σ v1 v2 v3 v5 v6 v8 v9 → RG σ → Shp dm ra jx rm σ → JJ p l e R s m args below meth c 12 D cA A n0 s0 QM σ 14 [(0, .ref rm), (1, .int (i32 v1)), (2, .int (i32 v2)), (3, .long v3), (5, .int (i32 v5)), (6, .long v6), (8, .int (i32 v8)), (9, .int (i32 v9))] [] := by
  intro σ v1 v2 v3 v5 v6 v8 v9 g1 g2 g5 g8 g9 h hGσ hS H locs ls hH hl hc
  have B := K.1
  unfold w_X16_topOf_14 at h
  refine lv_iload B.1 B.2.1 dX16_topOf_14 (lv_at hl 7 rfl) ?_
  refine lv_i2l B.1 B.2.1 dX16_topOf_16 (i32_i64 g9) ?_
  refine lv_aload_n B.1 B.2.1 dX16_topOf_17 rfl (lv_at hl 0 rfl) ?_
  refine r_getp B hH hS 17 (by decide) wf_X16_356 rfl rfl dX16_topOf_18 ?_
  obtain ⟨a26, ea26, ja26, h⟩ := h
  refine W.eq (g2 := F0 m 21 ls [.ref a26, .long (Int64.ofInt v9)]) (by rw [ea26]; rfl) ?_
  refine n_arr B hH hS ja26 8 (kd := 101) (n := 16) (by decide) (by decide) (List.mem_of_getElem? (i := 8) rfl) rfl dX16_topOf_21 ?_
  refine lv_iload_n B.1 B.2.1 dX16_topOf_24 rfl (lv_at hl 2 rfl) ?_
  obtain ⟨q2, h⟩ := h
  refine x_lald B K.2.1 hH (hS.ja ja26 (k := 8) (kd := 101) (n := 16) (by decide)) (by decide) q2 dX16_topOf_25 ?_
  refine W.lcmp B.1 B.2.1 dX16_topOf_26 ?_
  refine lv_if_gt (tgt := 262) B.1 B.2.1 dX16_topOf_27 (by decide) (fun h9 => ?_) (fun h9 => ?_)
  · rw [if_pos ((lg_cmp_gt _ _).mp h9)] at h
    exact a_X16_topOf_262 K hQ hX _ _ _ _ g1 h hGσ hS _ _ _ hH (lv_sub (l' := [(0, .ref rm), (1, .int (i32 v1)), (3, .long v3), (6, .long v6)]) hl [0, 1, 3, 5] rfl) hc
  · rw [if_neg (fun q => h9 ((lg_cmp_gt _ _).mpr q))] at h
    exact a_X16_topOf_30 K hQ hX hK14 _ _ _ _ _ _ _ _ g1 g2 g5 g8 g9 h hGσ hS _ _ _ hH (lv_sub (l' := [(0, .ref rm), (1, .int (i32 v1)), (2, .int (i32 v2)), (3, .long v3), (5, .int (i32 v5)), (6, .long v6), (8, .int (i32 v8)), (9, .int (i32 v9))]) hl [0, 1, 2, 3, 4, 5, 6, 7] rfl) hc
theorem al_X16_topOf_14 {Q : Sg → Unit → Prop} {X : Sg → String → Prop} (K : MC R p s m args c cX16_topOf 12 RX16 D cA tys A n0 s0 3 79 []) (hQ : HQV p l e R s m args below meth c cX16_topOf D cA A n0 s0 QM dm ra jx rm Q) (hX : HX p l e R s m args below meth c 12 D cA A n0 s0 QM dm ra jx rm X) : ∀ (n : Nat), ∀ (σ : Sg) (v1 : Int) (v2 : Int) (v3 : Int64) (v5 : Int) (v6 : Int64) (v8 : Int) (v9 : Int) (g1 : rng v1) (g2 : rng v2) (g5 : rng v5) (g8 : rng v8) (g9 : rng v9), wl_X16_topOf_14 ra jx rm Q X n σ v1 v2 v3 v5 v6 v8 v9 → RG σ → Shp dm ra jx rm σ → JJ p l e R s m args below meth c 12 D cA A n0 s0 QM σ 14 [(0, .ref rm), (1, .int (i32 v1)), (2, .int (i32 v2)), (3, .long v3), (5, .int (i32 v5)), (6, .long v6), (8, .int (i32 v8)), (9, .int (i32 v9))] [] := by
  intro n
  induction n with
  | zero => intro σ v1 v2 v3 v5 v6 v8 v9 g1 g2 g5 g8 g9 h; exact h.elim
  | succ n ih => exact fun σ v1 v2 v3 v5 v6 v8 v9 g1 g2 g5 g8 g9 h => a_X16_topOf_14 K hQ hX ih σ v1 v2 v3 v5 v6 v8 v9 g1 g2 g5 g8 g9 h
set_option maxRecDepth 20000 in
theorem a_X16_topOf_0 {Q : Sg → Unit → Prop} {X : Sg → String → Prop} (K : MC R p s m args c cX16_topOf 12 RX16 D cA tys A n0 s0 3 79 []) (hQ : HQV p l e R s m args below meth c cX16_topOf D cA A n0 s0 QM dm ra jx rm Q) (hX : HX p l e R s m args below meth c 12 D cA A n0 s0 QM dm ra jx rm X) : ∀ (σ : Sg) (v1 : Int) (v2 : Int) (v3 : Int64) (v5 : Int) (v6 : Int64) (g1 : rng v1) (g2 : rng v2) (g5 : rng v5), w_X16_topOf_0 ra jx rm Q X σ v1 v2 v3 v5 v6 → RG σ → Shp dm ra jx rm σ → JJ p l e R s m args below meth c 12 D cA A n0 s0 QM σ 0 [(0, .ref rm), (1, .int (i32 v1)), (2, .int (i32 v2)), (3, .long v3), (5, .int (i32 v5)), (6, .long v6)] [] := by
  intro σ v1 v2 v3 v5 v6 g1 g2 g5 h hGσ hS H locs ls hH hl hc
  have B := K.1
  unfold w_X16_topOf_0 at h
  refine lv_aload_n B.1 B.2.1 dX16_topOf_0 rfl (lv_at hl 0 rfl) ?_
  refine r_getp B hH hS 17 (by decide) wf_X16_356 rfl rfl dX16_topOf_1 ?_
  obtain ⟨a27, ea27, ja27, h⟩ := h
  refine W.eq (g2 := F0 m 4 ls [.ref a27]) (by rw [ea27]; rfl) ?_
  refine n_arr B hH hS ja27 10 (kd := 100) (n := 16) (by decide) (by decide) (List.mem_of_getElem? (i := 10) rfl) rfl dX16_topOf_4 ?_
  refine lv_iload_n B.1 B.2.1 dX16_topOf_7 rfl (lv_at hl 2 rfl) ?_
  obtain ⟨q2, h⟩ := h
  refine x_iald B K.2.1 hH (hS.ja ja27 (k := 10) (kd := 100) (n := 16) (by decide)) (by decide) q2 dX16_topOf_8 ?_
  refine lv_istore (lv' := [(8, .int (i32 (gI σ (jx a27 10) v2.toNat))), (0, .ref rm), (1, .int (i32 v1)), (2, .int (i32 v2)), (3, .long v3), (5, .int (i32 v5)), (6, .long v6)]) B.1 B.2.1 dX16_topOf_9 hl (by decide) rfl (fun ls hl => ?_)
  refine lv_iconst (v := i32 1) B.1 B.2.1 dX16_topOf_11 (by decide) ?_
  refine lv_istore (lv' := [(9, .int (i32 1)), (8, .int (i32 (gI σ (jx a27 10) v2.toNat))), (0, .ref rm), (1, .int (i32 v1)), (2, .int (i32 v2)), (3, .long v3), (5, .int (i32 v5)), (6, .long v6)]) B.1 B.2.1 dX16_topOf_12 hl (by decide) rfl (fun ls hl => ?_)
  obtain ⟨n9, h⟩ := h
  exact al_X16_topOf_14 K hQ hX n9 _ _ _ _ _ _ _ _ g1 g2 g5 (hGσ _ _) (by unfold rng; omega) h hGσ hS _ _ _ hH (lv_sub (l' := [(0, .ref rm), (1, .int (i32 v1)), (2, .int (i32 v2)), (3, .long v3), (5, .int (i32 v5)), (6, .long v6), (8, .int (i32 (gI σ (jx a27 10) v2.toNat))), (9, .int (i32 1))]) hl [2, 3, 4, 5, 6, 7, 1, 0] rfl) hc
theorem ok_X16_topOf (hT : Tys cA tys) {Q : Sg → Unit → Prop} {X : Sg → String → Prop} (σ : Sg) (v1 : Int) (v2 : Int) (v3 : Int64) (v5 : Int) (v6 : Int64) (g1 : rng v1) (g2 : rng v2) (g5 : rng v5) (hG : RG σ) (hS : Shp dm ra jx rm σ) (h : wp_X16_topOf ra jx rm v1 v2 v3 v5 v6 σ Q X) : Ok l D cA tys A yX16_topOf (.code yX16_topOf cX16_topOf 12 none) 3 79 [.ref rm, .int (i32 v1), .int (i32 v2), .long v3, .int (i32 v5), .long v6] σ (QnV dm ra jx rm Q) (QxR dm ra jx rm X) := by
  unfold wp_X16_topOf at h
  exact ok_V (plainFor_of_name (by decide)) (by exact Nat.le_of_ble_eq_true rfl) hT (fun p e R s m args below meth c K hQ hX H locs ls hH hl hc => a_X16_topOf_0 K hQ hX σ v1 v2 v3 v5 v6 g1 g2 g5 h hG hS H locs ls hH (lv_sub (l' := [(0, .ref rm), (1, .int (i32 v1)), (2, .int (i32 v2)), (3, .long v3), (5, .int (i32 v5)), (6, .long v6)]) hl [0, 1, 2, 3, 4, 5] rfl) hc)
theorem dX16_growTop_0 : decode cX16_growTop 0 = .ok (.aload_n 0, 1) := by decide +kernel
theorem dX16_growTop_1 : decode cX16_growTop 1 = .ok (.getfield 356, 3) := by decide +kernel
theorem dX16_growTop_4 : decode cX16_growTop 4 = .ok (.getfield 178, 3) := by decide +kernel
theorem dX16_growTop_7 : decode cX16_growTop 7 = .ok (.aload_n 0, 1) := by decide +kernel
theorem dX16_growTop_8 : decode cX16_growTop 8 = .ok (.getfield 356, 3) := by decide +kernel
theorem dX16_growTop_11 : decode cX16_growTop 11 = .ok (.getfield 216, 3) := by decide +kernel
theorem dX16_growTop_14 : decode cX16_growTop 14 = .ok (.iload_n 2, 1) := by decide +kernel
theorem dX16_growTop_15 : decode cX16_growTop 15 = .ok (.iaload, 1) := by decide +kernel
theorem dX16_growTop_16 : decode cX16_growTop 16 = .ok (.iaload, 1) := by decide +kernel
theorem dX16_growTop_17 : decode cX16_growTop 17 = .ok (.istore 5, 2) := by decide +kernel
theorem dX16_growTop_19 : decode cX16_growTop 19 = .ok (.aload_n 0, 1) := by decide +kernel
theorem dX16_growTop_20 : decode cX16_growTop 20 = .ok (.getfield 356, 3) := by decide +kernel
theorem dX16_growTop_23 : decode cX16_growTop 23 = .ok (.getfield 204, 3) := by decide +kernel
theorem dX16_growTop_26 : decode cX16_growTop 26 = .ok (.iload_n 2, 1) := by decide +kernel
theorem dX16_growTop_27 : decode cX16_growTop 27 = .ok (.laload, 1) := by decide +kernel
theorem dX16_growTop_28 : decode cX16_growTop 28 = .ok (.lstore 6, 2) := by decide +kernel
theorem dX16_growTop_30 : decode cX16_growTop 30 = .ok (.iconst 1, 1) := by decide +kernel
theorem dX16_growTop_31 : decode cX16_growTop 31 = .ok (.istore 8, 2) := by decide +kernel
theorem dX16_growTop_33 : decode cX16_growTop 33 = .ok (.iload 8, 2) := by decide +kernel
theorem dX16_growTop_35 : decode cX16_growTop 35 = .ok (.ifCond .eq 114, 3) := by decide +kernel
theorem dX16_growTop_38 : decode cX16_growTop 38 = .ok (.ldc2_w 417, 3) := by decide +kernel
theorem dX16_growTop_41 : decode cX16_growTop 41 = .ok (.lstore 9, 2) := by decide +kernel
theorem dX16_growTop_43 : decode cX16_growTop 43 = .ok (.aload_n 0, 1) := by decide +kernel
theorem dX16_growTop_44 : decode cX16_growTop 44 = .ok (.getfield 504, 3) := by decide +kernel
theorem dX16_growTop_47 : decode cX16_growTop 47 = .ok (.iload_n 1, 1) := by decide +kernel
theorem dX16_growTop_48 : decode cX16_growTop 48 = .ok (.iaload, 1) := by decide +kernel
theorem dX16_growTop_49 : decode cX16_growTop 49 = .ok (.istore 11, 2) := by decide +kernel
theorem dX16_growTop_51 : decode cX16_growTop 51 = .ok (.iload 11, 2) := by decide +kernel
theorem dX16_growTop_53 : decode cX16_growTop 53 = .ok (.iconst (-1), 1) := by decide +kernel
theorem dX16_growTop_54 : decode cX16_growTop 54 = .ok (.if_icmp .eq 61, 3) := by decide +kernel
theorem dX16_growTop_57 : decode cX16_growTop 57 = .ok (.aload_n 0, 1) := by decide +kernel
theorem dX16_growTop_58 : decode cX16_growTop 58 = .ok (.getfield 522, 3) := by decide +kernel
theorem dX16_growTop_61 : decode cX16_growTop 61 = .ok (.iload 11, 2) := by decide +kernel
theorem dX16_growTop_63 : decode cX16_growTop 63 = .ok (.laload, 1) := by decide +kernel
theorem dX16_growTop_64 : decode cX16_growTop 64 = .ok (.lload 6, 2) := by decide +kernel
theorem dX16_growTop_66 : decode cX16_growTop 66 = .ok (.ldiv, 1) := by decide +kernel
theorem dX16_growTop_67 : decode cX16_growTop 67 = .ok (.lstore 12, 2) := by decide +kernel
theorem dX16_growTop_69 : decode cX16_growTop 69 = .ok (.lload 12, 2) := by decide +kernel
theorem dX16_growTop_71 : decode cX16_growTop 71 = .ok (.lload 6, 2) := by decide +kernel
theorem dX16_growTop_73 : decode cX16_growTop 73 = .ok (.lmul, 1) := by decide +kernel
theorem dX16_growTop_74 : decode cX16_growTop 74 = .ok (.lload 6, 2) := by decide +kernel
theorem dX16_growTop_76 : decode cX16_growTop 76 = .ok (.ladd, 1) := by decide +kernel
theorem dX16_growTop_77 : decode cX16_growTop 77 = .ok (.lconst 1, 1) := by decide +kernel
theorem dX16_growTop_78 : decode cX16_growTop 78 = .ok (.lsub, 1) := by decide +kernel
theorem dX16_growTop_79 : decode cX16_growTop 79 = .ok (.lload_n 3, 1) := by decide +kernel
theorem dX16_growTop_80 : decode cX16_growTop 80 = .ok (.lcmp, 1) := by decide +kernel
theorem dX16_growTop_81 : decode cX16_growTop 81 = .ok (.ifCond .gt 22, 3) := by decide +kernel
theorem dX16_growTop_84 : decode cX16_growTop 84 = .ok (.lload 9, 2) := by decide +kernel
theorem dX16_growTop_86 : decode cX16_growTop 86 = .ok (.lconst 0, 1) := by decide +kernel
theorem dX16_growTop_87 : decode cX16_growTop 87 = .ok (.lcmp, 1) := by decide +kernel
theorem dX16_growTop_88 : decode cX16_growTop 88 = .ok (.ifCond .lt 11, 3) := by decide +kernel
theorem dX16_growTop_91 : decode cX16_growTop 91 = .ok (.lload 12, 2) := by decide +kernel
theorem dX16_growTop_93 : decode cX16_growTop 93 = .ok (.lload 9, 2) := by decide +kernel
theorem dX16_growTop_95 : decode cX16_growTop 95 = .ok (.lcmp, 1) := by decide +kernel
theorem dX16_growTop_96 : decode cX16_growTop 96 = .ok (.ifCond .ge 7, 3) := by decide +kernel
theorem dX16_growTop_99 : decode cX16_growTop 99 = .ok (.lload 12, 2) := by decide +kernel
theorem dX16_growTop_101 : decode cX16_growTop 101 = .ok (.lstore 9, 2) := by decide +kernel
theorem dX16_growTop_103 : decode cX16_growTop 103 = .ok (.aload_n 0, 1) := by decide +kernel
theorem dX16_growTop_104 : decode cX16_growTop 104 = .ok (.getfield 495, 3) := by decide +kernel
theorem dX16_growTop_107 : decode cX16_growTop 107 = .ok (.iload 11, 2) := by decide +kernel
theorem dX16_growTop_109 : decode cX16_growTop 109 = .ok (.iaload, 1) := by decide +kernel
theorem dX16_growTop_110 : decode cX16_growTop 110 = .ok (.istore 11, 2) := by decide +kernel
theorem dX16_growTop_112 : decode cX16_growTop 112 = .ok (.goto (-61), 3) := by decide +kernel
theorem dX16_growTop_115 : decode cX16_growTop 115 = .ok (.lload 9, 2) := by decide +kernel
theorem dX16_growTop_117 : decode cX16_growTop 117 = .ok (.lconst 0, 1) := by decide +kernel
theorem dX16_growTop_118 : decode cX16_growTop 118 = .ok (.lcmp, 1) := by decide +kernel
theorem dX16_growTop_119 : decode cX16_growTop 119 = .ok (.ifCond .lt 7, 3) := by decide +kernel
theorem dX16_growTop_122 : decode cX16_growTop 122 = .ok (.iconst 1, 1) := by decide +kernel
theorem dX16_growTop_123 : decode cX16_growTop 123 = .ok (.goto 4, 3) := by decide +kernel
theorem dX16_growTop_126 : decode cX16_growTop 126 = .ok (.iconst 0, 1) := by decide +kernel
theorem dX16_growTop_127 : decode cX16_growTop 127 = .ok (.istore 8, 2) := by decide +kernel
theorem dX16_growTop_129 : decode cX16_growTop 129 = .ok (.iload 8, 2) := by decide +kernel
theorem dX16_growTop_131 : decode cX16_growTop 131 = .ok (.ifCond .eq 15, 3) := by decide +kernel
theorem dX16_growTop_134 : decode cX16_growTop 134 = .ok (.aload_n 0, 1) := by decide +kernel
theorem dX16_growTop_135 : decode cX16_growTop 135 = .ok (.iload_n 1, 1) := by decide +kernel
theorem dX16_growTop_136 : decode cX16_growTop 136 = .ok (.iload_n 2, 1) := by decide +kernel
theorem dX16_growTop_137 : decode cX16_growTop 137 = .ok (.lload 9, 2) := by decide +kernel
theorem dX16_growTop_139 : decode cX16_growTop 139 = .ok (.iload 5, 2) := by decide +kernel
theorem dX16_growTop_141 : decode cX16_growTop 141 = .ok (.lload 6, 2) := by decide +kernel
theorem dX16_growTop_143 : decode cX16_growTop 143 = .ok (.invokevirtual 648, 3) := by decide +kernel
theorem dX16_growTop_146 : decode cX16_growTop 146 = .ok (.goto (-113), 3) := by decide +kernel
theorem dX16_growTop_149 : decode cX16_growTop 149 = .ok (.return_, 1) := by decide +kernel
set_option maxRecDepth 20000 in
theorem a_X16_growTop_149 {Q : Sg → Unit → Prop} {X : Sg → String → Prop} (K : MC R p s m args c cX16_growTop 14 RX16 D cA tys A n0 s0 4 110 []) (hQ : HQV p l e R s m args below meth c cX16_growTop D cA A n0 s0 QM dm ra jx rm Q) (hX : HX p l e R s m args below meth c 14 D cA A n0 s0 QM dm ra jx rm X) : ∀ (σ : Sg), w_X16_growTop_149 ra jx rm Q X σ → RG σ → Shp dm ra jx rm σ → JJ p l e R s m args below meth c 14 D cA A n0 s0 QM σ 149 [(0, .ref rm)] [] := by
  intro σ h hGσ hS H locs ls hH hl hc
  have B := K.1
  unfold w_X16_growTop_149 at h
  exact hQ _ _ _ _ _ dX16_growTop_149 hH hc h hGσ hS
set_option maxRecDepth 20000 in
theorem a_X16_growTop_146 {Q : Sg → Unit → Prop} {X : Sg → String → Prop} (K : MC R p s m args c cX16_growTop 14 RX16 D cA tys A n0 s0 4 110 []) (hQ : HQV p l e R s m args below meth c cX16_growTop D cA A n0 s0 QM dm ra jx rm Q) (hX : HX p l e R s m args below meth c 14 D cA A n0 s0 QM dm ra jx rm X) {K33 : Sg → Int → Int → Int64 → Int → Int64 → Int → Prop} (hK33 : ∀ (σ : Sg) (v1 : Int) (v2 : Int) (v3 : Int64) (v5 : Int) (v6 : Int64) (v8 : Int) (g1 : rng v1) (g2 : rng v2) (g5 : rng v5) (g8 : rng v8), K33 σ v1 v2 v3 v5 v6 v8 → RG σ → Shp dm ra jx rm σ → JJ p l e R s m args below meth c 14 D cA A n0 s0 QM σ 33 [(0, .ref rm), (1, .int (i32 v1)), (2, .int (i32 v2)), (3, .long v3), (5, .int (i32 v5)), (6, .long v6), (8, .int (i32 v8))] []) : ∀ (σ : Sg) (v1 : Int) (v2 : Int) (v3 : Int64) (v5 : Int) (v6 : Int64) (v8 : Int) (g1 : rng v1) (g2 : rng v2) (g5 : rng v5) (g8 : rng v8), w_X16_growTop_146 ra jx rm K33 Q X σ v1 v2 v3 v5 v6 v8 → RG σ → Shp dm ra jx rm σ → JJ p l e R s m args below meth c 14 D cA A n0 s0 QM σ 146 [(0, .ref rm), (1, .int (i32 v1)), (2, .int (i32 v2)), (3, .long v3), (5, .int (i32 v5)), (6, .long v6), (8, .int (i32 v8))] [] := by
  intro σ v1 v2 v3 v5 v6 v8 g1 g2 g5 g8 h hGσ hS H locs ls hH hl hc
  have B := K.1
  unfold w_X16_growTop_146 at h
  refine lv_goto (tgt := 33) B.1 B.2.1 dX16_growTop_146 (by decide) ?_
  exact hK33 _ _ _ _ _ _ _ g1 g2 g5 g8 h hGσ hS _ _ _ hH (lv_sub (l' := [(0, .ref rm), (1, .int (i32 v1)), (2, .int (i32 v2)), (3, .long v3), (5, .int (i32 v5)), (6, .long v6), (8, .int (i32 v8))]) hl [0, 1, 2, 3, 4, 5, 6] rfl) hc
set_option maxRecDepth 20000 in
theorem a_X16_growTop_134 {Q : Sg → Unit → Prop} {X : Sg → String → Prop} (K : MC R p s m args c cX16_growTop 14 RX16 D cA tys A n0 s0 4 110 []) (hQ : HQV p l e R s m args below meth c cX16_growTop D cA A n0 s0 QM dm ra jx rm Q) (hX : HX p l e R s m args below meth c 14 D cA A n0 s0 QM dm ra jx rm X) {K33 : Sg → Int → Int → Int64 → Int → Int64 → Int → Prop} (hK33 : ∀ (σ : Sg) (v1 : Int) (v2 : Int) (v3 : Int64) (v5 : Int) (v6 : Int64) (v8 : Int) (g1 : rng v1) (g2 : rng v2) (g5 : rng v5) (g8 : rng v8), K33 σ v1 v2 v3 v5 v6 v8 → RG σ → Shp dm ra jx rm σ → JJ p l e R s m args below meth c 14 D cA A n0 s0 QM σ 33 [(0, .ref rm), (1, .int (i32 v1)), (2, .int (i32 v2)), (3, .long v3), (5, .int (i32 v5)), (6, .long v6), (8, .int (i32 v8))] []) : ∀ (σ : Sg) (v1 : Int) (v2 : Int) (v3 : Int64) (v5 : Int) (v6 : Int64) (v8 : Int) (v9 : Int64) (g1 : rng v1) (g2 : rng v2) (g5 : rng v5) (g8 : rng v8), w_X16_growTop_134 ra jx rm K33 Q X σ v1 v2 v3 v5 v6 v8 v9 → RG σ → Shp dm ra jx rm σ → JJ p l e R s m args below meth c 14 D cA A n0 s0 QM σ 134 [(0, .ref rm), (1, .int (i32 v1)), (2, .int (i32 v2)), (3, .long v3), (5, .int (i32 v5)), (6, .long v6), (8, .int (i32 v8)), (9, .long v9)] [] := by
  intro σ v1 v2 v3 v5 v6 v8 v9 g1 g2 g5 g8 h hGσ hS H locs ls hH hl hc
  have B := K.1
  unfold w_X16_growTop_134 at h
  refine lv_aload_n B.1 B.2.1 dX16_growTop_134 rfl (lv_at hl 0 rfl) ?_
  refine lv_iload_n B.1 B.2.1 dX16_growTop_135 rfl (lv_at hl 1 rfl) ?_
  refine lv_iload_n B.1 B.2.1 dX16_growTop_136 rfl (lv_at hl 2 rfl) ?_
  refine lv_lload B.1 B.2.1 dX16_growTop_137 (lv_at hl 7 rfl) ?_
  refine lv_iload B.1 B.2.1 dX16_growTop_139 (lv_at hl 4 rfl) ?_
  refine lv_lload B.1 B.2.1 dX16_growTop_141 (lv_at hl 5 rfl) ?_
  refine c_V B hH hl hc K.2.2.1 (C := RX16) (T := TX16) (N := 123) (ci := 16) (As := [.int (i32 v1), .int (i32 v2), .long v9, .int (i32 v5), .long v6]) (ok_X16_topOf K.2.1 σ v1 v2 v9 v5 v6 g1 g2 g5 hGσ hS h) wc_X16_648 5 hd_X16_topOf ⟨Nat.le_trans (Nat.le_of_ble_eq_true rfl) K.2.2.2.1, Nat.le_trans (Nat.le_of_ble_eq_true rfl) K.2.2.2.2.1⟩ hS.1.1 hS.1.2 (by decide) rfl rfl (rest := []) rfl (Nat.le_of_ble_eq_true rfl) dX16_growTop_143 (fun σ9 w hq => ?_) (fun σ9 E9 hx9 => hX σ9 E9 _ _ _ (tb_out K.2.2.2.2.2 rfl) hx9.1 hx9.2.1 hx9.2.2)
  obtain ⟨rfl, h, hGσ9, hS⟩ := hq
  intro H locs ls hH hl hc
  refine W.eq (g2 := F0 m 146 ls []) (rfl) ?_
  try dsimp only at h
  exact a_X16_growTop_146 K hQ hX hK33 _ _ _ _ _ _ _ g1 g2 g5 g8 h hGσ9 hS _ _ _ hH (lv_sub (l' := [(0, .ref rm), (1, .int (i32 v1)), (2, .int (i32 v2)), (3, .long v3), (5, .int (i32 v5)), (6, .long v6), (8, .int (i32 v8))]) hl [0, 1, 2, 3, 4, 5, 6] rfl) hc
set_option maxRecDepth 20000 in
theorem a_X16_growTop_127 {Q : Sg → Unit → Prop} {X : Sg → String → Prop} (K : MC R p s m args c cX16_growTop 14 RX16 D cA tys A n0 s0 4 110 []) (hQ : HQV p l e R s m args below meth c cX16_growTop D cA A n0 s0 QM dm ra jx rm Q) (hX : HX p l e R s m args below meth c 14 D cA A n0 s0 QM dm ra jx rm X) {K33 : Sg → Int → Int → Int64 → Int → Int64 → Int → Prop} (hK33 : ∀ (σ : Sg) (v1 : Int) (v2 : Int) (v3 : Int64) (v5 : Int) (v6 : Int64) (v8 : Int) (g1 : rng v1) (g2 : rng v2) (g5 : rng v5) (g8 : rng v8), K33 σ v1 v2 v3 v5 v6 v8 → RG σ → Shp dm ra jx rm σ → JJ p l e R s m args below meth c 14 D cA A n0 s0 QM σ 33 [(0, .ref rm), (1, .int (i32 v1)), (2, .int (i32 v2)), (3, .long v3), (5, .int (i32 v5)), (6, .long v6), (8, .int (i32 v8))] []) : ∀ (σ : Sg) (v1 : Int) (v2 : Int) (v3 : Int64) (v5 : Int) (v6 : Int64) (v9 : Int64) (u0 : Int) (g1 : rng v1) (g2 : rng v2) (g5 : rng v5) (gu0 : rng u0), w_X16_growTop_127 ra jx rm K33 Q X σ v1 v2 v3 v5 v6 v9 u0 → RG σ → Shp dm ra jx rm σ → JJ p l e R s m args below meth c 14 D cA A n0 s0 QM σ 127 [(0, .ref rm), (1, .int (i32 v1)), (2, .int (i32 v2)), (3, .long v3), (5, .int (i32 v5)), (6, .long v6), (9, .long v9)] [.int (i32 u0)] := by
  intro σ v1 v2 v3 v5 v6 v9 u0 g1 g2 g5 gu0 h hGσ hS H locs ls hH hl hc
  have B := K.1
  unfold w_X16_growTop_127 at h
  refine lv_istore (lv' := [(8, .int (i32 u0)), (0, .ref rm), (1, .int (i32 v1)), (2, .int (i32 v2)), (3, .long v3), (5, .int (i32 v5)), (6, .long v6), (9, .long v9)]) B.1 B.2.1 dX16_growTop_127 hl (by decide) rfl (fun ls hl => ?_)
  refine lv_iload B.1 B.2.1 dX16_growTop_129 (lv_at hl 0 rfl) ?_
  refine lv_if_eq (tgt := 146) B.1 B.2.1 dX16_growTop_131 (by decide) (fun h9 => ?_) (fun h9 => ?_)
  · rw [if_pos ((z_eq gu0).mp h9)] at h
    exact a_X16_growTop_146 K hQ hX hK33 _ _ _ _ _ _ _ g1 g2 g5 gu0 h hGσ hS _ _ _ hH (lv_sub (l' := [(0, .ref rm), (1, .int (i32 v1)), (2, .int (i32 v2)), (3, .long v3), (5, .int (i32 v5)), (6, .long v6), (8, .int (i32 u0))]) hl [1, 2, 3, 4, 5, 6, 0] rfl) hc
  · rw [if_neg (fun q => h9 ((z_eq gu0).mpr q))] at h
    exact a_X16_growTop_134 K hQ hX hK33 _ _ _ _ _ _ _ _ g1 g2 g5 gu0 h hGσ hS _ _ _ hH (lv_sub (l' := [(0, .ref rm), (1, .int (i32 v1)), (2, .int (i32 v2)), (3, .long v3), (5, .int (i32 v5)), (6, .long v6), (8, .int (i32 u0)), (9, .long v9)]) hl [1, 2, 3, 4, 5, 6, 0, 7] rfl) hc
set_option maxRecDepth 20000 in
theorem a_X16_growTop_126 {Q : Sg → Unit → Prop} {X : Sg → String → Prop} (K : MC R p s m args c cX16_growTop 14 RX16 D cA tys A n0 s0 4 110 []) (hQ : HQV p l e R s m args below meth c cX16_growTop D cA A n0 s0 QM dm ra jx rm Q) (hX : HX p l e R s m args below meth c 14 D cA A n0 s0 QM dm ra jx rm X) {K33 : Sg → Int → Int → Int64 → Int → Int64 → Int → Prop} (hK33 : ∀ (σ : Sg) (v1 : Int) (v2 : Int) (v3 : Int64) (v5 : Int) (v6 : Int64) (v8 : Int) (g1 : rng v1) (g2 : rng v2) (g5 : rng v5) (g8 : rng v8), K33 σ v1 v2 v3 v5 v6 v8 → RG σ → Shp dm ra jx rm σ → JJ p l e R s m args below meth c 14 D cA A n0 s0 QM σ 33 [(0, .ref rm), (1, .int (i32 v1)), (2, .int (i32 v2)), (3, .long v3), (5, .int (i32 v5)), (6, .long v6), (8, .int (i32 v8))] []) : ∀ (σ : Sg) (v1 : Int) (v2 : Int) (v3 : Int64) (v5 : Int) (v6 : Int64) (v9 : Int64) (g1 : rng v1) (g2 : rng v2) (g5 : rng v5), w_X16_growTop_126 ra jx rm K33 Q X σ v1 v2 v3 v5 v6 v9 → RG σ → Shp dm ra jx rm σ → JJ p l e R s m args below meth c 14 D cA A n0 s0 QM σ 126 [(0, .ref rm), (1, .int (i32 v1)), (2, .int (i32 v2)), (3, .long v3), (5, .int (i32 v5)), (6, .long v6), (9, .long v9)] [] := by
  intro σ v1 v2 v3 v5 v6 v9 g1 g2 g5 h hGσ hS H locs ls hH hl hc
  have B := K.1
  unfold w_X16_growTop_126 at h
  refine lv_iconst (v := i32 0) B.1 B.2.1 dX16_growTop_126 (by decide) ?_
  exact a_X16_growTop_127 K hQ hX hK33 _ _ _ _ _ _ _ _ g1 g2 g5 (by unfold rng; omega) h hGσ hS _ _ _ hH (lv_sub (l' := [(0, .ref rm), (1, .int (i32 v1)), (2, .int (i32 v2)), (3, .long v3), (5, .int (i32 v5)), (6, .long v6), (9, .long v9)]) hl [0, 1, 2, 3, 4, 5, 6] rfl) hc
set_option maxRecDepth 20000 in
theorem a_X16_growTop_122 {Q : Sg → Unit → Prop} {X : Sg → String → Prop} (K : MC R p s m args c cX16_growTop 14 RX16 D cA tys A n0 s0 4 110 []) (hQ : HQV p l e R s m args below meth c cX16_growTop D cA A n0 s0 QM dm ra jx rm Q) (hX : HX p l e R s m args below meth c 14 D cA A n0 s0 QM dm ra jx rm X) {K33 : Sg → Int → Int → Int64 → Int → Int64 → Int → Prop} (hK33 : ∀ (σ : Sg) (v1 : Int) (v2 : Int) (v3 : Int64) (v5 : Int) (v6 : Int64) (v8 : Int) (g1 : rng v1) (g2 : rng v2) (g5 : rng v5) (g8 : rng v8), K33 σ v1 v2 v3 v5 v6 v8 → RG σ → Shp dm ra jx rm σ → JJ p l e R s m args below meth c 14 D cA A n0 s0 QM σ 33 [(0, .ref rm), (1, .int (i32 v1)), (2, .int (i32 v2)), (3, .long v3), (5, .int (i32 v5)), (6, .long v6), (8, .int (i32 v8))] []) : ∀ (σ : Sg) (v1 : Int) (v2 : Int) (v3 : Int64) (v5 : Int) (v6 : Int64) (v9 : Int64) (g1 : rng v1) (g2 : rng v2) (g5 : rng v5), w_X16_growTop_122 ra jx rm K33 Q X σ v1 v2 v3 v5 v6 v9 → RG σ → Shp dm ra jx rm σ → JJ p l e R s m args below meth c 14 D cA A n0 s0 QM σ 122 [(0, .ref rm), (1, .int (i32 v1)), (2, .int (i32 v2)), (3, .long v3), (5, .int (i32 v5)), (6, .long v6), (9, .long v9)] [] := by
  intro σ v1 v2 v3 v5 v6 v9 g1 g2 g5 h hGσ hS H locs ls hH hl hc
  have B := K.1
  unfold w_X16_growTop_122 at h
  refine lv_iconst (v := i32 1) B.1 B.2.1 dX16_growTop_122 (by decide) ?_
  refine lv_goto (tgt := 127) B.1 B.2.1 dX16_growTop_123 (by decide) ?_
  exact a_X16_growTop_127 K hQ hX hK33 _ _ _ _ _ _ _ _ g1 g2 g5 (by unfold rng; omega) h hGσ hS _ _ _ hH (lv_sub (l' := [(0, .ref rm), (1, .int (i32 v1)), (2, .int (i32 v2)), (3, .long v3), (5, .int (i32 v5)), (6, .long v6), (9, .long v9)]) hl [0, 1, 2, 3, 4, 5, 6] rfl) hc
set_option maxRecDepth 20000 in
theorem a_X16_growTop_115 {Q : Sg → Unit → Prop} {X : Sg → String → Prop} (K : MC R p s m args c cX16_growTop 14 RX16 D cA tys A n0 s0 4 110 []) (hQ : HQV p l e R s m args below meth c cX16_growTop D cA A n0 s0 QM dm ra jx rm Q) (hX : HX p l e R s m args below meth c 14 D cA A n0 s0 QM dm ra jx rm X) {K33 : Sg → Int → Int → Int64 → Int → Int64 → Int → Prop} (hK33 : ∀ (σ : Sg) (v1 : Int) (v2 : Int) (v3 : Int64) (v5 : Int) (v6 : Int64) (v8 : Int) (g1 : rng v1) (g2 : rng v2) (g5 : rng v5) (g8 : rng v8), K33 σ v1 v2 v3 v5 v6 v8 → RG σ → Shp dm ra jx rm σ → JJ p l e R s m args below meth c 14 D cA A n0 s0 QM σ 33 [(0, .ref rm), (1, .int (i32 v1)), (2, .int (i32 v2)), (3, .long v3), (5, .int (i32 v5)), (6, .long v6), (8, .int (i32 v8))] []) : ∀ (σ : Sg) (v1 : Int) (v2 : Int) (v3 : Int64) (v5 : Int) (v6 : Int64) (v9 : Int64) (g1 : rng v1) (g2 : rng v2) (g5 : rng v5), w_X16_growTop_115 ra jx rm K33 Q X σ v1 v2 v3 v5 v6 v9 → RG σ → Shp dm ra jx rm σ → JJ p l e R s m args below meth c 14 D cA A n0 s0 QM σ 115 [(0, .ref rm), (1, .int (i32 v1)), (2, .int (i32 v2)), (3, .long v3), (5, .int (i32 v5)), (6, .long v6), (9, .long v9)] [] := by
  intro σ v1 v2 v3 v5 v6 v9 g1 g2 g5 h hGσ hS H locs ls hH hl hc
  have B := K.1
  unfold w_X16_growTop_115 at h
  refine lv_lload B.1 B.2.1 dX16_growTop_115 (lv_at hl 6 rfl) ?_
  refine lv_lconst (v := 0) B.1 B.2.1 dX16_growTop_117 (by decide) ?_
  refine W.lcmp B.1 B.2.1 dX16_growTop_118 ?_
  refine lv_if_lt (tgt := 126) B.1 B.2.1 dX16_growTop_119 (by decide) (fun h9 => ?_) (fun h9 => ?_)
  · rw [if_pos ((lg_cmp_lt _ _).mp h9)] at h
    exact a_X16_growTop_126 K hQ hX hK33 _ _ _ _ _ _ _ g1 g2 g5 h hGσ hS _ _ _ hH (lv_sub (l' := [(0, .ref rm), (1, .int (i32 v1)), (2, .int (i32 v2)), (3, .long v3), (5, .int (i32 v5)), (6, .long v6), (9, .long v9)]) hl [0, 1, 2, 3, 4, 5, 6] rfl) hc
  · rw [if_neg (fun q => h9 ((lg_cmp_lt _ _).mpr q))] at h
    exact a_X16_growTop_122 K hQ hX hK33 _ _ _ _ _ _ _ g1 g2 g5 h hGσ hS _ _ _ hH (lv_sub (l' := [(0, .ref rm), (1, .int (i32 v1)), (2, .int (i32 v2)), (3, .long v3), (5, .int (i32 v5)), (6, .long v6), (9, .long v9)]) hl [0, 1, 2, 3, 4, 5, 6] rfl) hc
set_option maxRecDepth 20000 in
theorem a_X16_growTop_103 {Q : Sg → Unit → Prop} {X : Sg → String → Prop} (K : MC R p s m args c cX16_growTop 14 RX16 D cA tys A n0 s0 4 110 []) (hQ : HQV p l e R s m args below meth c cX16_growTop D cA A n0 s0 QM dm ra jx rm Q) (hX : HX p l e R s m args below meth c 14 D cA A n0 s0 QM dm ra jx rm X) {K33 : Sg → Int → Int → Int64 → Int → Int64 → Int → Prop} (hK33 : ∀ (σ : Sg) (v1 : Int) (v2 : Int) (v3 : Int64) (v5 : Int) (v6 : Int64) (v8 : Int) (g1 : rng v1) (g2 : rng v2) (g5 : rng v5) (g8 : rng v8), K33 σ v1 v2 v3 v5 v6 v8 → RG σ → Shp dm ra jx rm σ → JJ p l e R s m args below meth c 14 D cA A n0 s0 QM σ 33 [(0, .ref rm), (1, .int (i32 v1)), (2, .int (i32 v2)), (3, .long v3), (5, .int (i32 v5)), (6, .long v6), (8, .int (i32 v8))] []) {K51 : Sg → Int → Int → Int64 → Int → Int64 → Int64 → Int → Prop} (hK51 : ∀ (σ : Sg) (v1 : Int) (v2 : Int) (v3 : Int64) (v5 : Int) (v6 : Int64) (v9 : Int64) (v11 : Int) (g1 : rng v1) (g2 : rng v2) (g5 : rng v5) (g11 : rng v11), K51 σ v1 v2 v3 v5 v6 v9 v11 → RG σ → Shp dm ra jx rm σ → JJ p l e R s m args below meth c 14 D cA A n0 s0 QM σ 51 [(0, .ref rm), (1, .int (i32 v1)), (2, .int (i32 v2)), (3, .long v3), (5, .int (i32 v5)), (6, .long v6), (9, .long v9), (11, .int (i32 v11))] []) : ∀ (σ : Sg) (v1 : Int) (v2 : Int) (v3 : Int64) (v5 : Int) (v6 : Int64) (v9 : Int64) (v11 : Int) (g1 : rng v1) (g2 : rng v2) (g5 : rng v5) (g11 : rng v11), w_X16_growTop_103 ra jx rm K33 K51 Q X σ v1 v2 v3 v5 v6 v9 v11 → RG σ → Shp dm ra jx rm σ → JJ p l e R s m args below meth c 14 D cA A n0 s0 QM σ 103 [(0, .ref rm), (1, .int (i32 v1)), (2, .int (i32 v2)), (3, .long v3), (5, .int (i32 v5)), (6, .long v6), (9, .long v9), (11, .int (i32 v11))] [] := by
  intro σ v1 v2 v3 v5 v6 v9 v11 g1 g2 g5 g11 h hGσ hS H locs ls hH hl hc
  have B := K.1
  unfold w_X16_growTop_103 at h
  refine lv_aload_n B.1 B.2.1 dX16_growTop_103 rfl (lv_at hl 0 rfl) ?_
  refine r_arr B hH hS 75 (kd := 100) (n := 4000) (by decide) (by decide) wf_X16_495 rfl rfl dX16_growTop_104 ?_
  refine lv_iload B.1 B.2.1 dX16_growTop_107 (lv_at hl 7 rfl) ?_
  obtain ⟨q1, h⟩ := h
  refine x_iald B K.2.1 hH (hS.ar (k := 75) (kd := 100) (n := 4000) (by decide)) (by decide) q1 dX16_growTop_109 ?_
  refine lv_istore (lv' := [(11, .int (i32 (gI σ (ra 75) v11.toNat))), (0, .ref rm), (1, .int (i32 v1)), (2, .int (i32 v2)), (3, .long v3), (5, .int (i32 v5)), (6, .long v6), (9, .long v9)]) B.1 B.2.1 dX16_growTop_110 hl (by decide) rfl (fun ls hl => ?_)
  refine lv_goto (tgt := 51) B.1 B.2.1 dX16_growTop_112 (by decide) ?_
  exact hK51 _ _ _ _ _ _ _ _ g1 g2 g5 (hGσ _ _) h hGσ hS _ _ _ hH (lv_sub (l' := [(0, .ref rm), (1, .int (i32 v1)), (2, .int (i32 v2)), (3, .long v3), (5, .int (i32 v5)), (6, .long v6), (9, .long v9), (11, .int (i32 (gI σ (ra 75) v11.toNat)))]) hl [1, 2, 3, 4, 5, 6, 7, 0] rfl) hc
set_option maxRecDepth 20000 in
theorem a_X16_growTop_99 {Q : Sg → Unit → Prop} {X : Sg → String → Prop} (K : MC R p s m args c cX16_growTop 14 RX16 D cA tys A n0 s0 4 110 []) (hQ : HQV p l e R s m args below meth c cX16_growTop D cA A n0 s0 QM dm ra jx rm Q) (hX : HX p l e R s m args below meth c 14 D cA A n0 s0 QM dm ra jx rm X) {K33 : Sg → Int → Int → Int64 → Int → Int64 → Int → Prop} (hK33 : ∀ (σ : Sg) (v1 : Int) (v2 : Int) (v3 : Int64) (v5 : Int) (v6 : Int64) (v8 : Int) (g1 : rng v1) (g2 : rng v2) (g5 : rng v5) (g8 : rng v8), K33 σ v1 v2 v3 v5 v6 v8 → RG σ → Shp dm ra jx rm σ → JJ p l e R s m args below meth c 14 D cA A n0 s0 QM σ 33 [(0, .ref rm), (1, .int (i32 v1)), (2, .int (i32 v2)), (3, .long v3), (5, .int (i32 v5)), (6, .long v6), (8, .int (i32 v8))] []) {K51 : Sg → Int → Int → Int64 → Int → Int64 → Int64 → Int → Prop} (hK51 : ∀ (σ : Sg) (v1 : Int) (v2 : Int) (v3 : Int64) (v5 : Int) (v6 : Int64) (v9 : Int64) (v11 : Int) (g1 : rng v1) (g2 : rng v2) (g5 : rng v5) (g11 : rng v11), K51 σ v1 v2 v3 v5 v6 v9 v11 → RG σ → Shp dm ra jx rm σ → JJ p l e R s m args below meth c 14 D cA A n0 s0 QM σ 51 [(0, .ref rm), (1, .int (i32 v1)), (2, .int (i32 v2)), (3, .long v3), (5, .int (i32 v5)), (6, .long v6), (9, .long v9), (11, .int (i32 v11))] []) : ∀ (σ : Sg) (v1 : Int) (v2 : Int) (v3 : Int64) (v5 : Int) (v6 : Int64) (v11 : Int) (v12 : Int64) (g1 : rng v1) (g2 : rng v2) (g5 : rng v5) (g11 : rng v11), w_X16_growTop_99 ra jx rm K33 K51 Q X σ v1 v2 v3 v5 v6 v11 v12 → RG σ → Shp dm ra jx rm σ → JJ p l e R s m args below meth c 14 D cA A n0 s0 QM σ 99 [(0, .ref rm), (1, .int (i32 v1)), (2, .int (i32 v2)), (3, .long v3), (5, .int (i32 v5)), (6, .long v6), (11, .int (i32 v11)), (12, .long v12)] [] := by
  intro σ v1 v2 v3 v5 v6 v11 v12 g1 g2 g5 g11 h hGσ hS H locs ls hH hl hc
  have B := K.1
  unfold w_X16_growTop_99 at h
  refine lv_lload B.1 B.2.1 dX16_growTop_99 (lv_at hl 7 rfl) ?_
  refine lv_lstore (lv' := [(9, .long v12), (0, .ref rm), (1, .int (i32 v1)), (2, .int (i32 v2)), (3, .long v3), (5, .int (i32 v5)), (6, .long v6), (11, .int (i32 v11)), (12, .long v12)]) B.1 B.2.1 dX16_growTop_101 hl (by decide) rfl (fun ls hl => ?_)
  exact a_X16_growTop_103 K hQ hX hK33 hK51 _ _ _ _ _ _ _ _ g1 g2 g5 g11 h hGσ hS _ _ _ hH (lv_sub (l' := [(0, .ref rm), (1, .int (i32 v1)), (2, .int (i32 v2)), (3, .long v3), (5, .int (i32 v5)), (6, .long v6), (9, .long v12), (11, .int (i32 v11))]) hl [1, 2, 3, 4, 5, 6, 0, 7] rfl) hc
set_option maxRecDepth 20000 in
theorem a_X16_growTop_91 {Q : Sg → Unit → Prop} {X : Sg → String → Prop} (K : MC R p s m args c cX16_growTop 14 RX16 D cA tys A n0 s0 4 110 []) (hQ : HQV p l e R s m args below meth c cX16_growTop D cA A n0 s0 QM dm ra jx rm Q) (hX : HX p l e R s m args below meth c 14 D cA A n0 s0 QM dm ra jx rm X) {K33 : Sg → Int → Int → Int64 → Int → Int64 → Int → Prop} (hK33 : ∀ (σ : Sg) (v1 : Int) (v2 : Int) (v3 : Int64) (v5 : Int) (v6 : Int64) (v8 : Int) (g1 : rng v1) (g2 : rng v2) (g5 : rng v5) (g8 : rng v8), K33 σ v1 v2 v3 v5 v6 v8 → RG σ → Shp dm ra jx rm σ → JJ p l e R s m args below meth c 14 D cA A n0 s0 QM σ 33 [(0, .ref rm), (1, .int (i32 v1)), (2, .int (i32 v2)), (3, .long v3), (5, .int (i32 v5)), (6, .long v6), (8, .int (i32 v8))] []) {K51 : Sg → Int → Int → Int64 → Int → Int64 → Int64 → Int → Prop} (hK51 : ∀ (σ : Sg) (v1 : Int) (v2 : Int) (v3 : Int64) (v5 : Int) (v6 : Int64) (v9 : Int64) (v11 : Int) (g1 : rng v1) (g2 : rng v2) (g5 : rng v5) (g11 : rng v11), K51 σ v1 v2 v3 v5 v6 v9 v11 → RG σ → Shp dm ra jx rm σ → JJ p l e R s m args below meth c 14 D cA A n0 s0 QM σ 51 [(0, .ref rm), (1, .int (i32 v1)), (2, .int (i32 v2)), (3, .long v3), (5, .int (i32 v5)), (6, .long v6), (9, .long v9), (11, .int (i32 v11))] []) : ∀ (σ : Sg) (v1 : Int) (v2 : Int) (v3 : Int64) (v5 : Int) (v6 : Int64) (v9 : Int64) (v11 : Int) (v12 : Int64) (g1 : rng v1) (g2 : rng v2) (g5 : rng v5) (g11 : rng v11), w_X16_growTop_91 ra jx rm K33 K51 Q X σ v1 v2 v3 v5 v6 v9 v11 v12 → RG σ → Shp dm ra jx rm σ → JJ p l e R s m args below meth c 14 D cA A n0 s0 QM σ 91 [(0, .ref rm), (1, .int (i32 v1)), (2, .int (i32 v2)), (3, .long v3), (5, .int (i32 v5)), (6, .long v6), (9, .long v9), (11, .int (i32 v11)), (12, .long v12)] [] := by
  intro σ v1 v2 v3 v5 v6 v9 v11 v12 g1 g2 g5 g11 h hGσ hS H locs ls hH hl hc
  have B := K.1
  unfold w_X16_growTop_91 at h
  refine lv_lload B.1 B.2.1 dX16_growTop_91 (lv_at hl 8 rfl) ?_
  refine lv_lload B.1 B.2.1 dX16_growTop_93 (lv_at hl 6 rfl) ?_
  refine W.lcmp B.1 B.2.1 dX16_growTop_95 ?_
  refine lv_if_ge (tgt := 103) B.1 B.2.1 dX16_growTop_96 (by decide) (fun h9 => ?_) (fun h9 => ?_)
  · rw [if_pos ((lg_cmp_ge _ _).mp h9)] at h
    exact a_X16_growTop_103 K hQ hX hK33 hK51 _ _ _ _ _ _ _ _ g1 g2 g5 g11 h hGσ hS _ _ _ hH (lv_sub (l' := [(0, .ref rm), (1, .int (i32 v1)), (2, .int (i32 v2)), (3, .long v3), (5, .int (i32 v5)), (6, .long v6), (9, .long v9), (11, .int (i32 v11))]) hl [0, 1, 2, 3, 4, 5, 6, 7] rfl) hc
  · rw [if_neg (fun q => h9 ((lg_cmp_ge _ _).mpr q))] at h
    exact a_X16_growTop_99 K hQ hX hK33 hK51 _ _ _ _ _ _ _ _ g1 g2 g5 g11 h hGσ hS _ _ _ hH (lv_sub (l' := [(0, .ref rm), (1, .int (i32 v1)), (2, .int (i32 v2)), (3, .long v3), (5, .int (i32 v5)), (6, .long v6), (11, .int (i32 v11)), (12, .long v12)]) hl [0, 1, 2, 3, 4, 5, 7, 8] rfl) hc
set_option maxRecDepth 20000 in
theorem a_X16_growTop_84 {Q : Sg → Unit → Prop} {X : Sg → String → Prop} (K : MC R p s m args c cX16_growTop 14 RX16 D cA tys A n0 s0 4 110 []) (hQ : HQV p l e R s m args below meth c cX16_growTop D cA A n0 s0 QM dm ra jx rm Q) (hX : HX p l e R s m args below meth c 14 D cA A n0 s0 QM dm ra jx rm X) {K33 : Sg → Int → Int → Int64 → Int → Int64 → Int → Prop} (hK33 : ∀ (σ : Sg) (v1 : Int) (v2 : Int) (v3 : Int64) (v5 : Int) (v6 : Int64) (v8 : Int) (g1 : rng v1) (g2 : rng v2) (g5 : rng v5) (g8 : rng v8), K33 σ v1 v2 v3 v5 v6 v8 → RG σ → Shp dm ra jx rm σ → JJ p l e R s m args below meth c 14 D cA A n0 s0 QM σ 33 [(0, .ref rm), (1, .int (i32 v1)), (2, .int (i32 v2)), (3, .long v3), (5, .int (i32 v5)), (6, .long v6), (8, .int (i32 v8))] []) {K51 : Sg → Int → Int → Int64 → Int → Int64 → Int64 → Int → Prop} (hK51 : ∀ (σ : Sg) (v1 : Int) (v2 : Int) (v3 : Int64) (v5 : Int) (v6 : Int64) (v9 : Int64) (v11 : Int) (g1 : rng v1) (g2 : rng v2) (g5 : rng v5) (g11 : rng v11), K51 σ v1 v2 v3 v5 v6 v9 v11 → RG σ → Shp dm ra jx rm σ → JJ p l e R s m args below meth c 14 D cA A n0 s0 QM σ 51 [(0, .ref rm), (1, .int (i32 v1)), (2, .int (i32 v2)), (3, .long v3), (5, .int (i32 v5)), (6, .long v6), (9, .long v9), (11, .int (i32 v11))] []) : ∀ (σ : Sg) (v1 : Int) (v2 : Int) (v3 : Int64) (v5 : Int) (v6 : Int64) (v9 : Int64) (v11 : Int) (v12 : Int64) (g1 : rng v1) (g2 : rng v2) (g5 : rng v5) (g11 : rng v11), w_X16_growTop_84 ra jx rm K33 K51 Q X σ v1 v2 v3 v5 v6 v9 v11 v12 → RG σ → Shp dm ra jx rm σ → JJ p l e R s m args below meth c 14 D cA A n0 s0 QM σ 84 [(0, .ref rm), (1, .int (i32 v1)), (2, .int (i32 v2)), (3, .long v3), (5, .int (i32 v5)), (6, .long v6), (9, .long v9), (11, .int (i32 v11)), (12, .long v12)] [] := by
  intro σ v1 v2 v3 v5 v6 v9 v11 v12 g1 g2 g5 g11 h hGσ hS H locs ls hH hl hc
  have B := K.1
  unfold w_X16_growTop_84 at h
  refine lv_lload B.1 B.2.1 dX16_growTop_84 (lv_at hl 6 rfl) ?_
  refine lv_lconst (v := 0) B.1 B.2.1 dX16_growTop_86 (by decide) ?_
  refine W.lcmp B.1 B.2.1 dX16_growTop_87 ?_
  refine lv_if_lt (tgt := 99) B.1 B.2.1 dX16_growTop_88 (by decide) (fun h9 => ?_) (fun h9 => ?_)
  · rw [if_pos ((lg_cmp_lt _ _).mp h9)] at h
    exact a_X16_growTop_99 K hQ hX hK33 hK51 _ _ _ _ _ _ _ _ g1 g2 g5 g11 h hGσ hS _ _ _ hH (lv_sub (l' := [(0, .ref rm), (1, .int (i32 v1)), (2, .int (i32 v2)), (3, .long v3), (5, .int (i32 v5)), (6, .long v6), (11, .int (i32 v11)), (12, .long v12)]) hl [0, 1, 2, 3, 4, 5, 7, 8] rfl) hc
  · rw [if_neg (fun q => h9 ((lg_cmp_lt _ _).mpr q))] at h
    exact a_X16_growTop_91 K hQ hX hK33 hK51 _ _ _ _ _ _ _ _ _ g1 g2 g5 g11 h hGσ hS _ _ _ hH (lv_sub (l' := [(0, .ref rm), (1, .int (i32 v1)), (2, .int (i32 v2)), (3, .long v3), (5, .int (i32 v5)), (6, .long v6), (9, .long v9), (11, .int (i32 v11)), (12, .long v12)]) hl [0, 1, 2, 3, 4, 5, 6, 7, 8] rfl) hc
set_option maxRecDepth 20000 in
theorem a_X16_growTop_57 {Q : Sg → Unit → Prop} {X : Sg → String → Prop} (K : MC R p s m args c cX16_growTop 14 RX16 D cA tys A n0 s0 4 110 []) (hQ : HQV p l e R s m args below meth c cX16_growTop D cA A n0 s0 QM dm ra jx rm Q) (hX : HX p l e R s m args below meth c 14 D cA A n0 s0 QM dm ra jx rm X) {K33 : Sg → Int → Int → Int64 → Int → Int64 → Int → Prop} (hK33 : ∀ (σ : Sg) (v1 : Int) (v2 : Int) (v3 : Int64) (v5 : Int) (v6 : Int64) (v8 : Int) (g1 : rng v1) (g2 : rng v2) (g5 : rng v5) (g8 : rng v8), K33 σ v1 v2 v3 v5 v6 v8 → RG σ → Shp dm ra jx rm σ → JJ p l e R s m args below meth c 14 D cA A n0 s0 QM σ 33 [(0, .ref rm), (1, .int (i32 v1)), (2, .int (i32 v2)), (3, .long v3), (5, .int (i32 v5)), (6, .long v6), (8, .int (i32 v8))] []) {K51 : Sg → Int → Int → Int64 → Int → Int64 → Int64 → Int → Prop} (hK51 : ∀ (σ : Sg) (v1 : Int) (v2 : Int) (v3 : Int64) (v5 : Int) (v6 : Int64) (v9 : Int64) (v11 : Int) (g1 : rng v1) (g2 : rng v2) (g5 : rng v5) (g11 : rng v11), K51 σ v1 v2 v3 v5 v6 v9 v11 → RG σ → Shp dm ra jx rm σ → JJ p l e R s m args below meth c 14 D cA A n0 s0 QM σ 51 [(0, .ref rm), (1, .int (i32 v1)), (2, .int (i32 v2)), (3, .long v3), (5, .int (i32 v5)), (6, .long v6), (9, .long v9), (11, .int (i32 v11))] []) : ∀ (σ : Sg) (v1 : Int) (v2 : Int) (v3 : Int64) (v5 : Int) (v6 : Int64) (v9 : Int64) (v11 : Int) (g1 : rng v1) (g2 : rng v2) (g5 : rng v5) (g11 : rng v11), w_X16_growTop_57 ra jx rm K33 K51 Q X σ v1 v2 v3 v5 v6 v9 v11 → RG σ → Shp dm ra jx rm σ → JJ p l e R s m args below meth c 14 D cA A n0 s0 QM σ 57 [(0, .ref rm), (1, .int (i32 v1)), (2, .int (i32 v2)), (3, .long v3), (5, .int (i32 v5)), (6, .long v6), (9, .long v9), (11, .int (i32 v11))] [] := by
  intro σ v1 v2 v3 v5 v6 v9 v11 g1 g2 g5 g11 h hGσ hS H locs ls hH hl hc
  have B := K.1
  unfold w_X16_growTop_57 at h
  refine lv_aload_n B.1 B.2.1 dX16_growTop_57 rfl (lv_at hl 0 rfl) ?_
  refine r_arr B hH hS 71 (kd := 101) (n := 4000) (by decide) (by decide) wf_X16_522 rfl rfl dX16_growTop_58 ?_
  refine lv_iload B.1 B.2.1 dX16_growTop_61 (lv_at hl 7 rfl) ?_
  obtain ⟨q1, h⟩ := h
  refine x_lald B K.2.1 hH (hS.ar (k := 71) (kd := 101) (n := 4000) (by decide)) (by decide) q1 dX16_growTop_63 ?_
  refine lv_lload B.1 B.2.1 dX16_growTop_64 (lv_at hl 5 rfl) ?_
  obtain ⟨q2, h⟩ := h
  refine lv_ldiv B.1 B.2.1 dX16_growTop_66 q2 ?_
  refine lv_lstore (lv' := [(12, .long ((gJ σ (ra 71) v11.toNat) / v6)), (0, .ref rm), (1, .int (i32 v1)), (2, .int (i32 v2)), (3, .long v3), (5, .int (i32 v5)), (6, .long v6), (9, .long v9), (11, .int (i32 v11))]) B.1 B.2.1 dX16_growTop_67 hl (by decide) rfl (fun ls hl => ?_)
  refine lv_lload B.1 B.2.1 dX16_growTop_69 (lv_at hl 0 rfl) ?_
  refine lv_lload B.1 B.2.1 dX16_growTop_71 (lv_at hl 6 rfl) ?_
  refine lv_lmul B.1 B.2.1 dX16_growTop_73 ?_
  refine lv_lload B.1 B.2.1 dX16_growTop_74 (lv_at hl 6 rfl) ?_
  refine lv_ladd B.1 B.2.1 dX16_growTop_76 ?_
  refine lv_lconst (v := 1) B.1 B.2.1 dX16_growTop_77 (by decide) ?_
  refine lv_lsub B.1 B.2.1 dX16_growTop_78 ?_
  refine lv_lload_n B.1 B.2.1 dX16_growTop_79 rfl (lv_at hl 4 rfl) ?_
  refine W.lcmp B.1 B.2.1 dX16_growTop_80 ?_
  refine lv_if_gt (tgt := 103) B.1 B.2.1 dX16_growTop_81 (by decide) (fun h9 => ?_) (fun h9 => ?_)
  · rw [if_pos ((lg_cmp_gt _ _).mp h9)] at h
    exact a_X16_growTop_103 K hQ hX hK33 hK51 _ _ _ _ _ _ _ _ g1 g2 g5 g11 h hGσ hS _ _ _ hH (lv_sub (l' := [(0, .ref rm), (1, .int (i32 v1)), (2, .int (i32 v2)), (3, .long v3), (5, .int (i32 v5)), (6, .long v6), (9, .long v9), (11, .int (i32 v11))]) hl [1, 2, 3, 4, 5, 6, 7, 8] rfl) hc
  · rw [if_neg (fun q => h9 ((lg_cmp_gt _ _).mpr q))] at h
    exact a_X16_growTop_84 K hQ hX hK33 hK51 _ _ _ _ _ _ _ _ _ g1 g2 g5 g11 h hGσ hS _ _ _ hH (lv_sub (l' := [(0, .ref rm), (1, .int (i32 v1)), (2, .int (i32 v2)), (3, .long v3), (5, .int (i32 v5)), (6, .long v6), (9, .long v9), (11, .int (i32 v11)), (12, .long ((gJ σ (ra 71) v11.toNat) / v6))]) hl [1, 2, 3, 4, 5, 6, 7, 8, 0] rfl) hc
set_option maxRecDepth 20000 in
theorem a_X16_growTop_51 {Q : Sg → Unit → Prop} {X : Sg → String → Prop} (K : MC R p s m args c cX16_growTop 14 RX16 D cA tys A n0 s0 4 110 []) (hQ : HQV p l e R s m args below meth c cX16_growTop D cA A n0 s0 QM dm ra jx rm Q) (hX : HX p l e R s m args below meth c 14 D cA A n0 s0 QM dm ra jx rm X) {K33 : Sg → Int → Int → Int64 → Int → Int64 → Int → Prop} (hK33 : ∀ (σ : Sg) (v1 : Int) (v2 : Int) (v3 : Int64) (v5 : Int) (v6 : Int64) (v8 : Int) (g1 : rng v1) (g2 : rng v2) (g5 : rng v5) (g8 : rng v8), K33 σ v1 v2 v3 v5 v6 v8 → RG σ → Shp dm ra jx rm σ → JJ p l e R s m args below meth c 14 D cA A n0 s0 QM σ 33 [(0, .ref rm), (1, .int (i32 v1)), (2, .int (i32 v2)), (3, .long v3), (5, .int (i32 v5)), (6, .long v6), (8, .int (i32 v8))] []) {K51 : Sg → Int → Int → Int64 → Int → Int64 → Int64 → Int → Prop} (hK51 : ∀ (σ : Sg) (v1 : Int) (v2 : Int) (v3 : Int64) (v5 : Int) (v6 : Int64) (v9 : Int64) (v11 : Int) (g1 : rng v1) (g2 : rng v2) (g5 : rng v5) (g11 : rng v11), K51 σ v1 v2 v3 v5 v6 v9 v11 → RG σ → Shp dm ra jx rm σ → JJ p l e R s m args below meth c 14 D cA A n0 s0 QM σ 51 [(0, .ref rm), (1, .int (i32 v1)), (2, .int (i32 v2)), (3, .long v3), (5, .int (i32 v5)), (6, .long v6), (9, .long v9), (11, .int (i32 v11))] []) : ∀ (σ : Sg) (v1 : Int) (v2 : Int) (v3 : Int64) (v5 : Int) (v6 : Int64) (v9 : Int64) (v11 : Int) (g1 : rng v1) (g2 : rng v2) (g5 : rng v5) (g11 : rng v11), w_X16_growTop_51 ra jx rm K33 K51 Q X σ v1 v2 v3 v5 v6 v9 v11 → RG σ → Shp dm ra jx rm σ → JJ p l e R s m args below meth c 14 D cA A n0 s0 QM σ 51 [(0, .ref rm), (1, .int (i32 v1)), (2, .int (i32 v2)), (3, .long v3), (5, .int (i32 v5)), (6, .long v6), (9, .long v9), (11, .int (i32 v11))] [] := by
  intro σ v1 v2 v3 v5 v6 v9 v11 g1 g2 g5 g11 h hGσ hS H locs ls hH hl hc
  have B := K.1
  unfold w_X16_growTop_51 at h
  refine lv_iload B.1 B.2.1 dX16_growTop_51 (lv_at hl 7 rfl) ?_
  refine lv_iconst (v := i32 (-1)) B.1 B.2.1 dX16_growTop_53 (by decide) ?_
  refine lv_icmp_eq (tgt := 115) B.1 B.2.1 dX16_growTop_54 (by decide) (fun h9 => ?_) (fun h9 => ?_)
  · rw [if_pos ((i32_eq g11 (by unfold rng; omega)).mp h9)] at h
    exact a_X16_growTop_115 K hQ hX hK33 _ _ _ _ _ _ _ g1 g2 g5 h hGσ hS _ _ _ hH (lv_sub (l' := [(0, .ref rm), (1, .int (i32 v1)), (2, .int (i32 v2)), (3, .long v3), (5, .int (i32 v5)), (6, .long v6), (9, .long v9)]) hl [0, 1, 2, 3, 4, 5, 6] rfl) hc
  · rw [if_neg (fun q => h9 ((i32_eq g11 (by unfold rng; omega)).mpr q))] at h
    exact a_X16_growTop_57 K hQ hX hK33 hK51 _ _ _ _ _ _ _ _ g1 g2 g5 g11 h hGσ hS _ _ _ hH (lv_sub (l' := [(0, .ref rm), (1, .int (i32 v1)), (2, .int (i32 v2)), (3, .long v3), (5, .int (i32 v5)), (6, .long v6), (9, .long v9), (11, .int (i32 v11))]) hl [0, 1, 2, 3, 4, 5, 6, 7] rfl) hc
theorem al_X16_growTop_51 {Q : Sg → Unit → Prop} {X : Sg → String → Prop} (K : MC R p s m args c cX16_growTop 14 RX16 D cA tys A n0 s0 4 110 []) (hQ : HQV p l e R s m args below meth c cX16_growTop D cA A n0 s0 QM dm ra jx rm Q) (hX : HX p l e R s m args below meth c 14 D cA A n0 s0 QM dm ra jx rm X) {K33 : Sg → Int → Int → Int64 → Int → Int64 → Int → Prop} (hK33 : ∀ (σ : Sg) (v1 : Int) (v2 : Int) (v3 : Int64) (v5 : Int) (v6 : Int64) (v8 : Int) (g1 : rng v1) (g2 : rng v2) (g5 : rng v5) (g8 : rng v8), K33 σ v1 v2 v3 v5 v6 v8 → RG σ → Shp dm ra jx rm σ → JJ p l e R s m args below meth c 14 D cA A n0 s0 QM σ 33 [(0, .ref rm), (1, .int (i32 v1)), (2, .int (i32 v2)), (3, .long v3), (5, .int (i32 v5)), (6, .long v6), (8, .int (i32 v8))] []) : ∀ (n : Nat), ∀ (σ : Sg) (v1 : Int) (v2 : Int) (v3 : Int64) (v5 : Int) (v6 : Int64) (v9 : Int64) (v11 : Int) (g1 : rng v1) (g2 : rng v2) (g5 : rng v5) (g11 : rng v11), wl_X16_growTop_51 ra jx rm K33 Q X n σ v1 v2 v3 v5 v6 v9 v11 → RG σ → Shp dm ra jx rm σ → JJ p l e R s m args below meth c 14 D cA A n0 s0 QM σ 51 [(0, .ref rm), (1, .int (i32 v1)), (2, .int (i32 v2)), (3, .long v3), (5, .int (i32 v5)), (6, .long v6), (9, .long v9), (11, .int (i32 v11))] [] := by
  intro n
  induction n with
  | zero => intro σ v1 v2 v3 v5 v6 v9 v11 g1 g2 g5 g11 h; exact h.elim
  | succ n ih => exact fun σ v1 v2 v3 v5 v6 v9 v11 g1 g2 g5 g11 h => a_X16_growTop_51 K hQ hX hK33 ih σ v1 v2 v3 v5 v6 v9 v11 g1 g2 g5 g11 h
set_option maxRecDepth 20000 in
theorem a_X16_growTop_38 {Q : Sg → Unit → Prop} {X : Sg → String → Prop} (K : MC R p s m args c cX16_growTop 14 RX16 D cA tys A n0 s0 4 110 []) (hQ : HQV p l e R s m args below meth c cX16_growTop D cA A n0 s0 QM dm ra jx rm Q) (hX : HX p l e R s m args below meth c 14 D cA A n0 s0 QM dm ra jx rm X) {K33 : Sg → Int → Int → Int64 → Int → Int64 → Int → Prop} (hK33 : ∀ (σ : Sg) (v1 : Int) (v2 : Int) (v3 : Int64) (v5 : Int) (v6 : Int64) (v8 : Int) (g1 : rng v1) (g2 : rng v2) (g5 : rng v5) (g8 : rng v8), K33 σ v1 v2 v3 v5 v6 v8 → RG σ → Shp dm ra jx rm σ → JJ p l e R s m args below meth c 14 D cA A n0 s0 QM σ 33 [(0, .ref rm), (1, .int (i32 v1)), (2, .int (i32 v2)), (3, .long v3), (5, .int (i32 v5)), (6, .long v6), (8, .int (i32 v8))] []) : ∀ (σ : Sg) (v1 : Int) (v2 : Int) (v3 : Int64) (v5 : Int) (v6 : Int64) (g1 : rng v1) (g2 : rng v2) (g5 : rng v5), w_X16_growTop_38 ra jx rm K33 Q X σ v1 v2 v3 v5 v6 → RG σ → Shp dm ra jx rm σ → JJ p l e R s m args below meth c 14 D cA A n0 s0 QM σ 38 [(0, .ref rm), (1, .int (i32 v1)), (2, .int (i32 v2)), (3, .long v3), (5, .int (i32 v5)), (6, .long v6)] [] := by
  intro σ v1 v2 v3 v5 v6 g1 g2 g5 h hGσ hS H locs ls hH hl hc
  have B := K.1
  unfold w_X16_growTop_38 at h
  refine lv_ldc2 B.1 B.2.1 B.2.2.1 (B.2.2.2.1 _ (wk_X16_417)) dX16_growTop_38 ?_
  refine lv_lstore (lv' := [(9, .long (-1)), (0, .ref rm), (1, .int (i32 v1)), (2, .int (i32 v2)), (3, .long v3), (5, .int (i32 v5)), (6, .long v6)]) B.1 B.2.1 dX16_growTop_41 hl (by decide) rfl (fun ls hl => ?_)
  refine lv_aload_n B.1 B.2.1 dX16_growTop_43 rfl (lv_at hl 1 rfl) ?_
  refine r_arr B hH hS 76 (kd := 100) (n := 64) (by decide) (by decide) wf_X16_504 rfl rfl dX16_growTop_44 ?_
  refine lv_iload_n B.1 B.2.1 dX16_growTop_47 rfl (lv_at hl 2 rfl) ?_
  obtain ⟨q1, h⟩ := h
  refine x_iald B K.2.1 hH (hS.ar (k := 76) (kd := 100) (n := 64) (by decide)) (by decide) q1 dX16_growTop_48 ?_
  refine lv_istore (lv' := [(11, .int (i32 (gI σ (ra 76) v1.toNat))), (9, .long (-1)), (0, .ref rm), (1, .int (i32 v1)), (2, .int (i32 v2)), (3, .long v3), (5, .int (i32 v5)), (6, .long v6)]) B.1 B.2.1 dX16_growTop_49 hl (by decide) rfl (fun ls hl => ?_)
  obtain ⟨n9, h⟩ := h
  exact al_X16_growTop_51 K hQ hX hK33 n9 _ _ _ _ _ _ _ _ g1 g2 g5 (hGσ _ _) h hGσ hS _ _ _ hH (lv_sub (l' := [(0, .ref rm), (1, .int (i32 v1)), (2, .int (i32 v2)), (3, .long v3), (5, .int (i32 v5)), (6, .long v6), (9, .long (-1)), (11, .int (i32 (gI σ (ra 76) v1.toNat)))]) hl [2, 3, 4, 5, 6, 7, 1, 0] rfl) hc
set_option maxRecDepth 20000 in
theorem a_X16_growTop_33 {Q : Sg → Unit → Prop} {X : Sg → String → Prop} (K : MC R p s m args c cX16_growTop 14 RX16 D cA tys A n0 s0 4 110 []) (hQ : HQV p l e R s m args below meth c cX16_growTop D cA A n0 s0 QM dm ra jx rm Q) (hX : HX p l e R s m args below meth c 14 D cA A n0 s0 QM dm ra jx rm X) {K33 : Sg → Int → Int → Int64 → Int → Int64 → Int → Prop} (hK33 : ∀ (σ : Sg) (v1 : Int) (v2 : Int) (v3 : Int64) (v5 : Int) (v6 : Int64) (v8 : Int) (g1 : rng v1) (g2 : rng v2) (g5 : rng v5) (g8 : rng v8), K33 σ v1 v2 v3 v5 v6 v8 → RG σ → Shp dm ra jx rm σ → JJ p l e R s m args below meth c 14 D cA A n0 s0 QM σ 33 [(0, .ref rm), (1, .int (i32 v1)), (2, .int (i32 v2)), (3, .long v3), (5, .int (i32 v5)), (6, .long v6), (8, .int (i32 v8))] []) : ∀ (σ : Sg) (v1 : Int) (v2 : Int) (v3 : Int64) (v5 : Int) (v6 : Int64) (v8 : Int) (g1 : rng v1) (g2 : rng v2) (g5 : rng v5) (g8 : rng v8), w_X16_growTop_33 ra jx rm K33 Q X σ v1 v2 v3 v5 v6 v8 → RG σ → Shp dm ra jx rm σ → JJ p l e R s m args below meth c 14 D cA A n0 s0 QM σ 33 [(0, .ref rm), (1, .int (i32 v1)), (2, .int (i32 v2)), (3, .long v3), (5, .int (i32 v5)), (6, .long v6), (8, .int (i32 v8))] [] := by
  intro σ v1 v2 v3 v5 v6 v8 g1 g2 g5 g8 h hGσ hS H locs ls hH hl hc
  have B := K.1
  unfold w_X16_growTop_33 at h
  refine lv_iload B.1 B.2.1 dX16_growTop_33 (lv_at hl 6 rfl) ?_
  refine lv_if_eq (tgt := 149) B.1 B.2.1 dX16_growTop_35 (by decide) (fun h9 => ?_) (fun h9 => ?_)
  · rw [if_pos ((z_eq g8).mp h9)] at h
    exact a_X16_growTop_149 K hQ hX _ h hGσ hS _ _ _ hH (lv_sub (l' := [(0, .ref rm)]) hl [0] rfl) hc
  · rw [if_neg (fun q => h9 ((z_eq g8).mpr q))] at h
    exact a_X16_growTop_38 K hQ hX hK33 _ _ _ _ _ _ g1 g2 g5 h hGσ hS _ _ _ hH (lv_sub (l' := [(0, .ref rm), (1, .int (i32 v1)), (2, .int (i32 v2)), (3, .long v3), (5, .int (i32 v5)), (6, .long v6)]) hl [0, 1, 2, 3, 4, 5] rfl) hc
theorem al_X16_growTop_33 {Q : Sg → Unit → Prop} {X : Sg → String → Prop} (K : MC R p s m args c cX16_growTop 14 RX16 D cA tys A n0 s0 4 110 []) (hQ : HQV p l e R s m args below meth c cX16_growTop D cA A n0 s0 QM dm ra jx rm Q) (hX : HX p l e R s m args below meth c 14 D cA A n0 s0 QM dm ra jx rm X) : ∀ (n : Nat), ∀ (σ : Sg) (v1 : Int) (v2 : Int) (v3 : Int64) (v5 : Int) (v6 : Int64) (v8 : Int) (g1 : rng v1) (g2 : rng v2) (g5 : rng v5) (g8 : rng v8), wl_X16_growTop_33 ra jx rm Q X n σ v1 v2 v3 v5 v6 v8 → RG σ → Shp dm ra jx rm σ → JJ p l e R s m args below meth c 14 D cA A n0 s0 QM σ 33 [(0, .ref rm), (1, .int (i32 v1)), (2, .int (i32 v2)), (3, .long v3), (5, .int (i32 v5)), (6, .long v6), (8, .int (i32 v8))] [] := by
  intro n
  induction n with
  | zero => intro σ v1 v2 v3 v5 v6 v8 g1 g2 g5 g8 h; exact h.elim
  | succ n ih => exact fun σ v1 v2 v3 v5 v6 v8 g1 g2 g5 g8 h => a_X16_growTop_33 K hQ hX ih σ v1 v2 v3 v5 v6 v8 g1 g2 g5 g8 h
set_option maxRecDepth 20000 in
theorem a_X16_growTop_0 {Q : Sg → Unit → Prop} {X : Sg → String → Prop} (K : MC R p s m args c cX16_growTop 14 RX16 D cA tys A n0 s0 4 110 []) (hQ : HQV p l e R s m args below meth c cX16_growTop D cA A n0 s0 QM dm ra jx rm Q) (hX : HX p l e R s m args below meth c 14 D cA A n0 s0 QM dm ra jx rm X) : ∀ (σ : Sg) (v1 : Int) (v2 : Int) (v3 : Int64) (g1 : rng v1) (g2 : rng v2), w_X16_growTop_0 ra jx rm Q X σ v1 v2 v3 → RG σ → Shp dm ra jx rm σ → JJ p l e R s m args below meth c 14 D cA A n0 s0 QM σ 0 [(0, .ref rm), (1, .int (i32 v1)), (2, .int (i32 v2)), (3, .long v3)] [] := by
  intro σ v1 v2 v3 g1 g2 h hGσ hS H locs ls hH hl hc
  have B := K.1
  unfold w_X16_growTop_0 at h
  refine lv_aload_n B.1 B.2.1 dX16_growTop_0 rfl (lv_at hl 0 rfl) ?_
  refine r_getp B hH hS 17 (by decide) wf_X16_356 rfl rfl dX16_growTop_1 ?_
  obtain ⟨a10, ea10, ja10, h⟩ := h
  refine W.eq (g2 := F0 m 4 ls [.ref a10]) (by rw [ea10]; rfl) ?_
  refine n_arr B hH hS ja10 6 (kd := 100) (n := 16) (by decide) (by decide) (List.mem_of_getElem? (i := 6) rfl) rfl dX16_growTop_4 ?_
  refine lv_aload_n B.1 B.2.1 dX16_growTop_7 rfl (lv_at hl 0 rfl) ?_
  refine r_getp B hH hS 17 (by decide) wf_X16_356 rfl rfl dX16_growTop_8 ?_
  obtain ⟨a11, ea11, ja11, h⟩ := h
  refine W.eq (g2 := F0 m 11 ls [.ref a11, .ref (jx a10 6)]) (by rw [ea11]; rfl) ?_
  refine n_arr B hH hS ja11 4 (kd := 100) (n := 16) (by decide) (by decide) (List.mem_of_getElem? (i := 4) rfl) rfl dX16_growTop_11 ?_
  refine lv_iload_n B.1 B.2.1 dX16_growTop_14 rfl (lv_at hl 2 rfl) ?_
  obtain ⟨q3, h⟩ := h
  refine x_iald B K.2.1 hH (hS.ja ja11 (k := 4) (kd := 100) (n := 16) (by decide)) (by decide) q3 dX16_growTop_15 ?_
  obtain ⟨q4, h⟩ := h
  refine x_iald B K.2.1 hH (hS.ja ja10 (k := 6) (kd := 100) (n := 16) (by decide)) (by decide) q4 dX16_growTop_16 ?_
  refine lv_istore (lv' := [(5, .int (i32 (gI σ (jx a10 6) (gI σ (jx a11 4) v2.toNat).toNat))), (0, .ref rm), (1, .int (i32 v1)), (2, .int (i32 v2)), (3, .long v3)]) B.1 B.2.1 dX16_growTop_17 hl (by decide) rfl (fun ls hl => ?_)
  refine lv_aload_n B.1 B.2.1 dX16_growTop_19 rfl (lv_at hl 1 rfl) ?_
  refine r_getp B hH hS 17 (by decide) wf_X16_356 rfl rfl dX16_growTop_20 ?_
  obtain ⟨a12, ea12, ja12, h⟩ := h
  refine W.eq (g2 := F0 m 23 ls [.ref a12]) (by rw [ea12]; rfl) ?_
  refine n_arr B hH hS ja12 9 (kd := 101) (n := 16) (by decide) (by decide) (List.mem_of_getElem? (i := 9) rfl) rfl dX16_growTop_23 ?_
  refine lv_iload_n B.1 B.2.1 dX16_growTop_26 rfl (lv_at hl 3 rfl) ?_
  obtain ⟨q6, h⟩ := h
  refine x_lald B K.2.1 hH (hS.ja ja12 (k := 9) (kd := 101) (n := 16) (by decide)) (by decide) q6 dX16_growTop_27 ?_
  refine lv_lstore (lv' := [(6, .long (gJ σ (jx a12 9) v2.toNat)), (5, .int (i32 (gI σ (jx a10 6) (gI σ (jx a11 4) v2.toNat).toNat))), (0, .ref rm), (1, .int (i32 v1)), (2, .int (i32 v2)), (3, .long v3)]) B.1 B.2.1 dX16_growTop_28 hl (by decide) rfl (fun ls hl => ?_)
  refine lv_iconst (v := i32 1) B.1 B.2.1 dX16_growTop_30 (by decide) ?_
  refine lv_istore (lv' := [(8, .int (i32 1)), (6, .long (gJ σ (jx a12 9) v2.toNat)), (5, .int (i32 (gI σ (jx a10 6) (gI σ (jx a11 4) v2.toNat).toNat))), (0, .ref rm), (1, .int (i32 v1)), (2, .int (i32 v2)), (3, .long v3)]) B.1 B.2.1 dX16_growTop_31 hl (by decide) rfl (fun ls hl => ?_)
  obtain ⟨n9, h⟩ := h
  exact al_X16_growTop_33 K hQ hX n9 _ _ _ _ _ _ _ g1 g2 (hGσ _ _) (by unfold rng; omega) h hGσ hS _ _ _ hH (lv_sub (l' := [(0, .ref rm), (1, .int (i32 v1)), (2, .int (i32 v2)), (3, .long v3), (5, .int (i32 (gI σ (jx a10 6) (gI σ (jx a11 4) v2.toNat).toNat))), (6, .long (gJ σ (jx a12 9) v2.toNat)), (8, .int (i32 1))]) hl [3, 4, 5, 6, 2, 1, 0] rfl) hc
theorem ok_X16_growTop (hT : Tys cA tys) {Q : Sg → Unit → Prop} {X : Sg → String → Prop} (σ : Sg) (v1 : Int) (v2 : Int) (v3 : Int64) (g1 : rng v1) (g2 : rng v2) (hG : RG σ) (hS : Shp dm ra jx rm σ) (h : wp_X16_growTop ra jx rm v1 v2 v3 σ Q X) : Ok l D cA tys A yX16_growTop (.code yX16_growTop cX16_growTop 14 none) 4 110 [.ref rm, .int (i32 v1), .int (i32 v2), .long v3] σ (QnV dm ra jx rm Q) (QxR dm ra jx rm X) := by
  unfold wp_X16_growTop at h
  exact ok_V (plainFor_of_name (by decide)) (by exact Nat.le_of_ble_eq_true rfl) hT (fun p e R s m args below meth c K hQ hX H locs ls hH hl hc => a_X16_growTop_0 K hQ hX σ v1 v2 v3 g1 g2 h hG hS H locs ls hH (lv_sub (l' := [(0, .ref rm), (1, .int (i32 v1)), (2, .int (i32 v2)), (3, .long v3)]) hl [0, 1, 2, 3] rfl) hc)
theorem dX16_growUnique_0 : decode cX16_growUnique 0 = .ok (.aload_n 0, 1) := by decide +kernel
theorem dX16_growUnique_1 : decode cX16_growUnique 1 = .ok (.getfield 356, 3) := by decide +kernel
theorem dX16_growUnique_4 : decode cX16_growUnique 4 = .ok (.getfield 178, 3) := by decide +kernel
theorem dX16_growUnique_7 : decode cX16_growUnique 7 = .ok (.aload_n 0, 1) := by decide +kernel
theorem dX16_growUnique_8 : decode cX16_growUnique 8 = .ok (.getfield 356, 3) := by decide +kernel
theorem dX16_growUnique_11 : decode cX16_growUnique 11 = .ok (.getfield 216, 3) := by decide +kernel
theorem dX16_growUnique_14 : decode cX16_growUnique 14 = .ok (.iload_n 2, 1) := by decide +kernel
theorem dX16_growUnique_15 : decode cX16_growUnique 15 = .ok (.iaload, 1) := by decide +kernel
theorem dX16_growUnique_16 : decode cX16_growUnique 16 = .ok (.iaload, 1) := by decide +kernel
theorem dX16_growUnique_17 : decode cX16_growUnique 17 = .ok (.istore 5, 2) := by decide +kernel
theorem dX16_growUnique_19 : decode cX16_growUnique 19 = .ok (.aload_n 0, 1) := by decide +kernel
theorem dX16_growUnique_20 : decode cX16_growUnique 20 = .ok (.iload_n 1, 1) := by decide +kernel
theorem dX16_growUnique_21 : decode cX16_growUnique 21 = .ok (.iload 5, 2) := by decide +kernel
theorem dX16_growUnique_23 : decode cX16_growUnique 23 = .ok (.lload_n 3, 1) := by decide +kernel
theorem dX16_growUnique_24 : decode cX16_growUnique 24 = .ok (.invokevirtual 636, 3) := by decide +kernel
theorem dX16_growUnique_27 : decode cX16_growUnique 27 = .ok (.istore 6, 2) := by decide +kernel
theorem dX16_growUnique_29 : decode cX16_growUnique 29 = .ok (.iload 6, 2) := by decide +kernel
theorem dX16_growUnique_31 : decode cX16_growUnique 31 = .ok (.iconst (-1), 1) := by decide +kernel
theorem dX16_growUnique_32 : decode cX16_growUnique 32 = .ok (.if_icmp .eq 232, 3) := by decide +kernel
theorem dX16_growUnique_35 : decode cX16_growUnique 35 = .ok (.iconst (-1), 1) := by decide +kernel
theorem dX16_growUnique_36 : decode cX16_growUnique 36 = .ok (.istore 7, 2) := by decide +kernel
theorem dX16_growUnique_38 : decode cX16_growUnique 38 = .ok (.aload_n 0, 1) := by decide +kernel
theorem dX16_growUnique_39 : decode cX16_growUnique 39 = .ok (.getfield 504, 3) := by decide +kernel
theorem dX16_growUnique_42 : decode cX16_growUnique 42 = .ok (.iload_n 1, 1) := by decide +kernel
theorem dX16_growUnique_43 : decode cX16_growUnique 43 = .ok (.iaload, 1) := by decide +kernel
theorem dX16_growUnique_44 : decode cX16_growUnique 44 = .ok (.istore 8, 2) := by decide +kernel
theorem dX16_growUnique_46 : decode cX16_growUnique 46 = .ok (.iload 8, 2) := by decide +kernel
theorem dX16_growUnique_48 : decode cX16_growUnique 48 = .ok (.iconst (-1), 1) := by decide +kernel
theorem dX16_growUnique_49 : decode cX16_growUnique 49 = .ok (.if_icmp .eq 53, 3) := by decide +kernel
theorem dX16_growUnique_52 : decode cX16_growUnique 52 = .ok (.aload_n 0, 1) := by decide +kernel
theorem dX16_growUnique_53 : decode cX16_growUnique 53 = .ok (.getfield 513, 3) := by decide +kernel
theorem dX16_growUnique_56 : decode cX16_growUnique 56 = .ok (.iload 8, 2) := by decide +kernel
theorem dX16_growUnique_58 : decode cX16_growUnique 58 = .ok (.iaload, 1) := by decide +kernel
theorem dX16_growUnique_59 : decode cX16_growUnique 59 = .ok (.iconst 2, 1) := by decide +kernel
theorem dX16_growUnique_60 : decode cX16_growUnique 60 = .ok (.if_icmp .ne 26, 3) := by decide +kernel
theorem dX16_growUnique_63 : decode cX16_growUnique 63 = .ok (.aload_n 0, 1) := by decide +kernel
theorem dX16_growUnique_64 : decode cX16_growUnique 64 = .ok (.getfield 519, 3) := by decide +kernel
theorem dX16_growUnique_67 : decode cX16_growUnique 67 = .ok (.iload 8, 2) := by decide +kernel
theorem dX16_growUnique_69 : decode cX16_growUnique 69 = .ok (.laload, 1) := by decide +kernel
theorem dX16_growUnique_70 : decode cX16_growUnique 70 = .ok (.aload_n 0, 1) := by decide +kernel
theorem dX16_growUnique_71 : decode cX16_growUnique 71 = .ok (.getfield 519, 3) := by decide +kernel
theorem dX16_growUnique_74 : decode cX16_growUnique 74 = .ok (.iload 6, 2) := by decide +kernel
theorem dX16_growUnique_76 : decode cX16_growUnique 76 = .ok (.laload, 1) := by decide +kernel
theorem dX16_growUnique_77 : decode cX16_growUnique 77 = .ok (.lcmp, 1) := by decide +kernel
theorem dX16_growUnique_78 : decode cX16_growUnique 78 = .ok (.ifCond .ne 8, 3) := by decide +kernel
theorem dX16_growUnique_81 : decode cX16_growUnique 81 = .ok (.iload 8, 2) := by decide +kernel
theorem dX16_growUnique_83 : decode cX16_growUnique 83 = .ok (.goto 5, 3) := by decide +kernel
theorem dX16_growUnique_86 : decode cX16_growUnique 86 = .ok (.iload 7, 2) := by decide +kernel
theorem dX16_growUnique_88 : decode cX16_growUnique 88 = .ok (.istore 7, 2) := by decide +kernel
theorem dX16_growUnique_90 : decode cX16_growUnique 90 = .ok (.aload_n 0, 1) := by decide +kernel
theorem dX16_growUnique_91 : decode cX16_growUnique 91 = .ok (.getfield 495, 3) := by decide +kernel
theorem dX16_growUnique_94 : decode cX16_growUnique 94 = .ok (.iload 8, 2) := by decide +kernel
theorem dX16_growUnique_96 : decode cX16_growUnique 96 = .ok (.iaload, 1) := by decide +kernel
theorem dX16_growUnique_97 : decode cX16_growUnique 97 = .ok (.istore 8, 2) := by decide +kernel
theorem dX16_growUnique_99 : decode cX16_growUnique 99 = .ok (.goto (-53), 3) := by decide +kernel
theorem dX16_growUnique_102 : decode cX16_growUnique 102 = .ok (.aload_n 0, 1) := by decide +kernel
theorem dX16_growUnique_103 : decode cX16_growUnique 103 = .ok (.getfield 519, 3) := by decide +kernel
theorem dX16_growUnique_106 : decode cX16_growUnique 106 = .ok (.iload 6, 2) := by decide +kernel
theorem dX16_growUnique_108 : decode cX16_growUnique 108 = .ok (.laload, 1) := by decide +kernel
theorem dX16_growUnique_109 : decode cX16_growUnique 109 = .ok (.lstore 8, 2) := by decide +kernel
theorem dX16_growUnique_111 : decode cX16_growUnique 111 = .ok (.aload_n 0, 1) := by decide +kernel
theorem dX16_growUnique_112 : decode cX16_growUnique 112 = .ok (.getfield 522, 3) := by decide +kernel
theorem dX16_growUnique_115 : decode cX16_growUnique 115 = .ok (.iload 6, 2) := by decide +kernel
theorem dX16_growUnique_117 : decode cX16_growUnique 117 = .ok (.laload, 1) := by decide +kernel
theorem dX16_growUnique_118 : decode cX16_growUnique 118 = .ok (.lstore 10, 2) := by decide +kernel
theorem dX16_growUnique_120 : decode cX16_growUnique 120 = .ok (.aload_n 0, 1) := by decide +kernel
theorem dX16_growUnique_121 : decode cX16_growUnique 121 = .ok (.getfield 531, 3) := by decide +kernel
theorem dX16_growUnique_124 : decode cX16_growUnique 124 = .ok (.iload 6, 2) := by decide +kernel
theorem dX16_growUnique_126 : decode cX16_growUnique 126 = .ok (.iaload, 1) := by decide +kernel
theorem dX16_growUnique_127 : decode cX16_growUnique 127 = .ok (.istore 12, 2) := by decide +kernel
theorem dX16_growUnique_129 : decode cX16_growUnique 129 = .ok (.iconst 0, 1) := by decide +kernel
theorem dX16_growUnique_130 : decode cX16_growUnique 130 = .ok (.istore 13, 2) := by decide +kernel
theorem dX16_growUnique_132 : decode cX16_growUnique 132 = .ok (.iload 13, 2) := by decide +kernel
theorem dX16_growUnique_134 : decode cX16_growUnique 134 = .ok (.bipush 8, 2) := by decide +kernel
theorem dX16_growUnique_136 : decode cX16_growUnique 136 = .ok (.if_icmp .ge 29, 3) := by decide +kernel
theorem dX16_growUnique_139 : decode cX16_growUnique 139 = .ok (.aload_n 0, 1) := by decide +kernel
theorem dX16_growUnique_140 : decode cX16_growUnique 140 = .ok (.getfield 578, 3) := by decide +kernel
theorem dX16_growUnique_143 : decode cX16_growUnique 143 = .ok (.iload 13, 2) := by decide +kernel
theorem dX16_growUnique_145 : decode cX16_growUnique 145 = .ok (.aload_n 0, 1) := by decide +kernel
theorem dX16_growUnique_146 : decode cX16_growUnique 146 = .ok (.getfield 528, 3) := by decide +kernel
theorem dX16_growUnique_149 : decode cX16_growUnique 149 = .ok (.bipush 8, 2) := by decide +kernel
theorem dX16_growUnique_151 : decode cX16_growUnique 151 = .ok (.iload 6, 2) := by decide +kernel
theorem dX16_growUnique_153 : decode cX16_growUnique 153 = .ok (.imul, 1) := by decide +kernel
theorem dX16_growUnique_154 : decode cX16_growUnique 154 = .ok (.iload 13, 2) := by decide +kernel
theorem dX16_growUnique_156 : decode cX16_growUnique 156 = .ok (.iadd, 1) := by decide +kernel
theorem dX16_growUnique_157 : decode cX16_growUnique 157 = .ok (.laload, 1) := by decide +kernel
theorem dX16_growUnique_158 : decode cX16_growUnique 158 = .ok (.lastore, 1) := by decide +kernel
theorem dX16_growUnique_159 : decode cX16_growUnique 159 = .ok (.iinc 13 1, 3) := by decide +kernel
theorem dX16_growUnique_162 : decode cX16_growUnique 162 = .ok (.goto (-30), 3) := by decide +kernel
theorem dX16_growUnique_165 : decode cX16_growUnique 165 = .ok (.aload_n 0, 1) := by decide +kernel
theorem dX16_growUnique_166 : decode cX16_growUnique 166 = .ok (.iload 6, 2) := by decide +kernel
theorem dX16_growUnique_168 : decode cX16_growUnique 168 = .ok (.invokevirtual 607, 3) := by decide +kernel
theorem dX16_growUnique_171 : decode cX16_growUnique 171 = .ok (.iload 7, 2) := by decide +kernel
theorem dX16_growUnique_173 : decode cX16_growUnique 173 = .ok (.iconst (-1), 1) := by decide +kernel
theorem dX16_growUnique_174 : decode cX16_growUnique 174 = .ok (.if_icmp .eq 26, 3) := by decide +kernel
theorem dX16_growUnique_177 : decode cX16_growUnique 177 = .ok (.lload 10, 2) := by decide +kernel
theorem dX16_growUnique_179 : decode cX16_growUnique 179 = .ok (.aload_n 0, 1) := by decide +kernel
theorem dX16_growUnique_180 : decode cX16_growUnique 180 = .ok (.getfield 522, 3) := by decide +kernel
theorem dX16_growUnique_183 : decode cX16_growUnique 183 = .ok (.iload 7, 2) := by decide +kernel
theorem dX16_growUnique_185 : decode cX16_growUnique 185 = .ok (.laload, 1) := by decide +kernel
theorem dX16_growUnique_186 : decode cX16_growUnique 186 = .ok (.lsub, 1) := by decide +kernel
theorem dX16_growUnique_187 : decode cX16_growUnique 187 = .ok (.aload_n 0, 1) := by decide +kernel
theorem dX16_growUnique_188 : decode cX16_growUnique 188 = .ok (.getfield 356, 3) := by decide +kernel
theorem dX16_growUnique_191 : decode cX16_growUnique 191 = .ok (.getfield 191, 3) := by decide +kernel
theorem dX16_growUnique_194 : decode cX16_growUnique 194 = .ok (.iload_n 2, 1) := by decide +kernel
theorem dX16_growUnique_195 : decode cX16_growUnique 195 = .ok (.laload, 1) := by decide +kernel
theorem dX16_growUnique_196 : decode cX16_growUnique 196 = .ok (.lcmp, 1) := by decide +kernel
theorem dX16_growUnique_197 : decode cX16_growUnique 197 = .ok (.ifCond .lt 54, 3) := by decide +kernel
theorem dX16_growUnique_200 : decode cX16_growUnique 200 = .ok (.iload 7, 2) := by decide +kernel
theorem dX16_growUnique_202 : decode cX16_growUnique 202 = .ok (.iconst (-1), 1) := by decide +kernel
theorem dX16_growUnique_203 : decode cX16_growUnique 203 = .ok (.if_icmp .ne 25, 3) := by decide +kernel
theorem dX16_growUnique_206 : decode cX16_growUnique 206 = .ok (.aload_n 0, 1) := by decide +kernel
theorem dX16_growUnique_207 : decode cX16_growUnique 207 = .ok (.iload_n 1, 1) := by decide +kernel
theorem dX16_growUnique_208 : decode cX16_growUnique 208 = .ok (.iconst 2, 1) := by decide +kernel
theorem dX16_growUnique_209 : decode cX16_growUnique 209 = .ok (.lload 8, 2) := by decide +kernel
theorem dX16_growUnique_211 : decode cX16_growUnique 211 = .ok (.lload 10, 2) := by decide +kernel
theorem dX16_growUnique_213 : decode cX16_growUnique 213 = .ok (.lconst 0, 1) := by decide +kernel
theorem dX16_growUnique_214 : decode cX16_growUnique 214 = .ok (.aload_n 0, 1) := by decide +kernel
theorem dX16_growUnique_215 : decode cX16_growUnique 215 = .ok (.getfield 578, 3) := by decide +kernel
theorem dX16_growUnique_218 : decode cX16_growUnique 218 = .ok (.iconst 0, 1) := by decide +kernel
theorem dX16_growUnique_219 : decode cX16_growUnique 219 = .ok (.iload 12, 2) := by decide +kernel
theorem dX16_growUnique_221 : decode cX16_growUnique 221 = .ok (.invokevirtual 567, 3) := by decide +kernel
theorem dX16_growUnique_224 : decode cX16_growUnique 224 = .ok (.pop, 1) := by decide +kernel
theorem dX16_growUnique_225 : decode cX16_growUnique 225 = .ok (.goto 12, 3) := by decide +kernel
theorem dX16_growUnique_228 : decode cX16_growUnique 228 = .ok (.aload_n 0, 1) := by decide +kernel
theorem dX16_growUnique_229 : decode cX16_growUnique 229 = .ok (.getfield 522, 3) := by decide +kernel
theorem dX16_growUnique_232 : decode cX16_growUnique 232 = .ok (.iload 7, 2) := by decide +kernel
theorem dX16_growUnique_234 : decode cX16_growUnique 234 = .ok (.lload 10, 2) := by decide +kernel
theorem dX16_growUnique_236 : decode cX16_growUnique 236 = .ok (.lastore, 1) := by decide +kernel
theorem dX16_growUnique_237 : decode cX16_growUnique 237 = .ok (.aload_n 0, 1) := by decide +kernel
theorem dX16_growUnique_238 : decode cX16_growUnique 238 = .ok (.iload_n 1, 1) := by decide +kernel
theorem dX16_growUnique_239 : decode cX16_growUnique 239 = .ok (.lload 10, 2) := by decide +kernel
theorem dX16_growUnique_241 : decode cX16_growUnique 241 = .ok (.aload_n 0, 1) := by decide +kernel
theorem dX16_growUnique_242 : decode cX16_growUnique 242 = .ok (.getfield 578, 3) := by decide +kernel
theorem dX16_growUnique_245 : decode cX16_growUnique 245 = .ok (.iconst 0, 1) := by decide +kernel
theorem dX16_growUnique_246 : decode cX16_growUnique 246 = .ok (.iload 12, 2) := by decide +kernel
theorem dX16_growUnique_248 : decode cX16_growUnique 248 = .ok (.invokevirtual 549, 3) := by decide +kernel
theorem dX16_growUnique_251 : decode cX16_growUnique 251 = .ok (.aload_n 0, 1) := by decide +kernel
theorem dX16_growUnique_252 : decode cX16_growUnique 252 = .ok (.iload_n 1, 1) := by decide +kernel
theorem dX16_growUnique_253 : decode cX16_growUnique 253 = .ok (.iload 5, 2) := by decide +kernel
theorem dX16_growUnique_255 : decode cX16_growUnique 255 = .ok (.lload_n 3, 1) := by decide +kernel
theorem dX16_growUnique_256 : decode cX16_growUnique 256 = .ok (.invokevirtual 636, 3) := by decide +kernel
theorem dX16_growUnique_259 : decode cX16_growUnique 259 = .ok (.istore 6, 2) := by decide +kernel
theorem dX16_growUnique_261 : decode cX16_growUnique 261 = .ok (.goto (-232), 3) := by decide +kernel
theorem dX16_growUnique_264 : decode cX16_growUnique 264 = .ok (.aload_n 0, 1) := by decide +kernel
theorem dX16_growUnique_265 : decode cX16_growUnique 265 = .ok (.getfield 504, 3) := by decide +kernel
theorem dX16_growUnique_268 : decode cX16_growUnique 268 = .ok (.iload_n 1, 1) := by decide +kernel
theorem dX16_growUnique_269 : decode cX16_growUnique 269 = .ok (.iaload, 1) := by decide +kernel
theorem dX16_growUnique_270 : decode cX16_growUnique 270 = .ok (.istore 6, 2) := by decide +kernel
theorem dX16_growUnique_272 : decode cX16_growUnique 272 = .ok (.iload 6, 2) := by decide +kernel
theorem dX16_growUnique_274 : decode cX16_growUnique 274 = .ok (.iconst (-1), 1) := by decide +kernel
theorem dX16_growUnique_275 : decode cX16_growUnique 275 = .ok (.if_icmp .eq 60, 3) := by decide +kernel
theorem dX16_growUnique_278 : decode cX16_growUnique 278 = .ok (.aload_n 0, 1) := by decide +kernel
theorem dX16_growUnique_279 : decode cX16_growUnique 279 = .ok (.getfield 495, 3) := by decide +kernel
theorem dX16_growUnique_282 : decode cX16_growUnique 282 = .ok (.iload 6, 2) := by decide +kernel
theorem dX16_growUnique_284 : decode cX16_growUnique 284 = .ok (.iaload, 1) := by decide +kernel
theorem dX16_growUnique_285 : decode cX16_growUnique 285 = .ok (.istore 7, 2) := by decide +kernel
theorem dX16_growUnique_287 : decode cX16_growUnique 287 = .ok (.aload_n 0, 1) := by decide +kernel
theorem dX16_growUnique_288 : decode cX16_growUnique 288 = .ok (.getfield 513, 3) := by decide +kernel
theorem dX16_growUnique_291 : decode cX16_growUnique 291 = .ok (.iload 6, 2) := by decide +kernel
theorem dX16_growUnique_293 : decode cX16_growUnique 293 = .ok (.iaload, 1) := by decide +kernel
theorem dX16_growUnique_294 : decode cX16_growUnique 294 = .ok (.iconst 2, 1) := by decide +kernel
theorem dX16_growUnique_295 : decode cX16_growUnique 295 = .ok (.if_icmp .ne 33, 3) := by decide +kernel
theorem dX16_growUnique_298 : decode cX16_growUnique 298 = .ok (.lload_n 3, 1) := by decide +kernel
theorem dX16_growUnique_299 : decode cX16_growUnique 299 = .ok (.lconst 1, 1) := by decide +kernel
theorem dX16_growUnique_300 : decode cX16_growUnique 300 = .ok (.ladd, 1) := by decide +kernel
theorem dX16_growUnique_301 : decode cX16_growUnique 301 = .ok (.aload_n 0, 1) := by decide +kernel
theorem dX16_growUnique_302 : decode cX16_growUnique 302 = .ok (.getfield 522, 3) := by decide +kernel
theorem dX16_growUnique_305 : decode cX16_growUnique 305 = .ok (.iload 6, 2) := by decide +kernel
theorem dX16_growUnique_307 : decode cX16_growUnique 307 = .ok (.laload, 1) := by decide +kernel
theorem dX16_growUnique_308 : decode cX16_growUnique 308 = .ok (.lsub, 1) := by decide +kernel
theorem dX16_growUnique_309 : decode cX16_growUnique 309 = .ok (.aload_n 0, 1) := by decide +kernel
theorem dX16_growUnique_310 : decode cX16_growUnique 310 = .ok (.getfield 356, 3) := by decide +kernel
theorem dX16_growUnique_313 : decode cX16_growUnique 313 = .ok (.getfield 191, 3) := by decide +kernel
theorem dX16_growUnique_316 : decode cX16_growUnique 316 = .ok (.iload_n 2, 1) := by decide +kernel
theorem dX16_growUnique_317 : decode cX16_growUnique 317 = .ok (.laload, 1) := by decide +kernel
theorem dX16_growUnique_318 : decode cX16_growUnique 318 = .ok (.lcmp, 1) := by decide +kernel
theorem dX16_growUnique_319 : decode cX16_growUnique 319 = .ok (.ifCond .lt 9, 3) := by decide +kernel
theorem dX16_growUnique_322 : decode cX16_growUnique 322 = .ok (.aload_n 0, 1) := by decide +kernel
theorem dX16_growUnique_323 : decode cX16_growUnique 323 = .ok (.iload 6, 2) := by decide +kernel
theorem dX16_growUnique_325 : decode cX16_growUnique 325 = .ok (.invokevirtual 607, 3) := by decide +kernel
theorem dX16_growUnique_328 : decode cX16_growUnique 328 = .ok (.iload 7, 2) := by decide +kernel
theorem dX16_growUnique_330 : decode cX16_growUnique 330 = .ok (.istore 6, 2) := by decide +kernel
theorem dX16_growUnique_332 : decode cX16_growUnique 332 = .ok (.goto (-60), 3) := by decide +kernel
theorem dX16_growUnique_335 : decode cX16_growUnique 335 = .ok (.return_, 1) := by decide +kernel
set_option maxRecDepth 20000 in
theorem a_X16_growUnique_335 {Q : Sg → Unit → Prop} {X : Sg → String → Prop} (K : MC R p s m args c cX16_growUnique 14 RX16 D cA tys A n0 s0 3 79 []) (hQ : HQV p l e R s m args below meth c cX16_growUnique D cA A n0 s0 QM dm ra jx rm Q) (hX : HX p l e R s m args below meth c 14 D cA A n0 s0 QM dm ra jx rm X) : ∀ (σ : Sg), w_X16_growUnique_335 ra jx rm Q X σ → RG σ → Shp dm ra jx rm σ → JJ p l e R s m args below meth c 14 D cA A n0 s0 QM σ 335 [(0, .ref rm)] [] := by
  intro σ h hGσ hS H locs ls hH hl hc
  have B := K.1
  unfold w_X16_growUnique_335 at h
  exact hQ _ _ _ _ _ dX16_growUnique_335 hH hc h hGσ hS
set_option maxRecDepth 20000 in
theorem a_X16_growUnique_328 {Q : Sg → Unit → Prop} {X : Sg → String → Prop} (K : MC R p s m args c cX16_growUnique 14 RX16 D cA tys A n0 s0 3 79 []) (hQ : HQV p l e R s m args below meth c cX16_growUnique D cA A n0 s0 QM dm ra jx rm Q) (hX : HX p l e R s m args below meth c 14 D cA A n0 s0 QM dm ra jx rm X) {K272 : Sg → Int → Int64 → Int → Prop} (hK272 : ∀ (σ : Sg) (v2 : Int) (v3 : Int64) (v6 : Int) (g2 : rng v2) (g6 : rng v6), K272 σ v2 v3 v6 → RG σ → Shp dm ra jx rm σ → JJ p l e R s m args below meth c 14 D cA A n0 s0 QM σ 272 [(0, .ref rm), (2, .int (i32 v2)), (3, .long v3), (6, .int (i32 v6))] []) : ∀ (σ : Sg) (v2 : Int) (v3 : Int64) (v7 : Int) (g2 : rng v2) (g7 : rng v7), w_X16_growUnique_328 ra jx rm K272 Q X σ v2 v3 v7 → RG σ → Shp dm ra jx rm σ → JJ p l e R s m args below meth c 14 D cA A n0 s0 QM σ 328 [(0, .ref rm), (2, .int (i32 v2)), (3, .long v3), (7, .int (i32 v7))] [] := by
  intro σ v2 v3 v7 g2 g7 h hGσ hS H locs ls hH hl hc
  have B := K.1
  unfold w_X16_growUnique_328 at h
  refine lv_iload B.1 B.2.1 dX16_growUnique_328 (lv_at hl 3 rfl) ?_
  refine lv_istore (lv' := [(6, .int (i32 v7)), (0, .ref rm), (2, .int (i32 v2)), (3, .long v3), (7, .int (i32 v7))]) B.1 B.2.1 dX16_growUnique_330 hl (by decide) rfl (fun ls hl => ?_)
  refine lv_goto (tgt := 272) B.1 B.2.1 dX16_growUnique_332 (by decide) ?_
  exact hK272 _ _ _ _ g2 g7 h hGσ hS _ _ _ hH (lv_sub (l' := [(0, .ref rm), (2, .int (i32 v2)), (3, .long v3), (6, .int (i32 v7))]) hl [1, 2, 3, 0] rfl) hc
set_option maxRecDepth 20000 in
theorem a_X16_growUnique_322 {Q : Sg → Unit → Prop} {X : Sg → String → Prop} (K : MC R p s m args c cX16_growUnique 14 RX16 D cA tys A n0 s0 3 79 []) (hQ : HQV p l e R s m args below meth c cX16_growUnique D cA A n0 s0 QM dm ra jx rm Q) (hX : HX p l e R s m args below meth c 14 D cA A n0 s0 QM dm ra jx rm X) {K272 : Sg → Int → Int64 → Int → Prop} (hK272 : ∀ (σ : Sg) (v2 : Int) (v3 : Int64) (v6 : Int) (g2 : rng v2) (g6 : rng v6), K272 σ v2 v3 v6 → RG σ → Shp dm ra jx rm σ → JJ p l e R s m args below meth c 14 D cA A n0 s0 QM σ 272 [(0, .ref rm), (2, .int (i32 v2)), (3, .long v3), (6, .int (i32 v6))] []) : ∀ (σ : Sg) (v2 : Int) (v3 : Int64) (v6 : Int) (v7 : Int) (g2 : rng v2) (g6 : rng v6) (g7 : rng v7), w_X16_growUnique_322 ra jx rm K272 Q X σ v2 v3 v6 v7 → RG σ → Shp dm ra jx rm σ → JJ p l e R s m args below meth c 14 D cA A n0 s0 QM σ 322 [(0, .ref rm), (2, .int (i32 v2)), (3, .long v3), (6, .int (i32 v6)), (7, .int (i32 v7))] [] := by
  intro σ v2 v3 v6 v7 g2 g6 g7 h hGσ hS H locs ls hH hl hc
  have B := K.1
  unfold w_X16_growUnique_322 at h
  refine lv_aload_n B.1 B.2.1 dX16_growUnique_322 rfl (lv_at hl 0 rfl) ?_
  refine lv_iload B.1 B.2.1 dX16_growUnique_323 (lv_at hl 3 rfl) ?_
  refine c_V B hH hl hc K.2.2.1 (C := RX16) (T := TX16) (N := 123) (ci := 16) (As := [.int (i32 v6)]) (ok_X16_drop K.2.1 σ v6 g6 hGσ hS h) wc_X16_607 1 hd_X16_drop ⟨Nat.le_trans (Nat.le_of_ble_eq_true rfl) K.2.2.2.1, Nat.le_trans (Nat.le_of_ble_eq_true rfl) K.2.2.2.2.1⟩ hS.1.1 hS.1.2 (by decide) rfl rfl (rest := []) rfl (Nat.le_of_ble_eq_true rfl) dX16_growUnique_325 (fun σ31 w hq => ?_) (fun σ9 E9 hx9 => hX σ9 E9 _ _ _ (tb_out K.2.2.2.2.2 rfl) hx9.1 hx9.2.1 hx9.2.2)
  obtain ⟨rfl, h, hGσ31, hS⟩ := hq
  intro H locs ls hH hl hc
  refine W.eq (g2 := F0 m 328 ls []) (rfl) ?_
  try dsimp only at h
  exact a_X16_growUnique_328 K hQ hX hK272 _ _ _ _ g2 g7 h hGσ31 hS _ _ _ hH (lv_sub (l' := [(0, .ref rm), (2, .int (i32 v2)), (3, .long v3), (7, .int (i32 v7))]) hl [0, 1, 2, 4] rfl) hc
set_option maxRecDepth 20000 in
theorem a_X16_growUnique_298 {Q : Sg → Unit → Prop} {X : Sg → String → Prop} (K : MC R p s m args c cX16_growUnique 14 RX16 D cA tys A n0 s0 3 79 []) (hQ : HQV p l e R s m args below meth c cX16_growUnique D cA A n0 s0 QM dm ra jx rm Q) (hX : HX p l e R s m args below meth c 14 D cA A n0 s0 QM dm ra jx rm X) {K272 : Sg → Int → Int64 → Int → Prop} (hK272 : ∀ (σ : Sg) (v2 : Int) (v3 : Int64) (v6 : Int) (g2 : rng v2) (g6 : rng v6), K272 σ v2 v3 v6 → RG σ → Shp dm ra jx rm σ → JJ p l e R s m args below meth c 14 D cA A n0 s0 QM σ 272 [(0, .ref rm), (2, .int (i32 v2)), (3, .long v3), (6, .int (i32 v6))] []) : ∀ (σ : Sg) (v2 : Int) (v3 : Int64) (v6 : Int) (v7 : Int) (g2 : rng v2) (g6 : rng v6) (g7 : rng v7), w_X16_growUnique_298 ra jx rm K272 Q X σ v2 v3 v6 v7 → RG σ → Shp dm ra jx rm σ → JJ p l e R s m args below meth c 14 D cA A n0 s0 QM σ 298 [(0, .ref rm), (2, .int (i32 v2)), (3, .long v3), (6, .int (i32 v6)), (7, .int (i32 v7))] [] := by
  intro σ v2 v3 v6 v7 g2 g6 g7 h hGσ hS H locs ls hH hl hc
  have B := K.1
  unfold w_X16_growUnique_298 at h
  refine lv_lload_n B.1 B.2.1 dX16_growUnique_298 rfl (lv_at hl 2 rfl) ?_
  refine lv_lconst (v := 1) B.1 B.2.1 dX16_growUnique_299 (by decide) ?_
  refine lv_ladd B.1 B.2.1 dX16_growUnique_300 ?_
  refine lv_aload_n B.1 B.2.1 dX16_growUnique_301 rfl (lv_at hl 0 rfl) ?_
  refine r_arr B hH hS 71 (kd := 101) (n := 4000) (by decide) (by decide) wf_X16_522 rfl rfl dX16_growUnique_302 ?_
  refine lv_iload B.1 B.2.1 dX16_growUnique_305 (lv_at hl 3 rfl) ?_
  obtain ⟨q1, h⟩ := h
  refine x_lald B K.2.1 hH (hS.ar (k := 71) (kd := 101) (n := 4000) (by decide)) (by decide) q1 dX16_growUnique_307 ?_
  refine lv_lsub B.1 B.2.1 dX16_growUnique_308 ?_
  refine lv_aload_n B.1 B.2.1 dX16_growUnique_309 rfl (lv_at hl 0 rfl) ?_
  refine r_getp B hH hS 17 (by decide) wf_X16_356 rfl rfl dX16_growUnique_310 ?_
  obtain ⟨a32, ea32, ja32, h⟩ := h
  refine W.eq (g2 := F0 m 313 ls [.ref a32, .long ((v3 + 1) - (gJ σ (ra 71) v6.toNat))]) (by rw [ea32]; rfl) ?_
  refine n_arr B hH hS ja32 8 (kd := 101) (n := 16) (by decide) (by decide) (List.mem_of_getElem? (i := 8) rfl) rfl dX16_growUnique_313 ?_
  refine lv_iload_n B.1 B.2.1 dX16_growUnique_316 rfl (lv_at hl 1 rfl) ?_
  obtain ⟨q3, h⟩ := h
  refine x_lald B K.2.1 hH (hS.ja ja32 (k := 8) (kd := 101) (n := 16) (by decide)) (by decide) q3 dX16_growUnique_317 ?_
  refine W.lcmp B.1 B.2.1 dX16_growUnique_318 ?_
  refine lv_if_lt (tgt := 328) B.1 B.2.1 dX16_growUnique_319 (by decide) (fun h9 => ?_) (fun h9 => ?_)
  · rw [if_pos ((lg_cmp_lt _ _).mp h9)] at h
    exact a_X16_growUnique_328 K hQ hX hK272 _ _ _ _ g2 g7 h hGσ hS _ _ _ hH (lv_sub (l' := [(0, .ref rm), (2, .int (i32 v2)), (3, .long v3), (7, .int (i32 v7))]) hl [0, 1, 2, 4] rfl) hc
  · rw [if_neg (fun q => h9 ((lg_cmp_lt _ _).mpr q))] at h
    exact a_X16_growUnique_322 K hQ hX hK272 _ _ _ _ _ g2 g6 g7 h hGσ hS _ _ _ hH (lv_sub (l' := [(0, .ref rm), (2, .int (i32 v2)), (3, .long v3), (6, .int (i32 v6)), (7, .int (i32 v7))]) hl [0, 1, 2, 3, 4] rfl) hc
set_option maxRecDepth 20000 in
theorem a_X16_growUnique_278 {Q : Sg → Unit → Prop} {X : Sg → String → Prop} (K : MC R p s m args c cX16_growUnique 14 RX16 D cA tys A n0 s0 3 79 []) (hQ : HQV p l e R s m args below meth c cX16_growUnique D cA A n0 s0 QM dm ra jx rm Q) (hX : HX p l e R s m args below meth c 14 D cA A n0 s0 QM dm ra jx rm X) {K272 : Sg → Int → Int64 → Int → Prop} (hK272 : ∀ (σ : Sg) (v2 : Int) (v3 : Int64) (v6 : Int) (g2 : rng v2) (g6 : rng v6), K272 σ v2 v3 v6 → RG σ → Shp dm ra jx rm σ → JJ p l e R s m args below meth c 14 D cA A n0 s0 QM σ 272 [(0, .ref rm), (2, .int (i32 v2)), (3, .long v3), (6, .int (i32 v6))] []) : ∀ (σ : Sg) (v2 : Int) (v3 : Int64) (v6 : Int) (g2 : rng v2) (g6 : rng v6), w_X16_growUnique_278 ra jx rm K272 Q X σ v2 v3 v6 → RG σ → Shp dm ra jx rm σ → JJ p l e R s m args below meth c 14 D cA A n0 s0 QM σ 278 [(0, .ref rm), (2, .int (i32 v2)), (3, .long v3), (6, .int (i32 v6))] [] := by
  intro σ v2 v3 v6 g2 g6 h hGσ hS H locs ls hH hl hc
  have B := K.1
  unfold w_X16_growUnique_278 at h
  refine lv_aload_n B.1 B.2.1 dX16_growUnique_278 rfl (lv_at hl 0 rfl) ?_
  refine r_arr B hH hS 75 (kd := 100) (n := 4000) (by decide) (by decide) wf_X16_495 rfl rfl dX16_growUnique_279 ?_
  refine lv_iload B.1 B.2.1 dX16_growUnique_282 (lv_at hl 3 rfl) ?_
  obtain ⟨q1, h⟩ := h
  refine x_iald B K.2.1 hH (hS.ar (k := 75) (kd := 100) (n := 4000) (by decide)) (by decide) q1 dX16_growUnique_284 ?_
  refine lv_istore (lv' := [(7, .int (i32 (gI σ (ra 75) v6.toNat))), (0, .ref rm), (2, .int (i32 v2)), (3, .long v3), (6, .int (i32 v6))]) B.1 B.2.1 dX16_growUnique_285 hl (by decide) rfl (fun ls hl => ?_)
  refine lv_aload_n B.1 B.2.1 dX16_growUnique_287 rfl (lv_at hl 1 rfl) ?_
  refine r_arr B hH hS 68 (kd := 100) (n := 4000) (by decide) (by decide) wf_X16_513 rfl rfl dX16_growUnique_288 ?_
  refine lv_iload B.1 B.2.1 dX16_growUnique_291 (lv_at hl 4 rfl) ?_
  obtain ⟨q2, h⟩ := h
  refine x_iald B K.2.1 hH (hS.ar (k := 68) (kd := 100) (n := 4000) (by decide)) (by decide) q2 dX16_growUnique_293 ?_
  refine lv_iconst (v := i32 2) B.1 B.2.1 dX16_growUnique_294 (by decide) ?_
  refine lv_icmp_ne (tgt := 328) B.1 B.2.1 dX16_growUnique_295 (by decide) (fun h9 => ?_) (fun h9 => ?_)
  · rw [if_pos (fun q => h9 ((i32_eq (hGσ _ _) (by unfold rng; omega)).mpr q))] at h
    exact a_X16_growUnique_328 K hQ hX hK272 _ _ _ _ g2 (hGσ _ _) h hGσ hS _ _ _ hH (lv_sub (l' := [(0, .ref rm), (2, .int (i32 v2)), (3, .long v3), (7, .int (i32 (gI σ (ra 75) v6.toNat)))]) hl [1, 2, 3, 0] rfl) hc
  · rw [if_neg (fun q => q ((i32_eq (hGσ _ _) (by unfold rng; omega)).mp h9))] at h
    exact a_X16_growUnique_298 K hQ hX hK272 _ _ _ _ _ g2 g6 (hGσ _ _) h hGσ hS _ _ _ hH (lv_sub (l' := [(0, .ref rm), (2, .int (i32 v2)), (3, .long v3), (6, .int (i32 v6)), (7, .int (i32 (gI σ (ra 75) v6.toNat)))]) hl [1, 2, 3, 4, 0] rfl) hc
set_option maxRecDepth 20000 in
theorem a_X16_growUnique_272 {Q : Sg → Unit → Prop} {X : Sg → String → Prop} (K : MC R p s m args c cX16_growUnique 14 RX16 D cA tys A n0 s0 3 79 []) (hQ : HQV p l e R s m args below meth c cX16_growUnique D cA A n0 s0 QM dm ra jx rm Q) (hX : HX p l e R s m args below meth c 14 D cA A n0 s0 QM dm ra jx rm X) {K272 : Sg → Int → Int64 → Int → Prop} (hK272 : ∀ (σ : Sg) (v2 : Int) (v3 : Int64) (v6 : Int) (g2 : rng v2) (g6 : rng v6), K272 σ v2 v3 v6 → RG σ → Shp dm ra jx rm σ → JJ p l e R s m args below meth c 14 D cA A n0 s0 QM σ 272 [(0, .ref rm), (2, .int (i32 v2)), (3, .long v3), (6, .int (i32 v6))] []) : ∀ (σ : Sg) (v2 : Int) (v3 : Int64) (v6 : Int) (g2 : rng v2) (g6 : rng v6), w_X16_growUnique_272 ra jx rm K272 Q X σ v2 v3 v6 → RG σ → Shp dm ra jx rm σ → JJ p l e R s m args below meth c 14 D cA A n0 s0 QM σ 272 [(0, .ref rm), (2, .int (i32 v2)), (3, .long v3), (6, .int (i32 v6))] [] := by
  intro σ v2 v3 v6 g2 g6 h hGσ hS H locs ls hH hl hc
  have B := K.1
  unfold w_X16_growUnique_272 at h
  refine lv_iload B.1 B.2.1 dX16_growUnique_272 (lv_at hl 3 rfl) ?_
  refine lv_iconst (v := i32 (-1)) B.1 B.2.1 dX16_growUnique_274 (by decide) ?_
  refine lv_icmp_eq (tgt := 335) B.1 B.2.1 dX16_growUnique_275 (by decide) (fun h9 => ?_) (fun h9 => ?_)
  · rw [if_pos ((i32_eq g6 (by unfold rng; omega)).mp h9)] at h
    exact a_X16_growUnique_335 K hQ hX _ h hGσ hS _ _ _ hH (lv_sub (l' := [(0, .ref rm)]) hl [0] rfl) hc
  · rw [if_neg (fun q => h9 ((i32_eq g6 (by unfold rng; omega)).mpr q))] at h
    exact a_X16_growUnique_278 K hQ hX hK272 _ _ _ _ g2 g6 h hGσ hS _ _ _ hH (lv_sub (l' := [(0, .ref rm), (2, .int (i32 v2)), (3, .long v3), (6, .int (i32 v6))]) hl [0, 1, 2, 3] rfl) hc
theorem al_X16_growUnique_272 {Q : Sg → Unit → Prop} {X : Sg → String → Prop} (K : MC R p s m args c cX16_growUnique 14 RX16 D cA tys A n0 s0 3 79 []) (hQ : HQV p l e R s m args below meth c cX16_growUnique D cA A n0 s0 QM dm ra jx rm Q) (hX : HX p l e R s m args below meth c 14 D cA A n0 s0 QM dm ra jx rm X) : ∀ (n : Nat), ∀ (σ : Sg) (v2 : Int) (v3 : Int64) (v6 : Int) (g2 : rng v2) (g6 : rng v6), wl_X16_growUnique_272 ra jx rm Q X n σ v2 v3 v6 → RG σ → Shp dm ra jx rm σ → JJ p l e R s m args below meth c 14 D cA A n0 s0 QM σ 272 [(0, .ref rm), (2, .int (i32 v2)), (3, .long v3), (6, .int (i32 v6))] [] := by
  intro n
  induction n with
  | zero => intro σ v2 v3 v6 g2 g6 h; exact h.elim
  | succ n ih => exact fun σ v2 v3 v6 g2 g6 h => a_X16_growUnique_272 K hQ hX ih σ v2 v3 v6 g2 g6 h
set_option maxRecDepth 20000 in
theorem a_X16_growUnique_264 {Q : Sg → Unit → Prop} {X : Sg → String → Prop} (K : MC R p s m args c cX16_growUnique 14 RX16 D cA tys A n0 s0 3 79 []) (hQ : HQV p l e R s m args below meth c cX16_growUnique D cA A n0 s0 QM dm ra jx rm Q) (hX : HX p l e R s m args below meth c 14 D cA A n0 s0 QM dm ra jx rm X) : ∀ (σ : Sg) (v1 : Int) (v2 : Int) (v3 : Int64) (g1 : rng v1) (g2 : rng v2), w_X16_growUnique_264 ra jx rm Q X σ v1 v2 v3 → RG σ → Shp dm ra jx rm σ → JJ p l e R s m args below meth c 14 D cA A n0 s0 QM σ 264 [(0, .ref rm), (1, .int (i32 v1)), (2, .int (i32 v2)), (3, .long v3)] [] := by
  intro σ v1 v2 v3 g1 g2 h hGσ hS H locs ls hH hl hc
  have B := K.1
  unfold w_X16_growUnique_264 at h
  refine lv_aload_n B.1 B.2.1 dX16_growUnique_264 rfl (lv_at hl 0 rfl) ?_
  refine r_arr B hH hS 76 (kd := 100) (n := 64) (by decide) (by decide) wf_X16_504 rfl rfl dX16_growUnique_265 ?_
  refine lv_iload_n B.1 B.2.1 dX16_growUnique_268 rfl (lv_at hl 1 rfl) ?_
  obtain ⟨q1, h⟩ := h
  refine x_iald B K.2.1 hH (hS.ar (k := 76) (kd := 100) (n := 64) (by decide)) (by decide) q1 dX16_growUnique_269 ?_
  refine lv_istore (lv' := [(6, .int (i32 (gI σ (ra 76) v1.toNat))), (0, .ref rm), (1, .int (i32 v1)), (2, .int (i32 v2)), (3, .long v3)]) B.1 B.2.1 dX16_growUnique_270 hl (by decide) rfl (fun ls hl => ?_)
  obtain ⟨n9, h⟩ := h
  exact al_X16_growUnique_272 K hQ hX n9 _ _ _ _ g2 (hGσ _ _) h hGσ hS _ _ _ hH (lv_sub (l' := [(0, .ref rm), (2, .int (i32 v2)), (3, .long v3), (6, .int (i32 (gI σ (ra 76) v1.toNat)))]) hl [1, 3, 4, 0] rfl) hc
set_option maxRecDepth 20000 in
theorem a_X16_growUnique_251 {Q : Sg → Unit → Prop} {X : Sg → String → Prop} (K : MC R p s m args c cX16_growUnique 14 RX16 D cA tys A n0 s0 3 79 []) (hQ : HQV p l e R s m args below meth c cX16_growUnique D cA A n0 s0 QM dm ra jx rm Q) (hX : HX p l e R s m args below meth c 14 D cA A n0 s0 QM dm ra jx rm X) {K29 : Sg → Int → Int → Int64 → Int → Int → Prop} (hK29 : ∀ (σ : Sg) (v1 : Int) (v2 : Int) (v3 : Int64) (v5 : Int) (v6 : Int) (g1 : rng v1) (g2 : rng v2) (g5 : rng v5) (g6 : rng v6), K29 σ v1 v2 v3 v5 v6 → RG σ → Shp dm ra jx rm σ → JJ p l e R s m args below meth c 14 D cA A n0 s0 QM σ 29 [(0, .ref rm), (1, .int (i32 v1)), (2, .int (i32 v2)), (3, .long v3), (5, .int (i32 v5)), (6, .int (i32 v6))] []) : ∀ (σ : Sg) (v1 : Int) (v2 : Int) (v3 : Int64) (v5 : Int) (g1 : rng v1) (g2 : rng v2) (g5 : rng v5), w_X16_growUnique_251 ra jx rm K29 Q X σ v1 v2 v3 v5 → RG σ → Shp dm ra jx rm σ → JJ p l e R s m args below meth c 14 D cA A n0 s0 QM σ 251 [(0, .ref rm), (1, .int (i32 v1)), (2, .int (i32 v2)), (3, .long v3), (5, .int (i32 v5))] [] := by
  intro σ v1 v2 v3 v5 g1 g2 g5 h hGσ hS H locs ls hH hl hc
  have B := K.1
  unfold w_X16_growUnique_251 at h
  refine lv_aload_n B.1 B.2.1 dX16_growUnique_251 rfl (lv_at hl 0 rfl) ?_
  refine lv_iload_n B.1 B.2.1 dX16_growUnique_252 rfl (lv_at hl 1 rfl) ?_
  refine lv_iload B.1 B.2.1 dX16_growUnique_253 (lv_at hl 4 rfl) ?_
  refine lv_lload_n B.1 B.2.1 dX16_growUnique_255 rfl (lv_at hl 3 rfl) ?_
  refine c_V B hH hl hc K.2.2.1 (C := RX16) (T := TX16) (N := 123) (ci := 16) (As := [.int (i32 v1), .int (i32 v5), .long v3]) (ok_X16_leastWaiting K.2.1 σ v1 v5 v3 g1 g5 hGσ hS h) wc_X16_636 3 hd_X16_leastWaiting ⟨Nat.le_trans (Nat.le_of_ble_eq_true rfl) K.2.2.2.1, Nat.le_trans (Nat.le_of_ble_eq_true rfl) K.2.2.2.2.1⟩ hS.1.1 hS.1.2 (by decide) rfl rfl (rest := []) rfl (Nat.le_of_ble_eq_true rfl) dX16_growUnique_256 (fun σ33 w hq => ?_) (fun σ9 E9 hx9 => hX σ9 E9 _ _ _ (tb_out K.2.2.2.2.2 rfl) hx9.1 hx9.2.1 hx9.2.2)
  obtain ⟨r34, rfl, gr34, h, hGσ33, hS⟩ := hq
  intro H locs ls hH hl hc
  refine W.eq (g2 := F0 m 259 ls [.int (i32 r34)]) (rfl) ?_
  try dsimp only at h
  refine lv_istore (lv' := [(6, .int (i32 r34)), (0, .ref rm), (1, .int (i32 v1)), (2, .int (i32 v2)), (3, .long v3), (5, .int (i32 v5))]) B.1 B.2.1 dX16_growUnique_259 hl (by decide) rfl (fun ls hl => ?_)
  refine lv_goto (tgt := 29) B.1 B.2.1 dX16_growUnique_261 (by decide) ?_
  exact hK29 _ _ _ _ _ _ g1 g2 g5 gr34 h hGσ33 hS _ _ _ hH (lv_sub (l' := [(0, .ref rm), (1, .int (i32 v1)), (2, .int (i32 v2)), (3, .long v3), (5, .int (i32 v5)), (6, .int (i32 r34))]) hl [1, 2, 3, 4, 5, 0] rfl) hc
set_option maxRecDepth 20000 in
theorem a_X16_growUnique_237 {Q : Sg → Unit → Prop} {X : Sg → String → Prop} (K : MC R p s m args c cX16_growUnique 14 RX16 D cA tys A n0 s0 3 79 []) (hQ : HQV p l e R s m args below meth c cX16_growUnique D cA A n0 s0 QM dm ra jx rm Q) (hX : HX p l e R s m args below meth c 14 D cA A n0 s0 QM dm ra jx rm X) {K29 : Sg → Int → Int → Int64 → Int → Int → Prop} (hK29 : ∀ (σ : Sg) (v1 : Int) (v2 : Int) (v3 : Int64) (v5 : Int) (v6 : Int) (g1 : rng v1) (g2 : rng v2) (g5 : rng v5) (g6 : rng v6), K29 σ v1 v2 v3 v5 v6 → RG σ → Shp dm ra jx rm σ → JJ p l e R s m args below meth c 14 D cA A n0 s0 QM σ 29 [(0, .ref rm), (1, .int (i32 v1)), (2, .int (i32 v2)), (3, .long v3), (5, .int (i32 v5)), (6, .int (i32 v6))] []) : ∀ (σ : Sg) (v1 : Int) (v2 : Int) (v3 : Int64) (v5 : Int) (v10 : Int64) (v12 : Int) (g1 : rng v1) (g2 : rng v2) (g5 : rng v5) (g12 : rng v12), w_X16_growUnique_237 ra jx rm K29 Q X σ v1 v2 v3 v5 v10 v12 → RG σ → Shp dm ra jx rm σ → JJ p l e R s m args below meth c 14 D cA A n0 s0 QM σ 237 [(0, .ref rm), (1, .int (i32 v1)), (2, .int (i32 v2)), (3, .long v3), (5, .int (i32 v5)), (10, .long v10), (12, .int (i32 v12))] [] := by
  intro σ v1 v2 v3 v5 v10 v12 g1 g2 g5 g12 h hGσ hS H locs ls hH hl hc
  have B := K.1
  unfold w_X16_growUnique_237 at h
  refine lv_aload_n B.1 B.2.1 dX16_growUnique_237 rfl (lv_at hl 0 rfl) ?_
  refine lv_iload_n B.1 B.2.1 dX16_growUnique_238 rfl (lv_at hl 1 rfl) ?_
  refine lv_lload B.1 B.2.1 dX16_growUnique_239 (lv_at hl 5 rfl) ?_
  refine lv_aload_n B.1 B.2.1 dX16_growUnique_241 rfl (lv_at hl 0 rfl) ?_
  refine r_arr B hH hS 82 (kd := 101) (n := 16) (by decide) (by decide) wf_X16_578 rfl rfl dX16_growUnique_242 ?_
  refine lv_iconst (v := i32 0) B.1 B.2.1 dX16_growUnique_245 (by decide) ?_
  refine lv_iload B.1 B.2.1 dX16_growUnique_246 (lv_at hl 6 rfl) ?_
  refine c_V B hH hl hc K.2.2.1 (C := RX16) (T := TX16) (N := 123) (ci := 16) (As := [.int (i32 v1), .long v10, va_rf (some (ra 82)), .int (i32 0), .int (i32 v12)]) (ok_X16_emit K.2.1 σ v1 v10 (some (ra 82)) 0 v12 g1 (by unfold rng; omega) g12 hGσ hS h) wc_X16_549 5 hd_X16_emit ⟨Nat.le_trans (Nat.le_of_ble_eq_true rfl) K.2.2.2.1, Nat.le_trans (Nat.le_of_ble_eq_true rfl) K.2.2.2.2.1⟩ hS.1.1 hS.1.2 (by decide) rfl rfl (rest := []) rfl (Nat.le_of_ble_eq_true rfl) dX16_growUnique_248 (fun σ35 w hq => ?_) (fun σ9 E9 hx9 => hX σ9 E9 _ _ _ (tb_out K.2.2.2.2.2 rfl) hx9.1 hx9.2.1 hx9.2.2)
  obtain ⟨rfl, h, hGσ35, hS⟩ := hq
  intro H locs ls hH hl hc
  refine W.eq (g2 := F0 m 251 ls []) (rfl) ?_
  try dsimp only at h
  exact a_X16_growUnique_251 K hQ hX hK29 _ _ _ _ _ g1 g2 g5 h hGσ35 hS _ _ _ hH (lv_sub (l' := [(0, .ref rm), (1, .int (i32 v1)), (2, .int (i32 v2)), (3, .long v3), (5, .int (i32 v5))]) hl [0, 1, 2, 3, 4] rfl) hc
set_option maxRecDepth 20000 in
theorem a_X16_growUnique_228 {Q : Sg → Unit → Prop} {X : Sg → String → Prop} (K : MC R p s m args c cX16_growUnique 14 RX16 D cA tys A n0 s0 3 79 []) (hQ : HQV p l e R s m args below meth c cX16_growUnique D cA A n0 s0 QM dm ra jx rm Q) (hX : HX p l e R s m args below meth c 14 D cA A n0 s0 QM dm ra jx rm X) {K29 : Sg → Int → Int → Int64 → Int → Int → Prop} (hK29 : ∀ (σ : Sg) (v1 : Int) (v2 : Int) (v3 : Int64) (v5 : Int) (v6 : Int) (g1 : rng v1) (g2 : rng v2) (g5 : rng v5) (g6 : rng v6), K29 σ v1 v2 v3 v5 v6 → RG σ → Shp dm ra jx rm σ → JJ p l e R s m args below meth c 14 D cA A n0 s0 QM σ 29 [(0, .ref rm), (1, .int (i32 v1)), (2, .int (i32 v2)), (3, .long v3), (5, .int (i32 v5)), (6, .int (i32 v6))] []) : ∀ (σ : Sg) (v1 : Int) (v2 : Int) (v3 : Int64) (v5 : Int) (v7 : Int) (v10 : Int64) (v12 : Int) (g1 : rng v1) (g2 : rng v2) (g5 : rng v5) (g7 : rng v7) (g12 : rng v12), w_X16_growUnique_228 ra jx rm K29 Q X σ v1 v2 v3 v5 v7 v10 v12 → RG σ → Shp dm ra jx rm σ → JJ p l e R s m args below meth c 14 D cA A n0 s0 QM σ 228 [(0, .ref rm), (1, .int (i32 v1)), (2, .int (i32 v2)), (3, .long v3), (5, .int (i32 v5)), (7, .int (i32 v7)), (10, .long v10), (12, .int (i32 v12))] [] := by
  intro σ v1 v2 v3 v5 v7 v10 v12 g1 g2 g5 g7 g12 h hGσ hS H locs ls hH hl hc
  have B := K.1
  unfold w_X16_growUnique_228 at h
  refine lv_aload_n B.1 B.2.1 dX16_growUnique_228 rfl (lv_at hl 0 rfl) ?_
  refine r_arr B hH hS 71 (kd := 101) (n := 4000) (by decide) (by decide) wf_X16_522 rfl rfl dX16_growUnique_229 ?_
  refine lv_iload B.1 B.2.1 dX16_growUnique_232 (lv_at hl 5 rfl) ?_
  refine lv_lload B.1 B.2.1 dX16_growUnique_234 (lv_at hl 6 rfl) ?_
  obtain ⟨q1, h⟩ := h
  obtain ⟨σ36, eσ36⟩ : ∃ z, z = pJ σ (ra 71) v7.toNat v10 := ⟨_, rfl⟩
  have h := h σ36 eσ36
  refine x_last B K.2.1 hH (hS.ar (k := 71) (kd := 101) (n := 4000) (by decide)) (by decide) q1 dX16_growUnique_236 (fun H locs hH => ?_)
  have hH : Hd D cA A s (pJ σ (ra 71) v7.toNat v10) H locs := hH
  rw [← eσ36] at hH
  have hGσ36 : RG σ36 := by rw [eσ36]; exact hGσ.pJ
  have hS : Shp dm ra jx rm σ36 := by rw [eσ36]; exact hS
  have hc : CB n0 s0 σ36 := by rw [eσ36]; exact hc
  rw [show gc σ = gc σ36 by rw [eσ36], show gs σ = gs σ36 by rw [eσ36]]
  exact a_X16_growUnique_237 K hQ hX hK29 _ _ _ _ _ _ _ g1 g2 g5 g12 h hGσ36 hS _ _ _ hH (lv_sub (l' := [(0, .ref rm), (1, .int (i32 v1)), (2, .int (i32 v2)), (3, .long v3), (5, .int (i32 v5)), (10, .long v10), (12, .int (i32 v12))]) hl [0, 1, 2, 3, 4, 6, 7] rfl) hc
set_option maxRecDepth 20000 in
theorem a_X16_growUnique_206 {Q : Sg → Unit → Prop} {X : Sg → String → Prop} (K : MC R p s m args c cX16_growUnique 14 RX16 D cA tys A n0 s0 3 79 []) (hQ : HQV p l e R s m args below meth c cX16_growUnique D cA A n0 s0 QM dm ra jx rm Q) (hX : HX p l e R s m args below meth c 14 D cA A n0 s0 QM dm ra jx rm X) {K29 : Sg → Int → Int → Int64 → Int → Int → Prop} (hK29 : ∀ (σ : Sg) (v1 : Int) (v2 : Int) (v3 : Int64) (v5 : Int) (v6 : Int) (g1 : rng v1) (g2 : rng v2) (g5 : rng v5) (g6 : rng v6), K29 σ v1 v2 v3 v5 v6 → RG σ → Shp dm ra jx rm σ → JJ p l e R s m args below meth c 14 D cA A n0 s0 QM σ 29 [(0, .ref rm), (1, .int (i32 v1)), (2, .int (i32 v2)), (3, .long v3), (5, .int (i32 v5)), (6, .int (i32 v6))] []) : ∀ (σ : Sg) (v1 : Int) (v2 : Int) (v3 : Int64) (v5 : Int) (v8 : Int64) (v10 : Int64) (v12 : Int) (g1 : rng v1) (g2 : rng v2) (g5 : rng v5) (g12 : rng v12), w_X16_growUnique_206 ra jx rm K29 Q X σ v1 v2 v3 v5 v8 v10 v12 → RG σ → Shp dm ra jx rm σ → JJ p l e R s m args below meth c 14 D cA A n0 s0 QM σ 206 [(0, .ref rm), (1, .int (i32 v1)), (2, .int (i32 v2)), (3, .long v3), (5, .int (i32 v5)), (8, .long v8), (10, .long v10), (12, .int (i32 v12))] [] := by
  intro σ v1 v2 v3 v5 v8 v10 v12 g1 g2 g5 g12 h hGσ hS H locs ls hH hl hc
  have B := K.1
  unfold w_X16_growUnique_206 at h
  refine lv_aload_n B.1 B.2.1 dX16_growUnique_206 rfl (lv_at hl 0 rfl) ?_
  refine lv_iload_n B.1 B.2.1 dX16_growUnique_207 rfl (lv_at hl 1 rfl) ?_
  refine lv_iconst (v := i32 2) B.1 B.2.1 dX16_growUnique_208 (by decide) ?_
  refine lv_lload B.1 B.2.1 dX16_growUnique_209 (lv_at hl 5 rfl) ?_
  refine lv_lload B.1 B.2.1 dX16_growUnique_211 (lv_at hl 6 rfl) ?_
  refine lv_lconst (v := 0) B.1 B.2.1 dX16_growUnique_213 (by decide) ?_
  refine lv_aload_n B.1 B.2.1 dX16_growUnique_214 rfl (lv_at hl 0 rfl) ?_
  refine r_arr B hH hS 82 (kd := 101) (n := 16) (by decide) (by decide) wf_X16_578 rfl rfl dX16_growUnique_215 ?_
  refine lv_iconst (v := i32 0) B.1 B.2.1 dX16_growUnique_218 (by decide) ?_
  refine lv_iload B.1 B.2.1 dX16_growUnique_219 (lv_at hl 7 rfl) ?_
  refine c_V B hH hl hc K.2.2.1 (C := RX16) (T := TX16) (N := 123) (ci := 16) (As := [.int (i32 v1), .int (i32 2), .long v8, .long v10, .long 0, va_rf (some (ra 82)), .int (i32 0), .int (i32 v12)]) (ok_X16_record K.2.1 σ v1 2 v8 v10 0 (some (ra 82)) 0 v12 g1 (by unfold rng; omega) (by unfold rng; omega) g12 hGσ hS h) wc_X16_567 8 hd_X16_record ⟨Nat.le_trans (Nat.le_of_ble_eq_true rfl) K.2.2.2.1, Nat.le_trans (Nat.le_of_ble_eq_true rfl) K.2.2.2.2.1⟩ hS.1.1 hS.1.2 (by decide) rfl rfl (rest := []) rfl (Nat.le_of_ble_eq_true rfl) dX16_growUnique_221 (fun σ37 w hq => ?_) (fun σ9 E9 hx9 => hX σ9 E9 _ _ _ (tb_out K.2.2.2.2.2 rfl) hx9.1 hx9.2.1 hx9.2.2)
  obtain ⟨r38, rfl, gr38, h, hGσ37, hS⟩ := hq
  intro H locs ls hH hl hc
  refine W.eq (g2 := F0 m 224 ls [.int (i32 r38)]) (rfl) ?_
  try dsimp only at h
  refine lv_pop B.1 B.2.1 dX16_growUnique_224 rfl ?_
  refine lv_goto (tgt := 237) B.1 B.2.1 dX16_growUnique_225 (by decide) ?_
  exact a_X16_growUnique_237 K hQ hX hK29 _ _ _ _ _ _ _ g1 g2 g5 g12 h hGσ37 hS _ _ _ hH (lv_sub (l' := [(0, .ref rm), (1, .int (i32 v1)), (2, .int (i32 v2)), (3, .long v3), (5, .int (i32 v5)), (10, .long v10), (12, .int (i32 v12))]) hl [0, 1, 2, 3, 4, 6, 7] rfl) hc
set_option maxRecDepth 20000 in
theorem a_X16_growUnique_200 {Q : Sg → Unit → Prop} {X : Sg → String → Prop} (K : MC R p s m args c cX16_growUnique 14 RX16 D cA tys A n0 s0 3 79 []) (hQ : HQV p l e R s m args below meth c cX16_growUnique D cA A n0 s0 QM dm ra jx rm Q) (hX : HX p l e R s m args below meth c 14 D cA A n0 s0 QM dm ra jx rm X) {K29 : Sg → Int → Int → Int64 → Int → Int → Prop} (hK29 : ∀ (σ : Sg) (v1 : Int) (v2 : Int) (v3 : Int64) (v5 : Int) (v6 : Int) (g1 : rng v1) (g2 : rng v2) (g5 : rng v5) (g6 : rng v6), K29 σ v1 v2 v3 v5 v6 → RG σ → Shp dm ra jx rm σ → JJ p l e R s m args below meth c 14 D cA A n0 s0 QM σ 29 [(0, .ref rm), (1, .int (i32 v1)), (2, .int (i32 v2)), (3, .long v3), (5, .int (i32 v5)), (6, .int (i32 v6))] []) : ∀ (σ : Sg) (v1 : Int) (v2 : Int) (v3 : Int64) (v5 : Int) (v7 : Int) (v8 : Int64) (v10 : Int64) (v12 : Int) (g1 : rng v1) (g2 : rng v2) (g5 : rng v5) (g7 : rng v7) (g12 : rng v12), w_X16_growUnique_200 ra jx rm K29 Q X σ v1 v2 v3 v5 v7 v8 v10 v12 → RG σ → Shp dm ra jx rm σ → JJ p l e R s m args below meth c 14 D cA A n0 s0 QM σ 200 [(0, .ref rm), (1, .int (i32 v1)), (2, .int (i32 v2)), (3, .long v3), (5, .int (i32 v5)), (7, .int (i32 v7)), (8, .long v8), (10, .long v10), (12, .int (i32 v12))] [] := by
  intro σ v1 v2 v3 v5 v7 v8 v10 v12 g1 g2 g5 g7 g12 h hGσ hS H locs ls hH hl hc
  have B := K.1
  unfold w_X16_growUnique_200 at h
  refine lv_iload B.1 B.2.1 dX16_growUnique_200 (lv_at hl 5 rfl) ?_
  refine lv_iconst (v := i32 (-1)) B.1 B.2.1 dX16_growUnique_202 (by decide) ?_
  refine lv_icmp_ne (tgt := 228) B.1 B.2.1 dX16_growUnique_203 (by decide) (fun h9 => ?_) (fun h9 => ?_)
  · rw [if_pos (fun q => h9 ((i32_eq g7 (by unfold rng; omega)).mpr q))] at h
    exact a_X16_growUnique_228 K hQ hX hK29 _ _ _ _ _ _ _ _ g1 g2 g5 g7 g12 h hGσ hS _ _ _ hH (lv_sub (l' := [(0, .ref rm), (1, .int (i32 v1)), (2, .int (i32 v2)), (3, .long v3), (5, .int (i32 v5)), (7, .int (i32 v7)), (10, .long v10), (12, .int (i32 v12))]) hl [0, 1, 2, 3, 4, 5, 7, 8] rfl) hc
  · rw [if_neg (fun q => q ((i32_eq g7 (by unfold rng; omega)).mp h9))] at h
    exact a_X16_growUnique_206 K hQ hX hK29 _ _ _ _ _ _ _ _ g1 g2 g5 g12 h hGσ hS _ _ _ hH (lv_sub (l' := [(0, .ref rm), (1, .int (i32 v1)), (2, .int (i32 v2)), (3, .long v3), (5, .int (i32 v5)), (8, .long v8), (10, .long v10), (12, .int (i32 v12))]) hl [0, 1, 2, 3, 4, 6, 7, 8] rfl) hc
set_option maxRecDepth 20000 in
theorem a_X16_growUnique_177 {Q : Sg → Unit → Prop} {X : Sg → String → Prop} (K : MC R p s m args c cX16_growUnique 14 RX16 D cA tys A n0 s0 3 79 []) (hQ : HQV p l e R s m args below meth c cX16_growUnique D cA A n0 s0 QM dm ra jx rm Q) (hX : HX p l e R s m args below meth c 14 D cA A n0 s0 QM dm ra jx rm X) {K29 : Sg → Int → Int → Int64 → Int → Int → Prop} (hK29 : ∀ (σ : Sg) (v1 : Int) (v2 : Int) (v3 : Int64) (v5 : Int) (v6 : Int) (g1 : rng v1) (g2 : rng v2) (g5 : rng v5) (g6 : rng v6), K29 σ v1 v2 v3 v5 v6 → RG σ → Shp dm ra jx rm σ → JJ p l e R s m args below meth c 14 D cA A n0 s0 QM σ 29 [(0, .ref rm), (1, .int (i32 v1)), (2, .int (i32 v2)), (3, .long v3), (5, .int (i32 v5)), (6, .int (i32 v6))] []) : ∀ (σ : Sg) (v1 : Int) (v2 : Int) (v3 : Int64) (v5 : Int) (v7 : Int) (v8 : Int64) (v10 : Int64) (v12 : Int) (g1 : rng v1) (g2 : rng v2) (g5 : rng v5) (g7 : rng v7) (g12 : rng v12), w_X16_growUnique_177 ra jx rm K29 Q X σ v1 v2 v3 v5 v7 v8 v10 v12 → RG σ → Shp dm ra jx rm σ → JJ p l e R s m args below meth c 14 D cA A n0 s0 QM σ 177 [(0, .ref rm), (1, .int (i32 v1)), (2, .int (i32 v2)), (3, .long v3), (5, .int (i32 v5)), (7, .int (i32 v7)), (8, .long v8), (10, .long v10), (12, .int (i32 v12))] [] := by
  intro σ v1 v2 v3 v5 v7 v8 v10 v12 g1 g2 g5 g7 g12 h hGσ hS H locs ls hH hl hc
  have B := K.1
  unfold w_X16_growUnique_177 at h
  refine lv_lload B.1 B.2.1 dX16_growUnique_177 (lv_at hl 7 rfl) ?_
  refine lv_aload_n B.1 B.2.1 dX16_growUnique_179 rfl (lv_at hl 0 rfl) ?_
  refine r_arr B hH hS 71 (kd := 101) (n := 4000) (by decide) (by decide) wf_X16_522 rfl rfl dX16_growUnique_180 ?_
  refine lv_iload B.1 B.2.1 dX16_growUnique_183 (lv_at hl 5 rfl) ?_
  obtain ⟨q1, h⟩ := h
  refine x_lald B K.2.1 hH (hS.ar (k := 71) (kd := 101) (n := 4000) (by decide)) (by decide) q1 dX16_growUnique_185 ?_
  refine lv_lsub B.1 B.2.1 dX16_growUnique_186 ?_
  refine lv_aload_n B.1 B.2.1 dX16_growUnique_187 rfl (lv_at hl 0 rfl) ?_
  refine r_getp B hH hS 17 (by decide) wf_X16_356 rfl rfl dX16_growUnique_188 ?_
  obtain ⟨a39, ea39, ja39, h⟩ := h
  refine W.eq (g2 := F0 m 191 ls [.ref a39, .long (v10 - (gJ σ (ra 71) v7.toNat))]) (by rw [ea39]; rfl) ?_
  refine n_arr B hH hS ja39 8 (kd := 101) (n := 16) (by decide) (by decide) (List.mem_of_getElem? (i := 8) rfl) rfl dX16_growUnique_191 ?_
  refine lv_iload_n B.1 B.2.1 dX16_growUnique_194 rfl (lv_at hl 2 rfl) ?_
  obtain ⟨q3, h⟩ := h
  refine x_lald B K.2.1 hH (hS.ja ja39 (k := 8) (kd := 101) (n := 16) (by decide)) (by decide) q3 dX16_growUnique_195 ?_
  refine W.lcmp B.1 B.2.1 dX16_growUnique_196 ?_
  refine lv_if_lt (tgt := 251) B.1 B.2.1 dX16_growUnique_197 (by decide) (fun h9 => ?_) (fun h9 => ?_)
  · rw [if_pos ((lg_cmp_lt _ _).mp h9)] at h
    exact a_X16_growUnique_251 K hQ hX hK29 _ _ _ _ _ g1 g2 g5 h hGσ hS _ _ _ hH (lv_sub (l' := [(0, .ref rm), (1, .int (i32 v1)), (2, .int (i32 v2)), (3, .long v3), (5, .int (i32 v5))]) hl [0, 1, 2, 3, 4] rfl) hc
  · rw [if_neg (fun q => h9 ((lg_cmp_lt _ _).mpr q))] at h
    exact a_X16_growUnique_200 K hQ hX hK29 _ _ _ _ _ _ _ _ _ g1 g2 g5 g7 g12 h hGσ hS _ _ _ hH (lv_sub (l' := [(0, .ref rm), (1, .int (i32 v1)), (2, .int (i32 v2)), (3, .long v3), (5, .int (i32 v5)), (7, .int (i32 v7)), (8, .long v8), (10, .long v10), (12, .int (i32 v12))]) hl [0, 1, 2, 3, 4, 5, 6, 7, 8] rfl) hc
set_option maxRecDepth 20000 in
theorem a_X16_growUnique_165 {Q : Sg → Unit → Prop} {X : Sg → String → Prop} (K : MC R p s m args c cX16_growUnique 14 RX16 D cA tys A n0 s0 3 79 []) (hQ : HQV p l e R s m args below meth c cX16_growUnique D cA A n0 s0 QM dm ra jx rm Q) (hX : HX p l e R s m args below meth c 14 D cA A n0 s0 QM dm ra jx rm X) {K29 : Sg → Int → Int → Int64 → Int → Int → Prop} (hK29 : ∀ (σ : Sg) (v1 : Int) (v2 : Int) (v3 : Int64) (v5 : Int) (v6 : Int) (g1 : rng v1) (g2 : rng v2) (g5 : rng v5) (g6 : rng v6), K29 σ v1 v2 v3 v5 v6 → RG σ → Shp dm ra jx rm σ → JJ p l e R s m args below meth c 14 D cA A n0 s0 QM σ 29 [(0, .ref rm), (1, .int (i32 v1)), (2, .int (i32 v2)), (3, .long v3), (5, .int (i32 v5)), (6, .int (i32 v6))] []) : ∀ (σ : Sg) (v1 : Int) (v2 : Int) (v3 : Int64) (v5 : Int) (v6 : Int) (v7 : Int) (v8 : Int64) (v10 : Int64) (v12 : Int) (g1 : rng v1) (g2 : rng v2) (g5 : rng v5) (g6 : rng v6) (g7 : rng v7) (g12 : rng v12), w_X16_growUnique_165 ra jx rm K29 Q X σ v1 v2 v3 v5 v6 v7 v8 v10 v12 → RG σ → Shp dm ra jx rm σ → JJ p l e R s m args below meth c 14 D cA A n0 s0 QM σ 165 [(0, .ref rm), (1, .int (i32 v1)), (2, .int (i32 v2)), (3, .long v3), (5, .int (i32 v5)), (6, .int (i32 v6)), (7, .int (i32 v7)), (8, .long v8), (10, .long v10), (12, .int (i32 v12))] [] := by
  intro σ v1 v2 v3 v5 v6 v7 v8 v10 v12 g1 g2 g5 g6 g7 g12 h hGσ hS H locs ls hH hl hc
  have B := K.1
  unfold w_X16_growUnique_165 at h
  refine lv_aload_n B.1 B.2.1 dX16_growUnique_165 rfl (lv_at hl 0 rfl) ?_
  refine lv_iload B.1 B.2.1 dX16_growUnique_166 (lv_at hl 5 rfl) ?_
  refine c_V B hH hl hc K.2.2.1 (C := RX16) (T := TX16) (N := 123) (ci := 16) (As := [.int (i32 v6)]) (ok_X16_drop K.2.1 σ v6 g6 hGσ hS h) wc_X16_607 1 hd_X16_drop ⟨Nat.le_trans (Nat.le_of_ble_eq_true rfl) K.2.2.2.1, Nat.le_trans (Nat.le_of_ble_eq_true rfl) K.2.2.2.2.1⟩ hS.1.1 hS.1.2 (by decide) rfl rfl (rest := []) rfl (Nat.le_of_ble_eq_true rfl) dX16_growUnique_168 (fun σ40 w hq => ?_) (fun σ9 E9 hx9 => hX σ9 E9 _ _ _ (tb_out K.2.2.2.2.2 rfl) hx9.1 hx9.2.1 hx9.2.2)
  obtain ⟨rfl, h, hGσ40, hS⟩ := hq
  intro H locs ls hH hl hc
  refine W.eq (g2 := F0 m 171 ls []) (rfl) ?_
  try dsimp only at h
  refine lv_iload B.1 B.2.1 dX16_growUnique_171 (lv_at hl 6 rfl) ?_
  refine lv_iconst (v := i32 (-1)) B.1 B.2.1 dX16_growUnique_173 (by decide) ?_
  refine lv_icmp_eq (tgt := 200) B.1 B.2.1 dX16_growUnique_174 (by decide) (fun h9 => ?_) (fun h9 => ?_)
  · rw [if_pos ((i32_eq g7 (by unfold rng; omega)).mp h9)] at h
    exact a_X16_growUnique_200 K hQ hX hK29 _ _ _ _ _ _ _ _ _ g1 g2 g5 g7 g12 h hGσ40 hS _ _ _ hH (lv_sub (l' := [(0, .ref rm), (1, .int (i32 v1)), (2, .int (i32 v2)), (3, .long v3), (5, .int (i32 v5)), (7, .int (i32 v7)), (8, .long v8), (10, .long v10), (12, .int (i32 v12))]) hl [0, 1, 2, 3, 4, 6, 7, 8, 9] rfl) hc
  · rw [if_neg (fun q => h9 ((i32_eq g7 (by unfold rng; omega)).mpr q))] at h
    exact a_X16_growUnique_177 K hQ hX hK29 _ _ _ _ _ _ _ _ _ g1 g2 g5 g7 g12 h hGσ40 hS _ _ _ hH (lv_sub (l' := [(0, .ref rm), (1, .int (i32 v1)), (2, .int (i32 v2)), (3, .long v3), (5, .int (i32 v5)), (7, .int (i32 v7)), (8, .long v8), (10, .long v10), (12, .int (i32 v12))]) hl [0, 1, 2, 3, 4, 6, 7, 8, 9] rfl) hc
set_option maxRecDepth 20000 in
theorem a_X16_growUnique_139 {Q : Sg → Unit → Prop} {X : Sg → String → Prop} (K : MC R p s m args c cX16_growUnique 14 RX16 D cA tys A n0 s0 3 79 []) (hQ : HQV p l e R s m args below meth c cX16_growUnique D cA A n0 s0 QM dm ra jx rm Q) (hX : HX p l e R s m args below meth c 14 D cA A n0 s0 QM dm ra jx rm X) {K29 : Sg → Int → Int → Int64 → Int → Int → Prop} (hK29 : ∀ (σ : Sg) (v1 : Int) (v2 : Int) (v3 : Int64) (v5 : Int) (v6 : Int) (g1 : rng v1) (g2 : rng v2) (g5 : rng v5) (g6 : rng v6), K29 σ v1 v2 v3 v5 v6 → RG σ → Shp dm ra jx rm σ → JJ p l e R s m args below meth c 14 D cA A n0 s0 QM σ 29 [(0, .ref rm), (1, .int (i32 v1)), (2, .int (i32 v2)), (3, .long v3), (5, .int (i32 v5)), (6, .int (i32 v6))] []) {K132 : Sg → Int → Int → Int64 → Int → Int → Int → Int64 → Int64 → Int → Int → Prop} (hK132 : ∀ (σ : Sg) (v1 : Int) (v2 : Int) (v3 : Int64) (v5 : Int) (v6 : Int) (v7 : Int) (v8 : Int64) (v10 : Int64) (v12 : Int) (v13 : Int) (g1 : rng v1) (g2 : rng v2) (g5 : rng v5) (g6 : rng v6) (g7 : rng v7) (g12 : rng v12) (g13 : rng v13), K132 σ v1 v2 v3 v5 v6 v7 v8 v10 v12 v13 → RG σ → Shp dm ra jx rm σ → JJ p l e R s m args below meth c 14 D cA A n0 s0 QM σ 132 [(0, .ref rm), (1, .int (i32 v1)), (2, .int (i32 v2)), (3, .long v3), (5, .int (i32 v5)), (6, .int (i32 v6)), (7, .int (i32 v7)), (8, .long v8), (10, .long v10), (12, .int (i32 v12)), (13, .int (i32 v13))] []) : ∀ (σ : Sg) (v1 : Int) (v2 : Int) (v3 : Int64) (v5 : Int) (v6 : Int) (v7 : Int) (v8 : Int64) (v10 : Int64) (v12 : Int) (v13 : Int) (g1 : rng v1) (g2 : rng v2) (g5 : rng v5) (g6 : rng v6) (g7 : rng v7) (g12 : rng v12) (g13 : rng v13), w_X16_growUnique_139 ra jx rm K29 K132 Q X σ v1 v2 v3 v5 v6 v7 v8 v10 v12 v13 → RG σ → Shp dm ra jx rm σ → JJ p l e R s m args below meth c 14 D cA A n0 s0 QM σ 139 [(0, .ref rm), (1, .int (i32 v1)), (2, .int (i32 v2)), (3, .long v3), (5, .int (i32 v5)), (6, .int (i32 v6)), (7, .int (i32 v7)), (8, .long v8), (10, .long v10), (12, .int (i32 v12)), (13, .int (i32 v13))] [] := by
  intro σ v1 v2 v3 v5 v6 v7 v8 v10 v12 v13 g1 g2 g5 g6 g7 g12 g13 h hGσ hS H locs ls hH hl hc
  have B := K.1
  unfold w_X16_growUnique_139 at h
  refine lv_aload_n B.1 B.2.1 dX16_growUnique_139 rfl (lv_at hl 0 rfl) ?_
  refine r_arr B hH hS 82 (kd := 101) (n := 16) (by decide) (by decide) wf_X16_578 rfl rfl dX16_growUnique_140 ?_
  refine lv_iload B.1 B.2.1 dX16_growUnique_143 (lv_at hl 10 rfl) ?_
  refine lv_aload_n B.1 B.2.1 dX16_growUnique_145 rfl (lv_at hl 0 rfl) ?_
  refine r_arr B hH hS 73 (kd := 101) (n := 32000) (by decide) (by decide) wf_X16_528 rfl rfl dX16_growUnique_146 ?_
  refine lv_bipush (v := i32 8) B.1 B.2.1 dX16_growUnique_149 (by decide) ?_
  refine lv_iload B.1 B.2.1 dX16_growUnique_151 (lv_at hl 5 rfl) ?_
  obtain ⟨q1, h⟩ := h
  refine lv_imul B.1 B.2.1 dX16_growUnique_153 ?_
  rw [i32_mul]
  refine lv_iload B.1 B.2.1 dX16_growUnique_154 (lv_at hl 10 rfl) ?_
  obtain ⟨q2, h⟩ := h
  refine lv_iadd B.1 B.2.1 dX16_growUnique_156 ?_
  rw [i32_add]
  obtain ⟨q3, h⟩ := h
  refine x_lald B K.2.1 hH (hS.ar (k := 73) (kd := 101) (n := 32000) (by decide)) (by decide) q3 dX16_growUnique_157 ?_
  obtain ⟨q4, h⟩ := h
  obtain ⟨σ41, eσ41⟩ : ∃ z, z = pJ σ (ra 82) v13.toNat (gJ σ (ra 73) ((8 * v6) + v13).toNat) := ⟨_, rfl⟩
  have h := h σ41 eσ41
  refine x_last B K.2.1 hH (hS.ar (k := 82) (kd := 101) (n := 16) (by decide)) (by decide) q4 dX16_growUnique_158 (fun H locs hH => ?_)
  have hH : Hd D cA A s (pJ σ (ra 82) v13.toNat (gJ σ (ra 73) ((8 * v6) + v13).toNat)) H locs := hH
  rw [← eσ41] at hH
  have hGσ41 : RG σ41 := by rw [eσ41]; exact hGσ.pJ
  have hS : Shp dm ra jx rm σ41 := by rw [eσ41]; exact hS
  have hc : CB n0 s0 σ41 := by rw [eσ41]; exact hc
  rw [show gc σ = gc σ41 by rw [eσ41], show gs σ = gs σ41 by rw [eσ41]]
  obtain ⟨q6, h⟩ := h
  refine lv_iinc (k := 10) (v := i32 (v13 + 1)) (lv' := [(13, .int (i32 (v13 + 1))), (0, .ref rm), (1, .int (i32 v1)), (2, .int (i32 v2)), (3, .long v3), (5, .int (i32 v5)), (6, .int (i32 v6)), (7, .int (i32 v7)), (8, .long v8), (10, .long v10), (12, .int (i32 v12))]) B.1 B.2.1 dX16_growUnique_159 hl rfl (i32_add _ _) (by decide) rfl (fun ls hl => ?_)
  refine lv_goto (tgt := 132) B.1 B.2.1 dX16_growUnique_162 (by decide) ?_
  exact hK132 _ _ _ _ _ _ _ _ _ _ _ g1 g2 g5 g6 g7 g12 q6 h hGσ41 hS _ _ _ hH (lv_sub (l' := [(0, .ref rm), (1, .int (i32 v1)), (2, .int (i32 v2)), (3, .long v3), (5, .int (i32 v5)), (6, .int (i32 v6)), (7, .int (i32 v7)), (8, .long v8), (10, .long v10), (12, .int (i32 v12)), (13, .int (i32 (v13 + 1)))]) hl [1, 2, 3, 4, 5, 6, 7, 8, 9, 10, 0] rfl) hc
set_option maxRecDepth 20000 in
theorem a_X16_growUnique_132 {Q : Sg → Unit → Prop} {X : Sg → String → Prop} (K : MC R p s m args c cX16_growUnique 14 RX16 D cA tys A n0 s0 3 79 []) (hQ : HQV p l e R s m args below meth c cX16_growUnique D cA A n0 s0 QM dm ra jx rm Q) (hX : HX p l e R s m args below meth c 14 D cA A n0 s0 QM dm ra jx rm X) {K29 : Sg → Int → Int → Int64 → Int → Int → Prop} (hK29 : ∀ (σ : Sg) (v1 : Int) (v2 : Int) (v3 : Int64) (v5 : Int) (v6 : Int) (g1 : rng v1) (g2 : rng v2) (g5 : rng v5) (g6 : rng v6), K29 σ v1 v2 v3 v5 v6 → RG σ → Shp dm ra jx rm σ → JJ p l e R s m args below meth c 14 D cA A n0 s0 QM σ 29 [(0, .ref rm), (1, .int (i32 v1)), (2, .int (i32 v2)), (3, .long v3), (5, .int (i32 v5)), (6, .int (i32 v6))] []) {K132 : Sg → Int → Int → Int64 → Int → Int → Int → Int64 → Int64 → Int → Int → Prop} (hK132 : ∀ (σ : Sg) (v1 : Int) (v2 : Int) (v3 : Int64) (v5 : Int) (v6 : Int) (v7 : Int) (v8 : Int64) (v10 : Int64) (v12 : Int) (v13 : Int) (g1 : rng v1) (g2 : rng v2) (g5 : rng v5) (g6 : rng v6) (g7 : rng v7) (g12 : rng v12) (g13 : rng v13), K132 σ v1 v2 v3 v5 v6 v7 v8 v10 v12 v13 → RG σ → Shp dm ra jx rm σ → JJ p l e R s m args below meth c 14 D cA A n0 s0 QM σ 132 [(0, .ref rm), (1, .int (i32 v1)), (2, .int (i32 v2)), (3, .long v3), (5, .int (i32 v5)), (6, .int (i32 v6)), (7, .int (i32 v7)), (8, .long v8), (10, .long v10), (12, .int (i32 v12)), (13, .int (i32 v13))] []) : ∀ (σ : Sg) (v1 : Int) (v2 : Int) (v3 : Int64) (v5 : Int) (v6 : Int) (v7 : Int) (v8 : Int64) (v10 : Int64) (v12 : Int) (v13 : Int) (g1 : rng v1) (g2 : rng v2) (g5 : rng v5) (g6 : rng v6) (g7 : rng v7) (g12 : rng v12) (g13 : rng v13), w_X16_growUnique_132 ra jx rm K29 K132 Q X σ v1 v2 v3 v5 v6 v7 v8 v10 v12 v13 → RG σ → Shp dm ra jx rm σ → JJ p l e R s m args below meth c 14 D cA A n0 s0 QM σ 132 [(0, .ref rm), (1, .int (i32 v1)), (2, .int (i32 v2)), (3, .long v3), (5, .int (i32 v5)), (6, .int (i32 v6)), (7, .int (i32 v7)), (8, .long v8), (10, .long v10), (12, .int (i32 v12)), (13, .int (i32 v13))] [] := by
  intro σ v1 v2 v3 v5 v6 v7 v8 v10 v12 v13 g1 g2 g5 g6 g7 g12 g13 h hGσ hS H locs ls hH hl hc
  have B := K.1
  unfold w_X16_growUnique_132 at h
  refine lv_iload B.1 B.2.1 dX16_growUnique_132 (lv_at hl 10 rfl) ?_
  refine lv_bipush (v := i32 8) B.1 B.2.1 dX16_growUnique_134 (by decide) ?_
  refine lv_icmp_ge (tgt := 165) B.1 B.2.1 dX16_growUnique_136 (by decide) (fun h9 => ?_) (fun h9 => ?_)
  · rw [if_pos ((i32_le (by unfold rng; omega) g13).mp h9)] at h
    exact a_X16_growUnique_165 K hQ hX hK29 _ _ _ _ _ _ _ _ _ _ g1 g2 g5 g6 g7 g12 h hGσ hS _ _ _ hH (lv_sub (l' := [(0, .ref rm), (1, .int (i32 v1)), (2, .int (i32 v2)), (3, .long v3), (5, .int (i32 v5)), (6, .int (i32 v6)), (7, .int (i32 v7)), (8, .long v8), (10, .long v10), (12, .int (i32 v12))]) hl [0, 1, 2, 3, 4, 5, 6, 7, 8, 9] rfl) hc
  · rw [if_neg (fun q => h9 ((i32_le (by unfold rng; omega) g13).mpr q))] at h
    exact a_X16_growUnique_139 K hQ hX hK29 hK132 _ _ _ _ _ _ _ _ _ _ _ g1 g2 g5 g6 g7 g12 g13 h hGσ hS _ _ _ hH (lv_sub (l' := [(0, .ref rm), (1, .int (i32 v1)), (2, .int (i32 v2)), (3, .long v3), (5, .int (i32 v5)), (6, .int (i32 v6)), (7, .int (i32 v7)), (8, .long v8), (10, .long v10), (12, .int (i32 v12)), (13, .int (i32 v13))]) hl [0, 1, 2, 3, 4, 5, 6, 7, 8, 9, 10] rfl) hc
theorem al_X16_growUnique_132 {Q : Sg → Unit → Prop} {X : Sg → String → Prop} (K : MC R p s m args c cX16_growUnique 14 RX16 D cA tys A n0 s0 3 79 []) (hQ : HQV p l e R s m args below meth c cX16_growUnique D cA A n0 s0 QM dm ra jx rm Q) (hX : HX p l e R s m args below meth c 14 D cA A n0 s0 QM dm ra jx rm X) {K29 : Sg → Int → Int → Int64 → Int → Int → Prop} (hK29 : ∀ (σ : Sg) (v1 : Int) (v2 : Int) (v3 : Int64) (v5 : Int) (v6 : Int) (g1 : rng v1) (g2 : rng v2) (g5 : rng v5) (g6 : rng v6), K29 σ v1 v2 v3 v5 v6 → RG σ → Shp dm ra jx rm σ → JJ p l e R s m args below meth c 14 D cA A n0 s0 QM σ 29 [(0, .ref rm), (1, .int (i32 v1)), (2, .int (i32 v2)), (3, .long v3), (5, .int (i32 v5)), (6, .int (i32 v6))] []) : ∀ (n : Nat), ∀ (σ : Sg) (v1 : Int) (v2 : Int) (v3 : Int64) (v5 : Int) (v6 : Int) (v7 : Int) (v8 : Int64) (v10 : Int64) (v12 : Int) (v13 : Int) (g1 : rng v1) (g2 : rng v2) (g5 : rng v5) (g6 : rng v6) (g7 : rng v7) (g12 : rng v12) (g13 : rng v13), wl_X16_growUnique_132 ra jx rm K29 Q X n σ v1 v2 v3 v5 v6 v7 v8 v10 v12 v13 → RG σ → Shp dm ra jx rm σ → JJ p l e R s m args below meth c 14 D cA A n0 s0 QM σ 132 [(0, .ref rm), (1, .int (i32 v1)), (2, .int (i32 v2)), (3, .long v3), (5, .int (i32 v5)), (6, .int (i32 v6)), (7, .int (i32 v7)), (8, .long v8), (10, .long v10), (12, .int (i32 v12)), (13, .int (i32 v13))] [] := by
  intro n
  induction n with
  | zero => intro σ v1 v2 v3 v5 v6 v7 v8 v10 v12 v13 g1 g2 g5 g6 g7 g12 g13 h; exact h.elim
  | succ n ih => exact fun σ v1 v2 v3 v5 v6 v7 v8 v10 v12 v13 g1 g2 g5 g6 g7 g12 g13 h => a_X16_growUnique_132 K hQ hX hK29 ih σ v1 v2 v3 v5 v6 v7 v8 v10 v12 v13 g1 g2 g5 g6 g7 g12 g13 h
set_option maxRecDepth 20000 in
theorem a_X16_growUnique_102 {Q : Sg → Unit → Prop} {X : Sg → String → Prop} (K : MC R p s m args c cX16_growUnique 14 RX16 D cA tys A n0 s0 3 79 []) (hQ : HQV p l e R s m args below meth c cX16_growUnique D cA A n0 s0 QM dm ra jx rm Q) (hX : HX p l e R s m args below meth c 14 D cA A n0 s0 QM dm ra jx rm X) {K29 : Sg → Int → Int → Int64 → Int → Int → Prop} (hK29 : ∀ (σ : Sg) (v1 : Int) (v2 : Int) (v3 : Int64) (v5 : Int) (v6 : Int) (g1 : rng v1) (g2 : rng v2) (g5 : rng v5) (g6 : rng v6), K29 σ v1 v2 v3 v5 v6 → RG σ → Shp dm ra jx rm σ → JJ p l e R s m args below meth c 14 D cA A n0 s0 QM σ 29 [(0, .ref rm), (1, .int (i32 v1)), (2, .int (i32 v2)), (3, .long v3), (5, .int (i32 v5)), (6, .int (i32 v6))] []) : ∀ (σ : Sg) (v1 : Int) (v2 : Int) (v3 : Int64) (v5 : Int) (v6 : Int) (v7 : Int) (g1 : rng v1) (g2 : rng v2) (g5 : rng v5) (g6 : rng v6) (g7 : rng v7), w_X16_growUnique_102 ra jx rm K29 Q X σ v1 v2 v3 v5 v6 v7 → RG σ → Shp dm ra jx rm σ → JJ p l e R s m args below meth c 14 D cA A n0 s0 QM σ 102 [(0, .ref rm), (1, .int (i32 v1)), (2, .int (i32 v2)), (3, .long v3), (5, .int (i32 v5)), (6, .int (i32 v6)), (7, .int (i32 v7))] [] := by
  intro σ v1 v2 v3 v5 v6 v7 g1 g2 g5 g6 g7 h hGσ hS H locs ls hH hl hc
  have B := K.1
  unfold w_X16_growUnique_102 at h
  refine lv_aload_n B.1 B.2.1 dX16_growUnique_102 rfl (lv_at hl 0 rfl) ?_
  refine r_arr B hH hS 70 (kd := 101) (n := 4000) (by decide) (by decide) wf_X16_519 rfl rfl dX16_growUnique_103 ?_
  refine lv_iload B.1 B.2.1 dX16_growUnique_106 (lv_at hl 5 rfl) ?_
  obtain ⟨q1, h⟩ := h
  refine x_lald B K.2.1 hH (hS.ar (k := 70) (kd := 101) (n := 4000) (by decide)) (by decide) q1 dX16_growUnique_108 ?_
  refine lv_lstore (lv' := [(8, .long (gJ σ (ra 70) v6.toNat)), (0, .ref rm), (1, .int (i32 v1)), (2, .int (i32 v2)), (3, .long v3), (5, .int (i32 v5)), (6, .int (i32 v6)), (7, .int (i32 v7))]) B.1 B.2.1 dX16_growUnique_109 hl (by decide) rfl (fun ls hl => ?_)
  refine lv_aload_n B.1 B.2.1 dX16_growUnique_111 rfl (lv_at hl 1 rfl) ?_
  refine r_arr B hH hS 71 (kd := 101) (n := 4000) (by decide) (by decide) wf_X16_522 rfl rfl dX16_growUnique_112 ?_
  refine lv_iload B.1 B.2.1 dX16_growUnique_115 (lv_at hl 6 rfl) ?_
  obtain ⟨q2, h⟩ := h
  refine x_lald B K.2.1 hH (hS.ar (k := 71) (kd := 101) (n := 4000) (by decide)) (by decide) q2 dX16_growUnique_117 ?_
  refine lv_lstore (lv' := [(10, .long (gJ σ (ra 71) v6.toNat)), (8, .long (gJ σ (ra 70) v6.toNat)), (0, .ref rm), (1, .int (i32 v1)), (2, .int (i32 v2)), (3, .long v3), (5, .int (i32 v5)), (6, .int (i32 v6)), (7, .int (i32 v7))]) B.1 B.2.1 dX16_growUnique_118 hl (by decide) rfl (fun ls hl => ?_)
  refine lv_aload_n B.1 B.2.1 dX16_growUnique_120 rfl (lv_at hl 2 rfl) ?_
  refine r_arr B hH hS 74 (kd := 100) (n := 4000) (by decide) (by decide) wf_X16_531 rfl rfl dX16_growUnique_121 ?_
  refine lv_iload B.1 B.2.1 dX16_growUnique_124 (lv_at hl 7 rfl) ?_
  obtain ⟨q3, h⟩ := h
  refine x_iald B K.2.1 hH (hS.ar (k := 74) (kd := 100) (n := 4000) (by decide)) (by decide) q3 dX16_growUnique_126 ?_
  refine lv_istore (lv' := [(12, .int (i32 (gI σ (ra 74) v6.toNat))), (10, .long (gJ σ (ra 71) v6.toNat)), (8, .long (gJ σ (ra 70) v6.toNat)), (0, .ref rm), (1, .int (i32 v1)), (2, .int (i32 v2)), (3, .long v3), (5, .int (i32 v5)), (6, .int (i32 v6)), (7, .int (i32 v7))]) B.1 B.2.1 dX16_growUnique_127 hl (by decide) rfl (fun ls hl => ?_)
  refine lv_iconst (v := i32 0) B.1 B.2.1 dX16_growUnique_129 (by decide) ?_
  refine lv_istore (lv' := [(13, .int (i32 0)), (12, .int (i32 (gI σ (ra 74) v6.toNat))), (10, .long (gJ σ (ra 71) v6.toNat)), (8, .long (gJ σ (ra 70) v6.toNat)), (0, .ref rm), (1, .int (i32 v1)), (2, .int (i32 v2)), (3, .long v3), (5, .int (i32 v5)), (6, .int (i32 v6)), (7, .int (i32 v7))]) B.1 B.2.1 dX16_growUnique_130 hl (by decide) rfl (fun ls hl => ?_)
  obtain ⟨n9, h⟩ := h
  exact al_X16_growUnique_132 K hQ hX hK29 n9 _ _ _ _ _ _ _ _ _ _ _ g1 g2 g5 g6 g7 (hGσ _ _) (by unfold rng; omega) h hGσ hS _ _ _ hH (lv_sub (l' := [(0, .ref rm), (1, .int (i32 v1)), (2, .int (i32 v2)), (3, .long v3), (5, .int (i32 v5)), (6, .int (i32 v6)), (7, .int (i32 v7)), (8, .long (gJ σ (ra 70) v6.toNat)), (10, .long (gJ σ (ra 71) v6.toNat)), (12, .int (i32 (gI σ (ra 74) v6.toNat))), (13, .int (i32 0))]) hl [4, 5, 6, 7, 8, 9, 10, 3, 2, 1, 0] rfl) hc
set_option maxRecDepth 20000 in
theorem a_X16_growUnique_88 {Q : Sg → Unit → Prop} {X : Sg → String → Prop} (K : MC R p s m args c cX16_growUnique 14 RX16 D cA tys A n0 s0 3 79 []) (hQ : HQV p l e R s m args below meth c cX16_growUnique D cA A n0 s0 QM dm ra jx rm Q) (hX : HX p l e R s m args below meth c 14 D cA A n0 s0 QM dm ra jx rm X) {K29 : Sg → Int → Int → Int64 → Int → Int → Prop} (hK29 : ∀ (σ : Sg) (v1 : Int) (v2 : Int) (v3 : Int64) (v5 : Int) (v6 : Int) (g1 : rng v1) (g2 : rng v2) (g5 : rng v5) (g6 : rng v6), K29 σ v1 v2 v3 v5 v6 → RG σ → Shp dm ra jx rm σ → JJ p l e R s m args below meth c 14 D cA A n0 s0 QM σ 29 [(0, .ref rm), (1, .int (i32 v1)), (2, .int (i32 v2)), (3, .long v3), (5, .int (i32 v5)), (6, .int (i32 v6))] []) {K46 : Sg → Int → Int → Int64 → Int → Int → Int → Int → Prop} (hK46 : ∀ (σ : Sg) (v1 : Int) (v2 : Int) (v3 : Int64) (v5 : Int) (v6 : Int) (v7 : Int) (v8 : Int) (g1 : rng v1) (g2 : rng v2) (g5 : rng v5) (g6 : rng v6) (g7 : rng v7) (g8 : rng v8), K46 σ v1 v2 v3 v5 v6 v7 v8 → RG σ → Shp dm ra jx rm σ → JJ p l e R s m args below meth c 14 D cA A n0 s0 QM σ 46 [(0, .ref rm), (1, .int (i32 v1)), (2, .int (i32 v2)), (3, .long v3), (5, .int (i32 v5)), (6, .int (i32 v6)), (7, .int (i32 v7)), (8, .int (i32 v8))] []) : ∀ (σ : Sg) (v1 : Int) (v2 : Int) (v3 : Int64) (v5 : Int) (v6 : Int) (v8 : Int) (u0 : Int) (g1 : rng v1) (g2 : rng v2) (g5 : rng v5) (g6 : rng v6) (g8 : rng v8) (gu0 : rng u0), w_X16_growUnique_88 ra jx rm K29 K46 Q X σ v1 v2 v3 v5 v6 v8 u0 → RG σ → Shp dm ra jx rm σ → JJ p l e R s m args below meth c 14 D cA A n0 s0 QM σ 88 [(0, .ref rm), (1, .int (i32 v1)), (2, .int (i32 v2)), (3, .long v3), (5, .int (i32 v5)), (6, .int (i32 v6)), (8, .int (i32 v8))] [.int (i32 u0)] := by
  intro σ v1 v2 v3 v5 v6 v8 u0 g1 g2 g5 g6 g8 gu0 h hGσ hS H locs ls hH hl hc
  have B := K.1
  unfold w_X16_growUnique_88 at h
  refine lv_istore (lv' := [(7, .int (i32 u0)), (0, .ref rm), (1, .int (i32 v1)), (2, .int (i32 v2)), (3, .long v3), (5, .int (i32 v5)), (6, .int (i32 v6)), (8, .int (i32 v8))]) B.1 B.2.1 dX16_growUnique_88 hl (by decide) rfl (fun ls hl => ?_)
  refine lv_aload_n B.1 B.2.1 dX16_growUnique_90 rfl (lv_at hl 1 rfl) ?_
  refine r_arr B hH hS 75 (kd := 100) (n := 4000) (by decide) (by decide) wf_X16_495 rfl rfl dX16_growUnique_91 ?_
  refine lv_iload B.1 B.2.1 dX16_growUnique_94 (lv_at hl 7 rfl) ?_
  obtain ⟨q1, h⟩ := h
  refine x_iald B K.2.1 hH (hS.ar (k := 75) (kd := 100) (n := 4000) (by decide)) (by decide) q1 dX16_growUnique_96 ?_
  refine lv_istore (lv' := [(8, .int (i32 (gI σ (ra 75) v8.toNat))), (7, .int (i32 u0)), (0, .ref rm), (1, .int (i32 v1)), (2, .int (i32 v2)), (3, .long v3), (5, .int (i32 v5)), (6, .int (i32 v6))]) B.1 B.2.1 dX16_growUnique_97 hl (by decide) rfl (fun ls hl => ?_)
  refine lv_goto (tgt := 46) B.1 B.2.1 dX16_growUnique_99 (by decide) ?_
  exact hK46 _ _ _ _ _ _ _ _ g1 g2 g5 g6 gu0 (hGσ _ _) h hGσ hS _ _ _ hH (lv_sub (l' := [(0, .ref rm), (1, .int (i32 v1)), (2, .int (i32 v2)), (3, .long v3), (5, .int (i32 v5)), (6, .int (i32 v6)), (7, .int (i32 u0)), (8, .int (i32 (gI σ (ra 75) v8.toNat)))]) hl [2, 3, 4, 5, 6, 7, 1, 0] rfl) hc
set_option maxRecDepth 20000 in
theorem a_X16_growUnique_86 {Q : Sg → Unit → Prop} {X : Sg → String → Prop} (K : MC R p s m args c cX16_growUnique 14 RX16 D cA tys A n0 s0 3 79 []) (hQ : HQV p l e R s m args below meth c cX16_growUnique D cA A n0 s0 QM dm ra jx rm Q) (hX : HX p l e R s m args below meth c 14 D cA A n0 s0 QM dm ra jx rm X) {K29 : Sg → Int → Int → Int64 → Int → Int → Prop} (hK29 : ∀ (σ : Sg) (v1 : Int) (v2 : Int) (v3 : Int64) (v5 : Int) (v6 : Int) (g1 : rng v1) (g2 : rng v2) (g5 : rng v5) (g6 : rng v6), K29 σ v1 v2 v3 v5 v6 → RG σ → Shp dm ra jx rm σ → JJ p l e R s m args below meth c 14 D cA A n0 s0 QM σ 29 [(0, .ref rm), (1, .int (i32 v1)), (2, .int (i32 v2)), (3, .long v3), (5, .int (i32 v5)), (6, .int (i32 v6))] []) {K46 : Sg → Int → Int → Int64 → Int → Int → Int → Int → Prop} (hK46 : ∀ (σ : Sg) (v1 : Int) (v2 : Int) (v3 : Int64) (v5 : Int) (v6 : Int) (v7 : Int) (v8 : Int) (g1 : rng v1) (g2 : rng v2) (g5 : rng v5) (g6 : rng v6) (g7 : rng v7) (g8 : rng v8), K46 σ v1 v2 v3 v5 v6 v7 v8 → RG σ → Shp dm ra jx rm σ → JJ p l e R s m args below meth c 14 D cA A n0 s0 QM σ 46 [(0, .ref rm), (1, .int (i32 v1)), (2, .int (i32 v2)), (3, .long v3), (5, .int (i32 v5)), (6, .int (i32 v6)), (7, .int (i32 v7)), (8, .int (i32 v8))] []) : ∀ (σ : Sg) (v1 : Int) (v2 : Int) (v3 : Int64) (v5 : Int) (v6 : Int) (v7 : Int) (v8 : Int) (g1 : rng v1) (g2 : rng v2) (g5 : rng v5) (g6 : rng v6) (g7 : rng v7) (g8 : rng v8), w_X16_growUnique_86 ra jx rm K29 K46 Q X σ v1 v2 v3 v5 v6 v7 v8 → RG σ → Shp dm ra jx rm σ → JJ p l e R s m args below meth c 14 D cA A n0 s0 QM σ 86 [(0, .ref rm), (1, .int (i32 v1)), (2, .int (i32 v2)), (3, .long v3), (5, .int (i32 v5)), (6, .int (i32 v6)), (7, .int (i32 v7)), (8, .int (i32 v8))] [] := by
  intro σ v1 v2 v3 v5 v6 v7 v8 g1 g2 g5 g6 g7 g8 h hGσ hS H locs ls hH hl hc
  have B := K.1
  unfold w_X16_growUnique_86 at h
  refine lv_iload B.1 B.2.1 dX16_growUnique_86 (lv_at hl 6 rfl) ?_
  exact a_X16_growUnique_88 K hQ hX hK29 hK46 _ _ _ _ _ _ _ _ g1 g2 g5 g6 g8 g7 h hGσ hS _ _ _ hH (lv_sub (l' := [(0, .ref rm), (1, .int (i32 v1)), (2, .int (i32 v2)), (3, .long v3), (5, .int (i32 v5)), (6, .int (i32 v6)), (8, .int (i32 v8))]) hl [0, 1, 2, 3, 4, 5, 7] rfl) hc
set_option maxRecDepth 20000 in
theorem a_X16_growUnique_81 {Q : Sg → Unit → Prop} {X : Sg → String → Prop} (K : MC R p s m args c cX16_growUnique 14 RX16 D cA tys A n0 s0 3 79 []) (hQ : HQV p l e R s m args below meth c cX16_growUnique D cA A n0 s0 QM dm ra jx rm Q) (hX : HX p l e R s m args below meth c 14 D cA A n0 s0 QM dm ra jx rm X) {K29 : Sg → Int → Int → Int64 → Int → Int → Prop} (hK29 : ∀ (σ : Sg) (v1 : Int) (v2 : Int) (v3 : Int64) (v5 : Int) (v6 : Int) (g1 : rng v1) (g2 : rng v2) (g5 : rng v5) (g6 : rng v6), K29 σ v1 v2 v3 v5 v6 → RG σ → Shp dm ra jx rm σ → JJ p l e R s m args below meth c 14 D cA A n0 s0 QM σ 29 [(0, .ref rm), (1, .int (i32 v1)), (2, .int (i32 v2)), (3, .long v3), (5, .int (i32 v5)), (6, .int (i32 v6))] []) {K46 : Sg → Int → Int → Int64 → Int → Int → Int → Int → Prop} (hK46 : ∀ (σ : Sg) (v1 : Int) (v2 : Int) (v3 : Int64) (v5 : Int) (v6 : Int) (v7 : Int) (v8 : Int) (g1 : rng v1) (g2 : rng v2) (g5 : rng v5) (g6 : rng v6) (g7 : rng v7) (g8 : rng v8), K46 σ v1 v2 v3 v5 v6 v7 v8 → RG σ → Shp dm ra jx rm σ → JJ p l e R s m args below meth c 14 D cA A n0 s0 QM σ 46 [(0, .ref rm), (1, .int (i32 v1)), (2, .int (i32 v2)), (3, .long v3), (5, .int (i32 v5)), (6, .int (i32 v6)), (7, .int (i32 v7)), (8, .int (i32 v8))] []) : ∀ (σ : Sg) (v1 : Int) (v2 : Int) (v3 : Int64) (v5 : Int) (v6 : Int) (v8 : Int) (g1 : rng v1) (g2 : rng v2) (g5 : rng v5) (g6 : rng v6) (g8 : rng v8), w_X16_growUnique_81 ra jx rm K29 K46 Q X σ v1 v2 v3 v5 v6 v8 → RG σ → Shp dm ra jx rm σ → JJ p l e R s m args below meth c 14 D cA A n0 s0 QM σ 81 [(0, .ref rm), (1, .int (i32 v1)), (2, .int (i32 v2)), (3, .long v3), (5, .int (i32 v5)), (6, .int (i32 v6)), (8, .int (i32 v8))] [] := by
  intro σ v1 v2 v3 v5 v6 v8 g1 g2 g5 g6 g8 h hGσ hS H locs ls hH hl hc
  have B := K.1
  unfold w_X16_growUnique_81 at h
  refine lv_iload B.1 B.2.1 dX16_growUnique_81 (lv_at hl 6 rfl) ?_
  refine lv_goto (tgt := 88) B.1 B.2.1 dX16_growUnique_83 (by decide) ?_
  exact a_X16_growUnique_88 K hQ hX hK29 hK46 _ _ _ _ _ _ _ _ g1 g2 g5 g6 g8 g8 h hGσ hS _ _ _ hH (lv_sub (l' := [(0, .ref rm), (1, .int (i32 v1)), (2, .int (i32 v2)), (3, .long v3), (5, .int (i32 v5)), (6, .int (i32 v6)), (8, .int (i32 v8))]) hl [0, 1, 2, 3, 4, 5, 6] rfl) hc
set_option maxRecDepth 20000 in
theorem a_X16_growUnique_63 {Q : Sg → Unit → Prop} {X : Sg → String → Prop} (K : MC R p s m args c cX16_growUnique 14 RX16 D cA tys A n0 s0 3 79 []) (hQ : HQV p l e R s m args below meth c cX16_growUnique D cA A n0 s0 QM dm ra jx rm Q) (hX : HX p l e R s m args below meth c 14 D cA A n0 s0 QM dm ra jx rm X) {K29 : Sg → Int → Int → Int64 → Int → Int → Prop} (hK29 : ∀ (σ : Sg) (v1 : Int) (v2 : Int) (v3 : Int64) (v5 : Int) (v6 : Int) (g1 : rng v1) (g2 : rng v2) (g5 : rng v5) (g6 : rng v6), K29 σ v1 v2 v3 v5 v6 → RG σ → Shp dm ra jx rm σ → JJ p l e R s m args below meth c 14 D cA A n0 s0 QM σ 29 [(0, .ref rm), (1, .int (i32 v1)), (2, .int (i32 v2)), (3, .long v3), (5, .int (i32 v5)), (6, .int (i32 v6))] []) {K46 : Sg → Int → Int → Int64 → Int → Int → Int → Int → Prop} (hK46 : ∀ (σ : Sg) (v1 : Int) (v2 : Int) (v3 : Int64) (v5 : Int) (v6 : Int) (v7 : Int) (v8 : Int) (g1 : rng v1) (g2 : rng v2) (g5 : rng v5) (g6 : rng v6) (g7 : rng v7) (g8 : rng v8), K46 σ v1 v2 v3 v5 v6 v7 v8 → RG σ → Shp dm ra jx rm σ → JJ p l e R s m args below meth c 14 D cA A n0 s0 QM σ 46 [(0, .ref rm), (1, .int (i32 v1)), (2, .int (i32 v2)), (3, .long v3), (5, .int (i32 v5)), (6, .int (i32 v6)), (7, .int (i32 v7)), (8, .int (i32 v8))] []) : ∀ (σ : Sg) (v1 : Int) (v2 : Int) (v3 : Int64) (v5 : Int) (v6 : Int) (v7 : Int) (v8 : Int) (g1 : rng v1) (g2 : rng v2) (g5 : rng v5) (g6 : rng v6) (g7 : rng v7) (g8 : rng v8), w_X16_growUnique_63 ra jx rm K29 K46 Q X σ v1 v2 v3 v5 v6 v7 v8 → RG σ → Shp dm ra jx rm σ → JJ p l e R s m args below meth c 14 D cA A n0 s0 QM σ 63 [(0, .ref rm), (1, .int (i32 v1)), (2, .int (i32 v2)), (3, .long v3), (5, .int (i32 v5)), (6, .int (i32 v6)), (7, .int (i32 v7)), (8, .int (i32 v8))] [] := by
  intro σ v1 v2 v3 v5 v6 v7 v8 g1 g2 g5 g6 g7 g8 h hGσ hS H locs ls hH hl hc
  have B := K.1
  unfold w_X16_growUnique_63 at h
  refine lv_aload_n B.1 B.2.1 dX16_growUnique_63 rfl (lv_at hl 0 rfl) ?_
  refine r_arr B hH hS 70 (kd := 101) (n := 4000) (by decide) (by decide) wf_X16_519 rfl rfl dX16_growUnique_64 ?_
  refine lv_iload B.1 B.2.1 dX16_growUnique_67 (lv_at hl 7 rfl) ?_
  obtain ⟨q1, h⟩ := h
  refine x_lald B K.2.1 hH (hS.ar (k := 70) (kd := 101) (n := 4000) (by decide)) (by decide) q1 dX16_growUnique_69 ?_
  refine lv_aload_n B.1 B.2.1 dX16_growUnique_70 rfl (lv_at hl 0 rfl) ?_
  refine r_arr B hH hS 70 (kd := 101) (n := 4000) (by decide) (by decide) wf_X16_519 rfl rfl dX16_growUnique_71 ?_
  refine lv_iload B.1 B.2.1 dX16_growUnique_74 (lv_at hl 5 rfl) ?_
  obtain ⟨q2, h⟩ := h
  refine x_lald B K.2.1 hH (hS.ar (k := 70) (kd := 101) (n := 4000) (by decide)) (by decide) q2 dX16_growUnique_76 ?_
  refine W.lcmp B.1 B.2.1 dX16_growUnique_77 ?_
  refine lv_if_ne (tgt := 86) B.1 B.2.1 dX16_growUnique_78 (by decide) (fun h9 => ?_) (fun h9 => ?_)
  · rw [if_pos (fun q => h9 ((lg_cmp_eq _ _).mpr q))] at h
    exact a_X16_growUnique_86 K hQ hX hK29 hK46 _ _ _ _ _ _ _ _ g1 g2 g5 g6 g7 g8 h hGσ hS _ _ _ hH (lv_sub (l' := [(0, .ref rm), (1, .int (i32 v1)), (2, .int (i32 v2)), (3, .long v3), (5, .int (i32 v5)), (6, .int (i32 v6)), (7, .int (i32 v7)), (8, .int (i32 v8))]) hl [0, 1, 2, 3, 4, 5, 6, 7] rfl) hc
  · rw [if_neg (fun q => q ((lg_cmp_eq _ _).mp h9))] at h
    exact a_X16_growUnique_81 K hQ hX hK29 hK46 _ _ _ _ _ _ _ g1 g2 g5 g6 g8 h hGσ hS _ _ _ hH (lv_sub (l' := [(0, .ref rm), (1, .int (i32 v1)), (2, .int (i32 v2)), (3, .long v3), (5, .int (i32 v5)), (6, .int (i32 v6)), (8, .int (i32 v8))]) hl [0, 1, 2, 3, 4, 5, 7] rfl) hc
set_option maxRecDepth 20000 in
theorem a_X16_growUnique_52 {Q : Sg → Unit → Prop} {X : Sg → String → Prop} (K : MC R p s m args c cX16_growUnique 14 RX16 D cA tys A n0 s0 3 79 []) (hQ : HQV p l e R s m args below meth c cX16_growUnique D cA A n0 s0 QM dm ra jx rm Q) (hX : HX p l e R s m args below meth c 14 D cA A n0 s0 QM dm ra jx rm X) {K29 : Sg → Int → Int → Int64 → Int → Int → Prop} (hK29 : ∀ (σ : Sg) (v1 : Int) (v2 : Int) (v3 : Int64) (v5 : Int) (v6 : Int) (g1 : rng v1) (g2 : rng v2) (g5 : rng v5) (g6 : rng v6), K29 σ v1 v2 v3 v5 v6 → RG σ → Shp dm ra jx rm σ → JJ p l e R s m args below meth c 14 D cA A n0 s0 QM σ 29 [(0, .ref rm), (1, .int (i32 v1)), (2, .int (i32 v2)), (3, .long v3), (5, .int (i32 v5)), (6, .int (i32 v6))] []) {K46 : Sg → Int → Int → Int64 → Int → Int → Int → Int → Prop} (hK46 : ∀ (σ : Sg) (v1 : Int) (v2 : Int) (v3 : Int64) (v5 : Int) (v6 : Int) (v7 : Int) (v8 : Int) (g1 : rng v1) (g2 : rng v2) (g5 : rng v5) (g6 : rng v6) (g7 : rng v7) (g8 : rng v8), K46 σ v1 v2 v3 v5 v6 v7 v8 → RG σ → Shp dm ra jx rm σ → JJ p l e R s m args below meth c 14 D cA A n0 s0 QM σ 46 [(0, .ref rm), (1, .int (i32 v1)), (2, .int (i32 v2)), (3, .long v3), (5, .int (i32 v5)), (6, .int (i32 v6)), (7, .int (i32 v7)), (8, .int (i32 v8))] []) : ∀ (σ : Sg) (v1 : Int) (v2 : Int) (v3 : Int64) (v5 : Int) (v6 : Int) (v7 : Int) (v8 : Int) (g1 : rng v1) (g2 : rng v2) (g5 : rng v5) (g6 : rng v6) (g7 : rng v7) (g8 : rng v8), w_X16_growUnique_52 ra jx rm K29 K46 Q X σ v1 v2 v3 v5 v6 v7 v8 → RG σ → Shp dm ra jx rm σ → JJ p l e R s m args below meth c 14 D cA A n0 s0 QM σ 52 [(0, .ref rm), (1, .int (i32 v1)), (2, .int (i32 v2)), (3, .long v3), (5, .int (i32 v5)), (6, .int (i32 v6)), (7, .int (i32 v7)), (8, .int (i32 v8))] [] := by
  intro σ v1 v2 v3 v5 v6 v7 v8 g1 g2 g5 g6 g7 g8 h hGσ hS H locs ls hH hl hc
  have B := K.1
  unfold w_X16_growUnique_52 at h
  refine lv_aload_n B.1 B.2.1 dX16_growUnique_52 rfl (lv_at hl 0 rfl) ?_
  refine r_arr B hH hS 68 (kd := 100) (n := 4000) (by decide) (by decide) wf_X16_513 rfl rfl dX16_growUnique_53 ?_
  refine lv_iload B.1 B.2.1 dX16_growUnique_56 (lv_at hl 7 rfl) ?_
  obtain ⟨q1, h⟩ := h
  refine x_iald B K.2.1 hH (hS.ar (k := 68) (kd := 100) (n := 4000) (by decide)) (by decide) q1 dX16_growUnique_58 ?_
  refine lv_iconst (v := i32 2) B.1 B.2.1 dX16_growUnique_59 (by decide) ?_
  refine lv_icmp_ne (tgt := 86) B.1 B.2.1 dX16_growUnique_60 (by decide) (fun h9 => ?_) (fun h9 => ?_)
  · rw [if_pos (fun q => h9 ((i32_eq (hGσ _ _) (by unfold rng; omega)).mpr q))] at h
    exact a_X16_growUnique_86 K hQ hX hK29 hK46 _ _ _ _ _ _ _ _ g1 g2 g5 g6 g7 g8 h hGσ hS _ _ _ hH (lv_sub (l' := [(0, .ref rm), (1, .int (i32 v1)), (2, .int (i32 v2)), (3, .long v3), (5, .int (i32 v5)), (6, .int (i32 v6)), (7, .int (i32 v7)), (8, .int (i32 v8))]) hl [0, 1, 2, 3, 4, 5, 6, 7] rfl) hc
  · rw [if_neg (fun q => q ((i32_eq (hGσ _ _) (by unfold rng; omega)).mp h9))] at h
    exact a_X16_growUnique_63 K hQ hX hK29 hK46 _ _ _ _ _ _ _ _ g1 g2 g5 g6 g7 g8 h hGσ hS _ _ _ hH (lv_sub (l' := [(0, .ref rm), (1, .int (i32 v1)), (2, .int (i32 v2)), (3, .long v3), (5, .int (i32 v5)), (6, .int (i32 v6)), (7, .int (i32 v7)), (8, .int (i32 v8))]) hl [0, 1, 2, 3, 4, 5, 6, 7] rfl) hc
set_option maxRecDepth 20000 in
theorem a_X16_growUnique_46 {Q : Sg → Unit → Prop} {X : Sg → String → Prop} (K : MC R p s m args c cX16_growUnique 14 RX16 D cA tys A n0 s0 3 79 []) (hQ : HQV p l e R s m args below meth c cX16_growUnique D cA A n0 s0 QM dm ra jx rm Q) (hX : HX p l e R s m args below meth c 14 D cA A n0 s0 QM dm ra jx rm X) {K29 : Sg → Int → Int → Int64 → Int → Int → Prop} (hK29 : ∀ (σ : Sg) (v1 : Int) (v2 : Int) (v3 : Int64) (v5 : Int) (v6 : Int) (g1 : rng v1) (g2 : rng v2) (g5 : rng v5) (g6 : rng v6), K29 σ v1 v2 v3 v5 v6 → RG σ → Shp dm ra jx rm σ → JJ p l e R s m args below meth c 14 D cA A n0 s0 QM σ 29 [(0, .ref rm), (1, .int (i32 v1)), (2, .int (i32 v2)), (3, .long v3), (5, .int (i32 v5)), (6, .int (i32 v6))] []) {K46 : Sg → Int → Int → Int64 → Int → Int → Int → Int → Prop} (hK46 : ∀ (σ : Sg) (v1 : Int) (v2 : Int) (v3 : Int64) (v5 : Int) (v6 : Int) (v7 : Int) (v8 : Int) (g1 : rng v1) (g2 : rng v2) (g5 : rng v5) (g6 : rng v6) (g7 : rng v7) (g8 : rng v8), K46 σ v1 v2 v3 v5 v6 v7 v8 → RG σ → Shp dm ra jx rm σ → JJ p l e R s m args below meth c 14 D cA A n0 s0 QM σ 46 [(0, .ref rm), (1, .int (i32 v1)), (2, .int (i32 v2)), (3, .long v3), (5, .int (i32 v5)), (6, .int (i32 v6)), (7, .int (i32 v7)), (8, .int (i32 v8))] []) : ∀ (σ : Sg) (v1 : Int) (v2 : Int) (v3 : Int64) (v5 : Int) (v6 : Int) (v7 : Int) (v8 : Int) (g1 : rng v1) (g2 : rng v2) (g5 : rng v5) (g6 : rng v6) (g7 : rng v7) (g8 : rng v8), w_X16_growUnique_46 ra jx rm K29 K46 Q X σ v1 v2 v3 v5 v6 v7 v8 → RG σ → Shp dm ra jx rm σ → JJ p l e R s m args below meth c 14 D cA A n0 s0 QM σ 46 [(0, .ref rm), (1, .int (i32 v1)), (2, .int (i32 v2)), (3, .long v3), (5, .int (i32 v5)), (6, .int (i32 v6)), (7, .int (i32 v7)), (8, .int (i32 v8))] [] := by
  intro σ v1 v2 v3 v5 v6 v7 v8 g1 g2 g5 g6 g7 g8 h hGσ hS H locs ls hH hl hc
  have B := K.1
  unfold w_X16_growUnique_46 at h
  refine lv_iload B.1 B.2.1 dX16_growUnique_46 (lv_at hl 7 rfl) ?_
  refine lv_iconst (v := i32 (-1)) B.1 B.2.1 dX16_growUnique_48 (by decide) ?_
  refine lv_icmp_eq (tgt := 102) B.1 B.2.1 dX16_growUnique_49 (by decide) (fun h9 => ?_) (fun h9 => ?_)
  · rw [if_pos ((i32_eq g8 (by unfold rng; omega)).mp h9)] at h
    exact a_X16_growUnique_102 K hQ hX hK29 _ _ _ _ _ _ _ g1 g2 g5 g6 g7 h hGσ hS _ _ _ hH (lv_sub (l' := [(0, .ref rm), (1, .int (i32 v1)), (2, .int (i32 v2)), (3, .long v3), (5, .int (i32 v5)), (6, .int (i32 v6)), (7, .int (i32 v7))]) hl [0, 1, 2, 3, 4, 5, 6] rfl) hc
  · rw [if_neg (fun q => h9 ((i32_eq g8 (by unfold rng; omega)).mpr q))] at h
    exact a_X16_growUnique_52 K hQ hX hK29 hK46 _ _ _ _ _ _ _ _ g1 g2 g5 g6 g7 g8 h hGσ hS _ _ _ hH (lv_sub (l' := [(0, .ref rm), (1, .int (i32 v1)), (2, .int (i32 v2)), (3, .long v3), (5, .int (i32 v5)), (6, .int (i32 v6)), (7, .int (i32 v7)), (8, .int (i32 v8))]) hl [0, 1, 2, 3, 4, 5, 6, 7] rfl) hc
theorem al_X16_growUnique_46 {Q : Sg → Unit → Prop} {X : Sg → String → Prop} (K : MC R p s m args c cX16_growUnique 14 RX16 D cA tys A n0 s0 3 79 []) (hQ : HQV p l e R s m args below meth c cX16_growUnique D cA A n0 s0 QM dm ra jx rm Q) (hX : HX p l e R s m args below meth c 14 D cA A n0 s0 QM dm ra jx rm X) {K29 : Sg → Int → Int → Int64 → Int → Int → Prop} (hK29 : ∀ (σ : Sg) (v1 : Int) (v2 : Int) (v3 : Int64) (v5 : Int) (v6 : Int) (g1 : rng v1) (g2 : rng v2) (g5 : rng v5) (g6 : rng v6), K29 σ v1 v2 v3 v5 v6 → RG σ → Shp dm ra jx rm σ → JJ p l e R s m args below meth c 14 D cA A n0 s0 QM σ 29 [(0, .ref rm), (1, .int (i32 v1)), (2, .int (i32 v2)), (3, .long v3), (5, .int (i32 v5)), (6, .int (i32 v6))] []) : ∀ (n : Nat), ∀ (σ : Sg) (v1 : Int) (v2 : Int) (v3 : Int64) (v5 : Int) (v6 : Int) (v7 : Int) (v8 : Int) (g1 : rng v1) (g2 : rng v2) (g5 : rng v5) (g6 : rng v6) (g7 : rng v7) (g8 : rng v8), wl_X16_growUnique_46 ra jx rm K29 Q X n σ v1 v2 v3 v5 v6 v7 v8 → RG σ → Shp dm ra jx rm σ → JJ p l e R s m args below meth c 14 D cA A n0 s0 QM σ 46 [(0, .ref rm), (1, .int (i32 v1)), (2, .int (i32 v2)), (3, .long v3), (5, .int (i32 v5)), (6, .int (i32 v6)), (7, .int (i32 v7)), (8, .int (i32 v8))] [] := by
  intro n
  induction n with
  | zero => intro σ v1 v2 v3 v5 v6 v7 v8 g1 g2 g5 g6 g7 g8 h; exact h.elim
  | succ n ih => exact fun σ v1 v2 v3 v5 v6 v7 v8 g1 g2 g5 g6 g7 g8 h => a_X16_growUnique_46 K hQ hX hK29 ih σ v1 v2 v3 v5 v6 v7 v8 g1 g2 g5 g6 g7 g8 h
set_option maxRecDepth 20000 in
theorem a_X16_growUnique_35 {Q : Sg → Unit → Prop} {X : Sg → String → Prop} (K : MC R p s m args c cX16_growUnique 14 RX16 D cA tys A n0 s0 3 79 []) (hQ : HQV p l e R s m args below meth c cX16_growUnique D cA A n0 s0 QM dm ra jx rm Q) (hX : HX p l e R s m args below meth c 14 D cA A n0 s0 QM dm ra jx rm X) {K29 : Sg → Int → Int → Int64 → Int → Int → Prop} (hK29 : ∀ (σ : Sg) (v1 : Int) (v2 : Int) (v3 : Int64) (v5 : Int) (v6 : Int) (g1 : rng v1) (g2 : rng v2) (g5 : rng v5) (g6 : rng v6), K29 σ v1 v2 v3 v5 v6 → RG σ → Shp dm ra jx rm σ → JJ p l e R s m args below meth c 14 D cA A n0 s0 QM σ 29 [(0, .ref rm), (1, .int (i32 v1)), (2, .int (i32 v2)), (3, .long v3), (5, .int (i32 v5)), (6, .int (i32 v6))] []) : ∀ (σ : Sg) (v1 : Int) (v2 : Int) (v3 : Int64) (v5 : Int) (v6 : Int) (g1 : rng v1) (g2 : rng v2) (g5 : rng v5) (g6 : rng v6), w_X16_growUnique_35 ra jx rm K29 Q X σ v1 v2 v3 v5 v6 → RG σ → Shp dm ra jx rm σ → JJ p l e R s m args below meth c 14 D cA A n0 s0 QM σ 35 [(0, .ref rm), (1, .int (i32 v1)), (2, .int (i32 v2)), (3, .long v3), (5, .int (i32 v5)), (6, .int (i32 v6))] [] := by
  intro σ v1 v2 v3 v5 v6 g1 g2 g5 g6 h hGσ hS H locs ls hH hl hc
  have B := K.1
  unfold w_X16_growUnique_35 at h
  refine lv_iconst (v := i32 (-1)) B.1 B.2.1 dX16_growUnique_35 (by decide) ?_
  refine lv_istore (lv' := [(7, .int (i32 (-1))), (0, .ref rm), (1, .int (i32 v1)), (2, .int (i32 v2)), (3, .long v3), (5, .int (i32 v5)), (6, .int (i32 v6))]) B.1 B.2.1 dX16_growUnique_36 hl (by decide) rfl (fun ls hl => ?_)
  refine lv_aload_n B.1 B.2.1 dX16_growUnique_38 rfl (lv_at hl 1 rfl) ?_
  refine r_arr B hH hS 76 (kd := 100) (n := 64) (by decide) (by decide) wf_X16_504 rfl rfl dX16_growUnique_39 ?_
  refine lv_iload_n B.1 B.2.1 dX16_growUnique_42 rfl (lv_at hl 2 rfl) ?_
  obtain ⟨q1, h⟩ := h
  refine x_iald B K.2.1 hH (hS.ar (k := 76) (kd := 100) (n := 64) (by decide)) (by decide) q1 dX16_growUnique_43 ?_
  refine lv_istore (lv' := [(8, .int (i32 (gI σ (ra 76) v1.toNat))), (7, .int (i32 (-1))), (0, .ref rm), (1, .int (i32 v1)), (2, .int (i32 v2)), (3, .long v3), (5, .int (i32 v5)), (6, .int (i32 v6))]) B.1 B.2.1 dX16_growUnique_44 hl (by decide) rfl (fun ls hl => ?_)
  obtain ⟨n9, h⟩ := h
  exact al_X16_growUnique_46 K hQ hX hK29 n9 _ _ _ _ _ _ _ _ g1 g2 g5 g6 (by unfold rng; omega) (hGσ _ _) h hGσ hS _ _ _ hH (lv_sub (l' := [(0, .ref rm), (1, .int (i32 v1)), (2, .int (i32 v2)), (3, .long v3), (5, .int (i32 v5)), (6, .int (i32 v6)), (7, .int (i32 (-1))), (8, .int (i32 (gI σ (ra 76) v1.toNat)))]) hl [2, 3, 4, 5, 6, 7, 1, 0] rfl) hc
set_option maxRecDepth 20000 in
theorem a_X16_growUnique_29 {Q : Sg → Unit → Prop} {X : Sg → String → Prop} (K : MC R p s m args c cX16_growUnique 14 RX16 D cA tys A n0 s0 3 79 []) (hQ : HQV p l e R s m args below meth c cX16_growUnique D cA A n0 s0 QM dm ra jx rm Q) (hX : HX p l e R s m args below meth c 14 D cA A n0 s0 QM dm ra jx rm X) {K29 : Sg → Int → Int → Int64 → Int → Int → Prop} (hK29 : ∀ (σ : Sg) (v1 : Int) (v2 : Int) (v3 : Int64) (v5 : Int) (v6 : Int) (g1 : rng v1) (g2 : rng v2) (g5 : rng v5) (g6 : rng v6), K29 σ v1 v2 v3 v5 v6 → RG σ → Shp dm ra jx rm σ → JJ p l e R s m args below meth c 14 D cA A n0 s0 QM σ 29 [(0, .ref rm), (1, .int (i32 v1)), (2, .int (i32 v2)), (3, .long v3), (5, .int (i32 v5)), (6, .int (i32 v6))] []) : ∀ (σ : Sg) (v1 : Int) (v2 : Int) (v3 : Int64) (v5 : Int) (v6 : Int) (g1 : rng v1) (g2 : rng v2) (g5 : rng v5) (g6 : rng v6), w_X16_growUnique_29 ra jx rm K29 Q X σ v1 v2 v3 v5 v6 → RG σ → Shp dm ra jx rm σ → JJ p l e R s m args below meth c 14 D cA A n0 s0 QM σ 29 [(0, .ref rm), (1, .int (i32 v1)), (2, .int (i32 v2)), (3, .long v3), (5, .int (i32 v5)), (6, .int (i32 v6))] [] := by
  intro σ v1 v2 v3 v5 v6 g1 g2 g5 g6 h hGσ hS H locs ls hH hl hc
  have B := K.1
  unfold w_X16_growUnique_29 at h
  refine lv_iload B.1 B.2.1 dX16_growUnique_29 (lv_at hl 5 rfl) ?_
  refine lv_iconst (v := i32 (-1)) B.1 B.2.1 dX16_growUnique_31 (by decide) ?_
  refine lv_icmp_eq (tgt := 264) B.1 B.2.1 dX16_growUnique_32 (by decide) (fun h9 => ?_) (fun h9 => ?_)
  · rw [if_pos ((i32_eq g6 (by unfold rng; omega)).mp h9)] at h
    exact a_X16_growUnique_264 K hQ hX _ _ _ _ g1 g2 h hGσ hS _ _ _ hH (lv_sub (l' := [(0, .ref rm), (1, .int (i32 v1)), (2, .int (i32 v2)), (3, .long v3)]) hl [0, 1, 2, 3] rfl) hc
  · rw [if_neg (fun q => h9 ((i32_eq g6 (by unfold rng; omega)).mpr q))] at h
    exact a_X16_growUnique_35 K hQ hX hK29 _ _ _ _ _ _ g1 g2 g5 g6 h hGσ hS _ _ _ hH (lv_sub (l' := [(0, .ref rm), (1, .int (i32 v1)), (2, .int (i32 v2)), (3, .long v3), (5, .int (i32 v5)), (6, .int (i32 v6))]) hl [0, 1, 2, 3, 4, 5] rfl) hc
theorem al_X16_growUnique_29 {Q : Sg → Unit → Prop} {X : Sg → String → Prop} (K : MC R p s m args c cX16_growUnique 14 RX16 D cA tys A n0 s0 3 79 []) (hQ : HQV p l e R s m args below meth c cX16_growUnique D cA A n0 s0 QM dm ra jx rm Q) (hX : HX p l e R s m args below meth c 14 D cA A n0 s0 QM dm ra jx rm X) : ∀ (n : Nat), ∀ (σ : Sg) (v1 : Int) (v2 : Int) (v3 : Int64) (v5 : Int) (v6 : Int) (g1 : rng v1) (g2 : rng v2) (g5 : rng v5) (g6 : rng v6), wl_X16_growUnique_29 ra jx rm Q X n σ v1 v2 v3 v5 v6 → RG σ → Shp dm ra jx rm σ → JJ p l e R s m args below meth c 14 D cA A n0 s0 QM σ 29 [(0, .ref rm), (1, .int (i32 v1)), (2, .int (i32 v2)), (3, .long v3), (5, .int (i32 v5)), (6, .int (i32 v6))] [] := by
  intro n
  induction n with
  | zero => intro σ v1 v2 v3 v5 v6 g1 g2 g5 g6 h; exact h.elim
  | succ n ih => exact fun σ v1 v2 v3 v5 v6 g1 g2 g5 g6 h => a_X16_growUnique_29 K hQ hX ih σ v1 v2 v3 v5 v6 g1 g2 g5 g6 h
set_option maxRecDepth 20000 in
theorem a_X16_growUnique_0 {Q : Sg → Unit → Prop} {X : Sg → String → Prop} (K : MC R p s m args c cX16_growUnique 14 RX16 D cA tys A n0 s0 3 79 []) (hQ : HQV p l e R s m args below meth c cX16_growUnique D cA A n0 s0 QM dm ra jx rm Q) (hX : HX p l e R s m args below meth c 14 D cA A n0 s0 QM dm ra jx rm X) : ∀ (σ : Sg) (v1 : Int) (v2 : Int) (v3 : Int64) (g1 : rng v1) (g2 : rng v2), w_X16_growUnique_0 ra jx rm Q X σ v1 v2 v3 → RG σ → Shp dm ra jx rm σ → JJ p l e R s m args below meth c 14 D cA A n0 s0 QM σ 0 [(0, .ref rm), (1, .int (i32 v1)), (2, .int (i32 v2)), (3, .long v3)] [] := by
  intro σ v1 v2 v3 g1 g2 h hGσ hS H locs ls hH hl hc
  have B := K.1
  unfold w_X16_growUnique_0 at h
  refine lv_aload_n B.1 B.2.1 dX16_growUnique_0 rfl (lv_at hl 0 rfl) ?_
  refine r_getp B hH hS 17 (by decide) wf_X16_356 rfl rfl dX16_growUnique_1 ?_
  obtain ⟨a42, ea42, ja42, h⟩ := h
  refine W.eq (g2 := F0 m 4 ls [.ref a42]) (by rw [ea42]; rfl) ?_
  refine n_arr B hH hS ja42 6 (kd := 100) (n := 16) (by decide) (by decide) (List.mem_of_getElem? (i := 6) rfl) rfl dX16_growUnique_4 ?_
  refine lv_aload_n B.1 B.2.1 dX16_growUnique_7 rfl (lv_at hl 0 rfl) ?_
  refine r_getp B hH hS 17 (by decide) wf_X16_356 rfl rfl dX16_growUnique_8 ?_
  obtain ⟨a43, ea43, ja43, h⟩ := h
  refine W.eq (g2 := F0 m 11 ls [.ref a43, .ref (jx a42 6)]) (by rw [ea43]; rfl) ?_
  refine n_arr B hH hS ja43 4 (kd := 100) (n := 16) (by decide) (by decide) (List.mem_of_getElem? (i := 4) rfl) rfl dX16_growUnique_11 ?_
  refine lv_iload_n B.1 B.2.1 dX16_growUnique_14 rfl (lv_at hl 2 rfl) ?_
  obtain ⟨q3, h⟩ := h
  refine x_iald B K.2.1 hH (hS.ja ja43 (k := 4) (kd := 100) (n := 16) (by decide)) (by decide) q3 dX16_growUnique_15 ?_
  obtain ⟨q4, h⟩ := h
  refine x_iald B K.2.1 hH (hS.ja ja42 (k := 6) (kd := 100) (n := 16) (by decide)) (by decide) q4 dX16_growUnique_16 ?_
  refine lv_istore (lv' := [(5, .int (i32 (gI σ (jx a42 6) (gI σ (jx a43 4) v2.toNat).toNat))), (0, .ref rm), (1, .int (i32 v1)), (2, .int (i32 v2)), (3, .long v3)]) B.1 B.2.1 dX16_growUnique_17 hl (by decide) rfl (fun ls hl => ?_)
  refine lv_aload_n B.1 B.2.1 dX16_growUnique_19 rfl (lv_at hl 1 rfl) ?_
  refine lv_iload_n B.1 B.2.1 dX16_growUnique_20 rfl (lv_at hl 2 rfl) ?_
  refine lv_iload B.1 B.2.1 dX16_growUnique_21 (lv_at hl 0 rfl) ?_
  refine lv_lload_n B.1 B.2.1 dX16_growUnique_23 rfl (lv_at hl 4 rfl) ?_
  refine c_V B hH hl hc K.2.2.1 (C := RX16) (T := TX16) (N := 123) (ci := 16) (As := [.int (i32 v1), .int (i32 (gI σ (jx a42 6) (gI σ (jx a43 4) v2.toNat).toNat)), .long v3]) (ok_X16_leastWaiting K.2.1 σ v1 (gI σ (jx a42 6) (gI σ (jx a43 4) v2.toNat).toNat) v3 g1 (hGσ _ _) hGσ hS h) wc_X16_636 3 hd_X16_leastWaiting ⟨Nat.le_trans (Nat.le_of_ble_eq_true rfl) K.2.2.2.1, Nat.le_trans (Nat.le_of_ble_eq_true rfl) K.2.2.2.2.1⟩ hS.1.1 hS.1.2 (by decide) rfl rfl (rest := []) rfl (Nat.le_of_ble_eq_true rfl) dX16_growUnique_24 (fun σ44 w hq => ?_) (fun σ9 E9 hx9 => hX σ9 E9 _ _ _ (tb_out K.2.2.2.2.2 rfl) hx9.1 hx9.2.1 hx9.2.2)
  obtain ⟨r45, rfl, gr45, h, hGσ44, hS⟩ := hq
  intro H locs ls hH hl hc
  refine W.eq (g2 := F0 m 27 ls [.int (i32 r45)]) (rfl) ?_
  try dsimp only at h
  refine lv_istore (lv' := [(6, .int (i32 r45)), (5, .int (i32 (gI σ (jx a42 6) (gI σ (jx a43 4) v2.toNat).toNat))), (0, .ref rm), (1, .int (i32 v1)), (2, .int (i32 v2)), (3, .long v3)]) B.1 B.2.1 dX16_growUnique_27 hl (by decide) rfl (fun ls hl => ?_)
  obtain ⟨n9, h⟩ := h
  exact al_X16_growUnique_29 K hQ hX n9 _ _ _ _ _ _ g1 g2 (hGσ _ _) gr45 h hGσ44 hS _ _ _ hH (lv_sub (l' := [(0, .ref rm), (1, .int (i32 v1)), (2, .int (i32 v2)), (3, .long v3), (5, .int (i32 (gI σ (jx a42 6) (gI σ (jx a43 4) v2.toNat).toNat))), (6, .int (i32 r45))]) hl [2, 3, 4, 5, 1, 0] rfl) hc
theorem ok_X16_growUnique (hT : Tys cA tys) {Q : Sg → Unit → Prop} {X : Sg → String → Prop} (σ : Sg) (v1 : Int) (v2 : Int) (v3 : Int64) (g1 : rng v1) (g2 : rng v2) (hG : RG σ) (hS : Shp dm ra jx rm σ) (h : wp_X16_growUnique ra jx rm v1 v2 v3 σ Q X) : Ok l D cA tys A yX16_growUnique (.code yX16_growUnique cX16_growUnique 14 none) 3 79 [.ref rm, .int (i32 v1), .int (i32 v2), .long v3] σ (QnV dm ra jx rm Q) (QxR dm ra jx rm X) := by
  unfold wp_X16_growUnique at h
  exact ok_V (plainFor_of_name (by decide)) (by exact Nat.le_of_ble_eq_true rfl) hT (fun p e R s m args below meth c K hQ hX H locs ls hH hl hc => a_X16_growUnique_0 K hQ hX σ v1 v2 v3 g1 g2 h hG hS H locs ls hH (lv_sub (l' := [(0, .ref rm), (1, .int (i32 v1)), (2, .int (i32 v2)), (3, .long v3)]) hl [0, 1, 2, 3] rfl) hc)
theorem dX16_grow_0 : decode cX16_grow 0 = .ok (.aload_n 0, 1) := by decide +kernel
theorem dX16_grow_1 : decode cX16_grow 1 = .ok (.getfield 380, 3) := by decide +kernel
theorem dX16_grow_4 : decode cX16_grow 4 = .ok (.iload_n 1, 1) := by decide +kernel
theorem dX16_grow_5 : decode cX16_grow 5 = .ok (.iaload, 1) := by decide +kernel
theorem dX16_grow_6 : decode cX16_grow 6 = .ok (.istore 4, 2) := by decide +kernel
theorem dX16_grow_8 : decode cX16_grow 8 = .ok (.aload_n 0, 1) := by decide +kernel
theorem dX16_grow_9 : decode cX16_grow 9 = .ok (.getfield 356, 3) := by decide +kernel
theorem dX16_grow_12 : decode cX16_grow 12 = .ok (.getfield 246, 3) := by decide +kernel
theorem dX16_grow_15 : decode cX16_grow 15 = .ok (.iload 4, 2) := by decide +kernel
theorem dX16_grow_17 : decode cX16_grow 17 = .ok (.iaload, 1) := by decide +kernel
theorem dX16_grow_18 : decode cX16_grow 18 = .ok (.tableswitch 119 4 10 #[42, 53, 64, 75, 86, 97, 108], 42) := by decide +kernel
theorem dX16_grow_60 : decode cX16_grow 60 = .ok (.aload_n 0, 1) := by decide +kernel
theorem dX16_grow_61 : decode cX16_grow 61 = .ok (.iload_n 1, 1) := by decide +kernel
theorem dX16_grow_62 : decode cX16_grow 62 = .ok (.iload 4, 2) := by decide +kernel
theorem dX16_grow_64 : decode cX16_grow 64 = .ok (.lload_n 2, 1) := by decide +kernel
theorem dX16_grow_65 : decode cX16_grow 65 = .ok (.invokevirtual 610, 3) := by decide +kernel
theorem dX16_grow_68 : decode cX16_grow 68 = .ok (.goto 69, 3) := by decide +kernel
theorem dX16_grow_71 : decode cX16_grow 71 = .ok (.aload_n 0, 1) := by decide +kernel
theorem dX16_grow_72 : decode cX16_grow 72 = .ok (.iload_n 1, 1) := by decide +kernel
theorem dX16_grow_73 : decode cX16_grow 73 = .ok (.iload 4, 2) := by decide +kernel
theorem dX16_grow_75 : decode cX16_grow 75 = .ok (.lload_n 2, 1) := by decide +kernel
theorem dX16_grow_76 : decode cX16_grow 76 = .ok (.invokevirtual 614, 3) := by decide +kernel
theorem dX16_grow_79 : decode cX16_grow 79 = .ok (.goto 58, 3) := by decide +kernel
theorem dX16_grow_82 : decode cX16_grow 82 = .ok (.aload_n 0, 1) := by decide +kernel
theorem dX16_grow_83 : decode cX16_grow 83 = .ok (.iload_n 1, 1) := by decide +kernel
theorem dX16_grow_84 : decode cX16_grow 84 = .ok (.iload 4, 2) := by decide +kernel
theorem dX16_grow_86 : decode cX16_grow 86 = .ok (.lload_n 2, 1) := by decide +kernel
theorem dX16_grow_87 : decode cX16_grow 87 = .ok (.invokevirtual 617, 3) := by decide +kernel
theorem dX16_grow_90 : decode cX16_grow 90 = .ok (.goto 47, 3) := by decide +kernel
theorem dX16_grow_93 : decode cX16_grow 93 = .ok (.aload_n 0, 1) := by decide +kernel
theorem dX16_grow_94 : decode cX16_grow 94 = .ok (.iload_n 1, 1) := by decide +kernel
theorem dX16_grow_95 : decode cX16_grow 95 = .ok (.iload 4, 2) := by decide +kernel
theorem dX16_grow_97 : decode cX16_grow 97 = .ok (.lload_n 2, 1) := by decide +kernel
theorem dX16_grow_98 : decode cX16_grow 98 = .ok (.invokevirtual 620, 3) := by decide +kernel
theorem dX16_grow_101 : decode cX16_grow 101 = .ok (.goto 36, 3) := by decide +kernel
theorem dX16_grow_104 : decode cX16_grow 104 = .ok (.aload_n 0, 1) := by decide +kernel
theorem dX16_grow_105 : decode cX16_grow 105 = .ok (.iload_n 1, 1) := by decide +kernel
theorem dX16_grow_106 : decode cX16_grow 106 = .ok (.iload 4, 2) := by decide +kernel
theorem dX16_grow_108 : decode cX16_grow 108 = .ok (.lload_n 2, 1) := by decide +kernel
theorem dX16_grow_109 : decode cX16_grow 109 = .ok (.invokevirtual 623, 3) := by decide +kernel
theorem dX16_grow_112 : decode cX16_grow 112 = .ok (.goto 25, 3) := by decide +kernel
theorem dX16_grow_115 : decode cX16_grow 115 = .ok (.aload_n 0, 1) := by decide +kernel
theorem dX16_grow_116 : decode cX16_grow 116 = .ok (.iload_n 1, 1) := by decide +kernel
theorem dX16_grow_117 : decode cX16_grow 117 = .ok (.iload 4, 2) := by decide +kernel
theorem dX16_grow_119 : decode cX16_grow 119 = .ok (.lload_n 2, 1) := by decide +kernel
theorem dX16_grow_120 : decode cX16_grow 120 = .ok (.invokevirtual 626, 3) := by decide +kernel
theorem dX16_grow_123 : decode cX16_grow 123 = .ok (.goto 14, 3) := by decide +kernel
theorem dX16_grow_126 : decode cX16_grow 126 = .ok (.aload_n 0, 1) := by decide +kernel
theorem dX16_grow_127 : decode cX16_grow 127 = .ok (.iload_n 1, 1) := by decide +kernel
theorem dX16_grow_128 : decode cX16_grow 128 = .ok (.iload 4, 2) := by decide +kernel
theorem dX16_grow_130 : decode cX16_grow 130 = .ok (.lload_n 2, 1) := by decide +kernel
theorem dX16_grow_131 : decode cX16_grow 131 = .ok (.invokevirtual 629, 3) := by decide +kernel
theorem dX16_grow_134 : decode cX16_grow 134 = .ok (.goto 3, 3) := by decide +kernel
theorem dX16_grow_137 : decode cX16_grow 137 = .ok (.return_, 1) := by decide +kernel
set_option maxRecDepth 20000 in
theorem a_X16_grow_137 {Q : Sg → Unit → Prop} {X : Sg → String → Prop} (K : MC R p s m args c cX16_grow 5 RX16 D cA tys A n0 s0 5 143 []) (hQ : HQV p l e R s m args below meth c cX16_grow D cA A n0 s0 QM dm ra jx rm Q) (hX : HX p l e R s m args below meth c 5 D cA A n0 s0 QM dm ra jx rm X) : ∀ (σ : Sg), w_X16_grow_137 ra jx rm Q X σ → RG σ → Shp dm ra jx rm σ → JJ p l e R s m args below meth c 5 D cA A n0 s0 QM σ 137 [(0, .ref rm)] [] := by
  intro σ h hGσ hS H locs ls hH hl hc
  have B := K.1
  unfold w_X16_grow_137 at h
  exact hQ _ _ _ _ _ dX16_grow_137 hH hc h hGσ hS
set_option maxRecDepth 20000 in
theorem a_X16_grow_60 {Q : Sg → Unit → Prop} {X : Sg → String → Prop} (K : MC R p s m args c cX16_grow 5 RX16 D cA tys A n0 s0 5 143 []) (hQ : HQV p l e R s m args below meth c cX16_grow D cA A n0 s0 QM dm ra jx rm Q) (hX : HX p l e R s m args below meth c 5 D cA A n0 s0 QM dm ra jx rm X) : ∀ (σ : Sg) (v1 : Int) (v2 : Int64) (v4 : Int) (g1 : rng v1) (g4 : rng v4), w_X16_grow_60 ra jx rm Q X σ v1 v2 v4 → RG σ → Shp dm ra jx rm σ → JJ p l e R s m args below meth c 5 D cA A n0 s0 QM σ 60 [(0, .ref rm), (1, .int (i32 v1)), (2, .long v2), (4, .int (i32 v4))] [] := by
  intro σ v1 v2 v4 g1 g4 h hGσ hS H locs ls hH hl hc
  have B := K.1
  unfold w_X16_grow_60 at h
  refine lv_aload_n B.1 B.2.1 dX16_grow_60 rfl (lv_at hl 0 rfl) ?_
  refine lv_iload_n B.1 B.2.1 dX16_grow_61 rfl (lv_at hl 1 rfl) ?_
  refine lv_iload B.1 B.2.1 dX16_grow_62 (lv_at hl 3 rfl) ?_
  refine lv_lload_n B.1 B.2.1 dX16_grow_64 rfl (lv_at hl 2 rfl) ?_
  refine c_V B hH hl hc K.2.2.1 (C := RX16) (T := TX16) (N := 123) (ci := 16) (As := [.int (i32 v1), .int (i32 v4), .long v2]) (ok_X16_growSpans K.2.1 σ v1 v4 v2 g1 g4 hGσ hS h) wc_X16_610 3 hd_X16_growSpans ⟨Nat.le_trans (Nat.le_of_ble_eq_true rfl) K.2.2.2.1, Nat.le_trans (Nat.le_of_ble_eq_true rfl) K.2.2.2.2.1⟩ hS.1.1 hS.1.2 (by decide) rfl rfl (rest := []) rfl (Nat.le_of_ble_eq_true rfl) dX16_grow_65 (fun σ17 w hq => ?_) (fun σ9 E9 hx9 => hX σ9 E9 _ _ _ (tb_out K.2.2.2.2.2 rfl) hx9.1 hx9.2.1 hx9.2.2)
  obtain ⟨rfl, h, hGσ17, hS⟩ := hq
  intro H locs ls hH hl hc
  refine W.eq (g2 := F0 m 68 ls []) (rfl) ?_
  try dsimp only at h
  refine lv_goto (tgt := 137) B.1 B.2.1 dX16_grow_68 (by decide) ?_
  exact a_X16_grow_137 K hQ hX _ h hGσ17 hS _ _ _ hH (lv_sub (l' := [(0, .ref rm)]) hl [0] rfl) hc
set_option maxRecDepth 20000 in
theorem a_X16_grow_71 {Q : Sg → Unit → Prop} {X : Sg → String → Prop} (K : MC R p s m args c cX16_grow 5 RX16 D cA tys A n0 s0 5 143 []) (hQ : HQV p l e R s m args below meth c cX16_grow D cA A n0 s0 QM dm ra jx rm Q) (hX : HX p l e R s m args below meth c 5 D cA A n0 s0 QM dm ra jx rm X) : ∀ (σ : Sg) (v1 : Int) (v2 : Int64) (v4 : Int) (g1 : rng v1) (g4 : rng v4), w_X16_grow_71 ra jx rm Q X σ v1 v2 v4 → RG σ → Shp dm ra jx rm σ → JJ p l e R s m args below meth c 5 D cA A n0 s0 QM σ 71 [(0, .ref rm), (1, .int (i32 v1)), (2, .long v2), (4, .int (i32 v4))] [] := by
  intro σ v1 v2 v4 g1 g4 h hGσ hS H locs ls hH hl hc
  have B := K.1
  unfold w_X16_grow_71 at h
  refine lv_aload_n B.1 B.2.1 dX16_grow_71 rfl (lv_at hl 0 rfl) ?_
  refine lv_iload_n B.1 B.2.1 dX16_grow_72 rfl (lv_at hl 1 rfl) ?_
  refine lv_iload B.1 B.2.1 dX16_grow_73 (lv_at hl 3 rfl) ?_
  refine lv_lload_n B.1 B.2.1 dX16_grow_75 rfl (lv_at hl 2 rfl) ?_
  refine c_V B hH hl hc K.2.2.1 (C := RX16) (T := TX16) (N := 123) (ci := 16) (As := [.int (i32 v1), .int (i32 v4), .long v2]) (ok_X16_growGaps K.2.1 σ v1 v4 v2 g1 g4 hGσ hS h) wc_X16_614 3 hd_X16_growGaps ⟨Nat.le_trans (Nat.le_of_ble_eq_true rfl) K.2.2.2.1, Nat.le_trans (Nat.le_of_ble_eq_true rfl) K.2.2.2.2.1⟩ hS.1.1 hS.1.2 (by decide) rfl rfl (rest := []) rfl (Nat.le_of_ble_eq_true rfl) dX16_grow_76 (fun σ18 w hq => ?_) (fun σ9 E9 hx9 => hX σ9 E9 _ _ _ (tb_out K.2.2.2.2.2 rfl) hx9.1 hx9.2.1 hx9.2.2)
  obtain ⟨rfl, h, hGσ18, hS⟩ := hq
  intro H locs ls hH hl hc
  refine W.eq (g2 := F0 m 79 ls []) (rfl) ?_
  try dsimp only at h
  refine lv_goto (tgt := 137) B.1 B.2.1 dX16_grow_79 (by decide) ?_
  exact a_X16_grow_137 K hQ hX _ h hGσ18 hS _ _ _ hH (lv_sub (l' := [(0, .ref rm)]) hl [0] rfl) hc
set_option maxRecDepth 20000 in
theorem a_X16_grow_82 {Q : Sg → Unit → Prop} {X : Sg → String → Prop} (K : MC R p s m args c cX16_grow 5 RX16 D cA tys A n0 s0 5 143 []) (hQ : HQV p l e R s m args below meth c cX16_grow D cA A n0 s0 QM dm ra jx rm Q) (hX : HX p l e R s m args below meth c 5 D cA A n0 s0 QM dm ra jx rm X) : ∀ (σ : Sg) (v1 : Int) (v2 : Int64) (v4 : Int) (g1 : rng v1) (g4 : rng v4), w_X16_grow_82 ra jx rm Q X σ v1 v2 v4 → RG σ → Shp dm ra jx rm σ → JJ p l e R s m args below meth c 5 D cA A n0 s0 QM σ 82 [(0, .ref rm), (1, .int (i32 v1)), (2, .long v2), (4, .int (i32 v4))] [] := by
  intro σ v1 v2 v4 g1 g4 h hGσ hS H locs ls hH hl hc
  have B := K.1
  unfold w_X16_grow_82 at h
  refine lv_aload_n B.1 B.2.1 dX16_grow_82 rfl (lv_at hl 0 rfl) ?_
  refine lv_iload_n B.1 B.2.1 dX16_grow_83 rfl (lv_at hl 1 rfl) ?_
  refine lv_iload B.1 B.2.1 dX16_grow_84 (lv_at hl 3 rfl) ?_
  refine lv_lload_n B.1 B.2.1 dX16_grow_86 rfl (lv_at hl 2 rfl) ?_
  refine c_V B hH hl hc K.2.2.1 (C := RX16) (T := TX16) (N := 123) (ci := 16) (As := [.int (i32 v1), .int (i32 v4), .long v2]) (ok_X16_growJoin K.2.1 σ v1 v4 v2 g1 g4 hGσ hS h) wc_X16_617 3 hd_X16_growJoin ⟨Nat.le_trans (Nat.le_of_ble_eq_true rfl) K.2.2.2.1, Nat.le_trans (Nat.le_of_ble_eq_true rfl) K.2.2.2.2.1⟩ hS.1.1 hS.1.2 (by decide) rfl rfl (rest := []) rfl (Nat.le_of_ble_eq_true rfl) dX16_grow_87 (fun σ19 w hq => ?_) (fun σ9 E9 hx9 => hX σ9 E9 _ _ _ (tb_out K.2.2.2.2.2 rfl) hx9.1 hx9.2.1 hx9.2.2)
  obtain ⟨rfl, h, hGσ19, hS⟩ := hq
  intro H locs ls hH hl hc
  refine W.eq (g2 := F0 m 90 ls []) (rfl) ?_
  try dsimp only at h
  refine lv_goto (tgt := 137) B.1 B.2.1 dX16_grow_90 (by decide) ?_
  exact a_X16_grow_137 K hQ hX _ h hGσ19 hS _ _ _ hH (lv_sub (l' := [(0, .ref rm)]) hl [0] rfl) hc
set_option maxRecDepth 20000 in
theorem a_X16_grow_93 {Q : Sg → Unit → Prop} {X : Sg → String → Prop} (K : MC R p s m args c cX16_grow 5 RX16 D cA tys A n0 s0 5 143 []) (hQ : HQV p l e R s m args below meth c cX16_grow D cA A n0 s0 QM dm ra jx rm Q) (hX : HX p l e R s m args below meth c 5 D cA A n0 s0 QM dm ra jx rm X) : ∀ (σ : Sg) (v1 : Int) (v2 : Int64) (v4 : Int) (g1 : rng v1) (g4 : rng v4), w_X16_grow_93 ra jx rm Q X σ v1 v2 v4 → RG σ → Shp dm ra jx rm σ → JJ p l e R s m args below meth c 5 D cA A n0 s0 QM σ 93 [(0, .ref rm), (1, .int (i32 v1)), (2, .long v2), (4, .int (i32 v4))] [] := by
  intro σ v1 v2 v4 g1 g4 h hGσ hS H locs ls hH hl hc
  have B := K.1
  unfold w_X16_grow_93 at h
  refine lv_aload_n B.1 B.2.1 dX16_grow_93 rfl (lv_at hl 0 rfl) ?_
  refine lv_iload_n B.1 B.2.1 dX16_grow_94 rfl (lv_at hl 1 rfl) ?_
  refine lv_iload B.1 B.2.1 dX16_grow_95 (lv_at hl 3 rfl) ?_
  refine lv_lload_n B.1 B.2.1 dX16_grow_97 rfl (lv_at hl 2 rfl) ?_
  refine c_V B hH hl hc K.2.2.1 (C := RX16) (T := TX16) (N := 123) (ci := 16) (As := [.int (i32 v1), .int (i32 v4), .long v2]) (ok_X16_growLook K.2.1 σ v1 v4 v2 g1 g4 hGσ hS h) wc_X16_620 3 hd_X16_growLook ⟨Nat.le_trans (Nat.le_of_ble_eq_true rfl) K.2.2.2.1, Nat.le_trans (Nat.le_of_ble_eq_true rfl) K.2.2.2.2.1⟩ hS.1.1 hS.1.2 (by decide) rfl rfl (rest := []) rfl (Nat.le_of_ble_eq_true rfl) dX16_grow_98 (fun σ20 w hq => ?_) (fun σ9 E9 hx9 => hX σ9 E9 _ _ _ (tb_out K.2.2.2.2.2 rfl) hx9.1 hx9.2.1 hx9.2.2)
  obtain ⟨rfl, h, hGσ20, hS⟩ := hq
  intro H locs ls hH hl hc
  refine W.eq (g2 := F0 m 101 ls []) (rfl) ?_
  try dsimp only at h
  refine lv_goto (tgt := 137) B.1 B.2.1 dX16_grow_101 (by decide) ?_
  exact a_X16_grow_137 K hQ hX _ h hGσ20 hS _ _ _ hH (lv_sub (l' := [(0, .ref rm)]) hl [0] rfl) hc
set_option maxRecDepth 20000 in
theorem a_X16_grow_104 {Q : Sg → Unit → Prop} {X : Sg → String → Prop} (K : MC R p s m args c cX16_grow 5 RX16 D cA tys A n0 s0 5 143 []) (hQ : HQV p l e R s m args below meth c cX16_grow D cA A n0 s0 QM dm ra jx rm Q) (hX : HX p l e R s m args below meth c 5 D cA A n0 s0 QM dm ra jx rm X) : ∀ (σ : Sg) (v1 : Int) (v2 : Int64) (v4 : Int) (g1 : rng v1) (g4 : rng v4), w_X16_grow_104 ra jx rm Q X σ v1 v2 v4 → RG σ → Shp dm ra jx rm σ → JJ p l e R s m args below meth c 5 D cA A n0 s0 QM σ 104 [(0, .ref rm), (1, .int (i32 v1)), (2, .long v2), (4, .int (i32 v4))] [] := by
  intro σ v1 v2 v4 g1 g4 h hGσ hS H locs ls hH hl hc
  have B := K.1
  unfold w_X16_grow_104 at h
  refine lv_aload_n B.1 B.2.1 dX16_grow_104 rfl (lv_at hl 0 rfl) ?_
  refine lv_iload_n B.1 B.2.1 dX16_grow_105 rfl (lv_at hl 1 rfl) ?_
  refine lv_iload B.1 B.2.1 dX16_grow_106 (lv_at hl 3 rfl) ?_
  refine lv_lload_n B.1 B.2.1 dX16_grow_108 rfl (lv_at hl 2 rfl) ?_
  refine c_V B hH hl hc K.2.2.1 (C := RX16) (T := TX16) (N := 123) (ci := 16) (As := [.int (i32 v1), .int (i32 v4), .long v2]) (ok_X16_growMatch K.2.1 σ v1 v4 v2 g1 g4 hGσ hS h) wc_X16_623 3 hd_X16_growMatch ⟨Nat.le_trans (Nat.le_of_ble_eq_true rfl) K.2.2.2.1, Nat.le_trans (Nat.le_of_ble_eq_true rfl) K.2.2.2.2.1⟩ hS.1.1 hS.1.2 (by decide) rfl rfl (rest := []) rfl (Nat.le_of_ble_eq_true rfl) dX16_grow_109 (fun σ21 w hq => ?_) (fun σ9 E9 hx9 => hX σ9 E9 _ _ _ (tb_out K.2.2.2.2.2 rfl) hx9.1 hx9.2.1 hx9.2.2)
  obtain ⟨rfl, h, hGσ21, hS⟩ := hq
  intro H locs ls hH hl hc
  refine W.eq (g2 := F0 m 112 ls []) (rfl) ?_
  try dsimp only at h
  refine lv_goto (tgt := 137) B.1 B.2.1 dX16_grow_112 (by decide) ?_
  exact a_X16_grow_137 K hQ hX _ h hGσ21 hS _ _ _ hH (lv_sub (l' := [(0, .ref rm)]) hl [0] rfl) hc
set_option maxRecDepth 20000 in
theorem a_X16_grow_115 {Q : Sg → Unit → Prop} {X : Sg → String → Prop} (K : MC R p s m args c cX16_grow 5 RX16 D cA tys A n0 s0 5 143 []) (hQ : HQV p l e R s m args below meth c cX16_grow D cA A n0 s0 QM dm ra jx rm Q) (hX : HX p l e R s m args below meth c 5 D cA A n0 s0 QM dm ra jx rm X) : ∀ (σ : Sg) (v1 : Int) (v2 : Int64) (v4 : Int) (g1 : rng v1) (g4 : rng v4), w_X16_grow_115 ra jx rm Q X σ v1 v2 v4 → RG σ → Shp dm ra jx rm σ → JJ p l e R s m args below meth c 5 D cA A n0 s0 QM σ 115 [(0, .ref rm), (1, .int (i32 v1)), (2, .long v2), (4, .int (i32 v4))] [] := by
  intro σ v1 v2 v4 g1 g4 h hGσ hS H locs ls hH hl hc
  have B := K.1
  unfold w_X16_grow_115 at h
  refine lv_aload_n B.1 B.2.1 dX16_grow_115 rfl (lv_at hl 0 rfl) ?_
  refine lv_iload_n B.1 B.2.1 dX16_grow_116 rfl (lv_at hl 1 rfl) ?_
  refine lv_iload B.1 B.2.1 dX16_grow_117 (lv_at hl 3 rfl) ?_
  refine lv_lload_n B.1 B.2.1 dX16_grow_119 rfl (lv_at hl 2 rfl) ?_
  refine c_V B hH hl hc K.2.2.1 (C := RX16) (T := TX16) (N := 123) (ci := 16) (As := [.int (i32 v1), .int (i32 v4), .long v2]) (ok_X16_growUnique K.2.1 σ v1 v4 v2 g1 g4 hGσ hS h) wc_X16_626 3 hd_X16_growUnique ⟨Nat.le_trans (Nat.le_of_ble_eq_true rfl) K.2.2.2.1, Nat.le_trans (Nat.le_of_ble_eq_true rfl) K.2.2.2.2.1⟩ hS.1.1 hS.1.2 (by decide) rfl rfl (rest := []) rfl (Nat.le_of_ble_eq_true rfl) dX16_grow_120 (fun σ22 w hq => ?_) (fun σ9 E9 hx9 => hX σ9 E9 _ _ _ (tb_out K.2.2.2.2.2 rfl) hx9.1 hx9.2.1 hx9.2.2)
  obtain ⟨rfl, h, hGσ22, hS⟩ := hq
  intro H locs ls hH hl hc
  refine W.eq (g2 := F0 m 123 ls []) (rfl) ?_
  try dsimp only at h
  refine lv_goto (tgt := 137) B.1 B.2.1 dX16_grow_123 (by decide) ?_
  exact a_X16_grow_137 K hQ hX _ h hGσ22 hS _ _ _ hH (lv_sub (l' := [(0, .ref rm)]) hl [0] rfl) hc
set_option maxRecDepth 20000 in
theorem a_X16_grow_126 {Q : Sg → Unit → Prop} {X : Sg → String → Prop} (K : MC R p s m args c cX16_grow 5 RX16 D cA tys A n0 s0 5 143 []) (hQ : HQV p l e R s m args below meth c cX16_grow D cA A n0 s0 QM dm ra jx rm Q) (hX : HX p l e R s m args below meth c 5 D cA A n0 s0 QM dm ra jx rm X) : ∀ (σ : Sg) (v1 : Int) (v2 : Int64) (v4 : Int) (g1 : rng v1) (g4 : rng v4), w_X16_grow_126 ra jx rm Q X σ v1 v2 v4 → RG σ → Shp dm ra jx rm σ → JJ p l e R s m args below meth c 5 D cA A n0 s0 QM σ 126 [(0, .ref rm), (1, .int (i32 v1)), (2, .long v2), (4, .int (i32 v4))] [] := by
  intro σ v1 v2 v4 g1 g4 h hGσ hS H locs ls hH hl hc
  have B := K.1
  unfold w_X16_grow_126 at h
  refine lv_aload_n B.1 B.2.1 dX16_grow_126 rfl (lv_at hl 0 rfl) ?_
  refine lv_iload_n B.1 B.2.1 dX16_grow_127 rfl (lv_at hl 1 rfl) ?_
  refine lv_iload B.1 B.2.1 dX16_grow_128 (lv_at hl 3 rfl) ?_
  refine lv_lload_n B.1 B.2.1 dX16_grow_130 rfl (lv_at hl 2 rfl) ?_
  refine c_V B hH hl hc K.2.2.1 (C := RX16) (T := TX16) (N := 123) (ci := 16) (As := [.int (i32 v1), .int (i32 v4), .long v2]) (ok_X16_growTop K.2.1 σ v1 v4 v2 g1 g4 hGσ hS h) wc_X16_629 3 hd_X16_growTop ⟨Nat.le_trans (Nat.le_of_ble_eq_true rfl) K.2.2.2.1, Nat.le_trans (Nat.le_of_ble_eq_true rfl) K.2.2.2.2.1⟩ hS.1.1 hS.1.2 (by decide) rfl rfl (rest := []) rfl (Nat.le_of_ble_eq_true rfl) dX16_grow_131 (fun σ23 w hq => ?_) (fun σ9 E9 hx9 => hX σ9 E9 _ _ _ (tb_out K.2.2.2.2.2 rfl) hx9.1 hx9.2.1 hx9.2.2)
  obtain ⟨rfl, h, hGσ23, hS⟩ := hq
  intro H locs ls hH hl hc
  refine W.eq (g2 := F0 m 134 ls []) (rfl) ?_
  try dsimp only at h
  refine lv_goto (tgt := 137) B.1 B.2.1 dX16_grow_134 (by decide) ?_
  exact a_X16_grow_137 K hQ hX _ h hGσ23 hS _ _ _ hH (lv_sub (l' := [(0, .ref rm)]) hl [0] rfl) hc
set_option maxRecDepth 20000 in
theorem a_X16_grow_0 {Q : Sg → Unit → Prop} {X : Sg → String → Prop} (K : MC R p s m args c cX16_grow 5 RX16 D cA tys A n0 s0 5 143 []) (hQ : HQV p l e R s m args below meth c cX16_grow D cA A n0 s0 QM dm ra jx rm Q) (hX : HX p l e R s m args below meth c 5 D cA A n0 s0 QM dm ra jx rm X) : ∀ (σ : Sg) (v1 : Int) (v2 : Int64) (g1 : rng v1), w_X16_grow_0 ra jx rm Q X σ v1 v2 → RG σ → Shp dm ra jx rm σ → JJ p l e R s m args below meth c 5 D cA A n0 s0 QM σ 0 [(0, .ref rm), (1, .int (i32 v1)), (2, .long v2)] [] := by
  intro σ v1 v2 g1 h hGσ hS H locs ls hH hl hc
  have B := K.1
  unfold w_X16_grow_0 at h
  refine lv_aload_n B.1 B.2.1 dX16_grow_0 rfl (lv_at hl 0 rfl) ?_
  refine r_arr B hH hS 38 (kd := 100) (n := 64) (by decide) (by decide) wf_X16_380 rfl rfl dX16_grow_1 ?_
  refine lv_iload_n B.1 B.2.1 dX16_grow_4 rfl (lv_at hl 1 rfl) ?_
  obtain ⟨q1, h⟩ := h
  refine x_iald B K.2.1 hH (hS.ar (k := 38) (kd := 100) (n := 64) (by decide)) (by decide) q1 dX16_grow_5 ?_
  refine lv_istore (lv' := [(4, .int (i32 (gI σ (ra 38) v1.toNat))), (0, .ref rm), (1, .int (i32 v1)), (2, .long v2)]) B.1 B.2.1 dX16_grow_6 hl (by decide) rfl (fun ls hl => ?_)
  refine lv_aload_n B.1 B.2.1 dX16_grow_8 rfl (lv_at hl 1 rfl) ?_
  refine r_getp B hH hS 17 (by decide) wf_X16_356 rfl rfl dX16_grow_9 ?_
  obtain ⟨a24, ea24, ja24, h⟩ := h
  refine W.eq (g2 := F0 m 12 ls [.ref a24]) (by rw [ea24]; rfl) ?_
  refine n_arr B hH hS ja24 2 (kd := 100) (n := 16) (by decide) (by decide) (List.mem_of_getElem? (i := 2) rfl) rfl dX16_grow_12 ?_
  refine lv_iload B.1 B.2.1 dX16_grow_15 (lv_at hl 0 rfl) ?_
  obtain ⟨q3, h⟩ := h
  refine x_iald B K.2.1 hH (hS.ja ja24 (k := 2) (kd := 100) (n := 16) (by decide)) (by decide) q3 dX16_grow_17 ?_
  rcases Classical.em ((gI σ (jx a24 2) (gI σ (ra 38) v1.toNat).toNat) = 4) with e9 | e9
  · rw [if_pos e9] at h
    refine lv_tableIn (off := 42) (tgt := 60) B.1 B.2.1 dX16_grow_18 (by rw [i32_toInt (hGσ _ _), e9]; decide) (by rw [i32_toInt (hGσ _ _), e9]; decide) (by rw [i32_toInt (hGσ _ _), e9]; rfl) (by decide) ?_
    exact a_X16_grow_60 K hQ hX _ _ _ _ g1 (hGσ _ _) h hGσ hS _ _ _ hH (lv_sub (l' := [(0, .ref rm), (1, .int (i32 v1)), (2, .long v2), (4, .int (i32 (gI σ (ra 38) v1.toNat)))]) hl [1, 2, 3, 0] rfl) hc
  rw [if_neg e9] at h
  have k4 := e9
  rcases Classical.em ((gI σ (jx a24 2) (gI σ (ra 38) v1.toNat).toNat) = 5) with e9 | e9
  · rw [if_pos e9] at h
    refine lv_tableIn (off := 53) (tgt := 71) B.1 B.2.1 dX16_grow_18 (by rw [i32_toInt (hGσ _ _), e9]; decide) (by rw [i32_toInt (hGσ _ _), e9]; decide) (by rw [i32_toInt (hGσ _ _), e9]; rfl) (by decide) ?_
    exact a_X16_grow_71 K hQ hX _ _ _ _ g1 (hGσ _ _) h hGσ hS _ _ _ hH (lv_sub (l' := [(0, .ref rm), (1, .int (i32 v1)), (2, .long v2), (4, .int (i32 (gI σ (ra 38) v1.toNat)))]) hl [1, 2, 3, 0] rfl) hc
  rw [if_neg e9] at h
  have k5 := e9
  rcases Classical.em ((gI σ (jx a24 2) (gI σ (ra 38) v1.toNat).toNat) = 6) with e9 | e9
  · rw [if_pos e9] at h
    refine lv_tableIn (off := 64) (tgt := 82) B.1 B.2.1 dX16_grow_18 (by rw [i32_toInt (hGσ _ _), e9]; decide) (by rw [i32_toInt (hGσ _ _), e9]; decide) (by rw [i32_toInt (hGσ _ _), e9]; rfl) (by decide) ?_
    exact a_X16_grow_82 K hQ hX _ _ _ _ g1 (hGσ _ _) h hGσ hS _ _ _ hH (lv_sub (l' := [(0, .ref rm), (1, .int (i32 v1)), (2, .long v2), (4, .int (i32 (gI σ (ra 38) v1.toNat)))]) hl [1, 2, 3, 0] rfl) hc
  rw [if_neg e9] at h
  have k6 := e9
  rcases Classical.em ((gI σ (jx a24 2) (gI σ (ra 38) v1.toNat).toNat) = 7) with e9 | e9
  · rw [if_pos e9] at h
    refine lv_tableIn (off := 75) (tgt := 93) B.1 B.2.1 dX16_grow_18 (by rw [i32_toInt (hGσ _ _), e9]; decide) (by rw [i32_toInt (hGσ _ _), e9]; decide) (by rw [i32_toInt (hGσ _ _), e9]; rfl) (by decide) ?_
    exact a_X16_grow_93 K hQ hX _ _ _ _ g1 (hGσ _ _) h hGσ hS _ _ _ hH (lv_sub (l' := [(0, .ref rm), (1, .int (i32 v1)), (2, .long v2), (4, .int (i32 (gI σ (ra 38) v1.toNat)))]) hl [1, 2, 3, 0] rfl) hc
  rw [if_neg e9] at h
  have k7 := e9
  rcases Classical.em ((gI σ (jx a24 2) (gI σ (ra 38) v1.toNat).toNat) = 8) with e9 | e9
  · rw [if_pos e9] at h
    refine lv_tableIn (off := 86) (tgt := 104) B.1 B.2.1 dX16_grow_18 (by rw [i32_toInt (hGσ _ _), e9]; decide) (by rw [i32_toInt (hGσ _ _), e9]; decide) (by rw [i32_toInt (hGσ _ _), e9]; rfl) (by decide) ?_
    exact a_X16_grow_104 K hQ hX _ _ _ _ g1 (hGσ _ _) h hGσ hS _ _ _ hH (lv_sub (l' := [(0, .ref rm), (1, .int (i32 v1)), (2, .long v2), (4, .int (i32 (gI σ (ra 38) v1.toNat)))]) hl [1, 2, 3, 0] rfl) hc
  rw [if_neg e9] at h
  have k8 := e9
  rcases Classical.em ((gI σ (jx a24 2) (gI σ (ra 38) v1.toNat).toNat) = 9) with e9 | e9
  · rw [if_pos e9] at h
    refine lv_tableIn (off := 97) (tgt := 115) B.1 B.2.1 dX16_grow_18 (by rw [i32_toInt (hGσ _ _), e9]; decide) (by rw [i32_toInt (hGσ _ _), e9]; decide) (by rw [i32_toInt (hGσ _ _), e9]; rfl) (by decide) ?_
    exact a_X16_grow_115 K hQ hX _ _ _ _ g1 (hGσ _ _) h hGσ hS _ _ _ hH (lv_sub (l' := [(0, .ref rm), (1, .int (i32 v1)), (2, .long v2), (4, .int (i32 (gI σ (ra 38) v1.toNat)))]) hl [1, 2, 3, 0] rfl) hc
  rw [if_neg e9] at h
  have k9 := e9
  rcases Classical.em ((gI σ (jx a24 2) (gI σ (ra 38) v1.toNat).toNat) = 10) with e9 | e9
  · rw [if_pos e9] at h
    refine lv_tableIn (off := 108) (tgt := 126) B.1 B.2.1 dX16_grow_18 (by rw [i32_toInt (hGσ _ _), e9]; decide) (by rw [i32_toInt (hGσ _ _), e9]; decide) (by rw [i32_toInt (hGσ _ _), e9]; rfl) (by decide) ?_
    exact a_X16_grow_126 K hQ hX _ _ _ _ g1 (hGσ _ _) h hGσ hS _ _ _ hH (lv_sub (l' := [(0, .ref rm), (1, .int (i32 v1)), (2, .long v2), (4, .int (i32 (gI σ (ra 38) v1.toNat)))]) hl [1, 2, 3, 0] rfl) hc
  rw [if_neg e9] at h
  have k10 := e9
  rcases (show ((gI σ (jx a24 2) (gI σ (ra 38) v1.toNat).toNat) < 4 ∨ 10 < (gI σ (jx a24 2) (gI σ (ra 38) v1.toNat).toNat)) ∨ False by omega) with e9 | e9
  · refine lv_tableOut (tgt := 137) B.1 B.2.1 dX16_grow_18 (by rw [i32_toInt (hGσ _ _)]; exact e9) (by decide) ?_
    exact a_X16_grow_137 K hQ hX _ h hGσ hS _ _ _ hH (lv_sub (l' := [(0, .ref rm)]) hl [1] rfl) hc
  exact e9.elim
theorem ok_X16_grow (hT : Tys cA tys) {Q : Sg → Unit → Prop} {X : Sg → String → Prop} (σ : Sg) (v1 : Int) (v2 : Int64) (g1 : rng v1) (hG : RG σ) (hS : Shp dm ra jx rm σ) (h : wp_X16_grow ra jx rm v1 v2 σ Q X) : Ok l D cA tys A yX16_grow (.code yX16_grow cX16_grow 5 none) 5 143 [.ref rm, .int (i32 v1), .long v2] σ (QnV dm ra jx rm Q) (QxR dm ra jx rm X) := by
  unfold wp_X16_grow at h
  exact ok_V (plainFor_of_name (by decide)) (by exact Nat.le_of_ble_eq_true rfl) hT (fun p e R s m args below meth c K hQ hX H locs ls hH hl hc => a_X16_grow_0 K hQ hX σ v1 v2 g1 h hG hS H locs ls hH (lv_sub (l' := [(0, .ref rm), (1, .int (i32 v1)), (2, .long v2)]) hl [0, 1, 2] rfl) hc)
theorem dX16_hang_0 : decode cX16_hang 0 = .ok (.aload_n 0, 1) := by decide +kernel
theorem dX16_hang_1 : decode cX16_hang 1 = .ok (.getfield 652, 3) := by decide +kernel
theorem dX16_hang_4 : decode cX16_hang 4 = .ok (.iload_n 2, 1) := by decide +kernel
theorem dX16_hang_5 : decode cX16_hang 5 = .ok (.iconst (-1), 1) := by decide +kernel
theorem dX16_hang_6 : decode cX16_hang 6 = .ok (.iastore, 1) := by decide +kernel
theorem dX16_hang_7 : decode cX16_hang 7 = .ok (.aload_n 0, 1) := by decide +kernel
theorem dX16_hang_8 : decode cX16_hang 8 = .ok (.getfield 664, 3) := by decide +kernel
theorem dX16_hang_11 : decode cX16_hang 11 = .ok (.iload_n 1, 1) := by decide +kernel
theorem dX16_hang_12 : decode cX16_hang 12 = .ok (.iaload, 1) := by decide +kernel
theorem dX16_hang_13 : decode cX16_hang 13 = .ok (.iconst (-1), 1) := by decide +kernel
theorem dX16_hang_14 : decode cX16_hang 14 = .ok (.if_icmp .ne 13, 3) := by decide +kernel
theorem dX16_hang_17 : decode cX16_hang 17 = .ok (.aload_n 0, 1) := by decide +kernel
theorem dX16_hang_18 : decode cX16_hang 18 = .ok (.getfield 661, 3) := by decide +kernel
theorem dX16_hang_21 : decode cX16_hang 21 = .ok (.iload_n 1, 1) := by decide +kernel
theorem dX16_hang_22 : decode cX16_hang 22 = .ok (.iload_n 2, 1) := by decide +kernel
theorem dX16_hang_23 : decode cX16_hang 23 = .ok (.iastore, 1) := by decide +kernel
theorem dX16_hang_24 : decode cX16_hang 24 = .ok (.goto 15, 3) := by decide +kernel
theorem dX16_hang_27 : decode cX16_hang 27 = .ok (.aload_n 0, 1) := by decide +kernel
theorem dX16_hang_28 : decode cX16_hang 28 = .ok (.getfield 652, 3) := by decide +kernel
theorem dX16_hang_31 : decode cX16_hang 31 = .ok (.aload_n 0, 1) := by decide +kernel
theorem dX16_hang_32 : decode cX16_hang 32 = .ok (.getfield 664, 3) := by decide +kernel
theorem dX16_hang_35 : decode cX16_hang 35 = .ok (.iload_n 1, 1) := by decide +kernel
theorem dX16_hang_36 : decode cX16_hang 36 = .ok (.iaload, 1) := by decide +kernel
theorem dX16_hang_37 : decode cX16_hang 37 = .ok (.iload_n 2, 1) := by decide +kernel
theorem dX16_hang_38 : decode cX16_hang 38 = .ok (.iastore, 1) := by decide +kernel
theorem dX16_hang_39 : decode cX16_hang 39 = .ok (.aload_n 0, 1) := by decide +kernel
theorem dX16_hang_40 : decode cX16_hang 40 = .ok (.getfield 664, 3) := by decide +kernel
theorem dX16_hang_43 : decode cX16_hang 43 = .ok (.iload_n 1, 1) := by decide +kernel
theorem dX16_hang_44 : decode cX16_hang 44 = .ok (.iload_n 2, 1) := by decide +kernel
theorem dX16_hang_45 : decode cX16_hang 45 = .ok (.iastore, 1) := by decide +kernel
theorem dX16_hang_46 : decode cX16_hang 46 = .ok (.aload_n 0, 1) := by decide +kernel
theorem dX16_hang_47 : decode cX16_hang 47 = .ok (.getfield 667, 3) := by decide +kernel
theorem dX16_hang_50 : decode cX16_hang 50 = .ok (.iload_n 1, 1) := by decide +kernel
theorem dX16_hang_51 : decode cX16_hang 51 = .ok (.dup2, 1) := by decide +kernel
theorem dX16_hang_52 : decode cX16_hang 52 = .ok (.iaload, 1) := by decide +kernel
theorem dX16_hang_53 : decode cX16_hang 53 = .ok (.iconst 1, 1) := by decide +kernel
theorem dX16_hang_54 : decode cX16_hang 54 = .ok (.iadd, 1) := by decide +kernel
theorem dX16_hang_55 : decode cX16_hang 55 = .ok (.iastore, 1) := by decide +kernel
theorem dX16_hang_56 : decode cX16_hang 56 = .ok (.return_, 1) := by decide +kernel
set_option maxRecDepth 20000 in
theorem a_X16_hang_39 {Q : Sg → Unit → Prop} {X : Sg → String → Prop} (K : MC R p s m args c cX16_hang 3 RX16 D cA tys A n0 s0 0 0 []) (hQ : HQV p l e R s m args below meth c cX16_hang D cA A n0 s0 QM dm ra jx rm Q) (hX : HX p l e R s m args below meth c 3 D cA A n0 s0 QM dm ra jx rm X) : ∀ (σ : Sg) (v1 : Int) (v2 : Int) (g1 : rng v1) (g2 : rng v2), w_X16_hang_39 ra jx rm Q X σ v1 v2 → RG σ → Shp dm ra jx rm σ → JJ p l e R s m args below meth c 3 D cA A n0 s0 QM σ 39 [(0, .ref rm), (1, .int (i32 v1)), (2, .int (i32 v2))] [] := by
  intro σ v1 v2 g1 g2 h hGσ hS H locs ls hH hl hc
  have B := K.1
  unfold w_X16_hang_39 at h
  refine lv_aload_n B.1 B.2.1 dX16_hang_39 rfl (lv_at hl 0 rfl) ?_
  refine r_arr B hH hS 88 (kd := 100) (n := 12) (by decide) (by decide) wf_X16_664 rfl rfl dX16_hang_40 ?_
  refine lv_iload_n B.1 B.2.1 dX16_hang_43 rfl (lv_at hl 1 rfl) ?_
  refine lv_iload_n B.1 B.2.1 dX16_hang_44 rfl (lv_at hl 2 rfl) ?_
  obtain ⟨q1, h⟩ := h
  obtain ⟨σ11, eσ11⟩ : ∃ z, z = pI σ (ra 88) v1.toNat v2 := ⟨_, rfl⟩
  have h := h σ11 eσ11
  refine x_iast B K.2.1 hH (hS.ar (k := 88) (kd := 100) (n := 12) (by decide)) (by decide) q1 dX16_hang_45 (fun H locs hH => ?_)
  have hH : Hd D cA A s (pI σ (ra 88) v1.toNat v2) H locs := hH
  rw [← eσ11] at hH
  have hGσ11 : RG σ11 := by rw [eσ11]; exact hGσ.pI g2
  have hS : Shp dm ra jx rm σ11 := by rw [eσ11]; exact hS
  have hc : CB n0 s0 σ11 := by rw [eσ11]; exact hc
  rw [show gc σ = gc σ11 by rw [eσ11], show gs σ = gs σ11 by rw [eσ11]]
  refine lv_aload_n B.1 B.2.1 dX16_hang_46 rfl (lv_at hl 0 rfl) ?_
  refine r_arr B hH hS 89 (kd := 100) (n := 12) (by decide) (by decide) wf_X16_667 rfl rfl dX16_hang_47 ?_
  refine lv_iload_n B.1 B.2.1 dX16_hang_50 rfl (lv_at hl 1 rfl) ?_
  refine lv_dup2_11 B.1 B.2.1 dX16_hang_51 rfl rfl ?_
  obtain ⟨q3, h⟩ := h
  refine x_iald B K.2.1 hH (hS.ar (k := 89) (kd := 100) (n := 12) (by decide)) (by decide) q3 dX16_hang_52 ?_
  refine lv_iconst (v := i32 1) B.1 B.2.1 dX16_hang_53 (by decide) ?_
  obtain ⟨q4, h⟩ := h
  refine lv_iadd B.1 B.2.1 dX16_hang_54 ?_
  rw [i32_add]
  obtain ⟨q5, h⟩ := h
  obtain ⟨σ12, eσ12⟩ : ∃ z, z = pI σ11 (ra 89) v1.toNat ((gI σ11 (ra 89) v1.toNat) + 1) := ⟨_, rfl⟩
  have h := h σ12 eσ12
  refine x_iast B K.2.1 hH (hS.ar (k := 89) (kd := 100) (n := 12) (by decide)) (by decide) q5 dX16_hang_55 (fun H locs hH => ?_)
  have hH : Hd D cA A s (pI σ11 (ra 89) v1.toNat ((gI σ11 (ra 89) v1.toNat) + 1)) H locs := hH
  rw [← eσ12] at hH
  have hGσ12 : RG σ12 := by rw [eσ12]; exact hGσ11.pI q4
  have hS : Shp dm ra jx rm σ12 := by rw [eσ12]; exact hS
  have hc : CB n0 s0 σ12 := by rw [eσ12]; exact hc
  rw [show gc σ11 = gc σ12 by rw [eσ12], show gs σ11 = gs σ12 by rw [eσ12]]
  exact hQ _ _ _ _ _ dX16_hang_56 hH hc h hGσ12 hS
set_option maxRecDepth 20000 in
theorem a_X16_hang_27 {Q : Sg → Unit → Prop} {X : Sg → String → Prop} (K : MC R p s m args c cX16_hang 3 RX16 D cA tys A n0 s0 0 0 []) (hQ : HQV p l e R s m args below meth c cX16_hang D cA A n0 s0 QM dm ra jx rm Q) (hX : HX p l e R s m args below meth c 3 D cA A n0 s0 QM dm ra jx rm X) : ∀ (σ : Sg) (v1 : Int) (v2 : Int) (g1 : rng v1) (g2 : rng v2), w_X16_hang_27 ra jx rm Q X σ v1 v2 → RG σ → Shp dm ra jx rm σ → JJ p l e R s m args below meth c 3 D cA A n0 s0 QM σ 27 [(0, .ref rm), (1, .int (i32 v1)), (2, .int (i32 v2))] [] := by
  intro σ v1 v2 g1 g2 h hGσ hS H locs ls hH hl hc
  have B := K.1
  unfold w_X16_hang_27 at h
  refine lv_aload_n B.1 B.2.1 dX16_hang_27 rfl (lv_at hl 0 rfl) ?_
  refine r_arr B hH hS 86 (kd := 100) (n := 2000) (by decide) (by decide) wf_X16_652 rfl rfl dX16_hang_28 ?_
  refine lv_aload_n B.1 B.2.1 dX16_hang_31 rfl (lv_at hl 0 rfl) ?_
  refine r_arr B hH hS 88 (kd := 100) (n := 12) (by decide) (by decide) wf_X16_664 rfl rfl dX16_hang_32 ?_
  refine lv_iload_n B.1 B.2.1 dX16_hang_35 rfl (lv_at hl 1 rfl) ?_
  obtain ⟨q1, h⟩ := h
  refine x_iald B K.2.1 hH (hS.ar (k := 88) (kd := 100) (n := 12) (by decide)) (by decide) q1 dX16_hang_36 ?_
  refine lv_iload_n B.1 B.2.1 dX16_hang_37 rfl (lv_at hl 2 rfl) ?_
  obtain ⟨q2, h⟩ := h
  obtain ⟨σ13, eσ13⟩ : ∃ z, z = pI σ (ra 86) (gI σ (ra 88) v1.toNat).toNat v2 := ⟨_, rfl⟩
  have h := h σ13 eσ13
  refine x_iast B K.2.1 hH (hS.ar (k := 86) (kd := 100) (n := 2000) (by decide)) (by decide) q2 dX16_hang_38 (fun H locs hH => ?_)
  have hH : Hd D cA A s (pI σ (ra 86) (gI σ (ra 88) v1.toNat).toNat v2) H locs := hH
  rw [← eσ13] at hH
  have hGσ13 : RG σ13 := by rw [eσ13]; exact hGσ.pI g2
  have hS : Shp dm ra jx rm σ13 := by rw [eσ13]; exact hS
  have hc : CB n0 s0 σ13 := by rw [eσ13]; exact hc
  rw [show gc σ = gc σ13 by rw [eσ13], show gs σ = gs σ13 by rw [eσ13]]
  exact a_X16_hang_39 K hQ hX _ _ _ g1 g2 h hGσ13 hS _ _ _ hH (lv_sub (l' := [(0, .ref rm), (1, .int (i32 v1)), (2, .int (i32 v2))]) hl [0, 1, 2] rfl) hc
set_option maxRecDepth 20000 in
theorem a_X16_hang_17 {Q : Sg → Unit → Prop} {X : Sg → String → Prop} (K : MC R p s m args c cX16_hang 3 RX16 D cA tys A n0 s0 0 0 []) (hQ : HQV p l e R s m args below meth c cX16_hang D cA A n0 s0 QM dm ra jx rm Q) (hX : HX p l e R s m args below meth c 3 D cA A n0 s0 QM dm ra jx rm X) : ∀ (σ : Sg) (v1 : Int) (v2 : Int) (g1 : rng v1) (g2 : rng v2), w_X16_hang_17 ra jx rm Q X σ v1 v2 → RG σ → Shp dm ra jx rm σ → JJ p l e R s m args below meth c 3 D cA A n0 s0 QM σ 17 [(0, .ref rm), (1, .int (i32 v1)), (2, .int (i32 v2))] [] := by
  intro σ v1 v2 g1 g2 h hGσ hS H locs ls hH hl hc
  have B := K.1
  unfold w_X16_hang_17 at h
  refine lv_aload_n B.1 B.2.1 dX16_hang_17 rfl (lv_at hl 0 rfl) ?_
  refine r_arr B hH hS 87 (kd := 100) (n := 12) (by decide) (by decide) wf_X16_661 rfl rfl dX16_hang_18 ?_
  refine lv_iload_n B.1 B.2.1 dX16_hang_21 rfl (lv_at hl 1 rfl) ?_
  refine lv_iload_n B.1 B.2.1 dX16_hang_22 rfl (lv_at hl 2 rfl) ?_
  obtain ⟨q1, h⟩ := h
  obtain ⟨σ14, eσ14⟩ : ∃ z, z = pI σ (ra 87) v1.toNat v2 := ⟨_, rfl⟩
  have h := h σ14 eσ14
  refine x_iast B K.2.1 hH (hS.ar (k := 87) (kd := 100) (n := 12) (by decide)) (by decide) q1 dX16_hang_23 (fun H locs hH => ?_)
  have hH : Hd D cA A s (pI σ (ra 87) v1.toNat v2) H locs := hH
  rw [← eσ14] at hH
  have hGσ14 : RG σ14 := by rw [eσ14]; exact hGσ.pI g2
  have hS : Shp dm ra jx rm σ14 := by rw [eσ14]; exact hS
  have hc : CB n0 s0 σ14 := by rw [eσ14]; exact hc
  rw [show gc σ = gc σ14 by rw [eσ14], show gs σ = gs σ14 by rw [eσ14]]
  refine lv_goto (tgt := 39) B.1 B.2.1 dX16_hang_24 (by decide) ?_
  exact a_X16_hang_39 K hQ hX _ _ _ g1 g2 h hGσ14 hS _ _ _ hH (lv_sub (l' := [(0, .ref rm), (1, .int (i32 v1)), (2, .int (i32 v2))]) hl [0, 1, 2] rfl) hc
set_option maxRecDepth 20000 in
theorem a_X16_hang_0 {Q : Sg → Unit → Prop} {X : Sg → String → Prop} (K : MC R p s m args c cX16_hang 3 RX16 D cA tys A n0 s0 0 0 []) (hQ : HQV p l e R s m args below meth c cX16_hang D cA A n0 s0 QM dm ra jx rm Q) (hX : HX p l e R s m args below meth c 3 D cA A n0 s0 QM dm ra jx rm X) : ∀ (σ : Sg) (v1 : Int) (v2 : Int) (g1 : rng v1) (g2 : rng v2), w_X16_hang_0 ra jx rm Q X σ v1 v2 → RG σ → Shp dm ra jx rm σ → JJ p l e R s m args below meth c 3 D cA A n0 s0 QM σ 0 [(0, .ref rm), (1, .int (i32 v1)), (2, .int (i32 v2))] [] := by
  intro σ v1 v2 g1 g2 h hGσ hS H locs ls hH hl hc
  have B := K.1
  unfold w_X16_hang_0 at h
  refine lv_aload_n B.1 B.2.1 dX16_hang_0 rfl (lv_at hl 0 rfl) ?_
  refine r_arr B hH hS 86 (kd := 100) (n := 2000) (by decide) (by decide) wf_X16_652 rfl rfl dX16_hang_1 ?_
  refine lv_iload_n B.1 B.2.1 dX16_hang_4 rfl (lv_at hl 2 rfl) ?_
  refine lv_iconst (v := i32 (-1)) B.1 B.2.1 dX16_hang_5 (by decide) ?_
  obtain ⟨q1, h⟩ := h
  obtain ⟨σ15, eσ15⟩ : ∃ z, z = pI σ (ra 86) v2.toNat (-1) := ⟨_, rfl⟩
  have h := h σ15 eσ15
  refine x_iast B K.2.1 hH (hS.ar (k := 86) (kd := 100) (n := 2000) (by decide)) (by decide) q1 dX16_hang_6 (fun H locs hH => ?_)
  have hH : Hd D cA A s (pI σ (ra 86) v2.toNat (-1)) H locs := hH
  rw [← eσ15] at hH
  have hGσ15 : RG σ15 := by rw [eσ15]; exact hGσ.pI (by unfold rng; omega)
  have hS : Shp dm ra jx rm σ15 := by rw [eσ15]; exact hS
  have hc : CB n0 s0 σ15 := by rw [eσ15]; exact hc
  rw [show gc σ = gc σ15 by rw [eσ15], show gs σ = gs σ15 by rw [eσ15]]
  refine lv_aload_n B.1 B.2.1 dX16_hang_7 rfl (lv_at hl 0 rfl) ?_
  refine r_arr B hH hS 88 (kd := 100) (n := 12) (by decide) (by decide) wf_X16_664 rfl rfl dX16_hang_8 ?_
  refine lv_iload_n B.1 B.2.1 dX16_hang_11 rfl (lv_at hl 1 rfl) ?_
  obtain ⟨q3, h⟩ := h
  refine x_iald B K.2.1 hH (hS.ar (k := 88) (kd := 100) (n := 12) (by decide)) (by decide) q3 dX16_hang_12 ?_
  refine lv_iconst (v := i32 (-1)) B.1 B.2.1 dX16_hang_13 (by decide) ?_
  refine lv_icmp_ne (tgt := 27) B.1 B.2.1 dX16_hang_14 (by decide) (fun h9 => ?_) (fun h9 => ?_)
  · rw [if_pos (fun q => h9 ((i32_eq (hGσ15 _ _) (by unfold rng; omega)).mpr q))] at h
    exact a_X16_hang_27 K hQ hX _ _ _ g1 g2 h hGσ15 hS _ _ _ hH (lv_sub (l' := [(0, .ref rm), (1, .int (i32 v1)), (2, .int (i32 v2))]) hl [0, 1, 2] rfl) hc
  · rw [if_neg (fun q => q ((i32_eq (hGσ15 _ _) (by unfold rng; omega)).mp h9))] at h
    exact a_X16_hang_17 K hQ hX _ _ _ g1 g2 h hGσ15 hS _ _ _ hH (lv_sub (l' := [(0, .ref rm), (1, .int (i32 v1)), (2, .int (i32 v2))]) hl [0, 1, 2] rfl) hc
theorem ok_X16_hang (hT : Tys cA tys) {Q : Sg → Unit → Prop} {X : Sg → String → Prop} (σ : Sg) (v1 : Int) (v2 : Int) (g1 : rng v1) (g2 : rng v2) (hG : RG σ) (hS : Shp dm ra jx rm σ) (h : wp_X16_hang ra jx rm v1 v2 σ Q X) : Ok l D cA tys A yX16_hang (.code yX16_hang cX16_hang 3 none) 0 0 [.ref rm, .int (i32 v1), .int (i32 v2)] σ (QnV dm ra jx rm Q) (QxR dm ra jx rm X) := by
  unfold wp_X16_hang at h
  exact ok_V (plainFor_of_name (by decide)) (by exact Nat.le_of_ble_eq_true rfl) hT (fun p e R s m args below meth c K hQ hX H locs ls hH hl hc => a_X16_hang_0 K hQ hX σ v1 v2 g1 g2 h hG hS H locs ls hH (lv_sub (l' := [(0, .ref rm), (1, .int (i32 v1)), (2, .int (i32 v2))]) hl [0, 1, 2] rfl) hc)
theorem dX16_isOutput_0 : decode cX16_isOutput 0 = .ok (.aload_n 0, 1) := by decide +kernel
theorem dX16_isOutput_1 : decode cX16_isOutput 1 = .ok (.getfield 356, 3) := by decide +kernel
theorem dX16_isOutput_4 : decode cX16_isOutput 4 = .ok (.ifnull 26, 3) := by decide +kernel
theorem dX16_isOutput_7 : decode cX16_isOutput 7 = .ok (.iload_n 1, 1) := by decide +kernel
theorem dX16_isOutput_8 : decode cX16_isOutput 8 = .ok (.i2l, 1) := by decide +kernel
theorem dX16_isOutput_9 : decode cX16_isOutput 9 = .ok (.lconst 0, 1) := by decide +kernel
theorem dX16_isOutput_10 : decode cX16_isOutput 10 = .ok (.aload_n 0, 1) := by decide +kernel
theorem dX16_isOutput_11 : decode cX16_isOutput 11 = .ok (.getfield 356, 3) := by decide +kernel
theorem dX16_isOutput_14 : decode cX16_isOutput 14 = .ok (.getfield 321, 3) := by decide +kernel
theorem dX16_isOutput_17 : decode cX16_isOutput 17 = .ok (.iconst 1, 1) := by decide +kernel
theorem dX16_isOutput_18 : decode cX16_isOutput 18 = .ok (.isub, 1) := by decide +kernel
theorem dX16_isOutput_19 : decode cX16_isOutput 19 = .ok (.i2l, 1) := by decide +kernel
theorem dX16_isOutput_20 : decode cX16_isOutput 20 = .ok (.invokestatic 45, 3) := by decide +kernel
theorem dX16_isOutput_23 : decode cX16_isOutput 23 = .ok (.ifCond .eq 7, 3) := by decide +kernel
theorem dX16_isOutput_26 : decode cX16_isOutput 26 = .ok (.iconst 1, 1) := by decide +kernel
theorem dX16_isOutput_27 : decode cX16_isOutput 27 = .ok (.goto 4, 3) := by decide +kernel
theorem dX16_isOutput_30 : decode cX16_isOutput 30 = .ok (.iconst 0, 1) := by decide +kernel
theorem dX16_isOutput_31 : decode cX16_isOutput 31 = .ok (.ireturn, 1) := by decide +kernel
set_option maxRecDepth 20000 in
theorem a_X16_isOutput_31 {Q : Sg → Int → Prop} {X : Sg → String → Prop} (K : MC R p s m args c cX16_isOutput 2 RX16 D cA tys A n0 s0 1 25 []) (hQ : HQZ p l e R s m args below meth c cX16_isOutput D cA A n0 s0 QM dm ra jx rm Q) (hX : HX p l e R s m args below meth c 2 D cA A n0 s0 QM dm ra jx rm X) : ∀ (σ : Sg) (u0 : Int) (gu0 : rng u0), w_X16_isOutput_31 ra jx rm Q X σ u0 → RG σ → Shp dm ra jx rm σ → JJ p l e R s m args below meth c 2 D cA A n0 s0 QM σ 31 [(0, .ref rm)] [.int (i32 u0)] := by
  intro σ u0 gu0 h hGσ hS H locs ls hH hl hc
  have B := K.1
  unfold w_X16_isOutput_31 at h
  obtain ⟨qz, h⟩ := h
  exact hQ _ _ _ _ _ _ gu0 qz dX16_isOutput_31 hH hc h hGσ hS
set_option maxRecDepth 20000 in
theorem a_X16_isOutput_30 {Q : Sg → Int → Prop} {X : Sg → String → Prop} (K : MC R p s m args c cX16_isOutput 2 RX16 D cA tys A n0 s0 1 25 []) (hQ : HQZ p l e R s m args below meth c cX16_isOutput D cA A n0 s0 QM dm ra jx rm Q) (hX : HX p l e R s m args below meth c 2 D cA A n0 s0 QM dm ra jx rm X) : ∀ (σ : Sg), w_X16_isOutput_30 ra jx rm Q X σ → RG σ → Shp dm ra jx rm σ → JJ p l e R s m args below meth c 2 D cA A n0 s0 QM σ 30 [(0, .ref rm)] [] := by
  intro σ h hGσ hS H locs ls hH hl hc
  have B := K.1
  unfold w_X16_isOutput_30 at h
  refine lv_iconst (v := i32 0) B.1 B.2.1 dX16_isOutput_30 (by decide) ?_
  exact a_X16_isOutput_31 K hQ hX _ _ (by unfold rng; omega) h hGσ hS _ _ _ hH (lv_sub (l' := [(0, .ref rm)]) hl [0] rfl) hc
set_option maxRecDepth 20000 in
theorem a_X16_isOutput_26 {Q : Sg → Int → Prop} {X : Sg → String → Prop} (K : MC R p s m args c cX16_isOutput 2 RX16 D cA tys A n0 s0 1 25 []) (hQ : HQZ p l e R s m args below meth c cX16_isOutput D cA A n0 s0 QM dm ra jx rm Q) (hX : HX p l e R s m args below meth c 2 D cA A n0 s0 QM dm ra jx rm X) : ∀ (σ : Sg), w_X16_isOutput_26 ra jx rm Q X σ → RG σ → Shp dm ra jx rm σ → JJ p l e R s m args below meth c 2 D cA A n0 s0 QM σ 26 [(0, .ref rm)] [] := by
  intro σ h hGσ hS H locs ls hH hl hc
  have B := K.1
  unfold w_X16_isOutput_26 at h
  refine lv_iconst (v := i32 1) B.1 B.2.1 dX16_isOutput_26 (by decide) ?_
  refine lv_goto (tgt := 31) B.1 B.2.1 dX16_isOutput_27 (by decide) ?_
  exact a_X16_isOutput_31 K hQ hX _ _ (by unfold rng; omega) h hGσ hS _ _ _ hH (lv_sub (l' := [(0, .ref rm)]) hl [0] rfl) hc
set_option maxRecDepth 20000 in
theorem a_X16_isOutput_7 {Q : Sg → Int → Prop} {X : Sg → String → Prop} (K : MC R p s m args c cX16_isOutput 2 RX16 D cA tys A n0 s0 1 25 []) (hQ : HQZ p l e R s m args below meth c cX16_isOutput D cA A n0 s0 QM dm ra jx rm Q) (hX : HX p l e R s m args below meth c 2 D cA A n0 s0 QM dm ra jx rm X) : ∀ (σ : Sg) (v1 : Int) (g1 : rng v1), w_X16_isOutput_7 ra jx rm Q X σ v1 → RG σ → Shp dm ra jx rm σ → JJ p l e R s m args below meth c 2 D cA A n0 s0 QM σ 7 [(0, .ref rm), (1, .int (i32 v1))] [] := by
  intro σ v1 g1 h hGσ hS H locs ls hH hl hc
  have B := K.1
  unfold w_X16_isOutput_7 at h
  refine lv_iload_n B.1 B.2.1 dX16_isOutput_7 rfl (lv_at hl 1 rfl) ?_
  refine lv_i2l B.1 B.2.1 dX16_isOutput_8 (i32_i64 g1) ?_
  refine lv_lconst (v := 0) B.1 B.2.1 dX16_isOutput_9 (by decide) ?_
  refine lv_aload_n B.1 B.2.1 dX16_isOutput_10 rfl (lv_at hl 0 rfl) ?_
  refine r_getp B hH hS 17 (by decide) wf_X16_356 rfl rfl dX16_isOutput_11 ?_
  obtain ⟨a7, ea7, ja7, h⟩ := h
  refine W.eq (g2 := F0 m 14 ls [.ref a7, .long 0, .long (Int64.ofInt v1)]) (by rw [ea7]; rfl) ?_
  refine n_geti B hH hS ja7 1 (by decide) (List.mem_of_getElem? (i := 1) rfl) rfl dX16_isOutput_14 ?_
  refine lv_iconst (v := i32 1) B.1 B.2.1 dX16_isOutput_17 (by decide) ?_
  obtain ⟨q2, h⟩ := h
  refine lv_isub B.1 B.2.1 dX16_isOutput_18 ?_
  rw [i32_sub]
  refine lv_i2l B.1 B.2.1 dX16_isOutput_19 (i32_i64 q2) ?_
  refine c_S B hH hl hc K.2.2.1 (As := [.long (Int64.ofInt v1), .long 0, .long (Int64.ofInt (gI σ a7 1 - 1))]) (ok_X16_within K.2.1 σ (Int64.ofInt v1) 0 (Int64.ofInt (gI σ a7 1 - 1)) hGσ hS h) wc_X16_45 3 hd_X16_within ⟨Nat.le_trans (Nat.le_of_ble_eq_true rfl) K.2.2.2.1, Nat.le_trans (Nat.le_of_ble_eq_true rfl) K.2.2.2.2.1⟩ rfl (rest := []) rfl (Nat.le_of_ble_eq_true rfl) dX16_isOutput_20 (fun σ8 w hq => ?_) (fun σ9 E9 hx9 => hX σ9 E9 _ _ _ (tb_out K.2.2.2.2.2 rfl) hx9.1 hx9.2.1 hx9.2.2)
  obtain ⟨r9, rfl, ⟨gr9, gzr9⟩, h, hGσ8, hS⟩ := hq
  intro H locs ls hH hl hc
  refine W.eq (g2 := F0 m 23 ls [.int (i32 r9)]) (rfl) ?_
  try dsimp only at h
  refine lv_if_eq (tgt := 30) B.1 B.2.1 dX16_isOutput_23 (by decide) (fun h9 => ?_) (fun h9 => ?_)
  · rw [if_pos ((z_eq gr9).mp h9)] at h
    exact a_X16_isOutput_30 K hQ hX _ h hGσ8 hS _ _ _ hH (lv_sub (l' := [(0, .ref rm)]) hl [0] rfl) hc
  · rw [if_neg (fun q => h9 ((z_eq gr9).mpr q))] at h
    exact a_X16_isOutput_26 K hQ hX _ h hGσ8 hS _ _ _ hH (lv_sub (l' := [(0, .ref rm)]) hl [0] rfl) hc
set_option maxRecDepth 20000 in
theorem a_X16_isOutput_0 {Q : Sg → Int → Prop} {X : Sg → String → Prop} (K : MC R p s m args c cX16_isOutput 2 RX16 D cA tys A n0 s0 1 25 []) (hQ : HQZ p l e R s m args below meth c cX16_isOutput D cA A n0 s0 QM dm ra jx rm Q) (hX : HX p l e R s m args below meth c 2 D cA A n0 s0 QM dm ra jx rm X) : ∀ (σ : Sg) (v1 : Int) (g1 : rng v1), w_X16_isOutput_0 ra jx rm Q X σ v1 → RG σ → Shp dm ra jx rm σ → JJ p l e R s m args below meth c 2 D cA A n0 s0 QM σ 0 [(0, .ref rm), (1, .int (i32 v1))] [] := by
  intro σ v1 g1 h hGσ hS H locs ls hH hl hc
  have B := K.1
  unfold w_X16_isOutput_0 at h
  refine lv_aload_n B.1 B.2.1 dX16_isOutput_0 rfl (lv_at hl 0 rfl) ?_
  refine r_getp B hH hS 17 (by decide) wf_X16_356 rfl rfl dX16_isOutput_1 ?_
  refine lv_ifnullQ (tgt := 30) B.1 B.2.1 dX16_isOutput_4 (by decide) (fun h9 => ?_) (fun h9 => ?_)
  · rw [if_pos (h9)] at h
    exact a_X16_isOutput_30 K hQ hX _ h hGσ hS _ _ _ hH (lv_sub (l' := [(0, .ref rm)]) hl [0] rfl) hc
  · rw [if_neg (h9)] at h
    exact a_X16_isOutput_7 K hQ hX _ _ g1 h hGσ hS _ _ _ hH (lv_sub (l' := [(0, .ref rm), (1, .int (i32 v1))]) hl [0, 1] rfl) hc
theorem ok_X16_isOutput (hT : Tys cA tys) {Q : Sg → Int → Prop} {X : Sg → String → Prop} (σ : Sg) (v1 : Int) (g1 : rng v1) (hG : RG σ) (hS : Shp dm ra jx rm σ) (h : wp_X16_isOutput ra jx rm v1 σ Q X) : Ok l D cA tys A yX16_isOutput (.code yX16_isOutput cX16_isOutput 2 (some .boolean)) 1 25 [.ref rm, .int (i32 v1)] σ (QnZ dm ra jx rm Q) (QxR dm ra jx rm X) := by
  unfold wp_X16_isOutput at h
  exact ok_Z (plainFor_of_name (by decide)) (by exact Nat.le_of_ble_eq_true rfl) hT (fun p e R s m args below meth c K hQ hX H locs ls hH hl hc => a_X16_isOutput_0 K hQ hX σ v1 g1 h hG hS H locs ls hH (lv_sub (l' := [(0, .ref rm), (1, .int (i32 v1))]) hl [0, 1] rfl) hc)
theorem dX16_operatorOfOutput_0 : decode cX16_operatorOfOutput 0 = .ok (.iconst 0, 1) := by decide +kernel
theorem dX16_operatorOfOutput_1 : decode cX16_operatorOfOutput 1 = .ok (.istore_n 2, 1) := by decide +kernel
theorem dX16_operatorOfOutput_2 : decode cX16_operatorOfOutput 2 = .ok (.iload_n 1, 1) := by decide +kernel
theorem dX16_operatorOfOutput_3 : decode cX16_operatorOfOutput 3 = .ok (.istore_n 3, 1) := by decide +kernel
theorem dX16_operatorOfOutput_4 : decode cX16_operatorOfOutput 4 = .ok (.aload_n 0, 1) := by decide +kernel
theorem dX16_operatorOfOutput_5 : decode cX16_operatorOfOutput 5 = .ok (.getfield 356, 3) := by decide +kernel
theorem dX16_operatorOfOutput_8 : decode cX16_operatorOfOutput 8 = .ok (.getfield 246, 3) := by decide +kernel
theorem dX16_operatorOfOutput_11 : decode cX16_operatorOfOutput 11 = .ok (.iload_n 2, 1) := by decide +kernel
theorem dX16_operatorOfOutput_12 : decode cX16_operatorOfOutput 12 = .ok (.iaload, 1) := by decide +kernel
theorem dX16_operatorOfOutput_13 : decode cX16_operatorOfOutput 13 = .ok (.bipush 11, 2) := by decide +kernel
theorem dX16_operatorOfOutput_15 : decode cX16_operatorOfOutput 15 = .ok (.if_icmp .ne 7, 3) := by decide +kernel
theorem dX16_operatorOfOutput_18 : decode cX16_operatorOfOutput 18 = .ok (.iload_n 3, 1) := by decide +kernel
theorem dX16_operatorOfOutput_19 : decode cX16_operatorOfOutput 19 = .ok (.ifCond .le 31, 3) := by decide +kernel
theorem dX16_operatorOfOutput_22 : decode cX16_operatorOfOutput 22 = .ok (.iload_n 3, 1) := by decide +kernel
theorem dX16_operatorOfOutput_23 : decode cX16_operatorOfOutput 23 = .ok (.aload_n 0, 1) := by decide +kernel
theorem dX16_operatorOfOutput_24 : decode cX16_operatorOfOutput 24 = .ok (.getfield 356, 3) := by decide +kernel
theorem dX16_operatorOfOutput_27 : decode cX16_operatorOfOutput 27 = .ok (.getfield 246, 3) := by decide +kernel
theorem dX16_operatorOfOutput_30 : decode cX16_operatorOfOutput 30 = .ok (.iload_n 2, 1) := by decide +kernel
theorem dX16_operatorOfOutput_31 : decode cX16_operatorOfOutput 31 = .ok (.iaload, 1) := by decide +kernel
theorem dX16_operatorOfOutput_32 : decode cX16_operatorOfOutput 32 = .ok (.bipush 11, 2) := by decide +kernel
theorem dX16_operatorOfOutput_34 : decode cX16_operatorOfOutput 34 = .ok (.if_icmp .ne 7, 3) := by decide +kernel
theorem dX16_operatorOfOutput_37 : decode cX16_operatorOfOutput 37 = .ok (.iconst 1, 1) := by decide +kernel
theorem dX16_operatorOfOutput_38 : decode cX16_operatorOfOutput 38 = .ok (.goto 4, 3) := by decide +kernel
theorem dX16_operatorOfOutput_41 : decode cX16_operatorOfOutput 41 = .ok (.iconst 0, 1) := by decide +kernel
theorem dX16_operatorOfOutput_42 : decode cX16_operatorOfOutput 42 = .ok (.isub, 1) := by decide +kernel
theorem dX16_operatorOfOutput_43 : decode cX16_operatorOfOutput 43 = .ok (.istore_n 3, 1) := by decide +kernel
theorem dX16_operatorOfOutput_44 : decode cX16_operatorOfOutput 44 = .ok (.iinc 2 1, 3) := by decide +kernel
theorem dX16_operatorOfOutput_47 : decode cX16_operatorOfOutput 47 = .ok (.goto (-43), 3) := by decide +kernel
theorem dX16_operatorOfOutput_50 : decode cX16_operatorOfOutput 50 = .ok (.iload_n 2, 1) := by decide +kernel
theorem dX16_operatorOfOutput_51 : decode cX16_operatorOfOutput 51 = .ok (.ireturn, 1) := by decide +kernel
set_option maxRecDepth 20000 in
theorem a_X16_operatorOfOutput_42 {Q : Sg → Int → Prop} {X : Sg → String → Prop} (K : MC R p s m args c cX16_operatorOfOutput 4 RX16 D cA tys A n0 s0 0 0 []) (hQ : HQI p l e R s m args below meth c cX16_operatorOfOutput D cA A n0 s0 QM dm ra jx rm Q) (hX : HX p l e R s m args below meth c 4 D cA A n0 s0 QM dm ra jx rm X) {K4 : Sg → Int → Int → Prop} (hK4 : ∀ (σ : Sg) (v2 : Int) (v3 : Int) (g2 : rng v2) (g3 : rng v3), K4 σ v2 v3 → RG σ → Shp dm ra jx rm σ → JJ p l e R s m args below meth c 4 D cA A n0 s0 QM σ 4 [(0, .ref rm), (2, .int (i32 v2)), (3, .int (i32 v3))] []) : ∀ (σ : Sg) (v2 : Int) (u0 : Int) (u1 : Int) (g2 : rng v2) (gu0 : rng u0) (gu1 : rng u1), w_X16_operatorOfOutput_42 ra jx rm K4 Q X σ v2 u0 u1 → RG σ → Shp dm ra jx rm σ → JJ p l e R s m args below meth c 4 D cA A n0 s0 QM σ 42 [(0, .ref rm), (2, .int (i32 v2))] [.int (i32 u0), .int (i32 u1)] := by
  intro σ v2 u0 u1 g2 gu0 gu1 h hGσ hS H locs ls hH hl hc
  have B := K.1
  unfold w_X16_operatorOfOutput_42 at h
  obtain ⟨q1, h⟩ := h
  refine lv_isub B.1 B.2.1 dX16_operatorOfOutput_42 ?_
  rw [i32_sub]
  refine lv_istore_n (lv' := [(3, .int (i32 (u1 - u0))), (0, .ref rm), (2, .int (i32 v2))]) B.1 B.2.1 dX16_operatorOfOutput_43 rfl hl (by decide) rfl (fun ls hl => ?_)
  obtain ⟨q2, h⟩ := h
  refine lv_iinc (k := 2) (v := i32 (v2 + 1)) (lv' := [(2, .int (i32 (v2 + 1))), (3, .int (i32 (u1 - u0))), (0, .ref rm)]) B.1 B.2.1 dX16_operatorOfOutput_44 hl rfl (i32_add _ _) (by decide) rfl (fun ls hl => ?_)
  refine lv_goto (tgt := 4) B.1 B.2.1 dX16_operatorOfOutput_47 (by decide) ?_
  exact hK4 _ _ _ q2 q1 h hGσ hS _ _ _ hH (lv_sub (l' := [(0, .ref rm), (2, .int (i32 (v2 + 1))), (3, .int (i32 (u1 - u0)))]) hl [2, 0, 1] rfl) hc
set_option maxRecDepth 20000 in
theorem a_X16_operatorOfOutput_41 {Q : Sg → Int → Prop} {X : Sg → String → Prop} (K : MC R p s m args c cX16_operatorOfOutput 4 RX16 D cA tys A n0 s0 0 0 []) (hQ : HQI p l e R s m args below meth c cX16_operatorOfOutput D cA A n0 s0 QM dm ra jx rm Q) (hX : HX p l e R s m args below meth c 4 D cA A n0 s0 QM dm ra jx rm X) {K4 : Sg → Int → Int → Prop} (hK4 : ∀ (σ : Sg) (v2 : Int) (v3 : Int) (g2 : rng v2) (g3 : rng v3), K4 σ v2 v3 → RG σ → Shp dm ra jx rm σ → JJ p l e R s m args below meth c 4 D cA A n0 s0 QM σ 4 [(0, .ref rm), (2, .int (i32 v2)), (3, .int (i32 v3))] []) : ∀ (σ : Sg) (v2 : Int) (u0 : Int) (g2 : rng v2) (gu0 : rng u0), w_X16_operatorOfOutput_41 ra jx rm K4 Q X σ v2 u0 → RG σ → Shp dm ra jx rm σ → JJ p l e R s m args below meth c 4 D cA A n0 s0 QM σ 41 [(0, .ref rm), (2, .int (i32 v2))] [.int (i32 u0)] := by
  intro σ v2 u0 g2 gu0 h hGσ hS H locs ls hH hl hc
  have B := K.1
  unfold w_X16_operatorOfOutput_41 at h
  refine lv_iconst (v := i32 0) B.1 B.2.1 dX16_operatorOfOutput_41 (by decide) ?_
  exact a_X16_operatorOfOutput_42 K hQ hX hK4 _ _ _ _ g2 (by unfold rng; omega) gu0 h hGσ hS _ _ _ hH (lv_sub (l' := [(0, .ref rm), (2, .int (i32 v2))]) hl [0, 1] rfl) hc
set_option maxRecDepth 20000 in
theorem a_X16_operatorOfOutput_37 {Q : Sg → Int → Prop} {X : Sg → String → Prop} (K : MC R p s m args c cX16_operatorOfOutput 4 RX16 D cA tys A n0 s0 0 0 []) (hQ : HQI p l e R s m args below meth c cX16_operatorOfOutput D cA A n0 s0 QM dm ra jx rm Q) (hX : HX p l e R s m args below meth c 4 D cA A n0 s0 QM dm ra jx rm X) {K4 : Sg → Int → Int → Prop} (hK4 : ∀ (σ : Sg) (v2 : Int) (v3 : Int) (g2 : rng v2) (g3 : rng v3), K4 σ v2 v3 → RG σ → Shp dm ra jx rm σ → JJ p l e R s m args below meth c 4 D cA A n0 s0 QM σ 4 [(0, .ref rm), (2, .int (i32 v2)), (3, .int (i32 v3))] []) : ∀ (σ : Sg) (v2 : Int) (u0 : Int) (g2 : rng v2) (gu0 : rng u0), w_X16_operatorOfOutput_37 ra jx rm K4 Q X σ v2 u0 → RG σ → Shp dm ra jx rm σ → JJ p l e R s m args below meth c 4 D cA A n0 s0 QM σ 37 [(0, .ref rm), (2, .int (i32 v2))] [.int (i32 u0)] := by
  intro σ v2 u0 g2 gu0 h hGσ hS H locs ls hH hl hc
  have B := K.1
  unfold w_X16_operatorOfOutput_37 at h
  refine lv_iconst (v := i32 1) B.1 B.2.1 dX16_operatorOfOutput_37 (by decide) ?_
  refine lv_goto (tgt := 42) B.1 B.2.1 dX16_operatorOfOutput_38 (by decide) ?_
  exact a_X16_operatorOfOutput_42 K hQ hX hK4 _ _ _ _ g2 (by unfold rng; omega) gu0 h hGσ hS _ _ _ hH (lv_sub (l' := [(0, .ref rm), (2, .int (i32 v2))]) hl [0, 1] rfl) hc
set_option maxRecDepth 20000 in
theorem a_X16_operatorOfOutput_22 {Q : Sg → Int → Prop} {X : Sg → String → Prop} (K : MC R p s m args c cX16_operatorOfOutput 4 RX16 D cA tys A n0 s0 0 0 []) (hQ : HQI p l e R s m args below meth c cX16_operatorOfOutput D cA A n0 s0 QM dm ra jx rm Q) (hX : HX p l e R s m args below meth c 4 D cA A n0 s0 QM dm ra jx rm X) {K4 : Sg → Int → Int → Prop} (hK4 : ∀ (σ : Sg) (v2 : Int) (v3 : Int) (g2 : rng v2) (g3 : rng v3), K4 σ v2 v3 → RG σ → Shp dm ra jx rm σ → JJ p l e R s m args below meth c 4 D cA A n0 s0 QM σ 4 [(0, .ref rm), (2, .int (i32 v2)), (3, .int (i32 v3))] []) : ∀ (σ : Sg) (v2 : Int) (v3 : Int) (g2 : rng v2) (g3 : rng v3), w_X16_operatorOfOutput_22 ra jx rm K4 Q X σ v2 v3 → RG σ → Shp dm ra jx rm σ → JJ p l e R s m args below meth c 4 D cA A n0 s0 QM σ 22 [(0, .ref rm), (2, .int (i32 v2)), (3, .int (i32 v3))] [] := by
  intro σ v2 v3 g2 g3 h hGσ hS H locs ls hH hl hc
  have B := K.1
  unfold w_X16_operatorOfOutput_22 at h
  refine lv_iload_n B.1 B.2.1 dX16_operatorOfOutput_22 rfl (lv_at hl 2 rfl) ?_
  refine lv_aload_n B.1 B.2.1 dX16_operatorOfOutput_23 rfl (lv_at hl 0 rfl) ?_
  refine r_getp B hH hS 17 (by decide) wf_X16_356 rfl rfl dX16_operatorOfOutput_24 ?_
  obtain ⟨a5, ea5, ja5, h⟩ := h
  refine W.eq (g2 := F0 m 27 ls [.ref a5, .int (i32 v3)]) (by rw [ea5]; rfl) ?_
  refine n_arr B hH hS ja5 2 (kd := 100) (n := 16) (by decide) (by decide) (List.mem_of_getElem? (i := 2) rfl) rfl dX16_operatorOfOutput_27 ?_
  refine lv_iload_n B.1 B.2.1 dX16_operatorOfOutput_30 rfl (lv_at hl 1 rfl) ?_
  obtain ⟨q2, h⟩ := h
  refine x_iald B K.2.1 hH (hS.ja ja5 (k := 2) (kd := 100) (n := 16) (by decide)) (by decide) q2 dX16_operatorOfOutput_31 ?_
  refine lv_bipush (v := i32 11) B.1 B.2.1 dX16_operatorOfOutput_32 (by decide) ?_
  refine lv_icmp_ne (tgt := 41) B.1 B.2.1 dX16_operatorOfOutput_34 (by decide) (fun h9 => ?_) (fun h9 => ?_)
  · rw [if_pos (fun q => h9 ((i32_eq (hGσ _ _) (by unfold rng; omega)).mpr q))] at h
    exact a_X16_operatorOfOutput_41 K hQ hX hK4 _ _ _ g2 g3 h hGσ hS _ _ _ hH (lv_sub (l' := [(0, .ref rm), (2, .int (i32 v2))]) hl [0, 1] rfl) hc
  · rw [if_neg (fun q => q ((i32_eq (hGσ _ _) (by unfold rng; omega)).mp h9))] at h
    exact a_X16_operatorOfOutput_37 K hQ hX hK4 _ _ _ g2 g3 h hGσ hS _ _ _ hH (lv_sub (l' := [(0, .ref rm), (2, .int (i32 v2))]) hl [0, 1] rfl) hc
set_option maxRecDepth 20000 in
theorem a_X16_operatorOfOutput_50 {Q : Sg → Int → Prop} {X : Sg → String → Prop} (K : MC R p s m args c cX16_operatorOfOutput 4 RX16 D cA tys A n0 s0 0 0 []) (hQ : HQI p l e R s m args below meth c cX16_operatorOfOutput D cA A n0 s0 QM dm ra jx rm Q) (hX : HX p l e R s m args below meth c 4 D cA A n0 s0 QM dm ra jx rm X) : ∀ (σ : Sg) (v2 : Int) (g2 : rng v2), w_X16_operatorOfOutput_50 ra jx rm Q X σ v2 → RG σ → Shp dm ra jx rm σ → JJ p l e R s m args below meth c 4 D cA A n0 s0 QM σ 50 [(0, .ref rm), (2, .int (i32 v2))] [] := by
  intro σ v2 g2 h hGσ hS H locs ls hH hl hc
  have B := K.1
  unfold w_X16_operatorOfOutput_50 at h
  refine lv_iload_n B.1 B.2.1 dX16_operatorOfOutput_50 rfl (lv_at hl 1 rfl) ?_
  exact hQ _ _ _ _ _ _ g2 dX16_operatorOfOutput_51 hH hc h hGσ hS
set_option maxRecDepth 20000 in
theorem a_X16_operatorOfOutput_18 {Q : Sg → Int → Prop} {X : Sg → String → Prop} (K : MC R p s m args c cX16_operatorOfOutput 4 RX16 D cA tys A n0 s0 0 0 []) (hQ : HQI p l e R s m args below meth c cX16_operatorOfOutput D cA A n0 s0 QM dm ra jx rm Q) (hX : HX p l e R s m args below meth c 4 D cA A n0 s0 QM dm ra jx rm X) {K4 : Sg → Int → Int → Prop} (hK4 : ∀ (σ : Sg) (v2 : Int) (v3 : Int) (g2 : rng v2) (g3 : rng v3), K4 σ v2 v3 → RG σ → Shp dm ra jx rm σ → JJ p l e R s m args below meth c 4 D cA A n0 s0 QM σ 4 [(0, .ref rm), (2, .int (i32 v2)), (3, .int (i32 v3))] []) : ∀ (σ : Sg) (v2 : Int) (v3 : Int) (g2 : rng v2) (g3 : rng v3), w_X16_operatorOfOutput_18 ra jx rm K4 Q X σ v2 v3 → RG σ → Shp dm ra jx rm σ → JJ p l e R s m args below meth c 4 D cA A n0 s0 QM σ 18 [(0, .ref rm), (2, .int (i32 v2)), (3, .int (i32 v3))] [] := by
  intro σ v2 v3 g2 g3 h hGσ hS H locs ls hH hl hc
  have B := K.1
  unfold w_X16_operatorOfOutput_18 at h
  refine lv_iload_n B.1 B.2.1 dX16_operatorOfOutput_18 rfl (lv_at hl 2 rfl) ?_
  refine lv_if_le (tgt := 50) B.1 B.2.1 dX16_operatorOfOutput_19 (by decide) (fun h9 => ?_) (fun h9 => ?_)
  · rw [if_pos ((z_le g3).mp h9)] at h
    exact a_X16_operatorOfOutput_50 K hQ hX _ _ g2 h hGσ hS _ _ _ hH (lv_sub (l' := [(0, .ref rm), (2, .int (i32 v2))]) hl [0, 1] rfl) hc
  · rw [if_neg (fun q => h9 ((z_le g3).mpr q))] at h
    exact a_X16_operatorOfOutput_22 K hQ hX hK4 _ _ _ g2 g3 h hGσ hS _ _ _ hH (lv_sub (l' := [(0, .ref rm), (2, .int (i32 v2)), (3, .int (i32 v3))]) hl [0, 1, 2] rfl) hc
set_option maxRecDepth 20000 in
theorem a_X16_operatorOfOutput_4 {Q : Sg → Int → Prop} {X : Sg → String → Prop} (K : MC R p s m args c cX16_operatorOfOutput 4 RX16 D cA tys A n0 s0 0 0 []) (hQ : HQI p l e R s m args below meth c cX16_operatorOfOutput D cA A n0 s0 QM dm ra jx rm Q) (hX : HX p l e R s m args below meth c 4 D cA A n0 s0 QM dm ra jx rm X) {K4 : Sg → Int → Int → Prop} (hK4 : ∀ (σ : Sg) (v2 : Int) (v3 : Int) (g2 : rng v2) (g3 : rng v3), K4 σ v2 v3 → RG σ → Shp dm ra jx rm σ → JJ p l e R s m args below meth c 4 D cA A n0 s0 QM σ 4 [(0, .ref rm), (2, .int (i32 v2)), (3, .int (i32 v3))] []) : ∀ (σ : Sg) (v2 : Int) (v3 : Int) (g2 : rng v2) (g3 : rng v3), w_X16_operatorOfOutput_4 ra jx rm K4 Q X σ v2 v3 → RG σ → Shp dm ra jx rm σ → JJ p l e R s m args below meth c 4 D cA A n0 s0 QM σ 4 [(0, .ref rm), (2, .int (i32 v2)), (3, .int (i32 v3))] [] := by
  intro σ v2 v3 g2 g3 h hGσ hS H locs ls hH hl hc
  have B := K.1
  unfold w_X16_operatorOfOutput_4 at h
  refine lv_aload_n B.1 B.2.1 dX16_operatorOfOutput_4 rfl (lv_at hl 0 rfl) ?_
  refine r_getp B hH hS 17 (by decide) wf_X16_356 rfl rfl dX16_operatorOfOutput_5 ?_
  obtain ⟨a6, ea6, ja6, h⟩ := h
  refine W.eq (g2 := F0 m 8 ls [.ref a6]) (by rw [ea6]; rfl) ?_
  refine n_arr B hH hS ja6 2 (kd := 100) (n := 16) (by decide) (by decide) (List.mem_of_getElem? (i := 2) rfl) rfl dX16_operatorOfOutput_8 ?_
  refine lv_iload_n B.1 B.2.1 dX16_operatorOfOutput_11 rfl (lv_at hl 1 rfl) ?_
  obtain ⟨q2, h⟩ := h
  refine x_iald B K.2.1 hH (hS.ja ja6 (k := 2) (kd := 100) (n := 16) (by decide)) (by decide) q2 dX16_operatorOfOutput_12 ?_
  refine lv_bipush (v := i32 11) B.1 B.2.1 dX16_operatorOfOutput_13 (by decide) ?_
  refine lv_icmp_ne (tgt := 22) B.1 B.2.1 dX16_operatorOfOutput_15 (by decide) (fun h9 => ?_) (fun h9 => ?_)
  · rw [if_pos (fun q => h9 ((i32_eq (hGσ _ _) (by unfold rng; omega)).mpr q))] at h
    exact a_X16_operatorOfOutput_22 K hQ hX hK4 _ _ _ g2 g3 h hGσ hS _ _ _ hH (lv_sub (l' := [(0, .ref rm), (2, .int (i32 v2)), (3, .int (i32 v3))]) hl [0, 1, 2] rfl) hc
  · rw [if_neg (fun q => q ((i32_eq (hGσ _ _) (by unfold rng; omega)).mp h9))] at h
    exact a_X16_operatorOfOutput_18 K hQ hX hK4 _ _ _ g2 g3 h hGσ hS _ _ _ hH (lv_sub (l' := [(0, .ref rm), (2, .int (i32 v2)), (3, .int (i32 v3))]) hl [0, 1, 2] rfl) hc
theorem al_X16_operatorOfOutput_4 {Q : Sg → Int → Prop} {X : Sg → String → Prop} (K : MC R p s m args c cX16_operatorOfOutput 4 RX16 D cA tys A n0 s0 0 0 []) (hQ : HQI p l e R s m args below meth c cX16_operatorOfOutput D cA A n0 s0 QM dm ra jx rm Q) (hX : HX p l e R s m args below meth c 4 D cA A n0 s0 QM dm ra jx rm X) : ∀ (n : Nat), ∀ (σ : Sg) (v2 : Int) (v3 : Int) (g2 : rng v2) (g3 : rng v3), wl_X16_operatorOfOutput_4 ra jx rm Q X n σ v2 v3 → RG σ → Shp dm ra jx rm σ → JJ p l e R s m args below meth c 4 D cA A n0 s0 QM σ 4 [(0, .ref rm), (2, .int (i32 v2)), (3, .int (i32 v3))] [] := by
  intro n
  induction n with
  | zero => intro σ v2 v3 g2 g3 h; exact h.elim
  | succ n ih => exact fun σ v2 v3 g2 g3 h => a_X16_operatorOfOutput_4 K hQ hX ih σ v2 v3 g2 g3 h
set_option maxRecDepth 20000 in
theorem a_X16_operatorOfOutput_0 {Q : Sg → Int → Prop} {X : Sg → String → Prop} (K : MC R p s m args c cX16_operatorOfOutput 4 RX16 D cA tys A n0 s0 0 0 []) (hQ : HQI p l e R s m args below meth c cX16_operatorOfOutput D cA A n0 s0 QM dm ra jx rm Q) (hX : HX p l e R s m args below meth c 4 D cA A n0 s0 QM dm ra jx rm X) : ∀ (σ : Sg) (v1 : Int) (g1 : rng v1), w_X16_operatorOfOutput_0 ra jx rm Q X σ v1 → RG σ → Shp dm ra jx rm σ → JJ p l e R s m args below meth c 4 D cA A n0 s0 QM σ 0 [(0, .ref rm), (1, .int (i32 v1))] [] := by
  intro σ v1 g1 h hGσ hS H locs ls hH hl hc
  have B := K.1
  unfold w_X16_operatorOfOutput_0 at h
  refine lv_iconst (v := i32 0) B.1 B.2.1 dX16_operatorOfOutput_0 (by decide) ?_
  refine lv_istore_n (lv' := [(2, .int (i32 0)), (0, .ref rm), (1, .int (i32 v1))]) B.1 B.2.1 dX16_operatorOfOutput_1 rfl hl (by decide) rfl (fun ls hl => ?_)
  refine lv_iload_n B.1 B.2.1 dX16_operatorOfOutput_2 rfl (lv_at hl 2 rfl) ?_
  refine lv_istore_n (lv' := [(3, .int (i32 v1)), (2, .int (i32 0)), (0, .ref rm), (1, .int (i32 v1))]) B.1 B.2.1 dX16_operatorOfOutput_3 rfl hl (by decide) rfl (fun ls hl => ?_)
  obtain ⟨n9, h⟩ := h
  exact al_X16_operatorOfOutput_4 K hQ hX n9 _ _ _ (by unfold rng; omega) g1 h hGσ hS _ _ _ hH (lv_sub (l' := [(0, .ref rm), (2, .int (i32 0)), (3, .int (i32 v1))]) hl [2, 1, 0] rfl) hc
theorem ok_X16_operatorOfOutput (hT : Tys cA tys) {Q : Sg → Int → Prop} {X : Sg → String → Prop} (σ : Sg) (v1 : Int) (g1 : rng v1) (hG : RG σ) (hS : Shp dm ra jx rm σ) (h : wp_X16_operatorOfOutput ra jx rm v1 σ Q X) : Ok l D cA tys A yX16_operatorOfOutput (.code yX16_operatorOfOutput cX16_operatorOfOutput 4 (some .int)) 0 0 [.ref rm, .int (i32 v1)] σ (QnI dm ra jx rm Q) (QxR dm ra jx rm X) := by
  unfold wp_X16_operatorOfOutput at h
  exact ok_I (plainFor_of_name (by decide)) (by exact Nat.le_of_ble_eq_true rfl) hT (fun p e R s m args below meth c K hQ hX H locs ls hH hl hc => a_X16_operatorOfOutput_0 K hQ hX σ v1 g1 h hG hS H locs ls hH (lv_sub (l' := [(0, .ref rm), (1, .int (i32 v1))]) hl [0, 1] rfl) hc)
theorem dX16_isShown_0 : decode cX16_isShown 0 = .ok (.aload_n 0, 1) := by decide +kernel
theorem dX16_isShown_1 : decode cX16_isShown 1 = .ok (.iload_n 1, 1) := by decide +kernel
theorem dX16_isShown_2 : decode cX16_isShown 2 = .ok (.invokevirtual 682, 3) := by decide +kernel
theorem dX16_isShown_5 : decode cX16_isShown 5 = .ok (.istore_n 2, 1) := by decide +kernel
theorem dX16_isShown_6 : decode cX16_isShown 6 = .ok (.aload_n 0, 1) := by decide +kernel
theorem dX16_isShown_7 : decode cX16_isShown 7 = .ok (.getfield 356, 3) := by decide +kernel
theorem dX16_isShown_10 : decode cX16_isShown 10 = .ok (.getfield 216, 3) := by decide +kernel
theorem dX16_isShown_13 : decode cX16_isShown 13 = .ok (.iload_n 2, 1) := by decide +kernel
theorem dX16_isShown_14 : decode cX16_isShown 14 = .ok (.iaload, 1) := by decide +kernel
theorem dX16_isShown_15 : decode cX16_isShown 15 = .ok (.istore_n 3, 1) := by decide +kernel
theorem dX16_isShown_16 : decode cX16_isShown 16 = .ok (.aload_n 0, 1) := by decide +kernel
theorem dX16_isShown_17 : decode cX16_isShown 17 = .ok (.getfield 874, 3) := by decide +kernel
theorem dX16_isShown_20 : decode cX16_isShown 20 = .ok (.iload_n 3, 1) := by decide +kernel
theorem dX16_isShown_21 : decode cX16_isShown 21 = .ok (.iconst 1, 1) := by decide +kernel
theorem dX16_isShown_22 : decode cX16_isShown 22 = .ok (.iadd, 1) := by decide +kernel
theorem dX16_isShown_23 : decode cX16_isShown 23 = .ok (.iaload, 1) := by decide +kernel
theorem dX16_isShown_24 : decode cX16_isShown 24 = .ok (.aload_n 0, 1) := by decide +kernel
theorem dX16_isShown_25 : decode cX16_isShown 25 = .ok (.getfield 874, 3) := by decide +kernel
theorem dX16_isShown_28 : decode cX16_isShown 28 = .ok (.iload_n 3, 1) := by decide +kernel
theorem dX16_isShown_29 : decode cX16_isShown 29 = .ok (.iaload, 1) := by decide +kernel
theorem dX16_isShown_30 : decode cX16_isShown 30 = .ok (.isub, 1) := by decide +kernel
theorem dX16_isShown_31 : decode cX16_isShown 31 = .ok (.istore 4, 2) := by decide +kernel
theorem dX16_isShown_33 : decode cX16_isShown 33 = .ok (.aload_n 0, 1) := by decide +kernel
theorem dX16_isShown_34 : decode cX16_isShown 34 = .ok (.getfield 667, 3) := by decide +kernel
theorem dX16_isShown_37 : decode cX16_isShown 37 = .ok (.iconst 3, 1) := by decide +kernel
theorem dX16_isShown_38 : decode cX16_isShown 38 = .ok (.iload_n 1, 1) := by decide +kernel
theorem dX16_isShown_39 : decode cX16_isShown 39 = .ok (.imul, 1) := by decide +kernel
theorem dX16_isShown_40 : decode cX16_isShown 40 = .ok (.iconst 2, 1) := by decide +kernel
theorem dX16_isShown_41 : decode cX16_isShown 41 = .ok (.iadd, 1) := by decide +kernel
theorem dX16_isShown_42 : decode cX16_isShown 42 = .ok (.iaload, 1) := by decide +kernel
theorem dX16_isShown_43 : decode cX16_isShown 43 = .ok (.iload 4, 2) := by decide +kernel
theorem dX16_isShown_45 : decode cX16_isShown 45 = .ok (.if_icmp .ne 7, 3) := by decide +kernel
theorem dX16_isShown_48 : decode cX16_isShown 48 = .ok (.iconst 1, 1) := by decide +kernel
theorem dX16_isShown_49 : decode cX16_isShown 49 = .ok (.goto 4, 3) := by decide +kernel
theorem dX16_isShown_52 : decode cX16_isShown 52 = .ok (.iconst 0, 1) := by decide +kernel
theorem dX16_isShown_53 : decode cX16_isShown 53 = .ok (.istore 5, 2) := by decide +kernel
theorem dX16_isShown_55 : decode cX16_isShown 55 = .ok (.iconst 0, 1) := by decide +kernel
theorem dX16_isShown_56 : decode cX16_isShown 56 = .ok (.istore 6, 2) := by decide +kernel
theorem dX16_isShown_58 : decode cX16_isShown 58 = .ok (.iload 6, 2) := by decide +kernel
theorem dX16_isShown_60 : decode cX16_isShown 60 = .ok (.iload 4, 2) := by decide +kernel
theorem dX16_isShown_62 : decode cX16_isShown 62 = .ok (.if_icmp .ge 17, 3) := by decide +kernel
theorem dX16_isShown_65 : decode cX16_isShown 65 = .ok (.aload_n 0, 1) := by decide +kernel
theorem dX16_isShown_66 : decode cX16_isShown 66 = .ok (.getfield 897, 3) := by decide +kernel
theorem dX16_isShown_69 : decode cX16_isShown 69 = .ok (.iload 6, 2) := by decide +kernel
theorem dX16_isShown_71 : decode cX16_isShown 71 = .ok (.iconst 0, 1) := by decide +kernel
theorem dX16_isShown_72 : decode cX16_isShown 72 = .ok (.bastore, 1) := by decide +kernel
theorem dX16_isShown_73 : decode cX16_isShown 73 = .ok (.iinc 6 1, 3) := by decide +kernel
theorem dX16_isShown_76 : decode cX16_isShown 76 = .ok (.goto (-18), 3) := by decide +kernel
theorem dX16_isShown_79 : decode cX16_isShown 79 = .ok (.aload_n 0, 1) := by decide +kernel
theorem dX16_isShown_80 : decode cX16_isShown 80 = .ok (.getfield 661, 3) := by decide +kernel
theorem dX16_isShown_83 : decode cX16_isShown 83 = .ok (.iconst 3, 1) := by decide +kernel
theorem dX16_isShown_84 : decode cX16_isShown 84 = .ok (.iload_n 1, 1) := by decide +kernel
theorem dX16_isShown_85 : decode cX16_isShown 85 = .ok (.imul, 1) := by decide +kernel
theorem dX16_isShown_86 : decode cX16_isShown 86 = .ok (.iconst 2, 1) := by decide +kernel
theorem dX16_isShown_87 : decode cX16_isShown 87 = .ok (.iadd, 1) := by decide +kernel
theorem dX16_isShown_88 : decode cX16_isShown 88 = .ok (.iaload, 1) := by decide +kernel
theorem dX16_isShown_89 : decode cX16_isShown 89 = .ok (.istore 6, 2) := by decide +kernel
theorem dX16_isShown_91 : decode cX16_isShown 91 = .ok (.iload 6, 2) := by decide +kernel
theorem dX16_isShown_93 : decode cX16_isShown 93 = .ok (.iconst (-1), 1) := by decide +kernel
theorem dX16_isShown_94 : decode cX16_isShown 94 = .ok (.if_icmp .eq 148, 3) := by decide +kernel
theorem dX16_isShown_97 : decode cX16_isShown 97 = .ok (.iload 5, 2) := by decide +kernel
theorem dX16_isShown_99 : decode cX16_isShown 99 = .ok (.ifCond .eq 143, 3) := by decide +kernel
theorem dX16_isShown_102 : decode cX16_isShown 102 = .ok (.iconst (-1), 1) := by decide +kernel
theorem dX16_isShown_103 : decode cX16_isShown 103 = .ok (.istore 7, 2) := by decide +kernel
theorem dX16_isShown_105 : decode cX16_isShown 105 = .ok (.iconst 0, 1) := by decide +kernel
theorem dX16_isShown_106 : decode cX16_isShown 106 = .ok (.istore 8, 2) := by decide +kernel
theorem dX16_isShown_108 : decode cX16_isShown 108 = .ok (.iload 8, 2) := by decide +kernel
theorem dX16_isShown_110 : decode cX16_isShown 110 = .ok (.iload 4, 2) := by decide +kernel
theorem dX16_isShown_112 : decode cX16_isShown 112 = .ok (.if_icmp .ge 92, 3) := by decide +kernel
theorem dX16_isShown_115 : decode cX16_isShown 115 = .ok (.iload 7, 2) := by decide +kernel
theorem dX16_isShown_117 : decode cX16_isShown 117 = .ok (.iconst (-1), 1) := by decide +kernel
theorem dX16_isShown_118 : decode cX16_isShown 118 = .ok (.if_icmp .ne 86, 3) := by decide +kernel
theorem dX16_isShown_121 : decode cX16_isShown 121 = .ok (.aload_n 0, 1) := by decide +kernel
theorem dX16_isShown_122 : decode cX16_isShown 122 = .ok (.getfield 874, 3) := by decide +kernel
theorem dX16_isShown_125 : decode cX16_isShown 125 = .ok (.iload_n 3, 1) := by decide +kernel
theorem dX16_isShown_126 : decode cX16_isShown 126 = .ok (.iaload, 1) := by decide +kernel
theorem dX16_isShown_127 : decode cX16_isShown 127 = .ok (.iload 8, 2) := by decide +kernel
theorem dX16_isShown_129 : decode cX16_isShown 129 = .ok (.iadd, 1) := by decide +kernel
theorem dX16_isShown_130 : decode cX16_isShown 130 = .ok (.istore 9, 2) := by decide +kernel
theorem dX16_isShown_132 : decode cX16_isShown 132 = .ok (.aload_n 0, 1) := by decide +kernel
theorem dX16_isShown_133 : decode cX16_isShown 133 = .ok (.getfield 897, 3) := by decide +kernel
theorem dX16_isShown_136 : decode cX16_isShown 136 = .ok (.iload 8, 2) := by decide +kernel
theorem dX16_isShown_138 : decode cX16_isShown 138 = .ok (.baload, 1) := by decide +kernel
theorem dX16_isShown_139 : decode cX16_isShown 139 = .ok (.ifCond .ne 56, 3) := by decide +kernel
theorem dX16_isShown_142 : decode cX16_isShown 142 = .ok (.aload_n 0, 1) := by decide +kernel
theorem dX16_isShown_143 : decode cX16_isShown 143 = .ok (.aload_n 0, 1) := by decide +kernel
theorem dX16_isShown_144 : decode cX16_isShown 144 = .ok (.getfield 670, 3) := by decide +kernel
theorem dX16_isShown_147 : decode cX16_isShown 147 = .ok (.iload 6, 2) := by decide +kernel
theorem dX16_isShown_149 : decode cX16_isShown 149 = .ok (.laload, 1) := by decide +kernel
theorem dX16_isShown_150 : decode cX16_isShown 150 = .ok (.aload_n 0, 1) := by decide +kernel
theorem dX16_isShown_151 : decode cX16_isShown 151 = .ok (.getfield 673, 3) := by decide +kernel
theorem dX16_isShown_154 : decode cX16_isShown 154 = .ok (.bipush 8, 2) := by decide +kernel
theorem dX16_isShown_156 : decode cX16_isShown 156 = .ok (.iload 6, 2) := by decide +kernel
theorem dX16_isShown_158 : decode cX16_isShown 158 = .ok (.imul, 1) := by decide +kernel
theorem dX16_isShown_159 : decode cX16_isShown 159 = .ok (.aload_n 0, 1) := by decide +kernel
theorem dX16_isShown_160 : decode cX16_isShown 160 = .ok (.getfield 864, 3) := by decide +kernel
theorem dX16_isShown_163 : decode cX16_isShown 163 = .ok (.iload 9, 2) := by decide +kernel
theorem dX16_isShown_165 : decode cX16_isShown 165 = .ok (.laload, 1) := by decide +kernel
theorem dX16_isShown_166 : decode cX16_isShown 166 = .ok (.aload_n 0, 1) := by decide +kernel
theorem dX16_isShown_167 : decode cX16_isShown 167 = .ok (.getfield 867, 3) := by decide +kernel
theorem dX16_isShown_170 : decode cX16_isShown 170 = .ok (.bipush 8, 2) := by decide +kernel
theorem dX16_isShown_172 : decode cX16_isShown 172 = .ok (.iload 9, 2) := by decide +kernel
theorem dX16_isShown_174 : decode cX16_isShown 174 = .ok (.imul, 1) := by decide +kernel
theorem dX16_isShown_175 : decode cX16_isShown 175 = .ok (.aload_n 0, 1) := by decide +kernel
theorem dX16_isShown_176 : decode cX16_isShown 176 = .ok (.getfield 356, 3) := by decide +kernel
theorem dX16_isShown_179 : decode cX16_isShown 179 = .ok (.getfield 178, 3) := by decide +kernel
theorem dX16_isShown_182 : decode cX16_isShown 182 = .ok (.iload_n 3, 1) := by decide +kernel
theorem dX16_isShown_183 : decode cX16_isShown 183 = .ok (.iaload, 1) := by decide +kernel
theorem dX16_isShown_184 : decode cX16_isShown 184 = .ok (.invokevirtual 534, 3) := by decide +kernel
theorem dX16_isShown_187 : decode cX16_isShown 187 = .ok (.ifCond .ne 8, 3) := by decide +kernel
theorem dX16_isShown_190 : decode cX16_isShown 190 = .ok (.iload 8, 2) := by decide +kernel
theorem dX16_isShown_192 : decode cX16_isShown 192 = .ok (.goto 4, 3) := by decide +kernel
theorem dX16_isShown_195 : decode cX16_isShown 195 = .ok (.iconst (-1), 1) := by decide +kernel
theorem dX16_isShown_196 : decode cX16_isShown 196 = .ok (.istore 7, 2) := by decide +kernel
theorem dX16_isShown_198 : decode cX16_isShown 198 = .ok (.iinc 8 1, 3) := by decide +kernel
theorem dX16_isShown_201 : decode cX16_isShown 201 = .ok (.goto (-93), 3) := by decide +kernel
theorem dX16_isShown_204 : decode cX16_isShown 204 = .ok (.iload 7, 2) := by decide +kernel
theorem dX16_isShown_206 : decode cX16_isShown 206 = .ok (.iconst (-1), 1) := by decide +kernel
theorem dX16_isShown_207 : decode cX16_isShown 207 = .ok (.if_icmp .eq 7, 3) := by decide +kernel
theorem dX16_isShown_210 : decode cX16_isShown 210 = .ok (.iconst 1, 1) := by decide +kernel
theorem dX16_isShown_211 : decode cX16_isShown 211 = .ok (.goto 4, 3) := by decide +kernel
theorem dX16_isShown_214 : decode cX16_isShown 214 = .ok (.iconst 0, 1) := by decide +kernel
theorem dX16_isShown_215 : decode cX16_isShown 215 = .ok (.istore 5, 2) := by decide +kernel
theorem dX16_isShown_217 : decode cX16_isShown 217 = .ok (.iload 5, 2) := by decide +kernel
theorem dX16_isShown_219 : decode cX16_isShown 219 = .ok (.ifCond .eq 11, 3) := by decide +kernel
theorem dX16_isShown_222 : decode cX16_isShown 222 = .ok (.aload_n 0, 1) := by decide +kernel
theorem dX16_isShown_223 : decode cX16_isShown 223 = .ok (.getfield 897, 3) := by decide +kernel
theorem dX16_isShown_226 : decode cX16_isShown 226 = .ok (.iload 7, 2) := by decide +kernel
theorem dX16_isShown_228 : decode cX16_isShown 228 = .ok (.iconst 1, 1) := by decide +kernel
theorem dX16_isShown_229 : decode cX16_isShown 229 = .ok (.bastore, 1) := by decide +kernel
theorem dX16_isShown_230 : decode cX16_isShown 230 = .ok (.aload_n 0, 1) := by decide +kernel
theorem dX16_isShown_231 : decode cX16_isShown 231 = .ok (.getfield 652, 3) := by decide +kernel
theorem dX16_isShown_234 : decode cX16_isShown 234 = .ok (.iload 6, 2) := by decide +kernel
theorem dX16_isShown_236 : decode cX16_isShown 236 = .ok (.iaload, 1) := by decide +kernel
theorem dX16_isShown_237 : decode cX16_isShown 237 = .ok (.istore 6, 2) := by decide +kernel
theorem dX16_isShown_239 : decode cX16_isShown 239 = .ok (.goto (-148), 3) := by decide +kernel
theorem dX16_isShown_242 : decode cX16_isShown 242 = .ok (.iload 5, 2) := by decide +kernel
theorem dX16_isShown_244 : decode cX16_isShown 244 = .ok (.ireturn, 1) := by decide +kernel
set_option maxRecDepth 20000 in
theorem a_X16_isShown_242 {Q : Sg → Int → Prop} {X : Sg → String → Prop} (K : MC R p s m args c cX16_isShown 10 RX16 D cA tys A n0 s0 1 30 []) (hQ : HQZ p l e R s m args below meth c cX16_isShown D cA A n0 s0 QM dm ra jx rm Q) (hX : HX p l e R s m args below meth c 10 D cA A n0 s0 QM dm ra jx rm X) : ∀ (σ : Sg) (v5 : Int) (g5 : rng v5), w_X16_isShown_242 ra jx rm Q X σ v5 → RG σ → Shp dm ra jx rm σ → JJ p l e R s m args below meth c 10 D cA A n0 s0 QM σ 242 [(0, .ref rm), (5, .int (i32 v5))] [] := by
  intro σ v5 g5 h hGσ hS H locs ls hH hl hc
  have B := K.1
  unfold w_X16_isShown_242 at h
  refine lv_iload B.1 B.2.1 dX16_isShown_242 (lv_at hl 1 rfl) ?_
  obtain ⟨qz, h⟩ := h
  exact hQ _ _ _ _ _ _ g5 qz dX16_isShown_244 hH hc h hGσ hS
set_option maxRecDepth 20000 in
theorem a_X16_isShown_230 {Q : Sg → Int → Prop} {X : Sg → String → Prop} (K : MC R p s m args c cX16_isShown 10 RX16 D cA tys A n0 s0 1 30 []) (hQ : HQZ p l e R s m args below meth c cX16_isShown D cA A n0 s0 QM dm ra jx rm Q) (hX : HX p l e R s m args below meth c 10 D cA A n0 s0 QM dm ra jx rm X) {K91 : Sg → Int → Int → Int → Int → Prop} (hK91 : ∀ (σ : Sg) (v3 : Int) (v4 : Int) (v5 : Int) (v6 : Int) (g3 : rng v3) (g4 : rng v4) (g5 : rng v5) (g6 : rng v6), K91 σ v3 v4 v5 v6 → RG σ → Shp dm ra jx rm σ → JJ p l e R s m args below meth c 10 D cA A n0 s0 QM σ 91 [(0, .ref rm), (3, .int (i32 v3)), (4, .int (i32 v4)), (5, .int (i32 v5)), (6, .int (i32 v6))] []) : ∀ (σ : Sg) (v3 : Int) (v4 : Int) (v5 : Int) (v6 : Int) (g3 : rng v3) (g4 : rng v4) (g5 : rng v5) (g6 : rng v6), w_X16_isShown_230 ra jx rm K91 Q X σ v3 v4 v5 v6 → RG σ → Shp dm ra jx rm σ → JJ p l e R s m args below meth c 10 D cA A n0 s0 QM σ 230 [(0, .ref rm), (3, .int (i32 v3)), (4, .int (i32 v4)), (5, .int (i32 v5)), (6, .int (i32 v6))] [] := by
  intro σ v3 v4 v5 v6 g3 g4 g5 g6 h hGσ hS H locs ls hH hl hc
  have B := K.1
  unfold w_X16_isShown_230 at h
  refine lv_aload_n B.1 B.2.1 dX16_isShown_230 rfl (lv_at hl 0 rfl) ?_
  refine r_arr B hH hS 86 (kd := 100) (n := 2000) (by decide) (by decide) wf_X16_652 rfl rfl dX16_isShown_231 ?_
  refine lv_iload B.1 B.2.1 dX16_isShown_234 (lv_at hl 4 rfl) ?_
  obtain ⟨q1, h⟩ := h
  refine x_iald B K.2.1 hH (hS.ar (k := 86) (kd := 100) (n := 2000) (by decide)) (by decide) q1 dX16_isShown_236 ?_
  refine lv_istore (lv' := [(6, .int (i32 (gI σ (ra 86) v6.toNat))), (0, .ref rm), (3, .int (i32 v3)), (4, .int (i32 v4)), (5, .int (i32 v5))]) B.1 B.2.1 dX16_isShown_237 hl (by decide) rfl (fun ls hl => ?_)
  refine lv_goto (tgt := 91) B.1 B.2.1 dX16_isShown_239 (by decide) ?_
  exact hK91 _ _ _ _ _ g3 g4 g5 (hGσ _ _) h hGσ hS _ _ _ hH (lv_sub (l' := [(0, .ref rm), (3, .int (i32 v3)), (4, .int (i32 v4)), (5, .int (i32 v5)), (6, .int (i32 (gI σ (ra 86) v6.toNat)))]) hl [1, 2, 3, 4, 0] rfl) hc
set_option maxRecDepth 20000 in
theorem a_X16_isShown_222 {Q : Sg → Int → Prop} {X : Sg → String → Prop} (K : MC R p s m args c cX16_isShown 10 RX16 D cA tys A n0 s0 1 30 []) (hQ : HQZ p l e R s m args below meth c cX16_isShown D cA A n0 s0 QM dm ra jx rm Q) (hX : HX p l e R s m args below meth c 10 D cA A n0 s0 QM dm ra jx rm X) {K91 : Sg → Int → Int → Int → Int → Prop} (hK91 : ∀ (σ : Sg) (v3 : Int) (v4 : Int) (v5 : Int) (v6 : Int) (g3 : rng v3) (g4 : rng v4) (g5 : rng v5) (g6 : rng v6), K91 σ v3 v4 v5 v6 → RG σ → Shp dm ra jx rm σ → JJ p l e R s m args below meth c 10 D cA A n0 s0 QM σ 91 [(0, .ref rm), (3, .int (i32 v3)), (4, .int (i32 v4)), (5, .int (i32 v5)), (6, .int (i32 v6))] []) : ∀ (σ : Sg) (v3 : Int) (v4 : Int) (v5 : Int) (v6 : Int) (v7 : Int) (g3 : rng v3) (g4 : rng v4) (g5 : rng v5) (g6 : rng v6) (g7 : rng v7), w_X16_isShown_222 ra jx rm K91 Q X σ v3 v4 v5 v6 v7 → RG σ → Shp dm ra jx rm σ → JJ p l e R s m args below meth c 10 D cA A n0 s0 QM σ 222 [(0, .ref rm), (3, .int (i32 v3)), (4, .int (i32 v4)), (5, .int (i32 v5)), (6, .int (i32 v6)), (7, .int (i32 v7))] [] := by
  intro σ v3 v4 v5 v6 v7 g3 g4 g5 g6 g7 h hGσ hS H locs ls hH hl hc
  have B := K.1
  unfold w_X16_isShown_222 at h
  refine lv_aload_n B.1 B.2.1 dX16_isShown_222 rfl (lv_at hl 0 rfl) ?_
  refine r_arr B hH hS 120 (kd := 103) (n := 4000) (by decide) (by decide) wf_X16_897 rfl rfl dX16_isShown_223 ?_
  refine lv_iload B.1 B.2.1 dX16_isShown_226 (lv_at hl 5 rfl) ?_
  refine lv_iconst (v := i32 1) B.1 B.2.1 dX16_isShown_228 (by decide) ?_
  obtain ⟨q1, h⟩ := h
  obtain ⟨σ17, eσ17⟩ : ∃ z, z = pI σ (ra 120) v7.toNat (nZ 1) := ⟨_, rfl⟩
  have h := h σ17 eσ17
  refine x_zast B K.2.1 hH (hS.ar (k := 120) (kd := 103) (n := 4000) (by decide)) (by decide) q1 dX16_isShown_229 (fun H locs hH => ?_)
  have hH : Hd D cA A s (pI σ (ra 120) v7.toNat (nZ 1)) H locs := hH
  rw [← eσ17] at hH
  have hGσ17 : RG σ17 := by rw [eσ17]; exact hGσ.pI (rng_toInt _)
  have hS : Shp dm ra jx rm σ17 := by rw [eσ17]; exact hS
  have hc : CB n0 s0 σ17 := by rw [eσ17]; exact hc
  rw [show gc σ = gc σ17 by rw [eσ17], show gs σ = gs σ17 by rw [eσ17]]
  exact a_X16_isShown_230 K hQ hX hK91 _ _ _ _ _ g3 g4 g5 g6 h hGσ17 hS _ _ _ hH (lv_sub (l' := [(0, .ref rm), (3, .int (i32 v3)), (4, .int (i32 v4)), (5, .int (i32 v5)), (6, .int (i32 v6))]) hl [0, 1, 2, 3, 4] rfl) hc
set_option maxRecDepth 20000 in
theorem a_X16_isShown_215 {Q : Sg → Int → Prop} {X : Sg → String → Prop} (K : MC R p s m args c cX16_isShown 10 RX16 D cA tys A n0 s0 1 30 []) (hQ : HQZ p l e R s m args below meth c cX16_isShown D cA A n0 s0 QM dm ra jx rm Q) (hX : HX p l e R s m args below meth c 10 D cA A n0 s0 QM dm ra jx rm X) {K91 : Sg → Int → Int → Int → Int → Prop} (hK91 : ∀ (σ : Sg) (v3 : Int) (v4 : Int) (v5 : Int) (v6 : Int) (g3 : rng v3) (g4 : rng v4) (g5 : rng v5) (g6 : rng v6), K91 σ v3 v4 v5 v6 → RG σ → Shp dm ra jx rm σ → JJ p l e R s m args below meth c 10 D cA A n0 s0 QM σ 91 [(0, .ref rm), (3, .int (i32 v3)), (4, .int (i32 v4)), (5, .int (i32 v5)), (6, .int (i32 v6))] []) : ∀ (σ : Sg) (v3 : Int) (v4 : Int) (v6 : Int) (v7 : Int) (u0 : Int) (g3 : rng v3) (g4 : rng v4) (g6 : rng v6) (g7 : rng v7) (gu0 : rng u0), w_X16_isShown_215 ra jx rm K91 Q X σ v3 v4 v6 v7 u0 → RG σ → Shp dm ra jx rm σ → JJ p l e R s m args below meth c 10 D cA A n0 s0 QM σ 215 [(0, .ref rm), (3, .int (i32 v3)), (4, .int (i32 v4)), (6, .int (i32 v6)), (7, .int (i32 v7))] [.int (i32 u0)] := by
  intro σ v3 v4 v6 v7 u0 g3 g4 g6 g7 gu0 h hGσ hS H locs ls hH hl hc
  have B := K.1
  unfold w_X16_isShown_215 at h
  refine lv_istore (lv' := [(5, .int (i32 u0)), (0, .ref rm), (3, .int (i32 v3)), (4, .int (i32 v4)), (6, .int (i32 v6)), (7, .int (i32 v7))]) B.1 B.2.1 dX16_isShown_215 hl (by decide) rfl (fun ls hl => ?_)
  refine lv_iload B.1 B.2.1 dX16_isShown_217 (lv_at hl 0 rfl) ?_
  refine lv_if_eq (tgt := 230) B.1 B.2.1 dX16_isShown_219 (by decide) (fun h9 => ?_) (fun h9 => ?_)
  · rw [if_pos ((z_eq gu0).mp h9)] at h
    exact a_X16_isShown_230 K hQ hX hK91 _ _ _ _ _ g3 g4 gu0 g6 h hGσ hS _ _ _ hH (lv_sub (l' := [(0, .ref rm), (3, .int (i32 v3)), (4, .int (i32 v4)), (5, .int (i32 u0)), (6, .int (i32 v6))]) hl [1, 2, 3, 0, 4] rfl) hc
  · rw [if_neg (fun q => h9 ((z_eq gu0).mpr q))] at h
    exact a_X16_isShown_222 K hQ hX hK91 _ _ _ _ _ _ g3 g4 gu0 g6 g7 h hGσ hS _ _ _ hH (lv_sub (l' := [(0, .ref rm), (3, .int (i32 v3)), (4, .int (i32 v4)), (5, .int (i32 u0)), (6, .int (i32 v6)), (7, .int (i32 v7))]) hl [1, 2, 3, 0, 4, 5] rfl) hc
set_option maxRecDepth 20000 in
theorem a_X16_isShown_214 {Q : Sg → Int → Prop} {X : Sg → String → Prop} (K : MC R p s m args c cX16_isShown 10 RX16 D cA tys A n0 s0 1 30 []) (hQ : HQZ p l e R s m args below meth c cX16_isShown D cA A n0 s0 QM dm ra jx rm Q) (hX : HX p l e R s m args below meth c 10 D cA A n0 s0 QM dm ra jx rm X) {K91 : Sg → Int → Int → Int → Int → Prop} (hK91 : ∀ (σ : Sg) (v3 : Int) (v4 : Int) (v5 : Int) (v6 : Int) (g3 : rng v3) (g4 : rng v4) (g5 : rng v5) (g6 : rng v6), K91 σ v3 v4 v5 v6 → RG σ → Shp dm ra jx rm σ → JJ p l e R s m args below meth c 10 D cA A n0 s0 QM σ 91 [(0, .ref rm), (3, .int (i32 v3)), (4, .int (i32 v4)), (5, .int (i32 v5)), (6, .int (i32 v6))] []) : ∀ (σ : Sg) (v3 : Int) (v4 : Int) (v6 : Int) (v7 : Int) (g3 : rng v3) (g4 : rng v4) (g6 : rng v6) (g7 : rng v7), w_X16_isShown_214 ra jx rm K91 Q X σ v3 v4 v6 v7 → RG σ → Shp dm ra jx rm σ → JJ p l e R s m args below meth c 10 D cA A n0 s0 QM σ 214 [(0, .ref rm), (3, .int (i32 v3)), (4, .int (i32 v4)), (6, .int (i32 v6)), (7, .int (i32 v7))] [] := by
  intro σ v3 v4 v6 v7 g3 g4 g6 g7 h hGσ hS H locs ls hH hl hc
  have B := K.1
  unfold w_X16_isShown_214 at h
  refine lv_iconst (v := i32 0) B.1 B.2.1 dX16_isShown_214 (by decide) ?_
  exact a_X16_isShown_215 K hQ hX hK91 _ _ _ _ _ _ g3 g4 g6 g7 (by unfold rng; omega) h hGσ hS _ _ _ hH (lv_sub (l' := [(0, .ref rm), (3, .int (i32 v3)), (4, .int (i32 v4)), (6, .int (i32 v6)), (7, .int (i32 v7))]) hl [0, 1, 2, 3, 4] rfl) hc
set_option maxRecDepth 20000 in
theorem a_X16_isShown_210 {Q : Sg → Int → Prop} {X : Sg → String → Prop} (K : MC R p s m args c cX16_isShown 10 RX16 D cA tys A n0 s0 1 30 []) (hQ : HQZ p l e R s m args below meth c cX16_isShown D cA A n0 s0 QM dm ra jx rm Q) (hX : HX p l e R s m args below meth c 10 D cA A n0 s0 QM dm ra jx rm X) {K91 : Sg → Int → Int → Int → Int → Prop} (hK91 : ∀ (σ : Sg) (v3 : Int) (v4 : Int) (v5 : Int) (v6 : Int) (g3 : rng v3) (g4 : rng v4) (g5 : rng v5) (g6 : rng v6), K91 σ v3 v4 v5 v6 → RG σ → Shp dm ra jx rm σ → JJ p l e R s m args below meth c 10 D cA A n0 s0 QM σ 91 [(0, .ref rm), (3, .int (i32 v3)), (4, .int (i32 v4)), (5, .int (i32 v5)), (6, .int (i32 v6))] []) : ∀ (σ : Sg) (v3 : Int) (v4 : Int) (v6 : Int) (v7 : Int) (g3 : rng v3) (g4 : rng v4) (g6 : rng v6) (g7 : rng v7), w_X16_isShown_210 ra jx rm K91 Q X σ v3 v4 v6 v7 → RG σ → Shp dm ra jx rm σ → JJ p l e R s m args below meth c 10 D cA A n0 s0 QM σ 210 [(0, .ref rm), (3, .int (i32 v3)), (4, .int (i32 v4)), (6, .int (i32 v6)), (7, .int (i32 v7))] [] := by
  intro σ v3 v4 v6 v7 g3 g4 g6 g7 h hGσ hS H locs ls hH hl hc
  have B := K.1
  unfold w_X16_isShown_210 at h
  refine lv_iconst (v := i32 1) B.1 B.2.1 dX16_isShown_210 (by decide) ?_
  refine lv_goto (tgt := 215) B.1 B.2.1 dX16_isShown_211 (by decide) ?_
  exact a_X16_isShown_215 K hQ hX hK91 _ _ _ _ _ _ g3 g4 g6 g7 (by unfold rng; omega) h hGσ hS _ _ _ hH (lv_sub (l' := [(0, .ref rm), (3, .int (i32 v3)), (4, .int (i32 v4)), (6, .int (i32 v6)), (7, .int (i32 v7))]) hl [0, 1, 2, 3, 4] rfl) hc
set_option maxRecDepth 20000 in
theorem a_X16_isShown_204 {Q : Sg → Int → Prop} {X : Sg → String → Prop} (K : MC R p s m args c cX16_isShown 10 RX16 D cA tys A n0 s0 1 30 []) (hQ : HQZ p l e R s m args below meth c cX16_isShown D cA A n0 s0 QM dm ra jx rm Q) (hX : HX p l e R s m args below meth c 10 D cA A n0 s0 QM dm ra jx rm X) {K91 : Sg → Int → Int → Int → Int → Prop} (hK91 : ∀ (σ : Sg) (v3 : Int) (v4 : Int) (v5 : Int) (v6 : Int) (g3 : rng v3) (g4 : rng v4) (g5 : rng v5) (g6 : rng v6), K91 σ v3 v4 v5 v6 → RG σ → Shp dm ra jx rm σ → JJ p l e R s m args below meth c 10 D cA A n0 s0 QM σ 91 [(0, .ref rm), (3, .int (i32 v3)), (4, .int (i32 v4)), (5, .int (i32 v5)), (6, .int (i32 v6))] []) : ∀ (σ : Sg) (v3 : Int) (v4 : Int) (v6 : Int) (v7 : Int) (g3 : rng v3) (g4 : rng v4) (g6 : rng v6) (g7 : rng v7), w_X16_isShown_204 ra jx rm K91 Q X σ v3 v4 v6 v7 → RG σ → Shp dm ra jx rm σ → JJ p l e R s m args below meth c 10 D cA A n0 s0 QM σ 204 [(0, .ref rm), (3, .int (i32 v3)), (4, .int (i32 v4)), (6, .int (i32 v6)), (7, .int (i32 v7))] [] := by
  intro σ v3 v4 v6 v7 g3 g4 g6 g7 h hGσ hS H locs ls hH hl hc
  have B := K.1
  unfold w_X16_isShown_204 at h
  refine lv_iload B.1 B.2.1 dX16_isShown_204 (lv_at hl 4 rfl) ?_
  refine lv_iconst (v := i32 (-1)) B.1 B.2.1 dX16_isShown_206 (by decide) ?_
  refine lv_icmp_eq (tgt := 214) B.1 B.2.1 dX16_isShown_207 (by decide) (fun h9 => ?_) (fun h9 => ?_)
  · rw [if_pos ((i32_eq g7 (by unfold rng; omega)).mp h9)] at h
    exact a_X16_isShown_214 K hQ hX hK91 _ _ _ _ _ g3 g4 g6 g7 h hGσ hS _ _ _ hH (lv_sub (l' := [(0, .ref rm), (3, .int (i32 v3)), (4, .int (i32 v4)), (6, .int (i32 v6)), (7, .int (i32 v7))]) hl [0, 1, 2, 3, 4] rfl) hc
  · rw [if_neg (fun q => h9 ((i32_eq g7 (by unfold rng; omega)).mpr q))] at h
    exact a_X16_isShown_210 K hQ hX hK91 _ _ _ _ _ g3 g4 g6 g7 h hGσ hS _ _ _ hH (lv_sub (l' := [(0, .ref rm), (3, .int (i32 v3)), (4, .int (i32 v4)), (6, .int (i32 v6)), (7, .int (i32 v7))]) hl [0, 1, 2, 3, 4] rfl) hc
set_option maxRecDepth 20000 in
theorem a_X16_isShown_196 {Q : Sg → Int → Prop} {X : Sg → String → Prop} (K : MC R p s m args c cX16_isShown 10 RX16 D cA tys A n0 s0 1 30 []) (hQ : HQZ p l e R s m args below meth c cX16_isShown D cA A n0 s0 QM dm ra jx rm Q) (hX : HX p l e R s m args below meth c 10 D cA A n0 s0 QM dm ra jx rm X) {K91 : Sg → Int → Int → Int → Int → Prop} (hK91 : ∀ (σ : Sg) (v3 : Int) (v4 : Int) (v5 : Int) (v6 : Int) (g3 : rng v3) (g4 : rng v4) (g5 : rng v5) (g6 : rng v6), K91 σ v3 v4 v5 v6 → RG σ → Shp dm ra jx rm σ → JJ p l e R s m args below meth c 10 D cA A n0 s0 QM σ 91 [(0, .ref rm), (3, .int (i32 v3)), (4, .int (i32 v4)), (5, .int (i32 v5)), (6, .int (i32 v6))] []) {K108 : Sg → Int → Int → Int → Int → Int → Prop} (hK108 : ∀ (σ : Sg) (v3 : Int) (v4 : Int) (v6 : Int) (v7 : Int) (v8 : Int) (g3 : rng v3) (g4 : rng v4) (g6 : rng v6) (g7 : rng v7) (g8 : rng v8), K108 σ v3 v4 v6 v7 v8 → RG σ → Shp dm ra jx rm σ → JJ p l e R s m args below meth c 10 D cA A n0 s0 QM σ 108 [(0, .ref rm), (3, .int (i32 v3)), (4, .int (i32 v4)), (6, .int (i32 v6)), (7, .int (i32 v7)), (8, .int (i32 v8))] []) : ∀ (σ : Sg) (v3 : Int) (v4 : Int) (v6 : Int) (v8 : Int) (u0 : Int) (g3 : rng v3) (g4 : rng v4) (g6 : rng v6) (g8 : rng v8) (gu0 : rng u0), w_X16_isShown_196 ra jx rm K91 K108 Q X σ v3 v4 v6 v8 u0 → RG σ → Shp dm ra jx rm σ → JJ p l e R s m args below meth c 10 D cA A n0 s0 QM σ 196 [(0, .ref rm), (3, .int (i32 v3)), (4, .int (i32 v4)), (6, .int (i32 v6)), (8, .int (i32 v8))] [.int (i32 u0)] := by
  intro σ v3 v4 v6 v8 u0 g3 g4 g6 g8 gu0 h hGσ hS H locs ls hH hl hc
  have B := K.1
  unfold w_X16_isShown_196 at h
  refine lv_istore (lv' := [(7, .int (i32 u0)), (0, .ref rm), (3, .int (i32 v3)), (4, .int (i32 v4)), (6, .int (i32 v6)), (8, .int (i32 v8))]) B.1 B.2.1 dX16_isShown_196 hl (by decide) rfl (fun ls hl => ?_)
  obtain ⟨q1, h⟩ := h
  refine lv_iinc (k := 5) (v := i32 (v8 + 1)) (lv' := [(8, .int (i32 (v8 + 1))), (7, .int (i32 u0)), (0, .ref rm), (3, .int (i32 v3)), (4, .int (i32 v4)), (6, .int (i32 v6))]) B.1 B.2.1 dX16_isShown_198 hl rfl (i32_add _ _) (by decide) rfl (fun ls hl => ?_)
  refine lv_goto (tgt := 108) B.1 B.2.1 dX16_isShown_201 (by decide) ?_
  exact hK108 _ _ _ _ _ _ g3 g4 g6 gu0 q1 h hGσ hS _ _ _ hH (lv_sub (l' := [(0, .ref rm), (3, .int (i32 v3)), (4, .int (i32 v4)), (6, .int (i32 v6)), (7, .int (i32 u0)), (8, .int (i32 (v8 + 1)))]) hl [2, 3, 4, 5, 1, 0] rfl) hc
set_option maxRecDepth 20000 in
theorem a_X16_isShown_195 {Q : Sg → Int → Prop} {X : Sg → String → Prop} (K : MC R p s m args c cX16_isShown 10 RX16 D cA tys A n0 s0 1 30 []) (hQ : HQZ p l e R s m args below meth c cX16_isShown D cA A n0 s0 QM dm ra jx rm Q) (hX : HX p l e R s m args below meth c 10 D cA A n0 s0 QM dm ra jx rm X) {K91 : Sg → Int → Int → Int → Int → Prop} (hK91 : ∀ (σ : Sg) (v3 : Int) (v4 : Int) (v5 : Int) (v6 : Int) (g3 : rng v3) (g4 : rng v4) (g5 : rng v5) (g6 : rng v6), K91 σ v3 v4 v5 v6 → RG σ → Shp dm ra jx rm σ → JJ p l e R s m args below meth c 10 D cA A n0 s0 QM σ 91 [(0, .ref rm), (3, .int (i32 v3)), (4, .int (i32 v4)), (5, .int (i32 v5)), (6, .int (i32 v6))] []) {K108 : Sg → Int → Int → Int → Int → Int → Prop} (hK108 : ∀ (σ : Sg) (v3 : Int) (v4 : Int) (v6 : Int) (v7 : Int) (v8 : Int) (g3 : rng v3) (g4 : rng v4) (g6 : rng v6) (g7 : rng v7) (g8 : rng v8), K108 σ v3 v4 v6 v7 v8 → RG σ → Shp dm ra jx rm σ → JJ p l e R s m args below meth c 10 D cA A n0 s0 QM σ 108 [(0, .ref rm), (3, .int (i32 v3)), (4, .int (i32 v4)), (6, .int (i32 v6)), (7, .int (i32 v7)), (8, .int (i32 v8))] []) : ∀ (σ : Sg) (v3 : Int) (v4 : Int) (v6 : Int) (v8 : Int) (g3 : rng v3) (g4 : rng v4) (g6 : rng v6) (g8 : rng v8), w_X16_isShown_195 ra jx rm K91 K108 Q X σ v3 v4 v6 v8 → RG σ → Shp dm ra jx rm σ → JJ p l e R s m args below meth c 10 D cA A n0 s0 QM σ 195 [(0, .ref rm), (3, .int (i32 v3)), (4, .int (i32 v4)), (6, .int (i32 v6)), (8, .int (i32 v8))] [] := by
  intro σ v3 v4 v6 v8 g3 g4 g6 g8 h hGσ hS H locs ls hH hl hc
  have B := K.1
  unfold w_X16_isShown_195 at h
  refine lv_iconst (v := i32 (-1)) B.1 B.2.1 dX16_isShown_195 (by decide) ?_
  exact a_X16_isShown_196 K hQ hX hK91 hK108 _ _ _ _ _ _ g3 g4 g6 g8 (by unfold rng; omega) h hGσ hS _ _ _ hH (lv_sub (l' := [(0, .ref rm), (3, .int (i32 v3)), (4, .int (i32 v4)), (6, .int (i32 v6)), (8, .int (i32 v8))]) hl [0, 1, 2, 3, 4] rfl) hc
set_option maxRecDepth 20000 in
theorem a_X16_isShown_190 {Q : Sg → Int → Prop} {X : Sg → String → Prop} (K : MC R p s m args c cX16_isShown 10 RX16 D cA tys A n0 s0 1 30 []) (hQ : HQZ p l e R s m args below meth c cX16_isShown D cA A n0 s0 QM dm ra jx rm Q) (hX : HX p l e R s m args below meth c 10 D cA A n0 s0 QM dm ra jx rm X) {K91 : Sg → Int → Int → Int → Int → Prop} (hK91 : ∀ (σ : Sg) (v3 : Int) (v4 : Int) (v5 : Int) (v6 : Int) (g3 : rng v3) (g4 : rng v4) (g5 : rng v5) (g6 : rng v6), K91 σ v3 v4 v5 v6 → RG σ → Shp dm ra jx rm σ → JJ p l e R s m args below meth c 10 D cA A n0 s0 QM σ 91 [(0, .ref rm), (3, .int (i32 v3)), (4, .int (i32 v4)), (5, .int (i32 v5)), (6, .int (i32 v6))] []) {K108 : Sg → Int → Int → Int → Int → Int → Prop} (hK108 : ∀ (σ : Sg) (v3 : Int) (v4 : Int) (v6 : Int) (v7 : Int) (v8 : Int) (g3 : rng v3) (g4 : rng v4) (g6 : rng v6) (g7 : rng v7) (g8 : rng v8), K108 σ v3 v4 v6 v7 v8 → RG σ → Shp dm ra jx rm σ → JJ p l e R s m args below meth c 10 D cA A n0 s0 QM σ 108 [(0, .ref rm), (3, .int (i32 v3)), (4, .int (i32 v4)), (6, .int (i32 v6)), (7, .int (i32 v7)), (8, .int (i32 v8))] []) : ∀ (σ : Sg) (v3 : Int) (v4 : Int) (v6 : Int) (v8 : Int) (g3 : rng v3) (g4 : rng v4) (g6 : rng v6) (g8 : rng v8), w_X16_isShown_190 ra jx rm K91 K108 Q X σ v3 v4 v6 v8 → RG σ → Shp dm ra jx rm σ → JJ p l e R s m args below meth c 10 D cA A n0 s0 QM σ 190 [(0, .ref rm), (3, .int (i32 v3)), (4, .int (i32 v4)), (6, .int (i32 v6)), (8, .int (i32 v8))] [] := by
  intro σ v3 v4 v6 v8 g3 g4 g6 g8 h hGσ hS H locs ls hH hl hc
  have B := K.1
  unfold w_X16_isShown_190 at h
  refine lv_iload B.1 B.2.1 dX16_isShown_190 (lv_at hl 4 rfl) ?_
  refine lv_goto (tgt := 196) B.1 B.2.1 dX16_isShown_192 (by decide) ?_
  exact a_X16_isShown_196 K hQ hX hK91 hK108 _ _ _ _ _ _ g3 g4 g6 g8 g8 h hGσ hS _ _ _ hH (lv_sub (l' := [(0, .ref rm), (3, .int (i32 v3)), (4, .int (i32 v4)), (6, .int (i32 v6)), (8, .int (i32 v8))]) hl [0, 1, 2, 3, 4] rfl) hc
set_option maxRecDepth 20000 in
theorem a_X16_isShown_142 {Q : Sg → Int → Prop} {X : Sg → String → Prop} (K : MC R p s m args c cX16_isShown 10 RX16 D cA tys A n0 s0 1 30 []) (hQ : HQZ p l e R s m args below meth c cX16_isShown D cA A n0 s0 QM dm ra jx rm Q) (hX : HX p l e R s m args below meth c 10 D cA A n0 s0 QM dm ra jx rm X) {K91 : Sg → Int → Int → Int → Int → Prop} (hK91 : ∀ (σ : Sg) (v3 : Int) (v4 : Int) (v5 : Int) (v6 : Int) (g3 : rng v3) (g4 : rng v4) (g5 : rng v5) (g6 : rng v6), K91 σ v3 v4 v5 v6 → RG σ → Shp dm ra jx rm σ → JJ p l e R s m args below meth c 10 D cA A n0 s0 QM σ 91 [(0, .ref rm), (3, .int (i32 v3)), (4, .int (i32 v4)), (5, .int (i32 v5)), (6, .int (i32 v6))] []) {K108 : Sg → Int → Int → Int → Int → Int → Prop} (hK108 : ∀ (σ : Sg) (v3 : Int) (v4 : Int) (v6 : Int) (v7 : Int) (v8 : Int) (g3 : rng v3) (g4 : rng v4) (g6 : rng v6) (g7 : rng v7) (g8 : rng v8), K108 σ v3 v4 v6 v7 v8 → RG σ → Shp dm ra jx rm σ → JJ p l e R s m args below meth c 10 D cA A n0 s0 QM σ 108 [(0, .ref rm), (3, .int (i32 v3)), (4, .int (i32 v4)), (6, .int (i32 v6)), (7, .int (i32 v7)), (8, .int (i32 v8))] []) : ∀ (σ : Sg) (v3 : Int) (v4 : Int) (v6 : Int) (v8 : Int) (v9 : Int) (g3 : rng v3) (g4 : rng v4) (g6 : rng v6) (g8 : rng v8) (g9 : rng v9), w_X16_isShown_142 ra jx rm K91 K108 Q X σ v3 v4 v6 v8 v9 → RG σ → Shp dm ra jx rm σ → JJ p l e R s m args below meth c 10 D cA A n0 s0 QM σ 142 [(0, .ref rm), (3, .int (i32 v3)), (4, .int (i32 v4)), (6, .int (i32 v6)), (8, .int (i32 v8)), (9, .int (i32 v9))] [] := by
  intro σ v3 v4 v6 v8 v9 g3 g4 g6 g8 g9 h hGσ hS H locs ls hH hl hc
  have B := K.1
  unfold w_X16_isShown_142 at h
  refine lv_aload_n B.1 B.2.1 dX16_isShown_142 rfl (lv_at hl 0 rfl) ?_
  refine lv_aload_n B.1 B.2.1 dX16_isShown_143 rfl (lv_at hl 0 rfl) ?_
  refine r_arr B hH hS 83 (kd := 101) (n := 2000) (by decide) (by decide) wf_X16_670 rfl rfl dX16_isShown_144 ?_
  refine lv_iload B.1 B.2.1 dX16_isShown_147 (lv_at hl 3 rfl) ?_
  obtain ⟨q1, h⟩ := h
  refine x_lald B K.2.1 hH (hS.ar (k := 83) (kd := 101) (n := 2000) (by decide)) (by decide) q1 dX16_isShown_149 ?_
  refine lv_aload_n B.1 B.2.1 dX16_isShown_150 rfl (lv_at hl 0 rfl) ?_
  refine r_arr B hH hS 84 (kd := 101) (n := 16000) (by decide) (by decide) wf_X16_673 rfl rfl dX16_isShown_151 ?_
  refine lv_bipush (v := i32 8) B.1 B.2.1 dX16_isShown_154 (by decide) ?_
  refine lv_iload B.1 B.2.1 dX16_isShown_156 (lv_at hl 3 rfl) ?_
  obtain ⟨q2, h⟩ := h
  refine lv_imul B.1 B.2.1 dX16_isShown_158 ?_
  rw [i32_mul]
  refine lv_aload_n B.1 B.2.1 dX16_isShown_159 rfl (lv_at hl 0 rfl) ?_
  refine r_arr B hH hS 115 (kd := 101) (n := 4000) (by decide) (by decide) wf_X16_864 rfl rfl dX16_isShown_160 ?_
  refine lv_iload B.1 B.2.1 dX16_isShown_163 (lv_at hl 5 rfl) ?_
  obtain ⟨q3, h⟩ := h
  refine x_lald B K.2.1 hH (hS.ar (k := 115) (kd := 101) (n := 4000) (by decide)) (by decide) q3 dX16_isShown_165 ?_
  refine lv_aload_n B.1 B.2.1 dX16_isShown_166 rfl (lv_at hl 0 rfl) ?_
  refine r_arr B hH hS 116 (kd := 101) (n := 32000) (by decide) (by decide) wf_X16_867 rfl rfl dX16_isShown_167 ?_
  refine lv_bipush (v := i32 8) B.1 B.2.1 dX16_isShown_170 (by decide) ?_
  refine lv_iload B.1 B.2.1 dX16_isShown_172 (lv_at hl 5 rfl) ?_
  obtain ⟨q4, h⟩ := h
  refine lv_imul B.1 B.2.1 dX16_isShown_174 ?_
  rw [i32_mul]
  refine lv_aload_n B.1 B.2.1 dX16_isShown_175 rfl (lv_at hl 0 rfl) ?_
  refine r_getp B hH hS 17 (by decide) wf_X16_356 rfl rfl dX16_isShown_176 ?_
  obtain ⟨a18, ea18, ja18, h⟩ := h
  refine W.eq (g2 := F0 m 179 ls [.ref a18, .int (i32 (8 * v9)), .ref (ra 116), .long (gJ σ (ra 115) v9.toNat), .int (i32 (8 * v6)), .ref (ra 84), .long (gJ σ (ra 83) v6.toNat), .ref rm]) (by rw [ea18]; rfl) ?_
  refine n_arr B hH hS ja18 6 (kd := 100) (n := 16) (by decide) (by decide) (List.mem_of_getElem? (i := 6) rfl) rfl dX16_isShown_179 ?_
  refine lv_iload_n B.1 B.2.1 dX16_isShown_182 rfl (lv_at hl 1 rfl) ?_
  obtain ⟨q6, h⟩ := h
  refine x_iald B K.2.1 hH (hS.ja ja18 (k := 6) (kd := 100) (n := 16) (by decide)) (by decide) q6 dX16_isShown_183 ?_
  refine c_V B hH hl hc K.2.2.1 (C := RX16) (T := TX16) (N := 123) (ci := 16) (As := [.long (gJ σ (ra 83) v6.toNat), va_rf (some (ra 84)), .int (i32 (8 * v6)), .long (gJ σ (ra 115) v9.toNat), va_rf (some (ra 116)), .int (i32 (8 * v9)), .int (i32 (gI σ (jx a18 6) v3.toNat))]) (ok_X16_order K.2.1 σ (gJ σ (ra 83) v6.toNat) (some (ra 84)) (8 * v6) (gJ σ (ra 115) v9.toNat) (some (ra 116)) (8 * v9) (gI σ (jx a18 6) v3.toNat) q2 q4 (hGσ _ _) hGσ hS h) wc_X16_534 7 hd_X16_order ⟨Nat.le_trans (Nat.le_of_ble_eq_true rfl) K.2.2.2.1, Nat.le_trans (Nat.le_of_ble_eq_true rfl) K.2.2.2.2.1⟩ hS.1.1 hS.1.2 (by decide) rfl rfl (rest := []) rfl (Nat.le_of_ble_eq_true rfl) dX16_isShown_184 (fun σ19 w hq => ?_) (fun σ9 E9 hx9 => hX σ9 E9 _ _ _ (tb_out K.2.2.2.2.2 rfl) hx9.1 hx9.2.1 hx9.2.2)
  obtain ⟨r20, rfl, gr20, h, hGσ19, hS⟩ := hq
  intro H locs ls hH hl hc
  refine W.eq (g2 := F0 m 187 ls [.int (i32 r20)]) (rfl) ?_
  try dsimp only at h
  refine lv_if_ne (tgt := 195) B.1 B.2.1 dX16_isShown_187 (by decide) (fun h9 => ?_) (fun h9 => ?_)
  · rw [if_pos (fun q => h9 ((z_eq gr20).mpr q))] at h
    exact a_X16_isShown_195 K hQ hX hK91 hK108 _ _ _ _ _ g3 g4 g6 g8 h hGσ19 hS _ _ _ hH (lv_sub (l' := [(0, .ref rm), (3, .int (i32 v3)), (4, .int (i32 v4)), (6, .int (i32 v6)), (8, .int (i32 v8))]) hl [0, 1, 2, 3, 4] rfl) hc
  · rw [if_neg (fun q => q ((z_eq gr20).mp h9))] at h
    exact a_X16_isShown_190 K hQ hX hK91 hK108 _ _ _ _ _ g3 g4 g6 g8 h hGσ19 hS _ _ _ hH (lv_sub (l' := [(0, .ref rm), (3, .int (i32 v3)), (4, .int (i32 v4)), (6, .int (i32 v6)), (8, .int (i32 v8))]) hl [0, 1, 2, 3, 4] rfl) hc
set_option maxRecDepth 20000 in
theorem a_X16_isShown_121 {Q : Sg → Int → Prop} {X : Sg → String → Prop} (K : MC R p s m args c cX16_isShown 10 RX16 D cA tys A n0 s0 1 30 []) (hQ : HQZ p l e R s m args below meth c cX16_isShown D cA A n0 s0 QM dm ra jx rm Q) (hX : HX p l e R s m args below meth c 10 D cA A n0 s0 QM dm ra jx rm X) {K91 : Sg → Int → Int → Int → Int → Prop} (hK91 : ∀ (σ : Sg) (v3 : Int) (v4 : Int) (v5 : Int) (v6 : Int) (g3 : rng v3) (g4 : rng v4) (g5 : rng v5) (g6 : rng v6), K91 σ v3 v4 v5 v6 → RG σ → Shp dm ra jx rm σ → JJ p l e R s m args below meth c 10 D cA A n0 s0 QM σ 91 [(0, .ref rm), (3, .int (i32 v3)), (4, .int (i32 v4)), (5, .int (i32 v5)), (6, .int (i32 v6))] []) {K108 : Sg → Int → Int → Int → Int → Int → Prop} (hK108 : ∀ (σ : Sg) (v3 : Int) (v4 : Int) (v6 : Int) (v7 : Int) (v8 : Int) (g3 : rng v3) (g4 : rng v4) (g6 : rng v6) (g7 : rng v7) (g8 : rng v8), K108 σ v3 v4 v6 v7 v8 → RG σ → Shp dm ra jx rm σ → JJ p l e R s m args below meth c 10 D cA A n0 s0 QM σ 108 [(0, .ref rm), (3, .int (i32 v3)), (4, .int (i32 v4)), (6, .int (i32 v6)), (7, .int (i32 v7)), (8, .int (i32 v8))] []) : ∀ (σ : Sg) (v3 : Int) (v4 : Int) (v6 : Int) (v8 : Int) (g3 : rng v3) (g4 : rng v4) (g6 : rng v6) (g8 : rng v8), w_X16_isShown_121 ra jx rm K91 K108 Q X σ v3 v4 v6 v8 → RG σ → Shp dm ra jx rm σ → JJ p l e R s m args below meth c 10 D cA A n0 s0 QM σ 121 [(0, .ref rm), (3, .int (i32 v3)), (4, .int (i32 v4)), (6, .int (i32 v6)), (8, .int (i32 v8))] [] := by
  intro σ v3 v4 v6 v8 g3 g4 g6 g8 h hGσ hS H locs ls hH hl hc
  have B := K.1
  unfold w_X16_isShown_121 at h
  refine lv_aload_n B.1 B.2.1 dX16_isShown_121 rfl (lv_at hl 0 rfl) ?_
  refine r_arr B hH hS 118 (kd := 100) (n := 17) (by decide) (by decide) wf_X16_874 rfl rfl dX16_isShown_122 ?_
  refine lv_iload_n B.1 B.2.1 dX16_isShown_125 rfl (lv_at hl 1 rfl) ?_
  obtain ⟨q1, h⟩ := h
  refine x_iald B K.2.1 hH (hS.ar (k := 118) (kd := 100) (n := 17) (by decide)) (by decide) q1 dX16_isShown_126 ?_
  refine lv_iload B.1 B.2.1 dX16_isShown_127 (lv_at hl 4 rfl) ?_
  obtain ⟨q2, h⟩ := h
  refine lv_iadd B.1 B.2.1 dX16_isShown_129 ?_
  rw [i32_add]
  refine lv_istore (lv' := [(9, .int (i32 ((gI σ (ra 118) v3.toNat) + v8))), (0, .ref rm), (3, .int (i32 v3)), (4, .int (i32 v4)), (6, .int (i32 v6)), (8, .int (i32 v8))]) B.1 B.2.1 dX16_isShown_130 hl (by decide) rfl (fun ls hl => ?_)
  refine lv_aload_n B.1 B.2.1 dX16_isShown_132 rfl (lv_at hl 1 rfl) ?_
  refine r_arr B hH hS 120 (kd := 103) (n := 4000) (by decide) (by decide) wf_X16_897 rfl rfl dX16_isShown_133 ?_
  refine lv_iload B.1 B.2.1 dX16_isShown_136 (lv_at hl 5 rfl) ?_
  obtain ⟨q3, h⟩ := h
  refine x_zald B K.2.1 hH (hS.ar (k := 120) (kd := 103) (n := 4000) (by decide)) (by decide) q3 dX16_isShown_138 ?_
  refine lv_if_ne (tgt := 195) B.1 B.2.1 dX16_isShown_139 (by decide) (fun h9 => ?_) (fun h9 => ?_)
  · rw [if_pos (fun q => h9 ((z_eq (hGσ _ _)).mpr q))] at h
    exact a_X16_isShown_195 K hQ hX hK91 hK108 _ _ _ _ _ g3 g4 g6 g8 h hGσ hS _ _ _ hH (lv_sub (l' := [(0, .ref rm), (3, .int (i32 v3)), (4, .int (i32 v4)), (6, .int (i32 v6)), (8, .int (i32 v8))]) hl [1, 2, 3, 4, 5] rfl) hc
  · rw [if_neg (fun q => q ((z_eq (hGσ _ _)).mp h9))] at h
    exact a_X16_isShown_142 K hQ hX hK91 hK108 _ _ _ _ _ _ g3 g4 g6 g8 q2 h hGσ hS _ _ _ hH (lv_sub (l' := [(0, .ref rm), (3, .int (i32 v3)), (4, .int (i32 v4)), (6, .int (i32 v6)), (8, .int (i32 v8)), (9, .int (i32 ((gI σ (ra 118) v3.toNat) + v8)))]) hl [1, 2, 3, 4, 5, 0] rfl) hc
set_option maxRecDepth 20000 in
theorem a_X16_isShown_115 {Q : Sg → Int → Prop} {X : Sg → String → Prop} (K : MC R p s m args c cX16_isShown 10 RX16 D cA tys A n0 s0 1 30 []) (hQ : HQZ p l e R s m args below meth c cX16_isShown D cA A n0 s0 QM dm ra jx rm Q) (hX : HX p l e R s m args below meth c 10 D cA A n0 s0 QM dm ra jx rm X) {K91 : Sg → Int → Int → Int → Int → Prop} (hK91 : ∀ (σ : Sg) (v3 : Int) (v4 : Int) (v5 : Int) (v6 : Int) (g3 : rng v3) (g4 : rng v4) (g5 : rng v5) (g6 : rng v6), K91 σ v3 v4 v5 v6 → RG σ → Shp dm ra jx rm σ → JJ p l e R s m args below meth c 10 D cA A n0 s0 QM σ 91 [(0, .ref rm), (3, .int (i32 v3)), (4, .int (i32 v4)), (5, .int (i32 v5)), (6, .int (i32 v6))] []) {K108 : Sg → Int → Int → Int → Int → Int → Prop} (hK108 : ∀ (σ : Sg) (v3 : Int) (v4 : Int) (v6 : Int) (v7 : Int) (v8 : Int) (g3 : rng v3) (g4 : rng v4) (g6 : rng v6) (g7 : rng v7) (g8 : rng v8), K108 σ v3 v4 v6 v7 v8 → RG σ → Shp dm ra jx rm σ → JJ p l e R s m args below meth c 10 D cA A n0 s0 QM σ 108 [(0, .ref rm), (3, .int (i32 v3)), (4, .int (i32 v4)), (6, .int (i32 v6)), (7, .int (i32 v7)), (8, .int (i32 v8))] []) : ∀ (σ : Sg) (v3 : Int) (v4 : Int) (v6 : Int) (v7 : Int) (v8 : Int) (g3 : rng v3) (g4 : rng v4) (g6 : rng v6) (g7 : rng v7) (g8 : rng v8), w_X16_isShown_115 ra jx rm K91 K108 Q X σ v3 v4 v6 v7 v8 → RG σ → Shp dm ra jx rm σ → JJ p l e R s m args below meth c 10 D cA A n0 s0 QM σ 115 [(0, .ref rm), (3, .int (i32 v3)), (4, .int (i32 v4)), (6, .int (i32 v6)), (7, .int (i32 v7)), (8, .int (i32 v8))] [] := by
  intro σ v3 v4 v6 v7 v8 g3 g4 g6 g7 g8 h hGσ hS H locs ls hH hl hc
  have B := K.1
  unfold w_X16_isShown_115 at h
  refine lv_iload B.1 B.2.1 dX16_isShown_115 (lv_at hl 4 rfl) ?_
  refine lv_iconst (v := i32 (-1)) B.1 B.2.1 dX16_isShown_117 (by decide) ?_
  refine lv_icmp_ne (tgt := 204) B.1 B.2.1 dX16_isShown_118 (by decide) (fun h9 => ?_) (fun h9 => ?_)
  · rw [if_pos (fun q => h9 ((i32_eq g7 (by unfold rng; omega)).mpr q))] at h
    exact a_X16_isShown_204 K hQ hX hK91 _ _ _ _ _ g3 g4 g6 g7 h hGσ hS _ _ _ hH (lv_sub (l' := [(0, .ref rm), (3, .int (i32 v3)), (4, .int (i32 v4)), (6, .int (i32 v6)), (7, .int (i32 v7))]) hl [0, 1, 2, 3, 4] rfl) hc
  · rw [if_neg (fun q => q ((i32_eq g7 (by unfold rng; omega)).mp h9))] at h
    exact a_X16_isShown_121 K hQ hX hK91 hK108 _ _ _ _ _ g3 g4 g6 g8 h hGσ hS _ _ _ hH (lv_sub (l' := [(0, .ref rm), (3, .int (i32 v3)), (4, .int (i32 v4)), (6, .int (i32 v6)), (8, .int (i32 v8))]) hl [0, 1, 2, 3, 5] rfl) hc
set_option maxRecDepth 20000 in
theorem a_X16_isShown_108 {Q : Sg → Int → Prop} {X : Sg → String → Prop} (K : MC R p s m args c cX16_isShown 10 RX16 D cA tys A n0 s0 1 30 []) (hQ : HQZ p l e R s m args below meth c cX16_isShown D cA A n0 s0 QM dm ra jx rm Q) (hX : HX p l e R s m args below meth c 10 D cA A n0 s0 QM dm ra jx rm X) {K91 : Sg → Int → Int → Int → Int → Prop} (hK91 : ∀ (σ : Sg) (v3 : Int) (v4 : Int) (v5 : Int) (v6 : Int) (g3 : rng v3) (g4 : rng v4) (g5 : rng v5) (g6 : rng v6), K91 σ v3 v4 v5 v6 → RG σ → Shp dm ra jx rm σ → JJ p l e R s m args below meth c 10 D cA A n0 s0 QM σ 91 [(0, .ref rm), (3, .int (i32 v3)), (4, .int (i32 v4)), (5, .int (i32 v5)), (6, .int (i32 v6))] []) {K108 : Sg → Int → Int → Int → Int → Int → Prop} (hK108 : ∀ (σ : Sg) (v3 : Int) (v4 : Int) (v6 : Int) (v7 : Int) (v8 : Int) (g3 : rng v3) (g4 : rng v4) (g6 : rng v6) (g7 : rng v7) (g8 : rng v8), K108 σ v3 v4 v6 v7 v8 → RG σ → Shp dm ra jx rm σ → JJ p l e R s m args below meth c 10 D cA A n0 s0 QM σ 108 [(0, .ref rm), (3, .int (i32 v3)), (4, .int (i32 v4)), (6, .int (i32 v6)), (7, .int (i32 v7)), (8, .int (i32 v8))] []) : ∀ (σ : Sg) (v3 : Int) (v4 : Int) (v6 : Int) (v7 : Int) (v8 : Int) (g3 : rng v3) (g4 : rng v4) (g6 : rng v6) (g7 : rng v7) (g8 : rng v8), w_X16_isShown_108 ra jx rm K91 K108 Q X σ v3 v4 v6 v7 v8 → RG σ → Shp dm ra jx rm σ → JJ p l e R s m args below meth c 10 D cA A n0 s0 QM σ 108 [(0, .ref rm), (3, .int (i32 v3)), (4, .int (i32 v4)), (6, .int (i32 v6)), (7, .int (i32 v7)), (8, .int (i32 v8))] [] := by
  intro σ v3 v4 v6 v7 v8 g3 g4 g6 g7 g8 h hGσ hS H locs ls hH hl hc
  have B := K.1
  unfold w_X16_isShown_108 at h
  refine lv_iload B.1 B.2.1 dX16_isShown_108 (lv_at hl 5 rfl) ?_
  refine lv_iload B.1 B.2.1 dX16_isShown_110 (lv_at hl 2 rfl) ?_
  refine lv_icmp_ge (tgt := 204) B.1 B.2.1 dX16_isShown_112 (by decide) (fun h9 => ?_) (fun h9 => ?_)
  · rw [if_pos ((i32_le g4 g8).mp h9)] at h
    exact a_X16_isShown_204 K hQ hX hK91 _ _ _ _ _ g3 g4 g6 g7 h hGσ hS _ _ _ hH (lv_sub (l' := [(0, .ref rm), (3, .int (i32 v3)), (4, .int (i32 v4)), (6, .int (i32 v6)), (7, .int (i32 v7))]) hl [0, 1, 2, 3, 4] rfl) hc
  · rw [if_neg (fun q => h9 ((i32_le g4 g8).mpr q))] at h
    exact a_X16_isShown_115 K hQ hX hK91 hK108 _ _ _ _ _ _ g3 g4 g6 g7 g8 h hGσ hS _ _ _ hH (lv_sub (l' := [(0, .ref rm), (3, .int (i32 v3)), (4, .int (i32 v4)), (6, .int (i32 v6)), (7, .int (i32 v7)), (8, .int (i32 v8))]) hl [0, 1, 2, 3, 4, 5] rfl) hc
theorem al_X16_isShown_108 {Q : Sg → Int → Prop} {X : Sg → String → Prop} (K : MC R p s m args c cX16_isShown 10 RX16 D cA tys A n0 s0 1 30 []) (hQ : HQZ p l e R s m args below meth c cX16_isShown D cA A n0 s0 QM dm ra jx rm Q) (hX : HX p l e R s m args below meth c 10 D cA A n0 s0 QM dm ra jx rm X) {K91 : Sg → Int → Int → Int → Int → Prop} (hK91 : ∀ (σ : Sg) (v3 : Int) (v4 : Int) (v5 : Int) (v6 : Int) (g3 : rng v3) (g4 : rng v4) (g5 : rng v5) (g6 : rng v6), K91 σ v3 v4 v5 v6 → RG σ → Shp dm ra jx rm σ → JJ p l e R s m args below meth c 10 D cA A n0 s0 QM σ 91 [(0, .ref rm), (3, .int (i32 v3)), (4, .int (i32 v4)), (5, .int (i32 v5)), (6, .int (i32 v6))] []) : ∀ (n : Nat), ∀ (σ : Sg) (v3 : Int) (v4 : Int) (v6 : Int) (v7 : Int) (v8 : Int) (g3 : rng v3) (g4 : rng v4) (g6 : rng v6) (g7 : rng v7) (g8 : rng v8), wl_X16_isShown_108 ra jx rm K91 Q X n σ v3 v4 v6 v7 v8 → RG σ → Shp dm ra jx rm σ → JJ p l e R s m args below meth c 10 D cA A n0 s0 QM σ 108 [(0, .ref rm), (3, .int (i32 v3)), (4, .int (i32 v4)), (6, .int (i32 v6)), (7, .int (i32 v7)), (8, .int (i32 v8))] [] := by
  intro n
  induction n with
  | zero => intro σ v3 v4 v6 v7 v8 g3 g4 g6 g7 g8 h; exact h.elim
  | succ n ih => exact fun σ v3 v4 v6 v7 v8 g3 g4 g6 g7 g8 h => a_X16_isShown_108 K hQ hX hK91 ih σ v3 v4 v6 v7 v8 g3 g4 g6 g7 g8 h
set_option maxRecDepth 20000 in
theorem a_X16_isShown_102 {Q : Sg → Int → Prop} {X : Sg → String → Prop} (K : MC R p s m args c cX16_isShown 10 RX16 D cA tys A n0 s0 1 30 []) (hQ : HQZ p l e R s m args below meth c cX16_isShown D cA A n0 s0 QM dm ra jx rm Q) (hX : HX p l e R s m args below meth c 10 D cA A n0 s0 QM dm ra jx rm X) {K91 : Sg → Int → Int → Int → Int → Prop} (hK91 : ∀ (σ : Sg) (v3 : Int) (v4 : Int) (v5 : Int) (v6 : Int) (g3 : rng v3) (g4 : rng v4) (g5 : rng v5) (g6 : rng v6), K91 σ v3 v4 v5 v6 → RG σ → Shp dm ra jx rm σ → JJ p l e R s m args below meth c 10 D cA A n0 s0 QM σ 91 [(0, .ref rm), (3, .int (i32 v3)), (4, .int (i32 v4)), (5, .int (i32 v5)), (6, .int (i32 v6))] []) : ∀ (σ : Sg) (v3 : Int) (v4 : Int) (v6 : Int) (g3 : rng v3) (g4 : rng v4) (g6 : rng v6), w_X16_isShown_102 ra jx rm K91 Q X σ v3 v4 v6 → RG σ → Shp dm ra jx rm σ → JJ p l e R s m args below meth c 10 D cA A n0 s0 QM σ 102 [(0, .ref rm), (3, .int (i32 v3)), (4, .int (i32 v4)), (6, .int (i32 v6))] [] := by
  intro σ v3 v4 v6 g3 g4 g6 h hGσ hS H locs ls hH hl hc
  have B := K.1
  unfold w_X16_isShown_102 at h
  refine lv_iconst (v := i32 (-1)) B.1 B.2.1 dX16_isShown_102 (by decide) ?_
  refine lv_istore (lv' := [(7, .int (i32 (-1))), (0, .ref rm), (3, .int (i32 v3)), (4, .int (i32 v4)), (6, .int (i32 v6))]) B.1 B.2.1 dX16_isShown_103 hl (by decide) rfl (fun ls hl => ?_)
  refine lv_iconst (v := i32 0) B.1 B.2.1 dX16_isShown_105 (by decide) ?_
  refine lv_istore (lv' := [(8, .int (i32 0)), (7, .int (i32 (-1))), (0, .ref rm), (3, .int (i32 v3)), (4, .int (i32 v4)), (6, .int (i32 v6))]) B.1 B.2.1 dX16_isShown_106 hl (by decide) rfl (fun ls hl => ?_)
  obtain ⟨n9, h⟩ := h
  exact al_X16_isShown_108 K hQ hX hK91 n9 _ _ _ _ _ _ g3 g4 g6 (by unfold rng; omega) (by unfold rng; omega) h hGσ hS _ _ _ hH (lv_sub (l' := [(0, .ref rm), (3, .int (i32 v3)), (4, .int (i32 v4)), (6, .int (i32 v6)), (7, .int (i32 (-1))), (8, .int (i32 0))]) hl [2, 3, 4, 5, 1, 0] rfl) hc
set_option maxRecDepth 20000 in
theorem a_X16_isShown_97 {Q : Sg → Int → Prop} {X : Sg → String → Prop} (K : MC R p s m args c cX16_isShown 10 RX16 D cA tys A n0 s0 1 30 []) (hQ : HQZ p l e R s m args below meth c cX16_isShown D cA A n0 s0 QM dm ra jx rm Q) (hX : HX p l e R s m args below meth c 10 D cA A n0 s0 QM dm ra jx rm X) {K91 : Sg → Int → Int → Int → Int → Prop} (hK91 : ∀ (σ : Sg) (v3 : Int) (v4 : Int) (v5 : Int) (v6 : Int) (g3 : rng v3) (g4 : rng v4) (g5 : rng v5) (g6 : rng v6), K91 σ v3 v4 v5 v6 → RG σ → Shp dm ra jx rm σ → JJ p l e R s m args below meth c 10 D cA A n0 s0 QM σ 91 [(0, .ref rm), (3, .int (i32 v3)), (4, .int (i32 v4)), (5, .int (i32 v5)), (6, .int (i32 v6))] []) : ∀ (σ : Sg) (v3 : Int) (v4 : Int) (v5 : Int) (v6 : Int) (g3 : rng v3) (g4 : rng v4) (g5 : rng v5) (g6 : rng v6), w_X16_isShown_97 ra jx rm K91 Q X σ v3 v4 v5 v6 → RG σ → Shp dm ra jx rm σ → JJ p l e R s m args below meth c 10 D cA A n0 s0 QM σ 97 [(0, .ref rm), (3, .int (i32 v3)), (4, .int (i32 v4)), (5, .int (i32 v5)), (6, .int (i32 v6))] [] := by
  intro σ v3 v4 v5 v6 g3 g4 g5 g6 h hGσ hS H locs ls hH hl hc
  have B := K.1
  unfold w_X16_isShown_97 at h
  refine lv_iload B.1 B.2.1 dX16_isShown_97 (lv_at hl 3 rfl) ?_
  refine lv_if_eq (tgt := 242) B.1 B.2.1 dX16_isShown_99 (by decide) (fun h9 => ?_) (fun h9 => ?_)
  · rw [if_pos ((z_eq g5).mp h9)] at h
    exact a_X16_isShown_242 K hQ hX _ _ g5 h hGσ hS _ _ _ hH (lv_sub (l' := [(0, .ref rm), (5, .int (i32 v5))]) hl [0, 3] rfl) hc
  · rw [if_neg (fun q => h9 ((z_eq g5).mpr q))] at h
    exact a_X16_isShown_102 K hQ hX hK91 _ _ _ _ g3 g4 g6 h hGσ hS _ _ _ hH (lv_sub (l' := [(0, .ref rm), (3, .int (i32 v3)), (4, .int (i32 v4)), (6, .int (i32 v6))]) hl [0, 1, 2, 4] rfl) hc
set_option maxRecDepth 20000 in
theorem a_X16_isShown_91 {Q : Sg → Int → Prop} {X : Sg → String → Prop} (K : MC R p s m args c cX16_isShown 10 RX16 D cA tys A n0 s0 1 30 []) (hQ : HQZ p l e R s m args below meth c cX16_isShown D cA A n0 s0 QM dm ra jx rm Q) (hX : HX p l e R s m args below meth c 10 D cA A n0 s0 QM dm ra jx rm X) {K91 : Sg → Int → Int → Int → Int → Prop} (hK91 : ∀ (σ : Sg) (v3 : Int) (v4 : Int) (v5 : Int) (v6 : Int) (g3 : rng v3) (g4 : rng v4) (g5 : rng v5) (g6 : rng v6), K91 σ v3 v4 v5 v6 → RG σ → Shp dm ra jx rm σ → JJ p l e R s m args below meth c 10 D cA A n0 s0 QM σ 91 [(0, .ref rm), (3, .int (i32 v3)), (4, .int (i32 v4)), (5, .int (i32 v5)), (6, .int (i32 v6))] []) : ∀ (σ : Sg) (v3 : Int) (v4 : Int) (v5 : Int) (v6 : Int) (g3 : rng v3) (g4 : rng v4) (g5 : rng v5) (g6 : rng v6), w_X16_isShown_91 ra jx rm K91 Q X σ v3 v4 v5 v6 → RG σ → Shp dm ra jx rm σ → JJ p l e R s m args below meth c 10 D cA A n0 s0 QM σ 91 [(0, .ref rm), (3, .int (i32 v3)), (4, .int (i32 v4)), (5, .int (i32 v5)), (6, .int (i32 v6))] [] := by
  intro σ v3 v4 v5 v6 g3 g4 g5 g6 h hGσ hS H locs ls hH hl hc
  have B := K.1
  unfold w_X16_isShown_91 at h
  refine lv_iload B.1 B.2.1 dX16_isShown_91 (lv_at hl 4 rfl) ?_
  refine lv_iconst (v := i32 (-1)) B.1 B.2.1 dX16_isShown_93 (by decide) ?_
  refine lv_icmp_eq (tgt := 242) B.1 B.2.1 dX16_isShown_94 (by decide) (fun h9 => ?_) (fun h9 => ?_)
  · rw [if_pos ((i32_eq g6 (by unfold rng; omega)).mp h9)] at h
    exact a_X16_isShown_242 K hQ hX _ _ g5 h hGσ hS _ _ _ hH (lv_sub (l' := [(0, .ref rm), (5, .int (i32 v5))]) hl [0, 3] rfl) hc
  · rw [if_neg (fun q => h9 ((i32_eq g6 (by unfold rng; omega)).mpr q))] at h
    exact a_X16_isShown_97 K hQ hX hK91 _ _ _ _ _ g3 g4 g5 g6 h hGσ hS _ _ _ hH (lv_sub (l' := [(0, .ref rm), (3, .int (i32 v3)), (4, .int (i32 v4)), (5, .int (i32 v5)), (6, .int (i32 v6))]) hl [0, 1, 2, 3, 4] rfl) hc
theorem al_X16_isShown_91 {Q : Sg → Int → Prop} {X : Sg → String → Prop} (K : MC R p s m args c cX16_isShown 10 RX16 D cA tys A n0 s0 1 30 []) (hQ : HQZ p l e R s m args below meth c cX16_isShown D cA A n0 s0 QM dm ra jx rm Q) (hX : HX p l e R s m args below meth c 10 D cA A n0 s0 QM dm ra jx rm X) : ∀ (n : Nat), ∀ (σ : Sg) (v3 : Int) (v4 : Int) (v5 : Int) (v6 : Int) (g3 : rng v3) (g4 : rng v4) (g5 : rng v5) (g6 : rng v6), wl_X16_isShown_91 ra jx rm Q X n σ v3 v4 v5 v6 → RG σ → Shp dm ra jx rm σ → JJ p l e R s m args below meth c 10 D cA A n0 s0 QM σ 91 [(0, .ref rm), (3, .int (i32 v3)), (4, .int (i32 v4)), (5, .int (i32 v5)), (6, .int (i32 v6))] [] := by
  intro n
  induction n with
  | zero => intro σ v3 v4 v5 v6 g3 g4 g5 g6 h; exact h.elim
  | succ n ih => exact fun σ v3 v4 v5 v6 g3 g4 g5 g6 h => a_X16_isShown_91 K hQ hX ih σ v3 v4 v5 v6 g3 g4 g5 g6 h
set_option maxRecDepth 20000 in
theorem a_X16_isShown_79 {Q : Sg → Int → Prop} {X : Sg → String → Prop} (K : MC R p s m args c cX16_isShown 10 RX16 D cA tys A n0 s0 1 30 []) (hQ : HQZ p l e R s m args below meth c cX16_isShown D cA A n0 s0 QM dm ra jx rm Q) (hX : HX p l e R s m args below meth c 10 D cA A n0 s0 QM dm ra jx rm X) : ∀ (σ : Sg) (v1 : Int) (v3 : Int) (v4 : Int) (v5 : Int) (g1 : rng v1) (g3 : rng v3) (g4 : rng v4) (g5 : rng v5), w_X16_isShown_79 ra jx rm Q X σ v1 v3 v4 v5 → RG σ → Shp dm ra jx rm σ → JJ p l e R s m args below meth c 10 D cA A n0 s0 QM σ 79 [(0, .ref rm), (1, .int (i32 v1)), (3, .int (i32 v3)), (4, .int (i32 v4)), (5, .int (i32 v5))] [] := by
  intro σ v1 v3 v4 v5 g1 g3 g4 g5 h hGσ hS H locs ls hH hl hc
  have B := K.1
  unfold w_X16_isShown_79 at h
  refine lv_aload_n B.1 B.2.1 dX16_isShown_79 rfl (lv_at hl 0 rfl) ?_
  refine r_arr B hH hS 87 (kd := 100) (n := 12) (by decide) (by decide) wf_X16_661 rfl rfl dX16_isShown_80 ?_
  refine lv_iconst (v := i32 3) B.1 B.2.1 dX16_isShown_83 (by decide) ?_
  refine lv_iload_n B.1 B.2.1 dX16_isShown_84 rfl (lv_at hl 1 rfl) ?_
  obtain ⟨q1, h⟩ := h
  refine lv_imul B.1 B.2.1 dX16_isShown_85 ?_
  rw [i32_mul]
  refine lv_iconst (v := i32 2) B.1 B.2.1 dX16_isShown_86 (by decide) ?_
  obtain ⟨q2, h⟩ := h
  refine lv_iadd B.1 B.2.1 dX16_isShown_87 ?_
  rw [i32_add]
  obtain ⟨q3, h⟩ := h
  refine x_iald B K.2.1 hH (hS.ar (k := 87) (kd := 100) (n := 12) (by decide)) (by decide) q3 dX16_isShown_88 ?_
  refine lv_istore (lv' := [(6, .int (i32 (gI σ (ra 87) ((3 * v1) + 2).toNat))), (0, .ref rm), (1, .int (i32 v1)), (3, .int (i32 v3)), (4, .int (i32 v4)), (5, .int (i32 v5))]) B.1 B.2.1 dX16_isShown_89 hl (by decide) rfl (fun ls hl => ?_)
  obtain ⟨n9, h⟩ := h
  exact al_X16_isShown_91 K hQ hX n9 _ _ _ _ _ g3 g4 g5 (hGσ _ _) h hGσ hS _ _ _ hH (lv_sub (l' := [(0, .ref rm), (3, .int (i32 v3)), (4, .int (i32 v4)), (5, .int (i32 v5)), (6, .int (i32 (gI σ (ra 87) ((3 * v1) + 2).toNat)))]) hl [1, 3, 4, 5, 0] rfl) hc
set_option maxRecDepth 20000 in
theorem a_X16_isShown_65 {Q : Sg → Int → Prop} {X : Sg → String → Prop} (K : MC R p s m args c cX16_isShown 10 RX16 D cA tys A n0 s0 1 30 []) (hQ : HQZ p l e R s m args below meth c cX16_isShown D cA A n0 s0 QM dm ra jx rm Q) (hX : HX p l e R s m args below meth c 10 D cA A n0 s0 QM dm ra jx rm X) {K58 : Sg → Int → Int → Int → Int → Int → Prop} (hK58 : ∀ (σ : Sg) (v1 : Int) (v3 : Int) (v4 : Int) (v5 : Int) (v6 : Int) (g1 : rng v1) (g3 : rng v3) (g4 : rng v4) (g5 : rng v5) (g6 : rng v6), K58 σ v1 v3 v4 v5 v6 → RG σ → Shp dm ra jx rm σ → JJ p l e R s m args below meth c 10 D cA A n0 s0 QM σ 58 [(0, .ref rm), (1, .int (i32 v1)), (3, .int (i32 v3)), (4, .int (i32 v4)), (5, .int (i32 v5)), (6, .int (i32 v6))] []) : ∀ (σ : Sg) (v1 : Int) (v3 : Int) (v4 : Int) (v5 : Int) (v6 : Int) (g1 : rng v1) (g3 : rng v3) (g4 : rng v4) (g5 : rng v5) (g6 : rng v6), w_X16_isShown_65 ra jx rm K58 Q X σ v1 v3 v4 v5 v6 → RG σ → Shp dm ra jx rm σ → JJ p l e R s m args below meth c 10 D cA A n0 s0 QM σ 65 [(0, .ref rm), (1, .int (i32 v1)), (3, .int (i32 v3)), (4, .int (i32 v4)), (5, .int (i32 v5)), (6, .int (i32 v6))] [] := by
  intro σ v1 v3 v4 v5 v6 g1 g3 g4 g5 g6 h hGσ hS H locs ls hH hl hc
  have B := K.1
  unfold w_X16_isShown_65 at h
  refine lv_aload_n B.1 B.2.1 dX16_isShown_65 rfl (lv_at hl 0 rfl) ?_
  refine r_arr B hH hS 120 (kd := 103) (n := 4000) (by decide) (by decide) wf_X16_897 rfl rfl dX16_isShown_66 ?_
  refine lv_iload B.1 B.2.1 dX16_isShown_69 (lv_at hl 5 rfl) ?_
  refine lv_iconst (v := i32 0) B.1 B.2.1 dX16_isShown_71 (by decide) ?_
  obtain ⟨q1, h⟩ := h
  obtain ⟨σ21, eσ21⟩ : ∃ z, z = pI σ (ra 120) v6.toNat (nZ 0) := ⟨_, rfl⟩
  have h := h σ21 eσ21
  refine x_zast B K.2.1 hH (hS.ar (k := 120) (kd := 103) (n := 4000) (by decide)) (by decide) q1 dX16_isShown_72 (fun H locs hH => ?_)
  have hH : Hd D cA A s (pI σ (ra 120) v6.toNat (nZ 0)) H locs := hH
  rw [← eσ21] at hH
  have hGσ21 : RG σ21 := by rw [eσ21]; exact hGσ.pI (rng_toInt _)
  have hS : Shp dm ra jx rm σ21 := by rw [eσ21]; exact hS
  have hc : CB n0 s0 σ21 := by rw [eσ21]; exact hc
  rw [show gc σ = gc σ21 by rw [eσ21], show gs σ = gs σ21 by rw [eσ21]]
  obtain ⟨q3, h⟩ := h
  refine lv_iinc (k := 5) (v := i32 (v6 + 1)) (lv' := [(6, .int (i32 (v6 + 1))), (0, .ref rm), (1, .int (i32 v1)), (3, .int (i32 v3)), (4, .int (i32 v4)), (5, .int (i32 v5))]) B.1 B.2.1 dX16_isShown_73 hl rfl (i32_add _ _) (by decide) rfl (fun ls hl => ?_)
  refine lv_goto (tgt := 58) B.1 B.2.1 dX16_isShown_76 (by decide) ?_
  exact hK58 _ _ _ _ _ _ g1 g3 g4 g5 q3 h hGσ21 hS _ _ _ hH (lv_sub (l' := [(0, .ref rm), (1, .int (i32 v1)), (3, .int (i32 v3)), (4, .int (i32 v4)), (5, .int (i32 v5)), (6, .int (i32 (v6 + 1)))]) hl [1, 2, 3, 4, 5, 0] rfl) hc
set_option maxRecDepth 20000 in
theorem a_X16_isShown_58 {Q : Sg → Int → Prop} {X : Sg → String → Prop} (K : MC R p s m args c cX16_isShown 10 RX16 D cA tys A n0 s0 1 30 []) (hQ : HQZ p l e R s m args below meth c cX16_isShown D cA A n0 s0 QM dm ra jx rm Q) (hX : HX p l e R s m args below meth c 10 D cA A n0 s0 QM dm ra jx rm X) {K58 : Sg → Int → Int → Int → Int → Int → Prop} (hK58 : ∀ (σ : Sg) (v1 : Int) (v3 : Int) (v4 : Int) (v5 : Int) (v6 : Int) (g1 : rng v1) (g3 : rng v3) (g4 : rng v4) (g5 : rng v5) (g6 : rng v6), K58 σ v1 v3 v4 v5 v6 → RG σ → Shp dm ra jx rm σ → JJ p l e R s m args below meth c 10 D cA A n0 s0 QM σ 58 [(0, .ref rm), (1, .int (i32 v1)), (3, .int (i32 v3)), (4, .int (i32 v4)), (5, .int (i32 v5)), (6, .int (i32 v6))] []) : ∀ (σ : Sg) (v1 : Int) (v3 : Int) (v4 : Int) (v5 : Int) (v6 : Int) (g1 : rng v1) (g3 : rng v3) (g4 : rng v4) (g5 : rng v5) (g6 : rng v6), w_X16_isShown_58 ra jx rm K58 Q X σ v1 v3 v4 v5 v6 → RG σ → Shp dm ra jx rm σ → JJ p l e R s m args below meth c 10 D cA A n0 s0 QM σ 58 [(0, .ref rm), (1, .int (i32 v1)), (3, .int (i32 v3)), (4, .int (i32 v4)), (5, .int (i32 v5)), (6, .int (i32 v6))] [] := by
  intro σ v1 v3 v4 v5 v6 g1 g3 g4 g5 g6 h hGσ hS H locs ls hH hl hc
  have B := K.1
  unfold w_X16_isShown_58 at h
  refine lv_iload B.1 B.2.1 dX16_isShown_58 (lv_at hl 5 rfl) ?_
  refine lv_iload B.1 B.2.1 dX16_isShown_60 (lv_at hl 3 rfl) ?_
  refine lv_icmp_ge (tgt := 79) B.1 B.2.1 dX16_isShown_62 (by decide) (fun h9 => ?_) (fun h9 => ?_)
  · rw [if_pos ((i32_le g4 g6).mp h9)] at h
    exact a_X16_isShown_79 K hQ hX _ _ _ _ _ g1 g3 g4 g5 h hGσ hS _ _ _ hH (lv_sub (l' := [(0, .ref rm), (1, .int (i32 v1)), (3, .int (i32 v3)), (4, .int (i32 v4)), (5, .int (i32 v5))]) hl [0, 1, 2, 3, 4] rfl) hc
  · rw [if_neg (fun q => h9 ((i32_le g4 g6).mpr q))] at h
    exact a_X16_isShown_65 K hQ hX hK58 _ _ _ _ _ _ g1 g3 g4 g5 g6 h hGσ hS _ _ _ hH (lv_sub (l' := [(0, .ref rm), (1, .int (i32 v1)), (3, .int (i32 v3)), (4, .int (i32 v4)), (5, .int (i32 v5)), (6, .int (i32 v6))]) hl [0, 1, 2, 3, 4, 5] rfl) hc
theorem al_X16_isShown_58 {Q : Sg → Int → Prop} {X : Sg → String → Prop} (K : MC R p s m args c cX16_isShown 10 RX16 D cA tys A n0 s0 1 30 []) (hQ : HQZ p l e R s m args below meth c cX16_isShown D cA A n0 s0 QM dm ra jx rm Q) (hX : HX p l e R s m args below meth c 10 D cA A n0 s0 QM dm ra jx rm X) : ∀ (n : Nat), ∀ (σ : Sg) (v1 : Int) (v3 : Int) (v4 : Int) (v5 : Int) (v6 : Int) (g1 : rng v1) (g3 : rng v3) (g4 : rng v4) (g5 : rng v5) (g6 : rng v6), wl_X16_isShown_58 ra jx rm Q X n σ v1 v3 v4 v5 v6 → RG σ → Shp dm ra jx rm σ → JJ p l e R s m args below meth c 10 D cA A n0 s0 QM σ 58 [(0, .ref rm), (1, .int (i32 v1)), (3, .int (i32 v3)), (4, .int (i32 v4)), (5, .int (i32 v5)), (6, .int (i32 v6))] [] := by
  intro n
  induction n with
  | zero => intro σ v1 v3 v4 v5 v6 g1 g3 g4 g5 g6 h; exact h.elim
  | succ n ih => exact fun σ v1 v3 v4 v5 v6 g1 g3 g4 g5 g6 h => a_X16_isShown_58 K hQ hX ih σ v1 v3 v4 v5 v6 g1 g3 g4 g5 g6 h
set_option maxRecDepth 20000 in
theorem a_X16_isShown_53 {Q : Sg → Int → Prop} {X : Sg → String → Prop} (K : MC R p s m args c cX16_isShown 10 RX16 D cA tys A n0 s0 1 30 []) (hQ : HQZ p l e R s m args below meth c cX16_isShown D cA A n0 s0 QM dm ra jx rm Q) (hX : HX p l e R s m args below meth c 10 D cA A n0 s0 QM dm ra jx rm X) : ∀ (σ : Sg) (v1 : Int) (v3 : Int) (v4 : Int) (u0 : Int) (g1 : rng v1) (g3 : rng v3) (g4 : rng v4) (gu0 : rng u0), w_X16_isShown_53 ra jx rm Q X σ v1 v3 v4 u0 → RG σ → Shp dm ra jx rm σ → JJ p l e R s m args below meth c 10 D cA A n0 s0 QM σ 53 [(0, .ref rm), (1, .int (i32 v1)), (3, .int (i32 v3)), (4, .int (i32 v4))] [.int (i32 u0)] := by
  intro σ v1 v3 v4 u0 g1 g3 g4 gu0 h hGσ hS H locs ls hH hl hc
  have B := K.1
  unfold w_X16_isShown_53 at h
  refine lv_istore (lv' := [(5, .int (i32 u0)), (0, .ref rm), (1, .int (i32 v1)), (3, .int (i32 v3)), (4, .int (i32 v4))]) B.1 B.2.1 dX16_isShown_53 hl (by decide) rfl (fun ls hl => ?_)
  refine lv_iconst (v := i32 0) B.1 B.2.1 dX16_isShown_55 (by decide) ?_
  refine lv_istore (lv' := [(6, .int (i32 0)), (5, .int (i32 u0)), (0, .ref rm), (1, .int (i32 v1)), (3, .int (i32 v3)), (4, .int (i32 v4))]) B.1 B.2.1 dX16_isShown_56 hl (by decide) rfl (fun ls hl => ?_)
  obtain ⟨n9, h⟩ := h
  exact al_X16_isShown_58 K hQ hX n9 _ _ _ _ _ _ g1 g3 g4 gu0 (by unfold rng; omega) h hGσ hS _ _ _ hH (lv_sub (l' := [(0, .ref rm), (1, .int (i32 v1)), (3, .int (i32 v3)), (4, .int (i32 v4)), (5, .int (i32 u0)), (6, .int (i32 0))]) hl [2, 3, 4, 5, 1, 0] rfl) hc
set_option maxRecDepth 20000 in
theorem a_X16_isShown_52 {Q : Sg → Int → Prop} {X : Sg → String → Prop} (K : MC R p s m args c cX16_isShown 10 RX16 D cA tys A n0 s0 1 30 []) (hQ : HQZ p l e R s m args below meth c cX16_isShown D cA A n0 s0 QM dm ra jx rm Q) (hX : HX p l e R s m args below meth c 10 D cA A n0 s0 QM dm ra jx rm X) : ∀ (σ : Sg) (v1 : Int) (v3 : Int) (v4 : Int) (g1 : rng v1) (g3 : rng v3) (g4 : rng v4), w_X16_isShown_52 ra jx rm Q X σ v1 v3 v4 → RG σ → Shp dm ra jx rm σ → JJ p l e R s m args below meth c 10 D cA A n0 s0 QM σ 52 [(0, .ref rm), (1, .int (i32 v1)), (3, .int (i32 v3)), (4, .int (i32 v4))] [] := by
  intro σ v1 v3 v4 g1 g3 g4 h hGσ hS H locs ls hH hl hc
  have B := K.1
  unfold w_X16_isShown_52 at h
  refine lv_iconst (v := i32 0) B.1 B.2.1 dX16_isShown_52 (by decide) ?_
  exact a_X16_isShown_53 K hQ hX _ _ _ _ _ g1 g3 g4 (by unfold rng; omega) h hGσ hS _ _ _ hH (lv_sub (l' := [(0, .ref rm), (1, .int (i32 v1)), (3, .int (i32 v3)), (4, .int (i32 v4))]) hl [0, 1, 2, 3] rfl) hc
set_option maxRecDepth 20000 in
theorem a_X16_isShown_48 {Q : Sg → Int → Prop} {X : Sg → String → Prop} (K : MC R p s m args c cX16_isShown 10 RX16 D cA tys A n0 s0 1 30 []) (hQ : HQZ p l e R s m args below meth c cX16_isShown D cA A n0 s0 QM dm ra jx rm Q) (hX : HX p l e R s m args below meth c 10 D cA A n0 s0 QM dm ra jx rm X) : ∀ (σ : Sg) (v1 : Int) (v3 : Int) (v4 : Int) (g1 : rng v1) (g3 : rng v3) (g4 : rng v4), w_X16_isShown_48 ra jx rm Q X σ v1 v3 v4 → RG σ → Shp dm ra jx rm σ → JJ p l e R s m args below meth c 10 D cA A n0 s0 QM σ 48 [(0, .ref rm), (1, .int (i32 v1)), (3, .int (i32 v3)), (4, .int (i32 v4))] [] := by
  intro σ v1 v3 v4 g1 g3 g4 h hGσ hS H locs ls hH hl hc
  have B := K.1
  unfold w_X16_isShown_48 at h
  refine lv_iconst (v := i32 1) B.1 B.2.1 dX16_isShown_48 (by decide) ?_
  refine lv_goto (tgt := 53) B.1 B.2.1 dX16_isShown_49 (by decide) ?_
  exact a_X16_isShown_53 K hQ hX _ _ _ _ _ g1 g3 g4 (by unfold rng; omega) h hGσ hS _ _ _ hH (lv_sub (l' := [(0, .ref rm), (1, .int (i32 v1)), (3, .int (i32 v3)), (4, .int (i32 v4))]) hl [0, 1, 2, 3] rfl) hc
set_option maxRecDepth 20000 in
theorem a_X16_isShown_0 {Q : Sg → Int → Prop} {X : Sg → String → Prop} (K : MC R p s m args c cX16_isShown 10 RX16 D cA tys A n0 s0 1 30 []) (hQ : HQZ p l e R s m args below meth c cX16_isShown D cA A n0 s0 QM dm ra jx rm Q) (hX : HX p l e R s m args below meth c 10 D cA A n0 s0 QM dm ra jx rm X) : ∀ (σ : Sg) (v1 : Int) (g1 : rng v1), w_X16_isShown_0 ra jx rm Q X σ v1 → RG σ → Shp dm ra jx rm σ → JJ p l e R s m args below meth c 10 D cA A n0 s0 QM σ 0 [(0, .ref rm), (1, .int (i32 v1))] [] := by
  intro σ v1 g1 h hGσ hS H locs ls hH hl hc
  have B := K.1
  unfold w_X16_isShown_0 at h
  refine lv_aload_n B.1 B.2.1 dX16_isShown_0 rfl (lv_at hl 0 rfl) ?_
  refine lv_iload_n B.1 B.2.1 dX16_isShown_1 rfl (lv_at hl 1 rfl) ?_
  refine c_V B hH hl hc K.2.2.1 (C := RX16) (T := TX16) (N := 123) (ci := 16) (As := [.int (i32 v1)]) (ok_X16_operatorOfOutput K.2.1 σ v1 g1 hGσ hS h) wc_X16_682 1 hd_X16_operatorOfOutput ⟨Nat.le_trans (Nat.le_of_ble_eq_true rfl) K.2.2.2.1, Nat.le_trans (Nat.le_of_ble_eq_true rfl) K.2.2.2.2.1⟩ hS.1.1 hS.1.2 (by decide) rfl rfl (rest := []) rfl (Nat.le_of_ble_eq_true rfl) dX16_isShown_2 (fun σ22 w hq => ?_) (fun σ9 E9 hx9 => hX σ9 E9 _ _ _ (tb_out K.2.2.2.2.2 rfl) hx9.1 hx9.2.1 hx9.2.2)
  obtain ⟨r23, rfl, gr23, h, hGσ22, hS⟩ := hq
  intro H locs ls hH hl hc
  refine W.eq (g2 := F0 m 5 ls [.int (i32 r23)]) (rfl) ?_
  try dsimp only at h
  refine lv_istore_n (lv' := [(2, .int (i32 r23)), (0, .ref rm), (1, .int (i32 v1))]) B.1 B.2.1 dX16_isShown_5 rfl hl (by decide) rfl (fun ls hl => ?_)
  refine lv_aload_n B.1 B.2.1 dX16_isShown_6 rfl (lv_at hl 1 rfl) ?_
  refine r_getp B hH hS 17 (by decide) wf_X16_356 rfl rfl dX16_isShown_7 ?_
  obtain ⟨a24, ea24, ja24, h⟩ := h
  refine W.eq (g2 := F0 m 10 ls [.ref a24]) (by rw [ea24]; rfl) ?_
  refine n_arr B hH hS ja24 4 (kd := 100) (n := 16) (by decide) (by decide) (List.mem_of_getElem? (i := 4) rfl) rfl dX16_isShown_10 ?_
  refine lv_iload_n B.1 B.2.1 dX16_isShown_13 rfl (lv_at hl 0 rfl) ?_
  obtain ⟨q2, h⟩ := h
  refine x_iald B K.2.1 hH (hS.ja ja24 (k := 4) (kd := 100) (n := 16) (by decide)) (by decide) q2 dX16_isShown_14 ?_
  refine lv_istore_n (lv' := [(3, .int (i32 (gI σ22 (jx a24 4) r23.toNat))), (2, .int (i32 r23)), (0, .ref rm), (1, .int (i32 v1))]) B.1 B.2.1 dX16_isShown_15 rfl hl (by decide) rfl (fun ls hl => ?_)
  refine lv_aload_n B.1 B.2.1 dX16_isShown_16 rfl (lv_at hl 2 rfl) ?_
  refine r_arr B hH hS 118 (kd := 100) (n := 17) (by decide) (by decide) wf_X16_874 rfl rfl dX16_isShown_17 ?_
  refine lv_iload_n B.1 B.2.1 dX16_isShown_20 rfl (lv_at hl 0 rfl) ?_
  refine lv_iconst (v := i32 1) B.1 B.2.1 dX16_isShown_21 (by decide) ?_
  obtain ⟨q3, h⟩ := h
  refine lv_iadd B.1 B.2.1 dX16_isShown_22 ?_
  rw [i32_add]
  obtain ⟨q4, h⟩ := h
  refine x_iald B K.2.1 hH (hS.ar (k := 118) (kd := 100) (n := 17) (by decide)) (by decide) q4 dX16_isShown_23 ?_
  refine lv_aload_n B.1 B.2.1 dX16_isShown_24 rfl (lv_at hl 2 rfl) ?_
  refine r_arr B hH hS 118 (kd := 100) (n := 17) (by decide) (by decide) wf_X16_874 rfl rfl dX16_isShown_25 ?_
  refine lv_iload_n B.1 B.2.1 dX16_isShown_28 rfl (lv_at hl 0 rfl) ?_
  obtain ⟨q5, h⟩ := h
  refine x_iald B K.2.1 hH (hS.ar (k := 118) (kd := 100) (n := 17) (by decide)) (by decide) q5 dX16_isShown_29 ?_
  obtain ⟨q6, h⟩ := h
  refine lv_isub B.1 B.2.1 dX16_isShown_30 ?_
  rw [i32_sub]
  refine lv_istore (lv' := [(4, .int (i32 ((gI σ22 (ra 118) ((gI σ22 (jx a24 4) r23.toNat) + 1).toNat) - (gI σ22 (ra 118) (gI σ22 (jx a24 4) r23.toNat).toNat)))), (3, .int (i32 (gI σ22 (jx a24 4) r23.toNat))), (2, .int (i32 r23)), (0, .ref rm), (1, .int (i32 v1))]) B.1 B.2.1 dX16_isShown_31 hl (by decide) rfl (fun ls hl => ?_)
  refine lv_aload_n B.1 B.2.1 dX16_isShown_33 rfl (lv_at hl 3 rfl) ?_
  refine r_arr B hH hS 89 (kd := 100) (n := 12) (by decide) (by decide) wf_X16_667 rfl rfl dX16_isShown_34 ?_
  refine lv_iconst (v := i32 3) B.1 B.2.1 dX16_isShown_37 (by decide) ?_
  refine lv_iload_n B.1 B.2.1 dX16_isShown_38 rfl (lv_at hl 4 rfl) ?_
  obtain ⟨q7, h⟩ := h
  refine lv_imul B.1 B.2.1 dX16_isShown_39 ?_
  rw [i32_mul]
  refine lv_iconst (v := i32 2) B.1 B.2.1 dX16_isShown_40 (by decide) ?_
  obtain ⟨q8, h⟩ := h
  refine lv_iadd B.1 B.2.1 dX16_isShown_41 ?_
  rw [i32_add]
  obtain ⟨q9, h⟩ := h
  refine x_iald B K.2.1 hH (hS.ar (k := 89) (kd := 100) (n := 12) (by decide)) (by decide) q9 dX16_isShown_42 ?_
  refine lv_iload B.1 B.2.1 dX16_isShown_43 (lv_at hl 0 rfl) ?_
  refine lv_icmp_ne (tgt := 52) B.1 B.2.1 dX16_isShown_45 (by decide) (fun h9 => ?_) (fun h9 => ?_)
  · rw [if_pos (fun q => h9 ((i32_eq (hGσ22 _ _) q6).mpr q))] at h
    exact a_X16_isShown_52 K hQ hX _ _ _ _ g1 (hGσ22 _ _) q6 h hGσ22 hS _ _ _ hH (lv_sub (l' := [(0, .ref rm), (1, .int (i32 v1)), (3, .int (i32 (gI σ22 (jx a24 4) r23.toNat))), (4, .int (i32 ((gI σ22 (ra 118) ((gI σ22 (jx a24 4) r23.toNat) + 1).toNat) - (gI σ22 (ra 118) (gI σ22 (jx a24 4) r23.toNat).toNat))))]) hl [3, 4, 1, 0] rfl) hc
  · rw [if_neg (fun q => q ((i32_eq (hGσ22 _ _) q6).mp h9))] at h
    exact a_X16_isShown_48 K hQ hX _ _ _ _ g1 (hGσ22 _ _) q6 h hGσ22 hS _ _ _ hH (lv_sub (l' := [(0, .ref rm), (1, .int (i32 v1)), (3, .int (i32 (gI σ22 (jx a24 4) r23.toNat))), (4, .int (i32 ((gI σ22 (ra 118) ((gI σ22 (jx a24 4) r23.toNat) + 1).toNat) - (gI σ22 (ra 118) (gI σ22 (jx a24 4) r23.toNat).toNat))))]) hl [3, 4, 1, 0] rfl) hc
theorem ok_X16_isShown (hT : Tys cA tys) {Q : Sg → Int → Prop} {X : Sg → String → Prop} (σ : Sg) (v1 : Int) (g1 : rng v1) (hG : RG σ) (hS : Shp dm ra jx rm σ) (h : wp_X16_isShown ra jx rm v1 σ Q X) : Ok l D cA tys A yX16_isShown (.code yX16_isShown cX16_isShown 10 (some .boolean)) 1 30 [.ref rm, .int (i32 v1)] σ (QnZ dm ra jx rm Q) (QxR dm ra jx rm X) := by
  unfold wp_X16_isShown at h
  exact ok_Z (plainFor_of_name (by decide)) (by exact Nat.le_of_ble_eq_true rfl) hT (fun p e R s m args below meth c K hQ hX H locs ls hH hl hc => a_X16_isShown_0 K hQ hX σ v1 g1 h hG hS H locs ls hH (lv_sub (l' := [(0, .ref rm), (1, .int (i32 v1))]) hl [0, 1] rfl) hc)
theorem dX16_load_0 : decode cX16_load 0 = .ok (.iconst 0, 1) := by decide +kernel
theorem dX16_load_1 : decode cX16_load 1 = .ok (.istore_n 2, 1) := by decide +kernel
theorem dX16_load_2 : decode cX16_load 2 = .ok (.iload_n 2, 1) := by decide +kernel
theorem dX16_load_3 : decode cX16_load 3 = .ok (.bipush 8, 2) := by decide +kernel
theorem dX16_load_5 : decode cX16_load 5 = .ok (.if_icmp .ge 26, 3) := by decide +kernel
theorem dX16_load_8 : decode cX16_load 8 = .ok (.aload_n 0, 1) := by decide +kernel
theorem dX16_load_9 : decode cX16_load 9 = .ok (.getfield 542, 3) := by decide +kernel
theorem dX16_load_12 : decode cX16_load 12 = .ok (.iload_n 2, 1) := by decide +kernel
theorem dX16_load_13 : decode cX16_load 13 = .ok (.aload_n 0, 1) := by decide +kernel
theorem dX16_load_14 : decode cX16_load 14 = .ok (.getfield 867, 3) := by decide +kernel
theorem dX16_load_17 : decode cX16_load 17 = .ok (.bipush 8, 2) := by decide +kernel
theorem dX16_load_19 : decode cX16_load 19 = .ok (.iload_n 1, 1) := by decide +kernel
theorem dX16_load_20 : decode cX16_load 20 = .ok (.imul, 1) := by decide +kernel
theorem dX16_load_21 : decode cX16_load 21 = .ok (.iload_n 2, 1) := by decide +kernel
theorem dX16_load_22 : decode cX16_load 22 = .ok (.iadd, 1) := by decide +kernel
theorem dX16_load_23 : decode cX16_load 23 = .ok (.laload, 1) := by decide +kernel
theorem dX16_load_24 : decode cX16_load 24 = .ok (.lastore, 1) := by decide +kernel
theorem dX16_load_25 : decode cX16_load 25 = .ok (.iinc 2 1, 3) := by decide +kernel
theorem dX16_load_28 : decode cX16_load 28 = .ok (.goto (-26), 3) := by decide +kernel
theorem dX16_load_31 : decode cX16_load 31 = .ok (.return_, 1) := by decide +kernel
set_option maxRecDepth 20000 in
theorem a_X16_load_31 {Q : Sg → Unit → Prop} {X : Sg → String → Prop} (K : MC R p s m args c cX16_load 3 RX16 D cA tys A n0 s0 0 0 []) (hQ : HQV p l e R s m args below meth c cX16_load D cA A n0 s0 QM dm ra jx rm Q) (hX : HX p l e R s m args below meth c 3 D cA A n0 s0 QM dm ra jx rm X) : ∀ (σ : Sg), w_X16_load_31 ra jx rm Q X σ → RG σ → Shp dm ra jx rm σ → JJ p l e R s m args below meth c 3 D cA A n0 s0 QM σ 31 [(0, .ref rm)] [] := by
  intro σ h hGσ hS H locs ls hH hl hc
  have B := K.1
  unfold w_X16_load_31 at h
  exact hQ _ _ _ _ _ dX16_load_31 hH hc h hGσ hS
set_option maxRecDepth 20000 in
theorem a_X16_load_8 {Q : Sg → Unit → Prop} {X : Sg → String → Prop} (K : MC R p s m args c cX16_load 3 RX16 D cA tys A n0 s0 0 0 []) (hQ : HQV p l e R s m args below meth c cX16_load D cA A n0 s0 QM dm ra jx rm Q) (hX : HX p l e R s m args below meth c 3 D cA A n0 s0 QM dm ra jx rm X) {K2 : Sg → Int → Int → Prop} (hK2 : ∀ (σ : Sg) (v1 : Int) (v2 : Int) (g1 : rng v1) (g2 : rng v2), K2 σ v1 v2 → RG σ → Shp dm ra jx rm σ → JJ p l e R s m args below meth c 3 D cA A n0 s0 QM σ 2 [(0, .ref rm), (1, .int (i32 v1)), (2, .int (i32 v2))] []) : ∀ (σ : Sg) (v1 : Int) (v2 : Int) (g1 : rng v1) (g2 : rng v2), w_X16_load_8 ra jx rm K2 Q X σ v1 v2 → RG σ → Shp dm ra jx rm σ → JJ p l e R s m args below meth c 3 D cA A n0 s0 QM σ 8 [(0, .ref rm), (1, .int (i32 v1)), (2, .int (i32 v2))] [] := by
  intro σ v1 v2 g1 g2 h hGσ hS H locs ls hH hl hc
  have B := K.1
  unfold w_X16_load_8 at h
  refine lv_aload_n B.1 B.2.1 dX16_load_8 rfl (lv_at hl 0 rfl) ?_
  refine r_arr B hH hS 81 (kd := 101) (n := 8) (by decide) (by decide) wf_X16_542 rfl rfl dX16_load_9 ?_
  refine lv_iload_n B.1 B.2.1 dX16_load_12 rfl (lv_at hl 2 rfl) ?_
  refine lv_aload_n B.1 B.2.1 dX16_load_13 rfl (lv_at hl 0 rfl) ?_
  refine r_arr B hH hS 116 (kd := 101) (n := 32000) (by decide) (by decide) wf_X16_867 rfl rfl dX16_load_14 ?_
  refine lv_bipush (v := i32 8) B.1 B.2.1 dX16_load_17 (by decide) ?_
  refine lv_iload_n B.1 B.2.1 dX16_load_19 rfl (lv_at hl 1 rfl) ?_
  obtain ⟨q1, h⟩ := h
  refine lv_imul B.1 B.2.1 dX16_load_20 ?_
  rw [i32_mul]
  refine lv_iload_n B.1 B.2.1 dX16_load_21 rfl (lv_at hl 2 rfl) ?_
  obtain ⟨q2, h⟩ := h
  refine lv_iadd B.1 B.2.1 dX16_load_22 ?_
  rw [i32_add]
  obtain ⟨q3, h⟩ := h
  refine x_lald B K.2.1 hH (hS.ar (k := 116) (kd := 101) (n := 32000) (by decide)) (by decide) q3 dX16_load_23 ?_
  obtain ⟨q4, h⟩ := h
  obtain ⟨σ3, eσ3⟩ : ∃ z, z = pJ σ (ra 81) v2.toNat (gJ σ (ra 116) ((8 * v1) + v2).toNat) := ⟨_, rfl⟩
  have h := h σ3 eσ3
  refine x_last B K.2.1 hH (hS.ar (k := 81) (kd := 101) (n := 8) (by decide)) (by decide) q4 dX16_load_24 (fun H locs hH => ?_)
  have hH : Hd D cA A s (pJ σ (ra 81) v2.toNat (gJ σ (ra 116) ((8 * v1) + v2).toNat)) H locs := hH
  rw [← eσ3] at hH
  have hGσ3 : RG σ3 := by rw [eσ3]; exact hGσ.pJ
  have hS : Shp dm ra jx rm σ3 := by rw [eσ3]; exact hS
  have hc : CB n0 s0 σ3 := by rw [eσ3]; exact hc
  rw [show gc σ = gc σ3 by rw [eσ3], show gs σ = gs σ3 by rw [eσ3]]
  obtain ⟨q6, h⟩ := h
  refine lv_iinc (k := 2) (v := i32 (v2 + 1)) (lv' := [(2, .int (i32 (v2 + 1))), (0, .ref rm), (1, .int (i32 v1))]) B.1 B.2.1 dX16_load_25 hl rfl (i32_add _ _) (by decide) rfl (fun ls hl => ?_)
  refine lv_goto (tgt := 2) B.1 B.2.1 dX16_load_28 (by decide) ?_
  exact hK2 _ _ _ g1 q6 h hGσ3 hS _ _ _ hH (lv_sub (l' := [(0, .ref rm), (1, .int (i32 v1)), (2, .int (i32 (v2 + 1)))]) hl [1, 2, 0] rfl) hc
set_option maxRecDepth 20000 in
theorem a_X16_load_2 {Q : Sg → Unit → Prop} {X : Sg → String → Prop} (K : MC R p s m args c cX16_load 3 RX16 D cA tys A n0 s0 0 0 []) (hQ : HQV p l e R s m args below meth c cX16_load D cA A n0 s0 QM dm ra jx rm Q) (hX : HX p l e R s m args below meth c 3 D cA A n0 s0 QM dm ra jx rm X) {K2 : Sg → Int → Int → Prop} (hK2 : ∀ (σ : Sg) (v1 : Int) (v2 : Int) (g1 : rng v1) (g2 : rng v2), K2 σ v1 v2 → RG σ → Shp dm ra jx rm σ → JJ p l e R s m args below meth c 3 D cA A n0 s0 QM σ 2 [(0, .ref rm), (1, .int (i32 v1)), (2, .int (i32 v2))] []) : ∀ (σ : Sg) (v1 : Int) (v2 : Int) (g1 : rng v1) (g2 : rng v2), w_X16_load_2 ra jx rm K2 Q X σ v1 v2 → RG σ → Shp dm ra jx rm σ → JJ p l e R s m args below meth c 3 D cA A n0 s0 QM σ 2 [(0, .ref rm), (1, .int (i32 v1)), (2, .int (i32 v2))] [] := by
  intro σ v1 v2 g1 g2 h hGσ hS H locs ls hH hl hc
  have B := K.1
  unfold w_X16_load_2 at h
  refine lv_iload_n B.1 B.2.1 dX16_load_2 rfl (lv_at hl 2 rfl) ?_
  refine lv_bipush (v := i32 8) B.1 B.2.1 dX16_load_3 (by decide) ?_
  refine lv_icmp_ge (tgt := 31) B.1 B.2.1 dX16_load_5 (by decide) (fun h9 => ?_) (fun h9 => ?_)
  · rw [if_pos ((i32_le (by unfold rng; omega) g2).mp h9)] at h
    exact a_X16_load_31 K hQ hX _ h hGσ hS _ _ _ hH (lv_sub (l' := [(0, .ref rm)]) hl [0] rfl) hc
  · rw [if_neg (fun q => h9 ((i32_le (by unfold rng; omega) g2).mpr q))] at h
    exact a_X16_load_8 K hQ hX hK2 _ _ _ g1 g2 h hGσ hS _ _ _ hH (lv_sub (l' := [(0, .ref rm), (1, .int (i32 v1)), (2, .int (i32 v2))]) hl [0, 1, 2] rfl) hc
theorem al_X16_load_2 {Q : Sg → Unit → Prop} {X : Sg → String → Prop} (K : MC R p s m args c cX16_load 3 RX16 D cA tys A n0 s0 0 0 []) (hQ : HQV p l e R s m args below meth c cX16_load D cA A n0 s0 QM dm ra jx rm Q) (hX : HX p l e R s m args below meth c 3 D cA A n0 s0 QM dm ra jx rm X) : ∀ (n : Nat), ∀ (σ : Sg) (v1 : Int) (v2 : Int) (g1 : rng v1) (g2 : rng v2), wl_X16_load_2 ra jx rm Q X n σ v1 v2 → RG σ → Shp dm ra jx rm σ → JJ p l e R s m args below meth c 3 D cA A n0 s0 QM σ 2 [(0, .ref rm), (1, .int (i32 v1)), (2, .int (i32 v2))] [] := by
  intro n
  induction n with
  | zero => intro σ v1 v2 g1 g2 h; exact h.elim
  | succ n ih => exact fun σ v1 v2 g1 g2 h => a_X16_load_2 K hQ hX ih σ v1 v2 g1 g2 h
set_option maxRecDepth 20000 in
theorem a_X16_load_0 {Q : Sg → Unit → Prop} {X : Sg → String → Prop} (K : MC R p s m args c cX16_load 3 RX16 D cA tys A n0 s0 0 0 []) (hQ : HQV p l e R s m args below meth c cX16_load D cA A n0 s0 QM dm ra jx rm Q) (hX : HX p l e R s m args below meth c 3 D cA A n0 s0 QM dm ra jx rm X) : ∀ (σ : Sg) (v1 : Int) (g1 : rng v1), w_X16_load_0 ra jx rm Q X σ v1 → RG σ → Shp dm ra jx rm σ → JJ p l e R s m args below meth c 3 D cA A n0 s0 QM σ 0 [(0, .ref rm), (1, .int (i32 v1))] [] := by
  intro σ v1 g1 h hGσ hS H locs ls hH hl hc
  have B := K.1
  unfold w_X16_load_0 at h
  refine lv_iconst (v := i32 0) B.1 B.2.1 dX16_load_0 (by decide) ?_
  refine lv_istore_n (lv' := [(2, .int (i32 0)), (0, .ref rm), (1, .int (i32 v1))]) B.1 B.2.1 dX16_load_1 rfl hl (by decide) rfl (fun ls hl => ?_)
  obtain ⟨n9, h⟩ := h
  exact al_X16_load_2 K hQ hX n9 _ _ _ g1 (by unfold rng; omega) h hGσ hS _ _ _ hH (lv_sub (l' := [(0, .ref rm), (1, .int (i32 v1)), (2, .int (i32 0))]) hl [1, 2, 0] rfl) hc
theorem ok_X16_load (hT : Tys cA tys) {Q : Sg → Unit → Prop} {X : Sg → String → Prop} (σ : Sg) (v1 : Int) (g1 : rng v1) (hG : RG σ) (hS : Shp dm ra jx rm σ) (h : wp_X16_load ra jx rm v1 σ Q X) : Ok l D cA tys A yX16_load (.code yX16_load cX16_load 3 none) 0 0 [.ref rm, .int (i32 v1)] σ (QnV dm ra jx rm Q) (QxR dm ra jx rm X) := by
  unfold wp_X16_load at h
  exact ok_V (plainFor_of_name (by decide)) (by exact Nat.le_of_ble_eq_true rfl) hT (fun p e R s m args below meth c K hQ hX H locs ls hH hl hc => a_X16_load_0 K hQ hX σ v1 g1 h hG hS H locs ls hH (lv_sub (l' := [(0, .ref rm), (1, .int (i32 v1))]) hl [0, 1] rfl) hc)
theorem dX16_passEach_0 : decode cX16_passEach 0 = .ok (.aload_n 0, 1) := by decide +kernel
theorem dX16_passEach_1 : decode cX16_passEach 1 = .ok (.getfield 874, 3) := by decide +kernel
theorem dX16_passEach_4 : decode cX16_passEach 4 = .ok (.iload_n 2, 1) := by decide +kernel
theorem dX16_passEach_5 : decode cX16_passEach 5 = .ok (.iaload, 1) := by decide +kernel
theorem dX16_passEach_6 : decode cX16_passEach 6 = .ok (.istore_n 3, 1) := by decide +kernel
theorem dX16_passEach_7 : decode cX16_passEach 7 = .ok (.iload_n 3, 1) := by decide +kernel
theorem dX16_passEach_8 : decode cX16_passEach 8 = .ok (.aload_n 0, 1) := by decide +kernel
theorem dX16_passEach_9 : decode cX16_passEach 9 = .ok (.getfield 874, 3) := by decide +kernel
theorem dX16_passEach_12 : decode cX16_passEach 12 = .ok (.iload_n 2, 1) := by decide +kernel
theorem dX16_passEach_13 : decode cX16_passEach 13 = .ok (.iconst 1, 1) := by decide +kernel
theorem dX16_passEach_14 : decode cX16_passEach 14 = .ok (.iadd, 1) := by decide +kernel
theorem dX16_passEach_15 : decode cX16_passEach 15 = .ok (.iaload, 1) := by decide +kernel
theorem dX16_passEach_16 : decode cX16_passEach 16 = .ok (.if_icmp .ge 253, 3) := by decide +kernel
theorem dX16_passEach_19 : decode cX16_passEach 19 = .ok (.aload_n 0, 1) := by decide +kernel
theorem dX16_passEach_20 : decode cX16_passEach 20 = .ok (.iload_n 3, 1) := by decide +kernel
theorem dX16_passEach_21 : decode cX16_passEach 21 = .ok (.invokevirtual 880, 3) := by decide +kernel
theorem dX16_passEach_24 : decode cX16_passEach 24 = .ok (.aload_n 0, 1) := by decide +kernel
theorem dX16_passEach_25 : decode cX16_passEach 25 = .ok (.getfield 356, 3) := by decide +kernel
theorem dX16_passEach_28 : decode cX16_passEach 28 = .ok (.getfield 246, 3) := by decide +kernel
theorem dX16_passEach_31 : decode cX16_passEach 31 = .ok (.iload_n 1, 1) := by decide +kernel
theorem dX16_passEach_32 : decode cX16_passEach 32 = .ok (.iaload, 1) := by decide +kernel
theorem dX16_passEach_33 : decode cX16_passEach 33 = .ok (.iconst 3, 1) := by decide +kernel
theorem dX16_passEach_34 : decode cX16_passEach 34 = .ok (.if_icmp .ne 21, 3) := by decide +kernel
theorem dX16_passEach_37 : decode cX16_passEach 37 = .ok (.aload_n 0, 1) := by decide +kernel
theorem dX16_passEach_38 : decode cX16_passEach 38 = .ok (.aload_n 0, 1) := by decide +kernel
theorem dX16_passEach_39 : decode cX16_passEach 39 = .ok (.getfield 864, 3) := by decide +kernel
theorem dX16_passEach_42 : decode cX16_passEach 42 = .ok (.iload_n 3, 1) := by decide +kernel
theorem dX16_passEach_43 : decode cX16_passEach 43 = .ok (.laload, 1) := by decide +kernel
theorem dX16_passEach_44 : decode cX16_passEach 44 = .ok (.aload_n 0, 1) := by decide +kernel
theorem dX16_passEach_45 : decode cX16_passEach 45 = .ok (.getfield 542, 3) := by decide +kernel
theorem dX16_passEach_48 : decode cX16_passEach 48 = .ok (.iconst 0, 1) := by decide +kernel
theorem dX16_passEach_49 : decode cX16_passEach 49 = .ok (.invokevirtual 870, 3) := by decide +kernel
theorem dX16_passEach_52 : decode cX16_passEach 52 = .ok (.goto 211, 3) := by decide +kernel
theorem dX16_passEach_55 : decode cX16_passEach 55 = .ok (.aload_n 0, 1) := by decide +kernel
theorem dX16_passEach_56 : decode cX16_passEach 56 = .ok (.getfield 356, 3) := by decide +kernel
theorem dX16_passEach_59 : decode cX16_passEach 59 = .ok (.getfield 246, 3) := by decide +kernel
theorem dX16_passEach_62 : decode cX16_passEach 62 = .ok (.iload_n 1, 1) := by decide +kernel
theorem dX16_passEach_63 : decode cX16_passEach 63 = .ok (.iaload, 1) := by decide +kernel
theorem dX16_passEach_64 : decode cX16_passEach 64 = .ok (.iconst 1, 1) := by decide +kernel
theorem dX16_passEach_65 : decode cX16_passEach 65 = .ok (.if_icmp .ne 68, 3) := by decide +kernel
theorem dX16_passEach_68 : decode cX16_passEach 68 = .ok (.aload_n 0, 1) := by decide +kernel
theorem dX16_passEach_69 : decode cX16_passEach 69 = .ok (.aload_n 0, 1) := by decide +kernel
theorem dX16_passEach_70 : decode cX16_passEach 70 = .ok (.getfield 356, 3) := by decide +kernel
theorem dX16_passEach_73 : decode cX16_passEach 73 = .ok (.aload_n 0, 1) := by decide +kernel
theorem dX16_passEach_74 : decode cX16_passEach 74 = .ok (.getfield 356, 3) := by decide +kernel
theorem dX16_passEach_77 : decode cX16_passEach 77 = .ok (.getfield 219, 3) := by decide +kernel
theorem dX16_passEach_80 : decode cX16_passEach 80 = .ok (.bipush 8, 2) := by decide +kernel
theorem dX16_passEach_82 : decode cX16_passEach 82 = .ok (.iload_n 1, 1) := by decide +kernel
theorem dX16_passEach_83 : decode cX16_passEach 83 = .ok (.imul, 1) := by decide +kernel
theorem dX16_passEach_84 : decode cX16_passEach 84 = .ok (.iaload, 1) := by decide +kernel
theorem dX16_passEach_85 : decode cX16_passEach 85 = .ok (.aload_n 0, 1) := by decide +kernel
theorem dX16_passEach_86 : decode cX16_passEach 86 = .ok (.getfield 864, 3) := by decide +kernel
theorem dX16_passEach_89 : decode cX16_passEach 89 = .ok (.iload_n 3, 1) := by decide +kernel
theorem dX16_passEach_90 : decode cX16_passEach 90 = .ok (.laload, 1) := by decide +kernel
theorem dX16_passEach_91 : decode cX16_passEach 91 = .ok (.aload_n 0, 1) := by decide +kernel
theorem dX16_passEach_92 : decode cX16_passEach 92 = .ok (.getfield 542, 3) := by decide +kernel
theorem dX16_passEach_95 : decode cX16_passEach 95 = .ok (.iconst 0, 1) := by decide +kernel
theorem dX16_passEach_96 : decode cX16_passEach 96 = .ok (.invokevirtual 545, 3) := by decide +kernel
theorem dX16_passEach_99 : decode cX16_passEach 99 = .ok (.lstore 4, 2) := by decide +kernel
theorem dX16_passEach_101 : decode cX16_passEach 101 = .ok (.aload_n 0, 1) := by decide +kernel
theorem dX16_passEach_102 : decode cX16_passEach 102 = .ok (.getfield 330, 3) := by decide +kernel
theorem dX16_passEach_105 : decode cX16_passEach 105 = .ok (.ifCond .ne 25, 3) := by decide +kernel
theorem dX16_passEach_108 : decode cX16_passEach 108 = .ok (.lload 4, 2) := by decide +kernel
theorem dX16_passEach_110 : decode cX16_passEach 110 = .ok (.lconst 0, 1) := by decide +kernel
theorem dX16_passEach_111 : decode cX16_passEach 111 = .ok (.lcmp, 1) := by decide +kernel
theorem dX16_passEach_112 : decode cX16_passEach 112 = .ok (.ifCond .eq 18, 3) := by decide +kernel
theorem dX16_passEach_115 : decode cX16_passEach 115 = .ok (.aload_n 0, 1) := by decide +kernel
theorem dX16_passEach_116 : decode cX16_passEach 116 = .ok (.aload_n 0, 1) := by decide +kernel
theorem dX16_passEach_117 : decode cX16_passEach 117 = .ok (.getfield 864, 3) := by decide +kernel
theorem dX16_passEach_120 : decode cX16_passEach 120 = .ok (.iload_n 3, 1) := by decide +kernel
theorem dX16_passEach_121 : decode cX16_passEach 121 = .ok (.laload, 1) := by decide +kernel
theorem dX16_passEach_122 : decode cX16_passEach 122 = .ok (.aload_n 0, 1) := by decide +kernel
theorem dX16_passEach_123 : decode cX16_passEach 123 = .ok (.getfield 542, 3) := by decide +kernel
theorem dX16_passEach_126 : decode cX16_passEach 126 = .ok (.iconst 0, 1) := by decide +kernel
theorem dX16_passEach_127 : decode cX16_passEach 127 = .ok (.invokevirtual 870, 3) := by decide +kernel
theorem dX16_passEach_130 : decode cX16_passEach 130 = .ok (.goto 133, 3) := by decide +kernel
theorem dX16_passEach_133 : decode cX16_passEach 133 = .ok (.iconst 1, 1) := by decide +kernel
theorem dX16_passEach_134 : decode cX16_passEach 134 = .ok (.istore 4, 2) := by decide +kernel
theorem dX16_passEach_136 : decode cX16_passEach 136 = .ok (.iconst 0, 1) := by decide +kernel
theorem dX16_passEach_137 : decode cX16_passEach 137 = .ok (.istore 5, 2) := by decide +kernel
theorem dX16_passEach_139 : decode cX16_passEach 139 = .ok (.iload 5, 2) := by decide +kernel
theorem dX16_passEach_141 : decode cX16_passEach 141 = .ok (.bipush 8, 2) := by decide +kernel
theorem dX16_passEach_143 : decode cX16_passEach 143 = .ok (.if_icmp .ge 17, 3) := by decide +kernel
theorem dX16_passEach_146 : decode cX16_passEach 146 = .ok (.aload_n 0, 1) := by decide +kernel
theorem dX16_passEach_147 : decode cX16_passEach 147 = .ok (.getfield 578, 3) := by decide +kernel
theorem dX16_passEach_150 : decode cX16_passEach 150 = .ok (.iload 5, 2) := by decide +kernel
theorem dX16_passEach_152 : decode cX16_passEach 152 = .ok (.lconst 0, 1) := by decide +kernel
theorem dX16_passEach_153 : decode cX16_passEach 153 = .ok (.lastore, 1) := by decide +kernel
theorem dX16_passEach_154 : decode cX16_passEach 154 = .ok (.iinc 5 1, 3) := by decide +kernel
theorem dX16_passEach_157 : decode cX16_passEach 157 = .ok (.goto (-18), 3) := by decide +kernel
theorem dX16_passEach_160 : decode cX16_passEach 160 = .ok (.iconst 0, 1) := by decide +kernel
theorem dX16_passEach_161 : decode cX16_passEach 161 = .ok (.istore 5, 2) := by decide +kernel
theorem dX16_passEach_163 : decode cX16_passEach 163 = .ok (.iload 5, 2) := by decide +kernel
theorem dX16_passEach_165 : decode cX16_passEach 165 = .ok (.aload_n 0, 1) := by decide +kernel
theorem dX16_passEach_166 : decode cX16_passEach 166 = .ok (.getfield 356, 3) := by decide +kernel
theorem dX16_passEach_169 : decode cX16_passEach 169 = .ok (.getfield 222, 3) := by decide +kernel
theorem dX16_passEach_172 : decode cX16_passEach 172 = .ok (.iload_n 1, 1) := by decide +kernel
theorem dX16_passEach_173 : decode cX16_passEach 173 = .ok (.iaload, 1) := by decide +kernel
theorem dX16_passEach_174 : decode cX16_passEach 174 = .ok (.if_icmp .ge 69, 3) := by decide +kernel
theorem dX16_passEach_177 : decode cX16_passEach 177 = .ok (.iload 4, 2) := by decide +kernel
theorem dX16_passEach_179 : decode cX16_passEach 179 = .ok (.ifCond .eq 64, 3) := by decide +kernel
theorem dX16_passEach_182 : decode cX16_passEach 182 = .ok (.aload_n 0, 1) := by decide +kernel
theorem dX16_passEach_183 : decode cX16_passEach 183 = .ok (.getfield 578, 3) := by decide +kernel
theorem dX16_passEach_186 : decode cX16_passEach 186 = .ok (.iload 5, 2) := by decide +kernel
theorem dX16_passEach_188 : decode cX16_passEach 188 = .ok (.aload_n 0, 1) := by decide +kernel
theorem dX16_passEach_189 : decode cX16_passEach 189 = .ok (.aload_n 0, 1) := by decide +kernel
theorem dX16_passEach_190 : decode cX16_passEach 190 = .ok (.getfield 356, 3) := by decide +kernel
theorem dX16_passEach_193 : decode cX16_passEach 193 = .ok (.aload_n 0, 1) := by decide +kernel
theorem dX16_passEach_194 : decode cX16_passEach 194 = .ok (.getfield 356, 3) := by decide +kernel
theorem dX16_passEach_197 : decode cX16_passEach 197 = .ok (.getfield 219, 3) := by decide +kernel
theorem dX16_passEach_200 : decode cX16_passEach 200 = .ok (.bipush 8, 2) := by decide +kernel
theorem dX16_passEach_202 : decode cX16_passEach 202 = .ok (.iload_n 1, 1) := by decide +kernel
theorem dX16_passEach_203 : decode cX16_passEach 203 = .ok (.imul, 1) := by decide +kernel
theorem dX16_passEach_204 : decode cX16_passEach 204 = .ok (.iload 5, 2) := by decide +kernel
theorem dX16_passEach_206 : decode cX16_passEach 206 = .ok (.iadd, 1) := by decide +kernel
theorem dX16_passEach_207 : decode cX16_passEach 207 = .ok (.iaload, 1) := by decide +kernel
theorem dX16_passEach_208 : decode cX16_passEach 208 = .ok (.aload_n 0, 1) := by decide +kernel
theorem dX16_passEach_209 : decode cX16_passEach 209 = .ok (.getfield 864, 3) := by decide +kernel
theorem dX16_passEach_212 : decode cX16_passEach 212 = .ok (.iload_n 3, 1) := by decide +kernel
theorem dX16_passEach_213 : decode cX16_passEach 213 = .ok (.laload, 1) := by decide +kernel
theorem dX16_passEach_214 : decode cX16_passEach 214 = .ok (.aload_n 0, 1) := by decide +kernel
theorem dX16_passEach_215 : decode cX16_passEach 215 = .ok (.getfield 542, 3) := by decide +kernel
theorem dX16_passEach_218 : decode cX16_passEach 218 = .ok (.iconst 0, 1) := by decide +kernel
theorem dX16_passEach_219 : decode cX16_passEach 219 = .ok (.invokevirtual 545, 3) := by decide +kernel
theorem dX16_passEach_222 : decode cX16_passEach 222 = .ok (.lastore, 1) := by decide +kernel
theorem dX16_passEach_223 : decode cX16_passEach 223 = .ok (.aload_n 0, 1) := by decide +kernel
theorem dX16_passEach_224 : decode cX16_passEach 224 = .ok (.getfield 330, 3) := by decide +kernel
theorem dX16_passEach_227 : decode cX16_passEach 227 = .ok (.ifCond .ne 7, 3) := by decide +kernel
theorem dX16_passEach_230 : decode cX16_passEach 230 = .ok (.iconst 1, 1) := by decide +kernel
theorem dX16_passEach_231 : decode cX16_passEach 231 = .ok (.goto 4, 3) := by decide +kernel
theorem dX16_passEach_234 : decode cX16_passEach 234 = .ok (.iconst 0, 1) := by decide +kernel
theorem dX16_passEach_235 : decode cX16_passEach 235 = .ok (.istore 4, 2) := by decide +kernel
theorem dX16_passEach_237 : decode cX16_passEach 237 = .ok (.iinc 5 1, 3) := by decide +kernel
theorem dX16_passEach_240 : decode cX16_passEach 240 = .ok (.goto (-77), 3) := by decide +kernel
theorem dX16_passEach_243 : decode cX16_passEach 243 = .ok (.iload 4, 2) := by decide +kernel
theorem dX16_passEach_245 : decode cX16_passEach 245 = .ok (.ifCond .eq 18, 3) := by decide +kernel
theorem dX16_passEach_248 : decode cX16_passEach 248 = .ok (.aload_n 0, 1) := by decide +kernel
theorem dX16_passEach_249 : decode cX16_passEach 249 = .ok (.aload_n 0, 1) := by decide +kernel
theorem dX16_passEach_250 : decode cX16_passEach 250 = .ok (.getfield 864, 3) := by decide +kernel
theorem dX16_passEach_253 : decode cX16_passEach 253 = .ok (.iload_n 3, 1) := by decide +kernel
theorem dX16_passEach_254 : decode cX16_passEach 254 = .ok (.laload, 1) := by decide +kernel
theorem dX16_passEach_255 : decode cX16_passEach 255 = .ok (.aload_n 0, 1) := by decide +kernel
theorem dX16_passEach_256 : decode cX16_passEach 256 = .ok (.getfield 578, 3) := by decide +kernel
theorem dX16_passEach_259 : decode cX16_passEach 259 = .ok (.iconst 0, 1) := by decide +kernel
theorem dX16_passEach_260 : decode cX16_passEach 260 = .ok (.invokevirtual 870, 3) := by decide +kernel
theorem dX16_passEach_263 : decode cX16_passEach 263 = .ok (.iinc 3 1, 3) := by decide +kernel
theorem dX16_passEach_266 : decode cX16_passEach 266 = .ok (.goto (-259), 3) := by decide +kernel
theorem dX16_passEach_269 : decode cX16_passEach 269 = .ok (.return_, 1) := by decide +kernel
set_option maxRecDepth 20000 in
theorem a_X16_passEach_269 {Q : Sg → Unit → Prop} {X : Sg → String → Prop} (K : MC R p s m args c cX16_passEach 6 RX16 D cA tys A n0 s0 2 56 []) (hQ : HQV p l e R s m args below meth c cX16_passEach D cA A n0 s0 QM dm ra jx rm Q) (hX : HX p l e R s m args below meth c 6 D cA A n0 s0 QM dm ra jx rm X) : ∀ (σ : Sg), w_X16_passEach_269 ra jx rm Q X σ → RG σ → Shp dm ra jx rm σ → JJ p l e R s m args below meth c 6 D cA A n0 s0 QM σ 269 [(0, .ref rm)] [] := by
  intro σ h hGσ hS H locs ls hH hl hc
  have B := K.1
  unfold w_X16_passEach_269 at h
  exact hQ _ _ _ _ _ dX16_passEach_269 hH hc h hGσ hS
set_option maxRecDepth 20000 in
theorem a_X16_passEach_263 {Q : Sg → Unit → Prop} {X : Sg → String → Prop} (K : MC R p s m args c cX16_passEach 6 RX16 D cA tys A n0 s0 2 56 []) (hQ : HQV p l e R s m args below meth c cX16_passEach D cA A n0 s0 QM dm ra jx rm Q) (hX : HX p l e R s m args below meth c 6 D cA A n0 s0 QM dm ra jx rm X) {K7 : Sg → Int → Int → Int → Prop} (hK7 : ∀ (σ : Sg) (v1 : Int) (v2 : Int) (v3 : Int) (g1 : rng v1) (g2 : rng v2) (g3 : rng v3), K7 σ v1 v2 v3 → RG σ → Shp dm ra jx rm σ → JJ p l e R s m args below meth c 6 D cA A n0 s0 QM σ 7 [(0, .ref rm), (1, .int (i32 v1)), (2, .int (i32 v2)), (3, .int (i32 v3))] []) : ∀ (σ : Sg) (v1 : Int) (v2 : Int) (v3 : Int) (g1 : rng v1) (g2 : rng v2) (g3 : rng v3), w_X16_passEach_263 ra jx rm K7 Q X σ v1 v2 v3 → RG σ → Shp dm ra jx rm σ → JJ p l e R s m args below meth c 6 D cA A n0 s0 QM σ 263 [(0, .ref rm), (1, .int (i32 v1)), (2, .int (i32 v2)), (3, .int (i32 v3))] [] := by
  intro σ v1 v2 v3 g1 g2 g3 h hGσ hS H locs ls hH hl hc
  have B := K.1
  unfold w_X16_passEach_263 at h
  obtain ⟨q1, h⟩ := h
  refine lv_iinc (k := 3) (v := i32 (v3 + 1)) (lv' := [(3, .int (i32 (v3 + 1))), (0, .ref rm), (1, .int (i32 v1)), (2, .int (i32 v2))]) B.1 B.2.1 dX16_passEach_263 hl rfl (i32_add _ _) (by decide) rfl (fun ls hl => ?_)
  refine lv_goto (tgt := 7) B.1 B.2.1 dX16_passEach_266 (by decide) ?_
  exact hK7 _ _ _ _ g1 g2 q1 h hGσ hS _ _ _ hH (lv_sub (l' := [(0, .ref rm), (1, .int (i32 v1)), (2, .int (i32 v2)), (3, .int (i32 (v3 + 1)))]) hl [1, 2, 3, 0] rfl) hc
set_option maxRecDepth 20000 in
theorem a_X16_passEach_248 {Q : Sg → Unit → Prop} {X : Sg → String → Prop} (K : MC R p s m args c cX16_passEach 6 RX16 D cA tys A n0 s0 2 56 []) (hQ : HQV p l e R s m args below meth c cX16_passEach D cA A n0 s0 QM dm ra jx rm Q) (hX : HX p l e R s m args below meth c 6 D cA A n0 s0 QM dm ra jx rm X) {K7 : Sg → Int → Int → Int → Prop} (hK7 : ∀ (σ : Sg) (v1 : Int) (v2 : Int) (v3 : Int) (g1 : rng v1) (g2 : rng v2) (g3 : rng v3), K7 σ v1 v2 v3 → RG σ → Shp dm ra jx rm σ → JJ p l e R s m args below meth c 6 D cA A n0 s0 QM σ 7 [(0, .ref rm), (1, .int (i32 v1)), (2, .int (i32 v2)), (3, .int (i32 v3))] []) : ∀ (σ : Sg) (v1 : Int) (v2 : Int) (v3 : Int) (g1 : rng v1) (g2 : rng v2) (g3 : rng v3), w_X16_passEach_248 ra jx rm K7 Q X σ v1 v2 v3 → RG σ → Shp dm ra jx rm σ → JJ p l e R s m args below meth c 6 D cA A n0 s0 QM σ 248 [(0, .ref rm), (1, .int (i32 v1)), (2, .int (i32 v2)), (3, .int (i32 v3))] [] := by
  intro σ v1 v2 v3 g1 g2 g3 h hGσ hS H locs ls hH hl hc
  have B := K.1
  unfold w_X16_passEach_248 at h
  refine lv_aload_n B.1 B.2.1 dX16_passEach_248 rfl (lv_at hl 0 rfl) ?_
  refine lv_aload_n B.1 B.2.1 dX16_passEach_249 rfl (lv_at hl 0 rfl) ?_
  refine r_arr B hH hS 115 (kd := 101) (n := 4000) (by decide) (by decide) wf_X16_864 rfl rfl dX16_passEach_250 ?_
  refine lv_iload_n B.1 B.2.1 dX16_passEach_253 rfl (lv_at hl 3 rfl) ?_
  obtain ⟨q1, h⟩ := h
  refine x_lald B K.2.1 hH (hS.ar (k := 115) (kd := 101) (n := 4000) (by decide)) (by decide) q1 dX16_passEach_254 ?_
  refine lv_aload_n B.1 B.2.1 dX16_passEach_255 rfl (lv_at hl 0 rfl) ?_
  refine r_arr B hH hS 82 (kd := 101) (n := 16) (by decide) (by decide) wf_X16_578 rfl rfl dX16_passEach_256 ?_
  refine lv_iconst (v := i32 0) B.1 B.2.1 dX16_passEach_259 (by decide) ?_
  refine c_V B hH hl hc K.2.2.1 (C := RX16) (T := TX16) (N := 123) (ci := 16) (As := [.long (gJ σ (ra 115) v3.toNat), va_rf (some (ra 82)), .int (i32 0)]) (ok_X16_pass K.2.1 σ (gJ σ (ra 115) v3.toNat) (some (ra 82)) 0 (by unfold rng; omega) hGσ hS h) wc_X16_870 3 hd_X16_pass ⟨Nat.le_trans (Nat.le_of_ble_eq_true rfl) K.2.2.2.1, Nat.le_trans (Nat.le_of_ble_eq_true rfl) K.2.2.2.2.1⟩ hS.1.1 hS.1.2 (by decide) rfl rfl (rest := []) rfl (Nat.le_of_ble_eq_true rfl) dX16_passEach_260 (fun σ31 w hq => ?_) (fun σ9 E9 hx9 => hX σ9 E9 _ _ _ (tb_out K.2.2.2.2.2 rfl) hx9.1 hx9.2.1 hx9.2.2)
  obtain ⟨rfl, h, hGσ31, hS⟩ := hq
  intro H locs ls hH hl hc
  refine W.eq (g2 := F0 m 263 ls []) (rfl) ?_
  try dsimp only at h
  exact a_X16_passEach_263 K hQ hX hK7 _ _ _ _ g1 g2 g3 h hGσ31 hS _ _ _ hH (lv_sub (l' := [(0, .ref rm), (1, .int (i32 v1)), (2, .int (i32 v2)), (3, .int (i32 v3))]) hl [0, 1, 2, 3] rfl) hc
set_option maxRecDepth 20000 in
theorem a_X16_passEach_243 {Q : Sg → Unit → Prop} {X : Sg → String → Prop} (K : MC R p s m args c cX16_passEach 6 RX16 D cA tys A n0 s0 2 56 []) (hQ : HQV p l e R s m args below meth c cX16_passEach D cA A n0 s0 QM dm ra jx rm Q) (hX : HX p l e R s m args below meth c 6 D cA A n0 s0 QM dm ra jx rm X) {K7 : Sg → Int → Int → Int → Prop} (hK7 : ∀ (σ : Sg) (v1 : Int) (v2 : Int) (v3 : Int) (g1 : rng v1) (g2 : rng v2) (g3 : rng v3), K7 σ v1 v2 v3 → RG σ → Shp dm ra jx rm σ → JJ p l e R s m args below meth c 6 D cA A n0 s0 QM σ 7 [(0, .ref rm), (1, .int (i32 v1)), (2, .int (i32 v2)), (3, .int (i32 v3))] []) : ∀ (σ : Sg) (v1 : Int) (v2 : Int) (v3 : Int) (v4 : Int) (g1 : rng v1) (g2 : rng v2) (g3 : rng v3) (g4 : rng v4), w_X16_passEach_243 ra jx rm K7 Q X σ v1 v2 v3 v4 → RG σ → Shp dm ra jx rm σ → JJ p l e R s m args below meth c 6 D cA A n0 s0 QM σ 243 [(0, .ref rm), (1, .int (i32 v1)), (2, .int (i32 v2)), (3, .int (i32 v3)), (4, .int (i32 v4))] [] := by
  intro σ v1 v2 v3 v4 g1 g2 g3 g4 h hGσ hS H locs ls hH hl hc
  have B := K.1
  unfold w_X16_passEach_243 at h
  refine lv_iload B.1 B.2.1 dX16_passEach_243 (lv_at hl 4 rfl) ?_
  refine lv_if_eq (tgt := 263) B.1 B.2.1 dX16_passEach_245 (by decide) (fun h9 => ?_) (fun h9 => ?_)
  · rw [if_pos ((z_eq g4).mp h9)] at h
    exact a_X16_passEach_263 K hQ hX hK7 _ _ _ _ g1 g2 g3 h hGσ hS _ _ _ hH (lv_sub (l' := [(0, .ref rm), (1, .int (i32 v1)), (2, .int (i32 v2)), (3, .int (i32 v3))]) hl [0, 1, 2, 3] rfl) hc
  · rw [if_neg (fun q => h9 ((z_eq g4).mpr q))] at h
    exact a_X16_passEach_248 K hQ hX hK7 _ _ _ _ g1 g2 g3 h hGσ hS _ _ _ hH (lv_sub (l' := [(0, .ref rm), (1, .int (i32 v1)), (2, .int (i32 v2)), (3, .int (i32 v3))]) hl [0, 1, 2, 3] rfl) hc
set_option maxRecDepth 20000 in
theorem a_X16_passEach_235 {Q : Sg → Unit → Prop} {X : Sg → String → Prop} (K : MC R p s m args c cX16_passEach 6 RX16 D cA tys A n0 s0 2 56 []) (hQ : HQV p l e R s m args below meth c cX16_passEach D cA A n0 s0 QM dm ra jx rm Q) (hX : HX p l e R s m args below meth c 6 D cA A n0 s0 QM dm ra jx rm X) {K7 : Sg → Int → Int → Int → Prop} (hK7 : ∀ (σ : Sg) (v1 : Int) (v2 : Int) (v3 : Int) (g1 : rng v1) (g2 : rng v2) (g3 : rng v3), K7 σ v1 v2 v3 → RG σ → Shp dm ra jx rm σ → JJ p l e R s m args below meth c 6 D cA A n0 s0 QM σ 7 [(0, .ref rm), (1, .int (i32 v1)), (2, .int (i32 v2)), (3, .int (i32 v3))] []) {K163 : Sg → Int → Int → Int → Int → Int → Prop} (hK163 : ∀ (σ : Sg) (v1 : Int) (v2 : Int) (v3 : Int) (v4 : Int) (v5 : Int) (g1 : rng v1) (g2 : rng v2) (g3 : rng v3) (g4 : rng v4) (g5 : rng v5), K163 σ v1 v2 v3 v4 v5 → RG σ → Shp dm ra jx rm σ → JJ p l e R s m args below meth c 6 D cA A n0 s0 QM σ 163 [(0, .ref rm), (1, .int (i32 v1)), (2, .int (i32 v2)), (3, .int (i32 v3)), (4, .int (i32 v4)), (5, .int (i32 v5))] []) : ∀ (σ : Sg) (v1 : Int) (v2 : Int) (v3 : Int) (v5 : Int) (u0 : Int) (g1 : rng v1) (g2 : rng v2) (g3 : rng v3) (g5 : rng v5) (gu0 : rng u0), w_X16_passEach_235 ra jx rm K7 K163 Q X σ v1 v2 v3 v5 u0 → RG σ → Shp dm ra jx rm σ → JJ p l e R s m args below meth c 6 D cA A n0 s0 QM σ 235 [(0, .ref rm), (1, .int (i32 v1)), (2, .int (i32 v2)), (3, .int (i32 v3)), (5, .int (i32 v5))] [.int (i32 u0)] := by
  intro σ v1 v2 v3 v5 u0 g1 g2 g3 g5 gu0 h hGσ hS H locs ls hH hl hc
  have B := K.1
  unfold w_X16_passEach_235 at h
  refine lv_istore (lv' := [(4, .int (i32 u0)), (0, .ref rm), (1, .int (i32 v1)), (2, .int (i32 v2)), (3, .int (i32 v3)), (5, .int (i32 v5))]) B.1 B.2.1 dX16_passEach_235 hl (by decide) rfl (fun ls hl => ?_)
  obtain ⟨q1, h⟩ := h
  refine lv_iinc (k := 5) (v := i32 (v5 + 1)) (lv' := [(5, .int (i32 (v5 + 1))), (4, .int (i32 u0)), (0, .ref rm), (1, .int (i32 v1)), (2, .int (i32 v2)), (3, .int (i32 v3))]) B.1 B.2.1 dX16_passEach_237 hl rfl (i32_add _ _) (by decide) rfl (fun ls hl => ?_)
  refine lv_goto (tgt := 163) B.1 B.2.1 dX16_passEach_240 (by decide) ?_
  exact hK163 _ _ _ _ _ _ g1 g2 g3 gu0 q1 h hGσ hS _ _ _ hH (lv_sub (l' := [(0, .ref rm), (1, .int (i32 v1)), (2, .int (i32 v2)), (3, .int (i32 v3)), (4, .int (i32 u0)), (5, .int (i32 (v5 + 1)))]) hl [2, 3, 4, 5, 1, 0] rfl) hc
set_option maxRecDepth 20000 in
theorem a_X16_passEach_234 {Q : Sg → Unit → Prop} {X : Sg → String → Prop} (K : MC R p s m args c cX16_passEach 6 RX16 D cA tys A n0 s0 2 56 []) (hQ : HQV p l e R s m args below meth c cX16_passEach D cA A n0 s0 QM dm ra jx rm Q) (hX : HX p l e R s m args below meth c 6 D cA A n0 s0 QM dm ra jx rm X) {K7 : Sg → Int → Int → Int → Prop} (hK7 : ∀ (σ : Sg) (v1 : Int) (v2 : Int) (v3 : Int) (g1 : rng v1) (g2 : rng v2) (g3 : rng v3), K7 σ v1 v2 v3 → RG σ → Shp dm ra jx rm σ → JJ p l e R s m args below meth c 6 D cA A n0 s0 QM σ 7 [(0, .ref rm), (1, .int (i32 v1)), (2, .int (i32 v2)), (3, .int (i32 v3))] []) {K163 : Sg → Int → Int → Int → Int → Int → Prop} (hK163 : ∀ (σ : Sg) (v1 : Int) (v2 : Int) (v3 : Int) (v4 : Int) (v5 : Int) (g1 : rng v1) (g2 : rng v2) (g3 : rng v3) (g4 : rng v4) (g5 : rng v5), K163 σ v1 v2 v3 v4 v5 → RG σ → Shp dm ra jx rm σ → JJ p l e R s m args below meth c 6 D cA A n0 s0 QM σ 163 [(0, .ref rm), (1, .int (i32 v1)), (2, .int (i32 v2)), (3, .int (i32 v3)), (4, .int (i32 v4)), (5, .int (i32 v5))] []) : ∀ (σ : Sg) (v1 : Int) (v2 : Int) (v3 : Int) (v5 : Int) (g1 : rng v1) (g2 : rng v2) (g3 : rng v3) (g5 : rng v5), w_X16_passEach_234 ra jx rm K7 K163 Q X σ v1 v2 v3 v5 → RG σ → Shp dm ra jx rm σ → JJ p l e R s m args below meth c 6 D cA A n0 s0 QM σ 234 [(0, .ref rm), (1, .int (i32 v1)), (2, .int (i32 v2)), (3, .int (i32 v3)), (5, .int (i32 v5))] [] := by
  intro σ v1 v2 v3 v5 g1 g2 g3 g5 h hGσ hS H locs ls hH hl hc
  have B := K.1
  unfold w_X16_passEach_234 at h
  refine lv_iconst (v := i32 0) B.1 B.2.1 dX16_passEach_234 (by decide) ?_
  exact a_X16_passEach_235 K hQ hX hK7 hK163 _ _ _ _ _ _ g1 g2 g3 g5 (by unfold rng; omega) h hGσ hS _ _ _ hH (lv_sub (l' := [(0, .ref rm), (1, .int (i32 v1)), (2, .int (i32 v2)), (3, .int (i32 v3)), (5, .int (i32 v5))]) hl [0, 1, 2, 3, 4] rfl) hc
set_option maxRecDepth 20000 in
theorem a_X16_passEach_230 {Q : Sg → Unit → Prop} {X : Sg → String → Prop} (K : MC R p s m args c cX16_passEach 6 RX16 D cA tys A n0 s0 2 56 []) (hQ : HQV p l e R s m args below meth c cX16_passEach D cA A n0 s0 QM dm ra jx rm Q) (hX : HX p l e R s m args below meth c 6 D cA A n0 s0 QM dm ra jx rm X) {K7 : Sg → Int → Int → Int → Prop} (hK7 : ∀ (σ : Sg) (v1 : Int) (v2 : Int) (v3 : Int) (g1 : rng v1) (g2 : rng v2) (g3 : rng v3), K7 σ v1 v2 v3 → RG σ → Shp dm ra jx rm σ → JJ p l e R s m args below meth c 6 D cA A n0 s0 QM σ 7 [(0, .ref rm), (1, .int (i32 v1)), (2, .int (i32 v2)), (3, .int (i32 v3))] []) {K163 : Sg → Int → Int → Int → Int → Int → Prop} (hK163 : ∀ (σ : Sg) (v1 : Int) (v2 : Int) (v3 : Int) (v4 : Int) (v5 : Int) (g1 : rng v1) (g2 : rng v2) (g3 : rng v3) (g4 : rng v4) (g5 : rng v5), K163 σ v1 v2 v3 v4 v5 → RG σ → Shp dm ra jx rm σ → JJ p l e R s m args below meth c 6 D cA A n0 s0 QM σ 163 [(0, .ref rm), (1, .int (i32 v1)), (2, .int (i32 v2)), (3, .int (i32 v3)), (4, .int (i32 v4)), (5, .int (i32 v5))] []) : ∀ (σ : Sg) (v1 : Int) (v2 : Int) (v3 : Int) (v5 : Int) (g1 : rng v1) (g2 : rng v2) (g3 : rng v3) (g5 : rng v5), w_X16_passEach_230 ra jx rm K7 K163 Q X σ v1 v2 v3 v5 → RG σ → Shp dm ra jx rm σ → JJ p l e R s m args below meth c 6 D cA A n0 s0 QM σ 230 [(0, .ref rm), (1, .int (i32 v1)), (2, .int (i32 v2)), (3, .int (i32 v3)), (5, .int (i32 v5))] [] := by
  intro σ v1 v2 v3 v5 g1 g2 g3 g5 h hGσ hS H locs ls hH hl hc
  have B := K.1
  unfold w_X16_passEach_230 at h
  refine lv_iconst (v := i32 1) B.1 B.2.1 dX16_passEach_230 (by decide) ?_
  refine lv_goto (tgt := 235) B.1 B.2.1 dX16_passEach_231 (by decide) ?_
  exact a_X16_passEach_235 K hQ hX hK7 hK163 _ _ _ _ _ _ g1 g2 g3 g5 (by unfold rng; omega) h hGσ hS _ _ _ hH (lv_sub (l' := [(0, .ref rm), (1, .int (i32 v1)), (2, .int (i32 v2)), (3, .int (i32 v3)), (5, .int (i32 v5))]) hl [0, 1, 2, 3, 4] rfl) hc
set_option maxRecDepth 20000 in
theorem a_X16_passEach_182 {Q : Sg → Unit → Prop} {X : Sg → String → Prop} (K : MC R p s m args c cX16_passEach 6 RX16 D cA tys A n0 s0 2 56 []) (hQ : HQV p l e R s m args below meth c cX16_passEach D cA A n0 s0 QM dm ra jx rm Q) (hX : HX p l e R s m args below meth c 6 D cA A n0 s0 QM dm ra jx rm X) {K7 : Sg → Int → Int → Int → Prop} (hK7 : ∀ (σ : Sg) (v1 : Int) (v2 : Int) (v3 : Int) (g1 : rng v1) (g2 : rng v2) (g3 : rng v3), K7 σ v1 v2 v3 → RG σ → Shp dm ra jx rm σ → JJ p l e R s m args below meth c 6 D cA A n0 s0 QM σ 7 [(0, .ref rm), (1, .int (i32 v1)), (2, .int (i32 v2)), (3, .int (i32 v3))] []) {K163 : Sg → Int → Int → Int → Int → Int → Prop} (hK163 : ∀ (σ : Sg) (v1 : Int) (v2 : Int) (v3 : Int) (v4 : Int) (v5 : Int) (g1 : rng v1) (g2 : rng v2) (g3 : rng v3) (g4 : rng v4) (g5 : rng v5), K163 σ v1 v2 v3 v4 v5 → RG σ → Shp dm ra jx rm σ → JJ p l e R s m args below meth c 6 D cA A n0 s0 QM σ 163 [(0, .ref rm), (1, .int (i32 v1)), (2, .int (i32 v2)), (3, .int (i32 v3)), (4, .int (i32 v4)), (5, .int (i32 v5))] []) : ∀ (σ : Sg) (v1 : Int) (v2 : Int) (v3 : Int) (v5 : Int) (g1 : rng v1) (g2 : rng v2) (g3 : rng v3) (g5 : rng v5), w_X16_passEach_182 ra jx rm K7 K163 Q X σ v1 v2 v3 v5 → RG σ → Shp dm ra jx rm σ → JJ p l e R s m args below meth c 6 D cA A n0 s0 QM σ 182 [(0, .ref rm), (1, .int (i32 v1)), (2, .int (i32 v2)), (3, .int (i32 v3)), (5, .int (i32 v5))] [] := by
  intro σ v1 v2 v3 v5 g1 g2 g3 g5 h hGσ hS H locs ls hH hl hc
  have B := K.1
  unfold w_X16_passEach_182 at h
  refine lv_aload_n B.1 B.2.1 dX16_passEach_182 rfl (lv_at hl 0 rfl) ?_
  refine r_arr B hH hS 82 (kd := 101) (n := 16) (by decide) (by decide) wf_X16_578 rfl rfl dX16_passEach_183 ?_
  refine lv_iload B.1 B.2.1 dX16_passEach_186 (lv_at hl 4 rfl) ?_
  refine lv_aload_n B.1 B.2.1 dX16_passEach_188 rfl (lv_at hl 0 rfl) ?_
  refine lv_aload_n B.1 B.2.1 dX16_passEach_189 rfl (lv_at hl 0 rfl) ?_
  refine r_getp B hH hS 17 (by decide) wf_X16_356 rfl rfl dX16_passEach_190 ?_
  refine lv_aload_n B.1 B.2.1 dX16_passEach_193 rfl (lv_at hl 0 rfl) ?_
  refine r_getp B hH hS 17 (by decide) wf_X16_356 rfl rfl dX16_passEach_194 ?_
  obtain ⟨a32, ea32, ja32, h⟩ := h
  refine W.eq (g2 := F0 m 197 ls [.ref a32, va_rf (gP σ rm 17), .ref rm, .int (i32 v5), .ref (ra 82)]) (by rw [ea32]; rfl) ?_
  refine n_arr B hH hS ja32 13 (kd := 100) (n := 128) (by decide) (by decide) (List.mem_of_getElem? (i := 13) rfl) rfl dX16_passEach_197 ?_
  refine lv_bipush (v := i32 8) B.1 B.2.1 dX16_passEach_200 (by decide) ?_
  refine lv_iload_n B.1 B.2.1 dX16_passEach_202 rfl (lv_at hl 1 rfl) ?_
  obtain ⟨q2, h⟩ := h
  refine lv_imul B.1 B.2.1 dX16_passEach_203 ?_
  rw [i32_mul]
  refine lv_iload B.1 B.2.1 dX16_passEach_204 (lv_at hl 4 rfl) ?_
  obtain ⟨q3, h⟩ := h
  refine lv_iadd B.1 B.2.1 dX16_passEach_206 ?_
  rw [i32_add]
  obtain ⟨q4, h⟩ := h
  refine x_iald B K.2.1 hH (hS.ja ja32 (k := 13) (kd := 100) (n := 128) (by decide)) (by decide) q4 dX16_passEach_207 ?_
  refine lv_aload_n B.1 B.2.1 dX16_passEach_208 rfl (lv_at hl 0 rfl) ?_
  refine r_arr B hH hS 115 (kd := 101) (n := 4000) (by decide) (by decide) wf_X16_864 rfl rfl dX16_passEach_209 ?_
  refine lv_iload_n B.1 B.2.1 dX16_passEach_212 rfl (lv_at hl 3 rfl) ?_
  obtain ⟨q5, h⟩ := h
  refine x_lald B K.2.1 hH (hS.ar (k := 115) (kd := 101) (n := 4000) (by decide)) (by decide) q5 dX16_passEach_213 ?_
  refine lv_aload_n B.1 B.2.1 dX16_passEach_214 rfl (lv_at hl 0 rfl) ?_
  refine r_arr B hH hS 81 (kd := 101) (n := 8) (by decide) (by decide) wf_X16_542 rfl rfl dX16_passEach_215 ?_
  refine lv_iconst (v := i32 0) B.1 B.2.1 dX16_passEach_218 (by decide) ?_
  refine c_V B hH hl hc K.2.2.1 (C := RX16) (T := TX16) (N := 123) (ci := 16) (As := [va_rf (gP σ rm 17), .int (i32 (gI σ (jx a32 13) ((8 * v1) + v5).toNat)), .long (gJ σ (ra 115) v3.toNat), va_rf (some (ra 81)), .int (i32 0)]) (ok_X16_worth K.2.1 σ (gP σ rm 17) (gI σ (jx a32 13) ((8 * v1) + v5).toNat) (gJ σ (ra 115) v3.toNat) (some (ra 81)) 0 (hGσ _ _) (by unfold rng; omega) hGσ hS h) wc_X16_545 5 hd_X16_worth ⟨Nat.le_trans (Nat.le_of_ble_eq_true rfl) K.2.2.2.1, Nat.le_trans (Nat.le_of_ble_eq_true rfl) K.2.2.2.2.1⟩ hS.1.1 hS.1.2 (by decide) rfl rfl (rest := [.int (i32 v5), .ref (ra 82)]) rfl (Nat.le_of_ble_eq_true rfl) dX16_passEach_219 (fun σ33 w hq => ?_) (fun σ9 E9 hx9 => hX σ9 E9 _ _ _ (tb_out K.2.2.2.2.2 rfl) hx9.1 hx9.2.1 hx9.2.2)
  obtain ⟨r34, rfl, h, hGσ33, hS⟩ := hq
  intro H locs ls hH hl hc
  refine W.eq (g2 := F0 m 222 ls [.long r34, .int (i32 v5), .ref (ra 82)]) (rfl) ?_
  try dsimp only at h
  obtain ⟨q6, h⟩ := h
  obtain ⟨σ35, eσ35⟩ : ∃ z, z = pJ σ33 (ra 82) v5.toNat r34 := ⟨_, rfl⟩
  have h := h σ35 eσ35
  refine x_last B K.2.1 hH (hS.ar (k := 82) (kd := 101) (n := 16) (by decide)) (by decide) q6 dX16_passEach_222 (fun H locs hH => ?_)
  have hH : Hd D cA A s (pJ σ33 (ra 82) v5.toNat r34) H locs := hH
  rw [← eσ35] at hH
  have hGσ35 : RG σ35 := by rw [eσ35]; exact hGσ33.pJ
  have hS : Shp dm ra jx rm σ35 := by rw [eσ35]; exact hS
  have hc : CB n0 s0 σ35 := by rw [eσ35]; exact hc
  rw [show gc σ33 = gc σ35 by rw [eσ35], show gs σ33 = gs σ35 by rw [eσ35]]
  refine lv_aload_n B.1 B.2.1 dX16_passEach_223 rfl (lv_at hl 0 rfl) ?_
  refine r_geti B hH hS 21 (by decide) wf_X16_330 rfl rfl dX16_passEach_224 ?_
  refine lv_if_ne (tgt := 234) B.1 B.2.1 dX16_passEach_227 (by decide) (fun h9 => ?_) (fun h9 => ?_)
  · rw [if_pos (fun q => h9 ((z_eq (hGσ35 _ _)).mpr q))] at h
    exact a_X16_passEach_234 K hQ hX hK7 hK163 _ _ _ _ _ g1 g2 g3 g5 h hGσ35 hS _ _ _ hH (lv_sub (l' := [(0, .ref rm), (1, .int (i32 v1)), (2, .int (i32 v2)), (3, .int (i32 v3)), (5, .int (i32 v5))]) hl [0, 1, 2, 3, 4] rfl) hc
  · rw [if_neg (fun q => q ((z_eq (hGσ35 _ _)).mp h9))] at h
    exact a_X16_passEach_230 K hQ hX hK7 hK163 _ _ _ _ _ g1 g2 g3 g5 h hGσ35 hS _ _ _ hH (lv_sub (l' := [(0, .ref rm), (1, .int (i32 v1)), (2, .int (i32 v2)), (3, .int (i32 v3)), (5, .int (i32 v5))]) hl [0, 1, 2, 3, 4] rfl) hc
set_option maxRecDepth 20000 in
theorem a_X16_passEach_177 {Q : Sg → Unit → Prop} {X : Sg → String → Prop} (K : MC R p s m args c cX16_passEach 6 RX16 D cA tys A n0 s0 2 56 []) (hQ : HQV p l e R s m args below meth c cX16_passEach D cA A n0 s0 QM dm ra jx rm Q) (hX : HX p l e R s m args below meth c 6 D cA A n0 s0 QM dm ra jx rm X) {K7 : Sg → Int → Int → Int → Prop} (hK7 : ∀ (σ : Sg) (v1 : Int) (v2 : Int) (v3 : Int) (g1 : rng v1) (g2 : rng v2) (g3 : rng v3), K7 σ v1 v2 v3 → RG σ → Shp dm ra jx rm σ → JJ p l e R s m args below meth c 6 D cA A n0 s0 QM σ 7 [(0, .ref rm), (1, .int (i32 v1)), (2, .int (i32 v2)), (3, .int (i32 v3))] []) {K163 : Sg → Int → Int → Int → Int → Int → Prop} (hK163 : ∀ (σ : Sg) (v1 : Int) (v2 : Int) (v3 : Int) (v4 : Int) (v5 : Int) (g1 : rng v1) (g2 : rng v2) (g3 : rng v3) (g4 : rng v4) (g5 : rng v5), K163 σ v1 v2 v3 v4 v5 → RG σ → Shp dm ra jx rm σ → JJ p l e R s m args below meth c 6 D cA A n0 s0 QM σ 163 [(0, .ref rm), (1, .int (i32 v1)), (2, .int (i32 v2)), (3, .int (i32 v3)), (4, .int (i32 v4)), (5, .int (i32 v5))] []) : ∀ (σ : Sg) (v1 : Int) (v2 : Int) (v3 : Int) (v4 : Int) (v5 : Int) (g1 : rng v1) (g2 : rng v2) (g3 : rng v3) (g4 : rng v4) (g5 : rng v5), w_X16_passEach_177 ra jx rm K7 K163 Q X σ v1 v2 v3 v4 v5 → RG σ → Shp dm ra jx rm σ → JJ p l e R s m args below meth c 6 D cA A n0 s0 QM σ 177 [(0, .ref rm), (1, .int (i32 v1)), (2, .int (i32 v2)), (3, .int (i32 v3)), (4, .int (i32 v4)), (5, .int (i32 v5))] [] := by
  intro σ v1 v2 v3 v4 v5 g1 g2 g3 g4 g5 h hGσ hS H locs ls hH hl hc
  have B := K.1
  unfold w_X16_passEach_177 at h
  refine lv_iload B.1 B.2.1 dX16_passEach_177 (lv_at hl 4 rfl) ?_
  refine lv_if_eq (tgt := 243) B.1 B.2.1 dX16_passEach_179 (by decide) (fun h9 => ?_) (fun h9 => ?_)
  · rw [if_pos ((z_eq g4).mp h9)] at h
    exact a_X16_passEach_243 K hQ hX hK7 _ _ _ _ _ g1 g2 g3 g4 h hGσ hS _ _ _ hH (lv_sub (l' := [(0, .ref rm), (1, .int (i32 v1)), (2, .int (i32 v2)), (3, .int (i32 v3)), (4, .int (i32 v4))]) hl [0, 1, 2, 3, 4] rfl) hc
  · rw [if_neg (fun q => h9 ((z_eq g4).mpr q))] at h
    exact a_X16_passEach_182 K hQ hX hK7 hK163 _ _ _ _ _ g1 g2 g3 g5 h hGσ hS _ _ _ hH (lv_sub (l' := [(0, .ref rm), (1, .int (i32 v1)), (2, .int (i32 v2)), (3, .int (i32 v3)), (5, .int (i32 v5))]) hl [0, 1, 2, 3, 5] rfl) hc
set_option maxRecDepth 20000 in
theorem a_X16_passEach_163 {Q : Sg → Unit → Prop} {X : Sg → String → Prop} (K : MC R p s m args c cX16_passEach 6 RX16 D cA tys A n0 s0 2 56 []) (hQ : HQV p l e R s m args below meth c cX16_passEach D cA A n0 s0 QM dm ra jx rm Q) (hX : HX p l e R s m args below meth c 6 D cA A n0 s0 QM dm ra jx rm X) {K7 : Sg → Int → Int → Int → Prop} (hK7 : ∀ (σ : Sg) (v1 : Int) (v2 : Int) (v3 : Int) (g1 : rng v1) (g2 : rng v2) (g3 : rng v3), K7 σ v1 v2 v3 → RG σ → Shp dm ra jx rm σ → JJ p l e R s m args below meth c 6 D cA A n0 s0 QM σ 7 [(0, .ref rm), (1, .int (i32 v1)), (2, .int (i32 v2)), (3, .int (i32 v3))] []) {K163 : Sg → Int → Int → Int → Int → Int → Prop} (hK163 : ∀ (σ : Sg) (v1 : Int) (v2 : Int) (v3 : Int) (v4 : Int) (v5 : Int) (g1 : rng v1) (g2 : rng v2) (g3 : rng v3) (g4 : rng v4) (g5 : rng v5), K163 σ v1 v2 v3 v4 v5 → RG σ → Shp dm ra jx rm σ → JJ p l e R s m args below meth c 6 D cA A n0 s0 QM σ 163 [(0, .ref rm), (1, .int (i32 v1)), (2, .int (i32 v2)), (3, .int (i32 v3)), (4, .int (i32 v4)), (5, .int (i32 v5))] []) : ∀ (σ : Sg) (v1 : Int) (v2 : Int) (v3 : Int) (v4 : Int) (v5 : Int) (g1 : rng v1) (g2 : rng v2) (g3 : rng v3) (g4 : rng v4) (g5 : rng v5), w_X16_passEach_163 ra jx rm K7 K163 Q X σ v1 v2 v3 v4 v5 → RG σ → Shp dm ra jx rm σ → JJ p l e R s m args below meth c 6 D cA A n0 s0 QM σ 163 [(0, .ref rm), (1, .int (i32 v1)), (2, .int (i32 v2)), (3, .int (i32 v3)), (4, .int (i32 v4)), (5, .int (i32 v5))] [] := by
  intro σ v1 v2 v3 v4 v5 g1 g2 g3 g4 g5 h hGσ hS H locs ls hH hl hc
  have B := K.1
  unfold w_X16_passEach_163 at h
  refine lv_iload B.1 B.2.1 dX16_passEach_163 (lv_at hl 5 rfl) ?_
  refine lv_aload_n B.1 B.2.1 dX16_passEach_165 rfl (lv_at hl 0 rfl) ?_
  refine r_getp B hH hS 17 (by decide) wf_X16_356 rfl rfl dX16_passEach_166 ?_
  obtain ⟨a36, ea36, ja36, h⟩ := h
  refine W.eq (g2 := F0 m 169 ls [.ref a36, .int (i32 v5)]) (by rw [ea36]; rfl) ?_
  refine n_arr B hH hS ja36 12 (kd := 100) (n := 16) (by decide) (by decide) (List.mem_of_getElem? (i := 12) rfl) rfl dX16_passEach_169 ?_
  refine lv_iload_n B.1 B.2.1 dX16_passEach_172 rfl (lv_at hl 1 rfl) ?_
  obtain ⟨q2, h⟩ := h
  refine x_iald B K.2.1 hH (hS.ja ja36 (k := 12) (kd := 100) (n := 16) (by decide)) (by decide) q2 dX16_passEach_173 ?_
  refine lv_icmp_ge (tgt := 243) B.1 B.2.1 dX16_passEach_174 (by decide) (fun h9 => ?_) (fun h9 => ?_)
  · rw [if_pos ((i32_le (hGσ _ _) g5).mp h9)] at h
    exact a_X16_passEach_243 K hQ hX hK7 _ _ _ _ _ g1 g2 g3 g4 h hGσ hS _ _ _ hH (lv_sub (l' := [(0, .ref rm), (1, .int (i32 v1)), (2, .int (i32 v2)), (3, .int (i32 v3)), (4, .int (i32 v4))]) hl [0, 1, 2, 3, 4] rfl) hc
  · rw [if_neg (fun q => h9 ((i32_le (hGσ _ _) g5).mpr q))] at h
    exact a_X16_passEach_177 K hQ hX hK7 hK163 _ _ _ _ _ _ g1 g2 g3 g4 g5 h hGσ hS _ _ _ hH (lv_sub (l' := [(0, .ref rm), (1, .int (i32 v1)), (2, .int (i32 v2)), (3, .int (i32 v3)), (4, .int (i32 v4)), (5, .int (i32 v5))]) hl [0, 1, 2, 3, 4, 5] rfl) hc
theorem al_X16_passEach_163 {Q : Sg → Unit → Prop} {X : Sg → String → Prop} (K : MC R p s m args c cX16_passEach 6 RX16 D cA tys A n0 s0 2 56 []) (hQ : HQV p l e R s m args below meth c cX16_passEach D cA A n0 s0 QM dm ra jx rm Q) (hX : HX p l e R s m args below meth c 6 D cA A n0 s0 QM dm ra jx rm X) {K7 : Sg → Int → Int → Int → Prop} (hK7 : ∀ (σ : Sg) (v1 : Int) (v2 : Int) (v3 : Int) (g1 : rng v1) (g2 : rng v2) (g3 : rng v3), K7 σ v1 v2 v3 → RG σ → Shp dm ra jx rm σ → JJ p l e R s m args below meth c 6 D cA A n0 s0 QM σ 7 [(0, .ref rm), (1, .int (i32 v1)), (2, .int (i32 v2)), (3, .int (i32 v3))] []) : ∀ (n : Nat), ∀ (σ : Sg) (v1 : Int) (v2 : Int) (v3 : Int) (v4 : Int) (v5 : Int) (g1 : rng v1) (g2 : rng v2) (g3 : rng v3) (g4 : rng v4) (g5 : rng v5), wl_X16_passEach_163 ra jx rm K7 Q X n σ v1 v2 v3 v4 v5 → RG σ → Shp dm ra jx rm σ → JJ p l e R s m args below meth c 6 D cA A n0 s0 QM σ 163 [(0, .ref rm), (1, .int (i32 v1)), (2, .int (i32 v2)), (3, .int (i32 v3)), (4, .int (i32 v4)), (5, .int (i32 v5))] [] := by
  intro n
  induction n with
  | zero => intro σ v1 v2 v3 v4 v5 g1 g2 g3 g4 g5 h; exact h.elim
  | succ n ih => exact fun σ v1 v2 v3 v4 v5 g1 g2 g3 g4 g5 h => a_X16_passEach_163 K hQ hX hK7 ih σ v1 v2 v3 v4 v5 g1 g2 g3 g4 g5 h
set_option maxRecDepth 20000 in
theorem a_X16_passEach_160 {Q : Sg → Unit → Prop} {X : Sg → String → Prop} (K : MC R p s m args c cX16_passEach 6 RX16 D cA tys A n0 s0 2 56 []) (hQ : HQV p l e R s m args below meth c cX16_passEach D cA A n0 s0 QM dm ra jx rm Q) (hX : HX p l e R s m args below meth c 6 D cA A n0 s0 QM dm ra jx rm X) {K7 : Sg → Int → Int → Int → Prop} (hK7 : ∀ (σ : Sg) (v1 : Int) (v2 : Int) (v3 : Int) (g1 : rng v1) (g2 : rng v2) (g3 : rng v3), K7 σ v1 v2 v3 → RG σ → Shp dm ra jx rm σ → JJ p l e R s m args below meth c 6 D cA A n0 s0 QM σ 7 [(0, .ref rm), (1, .int (i32 v1)), (2, .int (i32 v2)), (3, .int (i32 v3))] []) : ∀ (σ : Sg) (v1 : Int) (v2 : Int) (v3 : Int) (v4 : Int) (g1 : rng v1) (g2 : rng v2) (g3 : rng v3) (g4 : rng v4), w_X16_passEach_160 ra jx rm K7 Q X σ v1 v2 v3 v4 → RG σ → Shp dm ra jx rm σ → JJ p l e R s m args below meth c 6 D cA A n0 s0 QM σ 160 [(0, .ref rm), (1, .int (i32 v1)), (2, .int (i32 v2)), (3, .int (i32 v3)), (4, .int (i32 v4))] [] := by
  intro σ v1 v2 v3 v4 g1 g2 g3 g4 h hGσ hS H locs ls hH hl hc
  have B := K.1
  unfold w_X16_passEach_160 at h
  refine lv_iconst (v := i32 0) B.1 B.2.1 dX16_passEach_160 (by decide) ?_
  refine lv_istore (lv' := [(5, .int (i32 0)), (0, .ref rm), (1, .int (i32 v1)), (2, .int (i32 v2)), (3, .int (i32 v3)), (4, .int (i32 v4))]) B.1 B.2.1 dX16_passEach_161 hl (by decide) rfl (fun ls hl => ?_)
  obtain ⟨n9, h⟩ := h
  exact al_X16_passEach_163 K hQ hX hK7 n9 _ _ _ _ _ _ g1 g2 g3 g4 (by unfold rng; omega) h hGσ hS _ _ _ hH (lv_sub (l' := [(0, .ref rm), (1, .int (i32 v1)), (2, .int (i32 v2)), (3, .int (i32 v3)), (4, .int (i32 v4)), (5, .int (i32 0))]) hl [1, 2, 3, 4, 5, 0] rfl) hc
set_option maxRecDepth 20000 in
theorem a_X16_passEach_146 {Q : Sg → Unit → Prop} {X : Sg → String → Prop} (K : MC R p s m args c cX16_passEach 6 RX16 D cA tys A n0 s0 2 56 []) (hQ : HQV p l e R s m args below meth c cX16_passEach D cA A n0 s0 QM dm ra jx rm Q) (hX : HX p l e R s m args below meth c 6 D cA A n0 s0 QM dm ra jx rm X) {K7 : Sg → Int → Int → Int → Prop} (hK7 : ∀ (σ : Sg) (v1 : Int) (v2 : Int) (v3 : Int) (g1 : rng v1) (g2 : rng v2) (g3 : rng v3), K7 σ v1 v2 v3 → RG σ → Shp dm ra jx rm σ → JJ p l e R s m args below meth c 6 D cA A n0 s0 QM σ 7 [(0, .ref rm), (1, .int (i32 v1)), (2, .int (i32 v2)), (3, .int (i32 v3))] []) {K139 : Sg → Int → Int → Int → Int → Int → Prop} (hK139 : ∀ (σ : Sg) (v1 : Int) (v2 : Int) (v3 : Int) (v4 : Int) (v5 : Int) (g1 : rng v1) (g2 : rng v2) (g3 : rng v3) (g4 : rng v4) (g5 : rng v5), K139 σ v1 v2 v3 v4 v5 → RG σ → Shp dm ra jx rm σ → JJ p l e R s m args below meth c 6 D cA A n0 s0 QM σ 139 [(0, .ref rm), (1, .int (i32 v1)), (2, .int (i32 v2)), (3, .int (i32 v3)), (4, .int (i32 v4)), (5, .int (i32 v5))] []) : ∀ (σ : Sg) (v1 : Int) (v2 : Int) (v3 : Int) (v4 : Int) (v5 : Int) (g1 : rng v1) (g2 : rng v2) (g3 : rng v3) (g4 : rng v4) (g5 : rng v5), w_X16_passEach_146 ra jx rm K7 K139 Q X σ v1 v2 v3 v4 v5 → RG σ → Shp dm ra jx rm σ → JJ p l e R s m args below meth c 6 D cA A n0 s0 QM σ 146 [(0, .ref rm), (1, .int (i32 v1)), (2, .int (i32 v2)), (3, .int (i32 v3)), (4, .int (i32 v4)), (5, .int (i32 v5))] [] := by
  intro σ v1 v2 v3 v4 v5 g1 g2 g3 g4 g5 h hGσ hS H locs ls hH hl hc
  have B := K.1
  unfold w_X16_passEach_146 at h
  refine lv_aload_n B.1 B.2.1 dX16_passEach_146 rfl (lv_at hl 0 rfl) ?_
  refine r_arr B hH hS 82 (kd := 101) (n := 16) (by decide) (by decide) wf_X16_578 rfl rfl dX16_passEach_147 ?_
  refine lv_iload B.1 B.2.1 dX16_passEach_150 (lv_at hl 5 rfl) ?_
  refine lv_lconst (v := 0) B.1 B.2.1 dX16_passEach_152 (by decide) ?_
  obtain ⟨q1, h⟩ := h
  obtain ⟨σ37, eσ37⟩ : ∃ z, z = pJ σ (ra 82) v5.toNat 0 := ⟨_, rfl⟩
  have h := h σ37 eσ37
  refine x_last B K.2.1 hH (hS.ar (k := 82) (kd := 101) (n := 16) (by decide)) (by decide) q1 dX16_passEach_153 (fun H locs hH => ?_)
  have hH : Hd D cA A s (pJ σ (ra 82) v5.toNat 0) H locs := hH
  rw [← eσ37] at hH
  have hGσ37 : RG σ37 := by rw [eσ37]; exact hGσ.pJ
  have hS : Shp dm ra jx rm σ37 := by rw [eσ37]; exact hS
  have hc : CB n0 s0 σ37 := by rw [eσ37]; exact hc
  rw [show gc σ = gc σ37 by rw [eσ37], show gs σ = gs σ37 by rw [eσ37]]
  obtain ⟨q3, h⟩ := h
  refine lv_iinc (k := 5) (v := i32 (v5 + 1)) (lv' := [(5, .int (i32 (v5 + 1))), (0, .ref rm), (1, .int (i32 v1)), (2, .int (i32 v2)), (3, .int (i32 v3)), (4, .int (i32 v4))]) B.1 B.2.1 dX16_passEach_154 hl rfl (i32_add _ _) (by decide) rfl (fun ls hl => ?_)
  refine lv_goto (tgt := 139) B.1 B.2.1 dX16_passEach_157 (by decide) ?_
  exact hK139 _ _ _ _ _ _ g1 g2 g3 g4 q3 h hGσ37 hS _ _ _ hH (lv_sub (l' := [(0, .ref rm), (1, .int (i32 v1)), (2, .int (i32 v2)), (3, .int (i32 v3)), (4, .int (i32 v4)), (5, .int (i32 (v5 + 1)))]) hl [1, 2, 3, 4, 5, 0] rfl) hc
set_option maxRecDepth 20000 in
theorem a_X16_passEach_139 {Q : Sg → Unit → Prop} {X : Sg → String → Prop} (K : MC R p s m args c cX16_passEach 6 RX16 D cA tys A n0 s0 2 56 []) (hQ : HQV p l e R s m args below meth c cX16_passEach D cA A n0 s0 QM dm ra jx rm Q) (hX : HX p l e R s m args below meth c 6 D cA A n0 s0 QM dm ra jx rm X) {K7 : Sg → Int → Int → Int → Prop} (hK7 : ∀ (σ : Sg) (v1 : Int) (v2 : Int) (v3 : Int) (g1 : rng v1) (g2 : rng v2) (g3 : rng v3), K7 σ v1 v2 v3 → RG σ → Shp dm ra jx rm σ → JJ p l e R s m args below meth c 6 D cA A n0 s0 QM σ 7 [(0, .ref rm), (1, .int (i32 v1)), (2, .int (i32 v2)), (3, .int (i32 v3))] []) {K139 : Sg → Int → Int → Int → Int → Int → Prop} (hK139 : ∀ (σ : Sg) (v1 : Int) (v2 : Int) (v3 : Int) (v4 : Int) (v5 : Int) (g1 : rng v1) (g2 : rng v2) (g3 : rng v3) (g4 : rng v4) (g5 : rng v5), K139 σ v1 v2 v3 v4 v5 → RG σ → Shp dm ra jx rm σ → JJ p l e R s m args below meth c 6 D cA A n0 s0 QM σ 139 [(0, .ref rm), (1, .int (i32 v1)), (2, .int (i32 v2)), (3, .int (i32 v3)), (4, .int (i32 v4)), (5, .int (i32 v5))] []) : ∀ (σ : Sg) (v1 : Int) (v2 : Int) (v3 : Int) (v4 : Int) (v5 : Int) (g1 : rng v1) (g2 : rng v2) (g3 : rng v3) (g4 : rng v4) (g5 : rng v5), w_X16_passEach_139 ra jx rm K7 K139 Q X σ v1 v2 v3 v4 v5 → RG σ → Shp dm ra jx rm σ → JJ p l e R s m args below meth c 6 D cA A n0 s0 QM σ 139 [(0, .ref rm), (1, .int (i32 v1)), (2, .int (i32 v2)), (3, .int (i32 v3)), (4, .int (i32 v4)), (5, .int (i32 v5))] [] := by
  intro σ v1 v2 v3 v4 v5 g1 g2 g3 g4 g5 h hGσ hS H locs ls hH hl hc
  have B := K.1
  unfold w_X16_passEach_139 at h
  refine lv_iload B.1 B.2.1 dX16_passEach_139 (lv_at hl 5 rfl) ?_
  refine lv_bipush (v := i32 8) B.1 B.2.1 dX16_passEach_141 (by decide) ?_
  refine lv_icmp_ge (tgt := 160) B.1 B.2.1 dX16_passEach_143 (by decide) (fun h9 => ?_) (fun h9 => ?_)
  · rw [if_pos ((i32_le (by unfold rng; omega) g5).mp h9)] at h
    exact a_X16_passEach_160 K hQ hX hK7 _ _ _ _ _ g1 g2 g3 g4 h hGσ hS _ _ _ hH (lv_sub (l' := [(0, .ref rm), (1, .int (i32 v1)), (2, .int (i32 v2)), (3, .int (i32 v3)), (4, .int (i32 v4))]) hl [0, 1, 2, 3, 4] rfl) hc
  · rw [if_neg (fun q => h9 ((i32_le (by unfold rng; omega) g5).mpr q))] at h
    exact a_X16_passEach_146 K hQ hX hK7 hK139 _ _ _ _ _ _ g1 g2 g3 g4 g5 h hGσ hS _ _ _ hH (lv_sub (l' := [(0, .ref rm), (1, .int (i32 v1)), (2, .int (i32 v2)), (3, .int (i32 v3)), (4, .int (i32 v4)), (5, .int (i32 v5))]) hl [0, 1, 2, 3, 4, 5] rfl) hc
theorem al_X16_passEach_139 {Q : Sg → Unit → Prop} {X : Sg → String → Prop} (K : MC R p s m args c cX16_passEach 6 RX16 D cA tys A n0 s0 2 56 []) (hQ : HQV p l e R s m args below meth c cX16_passEach D cA A n0 s0 QM dm ra jx rm Q) (hX : HX p l e R s m args below meth c 6 D cA A n0 s0 QM dm ra jx rm X) {K7 : Sg → Int → Int → Int → Prop} (hK7 : ∀ (σ : Sg) (v1 : Int) (v2 : Int) (v3 : Int) (g1 : rng v1) (g2 : rng v2) (g3 : rng v3), K7 σ v1 v2 v3 → RG σ → Shp dm ra jx rm σ → JJ p l e R s m args below meth c 6 D cA A n0 s0 QM σ 7 [(0, .ref rm), (1, .int (i32 v1)), (2, .int (i32 v2)), (3, .int (i32 v3))] []) : ∀ (n : Nat), ∀ (σ : Sg) (v1 : Int) (v2 : Int) (v3 : Int) (v4 : Int) (v5 : Int) (g1 : rng v1) (g2 : rng v2) (g3 : rng v3) (g4 : rng v4) (g5 : rng v5), wl_X16_passEach_139 ra jx rm K7 Q X n σ v1 v2 v3 v4 v5 → RG σ → Shp dm ra jx rm σ → JJ p l e R s m args below meth c 6 D cA A n0 s0 QM σ 139 [(0, .ref rm), (1, .int (i32 v1)), (2, .int (i32 v2)), (3, .int (i32 v3)), (4, .int (i32 v4)), (5, .int (i32 v5))] [] := by
  intro n
  induction n with
  | zero => intro σ v1 v2 v3 v4 v5 g1 g2 g3 g4 g5 h; exact h.elim
  | succ n ih => exact fun σ v1 v2 v3 v4 v5 g1 g2 g3 g4 g5 h => a_X16_passEach_139 K hQ hX hK7 ih σ v1 v2 v3 v4 v5 g1 g2 g3 g4 g5 h
set_option maxRecDepth 20000 in
theorem a_X16_passEach_133 {Q : Sg → Unit → Prop} {X : Sg → String → Prop} (K : MC R p s m args c cX16_passEach 6 RX16 D cA tys A n0 s0 2 56 []) (hQ : HQV p l e R s m args below meth c cX16_passEach D cA A n0 s0 QM dm ra jx rm Q) (hX : HX p l e R s m args below meth c 6 D cA A n0 s0 QM dm ra jx rm X) {K7 : Sg → Int → Int → Int → Prop} (hK7 : ∀ (σ : Sg) (v1 : Int) (v2 : Int) (v3 : Int) (g1 : rng v1) (g2 : rng v2) (g3 : rng v3), K7 σ v1 v2 v3 → RG σ → Shp dm ra jx rm σ → JJ p l e R s m args below meth c 6 D cA A n0 s0 QM σ 7 [(0, .ref rm), (1, .int (i32 v1)), (2, .int (i32 v2)), (3, .int (i32 v3))] []) : ∀ (σ : Sg) (v1 : Int) (v2 : Int) (v3 : Int) (g1 : rng v1) (g2 : rng v2) (g3 : rng v3), w_X16_passEach_133 ra jx rm K7 Q X σ v1 v2 v3 → RG σ → Shp dm ra jx rm σ → JJ p l e R s m args below meth c 6 D cA A n0 s0 QM σ 133 [(0, .ref rm), (1, .int (i32 v1)), (2, .int (i32 v2)), (3, .int (i32 v3))] [] := by
  intro σ v1 v2 v3 g1 g2 g3 h hGσ hS H locs ls hH hl hc
  have B := K.1
  unfold w_X16_passEach_133 at h
  refine lv_iconst (v := i32 1) B.1 B.2.1 dX16_passEach_133 (by decide) ?_
  refine lv_istore (lv' := [(4, .int (i32 1)), (0, .ref rm), (1, .int (i32 v1)), (2, .int (i32 v2)), (3, .int (i32 v3))]) B.1 B.2.1 dX16_passEach_134 hl (by decide) rfl (fun ls hl => ?_)
  refine lv_iconst (v := i32 0) B.1 B.2.1 dX16_passEach_136 (by decide) ?_
  refine lv_istore (lv' := [(5, .int (i32 0)), (4, .int (i32 1)), (0, .ref rm), (1, .int (i32 v1)), (2, .int (i32 v2)), (3, .int (i32 v3))]) B.1 B.2.1 dX16_passEach_137 hl (by decide) rfl (fun ls hl => ?_)
  obtain ⟨n9, h⟩ := h
  exact al_X16_passEach_139 K hQ hX hK7 n9 _ _ _ _ _ _ g1 g2 g3 (by unfold rng; omega) (by unfold rng; omega) h hGσ hS _ _ _ hH (lv_sub (l' := [(0, .ref rm), (1, .int (i32 v1)), (2, .int (i32 v2)), (3, .int (i32 v3)), (4, .int (i32 1)), (5, .int (i32 0))]) hl [2, 3, 4, 5, 1, 0] rfl) hc
set_option maxRecDepth 20000 in
theorem a_X16_passEach_130 {Q : Sg → Unit → Prop} {X : Sg → String → Prop} (K : MC R p s m args c cX16_passEach 6 RX16 D cA tys A n0 s0 2 56 []) (hQ : HQV p l e R s m args below meth c cX16_passEach D cA A n0 s0 QM dm ra jx rm Q) (hX : HX p l e R s m args below meth c 6 D cA A n0 s0 QM dm ra jx rm X) {K7 : Sg → Int → Int → Int → Prop} (hK7 : ∀ (σ : Sg) (v1 : Int) (v2 : Int) (v3 : Int) (g1 : rng v1) (g2 : rng v2) (g3 : rng v3), K7 σ v1 v2 v3 → RG σ → Shp dm ra jx rm σ → JJ p l e R s m args below meth c 6 D cA A n0 s0 QM σ 7 [(0, .ref rm), (1, .int (i32 v1)), (2, .int (i32 v2)), (3, .int (i32 v3))] []) : ∀ (σ : Sg) (v1 : Int) (v2 : Int) (v3 : Int) (g1 : rng v1) (g2 : rng v2) (g3 : rng v3), w_X16_passEach_130 ra jx rm K7 Q X σ v1 v2 v3 → RG σ → Shp dm ra jx rm σ → JJ p l e R s m args below meth c 6 D cA A n0 s0 QM σ 130 [(0, .ref rm), (1, .int (i32 v1)), (2, .int (i32 v2)), (3, .int (i32 v3))] [] := by
  intro σ v1 v2 v3 g1 g2 g3 h hGσ hS H locs ls hH hl hc
  have B := K.1
  unfold w_X16_passEach_130 at h
  refine lv_goto (tgt := 263) B.1 B.2.1 dX16_passEach_130 (by decide) ?_
  exact a_X16_passEach_263 K hQ hX hK7 _ _ _ _ g1 g2 g3 h hGσ hS _ _ _ hH (lv_sub (l' := [(0, .ref rm), (1, .int (i32 v1)), (2, .int (i32 v2)), (3, .int (i32 v3))]) hl [0, 1, 2, 3] rfl) hc
set_option maxRecDepth 20000 in
theorem a_X16_passEach_115 {Q : Sg → Unit → Prop} {X : Sg → String → Prop} (K : MC R p s m args c cX16_passEach 6 RX16 D cA tys A n0 s0 2 56 []) (hQ : HQV p l e R s m args below meth c cX16_passEach D cA A n0 s0 QM dm ra jx rm Q) (hX : HX p l e R s m args below meth c 6 D cA A n0 s0 QM dm ra jx rm X) {K7 : Sg → Int → Int → Int → Prop} (hK7 : ∀ (σ : Sg) (v1 : Int) (v2 : Int) (v3 : Int) (g1 : rng v1) (g2 : rng v2) (g3 : rng v3), K7 σ v1 v2 v3 → RG σ → Shp dm ra jx rm σ → JJ p l e R s m args below meth c 6 D cA A n0 s0 QM σ 7 [(0, .ref rm), (1, .int (i32 v1)), (2, .int (i32 v2)), (3, .int (i32 v3))] []) : ∀ (σ : Sg) (v1 : Int) (v2 : Int) (v3 : Int) (g1 : rng v1) (g2 : rng v2) (g3 : rng v3), w_X16_passEach_115 ra jx rm K7 Q X σ v1 v2 v3 → RG σ → Shp dm ra jx rm σ → JJ p l e R s m args below meth c 6 D cA A n0 s0 QM σ 115 [(0, .ref rm), (1, .int (i32 v1)), (2, .int (i32 v2)), (3, .int (i32 v3))] [] := by
  intro σ v1 v2 v3 g1 g2 g3 h hGσ hS H locs ls hH hl hc
  have B := K.1
  unfold w_X16_passEach_115 at h
  refine lv_aload_n B.1 B.2.1 dX16_passEach_115 rfl (lv_at hl 0 rfl) ?_
  refine lv_aload_n B.1 B.2.1 dX16_passEach_116 rfl (lv_at hl 0 rfl) ?_
  refine r_arr B hH hS 115 (kd := 101) (n := 4000) (by decide) (by decide) wf_X16_864 rfl rfl dX16_passEach_117 ?_
  refine lv_iload_n B.1 B.2.1 dX16_passEach_120 rfl (lv_at hl 3 rfl) ?_
  obtain ⟨q1, h⟩ := h
  refine x_lald B K.2.1 hH (hS.ar (k := 115) (kd := 101) (n := 4000) (by decide)) (by decide) q1 dX16_passEach_121 ?_
  refine lv_aload_n B.1 B.2.1 dX16_passEach_122 rfl (lv_at hl 0 rfl) ?_
  refine r_arr B hH hS 81 (kd := 101) (n := 8) (by decide) (by decide) wf_X16_542 rfl rfl dX16_passEach_123 ?_
  refine lv_iconst (v := i32 0) B.1 B.2.1 dX16_passEach_126 (by decide) ?_
  refine c_V B hH hl hc K.2.2.1 (C := RX16) (T := TX16) (N := 123) (ci := 16) (As := [.long (gJ σ (ra 115) v3.toNat), va_rf (some (ra 81)), .int (i32 0)]) (ok_X16_pass K.2.1 σ (gJ σ (ra 115) v3.toNat) (some (ra 81)) 0 (by unfold rng; omega) hGσ hS h) wc_X16_870 3 hd_X16_pass ⟨Nat.le_trans (Nat.le_of_ble_eq_true rfl) K.2.2.2.1, Nat.le_trans (Nat.le_of_ble_eq_true rfl) K.2.2.2.2.1⟩ hS.1.1 hS.1.2 (by decide) rfl rfl (rest := []) rfl (Nat.le_of_ble_eq_true rfl) dX16_passEach_127 (fun σ38 w hq => ?_) (fun σ9 E9 hx9 => hX σ9 E9 _ _ _ (tb_out K.2.2.2.2.2 rfl) hx9.1 hx9.2.1 hx9.2.2)
  obtain ⟨rfl, h, hGσ38, hS⟩ := hq
  intro H locs ls hH hl hc
  refine W.eq (g2 := F0 m 130 ls []) (rfl) ?_
  try dsimp only at h
  exact a_X16_passEach_130 K hQ hX hK7 _ _ _ _ g1 g2 g3 h hGσ38 hS _ _ _ hH (lv_sub (l' := [(0, .ref rm), (1, .int (i32 v1)), (2, .int (i32 v2)), (3, .int (i32 v3))]) hl [0, 1, 2, 3] rfl) hc
set_option maxRecDepth 20000 in
theorem a_X16_passEach_108 {Q : Sg → Unit → Prop} {X : Sg → String → Prop} (K : MC R p s m args c cX16_passEach 6 RX16 D cA tys A n0 s0 2 56 []) (hQ : HQV p l e R s m args below meth c cX16_passEach D cA A n0 s0 QM dm ra jx rm Q) (hX : HX p l e R s m args below meth c 6 D cA A n0 s0 QM dm ra jx rm X) {K7 : Sg → Int → Int → Int → Prop} (hK7 : ∀ (σ : Sg) (v1 : Int) (v2 : Int) (v3 : Int) (g1 : rng v1) (g2 : rng v2) (g3 : rng v3), K7 σ v1 v2 v3 → RG σ → Shp dm ra jx rm σ → JJ p l e R s m args below meth c 6 D cA A n0 s0 QM σ 7 [(0, .ref rm), (1, .int (i32 v1)), (2, .int (i32 v2)), (3, .int (i32 v3))] []) : ∀ (σ : Sg) (v1 : Int) (v2 : Int) (v3 : Int) (v4 : Int64) (g1 : rng v1) (g2 : rng v2) (g3 : rng v3), w_X16_passEach_108 ra jx rm K7 Q X σ v1 v2 v3 v4 → RG σ → Shp dm ra jx rm σ → JJ p l e R s m args below meth c 6 D cA A n0 s0 QM σ 108 [(0, .ref rm), (1, .int (i32 v1)), (2, .int (i32 v2)), (3, .int (i32 v3)), (4, .long v4)] [] := by
  intro σ v1 v2 v3 v4 g1 g2 g3 h hGσ hS H locs ls hH hl hc
  have B := K.1
  unfold w_X16_passEach_108 at h
  refine lv_lload B.1 B.2.1 dX16_passEach_108 (lv_at hl 4 rfl) ?_
  refine lv_lconst (v := 0) B.1 B.2.1 dX16_passEach_110 (by decide) ?_
  refine W.lcmp B.1 B.2.1 dX16_passEach_111 ?_
  refine lv_if_eq (tgt := 130) B.1 B.2.1 dX16_passEach_112 (by decide) (fun h9 => ?_) (fun h9 => ?_)
  · rw [if_pos ((lg_cmp_eq _ _).mp h9)] at h
    exact a_X16_passEach_130 K hQ hX hK7 _ _ _ _ g1 g2 g3 h hGσ hS _ _ _ hH (lv_sub (l' := [(0, .ref rm), (1, .int (i32 v1)), (2, .int (i32 v2)), (3, .int (i32 v3))]) hl [0, 1, 2, 3] rfl) hc
  · rw [if_neg (fun q => h9 ((lg_cmp_eq _ _).mpr q))] at h
    exact a_X16_passEach_115 K hQ hX hK7 _ _ _ _ g1 g2 g3 h hGσ hS _ _ _ hH (lv_sub (l' := [(0, .ref rm), (1, .int (i32 v1)), (2, .int (i32 v2)), (3, .int (i32 v3))]) hl [0, 1, 2, 3] rfl) hc
set_option maxRecDepth 20000 in
theorem a_X16_passEach_68 {Q : Sg → Unit → Prop} {X : Sg → String → Prop} (K : MC R p s m args c cX16_passEach 6 RX16 D cA tys A n0 s0 2 56 []) (hQ : HQV p l e R s m args below meth c cX16_passEach D cA A n0 s0 QM dm ra jx rm Q) (hX : HX p l e R s m args below meth c 6 D cA A n0 s0 QM dm ra jx rm X) {K7 : Sg → Int → Int → Int → Prop} (hK7 : ∀ (σ : Sg) (v1 : Int) (v2 : Int) (v3 : Int) (g1 : rng v1) (g2 : rng v2) (g3 : rng v3), K7 σ v1 v2 v3 → RG σ → Shp dm ra jx rm σ → JJ p l e R s m args below meth c 6 D cA A n0 s0 QM σ 7 [(0, .ref rm), (1, .int (i32 v1)), (2, .int (i32 v2)), (3, .int (i32 v3))] []) : ∀ (σ : Sg) (v1 : Int) (v2 : Int) (v3 : Int) (g1 : rng v1) (g2 : rng v2) (g3 : rng v3), w_X16_passEach_68 ra jx rm K7 Q X σ v1 v2 v3 → RG σ → Shp dm ra jx rm σ → JJ p l e R s m args below meth c 6 D cA A n0 s0 QM σ 68 [(0, .ref rm), (1, .int (i32 v1)), (2, .int (i32 v2)), (3, .int (i32 v3))] [] := by
  intro σ v1 v2 v3 g1 g2 g3 h hGσ hS H locs ls hH hl hc
  have B := K.1
  unfold w_X16_passEach_68 at h
  refine lv_aload_n B.1 B.2.1 dX16_passEach_68 rfl (lv_at hl 0 rfl) ?_
  refine lv_aload_n B.1 B.2.1 dX16_passEach_69 rfl (lv_at hl 0 rfl) ?_
  refine r_getp B hH hS 17 (by decide) wf_X16_356 rfl rfl dX16_passEach_70 ?_
  refine lv_aload_n B.1 B.2.1 dX16_passEach_73 rfl (lv_at hl 0 rfl) ?_
  refine r_getp B hH hS 17 (by decide) wf_X16_356 rfl rfl dX16_passEach_74 ?_
  obtain ⟨a39, ea39, ja39, h⟩ := h
  refine W.eq (g2 := F0 m 77 ls [.ref a39, va_rf (gP σ rm 17), .ref rm]) (by rw [ea39]; rfl) ?_
  refine n_arr B hH hS ja39 13 (kd := 100) (n := 128) (by decide) (by decide) (List.mem_of_getElem? (i := 13) rfl) rfl dX16_passEach_77 ?_
  refine lv_bipush (v := i32 8) B.1 B.2.1 dX16_passEach_80 (by decide) ?_
  refine lv_iload_n B.1 B.2.1 dX16_passEach_82 rfl (lv_at hl 1 rfl) ?_
  obtain ⟨q2, h⟩ := h
  refine lv_imul B.1 B.2.1 dX16_passEach_83 ?_
  rw [i32_mul]
  obtain ⟨q3, h⟩ := h
  refine x_iald B K.2.1 hH (hS.ja ja39 (k := 13) (kd := 100) (n := 128) (by decide)) (by decide) q3 dX16_passEach_84 ?_
  refine lv_aload_n B.1 B.2.1 dX16_passEach_85 rfl (lv_at hl 0 rfl) ?_
  refine r_arr B hH hS 115 (kd := 101) (n := 4000) (by decide) (by decide) wf_X16_864 rfl rfl dX16_passEach_86 ?_
  refine lv_iload_n B.1 B.2.1 dX16_passEach_89 rfl (lv_at hl 3 rfl) ?_
  obtain ⟨q4, h⟩ := h
  refine x_lald B K.2.1 hH (hS.ar (k := 115) (kd := 101) (n := 4000) (by decide)) (by decide) q4 dX16_passEach_90 ?_
  refine lv_aload_n B.1 B.2.1 dX16_passEach_91 rfl (lv_at hl 0 rfl) ?_
  refine r_arr B hH hS 81 (kd := 101) (n := 8) (by decide) (by decide) wf_X16_542 rfl rfl dX16_passEach_92 ?_
  refine lv_iconst (v := i32 0) B.1 B.2.1 dX16_passEach_95 (by decide) ?_
  refine c_V B hH hl hc K.2.2.1 (C := RX16) (T := TX16) (N := 123) (ci := 16) (As := [va_rf (gP σ rm 17), .int (i32 (gI σ (jx a39 13) (8 * v1).toNat)), .long (gJ σ (ra 115) v3.toNat), va_rf (some (ra 81)), .int (i32 0)]) (ok_X16_worth K.2.1 σ (gP σ rm 17) (gI σ (jx a39 13) (8 * v1).toNat) (gJ σ (ra 115) v3.toNat) (some (ra 81)) 0 (hGσ _ _) (by unfold rng; omega) hGσ hS h) wc_X16_545 5 hd_X16_worth ⟨Nat.le_trans (Nat.le_of_ble_eq_true rfl) K.2.2.2.1, Nat.le_trans (Nat.le_of_ble_eq_true rfl) K.2.2.2.2.1⟩ hS.1.1 hS.1.2 (by decide) rfl rfl (rest := []) rfl (Nat.le_of_ble_eq_true rfl) dX16_passEach_96 (fun σ40 w hq => ?_) (fun σ9 E9 hx9 => hX σ9 E9 _ _ _ (tb_out K.2.2.2.2.2 rfl) hx9.1 hx9.2.1 hx9.2.2)
  obtain ⟨r41, rfl, h, hGσ40, hS⟩ := hq
  intro H locs ls hH hl hc
  refine W.eq (g2 := F0 m 99 ls [.long r41]) (rfl) ?_
  try dsimp only at h
  refine lv_lstore (lv' := [(4, .long r41), (0, .ref rm), (1, .int (i32 v1)), (2, .int (i32 v2)), (3, .int (i32 v3))]) B.1 B.2.1 dX16_passEach_99 hl (by decide) rfl (fun ls hl => ?_)
  refine lv_aload_n B.1 B.2.1 dX16_passEach_101 rfl (lv_at hl 1 rfl) ?_
  refine r_geti B hH hS 21 (by decide) wf_X16_330 rfl rfl dX16_passEach_102 ?_
  refine lv_if_ne (tgt := 130) B.1 B.2.1 dX16_passEach_105 (by decide) (fun h9 => ?_) (fun h9 => ?_)
  · rw [if_pos (fun q => h9 ((z_eq (hGσ40 _ _)).mpr q))] at h
    exact a_X16_passEach_130 K hQ hX hK7 _ _ _ _ g1 g2 g3 h hGσ40 hS _ _ _ hH (lv_sub (l' := [(0, .ref rm), (1, .int (i32 v1)), (2, .int (i32 v2)), (3, .int (i32 v3))]) hl [1, 2, 3, 4] rfl) hc
  · rw [if_neg (fun q => q ((z_eq (hGσ40 _ _)).mp h9))] at h
    exact a_X16_passEach_108 K hQ hX hK7 _ _ _ _ _ g1 g2 g3 h hGσ40 hS _ _ _ hH (lv_sub (l' := [(0, .ref rm), (1, .int (i32 v1)), (2, .int (i32 v2)), (3, .int (i32 v3)), (4, .long r41)]) hl [1, 2, 3, 4, 0] rfl) hc
set_option maxRecDepth 20000 in
theorem a_X16_passEach_55 {Q : Sg → Unit → Prop} {X : Sg → String → Prop} (K : MC R p s m args c cX16_passEach 6 RX16 D cA tys A n0 s0 2 56 []) (hQ : HQV p l e R s m args below meth c cX16_passEach D cA A n0 s0 QM dm ra jx rm Q) (hX : HX p l e R s m args below meth c 6 D cA A n0 s0 QM dm ra jx rm X) {K7 : Sg → Int → Int → Int → Prop} (hK7 : ∀ (σ : Sg) (v1 : Int) (v2 : Int) (v3 : Int) (g1 : rng v1) (g2 : rng v2) (g3 : rng v3), K7 σ v1 v2 v3 → RG σ → Shp dm ra jx rm σ → JJ p l e R s m args below meth c 6 D cA A n0 s0 QM σ 7 [(0, .ref rm), (1, .int (i32 v1)), (2, .int (i32 v2)), (3, .int (i32 v3))] []) : ∀ (σ : Sg) (v1 : Int) (v2 : Int) (v3 : Int) (g1 : rng v1) (g2 : rng v2) (g3 : rng v3), w_X16_passEach_55 ra jx rm K7 Q X σ v1 v2 v3 → RG σ → Shp dm ra jx rm σ → JJ p l e R s m args below meth c 6 D cA A n0 s0 QM σ 55 [(0, .ref rm), (1, .int (i32 v1)), (2, .int (i32 v2)), (3, .int (i32 v3))] [] := by
  intro σ v1 v2 v3 g1 g2 g3 h hGσ hS H locs ls hH hl hc
  have B := K.1
  unfold w_X16_passEach_55 at h
  refine lv_aload_n B.1 B.2.1 dX16_passEach_55 rfl (lv_at hl 0 rfl) ?_
  refine r_getp B hH hS 17 (by decide) wf_X16_356 rfl rfl dX16_passEach_56 ?_
  obtain ⟨a42, ea42, ja42, h⟩ := h
  refine W.eq (g2 := F0 m 59 ls [.ref a42]) (by rw [ea42]; rfl) ?_
  refine n_arr B hH hS ja42 2 (kd := 100) (n := 16) (by decide) (by decide) (List.mem_of_getElem? (i := 2) rfl) rfl dX16_passEach_59 ?_
  refine lv_iload_n B.1 B.2.1 dX16_passEach_62 rfl (lv_at hl 1 rfl) ?_
  obtain ⟨q2, h⟩ := h
  refine x_iald B K.2.1 hH (hS.ja ja42 (k := 2) (kd := 100) (n := 16) (by decide)) (by decide) q2 dX16_passEach_63 ?_
  refine lv_iconst (v := i32 1) B.1 B.2.1 dX16_passEach_64 (by decide) ?_
  refine lv_icmp_ne (tgt := 133) B.1 B.2.1 dX16_passEach_65 (by decide) (fun h9 => ?_) (fun h9 => ?_)
  · rw [if_pos (fun q => h9 ((i32_eq (hGσ _ _) (by unfold rng; omega)).mpr q))] at h
    exact a_X16_passEach_133 K hQ hX hK7 _ _ _ _ g1 g2 g3 h hGσ hS _ _ _ hH (lv_sub (l' := [(0, .ref rm), (1, .int (i32 v1)), (2, .int (i32 v2)), (3, .int (i32 v3))]) hl [0, 1, 2, 3] rfl) hc
  · rw [if_neg (fun q => q ((i32_eq (hGσ _ _) (by unfold rng; omega)).mp h9))] at h
    exact a_X16_passEach_68 K hQ hX hK7 _ _ _ _ g1 g2 g3 h hGσ hS _ _ _ hH (lv_sub (l' := [(0, .ref rm), (1, .int (i32 v1)), (2, .int (i32 v2)), (3, .int (i32 v3))]) hl [0, 1, 2, 3] rfl) hc
set_option maxRecDepth 20000 in
theorem a_X16_passEach_37 {Q : Sg → Unit → Prop} {X : Sg → String → Prop} (K : MC R p s m args c cX16_passEach 6 RX16 D cA tys A n0 s0 2 56 []) (hQ : HQV p l e R s m args below meth c cX16_passEach D cA A n0 s0 QM dm ra jx rm Q) (hX : HX p l e R s m args below meth c 6 D cA A n0 s0 QM dm ra jx rm X) {K7 : Sg → Int → Int → Int → Prop} (hK7 : ∀ (σ : Sg) (v1 : Int) (v2 : Int) (v3 : Int) (g1 : rng v1) (g2 : rng v2) (g3 : rng v3), K7 σ v1 v2 v3 → RG σ → Shp dm ra jx rm σ → JJ p l e R s m args below meth c 6 D cA A n0 s0 QM σ 7 [(0, .ref rm), (1, .int (i32 v1)), (2, .int (i32 v2)), (3, .int (i32 v3))] []) : ∀ (σ : Sg) (v1 : Int) (v2 : Int) (v3 : Int) (g1 : rng v1) (g2 : rng v2) (g3 : rng v3), w_X16_passEach_37 ra jx rm K7 Q X σ v1 v2 v3 → RG σ → Shp dm ra jx rm σ → JJ p l e R s m args below meth c 6 D cA A n0 s0 QM σ 37 [(0, .ref rm), (1, .int (i32 v1)), (2, .int (i32 v2)), (3, .int (i32 v3))] [] := by
  intro σ v1 v2 v3 g1 g2 g3 h hGσ hS H locs ls hH hl hc
  have B := K.1
  unfold w_X16_passEach_37 at h
  refine lv_aload_n B.1 B.2.1 dX16_passEach_37 rfl (lv_at hl 0 rfl) ?_
  refine lv_aload_n B.1 B.2.1 dX16_passEach_38 rfl (lv_at hl 0 rfl) ?_
  refine r_arr B hH hS 115 (kd := 101) (n := 4000) (by decide) (by decide) wf_X16_864 rfl rfl dX16_passEach_39 ?_
  refine lv_iload_n B.1 B.2.1 dX16_passEach_42 rfl (lv_at hl 3 rfl) ?_
  obtain ⟨q1, h⟩ := h
  refine x_lald B K.2.1 hH (hS.ar (k := 115) (kd := 101) (n := 4000) (by decide)) (by decide) q1 dX16_passEach_43 ?_
  refine lv_aload_n B.1 B.2.1 dX16_passEach_44 rfl (lv_at hl 0 rfl) ?_
  refine r_arr B hH hS 81 (kd := 101) (n := 8) (by decide) (by decide) wf_X16_542 rfl rfl dX16_passEach_45 ?_
  refine lv_iconst (v := i32 0) B.1 B.2.1 dX16_passEach_48 (by decide) ?_
  refine c_V B hH hl hc K.2.2.1 (C := RX16) (T := TX16) (N := 123) (ci := 16) (As := [.long (gJ σ (ra 115) v3.toNat), va_rf (some (ra 81)), .int (i32 0)]) (ok_X16_pass K.2.1 σ (gJ σ (ra 115) v3.toNat) (some (ra 81)) 0 (by unfold rng; omega) hGσ hS h) wc_X16_870 3 hd_X16_pass ⟨Nat.le_trans (Nat.le_of_ble_eq_true rfl) K.2.2.2.1, Nat.le_trans (Nat.le_of_ble_eq_true rfl) K.2.2.2.2.1⟩ hS.1.1 hS.1.2 (by decide) rfl rfl (rest := []) rfl (Nat.le_of_ble_eq_true rfl) dX16_passEach_49 (fun σ43 w hq => ?_) (fun σ9 E9 hx9 => hX σ9 E9 _ _ _ (tb_out K.2.2.2.2.2 rfl) hx9.1 hx9.2.1 hx9.2.2)
  obtain ⟨rfl, h, hGσ43, hS⟩ := hq
  intro H locs ls hH hl hc
  refine W.eq (g2 := F0 m 52 ls []) (rfl) ?_
  try dsimp only at h
  refine lv_goto (tgt := 263) B.1 B.2.1 dX16_passEach_52 (by decide) ?_
  exact a_X16_passEach_263 K hQ hX hK7 _ _ _ _ g1 g2 g3 h hGσ43 hS _ _ _ hH (lv_sub (l' := [(0, .ref rm), (1, .int (i32 v1)), (2, .int (i32 v2)), (3, .int (i32 v3))]) hl [0, 1, 2, 3] rfl) hc
set_option maxRecDepth 20000 in
theorem a_X16_passEach_19 {Q : Sg → Unit → Prop} {X : Sg → String → Prop} (K : MC R p s m args c cX16_passEach 6 RX16 D cA tys A n0 s0 2 56 []) (hQ : HQV p l e R s m args below meth c cX16_passEach D cA A n0 s0 QM dm ra jx rm Q) (hX : HX p l e R s m args below meth c 6 D cA A n0 s0 QM dm ra jx rm X) {K7 : Sg → Int → Int → Int → Prop} (hK7 : ∀ (σ : Sg) (v1 : Int) (v2 : Int) (v3 : Int) (g1 : rng v1) (g2 : rng v2) (g3 : rng v3), K7 σ v1 v2 v3 → RG σ → Shp dm ra jx rm σ → JJ p l e R s m args below meth c 6 D cA A n0 s0 QM σ 7 [(0, .ref rm), (1, .int (i32 v1)), (2, .int (i32 v2)), (3, .int (i32 v3))] []) : ∀ (σ : Sg) (v1 : Int) (v2 : Int) (v3 : Int) (g1 : rng v1) (g2 : rng v2) (g3 : rng v3), w_X16_passEach_19 ra jx rm K7 Q X σ v1 v2 v3 → RG σ → Shp dm ra jx rm σ → JJ p l e R s m args below meth c 6 D cA A n0 s0 QM σ 19 [(0, .ref rm), (1, .int (i32 v1)), (2, .int (i32 v2)), (3, .int (i32 v3))] [] := by
  intro σ v1 v2 v3 g1 g2 g3 h hGσ hS H locs ls hH hl hc
  have B := K.1
  unfold w_X16_passEach_19 at h
  refine lv_aload_n B.1 B.2.1 dX16_passEach_19 rfl (lv_at hl 0 rfl) ?_
  refine lv_iload_n B.1 B.2.1 dX16_passEach_20 rfl (lv_at hl 3 rfl) ?_
  refine c_V B hH hl hc K.2.2.1 (C := RX16) (T := TX16) (N := 123) (ci := 16) (As := [.int (i32 v3)]) (ok_X16_load K.2.1 σ v3 g3 hGσ hS h) wc_X16_880 1 hd_X16_load ⟨Nat.le_trans (Nat.le_of_ble_eq_true rfl) K.2.2.2.1, Nat.le_trans (Nat.le_of_ble_eq_true rfl) K.2.2.2.2.1⟩ hS.1.1 hS.1.2 (by decide) rfl rfl (rest := []) rfl (Nat.le_of_ble_eq_true rfl) dX16_passEach_21 (fun σ44 w hq => ?_) (fun σ9 E9 hx9 => hX σ9 E9 _ _ _ (tb_out K.2.2.2.2.2 rfl) hx9.1 hx9.2.1 hx9.2.2)
  obtain ⟨rfl, h, hGσ44, hS⟩ := hq
  intro H locs ls hH hl hc
  refine W.eq (g2 := F0 m 24 ls []) (rfl) ?_
  try dsimp only at h
  refine lv_aload_n B.1 B.2.1 dX16_passEach_24 rfl (lv_at hl 0 rfl) ?_
  refine r_getp B hH hS 17 (by decide) wf_X16_356 rfl rfl dX16_passEach_25 ?_
  obtain ⟨a45, ea45, ja45, h⟩ := h
  refine W.eq (g2 := F0 m 28 ls [.ref a45]) (by rw [ea45]; rfl) ?_
  refine n_arr B hH hS ja45 2 (kd := 100) (n := 16) (by decide) (by decide) (List.mem_of_getElem? (i := 2) rfl) rfl dX16_passEach_28 ?_
  refine lv_iload_n B.1 B.2.1 dX16_passEach_31 rfl (lv_at hl 1 rfl) ?_
  obtain ⟨q2, h⟩ := h
  refine x_iald B K.2.1 hH (hS.ja ja45 (k := 2) (kd := 100) (n := 16) (by decide)) (by decide) q2 dX16_passEach_32 ?_
  refine lv_iconst (v := i32 3) B.1 B.2.1 dX16_passEach_33 (by decide) ?_
  refine lv_icmp_ne (tgt := 55) B.1 B.2.1 dX16_passEach_34 (by decide) (fun h9 => ?_) (fun h9 => ?_)
  · rw [if_pos (fun q => h9 ((i32_eq (hGσ44 _ _) (by unfold rng; omega)).mpr q))] at h
    exact a_X16_passEach_55 K hQ hX hK7 _ _ _ _ g1 g2 g3 h hGσ44 hS _ _ _ hH (lv_sub (l' := [(0, .ref rm), (1, .int (i32 v1)), (2, .int (i32 v2)), (3, .int (i32 v3))]) hl [0, 1, 2, 3] rfl) hc
  · rw [if_neg (fun q => q ((i32_eq (hGσ44 _ _) (by unfold rng; omega)).mp h9))] at h
    exact a_X16_passEach_37 K hQ hX hK7 _ _ _ _ g1 g2 g3 h hGσ44 hS _ _ _ hH (lv_sub (l' := [(0, .ref rm), (1, .int (i32 v1)), (2, .int (i32 v2)), (3, .int (i32 v3))]) hl [0, 1, 2, 3] rfl) hc
set_option maxRecDepth 20000 in
theorem a_X16_passEach_7 {Q : Sg → Unit → Prop} {X : Sg → String → Prop} (K : MC R p s m args c cX16_passEach 6 RX16 D cA tys A n0 s0 2 56 []) (hQ : HQV p l e R s m args below meth c cX16_passEach D cA A n0 s0 QM dm ra jx rm Q) (hX : HX p l e R s m args below meth c 6 D cA A n0 s0 QM dm ra jx rm X) {K7 : Sg → Int → Int → Int → Prop} (hK7 : ∀ (σ : Sg) (v1 : Int) (v2 : Int) (v3 : Int) (g1 : rng v1) (g2 : rng v2) (g3 : rng v3), K7 σ v1 v2 v3 → RG σ → Shp dm ra jx rm σ → JJ p l e R s m args below meth c 6 D cA A n0 s0 QM σ 7 [(0, .ref rm), (1, .int (i32 v1)), (2, .int (i32 v2)), (3, .int (i32 v3))] []) : ∀ (σ : Sg) (v1 : Int) (v2 : Int) (v3 : Int) (g1 : rng v1) (g2 : rng v2) (g3 : rng v3), w_X16_passEach_7 ra jx rm K7 Q X σ v1 v2 v3 → RG σ → Shp dm ra jx rm σ → JJ p l e R s m args below meth c 6 D cA A n0 s0 QM σ 7 [(0, .ref rm), (1, .int (i32 v1)), (2, .int (i32 v2)), (3, .int (i32 v3))] [] := by
  intro σ v1 v2 v3 g1 g2 g3 h hGσ hS H locs ls hH hl hc
  have B := K.1
  unfold w_X16_passEach_7 at h
  refine lv_iload_n B.1 B.2.1 dX16_passEach_7 rfl (lv_at hl 3 rfl) ?_
  refine lv_aload_n B.1 B.2.1 dX16_passEach_8 rfl (lv_at hl 0 rfl) ?_
  refine r_arr B hH hS 118 (kd := 100) (n := 17) (by decide) (by decide) wf_X16_874 rfl rfl dX16_passEach_9 ?_
  refine lv_iload_n B.1 B.2.1 dX16_passEach_12 rfl (lv_at hl 2 rfl) ?_
  refine lv_iconst (v := i32 1) B.1 B.2.1 dX16_passEach_13 (by decide) ?_
  obtain ⟨q1, h⟩ := h
  refine lv_iadd B.1 B.2.1 dX16_passEach_14 ?_
  rw [i32_add]
  obtain ⟨q2, h⟩ := h
  refine x_iald B K.2.1 hH (hS.ar (k := 118) (kd := 100) (n := 17) (by decide)) (by decide) q2 dX16_passEach_15 ?_
  refine lv_icmp_ge (tgt := 269) B.1 B.2.1 dX16_passEach_16 (by decide) (fun h9 => ?_) (fun h9 => ?_)
  · rw [if_pos ((i32_le (hGσ _ _) g3).mp h9)] at h
    exact a_X16_passEach_269 K hQ hX _ h hGσ hS _ _ _ hH (lv_sub (l' := [(0, .ref rm)]) hl [0] rfl) hc
  · rw [if_neg (fun q => h9 ((i32_le (hGσ _ _) g3).mpr q))] at h
    exact a_X16_passEach_19 K hQ hX hK7 _ _ _ _ g1 g2 g3 h hGσ hS _ _ _ hH (lv_sub (l' := [(0, .ref rm), (1, .int (i32 v1)), (2, .int (i32 v2)), (3, .int (i32 v3))]) hl [0, 1, 2, 3] rfl) hc
theorem al_X16_passEach_7 {Q : Sg → Unit → Prop} {X : Sg → String → Prop} (K : MC R p s m args c cX16_passEach 6 RX16 D cA tys A n0 s0 2 56 []) (hQ : HQV p l e R s m args below meth c cX16_passEach D cA A n0 s0 QM dm ra jx rm Q) (hX : HX p l e R s m args below meth c 6 D cA A n0 s0 QM dm ra jx rm X) : ∀ (n : Nat), ∀ (σ : Sg) (v1 : Int) (v2 : Int) (v3 : Int) (g1 : rng v1) (g2 : rng v2) (g3 : rng v3), wl_X16_passEach_7 ra jx rm Q X n σ v1 v2 v3 → RG σ → Shp dm ra jx rm σ → JJ p l e R s m args below meth c 6 D cA A n0 s0 QM σ 7 [(0, .ref rm), (1, .int (i32 v1)), (2, .int (i32 v2)), (3, .int (i32 v3))] [] := by
  intro n
  induction n with
  | zero => intro σ v1 v2 v3 g1 g2 g3 h; exact h.elim
  | succ n ih => exact fun σ v1 v2 v3 g1 g2 g3 h => a_X16_passEach_7 K hQ hX ih σ v1 v2 v3 g1 g2 g3 h
set_option maxRecDepth 20000 in
theorem a_X16_passEach_0 {Q : Sg → Unit → Prop} {X : Sg → String → Prop} (K : MC R p s m args c cX16_passEach 6 RX16 D cA tys A n0 s0 2 56 []) (hQ : HQV p l e R s m args below meth c cX16_passEach D cA A n0 s0 QM dm ra jx rm Q) (hX : HX p l e R s m args below meth c 6 D cA A n0 s0 QM dm ra jx rm X) : ∀ (σ : Sg) (v1 : Int) (v2 : Int) (g1 : rng v1) (g2 : rng v2), w_X16_passEach_0 ra jx rm Q X σ v1 v2 → RG σ → Shp dm ra jx rm σ → JJ p l e R s m args below meth c 6 D cA A n0 s0 QM σ 0 [(0, .ref rm), (1, .int (i32 v1)), (2, .int (i32 v2))] [] := by
  intro σ v1 v2 g1 g2 h hGσ hS H locs ls hH hl hc
  have B := K.1
  unfold w_X16_passEach_0 at h
  refine lv_aload_n B.1 B.2.1 dX16_passEach_0 rfl (lv_at hl 0 rfl) ?_
  refine r_arr B hH hS 118 (kd := 100) (n := 17) (by decide) (by decide) wf_X16_874 rfl rfl dX16_passEach_1 ?_
  refine lv_iload_n B.1 B.2.1 dX16_passEach_4 rfl (lv_at hl 2 rfl) ?_
  obtain ⟨q1, h⟩ := h
  refine x_iald B K.2.1 hH (hS.ar (k := 118) (kd := 100) (n := 17) (by decide)) (by decide) q1 dX16_passEach_5 ?_
  refine lv_istore_n (lv' := [(3, .int (i32 (gI σ (ra 118) v2.toNat))), (0, .ref rm), (1, .int (i32 v1)), (2, .int (i32 v2))]) B.1 B.2.1 dX16_passEach_6 rfl hl (by decide) rfl (fun ls hl => ?_)
  obtain ⟨n9, h⟩ := h
  exact al_X16_passEach_7 K hQ hX n9 _ _ _ _ g1 g2 (hGσ _ _) h hGσ hS _ _ _ hH (lv_sub (l' := [(0, .ref rm), (1, .int (i32 v1)), (2, .int (i32 v2)), (3, .int (i32 (gI σ (ra 118) v2.toNat)))]) hl [1, 2, 3, 0] rfl) hc
theorem ok_X16_passEach (hT : Tys cA tys) {Q : Sg → Unit → Prop} {X : Sg → String → Prop} (σ : Sg) (v1 : Int) (v2 : Int) (g1 : rng v1) (g2 : rng v2) (hG : RG σ) (hS : Shp dm ra jx rm σ) (h : wp_X16_passEach ra jx rm v1 v2 σ Q X) : Ok l D cA tys A yX16_passEach (.code yX16_passEach cX16_passEach 6 none) 2 56 [.ref rm, .int (i32 v1), .int (i32 v2)] σ (QnV dm ra jx rm Q) (QxR dm ra jx rm X) := by
  unfold wp_X16_passEach at h
  exact ok_V (plainFor_of_name (by decide)) (by exact Nat.le_of_ble_eq_true rfl) hT (fun p e R s m args below meth c K hQ hX H locs ls hH hl hc => a_X16_passEach_0 K hQ hX σ v1 v2 g1 g2 h hG hS H locs ls hH (lv_sub (l' := [(0, .ref rm), (1, .int (i32 v1)), (2, .int (i32 v2))]) hl [0, 1, 2] rfl) hc)
end M60

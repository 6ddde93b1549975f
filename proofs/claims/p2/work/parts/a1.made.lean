/-! the reference, made: what it makes, as data -/
theorem wo_X16_943 : ∀ w ∈ [Cond.methodLink RX16 943 Lib.objectInit, .instanceMethod Lib.objectInit, .code Lib.objectInit ⟨#[0xb1]⟩ 1 none], w ∈ WAL := List.forall_mem_cons.mpr ⟨List.mem_filter.mpr ⟨tb_8 _ (List.mem_of_getElem? (i := 56) rfl), rfl⟩, List.forall_mem_cons.mpr ⟨List.mem_filter.mpr ⟨tb_1 _ (List.mem_of_getElem? (i := 40) rfl), rfl⟩, List.forall_mem_cons.mpr ⟨List.mem_filter.mpr ⟨tb_1 _ (List.mem_of_getElem? (i := 41) rfl), rfl⟩, (fun _ h => nomatch h)⟩⟩⟩
theorem wu_X14 : ∀ w ∈ u_ws RX14 TX14 6, w ∈ WAL := (by
  have h9 : ∀ w ∈ u_ws RX14 TX14 6, w ∈ lw_tbl := by decide +kernel
  exact fun w hw => List.mem_filter.mpr ⟨h9 w hw, List.all_eq_true.mp (show (u_ws RX14 TX14 6).all goodWord = true by decide +kernel) w hw⟩)
theorem wn_X16_948 : ∀ w ∈ [Cond.classLink RX16 948 RX14, .instantiable RX14 6, .initialized RX14], w ∈ WAL := List.forall_mem_cons.mpr ⟨List.mem_filter.mpr ⟨tb_8 _ (List.mem_of_getElem? (i := 57) rfl), rfl⟩, List.forall_mem_cons.mpr ⟨List.mem_filter.mpr ⟨tb_8 _ (List.mem_of_getElem? (i := 58) rfl), rfl⟩, List.forall_mem_cons.mpr ⟨List.mem_filter.mpr ⟨tb_1 _ (List.mem_of_getElem? (i := 18) rfl), rfl⟩, (fun _ h => nomatch h)⟩⟩⟩
theorem wu_X13 : ∀ w ∈ u_ws RX13 TX13 6, w ∈ WAL := (by
  have h9 : ∀ w ∈ u_ws RX13 TX13 6, w ∈ lw_tbl := by decide +kernel
  exact fun w hw => List.mem_filter.mpr ⟨h9 w hw, List.all_eq_true.mp (show (u_ws RX13 TX13 6).all goodWord = true by decide +kernel) w hw⟩)
theorem wn_X16_829 : ∀ w ∈ [Cond.classLink RX16 829 RX13, .instantiable RX13 6, .initialized RX13], w ∈ WAL := List.forall_mem_cons.mpr ⟨List.mem_filter.mpr ⟨tb_8 _ (List.mem_of_getElem? (i := 167) rfl), rfl⟩, List.forall_mem_cons.mpr ⟨List.mem_filter.mpr ⟨tb_8 _ (List.mem_of_getElem? (i := 168) rfl), rfl⟩, List.forall_mem_cons.mpr ⟨List.mem_filter.mpr ⟨tb_1 _ (List.mem_of_getElem? (i := 20) rfl), rfl⟩, (fun _ h => nomatch h)⟩⟩⟩
theorem wn_X16_123 : ∀ w ∈ [Cond.classLink RX16 123 RX15, .instantiable RX15 20, .initialized RX15], w ∈ WAL := List.forall_mem_cons.mpr ⟨List.mem_filter.mpr ⟨tb_8 _ (List.mem_of_getElem? (i := 80) rfl), rfl⟩, List.forall_mem_cons.mpr ⟨List.mem_filter.mpr ⟨tb_8 _ (List.mem_of_getElem? (i := 81) rfl), rfl⟩, List.forall_mem_cons.mpr ⟨List.mem_filter.mpr ⟨tb_1 _ (List.mem_of_getElem? (i := 19) rfl), rfl⟩, (fun _ h => nomatch h)⟩⟩⟩
theorem wt_X16_950 : ∀ w ∈ [Cond.methodLink RX16 950 yX14_init, .instanceMethod yX14_init, .initialized yX14_init.cls], w ∈ WAL := List.forall_mem_cons.mpr ⟨List.mem_filter.mpr ⟨tb_8 _ (List.mem_of_getElem? (i := 66) rfl), rfl⟩, List.forall_mem_cons.mpr ⟨List.mem_filter.mpr ⟨tb_8 _ (List.mem_of_getElem? (i := 67) rfl), rfl⟩, List.forall_mem_cons.mpr ⟨List.mem_filter.mpr ⟨tb_1 _ (List.mem_of_getElem? (i := 18) rfl), rfl⟩, (fun _ h => nomatch h)⟩⟩⟩
theorem wt_X16_961 : ∀ w ∈ [Cond.methodLink RX16 961 yX13_init, .instanceMethod yX13_init, .initialized yX13_init.cls], w ∈ WAL := List.forall_mem_cons.mpr ⟨List.mem_filter.mpr ⟨tb_8 _ (List.mem_of_getElem? (i := 176) rfl), rfl⟩, List.forall_mem_cons.mpr ⟨List.mem_filter.mpr ⟨tb_8 _ (List.mem_of_getElem? (i := 177) rfl), rfl⟩, List.forall_mem_cons.mpr ⟨List.mem_filter.mpr ⟨tb_1 _ (List.mem_of_getElem? (i := 20) rfl), rfl⟩, (fun _ h => nomatch h)⟩⟩⟩
theorem wq_X15_init : ∀ w ∈ [Cond.instanceMethod yX15_init, .initialized yX15_init.cls, .code yX15_init cX15_init 2 none], w ∈ WAL := List.forall_mem_cons.mpr ⟨List.mem_filter.mpr ⟨tb_8 _ (List.mem_of_getElem? (i := 83) rfl), rfl⟩, List.forall_mem_cons.mpr ⟨List.mem_filter.mpr ⟨tb_1 _ (List.mem_of_getElem? (i := 19) rfl), rfl⟩, List.forall_mem_cons.mpr ⟨List.mem_filter.mpr ⟨tb_8 _ (List.mem_of_getElem? (i := 84) rfl), rfl⟩, (fun _ h => nomatch h)⟩⟩⟩
theorem wk_X16_960 : Cond.constant RX16 960 (i32 120000) ∈ WAL := List.mem_filter.mpr ⟨tb_8 _ (List.mem_of_getElem? (i := 166) rfl), rfl⟩
theorem wk_X16_962 : Cond.constant RX16 962 (i32 102416) ∈ WAL := List.mem_filter.mpr ⟨tb_8 _ (List.mem_of_getElem? (i := 182) rfl), rfl⟩
theorem wk_X16_963 : Cond.constant RX16 963 (i32 64000) ∈ WAL := List.mem_filter.mpr ⟨tb_8 _ (List.mem_of_getElem? (i := 183) rfl), rfl⟩
theorem dX16_init_0 : decode cX16_init 0 = .ok (.aload_n 0, 1) := by decide +kernel
theorem dX16_init_1 : decode cX16_init 1 = .ok (.invokespecial 943, 3) := by decide +kernel
theorem dX16_init_4 : decode cX16_init 4 = .ok (.aload_n 0, 1) := by decide +kernel
theorem dX16_init_5 : decode cX16_init 5 = .ok (.new 948, 3) := by decide +kernel
theorem dX16_init_8 : decode cX16_init 8 = .ok (.dup, 1) := by decide +kernel
theorem dX16_init_9 : decode cX16_init 9 = .ok (.invokespecial 950, 3) := by decide +kernel
theorem dX16_init_12 : decode cX16_init 12 = .ok (.putfield 16, 3) := by decide +kernel
theorem dX16_init_15 : decode cX16_init 15 = .ok (.aload_n 0, 1) := by decide +kernel
theorem dX16_init_16 : decode cX16_init 16 = .ok (.sipush 1500, 3) := by decide +kernel
theorem dX16_init_19 : decode cX16_init 19 = .ok (.newarray .byte, 2) := by decide +kernel
theorem dX16_init_21 : decode cX16_init 21 = .ok (.putfield 20, 3) := by decide +kernel
theorem dX16_init_24 : decode cX16_init 24 = .ok (.aload_n 0, 1) := by decide +kernel
theorem dX16_init_25 : decode cX16_init 25 = .ok (.bipush 23, 2) := by decide +kernel
theorem dX16_init_27 : decode cX16_init 27 = .ok (.newarray .long, 2) := by decide +kernel
theorem dX16_init_29 : decode cX16_init 29 = .ok (.putfield 95, 3) := by decide +kernel
theorem dX16_init_32 : decode cX16_init 32 = .ok (.aload_n 0, 1) := by decide +kernel
theorem dX16_init_33 : decode cX16_init 33 = .ok (.new 123, 3) := by decide +kernel
theorem dX16_init_36 : decode cX16_init 36 = .ok (.dup, 1) := by decide +kernel
theorem dX16_init_37 : decode cX16_init 37 = .ok (.aload_n 0, 1) := by decide +kernel
theorem dX16_init_38 : decode cX16_init 38 = .ok (.invokespecial 951, 3) := by decide +kernel
theorem dX16_init_41 : decode cX16_init 41 = .ok (.putfield 954, 3) := by decide +kernel
theorem dX16_init_44 : decode cX16_init 44 = .ok (.aload_n 0, 1) := by decide +kernel
theorem dX16_init_45 : decode cX16_init 45 = .ok (.new 123, 3) := by decide +kernel
theorem dX16_init_48 : decode cX16_init 48 = .ok (.dup, 1) := by decide +kernel
theorem dX16_init_49 : decode cX16_init 49 = .ok (.aload_n 0, 1) := by decide +kernel
theorem dX16_init_50 : decode cX16_init 50 = .ok (.invokespecial 951, 3) := by decide +kernel
theorem dX16_init_53 : decode cX16_init 53 = .ok (.putfield 957, 3) := by decide +kernel
theorem dX16_init_56 : decode cX16_init 56 = .ok (.aload_n 0, 1) := by decide +kernel
theorem dX16_init_57 : decode cX16_init 57 = .ok (.aconst_null, 1) := by decide +kernel
theorem dX16_init_58 : decode cX16_init 58 = .ok (.putfield 356, 3) := by decide +kernel
theorem dX16_init_61 : decode cX16_init 61 = .ok (.aload_n 0, 1) := by decide +kernel
theorem dX16_init_62 : decode cX16_init 62 = .ok (.aload_n 0, 1) := by decide +kernel
theorem dX16_init_63 : decode cX16_init 63 = .ok (.getfield 954, 3) := by decide +kernel
theorem dX16_init_66 : decode cX16_init 66 = .ok (.putfield 118, 3) := by decide +kernel
theorem dX16_init_69 : decode cX16_init 69 = .ok (.aload_n 0, 1) := by decide +kernel
theorem dX16_init_70 : decode cX16_init 70 = .ok (.sipush 1600, 3) := by decide +kernel
theorem dX16_init_73 : decode cX16_init 73 = .ok (.newarray .long, 2) := by decide +kernel
theorem dX16_init_75 : decode cX16_init 75 = .ok (.putfield 336, 3) := by decide +kernel
theorem dX16_init_78 : decode cX16_init 78 = .ok (.aload_n 0, 1) := by decide +kernel
theorem dX16_init_79 : decode cX16_init 79 = .ok (.iconst 4, 1) := by decide +kernel
theorem dX16_init_80 : decode cX16_init 80 = .ok (.newarray .int, 2) := by decide +kernel
theorem dX16_init_82 : decode cX16_init 82 = .ok (.putfield 763, 3) := by decide +kernel
theorem dX16_init_85 : decode cX16_init 85 = .ok (.aload_n 0, 1) := by decide +kernel
theorem dX16_init_86 : decode cX16_init 86 = .ok (.sipush 256, 3) := by decide +kernel
theorem dX16_init_89 : decode cX16_init 89 = .ok (.newarray .long, 2) := by decide +kernel
theorem dX16_init_91 : decode cX16_init 91 = .ok (.putfield 754, 3) := by decide +kernel
theorem dX16_init_94 : decode cX16_init 94 = .ok (.aload_n 0, 1) := by decide +kernel
theorem dX16_init_95 : decode cX16_init 95 = .ok (.sipush 1024, 3) := by decide +kernel
theorem dX16_init_98 : decode cX16_init 98 = .ok (.newarray .long, 2) := by decide +kernel
theorem dX16_init_100 : decode cX16_init 100 = .ok (.putfield 772, 3) := by decide +kernel
theorem dX16_init_103 : decode cX16_init 103 = .ok (.aload_n 0, 1) := by decide +kernel
theorem dX16_init_104 : decode cX16_init 104 = .ok (.iconst 4, 1) := by decide +kernel
theorem dX16_init_105 : decode cX16_init 105 = .ok (.newarray .boolean, 2) := by decide +kernel
theorem dX16_init_107 : decode cX16_init 107 = .ok (.putfield 779, 3) := by decide +kernel
theorem dX16_init_110 : decode cX16_init 110 = .ok (.aload_n 0, 1) := by decide +kernel
theorem dX16_init_111 : decode cX16_init 111 = .ok (.ldc_w 960, 3) := by decide +kernel
theorem dX16_init_114 : decode cX16_init 114 = .ok (.newarray .long, 2) := by decide +kernel
theorem dX16_init_116 : decode cX16_init 116 = .ok (.putfield 350, 3) := by decide +kernel
theorem dX16_init_119 : decode cX16_init 119 = .ok (.aload_n 0, 1) := by decide +kernel
theorem dX16_init_120 : decode cX16_init 120 = .ok (.new 829, 3) := by decide +kernel
theorem dX16_init_123 : decode cX16_init 123 = .ok (.dup, 1) := by decide +kernel
theorem dX16_init_124 : decode cX16_init 124 = .ok (.invokespecial 961, 3) := by decide +kernel
theorem dX16_init_127 : decode cX16_init 127 = .ok (.putfield 346, 3) := by decide +kernel
theorem dX16_init_130 : decode cX16_init 130 = .ok (.aload_n 0, 1) := by decide +kernel
theorem dX16_init_131 : decode cX16_init 131 = .ok (.new 829, 3) := by decide +kernel
theorem dX16_init_134 : decode cX16_init 134 = .ok (.dup, 1) := by decide +kernel
theorem dX16_init_135 : decode cX16_init 135 = .ok (.invokespecial 961, 3) := by decide +kernel
theorem dX16_init_138 : decode cX16_init 138 = .ok (.putfield 691, 3) := by decide +kernel
theorem dX16_init_141 : decode cX16_init 141 = .ok (.aload_n 0, 1) := by decide +kernel
theorem dX16_init_142 : decode cX16_init 142 = .ok (.bipush 17, 2) := by decide +kernel
theorem dX16_init_144 : decode cX16_init 144 = .ok (.newarray .int, 2) := by decide +kernel
theorem dX16_init_146 : decode cX16_init 146 = .ok (.putfield 389, 3) := by decide +kernel
theorem dX16_init_149 : decode cX16_init 149 = .ok (.aload_n 0, 1) := by decide +kernel
theorem dX16_init_150 : decode cX16_init 150 = .ok (.bipush 64, 2) := by decide +kernel
theorem dX16_init_152 : decode cX16_init 152 = .ok (.newarray .int, 2) := by decide +kernel
theorem dX16_init_154 : decode cX16_init 154 = .ok (.putfield 380, 3) := by decide +kernel
theorem dX16_init_157 : decode cX16_init 157 = .ok (.aload_n 0, 1) := by decide +kernel
theorem dX16_init_158 : decode cX16_init 158 = .ok (.bipush 64, 2) := by decide +kernel
theorem dX16_init_160 : decode cX16_init 160 = .ok (.newarray .int, 2) := by decide +kernel
theorem dX16_init_162 : decode cX16_init 162 = .ok (.putfield 396, 3) := by decide +kernel
theorem dX16_init_165 : decode cX16_init 165 = .ok (.aload_n 0, 1) := by decide +kernel
theorem dX16_init_166 : decode cX16_init 166 = .ok (.bipush 64, 2) := by decide +kernel
theorem dX16_init_168 : decode cX16_init 168 = .ok (.newarray .long, 2) := by decide +kernel
theorem dX16_init_170 : decode cX16_init 170 = .ok (.putfield 414, 3) := by decide +kernel
theorem dX16_init_173 : decode cX16_init 173 = .ok (.aload_n 0, 1) := by decide +kernel
theorem dX16_init_174 : decode cX16_init 174 = .ok (.bipush 64, 2) := by decide +kernel
theorem dX16_init_176 : decode cX16_init 176 = .ok (.newarray .int, 2) := by decide +kernel
theorem dX16_init_178 : decode cX16_init 178 = .ok (.putfield 419, 3) := by decide +kernel
theorem dX16_init_181 : decode cX16_init 181 = .ok (.aload_n 0, 1) := by decide +kernel
theorem dX16_init_182 : decode cX16_init 182 = .ok (.bipush 64, 2) := by decide +kernel
theorem dX16_init_184 : decode cX16_init 184 = .ok (.newarray .int, 2) := by decide +kernel
theorem dX16_init_186 : decode cX16_init 186 = .ok (.putfield 422, 3) := by decide +kernel
theorem dX16_init_189 : decode cX16_init 189 = .ok (.aload_n 0, 1) := by decide +kernel
theorem dX16_init_190 : decode cX16_init 190 = .ok (.bipush 64, 2) := by decide +kernel
theorem dX16_init_192 : decode cX16_init 192 = .ok (.newarray .int, 2) := by decide +kernel
theorem dX16_init_194 : decode cX16_init 194 = .ok (.putfield 425, 3) := by decide +kernel
theorem dX16_init_197 : decode cX16_init 197 = .ok (.aload_n 0, 1) := by decide +kernel
theorem dX16_init_198 : decode cX16_init 198 = .ok (.bipush 64, 2) := by decide +kernel
theorem dX16_init_200 : decode cX16_init 200 = .ok (.newarray .boolean, 2) := by decide +kernel
theorem dX16_init_202 : decode cX16_init 202 = .ok (.putfield 428, 3) := by decide +kernel
theorem dX16_init_205 : decode cX16_init 205 = .ok (.aload_n 0, 1) := by decide +kernel
theorem dX16_init_206 : decode cX16_init 206 = .ok (.bipush 64, 2) := by decide +kernel
theorem dX16_init_208 : decode cX16_init 208 = .ok (.newarray .int, 2) := by decide +kernel
theorem dX16_init_210 : decode cX16_init 210 = .ok (.putfield 432, 3) := by decide +kernel
theorem dX16_init_213 : decode cX16_init 213 = .ok (.aload_n 0, 1) := by decide +kernel
theorem dX16_init_214 : decode cX16_init 214 = .ok (.bipush 64, 2) := by decide +kernel
theorem dX16_init_216 : decode cX16_init 216 = .ok (.newarray .int, 2) := by decide +kernel
theorem dX16_init_218 : decode cX16_init 218 = .ok (.putfield 435, 3) := by decide +kernel
theorem dX16_init_221 : decode cX16_init 221 = .ok (.aload_n 0, 1) := by decide +kernel
theorem dX16_init_222 : decode cX16_init 222 = .ok (.bipush 64, 2) := by decide +kernel
theorem dX16_init_224 : decode cX16_init 224 = .ok (.newarray .int, 2) := by decide +kernel
theorem dX16_init_226 : decode cX16_init 226 = .ok (.putfield 438, 3) := by decide +kernel
theorem dX16_init_229 : decode cX16_init 229 = .ok (.aload_n 0, 1) := by decide +kernel
theorem dX16_init_230 : decode cX16_init 230 = .ok (.bipush 64, 2) := by decide +kernel
theorem dX16_init_232 : decode cX16_init 232 = .ok (.newarray .int, 2) := by decide +kernel
theorem dX16_init_234 : decode cX16_init 234 = .ok (.putfield 441, 3) := by decide +kernel
theorem dX16_init_237 : decode cX16_init 237 = .ok (.aload_n 0, 1) := by decide +kernel
theorem dX16_init_238 : decode cX16_init 238 = .ok (.bipush 32, 2) := by decide +kernel
theorem dX16_init_240 : decode cX16_init 240 = .ok (.newarray .long, 2) := by decide +kernel
theorem dX16_init_242 : decode cX16_init 242 = .ok (.putfield 444, 3) := by decide +kernel
theorem dX16_init_245 : decode cX16_init 245 = .ok (.aload_n 0, 1) := by decide +kernel
theorem dX16_init_246 : decode cX16_init 246 = .ok (.sipush 1100, 3) := by decide +kernel
theorem dX16_init_249 : decode cX16_init 249 = .ok (.newarray .int, 2) := by decide +kernel
theorem dX16_init_251 : decode cX16_init 251 = .ok (.putfield 368, 3) := by decide +kernel
theorem dX16_init_254 : decode cX16_init 254 = .ok (.aload_n 0, 1) := by decide +kernel
theorem dX16_init_255 : decode cX16_init 255 = .ok (.sipush 1100, 3) := by decide +kernel
theorem dX16_init_258 : decode cX16_init 258 = .ok (.newarray .int, 2) := by decide +kernel
theorem dX16_init_260 : decode cX16_init 260 = .ok (.putfield 374, 3) := by decide +kernel
theorem dX16_init_263 : decode cX16_init 263 = .ok (.aload_n 0, 1) := by decide +kernel
theorem dX16_init_264 : decode cX16_init 264 = .ok (.sipush 1100, 3) := by decide +kernel
theorem dX16_init_267 : decode cX16_init 267 = .ok (.newarray .int, 2) := by decide +kernel
theorem dX16_init_269 : decode cX16_init 269 = .ok (.putfield 377, 3) := by decide +kernel
theorem dX16_init_272 : decode cX16_init 272 = .ok (.aload_n 0, 1) := by decide +kernel
theorem dX16_init_273 : decode cX16_init 273 = .ok (.sipush 1100, 3) := by decide +kernel
theorem dX16_init_276 : decode cX16_init 276 = .ok (.newarray .int, 2) := by decide +kernel
theorem dX16_init_278 : decode cX16_init 278 = .ok (.putfield 447, 3) := by decide +kernel
theorem dX16_init_281 : decode cX16_init 281 = .ok (.aload_n 0, 1) := by decide +kernel
theorem dX16_init_282 : decode cX16_init 282 = .ok (.sipush 1100, 3) := by decide +kernel
theorem dX16_init_285 : decode cX16_init 285 = .ok (.newarray .int, 2) := by decide +kernel
theorem dX16_init_287 : decode cX16_init 287 = .ok (.putfield 450, 3) := by decide +kernel
theorem dX16_init_290 : decode cX16_init 290 = .ok (.aload_n 0, 1) := by decide +kernel
theorem dX16_init_291 : decode cX16_init 291 = .ok (.sipush 1100, 3) := by decide +kernel
theorem dX16_init_294 : decode cX16_init 294 = .ok (.newarray .long, 2) := by decide +kernel
theorem dX16_init_296 : decode cX16_init 296 = .ok (.putfield 453, 3) := by decide +kernel
theorem dX16_init_299 : decode cX16_init 299 = .ok (.aload_n 0, 1) := by decide +kernel
theorem dX16_init_300 : decode cX16_init 300 = .ok (.sipush 1100, 3) := by decide +kernel
theorem dX16_init_303 : decode cX16_init 303 = .ok (.newarray .boolean, 2) := by decide +kernel
theorem dX16_init_305 : decode cX16_init 305 = .ok (.putfield 456, 3) := by decide +kernel
theorem dX16_init_308 : decode cX16_init 308 = .ok (.aload_n 0, 1) := by decide +kernel
theorem dX16_init_309 : decode cX16_init 309 = .ok (.sipush 1100, 3) := by decide +kernel
theorem dX16_init_312 : decode cX16_init 312 = .ok (.newarray .long, 2) := by decide +kernel
theorem dX16_init_314 : decode cX16_init 314 = .ok (.putfield 459, 3) := by decide +kernel
theorem dX16_init_317 : decode cX16_init 317 = .ok (.aload_n 0, 1) := by decide +kernel
theorem dX16_init_318 : decode cX16_init 318 = .ok (.sipush 8800, 3) := by decide +kernel
theorem dX16_init_321 : decode cX16_init 321 = .ok (.newarray .int, 2) := by decide +kernel
theorem dX16_init_323 : decode cX16_init 323 = .ok (.putfield 492, 3) := by decide +kernel
theorem dX16_init_326 : decode cX16_init 326 = .ok (.aload_n 0, 1) := by decide +kernel
theorem dX16_init_327 : decode cX16_init 327 = .ok (.sipush 12802, 3) := by decide +kernel
theorem dX16_init_330 : decode cX16_init 330 = .ok (.newarray .int, 2) := by decide +kernel
theorem dX16_init_332 : decode cX16_init 332 = .ok (.putfield 467, 3) := by decide +kernel
theorem dX16_init_335 : decode cX16_init 335 = .ok (.aload_n 0, 1) := by decide +kernel
theorem dX16_init_336 : decode cX16_init 336 = .ok (.sipush 12802, 3) := by decide +kernel
theorem dX16_init_339 : decode cX16_init 339 = .ok (.newarray .long, 2) := by decide +kernel
theorem dX16_init_341 : decode cX16_init 341 = .ok (.putfield 470, 3) := by decide +kernel
theorem dX16_init_344 : decode cX16_init 344 = .ok (.aload_n 0, 1) := by decide +kernel
theorem dX16_init_345 : decode cX16_init 345 = .ok (.ldc_w 962, 3) := by decide +kernel
theorem dX16_init_348 : decode cX16_init 348 = .ok (.newarray .long, 2) := by decide +kernel
theorem dX16_init_350 : decode cX16_init 350 = .ok (.putfield 473, 3) := by decide +kernel
theorem dX16_init_353 : decode cX16_init 353 = .ok (.aload_n 0, 1) := by decide +kernel
theorem dX16_init_354 : decode cX16_init 354 = .ok (.sipush 12802, 3) := by decide +kernel
theorem dX16_init_357 : decode cX16_init 357 = .ok (.newarray .int, 2) := by decide +kernel
theorem dX16_init_359 : decode cX16_init 359 = .ok (.putfield 476, 3) := by decide +kernel
theorem dX16_init_362 : decode cX16_init 362 = .ok (.aload_n 0, 1) := by decide +kernel
theorem dX16_init_363 : decode cX16_init 363 = .ok (.sipush 12802, 3) := by decide +kernel
theorem dX16_init_366 : decode cX16_init 366 = .ok (.newarray .int, 2) := by decide +kernel
theorem dX16_init_368 : decode cX16_init 368 = .ok (.putfield 479, 3) := by decide +kernel
theorem dX16_init_371 : decode cX16_init 371 = .ok (.aload_n 0, 1) := by decide +kernel
theorem dX16_init_372 : decode cX16_init 372 = .ok (.sipush 12802, 3) := by decide +kernel
theorem dX16_init_375 : decode cX16_init 375 = .ok (.newarray .int, 2) := by decide +kernel
theorem dX16_init_377 : decode cX16_init 377 = .ok (.putfield 405, 3) := by decide +kernel
theorem dX16_init_380 : decode cX16_init 380 = .ok (.aload_n 0, 1) := by decide +kernel
theorem dX16_init_381 : decode cX16_init 381 = .ok (.sipush 4000, 3) := by decide +kernel
theorem dX16_init_384 : decode cX16_init 384 = .ok (.newarray .int, 2) := by decide +kernel
theorem dX16_init_386 : decode cX16_init 386 = .ok (.putfield 513, 3) := by decide +kernel
theorem dX16_init_389 : decode cX16_init 389 = .ok (.aload_n 0, 1) := by decide +kernel
theorem dX16_init_390 : decode cX16_init 390 = .ok (.sipush 4000, 3) := by decide +kernel
theorem dX16_init_393 : decode cX16_init 393 = .ok (.newarray .int, 2) := by decide +kernel
theorem dX16_init_395 : decode cX16_init 395 = .ok (.putfield 516, 3) := by decide +kernel
theorem dX16_init_398 : decode cX16_init 398 = .ok (.aload_n 0, 1) := by decide +kernel
theorem dX16_init_399 : decode cX16_init 399 = .ok (.sipush 4000, 3) := by decide +kernel
theorem dX16_init_402 : decode cX16_init 402 = .ok (.newarray .long, 2) := by decide +kernel
theorem dX16_init_404 : decode cX16_init 404 = .ok (.putfield 519, 3) := by decide +kernel
theorem dX16_init_407 : decode cX16_init 407 = .ok (.aload_n 0, 1) := by decide +kernel
theorem dX16_init_408 : decode cX16_init 408 = .ok (.sipush 4000, 3) := by decide +kernel
theorem dX16_init_411 : decode cX16_init 411 = .ok (.newarray .long, 2) := by decide +kernel
theorem dX16_init_413 : decode cX16_init 413 = .ok (.putfield 522, 3) := by decide +kernel
theorem dX16_init_416 : decode cX16_init 416 = .ok (.aload_n 0, 1) := by decide +kernel
theorem dX16_init_417 : decode cX16_init 417 = .ok (.sipush 4000, 3) := by decide +kernel
theorem dX16_init_420 : decode cX16_init 420 = .ok (.newarray .long, 2) := by decide +kernel
theorem dX16_init_422 : decode cX16_init 422 = .ok (.putfield 525, 3) := by decide +kernel
theorem dX16_init_425 : decode cX16_init 425 = .ok (.aload_n 0, 1) := by decide +kernel
theorem dX16_init_426 : decode cX16_init 426 = .ok (.sipush 32000, 3) := by decide +kernel
theorem dX16_init_429 : decode cX16_init 429 = .ok (.newarray .long, 2) := by decide +kernel
theorem dX16_init_431 : decode cX16_init 431 = .ok (.putfield 528, 3) := by decide +kernel
theorem dX16_init_434 : decode cX16_init 434 = .ok (.aload_n 0, 1) := by decide +kernel
theorem dX16_init_435 : decode cX16_init 435 = .ok (.sipush 4000, 3) := by decide +kernel
theorem dX16_init_438 : decode cX16_init 438 = .ok (.newarray .int, 2) := by decide +kernel
theorem dX16_init_440 : decode cX16_init 440 = .ok (.putfield 531, 3) := by decide +kernel
theorem dX16_init_443 : decode cX16_init 443 = .ok (.aload_n 0, 1) := by decide +kernel
theorem dX16_init_444 : decode cX16_init 444 = .ok (.sipush 4000, 3) := by decide +kernel
theorem dX16_init_447 : decode cX16_init 447 = .ok (.newarray .int, 2) := by decide +kernel
theorem dX16_init_449 : decode cX16_init 449 = .ok (.putfield 495, 3) := by decide +kernel
theorem dX16_init_452 : decode cX16_init 452 = .ok (.aload_n 0, 1) := by decide +kernel
theorem dX16_init_453 : decode cX16_init 453 = .ok (.bipush 64, 2) := by decide +kernel
theorem dX16_init_455 : decode cX16_init 455 = .ok (.newarray .int, 2) := by decide +kernel
theorem dX16_init_457 : decode cX16_init 457 = .ok (.putfield 504, 3) := by decide +kernel
theorem dX16_init_460 : decode cX16_init 460 = .ok (.aload_n 0, 1) := by decide +kernel
theorem dX16_init_461 : decode cX16_init 461 = .ok (.bipush 64, 2) := by decide +kernel
theorem dX16_init_463 : decode cX16_init 463 = .ok (.newarray .int, 2) := by decide +kernel
theorem dX16_init_465 : decode cX16_init 465 = .ok (.putfield 507, 3) := by decide +kernel
theorem dX16_init_468 : decode cX16_init 468 = .ok (.aload_n 0, 1) := by decide +kernel
theorem dX16_init_469 : decode cX16_init 469 = .ok (.bipush 64, 2) := by decide +kernel
theorem dX16_init_471 : decode cX16_init 471 = .ok (.newarray .int, 2) := by decide +kernel
theorem dX16_init_473 : decode cX16_init 473 = .ok (.putfield 510, 3) := by decide +kernel
theorem dX16_init_476 : decode cX16_init 476 = .ok (.aload_n 0, 1) := by decide +kernel
theorem dX16_init_477 : decode cX16_init 477 = .ok (.bipush 8, 2) := by decide +kernel
theorem dX16_init_479 : decode cX16_init 479 = .ok (.newarray .long, 2) := by decide +kernel
theorem dX16_init_481 : decode cX16_init 481 = .ok (.putfield 542, 3) := by decide +kernel
theorem dX16_init_484 : decode cX16_init 484 = .ok (.aload_n 0, 1) := by decide +kernel
theorem dX16_init_485 : decode cX16_init 485 = .ok (.bipush 16, 2) := by decide +kernel
theorem dX16_init_487 : decode cX16_init 487 = .ok (.newarray .long, 2) := by decide +kernel
theorem dX16_init_489 : decode cX16_init 489 = .ok (.putfield 578, 3) := by decide +kernel
theorem dX16_init_492 : decode cX16_init 492 = .ok (.aload_n 0, 1) := by decide +kernel
theorem dX16_init_493 : decode cX16_init 493 = .ok (.sipush 2000, 3) := by decide +kernel
theorem dX16_init_496 : decode cX16_init 496 = .ok (.newarray .long, 2) := by decide +kernel
theorem dX16_init_498 : decode cX16_init 498 = .ok (.putfield 670, 3) := by decide +kernel
theorem dX16_init_501 : decode cX16_init 501 = .ok (.aload_n 0, 1) := by decide +kernel
theorem dX16_init_502 : decode cX16_init 502 = .ok (.sipush 16000, 3) := by decide +kernel
theorem dX16_init_505 : decode cX16_init 505 = .ok (.newarray .long, 2) := by decide +kernel
theorem dX16_init_507 : decode cX16_init 507 = .ok (.putfield 673, 3) := by decide +kernel
theorem dX16_init_510 : decode cX16_init 510 = .ok (.aload_n 0, 1) := by decide +kernel
theorem dX16_init_511 : decode cX16_init 511 = .ok (.sipush 2000, 3) := by decide +kernel
theorem dX16_init_514 : decode cX16_init 514 = .ok (.newarray .int, 2) := by decide +kernel
theorem dX16_init_516 : decode cX16_init 516 = .ok (.putfield 676, 3) := by decide +kernel
theorem dX16_init_519 : decode cX16_init 519 = .ok (.aload_n 0, 1) := by decide +kernel
theorem dX16_init_520 : decode cX16_init 520 = .ok (.sipush 2000, 3) := by decide +kernel
theorem dX16_init_523 : decode cX16_init 523 = .ok (.newarray .int, 2) := by decide +kernel
theorem dX16_init_525 : decode cX16_init 525 = .ok (.putfield 652, 3) := by decide +kernel
theorem dX16_init_528 : decode cX16_init 528 = .ok (.aload_n 0, 1) := by decide +kernel
theorem dX16_init_529 : decode cX16_init 529 = .ok (.bipush 12, 2) := by decide +kernel
theorem dX16_init_531 : decode cX16_init 531 = .ok (.newarray .int, 2) := by decide +kernel
theorem dX16_init_533 : decode cX16_init 533 = .ok (.putfield 661, 3) := by decide +kernel
theorem dX16_init_536 : decode cX16_init 536 = .ok (.aload_n 0, 1) := by decide +kernel
theorem dX16_init_537 : decode cX16_init 537 = .ok (.bipush 12, 2) := by decide +kernel
theorem dX16_init_539 : decode cX16_init 539 = .ok (.newarray .int, 2) := by decide +kernel
theorem dX16_init_541 : decode cX16_init 541 = .ok (.putfield 664, 3) := by decide +kernel
theorem dX16_init_544 : decode cX16_init 544 = .ok (.aload_n 0, 1) := by decide +kernel
theorem dX16_init_545 : decode cX16_init 545 = .ok (.bipush 12, 2) := by decide +kernel
theorem dX16_init_547 : decode cX16_init 547 = .ok (.newarray .int, 2) := by decide +kernel
theorem dX16_init_549 : decode cX16_init 549 = .ok (.putfield 667, 3) := by decide +kernel
theorem dX16_init_552 : decode cX16_init 552 = .ok (.aload_n 0, 1) := by decide +kernel
theorem dX16_init_553 : decode cX16_init 553 = .ok (.iconst (-1), 1) := by decide +kernel
theorem dX16_init_554 : decode cX16_init 554 = .ok (.putfield 685, 3) := by decide +kernel
theorem dX16_init_557 : decode cX16_init 557 = .ok (.aload_n 0, 1) := by decide +kernel
theorem dX16_init_558 : decode cX16_init 558 = .ok (.iconst 2, 1) := by decide +kernel
theorem dX16_init_559 : decode cX16_init 559 = .ok (.newarray .int, 2) := by decide +kernel
theorem dX16_init_561 : decode cX16_init 561 = .ok (.putfield 748, 3) := by decide +kernel
theorem dX16_init_564 : decode cX16_init 564 = .ok (.aload_n 0, 1) := by decide +kernel
theorem dX16_init_565 : decode cX16_init 565 = .ok (.iconst 2, 1) := by decide +kernel
theorem dX16_init_566 : decode cX16_init 566 = .ok (.newarray .int, 2) := by decide +kernel
theorem dX16_init_568 : decode cX16_init 568 = .ok (.putfield 703, 3) := by decide +kernel
theorem dX16_init_571 : decode cX16_init 571 = .ok (.aload_n 0, 1) := by decide +kernel
theorem dX16_init_572 : decode cX16_init 572 = .ok (.sipush 8000, 3) := by decide +kernel
theorem dX16_init_575 : decode cX16_init 575 = .ok (.newarray .int, 2) := by decide +kernel
theorem dX16_init_577 : decode cX16_init 577 = .ok (.putfield 706, 3) := by decide +kernel
theorem dX16_init_580 : decode cX16_init 580 = .ok (.aload_n 0, 1) := by decide +kernel
theorem dX16_init_581 : decode cX16_init 581 = .ok (.sipush 8000, 3) := by decide +kernel
theorem dX16_init_584 : decode cX16_init 584 = .ok (.newarray .int, 2) := by decide +kernel
theorem dX16_init_586 : decode cX16_init 586 = .ok (.putfield 709, 3) := by decide +kernel
theorem dX16_init_589 : decode cX16_init 589 = .ok (.aload_n 0, 1) := by decide +kernel
theorem dX16_init_590 : decode cX16_init 590 = .ok (.sipush 8000, 3) := by decide +kernel
theorem dX16_init_593 : decode cX16_init 593 = .ok (.newarray .int, 2) := by decide +kernel
theorem dX16_init_595 : decode cX16_init 595 = .ok (.putfield 712, 3) := by decide +kernel
theorem dX16_init_598 : decode cX16_init 598 = .ok (.aload_n 0, 1) := by decide +kernel
theorem dX16_init_599 : decode cX16_init 599 = .ok (.sipush 8000, 3) := by decide +kernel
theorem dX16_init_602 : decode cX16_init 602 = .ok (.newarray .long, 2) := by decide +kernel
theorem dX16_init_604 : decode cX16_init 604 = .ok (.putfield 715, 3) := by decide +kernel
theorem dX16_init_607 : decode cX16_init 607 = .ok (.aload_n 0, 1) := by decide +kernel
theorem dX16_init_608 : decode cX16_init 608 = .ok (.sipush 8000, 3) := by decide +kernel
theorem dX16_init_611 : decode cX16_init 611 = .ok (.newarray .long, 2) := by decide +kernel
theorem dX16_init_613 : decode cX16_init 613 = .ok (.putfield 718, 3) := by decide +kernel
theorem dX16_init_616 : decode cX16_init 616 = .ok (.aload_n 0, 1) := by decide +kernel
theorem dX16_init_617 : decode cX16_init 617 = .ok (.sipush 8000, 3) := by decide +kernel
theorem dX16_init_620 : decode cX16_init 620 = .ok (.newarray .long, 2) := by decide +kernel
theorem dX16_init_622 : decode cX16_init 622 = .ok (.putfield 721, 3) := by decide +kernel
theorem dX16_init_625 : decode cX16_init 625 = .ok (.aload_n 0, 1) := by decide +kernel
theorem dX16_init_626 : decode cX16_init 626 = .ok (.ldc_w 963, 3) := by decide +kernel
theorem dX16_init_629 : decode cX16_init 629 = .ok (.newarray .long, 2) := by decide +kernel
theorem dX16_init_631 : decode cX16_init 631 = .ok (.putfield 727, 3) := by decide +kernel
theorem dX16_init_634 : decode cX16_init 634 = .ok (.aload_n 0, 1) := by decide +kernel
theorem dX16_init_635 : decode cX16_init 635 = .ok (.sipush 8000, 3) := by decide +kernel
theorem dX16_init_638 : decode cX16_init 638 = .ok (.newarray .int, 2) := by decide +kernel
theorem dX16_init_640 : decode cX16_init 640 = .ok (.putfield 724, 3) := by decide +kernel
theorem dX16_init_643 : decode cX16_init 643 = .ok (.aload_n 0, 1) := by decide +kernel
theorem dX16_init_644 : decode cX16_init 644 = .ok (.sipush 128, 3) := by decide +kernel
theorem dX16_init_647 : decode cX16_init 647 = .ok (.newarray .int, 2) := by decide +kernel
theorem dX16_init_649 : decode cX16_init 649 = .ok (.putfield 694, 3) := by decide +kernel
theorem dX16_init_652 : decode cX16_init 652 = .ok (.aload_n 0, 1) := by decide +kernel
theorem dX16_init_653 : decode cX16_init 653 = .ok (.sipush 128, 3) := by decide +kernel
theorem dX16_init_656 : decode cX16_init 656 = .ok (.newarray .int, 2) := by decide +kernel
theorem dX16_init_658 : decode cX16_init 658 = .ok (.putfield 697, 3) := by decide +kernel
theorem dX16_init_661 : decode cX16_init 661 = .ok (.aload_n 0, 1) := by decide +kernel
theorem dX16_init_662 : decode cX16_init 662 = .ok (.sipush 128, 3) := by decide +kernel
theorem dX16_init_665 : decode cX16_init 665 = .ok (.newarray .long, 2) := by decide +kernel
theorem dX16_init_667 : decode cX16_init 667 = .ok (.putfield 700, 3) := by decide +kernel
theorem dX16_init_670 : decode cX16_init 670 = .ok (.aload_n 0, 1) := by decide +kernel
theorem dX16_init_671 : decode cX16_init 671 = .ok (.sipush 4000, 3) := by decide +kernel
theorem dX16_init_674 : decode cX16_init 674 = .ok (.newarray .int, 2) := by decide +kernel
theorem dX16_init_676 : decode cX16_init 676 = .ok (.putfield 964, 3) := by decide +kernel
theorem dX16_init_679 : decode cX16_init 679 = .ok (.aload_n 0, 1) := by decide +kernel
theorem dX16_init_680 : decode cX16_init 680 = .ok (.sipush 4000, 3) := by decide +kernel
theorem dX16_init_683 : decode cX16_init 683 = .ok (.newarray .long, 2) := by decide +kernel
theorem dX16_init_685 : decode cX16_init 685 = .ok (.putfield 864, 3) := by decide +kernel
theorem dX16_init_688 : decode cX16_init 688 = .ok (.aload_n 0, 1) := by decide +kernel
theorem dX16_init_689 : decode cX16_init 689 = .ok (.sipush 32000, 3) := by decide +kernel
theorem dX16_init_692 : decode cX16_init 692 = .ok (.newarray .long, 2) := by decide +kernel
theorem dX16_init_694 : decode cX16_init 694 = .ok (.putfield 867, 3) := by decide +kernel
theorem dX16_init_697 : decode cX16_init 697 = .ok (.aload_n 0, 1) := by decide +kernel
theorem dX16_init_698 : decode cX16_init 698 = .ok (.bipush 17, 2) := by decide +kernel
theorem dX16_init_700 : decode cX16_init 700 = .ok (.newarray .int, 2) := by decide +kernel
theorem dX16_init_702 : decode cX16_init 702 = .ok (.putfield 874, 3) := by decide +kernel
theorem dX16_init_705 : decode cX16_init 705 = .ok (.aload_n 0, 1) := by decide +kernel
theorem dX16_init_706 : decode cX16_init 706 = .ok (.sipush 4000, 3) := by decide +kernel
theorem dX16_init_709 : decode cX16_init 709 = .ok (.newarray .int, 2) := by decide +kernel
theorem dX16_init_711 : decode cX16_init 711 = .ok (.putfield 877, 3) := by decide +kernel
theorem dX16_init_714 : decode cX16_init 714 = .ok (.aload_n 0, 1) := by decide +kernel
theorem dX16_init_715 : decode cX16_init 715 = .ok (.sipush 4000, 3) := by decide +kernel
theorem dX16_init_718 : decode cX16_init 718 = .ok (.newarray .boolean, 2) := by decide +kernel
theorem dX16_init_720 : decode cX16_init 720 = .ok (.putfield 897, 3) := by decide +kernel
theorem dX16_init_723 : decode cX16_init 723 = .ok (.aload_n 0, 1) := by decide +kernel
theorem dX16_init_724 : decode cX16_init 724 = .ok (.sipush 4000, 3) := by decide +kernel
theorem dX16_init_727 : decode cX16_init 727 = .ok (.newarray .long, 2) := by decide +kernel
theorem dX16_init_729 : decode cX16_init 729 = .ok (.putfield 907, 3) := by decide +kernel
theorem dX16_init_732 : decode cX16_init 732 = .ok (.aload_n 0, 1) := by decide +kernel
theorem dX16_init_733 : decode cX16_init 733 = .ok (.sipush 4000, 3) := by decide +kernel
theorem dX16_init_736 : decode cX16_init 736 = .ok (.newarray .int, 2) := by decide +kernel
theorem dX16_init_738 : decode cX16_init 738 = .ok (.putfield 910, 3) := by decide +kernel
theorem dN_new {d : List Rc} {k n : Nat} : (dN d k n)[d.length]? = some (rN k n) := by unfold dN; rw [List.getElem?_append_right (Nat.le_refl _), Nat.sub_self]; rfl
section MRW
variable {p : Program} {l : Launch} {e : Env} {R : Room} {s : State} {m : MethodId} {args : Array Value} {below : List Frame} {meth : Method} {c : Code} {cc : ByteArray} {nL : Nat} {own : String} {D : va_G} {cA : Nat → ClassId} {tys : List (ClassId × FieldType)} {A : Nat → Prop} {n0 s0 : Nat} {Q : State → Prop} {σ : Sg} {pc : Nat} {lo : List (Nat × Value)} {ls : Array Slot} {H : Heap} {locs : List Loc} {rest : List Value} {Qn : Sg → Option Value → Prop} {Qx : Sg → String → Prop} {y : MethodName} {bytes : ByteArray} {maxL fr lw index : Nat} {ret : Option FieldType}
variable {d : List Rc} {c9 s9 i j th ci : Nat}
theorem pt_Z (B : Cx p s m args c cc nL own D cA tys A) (X : ST σ d c9 s9 i th ci) {C : String} {T : u_T} {N k index : Nat} {ref : String} (hz : (d[i]?).bind (fun r => rP r k) = none) (hci : ci < 100) (hcl : vwCl[ci]? = some (C, T, N)) (hin : ∀ w ∈ u_ws C T N, w ∈ WAL) (ty0 : Nat → FieldType) (hty0 : ∀ k, k < N → parseFieldDescriptor (T k).2.2.1 = some (ty0 k)) (hnm : ∀ a, a < N → ∀ b, b < N → a ≠ b → (T a).2.1 ≠ (T b).2.1) (hkN : k < N) (hlink : Cond.fieldLink own index ref (T k).2.1 (T k).2.2.1 ∈ WAL) (hsame : ref = (T k).1) {ty : FieldType} (hfin : (T k).2.2.2 = false) (hty : fty (T k).2.2.1 = 2) (hds : parseFieldDescriptor (T k).2.2.1 = some ty) (hn : narrow ty (va_rf none) = va_rf none) (hfit : fits ty (va_rf none) = true) (hd : decode cc pc = .ok (.putfield index, 3)) (hH : Hd D cA A s σ H locs) (hc : CB n0 s0 σ)
    (h : ∀ (σ1 : Sg) (H1 : Heap) (locs1 : List Loc), ST σ1 d c9 s9 i th ci → Hd D cA A s σ1 H1 locs1 → CB n0 s0 σ1 → W p l e R s m args below meth c H1 locs1 (gc σ1 - n0) (gs σ1 - s0) Q (F0 m (pc + 3) ls rest)) : W p l e R s m args below meth c H locs (gc σ - n0) (gs σ - s0) Q (F0 m pc ls (.null :: .ref th :: rest)) := by
  obtain ⟨X1, X2, X3, X4, X5⟩ := X
  refine f_putp B hH X5 hci hcl hin ty0 hty0 hnm k hkN hlink hsame (r := none) hfin hty hds hn hfit hd (fun H1 locs1 hH1 => ?_)
  have eP : pP σ th k none = σ := by
    have e : up2 (gP σ) th k none = gP σ := by
      funext b j
      by_cases w : b = th ∧ j = k
      · rw [w.1, w.2, up2_s]
        obtain ⟨r, hr⟩ : ∃ r, d[i]? = some r := ⟨_, List.getElem?_eq_getElem (by rw [← X1.1]; exact get_lt X4)⟩
        rw [hr] at hz
        have hz : rP r k = none := hz
        rw [(X1.at X4 hr).2.2.2.2 k, hz]; rfl
      · exact up2_n _ _ w
    show ((σ.1, σ.2.1, σ.2.2.1, σ.2.2.2.1, σ.2.2.2.2.1, up2 (gP σ) th k none) : Sg) = σ
    rw [e]
  rw [eP] at hH1
  exact h σ H1 locs1 ⟨X1, X2, X3, X4, X5⟩ hH1 hc
theorem pt_I (B : Cx p s m args c cc nL own D cA tys A) (X : ST σ d c9 s9 i th ci) {C : String} {T : u_T} {N k index : Nat} {ref : String} {x : Int} (hci : ci < 100) (hcl : vwCl[ci]? = some (C, T, N)) (hin : ∀ w ∈ u_ws C T N, w ∈ WAL) (ty0 : Nat → FieldType) (hty0 : ∀ k, k < N → parseFieldDescriptor (T k).2.2.1 = some (ty0 k)) (hnm : ∀ a, a < N → ∀ b, b < N → a ≠ b → (T a).2.1 ≠ (T b).2.1) (hkN : k < N) (hlink : Cond.fieldLink own index ref (T k).2.1 (T k).2.2.1 ∈ WAL) (hsame : ref = (T k).1) {ty : FieldType} (hfin : (T k).2.2.2 = false) (hty : fty (T k).2.2.1 = 0) (hds : parseFieldDescriptor (T k).2.2.1 = some ty) (hn : narrow ty (.int (i32 x)) = .int (i32 x)) (hfit : fits ty (.int (i32 x)) = true) (hx : rng x) (hd : decode cc pc = .ok (.putfield index, 3)) (hH : Hd D cA A s σ H locs) (hc : CB n0 s0 σ)
    (h : ∀ (σ1 : Sg) (H1 : Heap) (locs1 : List Loc), ST σ1 (dU d i (uI k x)) c9 s9 i th ci → Hd D cA A s σ1 H1 locs1 → CB n0 s0 σ1 → W p l e R s m args below meth c H1 locs1 (gc σ1 - n0) (gs σ1 - s0) Q (F0 m (pc + 3) ls rest)) : W p l e R s m args below meth c H locs (gc σ - n0) (gs σ - s0) Q (F0 m pc ls (.int (i32 x) :: .ref th :: rest)) := by
  obtain ⟨X1, X2, X3, X4, X5⟩ := X
  refine f_puti B hH X5 hci hcl hin ty0 hty0 hnm k hkN hlink hsame hfin hty hds hn hfit hd (fun H1 locs1 hH1 => ?_)
  exact h (pI σ th k x) H1 locs1 ⟨X1.pI rfl X4, X2.pI X5.1, X3.pI hx, X4, X5⟩ hH1 hc
theorem fl_13 {q : Nat} (R9 : Rep σ d c9 s9) (hq : (gD σ)[j]? = some q) (hr : d[j]? = some (rN 13 6)) : flds σ q (RX13, TX13, 6) = [.null, .null, .null, .null, .null, .int 0] := by
  have o := R9.at hq hr
  have hP : ∀ k, gP σ q k = none := fun k => by rw [o.2.2.2.2 k]; rfl
  have hI : ∀ k, gI σ q k = 0 := fun k => by rw [o.2.2.1 k]; rfl
  have e : ∀ k, fval σ q k 2 = .null := fun k => by show va_rf (gP σ q k) = _; rw [hP]; rfl
  have e0 : fval σ q 5 0 = .int 0 := by show Value.int (i32 (gI σ q 5)) = _; rw [hI]; rfl
  show [fval σ q 0 2, fval σ q 1 2, fval σ q 2 2, fval σ q 3 2, fval σ q 4 2, fval σ q 5 0] = _
  rw [e, e, e, e, e, e0]
theorem fl_14 {q : Nat} (R9 : Rep σ d c9 s9) (hq : (gD σ)[j]? = some q) (hr : d[j]? = some (rN 14 6)) : flds σ q (RX14, TX14, 6) = [.null, .null, .null, .null, .null, .int 0] := by
  have o := R9.at hq hr
  have hP : ∀ k, gP σ q k = none := fun k => by rw [o.2.2.2.2 k]; rfl
  have hI : ∀ k, gI σ q k = 0 := fun k => by rw [o.2.2.1 k]; rfl
  have e : ∀ k, fval σ q k 2 = .null := fun k => by show va_rf (gP σ q k) = _; rw [hP]; rfl
  have e0 : fval σ q 5 0 = .int 0 := by show Value.int (i32 (gI σ q 5)) = _; rw [hI]; rfl
  show [fval σ q 0 2, fval σ q 1 2, fval σ q 2 2, fval σ q 3 2, fval σ q 4 2, fval σ q 5 0] = _
  rw [e, e, e, e, e, e0]
end MRW

def mr_0 : List Rc := [rN 16 123]
def mr_1 : List Rc := dU (dN mr_0 14 6) 0 (uP 1 1)
def mr_2 : List Rc := dU (dN mr_1 102 1500) 0 (uP 2 2)
def mr_3 : List Rc := dU (dN mr_2 101 23) 0 (uP 14 3)
def mr_4 : List Rc := dU (jr_16 (dN mr_3 15 20) 4 0) 0 (uP 15 4)
def mr_5 : List Rc := dU (jr_16 (dN mr_4 15 20) 21 0) 0 (uP 16 21)
def mr_6 : List Rc := dU mr_5 0 (uP 18 4)
def mr_7 : List Rc := dU (dN mr_6 101 1600) 0 (uP 20 38)
def mr_8 : List Rc := dU (dN mr_7 100 4) 0 (uP 22 39)
def mr_9 : List Rc := dU (dN mr_8 101 256) 0 (uP 23 40)
def mr_10 : List Rc := dU (dN mr_9 101 1024) 0 (uP 24 41)
def mr_11 : List Rc := dU (dN mr_10 103 4) 0 (uP 25 42)
def mr_12 : List Rc := dU (dN mr_11 101 120000) 0 (uP 26 43)
def mr_13 : List Rc := dU (dN mr_12 13 6) 0 (uP 28 44)
def mr_14 : List Rc := dU (dN mr_13 13 6) 0 (uP 29 45)
def mr_15 : List Rc := dU (dN mr_14 100 17) 0 (uP 37 46)
def mr_16 : List Rc := dU (dN mr_15 100 64) 0 (uP 38 47)
def mr_17 : List Rc := dU (dN mr_16 100 64) 0 (uP 39 48)
def mr_18 : List Rc := dU (dN mr_17 101 64) 0 (uP 40 49)
def mr_19 : List Rc := dU (dN mr_18 100 64) 0 (uP 41 50)
def mr_20 : List Rc := dU (dN mr_19 100 64) 0 (uP 42 51)
def mr_21 : List Rc := dU (dN mr_20 100 64) 0 (uP 43 52)
def mr_22 : List Rc := dU (dN mr_21 103 64) 0 (uP 44 53)
def mr_23 : List Rc := dU (dN mr_22 100 64) 0 (uP 45 54)
def mr_24 : List Rc := dU (dN mr_23 100 64) 0 (uP 46 55)
def mr_25 : List Rc := dU (dN mr_24 100 64) 0 (uP 47 56)
def mr_26 : List Rc := dU (dN mr_25 100 64) 0 (uP 48 57)
def mr_27 : List Rc := dU (dN mr_26 101 32) 0 (uP 49 58)
def mr_28 : List Rc := dU (dN mr_27 100 1100) 0 (uP 51 59)
def mr_29 : List Rc := dU (dN mr_28 100 1100) 0 (uP 52 60)
def mr_30 : List Rc := dU (dN mr_29 100 1100) 0 (uP 53 61)
def mr_31 : List Rc := dU (dN mr_30 100 1100) 0 (uP 54 62)
def mr_32 : List Rc := dU (dN mr_31 100 1100) 0 (uP 55 63)
def mr_33 : List Rc := dU (dN mr_32 101 1100) 0 (uP 56 64)
def mr_34 : List Rc := dU (dN mr_33 103 1100) 0 (uP 57 65)
def mr_35 : List Rc := dU (dN mr_34 101 1100) 0 (uP 58 66)
def mr_36 : List Rc := dU (dN mr_35 100 8800) 0 (uP 59 67)
def mr_37 : List Rc := dU (dN mr_36 100 12802) 0 (uP 60 68)
def mr_38 : List Rc := dU (dN mr_37 101 12802) 0 (uP 61 69)
def mr_39 : List Rc := dU (dN mr_38 101 102416) 0 (uP 62 70)
def mr_40 : List Rc := dU (dN mr_39 100 12802) 0 (uP 63 71)
def mr_41 : List Rc := dU (dN mr_40 100 12802) 0 (uP 64 72)
def mr_42 : List Rc := dU (dN mr_41 100 12802) 0 (uP 65 73)
def mr_43 : List Rc := dU (dN mr_42 100 4000) 0 (uP 68 74)
def mr_44 : List Rc := dU (dN mr_43 100 4000) 0 (uP 69 75)
def mr_45 : List Rc := dU (dN mr_44 101 4000) 0 (uP 70 76)
def mr_46 : List Rc := dU (dN mr_45 101 4000) 0 (uP 71 77)
def mr_47 : List Rc := dU (dN mr_46 101 4000) 0 (uP 72 78)
def mr_48 : List Rc := dU (dN mr_47 101 32000) 0 (uP 73 79)
def mr_49 : List Rc := dU (dN mr_48 100 4000) 0 (uP 74 80)
def mr_50 : List Rc := dU (dN mr_49 100 4000) 0 (uP 75 81)
def mr_51 : List Rc := dU (dN mr_50 100 64) 0 (uP 76 82)
def mr_52 : List Rc := dU (dN mr_51 100 64) 0 (uP 77 83)
def mr_53 : List Rc := dU (dN mr_52 100 64) 0 (uP 78 84)
def mr_54 : List Rc := dU (dN mr_53 101 8) 0 (uP 81 85)
def mr_55 : List Rc := dU (dN mr_54 101 16) 0 (uP 82 86)
def mr_56 : List Rc := dU (dN mr_55 101 2000) 0 (uP 83 87)
def mr_57 : List Rc := dU (dN mr_56 101 16000) 0 (uP 84 88)
def mr_58 : List Rc := dU (dN mr_57 100 2000) 0 (uP 85 89)
def mr_59 : List Rc := dU (dN mr_58 100 2000) 0 (uP 86 90)
def mr_60 : List Rc := dU (dN mr_59 100 12) 0 (uP 87 91)
def mr_61 : List Rc := dU (dN mr_60 100 12) 0 (uP 88 92)
def mr_62 : List Rc := dU (dN mr_61 100 12) 0 (uP 89 93)
def mr_63 : List Rc := dU mr_62 0 (uI 96 (-1))
def mr_64 : List Rc := dU (dN mr_63 100 2) 0 (uP 97 94)
def mr_65 : List Rc := dU (dN mr_64 100 2) 0 (uP 98 95)
def mr_66 : List Rc := dU (dN mr_65 100 8000) 0 (uP 99 96)
def mr_67 : List Rc := dU (dN mr_66 100 8000) 0 (uP 100 97)
def mr_68 : List Rc := dU (dN mr_67 100 8000) 0 (uP 101 98)
def mr_69 : List Rc := dU (dN mr_68 101 8000) 0 (uP 102 99)
def mr_70 : List Rc := dU (dN mr_69 101 8000) 0 (uP 103 100)
def mr_71 : List Rc := dU (dN mr_70 101 8000) 0 (uP 104 101)
def mr_72 : List Rc := dU (dN mr_71 101 64000) 0 (uP 105 102)
def mr_73 : List Rc := dU (dN mr_72 100 8000) 0 (uP 106 103)
def mr_74 : List Rc := dU (dN mr_73 100 128) 0 (uP 107 104)
def mr_75 : List Rc := dU (dN mr_74 100 128) 0 (uP 108 105)
def mr_76 : List Rc := dU (dN mr_75 101 128) 0 (uP 109 106)
def mr_77 : List Rc := dU (dN mr_76 100 4000) 0 (uP 114 107)
def mr_78 : List Rc := dU (dN mr_77 101 4000) 0 (uP 115 108)
def mr_79 : List Rc := dU (dN mr_78 101 32000) 0 (uP 116 109)
def mr_80 : List Rc := dU (dN mr_79 100 17) 0 (uP 118 110)
def mr_81 : List Rc := dU (dN mr_80 100 4000) 0 (uP 119 111)
def mr_82 : List Rc := dU (dN mr_81 103 4000) 0 (uP 120 112)
def mr_83 : List Rc := dU (dN mr_82 101 4000) 0 (uP 121 113)
def mr_84 : List Rc := dU (dN mr_83 100 4000) 0 (uP 122 114)
theorem ml_0 : mr_0.length = 1 ∧ sz mr_0 = 123 := ⟨rfl, rfl⟩
theorem ml_1 : mr_1.length = 2 ∧ sz mr_1 = 129 := ⟨by unfold mr_1; rw [dU_len, dN_len, ml_0.1], by unfold mr_1; rw [dU_szP, dN_sz, ml_0.2]⟩
theorem ml_2 : mr_2.length = 3 ∧ sz mr_2 = 1629 := ⟨by unfold mr_2; rw [dU_len, dN_len, ml_1.1], by unfold mr_2; rw [dU_szP, dN_sz, ml_1.2]⟩
theorem ml_3 : mr_3.length = 4 ∧ sz mr_3 = 1652 := ⟨by unfold mr_3; rw [dU_len, dN_len, ml_2.1], by unfold mr_3; rw [dU_szP, dN_sz, ml_2.2]⟩
theorem ml_4 : mr_4.length = 21 ∧ sz mr_4 = 14236 := ⟨by unfold mr_4; rw [dU_len, jl_16.1, dN_len, ml_3.1], by unfold mr_4; rw [dU_szP, jl_16.2, dN_sz, ml_3.2]⟩
theorem ml_5 : mr_5.length = 38 ∧ sz mr_5 = 26820 := ⟨by unfold mr_5; rw [dU_len, jl_16.1, dN_len, ml_4.1], by unfold mr_5; rw [dU_szP, jl_16.2, dN_sz, ml_4.2]⟩
theorem mz_17_5 : (mr_5[0]?).bind (fun r => rP r 17) = none := by decide +kernel
theorem mz_15_5 : (mr_5[0]?).bind (fun r => rP r 15) = some 4 := by decide +kernel
theorem ml_6 : mr_6.length = 38 ∧ sz mr_6 = 26820 := ⟨by unfold mr_6; rw [dU_len]; exact ml_5.1, by unfold mr_6; rw [dU_szP]; exact ml_5.2⟩
theorem ml_7 : mr_7.length = 39 ∧ sz mr_7 = 28420 := ⟨by unfold mr_7; rw [dU_len, dN_len, ml_6.1], by unfold mr_7; rw [dU_szP, dN_sz, ml_6.2]⟩
theorem ml_8 : mr_8.length = 40 ∧ sz mr_8 = 28424 := ⟨by unfold mr_8; rw [dU_len, dN_len, ml_7.1], by unfold mr_8; rw [dU_szP, dN_sz, ml_7.2]⟩
theorem ml_9 : mr_9.length = 41 ∧ sz mr_9 = 28680 := ⟨by unfold mr_9; rw [dU_len, dN_len, ml_8.1], by unfold mr_9; rw [dU_szP, dN_sz, ml_8.2]⟩
theorem ml_10 : mr_10.length = 42 ∧ sz mr_10 = 29704 := ⟨by unfold mr_10; rw [dU_len, dN_len, ml_9.1], by unfold mr_10; rw [dU_szP, dN_sz, ml_9.2]⟩
theorem ml_11 : mr_11.length = 43 ∧ sz mr_11 = 29708 := ⟨by unfold mr_11; rw [dU_len, dN_len, ml_10.1], by unfold mr_11; rw [dU_szP, dN_sz, ml_10.2]⟩
theorem ml_12 : mr_12.length = 44 ∧ sz mr_12 = 149708 := ⟨by unfold mr_12; rw [dU_len, dN_len, ml_11.1], by unfold mr_12; rw [dU_szP, dN_sz, ml_11.2]⟩
theorem ml_13 : mr_13.length = 45 ∧ sz mr_13 = 149714 := ⟨by unfold mr_13; rw [dU_len, dN_len, ml_12.1], by unfold mr_13; rw [dU_szP, dN_sz, ml_12.2]⟩
theorem ml_14 : mr_14.length = 46 ∧ sz mr_14 = 149720 := ⟨by unfold mr_14; rw [dU_len, dN_len, ml_13.1], by unfold mr_14; rw [dU_szP, dN_sz, ml_13.2]⟩
theorem ml_15 : mr_15.length = 47 ∧ sz mr_15 = 149737 := ⟨by unfold mr_15; rw [dU_len, dN_len, ml_14.1], by unfold mr_15; rw [dU_szP, dN_sz, ml_14.2]⟩
theorem ml_16 : mr_16.length = 48 ∧ sz mr_16 = 149801 := ⟨by unfold mr_16; rw [dU_len, dN_len, ml_15.1], by unfold mr_16; rw [dU_szP, dN_sz, ml_15.2]⟩
theorem ml_17 : mr_17.length = 49 ∧ sz mr_17 = 149865 := ⟨by unfold mr_17; rw [dU_len, dN_len, ml_16.1], by unfold mr_17; rw [dU_szP, dN_sz, ml_16.2]⟩
theorem ml_18 : mr_18.length = 50 ∧ sz mr_18 = 149929 := ⟨by unfold mr_18; rw [dU_len, dN_len, ml_17.1], by unfold mr_18; rw [dU_szP, dN_sz, ml_17.2]⟩
theorem ml_19 : mr_19.length = 51 ∧ sz mr_19 = 149993 := ⟨by unfold mr_19; rw [dU_len, dN_len, ml_18.1], by unfold mr_19; rw [dU_szP, dN_sz, ml_18.2]⟩
theorem ml_20 : mr_20.length = 52 ∧ sz mr_20 = 150057 := ⟨by unfold mr_20; rw [dU_len, dN_len, ml_19.1], by unfold mr_20; rw [dU_szP, dN_sz, ml_19.2]⟩
theorem ml_21 : mr_21.length = 53 ∧ sz mr_21 = 150121 := ⟨by unfold mr_21; rw [dU_len, dN_len, ml_20.1], by unfold mr_21; rw [dU_szP, dN_sz, ml_20.2]⟩
theorem ml_22 : mr_22.length = 54 ∧ sz mr_22 = 150185 := ⟨by unfold mr_22; rw [dU_len, dN_len, ml_21.1], by unfold mr_22; rw [dU_szP, dN_sz, ml_21.2]⟩
theorem ml_23 : mr_23.length = 55 ∧ sz mr_23 = 150249 := ⟨by unfold mr_23; rw [dU_len, dN_len, ml_22.1], by unfold mr_23; rw [dU_szP, dN_sz, ml_22.2]⟩
theorem ml_24 : mr_24.length = 56 ∧ sz mr_24 = 150313 := ⟨by unfold mr_24; rw [dU_len, dN_len, ml_23.1], by unfold mr_24; rw [dU_szP, dN_sz, ml_23.2]⟩
theorem ml_25 : mr_25.length = 57 ∧ sz mr_25 = 150377 := ⟨by unfold mr_25; rw [dU_len, dN_len, ml_24.1], by unfold mr_25; rw [dU_szP, dN_sz, ml_24.2]⟩
theorem ml_26 : mr_26.length = 58 ∧ sz mr_26 = 150441 := ⟨by unfold mr_26; rw [dU_len, dN_len, ml_25.1], by unfold mr_26; rw [dU_szP, dN_sz, ml_25.2]⟩
theorem ml_27 : mr_27.length = 59 ∧ sz mr_27 = 150473 := ⟨by unfold mr_27; rw [dU_len, dN_len, ml_26.1], by unfold mr_27; rw [dU_szP, dN_sz, ml_26.2]⟩
theorem ml_28 : mr_28.length = 60 ∧ sz mr_28 = 151573 := ⟨by unfold mr_28; rw [dU_len, dN_len, ml_27.1], by unfold mr_28; rw [dU_szP, dN_sz, ml_27.2]⟩
theorem ml_29 : mr_29.length = 61 ∧ sz mr_29 = 152673 := ⟨by unfold mr_29; rw [dU_len, dN_len, ml_28.1], by unfold mr_29; rw [dU_szP, dN_sz, ml_28.2]⟩
theorem ml_30 : mr_30.length = 62 ∧ sz mr_30 = 153773 := ⟨by unfold mr_30; rw [dU_len, dN_len, ml_29.1], by unfold mr_30; rw [dU_szP, dN_sz, ml_29.2]⟩
theorem ml_31 : mr_31.length = 63 ∧ sz mr_31 = 154873 := ⟨by unfold mr_31; rw [dU_len, dN_len, ml_30.1], by unfold mr_31; rw [dU_szP, dN_sz, ml_30.2]⟩
theorem ml_32 : mr_32.length = 64 ∧ sz mr_32 = 155973 := ⟨by unfold mr_32; rw [dU_len, dN_len, ml_31.1], by unfold mr_32; rw [dU_szP, dN_sz, ml_31.2]⟩
theorem ml_33 : mr_33.length = 65 ∧ sz mr_33 = 157073 := ⟨by unfold mr_33; rw [dU_len, dN_len, ml_32.1], by unfold mr_33; rw [dU_szP, dN_sz, ml_32.2]⟩
theorem ml_34 : mr_34.length = 66 ∧ sz mr_34 = 158173 := ⟨by unfold mr_34; rw [dU_len, dN_len, ml_33.1], by unfold mr_34; rw [dU_szP, dN_sz, ml_33.2]⟩
theorem ml_35 : mr_35.length = 67 ∧ sz mr_35 = 159273 := ⟨by unfold mr_35; rw [dU_len, dN_len, ml_34.1], by unfold mr_35; rw [dU_szP, dN_sz, ml_34.2]⟩
theorem ml_36 : mr_36.length = 68 ∧ sz mr_36 = 168073 := ⟨by unfold mr_36; rw [dU_len, dN_len, ml_35.1], by unfold mr_36; rw [dU_szP, dN_sz, ml_35.2]⟩
theorem ml_37 : mr_37.length = 69 ∧ sz mr_37 = 180875 := ⟨by unfold mr_37; rw [dU_len, dN_len, ml_36.1], by unfold mr_37; rw [dU_szP, dN_sz, ml_36.2]⟩
theorem ml_38 : mr_38.length = 70 ∧ sz mr_38 = 193677 := ⟨by unfold mr_38; rw [dU_len, dN_len, ml_37.1], by unfold mr_38; rw [dU_szP, dN_sz, ml_37.2]⟩
theorem ml_39 : mr_39.length = 71 ∧ sz mr_39 = 296093 := ⟨by unfold mr_39; rw [dU_len, dN_len, ml_38.1], by unfold mr_39; rw [dU_szP, dN_sz, ml_38.2]⟩
theorem ml_40 : mr_40.length = 72 ∧ sz mr_40 = 308895 := ⟨by unfold mr_40; rw [dU_len, dN_len, ml_39.1], by unfold mr_40; rw [dU_szP, dN_sz, ml_39.2]⟩
theorem ml_41 : mr_41.length = 73 ∧ sz mr_41 = 321697 := ⟨by unfold mr_41; rw [dU_len, dN_len, ml_40.1], by unfold mr_41; rw [dU_szP, dN_sz, ml_40.2]⟩
theorem ml_42 : mr_42.length = 74 ∧ sz mr_42 = 334499 := ⟨by unfold mr_42; rw [dU_len, dN_len, ml_41.1], by unfold mr_42; rw [dU_szP, dN_sz, ml_41.2]⟩
theorem ml_43 : mr_43.length = 75 ∧ sz mr_43 = 338499 := ⟨by unfold mr_43; rw [dU_len, dN_len, ml_42.1], by unfold mr_43; rw [dU_szP, dN_sz, ml_42.2]⟩
theorem ml_44 : mr_44.length = 76 ∧ sz mr_44 = 342499 := ⟨by unfold mr_44; rw [dU_len, dN_len, ml_43.1], by unfold mr_44; rw [dU_szP, dN_sz, ml_43.2]⟩
theorem ml_45 : mr_45.length = 77 ∧ sz mr_45 = 346499 := ⟨by unfold mr_45; rw [dU_len, dN_len, ml_44.1], by unfold mr_45; rw [dU_szP, dN_sz, ml_44.2]⟩
theorem ml_46 : mr_46.length = 78 ∧ sz mr_46 = 350499 := ⟨by unfold mr_46; rw [dU_len, dN_len, ml_45.1], by unfold mr_46; rw [dU_szP, dN_sz, ml_45.2]⟩
theorem ml_47 : mr_47.length = 79 ∧ sz mr_47 = 354499 := ⟨by unfold mr_47; rw [dU_len, dN_len, ml_46.1], by unfold mr_47; rw [dU_szP, dN_sz, ml_46.2]⟩
theorem ml_48 : mr_48.length = 80 ∧ sz mr_48 = 386499 := ⟨by unfold mr_48; rw [dU_len, dN_len, ml_47.1], by unfold mr_48; rw [dU_szP, dN_sz, ml_47.2]⟩
theorem ml_49 : mr_49.length = 81 ∧ sz mr_49 = 390499 := ⟨by unfold mr_49; rw [dU_len, dN_len, ml_48.1], by unfold mr_49; rw [dU_szP, dN_sz, ml_48.2]⟩
theorem ml_50 : mr_50.length = 82 ∧ sz mr_50 = 394499 := ⟨by unfold mr_50; rw [dU_len, dN_len, ml_49.1], by unfold mr_50; rw [dU_szP, dN_sz, ml_49.2]⟩
theorem ml_51 : mr_51.length = 83 ∧ sz mr_51 = 394563 := ⟨by unfold mr_51; rw [dU_len, dN_len, ml_50.1], by unfold mr_51; rw [dU_szP, dN_sz, ml_50.2]⟩
theorem ml_52 : mr_52.length = 84 ∧ sz mr_52 = 394627 := ⟨by unfold mr_52; rw [dU_len, dN_len, ml_51.1], by unfold mr_52; rw [dU_szP, dN_sz, ml_51.2]⟩
theorem ml_53 : mr_53.length = 85 ∧ sz mr_53 = 394691 := ⟨by unfold mr_53; rw [dU_len, dN_len, ml_52.1], by unfold mr_53; rw [dU_szP, dN_sz, ml_52.2]⟩
theorem ml_54 : mr_54.length = 86 ∧ sz mr_54 = 394699 := ⟨by unfold mr_54; rw [dU_len, dN_len, ml_53.1], by unfold mr_54; rw [dU_szP, dN_sz, ml_53.2]⟩
theorem ml_55 : mr_55.length = 87 ∧ sz mr_55 = 394715 := ⟨by unfold mr_55; rw [dU_len, dN_len, ml_54.1], by unfold mr_55; rw [dU_szP, dN_sz, ml_54.2]⟩
theorem ml_56 : mr_56.length = 88 ∧ sz mr_56 = 396715 := ⟨by unfold mr_56; rw [dU_len, dN_len, ml_55.1], by unfold mr_56; rw [dU_szP, dN_sz, ml_55.2]⟩
theorem ml_57 : mr_57.length = 89 ∧ sz mr_57 = 412715 := ⟨by unfold mr_57; rw [dU_len, dN_len, ml_56.1], by unfold mr_57; rw [dU_szP, dN_sz, ml_56.2]⟩
theorem ml_58 : mr_58.length = 90 ∧ sz mr_58 = 414715 := ⟨by unfold mr_58; rw [dU_len, dN_len, ml_57.1], by unfold mr_58; rw [dU_szP, dN_sz, ml_57.2]⟩
theorem ml_59 : mr_59.length = 91 ∧ sz mr_59 = 416715 := ⟨by unfold mr_59; rw [dU_len, dN_len, ml_58.1], by unfold mr_59; rw [dU_szP, dN_sz, ml_58.2]⟩
theorem ml_60 : mr_60.length = 92 ∧ sz mr_60 = 416727 := ⟨by unfold mr_60; rw [dU_len, dN_len, ml_59.1], by unfold mr_60; rw [dU_szP, dN_sz, ml_59.2]⟩
theorem ml_61 : mr_61.length = 93 ∧ sz mr_61 = 416739 := ⟨by unfold mr_61; rw [dU_len, dN_len, ml_60.1], by unfold mr_61; rw [dU_szP, dN_sz, ml_60.2]⟩
theorem ml_62 : mr_62.length = 94 ∧ sz mr_62 = 416751 := ⟨by unfold mr_62; rw [dU_len, dN_len, ml_61.1], by unfold mr_62; rw [dU_szP, dN_sz, ml_61.2]⟩
theorem ml_63 : mr_63.length = 94 ∧ sz mr_63 = 416751 := ⟨by unfold mr_63; rw [dU_len]; exact ml_62.1, by unfold mr_63; rw [dU_szI]; exact ml_62.2⟩
theorem ml_64 : mr_64.length = 95 ∧ sz mr_64 = 416753 := ⟨by unfold mr_64; rw [dU_len, dN_len, ml_63.1], by unfold mr_64; rw [dU_szP, dN_sz, ml_63.2]⟩
theorem ml_65 : mr_65.length = 96 ∧ sz mr_65 = 416755 := ⟨by unfold mr_65; rw [dU_len, dN_len, ml_64.1], by unfold mr_65; rw [dU_szP, dN_sz, ml_64.2]⟩
theorem ml_66 : mr_66.length = 97 ∧ sz mr_66 = 424755 := ⟨by unfold mr_66; rw [dU_len, dN_len, ml_65.1], by unfold mr_66; rw [dU_szP, dN_sz, ml_65.2]⟩
theorem ml_67 : mr_67.length = 98 ∧ sz mr_67 = 432755 := ⟨by unfold mr_67; rw [dU_len, dN_len, ml_66.1], by unfold mr_67; rw [dU_szP, dN_sz, ml_66.2]⟩
theorem ml_68 : mr_68.length = 99 ∧ sz mr_68 = 440755 := ⟨by unfold mr_68; rw [dU_len, dN_len, ml_67.1], by unfold mr_68; rw [dU_szP, dN_sz, ml_67.2]⟩
theorem ml_69 : mr_69.length = 100 ∧ sz mr_69 = 448755 := ⟨by unfold mr_69; rw [dU_len, dN_len, ml_68.1], by unfold mr_69; rw [dU_szP, dN_sz, ml_68.2]⟩
theorem ml_70 : mr_70.length = 101 ∧ sz mr_70 = 456755 := ⟨by unfold mr_70; rw [dU_len, dN_len, ml_69.1], by unfold mr_70; rw [dU_szP, dN_sz, ml_69.2]⟩
theorem ml_71 : mr_71.length = 102 ∧ sz mr_71 = 464755 := ⟨by unfold mr_71; rw [dU_len, dN_len, ml_70.1], by unfold mr_71; rw [dU_szP, dN_sz, ml_70.2]⟩
theorem ml_72 : mr_72.length = 103 ∧ sz mr_72 = 528755 := ⟨by unfold mr_72; rw [dU_len, dN_len, ml_71.1], by unfold mr_72; rw [dU_szP, dN_sz, ml_71.2]⟩
theorem ml_73 : mr_73.length = 104 ∧ sz mr_73 = 536755 := ⟨by unfold mr_73; rw [dU_len, dN_len, ml_72.1], by unfold mr_73; rw [dU_szP, dN_sz, ml_72.2]⟩
theorem ml_74 : mr_74.length = 105 ∧ sz mr_74 = 536883 := ⟨by unfold mr_74; rw [dU_len, dN_len, ml_73.1], by unfold mr_74; rw [dU_szP, dN_sz, ml_73.2]⟩
theorem ml_75 : mr_75.length = 106 ∧ sz mr_75 = 537011 := ⟨by unfold mr_75; rw [dU_len, dN_len, ml_74.1], by unfold mr_75; rw [dU_szP, dN_sz, ml_74.2]⟩
theorem ml_76 : mr_76.length = 107 ∧ sz mr_76 = 537139 := ⟨by unfold mr_76; rw [dU_len, dN_len, ml_75.1], by unfold mr_76; rw [dU_szP, dN_sz, ml_75.2]⟩
theorem ml_77 : mr_77.length = 108 ∧ sz mr_77 = 541139 := ⟨by unfold mr_77; rw [dU_len, dN_len, ml_76.1], by unfold mr_77; rw [dU_szP, dN_sz, ml_76.2]⟩
theorem ml_78 : mr_78.length = 109 ∧ sz mr_78 = 545139 := ⟨by unfold mr_78; rw [dU_len, dN_len, ml_77.1], by unfold mr_78; rw [dU_szP, dN_sz, ml_77.2]⟩
theorem ml_79 : mr_79.length = 110 ∧ sz mr_79 = 577139 := ⟨by unfold mr_79; rw [dU_len, dN_len, ml_78.1], by unfold mr_79; rw [dU_szP, dN_sz, ml_78.2]⟩
theorem ml_80 : mr_80.length = 111 ∧ sz mr_80 = 577156 := ⟨by unfold mr_80; rw [dU_len, dN_len, ml_79.1], by unfold mr_80; rw [dU_szP, dN_sz, ml_79.2]⟩
theorem ml_81 : mr_81.length = 112 ∧ sz mr_81 = 581156 := ⟨by unfold mr_81; rw [dU_len, dN_len, ml_80.1], by unfold mr_81; rw [dU_szP, dN_sz, ml_80.2]⟩
theorem ml_82 : mr_82.length = 113 ∧ sz mr_82 = 585156 := ⟨by unfold mr_82; rw [dU_len, dN_len, ml_81.1], by unfold mr_82; rw [dU_szP, dN_sz, ml_81.2]⟩
theorem ml_83 : mr_83.length = 114 ∧ sz mr_83 = 589156 := ⟨by unfold mr_83; rw [dU_len, dN_len, ml_82.1], by unfold mr_83; rw [dU_szP, dN_sz, ml_82.2]⟩
theorem ml_84 : mr_84.length = 115 ∧ sz mr_84 = 593156 := ⟨by unfold mr_84; rw [dU_len, dN_len, ml_83.1], by unfold mr_84; rw [dU_szP, dN_sz, ml_83.2]⟩

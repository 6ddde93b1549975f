/-! the law's cases -/
def LIv (VH : Sg → Nat → Nat → Int → Prop) (VR : Sg → Prop) (dm : List Nat × Nat × Nat) (ra : Nat → Nat) (jx : Nat → Nat → Nat) (th rm n : Nat) (t : Int) (σc σr : Sg) : Prop := (VH σc th n t ∧ RG σc ∧ TY σc ∧ kO σc th 12) ∧ VR σr ∧ RG σr ∧ Shp dm ra jx rm σr ∧ gI σr rm 3 = t
section LCA
variable {p : Program} {l : Launch} {e : Env} {s : State} {m : MethodId} {args : Array Value} {below : List Frame} {meth : Method} {c : Code} {D : va_G} {cA : Nat → ClassId} {tys : List (ClassId × FieldType)} {Q : State → Prop} {o : Nat} {b L : Nat} {xs : Nat → Int32} {VH : Sg → Nat → Nat → Int → Prop} {VR : Sg → Prop} {dm : List Nat × Nat × Nat} {ra : Nat → Nat} {jx : Nat → Nat → Nat} {th rm n : Nat}
theorem l_old {v : Int64} {H : Heap} {locs : List Loc} {ls : Array Slot} {pc cells slots : Nat} {rest : List Value} (B : Cx p s m args c code 8 RL D cA tys (A0 s)) (hT : TyC cA tys) (ho : oAt D cA o v H) (hd : decode code pc = .ok (.laload, 1)) (kk : W p l e room_1 s m args below meth c H locs cells slots Q (F0 m (pc + 1) ls (.long v :: rest))) : W p l e room_1 s m args below meth c H locs cells slots Q (F0 m pc ls (.int (i32 0) :: .ref o :: rest)) := by
  obtain ⟨f, e9, h⟩ := ho
  have one : va_P D vwCl [(o, .inl (cA 101, 1, .inr (.inl f)))] H := fun k q9 hk9 => by
    have := List.mem_of_getElem? hk9
    rw [List.mem_singleton] at this
    rw [this]; exact h
  refine va_lald B.1 B.2.1 B.2.2.2.2.1 one 0 1 rfl hT.1.2.1 (i32_in (n := 1) (by decide) (by decide) (by decide)) hd ?_
  rw [i32_clamp (by decide) (by decide)]
  show W p l e room_1 s m args below meth c H locs cells slots Q (F0 m (pc + 1) ls (.long (f 0) :: rest))
  rw [e9]; exact kk
set_option maxRecDepth 20000 in
theorem lc_feed (B : Cx p s m args c code 8 RL D cA tys (A0 s)) (hl0 : l.stackTraces = false) (hT : TyC cA tys) (hX : va_X b L xs s s.heap) (hbl : b < s.heap.size) (hL5 : L ≤ 5632) (hn : n < 512) (hi : 11 * (n : Int) + 11 ≤ (L : Int)) (hC : ∀ (σ : Sg) (n : Nat) (t : Int) (a0 : Int64) (a1 : Int), VH σ th n t → n < 512 → rng a1 → wp_X12_feed th a0 a1 σ (fun σ' r => VH σ' th (n + 1) (t + a1) ∧ (r = t + a1 ∧ 1 ≤ a1 ∧ a1 ≤ 8 ∧ t + a1 ≤ 1500)) (fun σ' E => VH σ' th (n + 1) t ∧ ((E = "java/lang/IllegalArgumentException" ∧ (a1 < 1 ∨ 8 < a1)) ∨ (E = "java/lang/UnsupportedOperationException" ∧ 1 ≤ a1 ∧ a1 ≤ 8 ∧ 1500 < t + a1)))) (hR : ∀ (σ : Sg) (a0 : Int64) (a1 : Int), VR σ → rng a1 → wp_X16_feed ra jx rm a0 a1 σ (fun σ' r => VR σ' ∧ FeP rm σ σ' a1 r) (fun _ _ => False)) (hTh : ∀ σ : Sg, wp_X16_thrown ra jx rm σ (fun σ' r => σ = σ' ∧ r = gI σ rm 0) (fun _ _ => False)) (k : ∀ t σc σr v, LIv VH VR dm ra jx th rm (n + 1) t σc σr → JLw p l e s m args below meth c D cA o Q σc σr v 1116 [(0, .ref b), (1, .ref th), (2, .ref rm), (3, .ref o), (4, .int (i32 (11 * (n : Int))))] []) : ∀ t σc σr v, LIv VH VR dm ra jx th rm n t σc σr → JLw p l e s m args below meth c D cA o Q σc σr v 144 [(0, .ref b), (1, .ref th), (2, .ref rm), (3, .ref o), (4, .int (i32 (11 * (n : Int))))] [] := by
  intro t σc σr v hI H locs ls hLS hl
  obtain ⟨⟨hV, hGc, hYc, hth⟩, hR0, hGr, hSr, ht⟩ := hI
  refine lv_aload_n B.1 B.2.1 dLw_144 rfl (lv_at hl 1 rfl) ?_
  refine lv_aload_n B.1 B.2.1 dLw_145 rfl (lv_at hl 0 rfl) ?_
  refine lv_iload B.1 B.2.1 dLw_146 (lv_at hl 4 rfl) ?_
  refine lv_iconst (v := i32 1) B.1 B.2.1 dLw_148 (by decide) ?_
  refine lv_iadd B.1 B.2.1 dLw_149 ?_
  rw [i32_add]
  refine l_ld B hX hbl hL5 hLS.2.2.1 ⟨by omega, by omega⟩ dLw_150 ?_
  refine lv_i2l B.1 B.2.1 dLw_151 (i32_i64 (rng_sx _ _)) ?_
  refine lv_bipush (v := i32 32) B.1 B.2.1 dLw_152 (by decide) ?_
  refine lv_lshl B.1 B.2.1 dLw_154 rfl ?_
  refine lv_aload_n B.1 B.2.1 dLw_155 rfl (lv_at hl 0 rfl) ?_
  refine lv_iload B.1 B.2.1 dLw_156 (lv_at hl 4 rfl) ?_
  refine lv_iconst (v := i32 2) B.1 B.2.1 dLw_158 (by decide) ?_
  refine lv_iadd B.1 B.2.1 dLw_159 ?_
  rw [i32_add]
  refine l_ld B hX hbl hL5 hLS.2.2.1 ⟨by omega, by omega⟩ dLw_160 ?_
  refine lv_i2l B.1 B.2.1 dLw_161 (i32_i64 (rng_sx _ _)) ?_
  refine lv_ldc2 B.1 B.2.1 B.2.2.1 (B.2.2.2.1 _ wkL_90) dLw_162 ?_
  refine lv_land B.1 B.2.1 dLw_165 ?_
  refine lv_lor B.1 B.2.1 dLw_166 ?_
  refine any_long (fun w1 => ?_)
  refine lv_aload_n B.1 B.2.1 dLw_167 rfl (lv_at hl 0 rfl) ?_
  refine lv_iload B.1 B.2.1 dLw_168 (lv_at hl 4 rfl) ?_
  refine lv_iconst (v := i32 3) B.1 B.2.1 dLw_170 (by decide) ?_
  refine lv_iadd B.1 B.2.1 dLw_171 ?_
  rw [i32_add]
  refine l_ld B hX hbl hL5 hLS.2.2.1 ⟨by omega, by omega⟩ dLw_172 ?_
  refine lv_aload_n B.1 B.2.1 dLw_173 rfl (lv_at hl 3 rfl) ?_
  refine l_W (r9 := ()) B hLS hl (okw_feed hl0 hT (rng_sx _ _) hth hGc hYc (hC σc n t w1 (sx xs (11 * (n : Int) + 3)) hV hn (rng_sx _ _)) (fun σ9 E9 h9 => by rcases h9.2 with h8 | h8; exact Or.inl h8.1; exact Or.inr h8.1)) wsL_92 hdL_feed ⟨Nat.le_of_ble_eq_true rfl, Nat.le_of_ble_eq_true rfl⟩ rfl rfl (rest := []) (Nat.le_of_ble_eq_true rfl) dLw_174 (fun σ1 r1 v1 gr1 hq1 => ?_)
  obtain ⟨hq1, hG1, hY1, hE1⟩ := hq1
  intro H locs ls hLS hl
  have hth1 : kO σ1 th 12 := hth.up hE1
  refine lv_istore (lv' := [(5, .int (i32 r1)), (0, .ref b), (1, .ref th), (2, .ref rm), (3, .ref o), (4, .int (i32 (11 * (n : Int))))]) B.1 B.2.1 dLw_177 hl (by decide) rfl (fun ls hl => ?_)
  refine lv_aload_n B.1 B.2.1 dLw_179 rfl (lv_at hl 3 rfl) ?_
  refine lv_aload_n B.1 B.2.1 dLw_180 rfl (lv_at hl 1 rfl) ?_
  refine lv_iload B.1 B.2.1 dLw_181 (lv_at hl 5 rfl) ?_
  refine lv_iconst (v := i32 1) B.1 B.2.1 dLw_183 (by decide) ?_
  refine lv_iadd B.1 B.2.1 dLw_184 ?_
  rw [i32_add]
  refine l_ld B hX hbl hL5 hLS.2.2.1 ⟨by omega, by omega⟩ dLw_185 ?_
  refine lv_i2l B.1 B.2.1 dLw_186 (i32_i64 (rng_sx _ _)) ?_
  refine lv_bipush (v := i32 32) B.1 B.2.1 dLw_187 (by decide) ?_
  refine lv_lshl B.1 B.2.1 dLw_189 rfl ?_
  refine lv_aload_n B.1 B.2.1 dLw_190 rfl (lv_at hl 1 rfl) ?_
  refine lv_iload B.1 B.2.1 dLw_191 (lv_at hl 5 rfl) ?_
  refine lv_iconst (v := i32 2) B.1 B.2.1 dLw_193 (by decide) ?_
  refine lv_iadd B.1 B.2.1 dLw_194 ?_
  rw [i32_add]
  refine l_ld B hX hbl hL5 hLS.2.2.1 ⟨by omega, by omega⟩ dLw_195 ?_
  refine lv_i2l B.1 B.2.1 dLw_196 (i32_i64 (rng_sx _ _)) ?_
  refine lv_ldc2 B.1 B.2.1 B.2.2.1 (B.2.2.2.1 _ wkL_90) dLw_197 ?_
  refine lv_land B.1 B.2.1 dLw_200 ?_
  refine lv_lor B.1 B.2.1 dLw_201 ?_
  refine any_long (fun w2 => ?_)
  refine lv_aload_n B.1 B.2.1 dLw_202 rfl (lv_at hl 1 rfl) ?_
  refine lv_iload B.1 B.2.1 dLw_203 (lv_at hl 5 rfl) ?_
  refine lv_iconst (v := i32 3) B.1 B.2.1 dLw_205 (by decide) ?_
  refine lv_iadd B.1 B.2.1 dLw_206 ?_
  rw [i32_add]
  refine l_ld B hX hbl hL5 hLS.2.2.1 ⟨by omega, by omega⟩ dLw_207 ?_
  refine l_R B hLS hl (As := [.long w2, .int (i32 (sx xs (11 * (n : Int) + 3)))]) (ok_X16_feed hT.1 σr w2 (sx xs (11 * (n : Int) + 3)) (rng_sx _ _) hGr hSr (hR σr w2 (sx xs (11 * (n : Int) + 3)) hR0 (rng_sx _ _))) (fun σ9 w9 h9 => by obtain ⟨r8, rfl, gr8, _, hG8, hS8⟩ := h9; exact hS8.2.2.2.2.trans hSr.2.2.2.2.symm) (fun _ _ h9 => h9.1) wcL_97 hd_X16_feed ⟨Nat.le_of_ble_eq_true rfl, Nat.le_of_ble_eq_true rfl⟩ hSr.1 rfl rfl (rest := []) (Nat.le_of_ble_eq_true rfl) dLw_208 (fun σ2 w9 hq2 => ?_)
  obtain ⟨r2, rfl, gr2, hq2, hG2, hS2⟩ := hq2
  intro H locs ls hLS hl
  refine W.eq (g2 := F0 m 211 ls [.int (i32 r2)]) rfl ?_
  refine lv_istore (lv' := [(6, .int (i32 r2)), (5, .int (i32 r1)), (0, .ref b), (1, .ref th), (2, .ref rm), (3, .ref o), (4, .int (i32 (11 * (n : Int))))]) B.1 B.2.1 dLw_211 hl (by decide) rfl (fun ls hl => ?_)
  refine lv_aload_n B.1 B.2.1 dLw_213 rfl (lv_at hl 4 rfl) ?_
  have hGr := hG2
  have hSr9 := hS2
  refine l_R B hLS hl (As := []) (ok_X16_thrown hT.1 σ2 hG2 hS2 (hTh σ2)) (fun σ9 w9 h9 => by obtain ⟨r8, rfl, gr8, h8, hG8, hS8⟩ := h9; exact hS8.2.2.2.2.trans hS2.2.2.2.2.symm) (fun _ _ h9 => h9.1) wcL_98 hd_X16_thrown ⟨Nat.le_of_ble_eq_true rfl, Nat.le_of_ble_eq_true rfl⟩ hS2.1 rfl rfl (rest := []) (Nat.le_of_ble_eq_true rfl) dLw_214 (fun σ3 w9 hq3 => ?_)
  obtain ⟨r3, rfl, gr3, ⟨e3, hr3⟩, hG3, hS3⟩ := hq3
  subst e3
  intro H locs ls hLS hl
  refine W.eq (g2 := F0 m 217 ls [.int (i32 r3)]) rfl ?_
  refine lv_iload B.1 B.2.1 dLw_217 (lv_at hl 1 rfl) ?_
  obtain ⟨hR2, hFe⟩ := hq2
  rw [hr3] at gr3 ⊢
  have key : r1 = gI σ2 rm 0 ∧ (r1 = 0 → v1 = Int64.ofInt r2) ∧ ∃ t9, VH σ1 th (n + 1) t9 ∧ gI σ2 rm 3 = t9 := by
    have hI1 : cd_feed "java/lang/IllegalArgumentException" = 1 := by decide
    have hU1 : cd_feed "java/lang/UnsupportedOperationException" = 2 := by decide
    unfold FeP at hFe
    rw [ht] at hFe
    rcases hq1 with ⟨r9, ⟨q1, q2, q3, q4, q5⟩, k1, k2⟩ | ⟨E9, ⟨q1, q2⟩, k1, k2⟩
    · rcases hFe with ⟨f1, f2, f3⟩ | ⟨f1, f2, f3, f4⟩ | ⟨f1, f2, f3, f4, f5⟩
      · exact absurd ⟨q3, q4⟩ f1
      · omega
      · exact ⟨by omega, fun _ => by rw [k2, q2, f4], _, q1, f5⟩
    · rcases q2 with ⟨rfl, q3⟩ | ⟨rfl, q3, q4, q5⟩
      · rw [hI1] at k1
        rcases hFe with ⟨f1, f2, f3⟩ | ⟨f1, f2, f3, f4⟩ | ⟨f1, f2, f3, f4, f5⟩
        · exact ⟨by omega, fun w => by omega, _, q1, f3⟩
        · omega
        · omega
      · rw [hU1] at k1
        rcases hFe with ⟨f1, f2, f3⟩ | ⟨f1, f2, f3, f4⟩ | ⟨f1, f2, f3, f4, f5⟩
        · exact absurd ⟨q3, q4⟩ f1
        · exact ⟨by omega, fun w => by omega, _, q1, f4⟩
        · omega
  obtain ⟨k1, k2, t9, hV1, k3⟩ := key
  refine lv_icmp_eq (tgt := 224) B.1 B.2.1 dLw_219 (by decide) (fun _ => ?_) (fun h9 => absurd (by rw [← k1]) h9)
  refine lv_iload B.1 B.2.1 dLw_224 (lv_at hl 1 rfl) ?_
  refine lv_if_ne (tgt := 241) B.1 B.2.1 dLw_226 (by decide) (fun h9 => ?_) (fun h9 => ?_)
  · refine lv_goto (tgt := 1116) B.1 B.2.1 dLw_241 (by decide) ?_
    exact k _ _ _ _ ⟨⟨hV1, hG1, hY1, hth1⟩, hR2, hG3, hS3, k3⟩ H locs ls hLS (lv_sub (l' := [(0, .ref b), (1, .ref th), (2, .ref rm), (3, .ref o), (4, .int (i32 (11 * (n : Int))))]) hl [2, 3, 4, 5, 6] rfl)
  · refine lv_aload_n B.1 B.2.1 dLw_229 rfl (lv_at hl 5 rfl) ?_
    refine lv_iconst (v := i32 0) B.1 B.2.1 dLw_230 (by decide) ?_
    have e0 : r1 = 0 := (z_eq gr1).mp h9
    obtain ⟨f9, ef9, hf9⟩ := hLS.1.2.2
    refine l_old B hT ⟨f9, ef9, hf9⟩ dLw_231 ?_
    refine lv_iload B.1 B.2.1 dLw_232 (lv_at hl 0 rfl) ?_
    refine lv_i2l B.1 B.2.1 dLw_234 (i32_i64 gr2) ?_
    refine W.lcmp B.1 B.2.1 dLw_235 ?_
    refine lv_if_eq (tgt := 241) B.1 B.2.1 dLw_236 (by decide) (fun _ => ?_) (fun h8 => absurd ((lg_cmp_eq _ _).mpr (k2 e0)) h8)
    refine lv_goto (tgt := 1116) B.1 B.2.1 dLw_241 (by decide) ?_
    exact k _ _ _ _ ⟨⟨hV1, hG1, hY1, hth1⟩, hR2, hG3, hS3, k3⟩ H locs ls hLS (lv_sub (l' := [(0, .ref b), (1, .ref th), (2, .ref rm), (3, .ref o), (4, .int (i32 (11 * (n : Int))))]) hl [2, 3, 4, 5, 6] rfl)
set_option maxRecDepth 20000 in
theorem lc_job (B : Cx p s m args c code 8 RL D cA tys (A0 s)) (hl0 : l.stackTraces = false) (hT : TyC cA tys) (hX : va_X b L xs s s.heap) (hbl : b < s.heap.size) (hL5 : L ≤ 5632) (hn : n < 512) (hi : 11 * (n : Int) + 11 ≤ (L : Int)) (hC : ∀ (σ : Sg) (n : Nat) (t : Int), VH σ th n t → n < 512 → wp_X12_job th σ (fun σ' _ => VH σ' th (n + 1) 0) (fun σ' E => VH σ' th (n + 1) 0 ∧ (E = "java/lang/IllegalStateException"))) (hR : ∀ (σ : Sg), VR σ → wp_X16_job ra jx rm σ (fun σ' (_ : Int) => VR σ' ∧ gI σ' rm 3 = 0) (fun _ _ => False)) (k : ∀ t σc σr v, LIv VH VR dm ra jx th rm (n + 1) t σc σr → JLw p l e s m args below meth c D cA o Q σc σr v 1116 [(0, .ref b), (1, .ref th), (2, .ref rm), (3, .ref o), (4, .int (i32 (11 * (n : Int))))] []) : ∀ t σc σr v, LIv VH VR dm ra jx th rm n t σc σr → JLw p l e s m args below meth c D cA o Q σc σr v 244 [(0, .ref b), (1, .ref th), (2, .ref rm), (3, .ref o), (4, .int (i32 (11 * (n : Int))))] [] := by
  intro t σc σr v hI H locs ls hLS hl
  obtain ⟨⟨hV, hGc, hYc, hth⟩, hR0, hGr, hSr, ht⟩ := hI
  refine lv_aload_n B.1 B.2.1 dLw_244 rfl (lv_at hl 1 rfl) ?_
  refine lv_aload_n B.1 B.2.1 dLw_245 rfl (lv_at hl 3 rfl) ?_
  refine l_W (r9 := ()) B hLS hl (okw_job hl0 hT hth hGc hYc (hC σc n t hV hn) (fun σ9 E9 h9 => h9.2)) wsL_101 hdL_job ⟨Nat.le_of_ble_eq_true rfl, Nat.le_of_ble_eq_true rfl⟩ rfl rfl (rest := []) (Nat.le_of_ble_eq_true rfl) dLw_246 (fun σ1 r1 v1 gr1 hq1 => ?_)
  obtain ⟨hq1, hG1, hY1, hE1⟩ := hq1
  intro H locs ls hLS hl
  have hV1 : VH σ1 th (n + 1) 0 := by rcases hq1 with ⟨_, q, _⟩ | ⟨_, q, _⟩; exact q; exact q.1
  have hth1 : kO σ1 th 12 := hth.up hE1
  refine lv_istore (lv' := [(5, .int (i32 r1)), (0, .ref b), (1, .ref th), (2, .ref rm), (3, .ref o), (4, .int (i32 (11 * (n : Int))))]) B.1 B.2.1 dLw_249 hl (by decide) rfl (fun ls hl => ?_)
  refine lv_aload_n B.1 B.2.1 dLw_251 rfl (lv_at hl 3 rfl) ?_
  refine l_RH B hLS hl (As := []) (ok_X16_job hT.1 σr hGr hSr (hR σr hR0)) (fun σ9 w9 h9 => by obtain ⟨r8, rfl, gr8, _, hG8, hS8⟩ := h9; exact hS8.2.2.2.2.trans hSr.2.2.2.2.symm) (fun _ _ h9 => h9.1) wcL_104 hd_X16_job ⟨Nat.le_of_ble_eq_true rfl, Nat.le_of_ble_eq_true rfl⟩ hSr.1 rfl rfl (rest := []) (Nat.le_of_ble_eq_true rfl) dLw_252 (fun σ2 w9 hq2 => ?_)
  obtain ⟨r2, rfl, gr2, hq2, hG2, hS2⟩ := hq2
  intro H locs ls hLS hl
  refine W.eq (g2 := F0 m 255 ls [.int (i32 r2)]) rfl ?_
  refine lv_istore (lv' := [(6, .int (i32 r2)), (5, .int (i32 r1)), (0, .ref b), (1, .ref th), (2, .ref rm), (3, .ref o), (4, .int (i32 (11 * (n : Int))))]) B.1 B.2.1 dLw_255 hl (by decide) rfl (fun ls hl => ?_)
  refine lv_goto (tgt := 1116) B.1 B.2.1 dLw_257 (by decide) ?_
  exact k _ _ _ _ ⟨⟨hV1, hG1, hY1, hth1⟩, hq2.1, hG2, hS2, hq2.2⟩ H locs ls hLS (lv_sub (l' := [(0, .ref b), (1, .ref th), (2, .ref rm), (3, .ref o), (4, .int (i32 (11 * (n : Int))))]) hl [2, 3, 4, 5, 6] rfl)
set_option maxRecDepth 20000 in
theorem lc_fault (B : Cx p s m args c code 8 RL D cA tys (A0 s)) (hl0 : l.stackTraces = false) (hT : TyC cA tys) (hX : va_X b L xs s s.heap) (hbl : b < s.heap.size) (hL5 : L ≤ 5632) (hn : n < 512) (hi : 11 * (n : Int) + 11 ≤ (L : Int)) (hC : ∀ (σ : Sg) (n : Nat) (t : Int), VH σ th n t → n < 512 → wp_X12_fault th σ (fun σ' _ => VH σ' th (n + 1) t) (fun _ _ => False)) (hR : ∀ (σ : Sg), VR σ → wp_X16_fault ra jx rm σ (fun σ' (_ : Int) => VR σ' ∧ gI σ' rm 3 = gI σ rm 3) (fun _ _ => False)) (k : ∀ t σc σr v, LIv VH VR dm ra jx th rm (n + 1) t σc σr → JLw p l e s m args below meth c D cA o Q σc σr v 1116 [(0, .ref b), (1, .ref th), (2, .ref rm), (3, .ref o), (4, .int (i32 (11 * (n : Int))))] []) : ∀ t σc σr v, LIv VH VR dm ra jx th rm n t σc σr → JLw p l e s m args below meth c D cA o Q σc σr v 260 [(0, .ref b), (1, .ref th), (2, .ref rm), (3, .ref o), (4, .int (i32 (11 * (n : Int))))] [] := by
  intro t σc σr v hI H locs ls hLS hl
  obtain ⟨⟨hV, hGc, hYc, hth⟩, hR0, hGr, hSr, ht⟩ := hI
  refine lv_aload_n B.1 B.2.1 dLw_260 rfl (lv_at hl 1 rfl) ?_
  refine l_C B hLS hl (As := []) (ok_X12_fault hl0 hT σc th hth hGc hYc (hC σc n t hV hn)) (fun _ _ h9 => h9.1) wcL_105 hd_X12_fault ⟨Nat.le_of_ble_eq_true rfl, Nat.le_of_ble_eq_true rfl⟩ hth rfl rfl (rest := []) (Nat.le_of_ble_eq_true rfl) dLw_261 (fun σ1 w9 hq1 => ?_)
  obtain ⟨r1, rfl, gr1, hq1, hG1, hY1, hE1⟩ := hq1
  intro H locs ls hLS hl
  have hV1 : VH σ1 th (n + 1) t := hq1
  refine W.eq (g2 := F0 m 264 ls [.int (i32 r1)]) rfl ?_
  have hth1 : kO σ1 th 12 := hth.up hE1
  refine lv_pop B.1 B.2.1 dLw_264 rfl ?_
  refine lv_aload_n B.1 B.2.1 dLw_265 rfl (lv_at hl 2 rfl) ?_
  refine l_R B hLS hl (As := []) (ok_X16_fault hT.1 σr hGr hSr (hR σr hR0)) (fun σ9 w9 h9 => by obtain ⟨r8, rfl, gr8, _, hG8, hS8⟩ := h9; exact hS8.2.2.2.2.trans hSr.2.2.2.2.symm) (fun _ _ h9 => h9.1) wcL_108 hd_X16_fault ⟨Nat.le_of_ble_eq_true rfl, Nat.le_of_ble_eq_true rfl⟩ hSr.1 rfl rfl (rest := []) (Nat.le_of_ble_eq_true rfl) dLw_266 (fun σ2 w9 hq2 => ?_)
  obtain ⟨r2, rfl, gr2, hq2, hG2, hS2⟩ := hq2
  intro H locs ls hLS hl
  refine W.eq (g2 := F0 m 269 ls [.int (i32 r2)]) rfl ?_
  refine lv_pop B.1 B.2.1 dLw_269 rfl ?_
  refine lv_goto (tgt := 1116) B.1 B.2.1 dLw_270 (by decide) ?_
  exact k _ _ _ _ ⟨⟨hV1, hG1, hY1, hth1⟩, hq2.1, hG2, hS2, hq2.2.trans ht⟩ H locs ls hLS (lv_sub (l' := [(0, .ref b), (1, .ref th), (2, .ref rm), (3, .ref o), (4, .int (i32 (11 * (n : Int))))]) hl [0, 1, 2, 3, 4] rfl)
set_option maxRecDepth 20000 in
theorem lc_operator (B : Cx p s m args c code 8 RL D cA tys (A0 s)) (hl0 : l.stackTraces = false) (hT : TyC cA tys) (hX : va_X b L xs s s.heap) (hbl : b < s.heap.size) (hL5 : L ≤ 5632) (hn : n < 512) (hi : 11 * (n : Int) + 11 ≤ (L : Int)) (hC : ∀ (σ : Sg) (n : Nat) (t : Int) (a0 : Int) (a1 : Int), VH σ th n t → n < 512 → rng a0 → rng a1 → wp_X12_operator th a0 a1 σ (fun σ' _ => VH σ' th (n + 1) t) (fun σ' E => VH σ' th (n + 1) t ∧ (E = "java/lang/IndexOutOfBoundsException" ∨ E = "java/lang/IllegalArgumentException"))) (hR : ∀ (σ : Sg) (a0 : Int) (a1 : Int), VR σ → rng a0 → rng a1 → wp_X16_operator_ ra jx rm a0 a1 σ (fun σ' (_ : Int64) => VR σ' ∧ gI σ' rm 3 = gI σ rm 3) (fun _ _ => False)) (k : ∀ t σc σr v, LIv VH VR dm ra jx th rm (n + 1) t σc σr → JLw p l e s m args below meth c D cA o Q σc σr v 1116 [(0, .ref b), (1, .ref th), (2, .ref rm), (3, .ref o), (4, .int (i32 (11 * (n : Int))))] []) : ∀ t σc σr v, LIv VH VR dm ra jx th rm n t σc σr → JLw p l e s m args below meth c D cA o Q σc σr v 273 [(0, .ref b), (1, .ref th), (2, .ref rm), (3, .ref o), (4, .int (i32 (11 * (n : Int))))] [] := by
  intro t σc σr v hI H locs ls hLS hl
  obtain ⟨⟨hV, hGc, hYc, hth⟩, hR0, hGr, hSr, ht⟩ := hI
  refine lv_aload_n B.1 B.2.1 dLw_273 rfl (lv_at hl 1 rfl) ?_
  refine lv_aload_n B.1 B.2.1 dLw_274 rfl (lv_at hl 0 rfl) ?_
  refine lv_iload B.1 B.2.1 dLw_275 (lv_at hl 4 rfl) ?_
  refine lv_iconst (v := i32 1) B.1 B.2.1 dLw_277 (by decide) ?_
  refine lv_iadd B.1 B.2.1 dLw_278 ?_
  rw [i32_add]
  refine l_ld B hX hbl hL5 hLS.2.2.1 ⟨by omega, by omega⟩ dLw_279 ?_
  refine lv_aload_n B.1 B.2.1 dLw_280 rfl (lv_at hl 0 rfl) ?_
  refine lv_iload B.1 B.2.1 dLw_281 (lv_at hl 4 rfl) ?_
  refine lv_iconst (v := i32 2) B.1 B.2.1 dLw_283 (by decide) ?_
  refine lv_iadd B.1 B.2.1 dLw_284 ?_
  rw [i32_add]
  refine l_ld B hX hbl hL5 hLS.2.2.1 ⟨by omega, by omega⟩ dLw_285 ?_
  refine lv_aload_n B.1 B.2.1 dLw_286 rfl (lv_at hl 3 rfl) ?_
  refine l_W (r9 := ()) B hLS hl (okw_operator hl0 hT (rng_sx _ _) (rng_sx _ _) hth hGc hYc (hC σc n t (sx xs (11 * (n : Int) + 1)) (sx xs (11 * (n : Int) + 2)) hV hn (rng_sx _ _) (rng_sx _ _)) (fun σ9 E9 h9 => h9.2)) wsL_109 hdL_operator ⟨Nat.le_of_ble_eq_true rfl, Nat.le_of_ble_eq_true rfl⟩ rfl rfl (rest := []) (Nat.le_of_ble_eq_true rfl) dLw_287 (fun σ1 r1 v1 gr1 hq1 => ?_)
  obtain ⟨hq1, hG1, hY1, hE1⟩ := hq1
  intro H locs ls hLS hl
  have hV1 : VH σ1 th (n + 1) t := by rcases hq1 with ⟨_, q, _⟩ | ⟨_, q, _⟩; exact q; exact q.1
  have hth1 : kO σ1 th 12 := hth.up hE1
  refine lv_istore (lv' := [(5, .int (i32 r1)), (0, .ref b), (1, .ref th), (2, .ref rm), (3, .ref o), (4, .int (i32 (11 * (n : Int))))]) B.1 B.2.1 dLw_290 hl (by decide) rfl (fun ls hl => ?_)
  refine lv_aload_n B.1 B.2.1 dLw_292 rfl (lv_at hl 3 rfl) ?_
  refine lv_aload_n B.1 B.2.1 dLw_293 rfl (lv_at hl 1 rfl) ?_
  refine lv_iload B.1 B.2.1 dLw_294 (lv_at hl 5 rfl) ?_
  refine lv_iconst (v := i32 1) B.1 B.2.1 dLw_296 (by decide) ?_
  refine lv_iadd B.1 B.2.1 dLw_297 ?_
  rw [i32_add]
  refine l_ld B hX hbl hL5 hLS.2.2.1 ⟨by omega, by omega⟩ dLw_298 ?_
  refine lv_aload_n B.1 B.2.1 dLw_299 rfl (lv_at hl 1 rfl) ?_
  refine lv_iload B.1 B.2.1 dLw_300 (lv_at hl 5 rfl) ?_
  refine lv_iconst (v := i32 2) B.1 B.2.1 dLw_302 (by decide) ?_
  refine lv_iadd B.1 B.2.1 dLw_303 ?_
  rw [i32_add]
  refine l_ld B hX hbl hL5 hLS.2.2.1 ⟨by omega, by omega⟩ dLw_304 ?_
  refine l_R B hLS hl (As := [.int (i32 (sx xs (11 * (n : Int) + 1))), .int (i32 (sx xs (11 * (n : Int) + 2)))]) (ok_X16_operator_ hT.1 σr (sx xs (11 * (n : Int) + 1)) (sx xs (11 * (n : Int) + 2)) (rng_sx _ _) (rng_sx _ _) hGr hSr (hR σr (sx xs (11 * (n : Int) + 1)) (sx xs (11 * (n : Int) + 2)) hR0 (rng_sx _ _) (rng_sx _ _))) (fun σ9 w9 h9 => by obtain ⟨r8, rfl, _, hG8, hS8⟩ := h9; exact hS8.2.2.2.2.trans hSr.2.2.2.2.symm) (fun _ _ h9 => h9.1) wcL_112 hd_X16_operator_ ⟨Nat.le_of_ble_eq_true rfl, Nat.le_of_ble_eq_true rfl⟩ hSr.1 rfl rfl (rest := []) (Nat.le_of_ble_eq_true rfl) dLw_305 (fun σ2 w9 hq2 => ?_)
  obtain ⟨r2, rfl, hq2, hG2, hS2⟩ := hq2
  intro H locs ls hLS hl
  refine W.eq (g2 := F0 m 308 ls [.long r2]) rfl ?_
  refine lv_lstore (lv' := [(6, .long r2), (5, .int (i32 r1)), (0, .ref b), (1, .ref th), (2, .ref rm), (3, .ref o), (4, .int (i32 (11 * (n : Int))))]) B.1 B.2.1 dLw_308 hl (by decide) rfl (fun ls hl => ?_)
  refine lv_goto (tgt := 1116) B.1 B.2.1 dLw_310 (by decide) ?_
  exact k _ _ _ _ ⟨⟨hV1, hG1, hY1, hth1⟩, hq2.1, hG2, hS2, hq2.2.trans ht⟩ H locs ls hLS (lv_sub (l' := [(0, .ref b), (1, .ref th), (2, .ref rm), (3, .ref o), (4, .int (i32 (11 * (n : Int))))]) hl [2, 3, 4, 5, 6] rfl)
set_option maxRecDepth 20000 in
theorem lc_give (B : Cx p s m args c code 8 RL D cA tys (A0 s)) (hl0 : l.stackTraces = false) (hT : TyC cA tys) (hX : va_X b L xs s s.heap) (hbl : b < s.heap.size) (hL5 : L ≤ 5632) (hn : n < 512) (hi : 11 * (n : Int) + 11 ≤ (L : Int)) (hC : ∀ (σ : Sg) (n : Nat) (t : Int) (a0 : Int) (a1 : Int) (a2 : Int64) (a3 : Int64) (a4 : Int64) (a5 : Int64), VH σ th n t → n < 512 → rng a0 → rng a1 → wp_X12_give th a0 a1 a2 a3 a4 a5 σ (fun σ' _ => VH σ' th (n + 1) t) (fun σ' E => VH σ' th (n + 1) t ∧ (E = "java/lang/IndexOutOfBoundsException" ∨ E = "java/lang/IllegalStateException" ∨ E = "java/lang/IllegalArgumentException" ∨ E = "java/lang/UnsupportedOperationException"))) (hR : ∀ (σ : Sg) (a0 : Int) (a1 : Int) (a2 : Int64) (a3 : Int64) (a4 : Int64) (a5 : Int64), VR σ → rng a0 → rng a1 → wp_X16_give ra jx rm a0 a1 a2 a3 a4 a5 σ (fun σ' (_ : Int) => VR σ' ∧ gI σ' rm 3 = gI σ rm 3) (fun _ _ => False)) (k : ∀ t σc σr v, LIv VH VR dm ra jx th rm (n + 1) t σc σr → JLw p l e s m args below meth c D cA o Q σc σr v 1116 [(0, .ref b), (1, .ref th), (2, .ref rm), (3, .ref o), (4, .int (i32 (11 * (n : Int))))] []) : ∀ t σc σr v, LIv VH VR dm ra jx th rm n t σc σr → JLw p l e s m args below meth c D cA o Q σc σr v 313 [(0, .ref b), (1, .ref th), (2, .ref rm), (3, .ref o), (4, .int (i32 (11 * (n : Int))))] [] := by
  intro t σc σr v hI H locs ls hLS hl
  obtain ⟨⟨hV, hGc, hYc, hth⟩, hR0, hGr, hSr, ht⟩ := hI
  refine lv_aload_n B.1 B.2.1 dLw_313 rfl (lv_at hl 1 rfl) ?_
  refine lv_aload_n B.1 B.2.1 dLw_314 rfl (lv_at hl 0 rfl) ?_
  refine lv_iload B.1 B.2.1 dLw_315 (lv_at hl 4 rfl) ?_
  refine lv_iconst (v := i32 1) B.1 B.2.1 dLw_317 (by decide) ?_
  refine lv_iadd B.1 B.2.1 dLw_318 ?_
  rw [i32_add]
  refine l_ld B hX hbl hL5 hLS.2.2.1 ⟨by omega, by omega⟩ dLw_319 ?_
  refine lv_aload_n B.1 B.2.1 dLw_320 rfl (lv_at hl 0 rfl) ?_
  refine lv_iload B.1 B.2.1 dLw_321 (lv_at hl 4 rfl) ?_
  refine lv_iconst (v := i32 2) B.1 B.2.1 dLw_323 (by decide) ?_
  refine lv_iadd B.1 B.2.1 dLw_324 ?_
  rw [i32_add]
  refine l_ld B hX hbl hL5 hLS.2.2.1 ⟨by omega, by omega⟩ dLw_325 ?_
  refine lv_aload_n B.1 B.2.1 dLw_326 rfl (lv_at hl 0 rfl) ?_
  refine lv_iload B.1 B.2.1 dLw_327 (lv_at hl 4 rfl) ?_
  refine lv_iconst (v := i32 3) B.1 B.2.1 dLw_329 (by decide) ?_
  refine lv_iadd B.1 B.2.1 dLw_330 ?_
  rw [i32_add]
  refine l_ld B hX hbl hL5 hLS.2.2.1 ⟨by omega, by omega⟩ dLw_331 ?_
  refine lv_i2l B.1 B.2.1 dLw_332 (i32_i64 (rng_sx _ _)) ?_
  refine lv_bipush (v := i32 32) B.1 B.2.1 dLw_333 (by decide) ?_
  refine lv_lshl B.1 B.2.1 dLw_335 rfl ?_
  refine lv_aload_n B.1 B.2.1 dLw_336 rfl (lv_at hl 0 rfl) ?_
  refine lv_iload B.1 B.2.1 dLw_337 (lv_at hl 4 rfl) ?_
  refine lv_iconst (v := i32 4) B.1 B.2.1 dLw_339 (by decide) ?_
  refine lv_iadd B.1 B.2.1 dLw_340 ?_
  rw [i32_add]
  refine l_ld B hX hbl hL5 hLS.2.2.1 ⟨by omega, by omega⟩ dLw_341 ?_
  refine lv_i2l B.1 B.2.1 dLw_342 (i32_i64 (rng_sx _ _)) ?_
  refine lv_ldc2 B.1 B.2.1 B.2.2.1 (B.2.2.2.1 _ wkL_90) dLw_343 ?_
  refine lv_land B.1 B.2.1 dLw_346 ?_
  refine lv_lor B.1 B.2.1 dLw_347 ?_
  refine any_long (fun w1 => ?_)
  refine lv_aload_n B.1 B.2.1 dLw_348 rfl (lv_at hl 0 rfl) ?_
  refine lv_iload B.1 B.2.1 dLw_349 (lv_at hl 4 rfl) ?_
  refine lv_iconst (v := i32 5) B.1 B.2.1 dLw_351 (by decide) ?_
  refine lv_iadd B.1 B.2.1 dLw_352 ?_
  rw [i32_add]
  refine l_ld B hX hbl hL5 hLS.2.2.1 ⟨by omega, by omega⟩ dLw_353 ?_
  refine lv_i2l B.1 B.2.1 dLw_354 (i32_i64 (rng_sx _ _)) ?_
  refine lv_bipush (v := i32 32) B.1 B.2.1 dLw_355 (by decide) ?_
  refine lv_lshl B.1 B.2.1 dLw_357 rfl ?_
  refine lv_aload_n B.1 B.2.1 dLw_358 rfl (lv_at hl 0 rfl) ?_
  refine lv_iload B.1 B.2.1 dLw_359 (lv_at hl 4 rfl) ?_
  refine lv_bipush (v := i32 6) B.1 B.2.1 dLw_361 (by decide) ?_
  refine lv_iadd B.1 B.2.1 dLw_363 ?_
  rw [i32_add]
  refine l_ld B hX hbl hL5 hLS.2.2.1 ⟨by omega, by omega⟩ dLw_364 ?_
  refine lv_i2l B.1 B.2.1 dLw_365 (i32_i64 (rng_sx _ _)) ?_
  refine lv_ldc2 B.1 B.2.1 B.2.2.1 (B.2.2.2.1 _ wkL_90) dLw_366 ?_
  refine lv_land B.1 B.2.1 dLw_369 ?_
  refine lv_lor B.1 B.2.1 dLw_370 ?_
  refine any_long (fun w2 => ?_)
  refine lv_aload_n B.1 B.2.1 dLw_371 rfl (lv_at hl 0 rfl) ?_
  refine lv_iload B.1 B.2.1 dLw_372 (lv_at hl 4 rfl) ?_
  refine lv_bipush (v := i32 7) B.1 B.2.1 dLw_374 (by decide) ?_
  refine lv_iadd B.1 B.2.1 dLw_376 ?_
  rw [i32_add]
  refine l_ld B hX hbl hL5 hLS.2.2.1 ⟨by omega, by omega⟩ dLw_377 ?_
  refine lv_i2l B.1 B.2.1 dLw_378 (i32_i64 (rng_sx _ _)) ?_
  refine lv_bipush (v := i32 32) B.1 B.2.1 dLw_379 (by decide) ?_
  refine lv_lshl B.1 B.2.1 dLw_381 rfl ?_
  refine lv_aload_n B.1 B.2.1 dLw_382 rfl (lv_at hl 0 rfl) ?_
  refine lv_iload B.1 B.2.1 dLw_383 (lv_at hl 4 rfl) ?_
  refine lv_bipush (v := i32 8) B.1 B.2.1 dLw_385 (by decide) ?_
  refine lv_iadd B.1 B.2.1 dLw_387 ?_
  rw [i32_add]
  refine l_ld B hX hbl hL5 hLS.2.2.1 ⟨by omega, by omega⟩ dLw_388 ?_
  refine lv_i2l B.1 B.2.1 dLw_389 (i32_i64 (rng_sx _ _)) ?_
  refine lv_ldc2 B.1 B.2.1 B.2.2.1 (B.2.2.2.1 _ wkL_90) dLw_390 ?_
  refine lv_land B.1 B.2.1 dLw_393 ?_
  refine lv_lor B.1 B.2.1 dLw_394 ?_
  refine any_long (fun w3 => ?_)
  refine lv_aload_n B.1 B.2.1 dLw_395 rfl (lv_at hl 0 rfl) ?_
  refine lv_iload B.1 B.2.1 dLw_396 (lv_at hl 4 rfl) ?_
  refine lv_bipush (v := i32 9) B.1 B.2.1 dLw_398 (by decide) ?_
  refine lv_iadd B.1 B.2.1 dLw_400 ?_
  rw [i32_add]
  refine l_ld B hX hbl hL5 hLS.2.2.1 ⟨by omega, by omega⟩ dLw_401 ?_
  refine lv_i2l B.1 B.2.1 dLw_402 (i32_i64 (rng_sx _ _)) ?_
  refine lv_bipush (v := i32 32) B.1 B.2.1 dLw_403 (by decide) ?_
  refine lv_lshl B.1 B.2.1 dLw_405 rfl ?_
  refine lv_aload_n B.1 B.2.1 dLw_406 rfl (lv_at hl 0 rfl) ?_
  refine lv_iload B.1 B.2.1 dLw_407 (lv_at hl 4 rfl) ?_
  refine lv_bipush (v := i32 10) B.1 B.2.1 dLw_409 (by decide) ?_
  refine lv_iadd B.1 B.2.1 dLw_411 ?_
  rw [i32_add]
  refine l_ld B hX hbl hL5 hLS.2.2.1 ⟨by omega, by omega⟩ dLw_412 ?_
  refine lv_i2l B.1 B.2.1 dLw_413 (i32_i64 (rng_sx _ _)) ?_
  refine lv_ldc2 B.1 B.2.1 B.2.2.1 (B.2.2.2.1 _ wkL_90) dLw_414 ?_
  refine lv_land B.1 B.2.1 dLw_417 ?_
  refine lv_lor B.1 B.2.1 dLw_418 ?_
  refine any_long (fun w4 => ?_)
  refine lv_aload_n B.1 B.2.1 dLw_419 rfl (lv_at hl 3 rfl) ?_
  refine l_W (r9 := ()) B hLS hl (okw_give hl0 hT (rng_sx _ _) (rng_sx _ _) hth hGc hYc (hC σc n t (sx xs (11 * (n : Int) + 1)) (sx xs (11 * (n : Int) + 2)) w1 w2 w3 w4 hV hn (rng_sx _ _) (rng_sx _ _)) (fun σ9 E9 h9 => h9.2)) wsL_113 hdL_give ⟨Nat.le_of_ble_eq_true rfl, Nat.le_of_ble_eq_true rfl⟩ rfl rfl (rest := []) (Nat.le_of_ble_eq_true rfl) dLw_420 (fun σ1 r1 v1 gr1 hq1 => ?_)
  obtain ⟨hq1, hG1, hY1, hE1⟩ := hq1
  intro H locs ls hLS hl
  have hV1 : VH σ1 th (n + 1) t := by rcases hq1 with ⟨_, q, _⟩ | ⟨_, q, _⟩; exact q; exact q.1
  have hth1 : kO σ1 th 12 := hth.up hE1
  refine lv_istore (lv' := [(5, .int (i32 r1)), (0, .ref b), (1, .ref th), (2, .ref rm), (3, .ref o), (4, .int (i32 (11 * (n : Int))))]) B.1 B.2.1 dLw_423 hl (by decide) rfl (fun ls hl => ?_)
  refine lv_aload_n B.1 B.2.1 dLw_425 rfl (lv_at hl 3 rfl) ?_
  refine lv_aload_n B.1 B.2.1 dLw_426 rfl (lv_at hl 1 rfl) ?_
  refine lv_iload B.1 B.2.1 dLw_427 (lv_at hl 5 rfl) ?_
  refine lv_iconst (v := i32 1) B.1 B.2.1 dLw_429 (by decide) ?_
  refine lv_iadd B.1 B.2.1 dLw_430 ?_
  rw [i32_add]
  refine l_ld B hX hbl hL5 hLS.2.2.1 ⟨by omega, by omega⟩ dLw_431 ?_
  refine lv_aload_n B.1 B.2.1 dLw_432 rfl (lv_at hl 1 rfl) ?_
  refine lv_iload B.1 B.2.1 dLw_433 (lv_at hl 5 rfl) ?_
  refine lv_iconst (v := i32 2) B.1 B.2.1 dLw_435 (by decide) ?_
  refine lv_iadd B.1 B.2.1 dLw_436 ?_
  rw [i32_add]
  refine l_ld B hX hbl hL5 hLS.2.2.1 ⟨by omega, by omega⟩ dLw_437 ?_
  refine lv_aload_n B.1 B.2.1 dLw_438 rfl (lv_at hl 1 rfl) ?_
  refine lv_iload B.1 B.2.1 dLw_439 (lv_at hl 5 rfl) ?_
  refine lv_iconst (v := i32 3) B.1 B.2.1 dLw_441 (by decide) ?_
  refine lv_iadd B.1 B.2.1 dLw_442 ?_
  rw [i32_add]
  refine l_ld B hX hbl hL5 hLS.2.2.1 ⟨by omega, by omega⟩ dLw_443 ?_
  refine lv_i2l B.1 B.2.1 dLw_444 (i32_i64 (rng_sx _ _)) ?_
  refine lv_bipush (v := i32 32) B.1 B.2.1 dLw_445 (by decide) ?_
  refine lv_lshl B.1 B.2.1 dLw_447 rfl ?_
  refine lv_aload_n B.1 B.2.1 dLw_448 rfl (lv_at hl 1 rfl) ?_
  refine lv_iload B.1 B.2.1 dLw_449 (lv_at hl 5 rfl) ?_
  refine lv_iconst (v := i32 4) B.1 B.2.1 dLw_451 (by decide) ?_
  refine lv_iadd B.1 B.2.1 dLw_452 ?_
  rw [i32_add]
  refine l_ld B hX hbl hL5 hLS.2.2.1 ⟨by omega, by omega⟩ dLw_453 ?_
  refine lv_i2l B.1 B.2.1 dLw_454 (i32_i64 (rng_sx _ _)) ?_
  refine lv_ldc2 B.1 B.2.1 B.2.2.1 (B.2.2.2.1 _ wkL_90) dLw_455 ?_
  refine lv_land B.1 B.2.1 dLw_458 ?_
  refine lv_lor B.1 B.2.1 dLw_459 ?_
  refine any_long (fun w5 => ?_)
  refine lv_aload_n B.1 B.2.1 dLw_460 rfl (lv_at hl 1 rfl) ?_
  refine lv_iload B.1 B.2.1 dLw_461 (lv_at hl 5 rfl) ?_
  refine lv_iconst (v := i32 5) B.1 B.2.1 dLw_463 (by decide) ?_
  refine lv_iadd B.1 B.2.1 dLw_464 ?_
  rw [i32_add]
  refine l_ld B hX hbl hL5 hLS.2.2.1 ⟨by omega, by omega⟩ dLw_465 ?_
  refine lv_i2l B.1 B.2.1 dLw_466 (i32_i64 (rng_sx _ _)) ?_
  refine lv_bipush (v := i32 32) B.1 B.2.1 dLw_467 (by decide) ?_
  refine lv_lshl B.1 B.2.1 dLw_469 rfl ?_
  refine lv_aload_n B.1 B.2.1 dLw_470 rfl (lv_at hl 1 rfl) ?_
  refine lv_iload B.1 B.2.1 dLw_471 (lv_at hl 5 rfl) ?_
  refine lv_bipush (v := i32 6) B.1 B.2.1 dLw_473 (by decide) ?_
  refine lv_iadd B.1 B.2.1 dLw_475 ?_
  rw [i32_add]
  refine l_ld B hX hbl hL5 hLS.2.2.1 ⟨by omega, by omega⟩ dLw_476 ?_
  refine lv_i2l B.1 B.2.1 dLw_477 (i32_i64 (rng_sx _ _)) ?_
  refine lv_ldc2 B.1 B.2.1 B.2.2.1 (B.2.2.2.1 _ wkL_90) dLw_478 ?_
  refine lv_land B.1 B.2.1 dLw_481 ?_
  refine lv_lor B.1 B.2.1 dLw_482 ?_
  refine any_long (fun w6 => ?_)
  refine lv_aload_n B.1 B.2.1 dLw_483 rfl (lv_at hl 1 rfl) ?_
  refine lv_iload B.1 B.2.1 dLw_484 (lv_at hl 5 rfl) ?_
  refine lv_bipush (v := i32 7) B.1 B.2.1 dLw_486 (by decide) ?_
  refine lv_iadd B.1 B.2.1 dLw_488 ?_
  rw [i32_add]
  refine l_ld B hX hbl hL5 hLS.2.2.1 ⟨by omega, by omega⟩ dLw_489 ?_
  refine lv_i2l B.1 B.2.1 dLw_490 (i32_i64 (rng_sx _ _)) ?_
  refine lv_bipush (v := i32 32) B.1 B.2.1 dLw_491 (by decide) ?_
  refine lv_lshl B.1 B.2.1 dLw_493 rfl ?_
  refine lv_aload_n B.1 B.2.1 dLw_494 rfl (lv_at hl 1 rfl) ?_
  refine lv_iload B.1 B.2.1 dLw_495 (lv_at hl 5 rfl) ?_
  refine lv_bipush (v := i32 8) B.1 B.2.1 dLw_497 (by decide) ?_
  refine lv_iadd B.1 B.2.1 dLw_499 ?_
  rw [i32_add]
  refine l_ld B hX hbl hL5 hLS.2.2.1 ⟨by omega, by omega⟩ dLw_500 ?_
  refine lv_i2l B.1 B.2.1 dLw_501 (i32_i64 (rng_sx _ _)) ?_
  refine lv_ldc2 B.1 B.2.1 B.2.2.1 (B.2.2.2.1 _ wkL_90) dLw_502 ?_
  refine lv_land B.1 B.2.1 dLw_505 ?_
  refine lv_lor B.1 B.2.1 dLw_506 ?_
  refine any_long (fun w7 => ?_)
  refine lv_aload_n B.1 B.2.1 dLw_507 rfl (lv_at hl 1 rfl) ?_
  refine lv_iload B.1 B.2.1 dLw_508 (lv_at hl 5 rfl) ?_
  refine lv_bipush (v := i32 9) B.1 B.2.1 dLw_510 (by decide) ?_
  refine lv_iadd B.1 B.2.1 dLw_512 ?_
  rw [i32_add]
  refine l_ld B hX hbl hL5 hLS.2.2.1 ⟨by omega, by omega⟩ dLw_513 ?_
  refine lv_i2l B.1 B.2.1 dLw_514 (i32_i64 (rng_sx _ _)) ?_
  refine lv_bipush (v := i32 32) B.1 B.2.1 dLw_515 (by decide) ?_
  refine lv_lshl B.1 B.2.1 dLw_517 rfl ?_
  refine lv_aload_n B.1 B.2.1 dLw_518 rfl (lv_at hl 1 rfl) ?_
  refine lv_iload B.1 B.2.1 dLw_519 (lv_at hl 5 rfl) ?_
  refine lv_bipush (v := i32 10) B.1 B.2.1 dLw_521 (by decide) ?_
  refine lv_iadd B.1 B.2.1 dLw_523 ?_
  rw [i32_add]
  refine l_ld B hX hbl hL5 hLS.2.2.1 ⟨by omega, by omega⟩ dLw_524 ?_
  refine lv_i2l B.1 B.2.1 dLw_525 (i32_i64 (rng_sx _ _)) ?_
  refine lv_ldc2 B.1 B.2.1 B.2.2.1 (B.2.2.2.1 _ wkL_90) dLw_526 ?_
  refine lv_land B.1 B.2.1 dLw_529 ?_
  refine lv_lor B.1 B.2.1 dLw_530 ?_
  refine any_long (fun w8 => ?_)
  refine l_R B hLS hl (As := [.int (i32 (sx xs (11 * (n : Int) + 1))), .int (i32 (sx xs (11 * (n : Int) + 2))), .long w5, .long w6, .long w7, .long w8]) (ok_X16_give hT.1 σr (sx xs (11 * (n : Int) + 1)) (sx xs (11 * (n : Int) + 2)) w5 w6 w7 w8 (rng_sx _ _) (rng_sx _ _) hGr hSr (hR σr (sx xs (11 * (n : Int) + 1)) (sx xs (11 * (n : Int) + 2)) w5 w6 w7 w8 hR0 (rng_sx _ _) (rng_sx _ _))) (fun σ9 w9 h9 => by obtain ⟨r8, rfl, gr8, _, hG8, hS8⟩ := h9; exact hS8.2.2.2.2.trans hSr.2.2.2.2.symm) (fun _ _ h9 => h9.1) wcL_116 hd_X16_give ⟨Nat.le_of_ble_eq_true rfl, Nat.le_of_ble_eq_true rfl⟩ hSr.1 rfl rfl (rest := []) (Nat.le_of_ble_eq_true rfl) dLw_531 (fun σ2 w9 hq2 => ?_)
  obtain ⟨r2, rfl, gr2, hq2, hG2, hS2⟩ := hq2
  intro H locs ls hLS hl
  refine W.eq (g2 := F0 m 534 ls [.int (i32 r2)]) rfl ?_
  refine lv_istore (lv' := [(6, .int (i32 r2)), (5, .int (i32 r1)), (0, .ref b), (1, .ref th), (2, .ref rm), (3, .ref o), (4, .int (i32 (11 * (n : Int))))]) B.1 B.2.1 dLw_534 hl (by decide) rfl (fun ls hl => ?_)
  refine lv_goto (tgt := 1116) B.1 B.2.1 dLw_536 (by decide) ?_
  exact k _ _ _ _ ⟨⟨hV1, hG1, hY1, hth1⟩, hq2.1, hG2, hS2, hq2.2.trans ht⟩ H locs ls hLS (lv_sub (l' := [(0, .ref b), (1, .ref th), (2, .ref rm), (3, .ref o), (4, .int (i32 (11 * (n : Int))))]) hl [2, 3, 4, 5, 6] rfl)
set_option maxRecDepth 20000 in
theorem lc_close (B : Cx p s m args c code 8 RL D cA tys (A0 s)) (hl0 : l.stackTraces = false) (hT : TyC cA tys) (hX : va_X b L xs s s.heap) (hbl : b < s.heap.size) (hL5 : L ≤ 5632) (hn : n < 512) (hi : 11 * (n : Int) + 11 ≤ (L : Int)) (hC : ∀ (σ : Sg) (n : Nat) (t : Int) (a0 : Int), VH σ th n t → n < 512 → rng a0 → wp_X12_close th a0 σ (fun σ' _ => VH σ' th (n + 1) t) (fun σ' E => VH σ' th (n + 1) t ∧ (E = "java/lang/IndexOutOfBoundsException" ∨ E = "java/lang/IllegalStateException"))) (hR : ∀ (σ : Sg) (a0 : Int), VR σ → rng a0 → wp_X16_close ra jx rm a0 σ (fun σ' (_ : Int) => VR σ' ∧ gI σ' rm 3 = gI σ rm 3) (fun _ _ => False)) (k : ∀ t σc σr v, LIv VH VR dm ra jx th rm (n + 1) t σc σr → JLw p l e s m args below meth c D cA o Q σc σr v 1116 [(0, .ref b), (1, .ref th), (2, .ref rm), (3, .ref o), (4, .int (i32 (11 * (n : Int))))] []) : ∀ t σc σr v, LIv VH VR dm ra jx th rm n t σc σr → JLw p l e s m args below meth c D cA o Q σc σr v 539 [(0, .ref b), (1, .ref th), (2, .ref rm), (3, .ref o), (4, .int (i32 (11 * (n : Int))))] [] := by
  intro t σc σr v hI H locs ls hLS hl
  obtain ⟨⟨hV, hGc, hYc, hth⟩, hR0, hGr, hSr, ht⟩ := hI
  refine lv_aload_n B.1 B.2.1 dLw_539 rfl (lv_at hl 1 rfl) ?_
  refine lv_aload_n B.1 B.2.1 dLw_540 rfl (lv_at hl 0 rfl) ?_
  refine lv_iload B.1 B.2.1 dLw_541 (lv_at hl 4 rfl) ?_
  refine lv_iconst (v := i32 1) B.1 B.2.1 dLw_543 (by decide) ?_
  refine lv_iadd B.1 B.2.1 dLw_544 ?_
  rw [i32_add]
  refine l_ld B hX hbl hL5 hLS.2.2.1 ⟨by omega, by omega⟩ dLw_545 ?_
  refine lv_aload_n B.1 B.2.1 dLw_546 rfl (lv_at hl 3 rfl) ?_
  refine l_W (r9 := ()) B hLS hl (okw_close hl0 hT (rng_sx _ _) hth hGc hYc (hC σc n t (sx xs (11 * (n : Int) + 1)) hV hn (rng_sx _ _)) (fun σ9 E9 h9 => h9.2)) wsL_117 hdL_close ⟨Nat.le_of_ble_eq_true rfl, Nat.le_of_ble_eq_true rfl⟩ rfl rfl (rest := []) (Nat.le_of_ble_eq_true rfl) dLw_547 (fun σ1 r1 v1 gr1 hq1 => ?_)
  obtain ⟨hq1, hG1, hY1, hE1⟩ := hq1
  intro H locs ls hLS hl
  have hV1 : VH σ1 th (n + 1) t := by rcases hq1 with ⟨_, q, _⟩ | ⟨_, q, _⟩; exact q; exact q.1
  have hth1 : kO σ1 th 12 := hth.up hE1
  refine lv_istore (lv' := [(5, .int (i32 r1)), (0, .ref b), (1, .ref th), (2, .ref rm), (3, .ref o), (4, .int (i32 (11 * (n : Int))))]) B.1 B.2.1 dLw_550 hl (by decide) rfl (fun ls hl => ?_)
  refine lv_aload_n B.1 B.2.1 dLw_552 rfl (lv_at hl 3 rfl) ?_
  refine lv_aload_n B.1 B.2.1 dLw_553 rfl (lv_at hl 1 rfl) ?_
  refine lv_iload B.1 B.2.1 dLw_554 (lv_at hl 5 rfl) ?_
  refine lv_iconst (v := i32 1) B.1 B.2.1 dLw_556 (by decide) ?_
  refine lv_iadd B.1 B.2.1 dLw_557 ?_
  rw [i32_add]
  refine l_ld B hX hbl hL5 hLS.2.2.1 ⟨by omega, by omega⟩ dLw_558 ?_
  refine l_R B hLS hl (As := [.int (i32 (sx xs (11 * (n : Int) + 1)))]) (ok_X16_close hT.1 σr (sx xs (11 * (n : Int) + 1)) (rng_sx _ _) hGr hSr (hR σr (sx xs (11 * (n : Int) + 1)) hR0 (rng_sx _ _))) (fun σ9 w9 h9 => by obtain ⟨r8, rfl, ⟨gr8, gz8⟩, _, hG8, hS8⟩ := h9; exact hS8.2.2.2.2.trans hSr.2.2.2.2.symm) (fun _ _ h9 => h9.1) wcL_120 hd_X16_close ⟨Nat.le_of_ble_eq_true rfl, Nat.le_of_ble_eq_true rfl⟩ hSr.1 rfl rfl (rest := []) (Nat.le_of_ble_eq_true rfl) dLw_559 (fun σ2 w9 hq2 => ?_)
  obtain ⟨r2, rfl, ⟨gr2, gz2⟩, hq2, hG2, hS2⟩ := hq2
  intro H locs ls hLS hl
  refine W.eq (g2 := F0 m 562 ls [.int (i32 r2)]) rfl ?_
  refine lv_istore (lv' := [(6, .int (i32 r2)), (5, .int (i32 r1)), (0, .ref b), (1, .ref th), (2, .ref rm), (3, .ref o), (4, .int (i32 (11 * (n : Int))))]) B.1 B.2.1 dLw_562 hl (by decide) rfl (fun ls hl => ?_)
  refine lv_goto (tgt := 1116) B.1 B.2.1 dLw_564 (by decide) ?_
  exact k _ _ _ _ ⟨⟨hV1, hG1, hY1, hth1⟩, hq2.1, hG2, hS2, hq2.2.trans ht⟩ H locs ls hLS (lv_sub (l' := [(0, .ref b), (1, .ref th), (2, .ref rm), (3, .ref o), (4, .int (i32 (11 * (n : Int))))]) hl [2, 3, 4, 5, 6] rfl)
set_option maxRecDepth 20000 in
theorem lc_start (B : Cx p s m args c code 8 RL D cA tys (A0 s)) (hl0 : l.stackTraces = false) (hT : TyC cA tys) (hX : va_X b L xs s s.heap) (hbl : b < s.heap.size) (hL5 : L ≤ 5632) (hn : n < 512) (hi : 11 * (n : Int) + 11 ≤ (L : Int)) (hC : ∀ (σ : Sg) (n : Nat) (t : Int) (a0 : Int) (a1 : Int) (a2 : Int64), VH σ th n t → n < 512 → rng a0 → rng a1 → wp_X12_start th a0 a1 a2 σ (fun σ' _ => VH σ' th (n + 1) t) (fun σ' E => VH σ' th (n + 1) t ∧ (E = "java/lang/IllegalStateException" ∨ E = "java/lang/IllegalArgumentException"))) (hR : ∀ (σ : Sg) (a0 : Int) (a1 : Int) (a2 : Int64), VR σ → rng a0 → rng a1 → wp_X16_start ra jx rm a0 a1 a2 σ (fun σ' (_ : Int) => VR σ' ∧ gI σ' rm 3 = gI σ rm 3) (fun _ _ => False)) (k : ∀ t σc σr v, LIv VH VR dm ra jx th rm (n + 1) t σc σr → JLw p l e s m args below meth c D cA o Q σc σr v 1116 [(0, .ref b), (1, .ref th), (2, .ref rm), (3, .ref o), (4, .int (i32 (11 * (n : Int))))] []) : ∀ t σc σr v, LIv VH VR dm ra jx th rm n t σc σr → JLw p l e s m args below meth c D cA o Q σc σr v 567 [(0, .ref b), (1, .ref th), (2, .ref rm), (3, .ref o), (4, .int (i32 (11 * (n : Int))))] [] := by
  intro t σc σr v hI H locs ls hLS hl
  obtain ⟨⟨hV, hGc, hYc, hth⟩, hR0, hGr, hSr, ht⟩ := hI
  refine lv_aload_n B.1 B.2.1 dLw_567 rfl (lv_at hl 1 rfl) ?_
  refine lv_aload_n B.1 B.2.1 dLw_568 rfl (lv_at hl 0 rfl) ?_
  refine lv_iload B.1 B.2.1 dLw_569 (lv_at hl 4 rfl) ?_
  refine lv_iconst (v := i32 1) B.1 B.2.1 dLw_571 (by decide) ?_
  refine lv_iadd B.1 B.2.1 dLw_572 ?_
  rw [i32_add]
  refine l_ld B hX hbl hL5 hLS.2.2.1 ⟨by omega, by omega⟩ dLw_573 ?_
  refine lv_aload_n B.1 B.2.1 dLw_574 rfl (lv_at hl 0 rfl) ?_
  refine lv_iload B.1 B.2.1 dLw_575 (lv_at hl 4 rfl) ?_
  refine lv_iconst (v := i32 2) B.1 B.2.1 dLw_577 (by decide) ?_
  refine lv_iadd B.1 B.2.1 dLw_578 ?_
  rw [i32_add]
  refine l_ld B hX hbl hL5 hLS.2.2.1 ⟨by omega, by omega⟩ dLw_579 ?_
  refine lv_aload_n B.1 B.2.1 dLw_580 rfl (lv_at hl 0 rfl) ?_
  refine lv_iload B.1 B.2.1 dLw_581 (lv_at hl 4 rfl) ?_
  refine lv_iconst (v := i32 3) B.1 B.2.1 dLw_583 (by decide) ?_
  refine lv_iadd B.1 B.2.1 dLw_584 ?_
  rw [i32_add]
  refine l_ld B hX hbl hL5 hLS.2.2.1 ⟨by omega, by omega⟩ dLw_585 ?_
  refine lv_i2l B.1 B.2.1 dLw_586 (i32_i64 (rng_sx _ _)) ?_
  refine lv_bipush (v := i32 32) B.1 B.2.1 dLw_587 (by decide) ?_
  refine lv_lshl B.1 B.2.1 dLw_589 rfl ?_
  refine lv_aload_n B.1 B.2.1 dLw_590 rfl (lv_at hl 0 rfl) ?_
  refine lv_iload B.1 B.2.1 dLw_591 (lv_at hl 4 rfl) ?_
  refine lv_iconst (v := i32 4) B.1 B.2.1 dLw_593 (by decide) ?_
  refine lv_iadd B.1 B.2.1 dLw_594 ?_
  rw [i32_add]
  refine l_ld B hX hbl hL5 hLS.2.2.1 ⟨by omega, by omega⟩ dLw_595 ?_
  refine lv_i2l B.1 B.2.1 dLw_596 (i32_i64 (rng_sx _ _)) ?_
  refine lv_ldc2 B.1 B.2.1 B.2.2.1 (B.2.2.2.1 _ wkL_90) dLw_597 ?_
  refine lv_land B.1 B.2.1 dLw_600 ?_
  refine lv_lor B.1 B.2.1 dLw_601 ?_
  refine any_long (fun w1 => ?_)
  refine lv_aload_n B.1 B.2.1 dLw_602 rfl (lv_at hl 3 rfl) ?_
  refine l_W (r9 := ()) B hLS hl (okw_start hl0 hT (rng_sx _ _) (rng_sx _ _) hth hGc hYc (hC σc n t (sx xs (11 * (n : Int) + 1)) (sx xs (11 * (n : Int) + 2)) w1 hV hn (rng_sx _ _) (rng_sx _ _)) (fun σ9 E9 h9 => h9.2)) wsL_121 hdL_start ⟨Nat.le_of_ble_eq_true rfl, Nat.le_of_ble_eq_true rfl⟩ rfl rfl (rest := []) (Nat.le_of_ble_eq_true rfl) dLw_603 (fun σ1 r1 v1 gr1 hq1 => ?_)
  obtain ⟨hq1, hG1, hY1, hE1⟩ := hq1
  intro H locs ls hLS hl
  have hV1 : VH σ1 th (n + 1) t := by rcases hq1 with ⟨_, q, _⟩ | ⟨_, q, _⟩; exact q; exact q.1
  have hth1 : kO σ1 th 12 := hth.up hE1
  refine lv_istore (lv' := [(5, .int (i32 r1)), (0, .ref b), (1, .ref th), (2, .ref rm), (3, .ref o), (4, .int (i32 (11 * (n : Int))))]) B.1 B.2.1 dLw_606 hl (by decide) rfl (fun ls hl => ?_)
  refine lv_aload_n B.1 B.2.1 dLw_608 rfl (lv_at hl 3 rfl) ?_
  refine lv_aload_n B.1 B.2.1 dLw_609 rfl (lv_at hl 1 rfl) ?_
  refine lv_iload B.1 B.2.1 dLw_610 (lv_at hl 5 rfl) ?_
  refine lv_iconst (v := i32 1) B.1 B.2.1 dLw_612 (by decide) ?_
  refine lv_iadd B.1 B.2.1 dLw_613 ?_
  rw [i32_add]
  refine l_ld B hX hbl hL5 hLS.2.2.1 ⟨by omega, by omega⟩ dLw_614 ?_
  refine lv_aload_n B.1 B.2.1 dLw_615 rfl (lv_at hl 1 rfl) ?_
  refine lv_iload B.1 B.2.1 dLw_616 (lv_at hl 5 rfl) ?_
  refine lv_iconst (v := i32 2) B.1 B.2.1 dLw_618 (by decide) ?_
  refine lv_iadd B.1 B.2.1 dLw_619 ?_
  rw [i32_add]
  refine l_ld B hX hbl hL5 hLS.2.2.1 ⟨by omega, by omega⟩ dLw_620 ?_
  refine lv_aload_n B.1 B.2.1 dLw_621 rfl (lv_at hl 1 rfl) ?_
  refine lv_iload B.1 B.2.1 dLw_622 (lv_at hl 5 rfl) ?_
  refine lv_iconst (v := i32 3) B.1 B.2.1 dLw_624 (by decide) ?_
  refine lv_iadd B.1 B.2.1 dLw_625 ?_
  rw [i32_add]
  refine l_ld B hX hbl hL5 hLS.2.2.1 ⟨by omega, by omega⟩ dLw_626 ?_
  refine lv_i2l B.1 B.2.1 dLw_627 (i32_i64 (rng_sx _ _)) ?_
  refine lv_bipush (v := i32 32) B.1 B.2.1 dLw_628 (by decide) ?_
  refine lv_lshl B.1 B.2.1 dLw_630 rfl ?_
  refine lv_aload_n B.1 B.2.1 dLw_631 rfl (lv_at hl 1 rfl) ?_
  refine lv_iload B.1 B.2.1 dLw_632 (lv_at hl 5 rfl) ?_
  refine lv_iconst (v := i32 4) B.1 B.2.1 dLw_634 (by decide) ?_
  refine lv_iadd B.1 B.2.1 dLw_635 ?_
  rw [i32_add]
  refine l_ld B hX hbl hL5 hLS.2.2.1 ⟨by omega, by omega⟩ dLw_636 ?_
  refine lv_i2l B.1 B.2.1 dLw_637 (i32_i64 (rng_sx _ _)) ?_
  refine lv_ldc2 B.1 B.2.1 B.2.2.1 (B.2.2.2.1 _ wkL_90) dLw_638 ?_
  refine lv_land B.1 B.2.1 dLw_641 ?_
  refine lv_lor B.1 B.2.1 dLw_642 ?_
  refine any_long (fun w2 => ?_)
  refine l_R B hLS hl (As := [.int (i32 (sx xs (11 * (n : Int) + 1))), .int (i32 (sx xs (11 * (n : Int) + 2))), .long w2]) (ok_X16_start hT.1 σr (sx xs (11 * (n : Int) + 1)) (sx xs (11 * (n : Int) + 2)) w2 (rng_sx _ _) (rng_sx _ _) hGr hSr (hR σr (sx xs (11 * (n : Int) + 1)) (sx xs (11 * (n : Int) + 2)) w2 hR0 (rng_sx _ _) (rng_sx _ _))) (fun σ9 w9 h9 => by obtain ⟨r8, rfl, gr8, _, hG8, hS8⟩ := h9; exact hS8.2.2.2.2.trans hSr.2.2.2.2.symm) (fun _ _ h9 => h9.1) wcL_124 hd_X16_start ⟨Nat.le_of_ble_eq_true rfl, Nat.le_of_ble_eq_true rfl⟩ hSr.1 rfl rfl (rest := []) (Nat.le_of_ble_eq_true rfl) dLw_643 (fun σ2 w9 hq2 => ?_)
  obtain ⟨r2, rfl, gr2, hq2, hG2, hS2⟩ := hq2
  intro H locs ls hLS hl
  refine W.eq (g2 := F0 m 646 ls [.int (i32 r2)]) rfl ?_
  refine lv_istore (lv' := [(6, .int (i32 r2)), (5, .int (i32 r1)), (0, .ref b), (1, .ref th), (2, .ref rm), (3, .ref o), (4, .int (i32 (11 * (n : Int))))]) B.1 B.2.1 dLw_646 hl (by decide) rfl (fun ls hl => ?_)
  refine lv_goto (tgt := 1116) B.1 B.2.1 dLw_648 (by decide) ?_
  exact k _ _ _ _ ⟨⟨hV1, hG1, hY1, hth1⟩, hq2.1, hG2, hS2, hq2.2.trans ht⟩ H locs ls hLS (lv_sub (l' := [(0, .ref b), (1, .ref th), (2, .ref rm), (3, .ref o), (4, .int (i32 (11 * (n : Int))))]) hl [2, 3, 4, 5, 6] rfl)
set_option maxRecDepth 20000 in
theorem lc_turn (B : Cx p s m args c code 8 RL D cA tys (A0 s)) (hl0 : l.stackTraces = false) (hT : TyC cA tys) (hX : va_X b L xs s s.heap) (hbl : b < s.heap.size) (hL5 : L ≤ 5632) (hn : n < 512) (hi : 11 * (n : Int) + 11 ≤ (L : Int)) (hC : ∀ (σ : Sg) (n : Nat) (t : Int) (a0 : Int), VH σ th n t → n < 512 → rng a0 → wp_X12_turn th a0 σ (fun σ' _ => VH σ' th (n + 1) t) (fun σ' E => VH σ' th (n + 1) t ∧ (E = "java/lang/IllegalStateException" ∨ E = "java/lang/IllegalArgumentException"))) (hR : ∀ (σ : Sg) (a0 : Int), VR σ → rng a0 → wp_X16_turn ra jx rm a0 σ (fun σ' (_ : Int) => VR σ' ∧ gI σ' rm 3 = gI σ rm 3) (fun _ _ => False)) (k : ∀ t σc σr v, LIv VH VR dm ra jx th rm (n + 1) t σc σr → JLw p l e s m args below meth c D cA o Q σc σr v 1116 [(0, .ref b), (1, .ref th), (2, .ref rm), (3, .ref o), (4, .int (i32 (11 * (n : Int))))] []) : ∀ t σc σr v, LIv VH VR dm ra jx th rm n t σc σr → JLw p l e s m args below meth c D cA o Q σc σr v 651 [(0, .ref b), (1, .ref th), (2, .ref rm), (3, .ref o), (4, .int (i32 (11 * (n : Int))))] [] := by
  intro t σc σr v hI H locs ls hLS hl
  obtain ⟨⟨hV, hGc, hYc, hth⟩, hR0, hGr, hSr, ht⟩ := hI
  refine lv_aload_n B.1 B.2.1 dLw_651 rfl (lv_at hl 1 rfl) ?_
  refine lv_aload_n B.1 B.2.1 dLw_652 rfl (lv_at hl 0 rfl) ?_
  refine lv_iload B.1 B.2.1 dLw_653 (lv_at hl 4 rfl) ?_
  refine lv_iconst (v := i32 1) B.1 B.2.1 dLw_655 (by decide) ?_
  refine lv_iadd B.1 B.2.1 dLw_656 ?_
  rw [i32_add]
  refine l_ld B hX hbl hL5 hLS.2.2.1 ⟨by omega, by omega⟩ dLw_657 ?_
  refine lv_aload_n B.1 B.2.1 dLw_658 rfl (lv_at hl 3 rfl) ?_
  refine l_W (r9 := ()) B hLS hl (okw_turn hl0 hT (rng_sx _ _) hth hGc hYc (hC σc n t (sx xs (11 * (n : Int) + 1)) hV hn (rng_sx _ _)) (fun σ9 E9 h9 => h9.2)) wsL_125 hdL_turn ⟨Nat.le_of_ble_eq_true rfl, Nat.le_of_ble_eq_true rfl⟩ rfl rfl (rest := []) (Nat.le_of_ble_eq_true rfl) dLw_659 (fun σ1 r1 v1 gr1 hq1 => ?_)
  obtain ⟨hq1, hG1, hY1, hE1⟩ := hq1
  intro H locs ls hLS hl
  have hV1 : VH σ1 th (n + 1) t := by rcases hq1 with ⟨_, q, _⟩ | ⟨_, q, _⟩; exact q; exact q.1
  have hth1 : kO σ1 th 12 := hth.up hE1
  refine lv_istore (lv' := [(5, .int (i32 r1)), (0, .ref b), (1, .ref th), (2, .ref rm), (3, .ref o), (4, .int (i32 (11 * (n : Int))))]) B.1 B.2.1 dLw_662 hl (by decide) rfl (fun ls hl => ?_)
  refine lv_aload_n B.1 B.2.1 dLw_664 rfl (lv_at hl 3 rfl) ?_
  refine lv_aload_n B.1 B.2.1 dLw_665 rfl (lv_at hl 1 rfl) ?_
  refine lv_iload B.1 B.2.1 dLw_666 (lv_at hl 5 rfl) ?_
  refine lv_iconst (v := i32 1) B.1 B.2.1 dLw_668 (by decide) ?_
  refine lv_iadd B.1 B.2.1 dLw_669 ?_
  rw [i32_add]
  refine l_ld B hX hbl hL5 hLS.2.2.1 ⟨by omega, by omega⟩ dLw_670 ?_
  refine l_R B hLS hl (As := [.int (i32 (sx xs (11 * (n : Int) + 1)))]) (ok_X16_turn hT.1 σr (sx xs (11 * (n : Int) + 1)) (rng_sx _ _) hGr hSr (hR σr (sx xs (11 * (n : Int) + 1)) hR0 (rng_sx _ _))) (fun σ9 w9 h9 => by obtain ⟨r8, rfl, gr8, _, hG8, hS8⟩ := h9; exact hS8.2.2.2.2.trans hSr.2.2.2.2.symm) (fun _ _ h9 => h9.1) wcL_127 hd_X16_turn ⟨Nat.le_of_ble_eq_true rfl, Nat.le_of_ble_eq_true rfl⟩ hSr.1 rfl rfl (rest := []) (Nat.le_of_ble_eq_true rfl) dLw_671 (fun σ2 w9 hq2 => ?_)
  obtain ⟨r2, rfl, gr2, hq2, hG2, hS2⟩ := hq2
  intro H locs ls hLS hl
  refine W.eq (g2 := F0 m 674 ls [.int (i32 r2)]) rfl ?_
  refine lv_istore (lv' := [(6, .int (i32 r2)), (5, .int (i32 r1)), (0, .ref b), (1, .ref th), (2, .ref rm), (3, .ref o), (4, .int (i32 (11 * (n : Int))))]) B.1 B.2.1 dLw_674 hl (by decide) rfl (fun ls hl => ?_)
  refine lv_goto (tgt := 1116) B.1 B.2.1 dLw_676 (by decide) ?_
  exact k _ _ _ _ ⟨⟨hV1, hG1, hY1, hth1⟩, hq2.1, hG2, hS2, hq2.2.trans ht⟩ H locs ls hLS (lv_sub (l' := [(0, .ref b), (1, .ref th), (2, .ref rm), (3, .ref o), (4, .int (i32 (11 * (n : Int))))]) hl [2, 3, 4, 5, 6] rfl)
set_option maxRecDepth 20000 in
theorem lc_mark (B : Cx p s m args c code 8 RL D cA tys (A0 s)) (hl0 : l.stackTraces = false) (hT : TyC cA tys) (hX : va_X b L xs s s.heap) (hbl : b < s.heap.size) (hL5 : L ≤ 5632) (hn : n < 512) (hi : 11 * (n : Int) + 11 ≤ (L : Int)) (hC : ∀ (σ : Sg) (n : Nat) (t : Int), VH σ th n t → n < 512 → wp_X12_mark th σ (fun σ' _ => VH σ' th (n + 1) t) (fun σ' E => VH σ' th (n + 1) t ∧ (E = "java/lang/IllegalStateException"))) (hR : ∀ (σ : Sg), VR σ → wp_X16_mark ra jx rm σ (fun σ' (_ : Int) => VR σ' ∧ gI σ' rm 3 = gI σ rm 3) (fun _ _ => False)) (k : ∀ t σc σr v, LIv VH VR dm ra jx th rm (n + 1) t σc σr → JLw p l e s m args below meth c D cA o Q σc σr v 1116 [(0, .ref b), (1, .ref th), (2, .ref rm), (3, .ref o), (4, .int (i32 (11 * (n : Int))))] []) : ∀ t σc σr v, LIv VH VR dm ra jx th rm n t σc σr → JLw p l e s m args below meth c D cA o Q σc σr v 679 [(0, .ref b), (1, .ref th), (2, .ref rm), (3, .ref o), (4, .int (i32 (11 * (n : Int))))] [] := by
  intro t σc σr v hI H locs ls hLS hl
  obtain ⟨⟨hV, hGc, hYc, hth⟩, hR0, hGr, hSr, ht⟩ := hI
  refine lv_aload_n B.1 B.2.1 dLw_679 rfl (lv_at hl 1 rfl) ?_
  refine lv_aload_n B.1 B.2.1 dLw_680 rfl (lv_at hl 3 rfl) ?_
  refine l_W (r9 := ()) B hLS hl (okw_mark hl0 hT hth hGc hYc (hC σc n t hV hn) (fun σ9 E9 h9 => h9.2)) wsL_128 hdL_mark ⟨Nat.le_of_ble_eq_true rfl, Nat.le_of_ble_eq_true rfl⟩ rfl rfl (rest := []) (Nat.le_of_ble_eq_true rfl) dLw_681 (fun σ1 r1 v1 gr1 hq1 => ?_)
  obtain ⟨hq1, hG1, hY1, hE1⟩ := hq1
  intro H locs ls hLS hl
  have hV1 : VH σ1 th (n + 1) t := by rcases hq1 with ⟨_, q, _⟩ | ⟨_, q, _⟩; exact q; exact q.1
  have hth1 : kO σ1 th 12 := hth.up hE1
  refine lv_istore (lv' := [(5, .int (i32 r1)), (0, .ref b), (1, .ref th), (2, .ref rm), (3, .ref o), (4, .int (i32 (11 * (n : Int))))]) B.1 B.2.1 dLw_684 hl (by decide) rfl (fun ls hl => ?_)
  refine lv_aload_n B.1 B.2.1 dLw_686 rfl (lv_at hl 3 rfl) ?_
  refine l_R B hLS hl (As := []) (ok_X16_mark hT.1 σr hGr hSr (hR σr hR0)) (fun σ9 w9 h9 => by obtain ⟨r8, rfl, gr8, _, hG8, hS8⟩ := h9; exact hS8.2.2.2.2.trans hSr.2.2.2.2.symm) (fun _ _ h9 => h9.1) wcL_130 hd_X16_mark ⟨Nat.le_of_ble_eq_true rfl, Nat.le_of_ble_eq_true rfl⟩ hSr.1 rfl rfl (rest := []) (Nat.le_of_ble_eq_true rfl) dLw_687 (fun σ2 w9 hq2 => ?_)
  obtain ⟨r2, rfl, gr2, hq2, hG2, hS2⟩ := hq2
  intro H locs ls hLS hl
  refine W.eq (g2 := F0 m 690 ls [.int (i32 r2)]) rfl ?_
  refine lv_istore (lv' := [(6, .int (i32 r2)), (5, .int (i32 r1)), (0, .ref b), (1, .ref th), (2, .ref rm), (3, .ref o), (4, .int (i32 (11 * (n : Int))))]) B.1 B.2.1 dLw_690 hl (by decide) rfl (fun ls hl => ?_)
  refine lv_goto (tgt := 1116) B.1 B.2.1 dLw_692 (by decide) ?_
  exact k _ _ _ _ ⟨⟨hV1, hG1, hY1, hth1⟩, hq2.1, hG2, hS2, hq2.2.trans ht⟩ H locs ls hLS (lv_sub (l' := [(0, .ref b), (1, .ref th), (2, .ref rm), (3, .ref o), (4, .int (i32 (11 * (n : Int))))]) hl [2, 3, 4, 5, 6] rfl)
set_option maxRecDepth 20000 in
theorem lc_fail (B : Cx p s m args c code 8 RL D cA tys (A0 s)) (hl0 : l.stackTraces = false) (hT : TyC cA tys) (hX : va_X b L xs s s.heap) (hbl : b < s.heap.size) (hL5 : L ≤ 5632) (hn : n < 512) (hi : 11 * (n : Int) + 11 ≤ (L : Int)) (hC : ∀ (σ : Sg) (n : Nat) (t : Int), VH σ th n t → n < 512 → wp_X12_fail th σ (fun σ' _ => VH σ' th (n + 1) t) (fun σ' E => VH σ' th (n + 1) t ∧ (E = "java/lang/IllegalStateException"))) (hR : ∀ (σ : Sg), VR σ → wp_X16_fail_ ra jx rm σ (fun σ' (_ : Int) => VR σ' ∧ gI σ' rm 3 = gI σ rm 3) (fun _ _ => False)) (k : ∀ t σc σr v, LIv VH VR dm ra jx th rm (n + 1) t σc σr → JLw p l e s m args below meth c D cA o Q σc σr v 1116 [(0, .ref b), (1, .ref th), (2, .ref rm), (3, .ref o), (4, .int (i32 (11 * (n : Int))))] []) : ∀ t σc σr v, LIv VH VR dm ra jx th rm n t σc σr → JLw p l e s m args below meth c D cA o Q σc σr v 695 [(0, .ref b), (1, .ref th), (2, .ref rm), (3, .ref o), (4, .int (i32 (11 * (n : Int))))] [] := by
  intro t σc σr v hI H locs ls hLS hl
  obtain ⟨⟨hV, hGc, hYc, hth⟩, hR0, hGr, hSr, ht⟩ := hI
  refine lv_aload_n B.1 B.2.1 dLw_695 rfl (lv_at hl 1 rfl) ?_
  refine lv_aload_n B.1 B.2.1 dLw_696 rfl (lv_at hl 3 rfl) ?_
  refine l_W (r9 := ()) B hLS hl (okw_fail hl0 hT hth hGc hYc (hC σc n t hV hn) (fun σ9 E9 h9 => h9.2)) wsL_131 hdL_fail ⟨Nat.le_of_ble_eq_true rfl, Nat.le_of_ble_eq_true rfl⟩ rfl rfl (rest := []) (Nat.le_of_ble_eq_true rfl) dLw_697 (fun σ1 r1 v1 gr1 hq1 => ?_)
  obtain ⟨hq1, hG1, hY1, hE1⟩ := hq1
  intro H locs ls hLS hl
  have hV1 : VH σ1 th (n + 1) t := by rcases hq1 with ⟨_, q, _⟩ | ⟨_, q, _⟩; exact q; exact q.1
  have hth1 : kO σ1 th 12 := hth.up hE1
  refine lv_istore (lv' := [(5, .int (i32 r1)), (0, .ref b), (1, .ref th), (2, .ref rm), (3, .ref o), (4, .int (i32 (11 * (n : Int))))]) B.1 B.2.1 dLw_700 hl (by decide) rfl (fun ls hl => ?_)
  refine lv_aload_n B.1 B.2.1 dLw_702 rfl (lv_at hl 3 rfl) ?_
  refine l_R B hLS hl (As := []) (ok_X16_fail_ hT.1 σr hGr hSr (hR σr hR0)) (fun σ9 w9 h9 => by obtain ⟨r8, rfl, gr8, _, hG8, hS8⟩ := h9; exact hS8.2.2.2.2.trans hSr.2.2.2.2.symm) (fun _ _ h9 => h9.1) wcL_133 hd_X16_fail_ ⟨Nat.le_of_ble_eq_true rfl, Nat.le_of_ble_eq_true rfl⟩ hSr.1 rfl rfl (rest := []) (Nat.le_of_ble_eq_true rfl) dLw_703 (fun σ2 w9 hq2 => ?_)
  obtain ⟨r2, rfl, gr2, hq2, hG2, hS2⟩ := hq2
  intro H locs ls hLS hl
  refine W.eq (g2 := F0 m 706 ls [.int (i32 r2)]) rfl ?_
  refine lv_istore (lv' := [(6, .int (i32 r2)), (5, .int (i32 r1)), (0, .ref b), (1, .ref th), (2, .ref rm), (3, .ref o), (4, .int (i32 (11 * (n : Int))))]) B.1 B.2.1 dLw_706 hl (by decide) rfl (fun ls hl => ?_)
  refine lv_goto (tgt := 1116) B.1 B.2.1 dLw_708 (by decide) ?_
  exact k _ _ _ _ ⟨⟨hV1, hG1, hY1, hth1⟩, hq2.1, hG2, hS2, hq2.2.trans ht⟩ H locs ls hLS (lv_sub (l' := [(0, .ref b), (1, .ref th), (2, .ref rm), (3, .ref o), (4, .int (i32 (11 * (n : Int))))]) hl [2, 3, 4, 5, 6] rfl)
set_option maxRecDepth 20000 in
theorem lc_rescale (B : Cx p s m args c code 8 RL D cA tys (A0 s)) (hl0 : l.stackTraces = false) (hT : TyC cA tys) (hX : va_X b L xs s s.heap) (hbl : b < s.heap.size) (hL5 : L ≤ 5632) (hn : n < 512) (hi : 11 * (n : Int) + 11 ≤ (L : Int)) (hC : ∀ (σ : Sg) (n : Nat) (t : Int) (a0 : Int), VH σ th n t → n < 512 → rng a0 → wp_X12_rescale th a0 σ (fun σ' _ => VH σ' th (n + 1) t) (fun σ' E => VH σ' th (n + 1) t ∧ (E = "java/lang/IllegalStateException" ∨ E = "java/lang/IllegalArgumentException"))) (hR : ∀ (σ : Sg) (a0 : Int), VR σ → rng a0 → wp_X16_rescale ra jx rm a0 σ (fun σ' (_ : Int) => VR σ' ∧ gI σ' rm 3 = gI σ rm 3) (fun _ _ => False)) (k : ∀ t σc σr v, LIv VH VR dm ra jx th rm (n + 1) t σc σr → JLw p l e s m args below meth c D cA o Q σc σr v 1116 [(0, .ref b), (1, .ref th), (2, .ref rm), (3, .ref o), (4, .int (i32 (11 * (n : Int))))] []) : ∀ t σc σr v, LIv VH VR dm ra jx th rm n t σc σr → JLw p l e s m args below meth c D cA o Q σc σr v 711 [(0, .ref b), (1, .ref th), (2, .ref rm), (3, .ref o), (4, .int (i32 (11 * (n : Int))))] [] := by
  intro t σc σr v hI H locs ls hLS hl
  obtain ⟨⟨hV, hGc, hYc, hth⟩, hR0, hGr, hSr, ht⟩ := hI
  refine lv_aload_n B.1 B.2.1 dLw_711 rfl (lv_at hl 1 rfl) ?_
  refine lv_aload_n B.1 B.2.1 dLw_712 rfl (lv_at hl 0 rfl) ?_
  refine lv_iload B.1 B.2.1 dLw_713 (lv_at hl 4 rfl) ?_
  refine lv_iconst (v := i32 1) B.1 B.2.1 dLw_715 (by decide) ?_
  refine lv_iadd B.1 B.2.1 dLw_716 ?_
  rw [i32_add]
  refine l_ld B hX hbl hL5 hLS.2.2.1 ⟨by omega, by omega⟩ dLw_717 ?_
  refine lv_aload_n B.1 B.2.1 dLw_718 rfl (lv_at hl 3 rfl) ?_
  refine l_W (r9 := ()) B hLS hl (okw_rescale hl0 hT (rng_sx _ _) hth hGc hYc (hC σc n t (sx xs (11 * (n : Int) + 1)) hV hn (rng_sx _ _)) (fun σ9 E9 h9 => h9.2)) wsL_134 hdL_rescale ⟨Nat.le_of_ble_eq_true rfl, Nat.le_of_ble_eq_true rfl⟩ rfl rfl (rest := []) (Nat.le_of_ble_eq_true rfl) dLw_719 (fun σ1 r1 v1 gr1 hq1 => ?_)
  obtain ⟨hq1, hG1, hY1, hE1⟩ := hq1
  intro H locs ls hLS hl
  have hV1 : VH σ1 th (n + 1) t := by rcases hq1 with ⟨_, q, _⟩ | ⟨_, q, _⟩; exact q; exact q.1
  have hth1 : kO σ1 th 12 := hth.up hE1
  refine lv_istore (lv' := [(5, .int (i32 r1)), (0, .ref b), (1, .ref th), (2, .ref rm), (3, .ref o), (4, .int (i32 (11 * (n : Int))))]) B.1 B.2.1 dLw_722 hl (by decide) rfl (fun ls hl => ?_)
  refine lv_aload_n B.1 B.2.1 dLw_724 rfl (lv_at hl 3 rfl) ?_
  refine lv_aload_n B.1 B.2.1 dLw_725 rfl (lv_at hl 1 rfl) ?_
  refine lv_iload B.1 B.2.1 dLw_726 (lv_at hl 5 rfl) ?_
  refine lv_iconst (v := i32 1) B.1 B.2.1 dLw_728 (by decide) ?_
  refine lv_iadd B.1 B.2.1 dLw_729 ?_
  rw [i32_add]
  refine l_ld B hX hbl hL5 hLS.2.2.1 ⟨by omega, by omega⟩ dLw_730 ?_
  refine l_R B hLS hl (As := [.int (i32 (sx xs (11 * (n : Int) + 1)))]) (ok_X16_rescale hT.1 σr (sx xs (11 * (n : Int) + 1)) (rng_sx _ _) hGr hSr (hR σr (sx xs (11 * (n : Int) + 1)) hR0 (rng_sx _ _))) (fun σ9 w9 h9 => by obtain ⟨r8, rfl, gr8, _, hG8, hS8⟩ := h9; exact hS8.2.2.2.2.trans hSr.2.2.2.2.symm) (fun _ _ h9 => h9.1) wcL_136 hd_X16_rescale ⟨Nat.le_of_ble_eq_true rfl, Nat.le_of_ble_eq_true rfl⟩ hSr.1 rfl rfl (rest := []) (Nat.le_of_ble_eq_true rfl) dLw_731 (fun σ2 w9 hq2 => ?_)
  obtain ⟨r2, rfl, gr2, hq2, hG2, hS2⟩ := hq2
  intro H locs ls hLS hl
  refine W.eq (g2 := F0 m 734 ls [.int (i32 r2)]) rfl ?_
  refine lv_istore (lv' := [(6, .int (i32 r2)), (5, .int (i32 r1)), (0, .ref b), (1, .ref th), (2, .ref rm), (3, .ref o), (4, .int (i32 (11 * (n : Int))))]) B.1 B.2.1 dLw_734 hl (by decide) rfl (fun ls hl => ?_)
  refine lv_goto (tgt := 1116) B.1 B.2.1 dLw_736 (by decide) ?_
  exact k _ _ _ _ ⟨⟨hV1, hG1, hY1, hth1⟩, hq2.1, hG2, hS2, hq2.2.trans ht⟩ H locs ls hLS (lv_sub (l' := [(0, .ref b), (1, .ref th), (2, .ref rm), (3, .ref o), (4, .int (i32 (11 * (n : Int))))]) hl [2, 3, 4, 5, 6] rfl)
set_option maxRecDepth 20000 in
theorem lc_crash (B : Cx p s m args c code 8 RL D cA tys (A0 s)) (hl0 : l.stackTraces = false) (hT : TyC cA tys) (hX : va_X b L xs s s.heap) (hbl : b < s.heap.size) (hL5 : L ≤ 5632) (hn : n < 512) (hi : 11 * (n : Int) + 11 ≤ (L : Int)) (hC : ∀ (σ : Sg) (n : Nat) (t : Int) (a0 : Int), VH σ th n t → n < 512 → rng a0 → wp_X12_crash th a0 σ (fun σ' _ => VH σ' th (n + 1) t) (fun σ' E => VH σ' th (n + 1) t ∧ (E = "java/lang/IllegalStateException" ∨ E = "java/lang/IllegalArgumentException"))) (hR : ∀ (σ : Sg) (a0 : Int), VR σ → rng a0 → wp_X16_crash ra jx rm a0 σ (fun σ' (_ : Unit) => VR σ' ∧ gI σ' rm 3 = gI σ rm 3) (fun _ _ => False)) (k : ∀ t σc σr v, LIv VH VR dm ra jx th rm (n + 1) t σc σr → JLw p l e s m args below meth c D cA o Q σc σr v 1116 [(0, .ref b), (1, .ref th), (2, .ref rm), (3, .ref o), (4, .int (i32 (11 * (n : Int))))] []) : ∀ t σc σr v, LIv VH VR dm ra jx th rm n t σc σr → JLw p l e s m args below meth c D cA o Q σc σr v 739 [(0, .ref b), (1, .ref th), (2, .ref rm), (3, .ref o), (4, .int (i32 (11 * (n : Int))))] [] := by
  intro t σc σr v hI H locs ls hLS hl
  obtain ⟨⟨hV, hGc, hYc, hth⟩, hR0, hGr, hSr, ht⟩ := hI
  refine lv_aload_n B.1 B.2.1 dLw_739 rfl (lv_at hl 1 rfl) ?_
  refine lv_aload_n B.1 B.2.1 dLw_740 rfl (lv_at hl 0 rfl) ?_
  refine lv_iload B.1 B.2.1 dLw_741 (lv_at hl 4 rfl) ?_
  refine lv_iconst (v := i32 1) B.1 B.2.1 dLw_743 (by decide) ?_
  refine lv_iadd B.1 B.2.1 dLw_744 ?_
  rw [i32_add]
  refine l_ld B hX hbl hL5 hLS.2.2.1 ⟨by omega, by omega⟩ dLw_745 ?_
  refine l_W (r9 := ()) B hLS hl (okw_crash hl0 hT (rng_sx _ _) hth hGc hYc (hC σc n t (sx xs (11 * (n : Int) + 1)) hV hn (rng_sx _ _)) (fun σ9 E9 h9 => h9.2)) wsL_137 hdL_crash ⟨Nat.le_of_ble_eq_true rfl, Nat.le_of_ble_eq_true rfl⟩ rfl rfl (rest := []) (Nat.le_of_ble_eq_true rfl) dLw_746 (fun σ1 r1 v1 gr1 hq1 => ?_)
  obtain ⟨hq1, hG1, hY1, hE1⟩ := hq1
  intro H locs ls hLS hl
  have hV1 : VH σ1 th (n + 1) t := by rcases hq1 with ⟨_, q, _⟩ | ⟨_, q, _⟩; exact q; exact q.1
  have hth1 : kO σ1 th 12 := hth.up hE1
  refine lv_istore (lv' := [(5, .int (i32 r1)), (0, .ref b), (1, .ref th), (2, .ref rm), (3, .ref o), (4, .int (i32 (11 * (n : Int))))]) B.1 B.2.1 dLw_749 hl (by decide) rfl (fun ls hl => ?_)
  refine lv_aload_n B.1 B.2.1 dLw_751 rfl (lv_at hl 3 rfl) ?_
  refine lv_aload_n B.1 B.2.1 dLw_752 rfl (lv_at hl 1 rfl) ?_
  refine lv_iload B.1 B.2.1 dLw_753 (lv_at hl 5 rfl) ?_
  refine lv_iconst (v := i32 1) B.1 B.2.1 dLw_755 (by decide) ?_
  refine lv_iadd B.1 B.2.1 dLw_756 ?_
  rw [i32_add]
  refine l_ld B hX hbl hL5 hLS.2.2.1 ⟨by omega, by omega⟩ dLw_757 ?_
  refine l_R B hLS hl (As := [.int (i32 (sx xs (11 * (n : Int) + 1)))]) (ok_X16_crash hT.1 σr (sx xs (11 * (n : Int) + 1)) (rng_sx _ _) hGr hSr (hR σr (sx xs (11 * (n : Int) + 1)) hR0 (rng_sx _ _))) (fun σ9 w9 h9 => by obtain ⟨rfl, _, hG8, hS8⟩ := h9; exact hS8.2.2.2.2.trans hSr.2.2.2.2.symm) (fun _ _ h9 => h9.1) wcL_140 hd_X16_crash ⟨Nat.le_of_ble_eq_true rfl, Nat.le_of_ble_eq_true rfl⟩ hSr.1 rfl rfl (rest := []) (Nat.le_of_ble_eq_true rfl) dLw_758 (fun σ2 w9 hq2 => ?_)
  obtain ⟨rfl, hq2, hG2, hS2⟩ := hq2
  intro H locs ls hLS hl
  refine W.eq (g2 := F0 m 761 ls []) rfl ?_
  refine lv_goto (tgt := 1116) B.1 B.2.1 dLw_761 (by decide) ?_
  exact k _ _ _ _ ⟨⟨hV1, hG1, hY1, hth1⟩, hq2.1, hG2, hS2, hq2.2.trans ht⟩ H locs ls hLS (lv_sub (l' := [(0, .ref b), (1, .ref th), (2, .ref rm), (3, .ref o), (4, .int (i32 (11 * (n : Int))))]) hl [1, 2, 3, 4, 5] rfl)
set_option maxRecDepth 20000 in
theorem lc_reopen (B : Cx p s m args c code 8 RL D cA tys (A0 s)) (hl0 : l.stackTraces = false) (hT : TyC cA tys) (hX : va_X b L xs s s.heap) (hbl : b < s.heap.size) (hL5 : L ≤ 5632) (hn : n < 512) (hi : 11 * (n : Int) + 11 ≤ (L : Int)) (hC : ∀ (σ : Sg) (n : Nat) (t : Int), VH σ th n t → n < 512 → wp_X12_reopen th σ (fun σ' _ => VH σ' th (n + 1) t) (fun σ' E => VH σ' th (n + 1) t ∧ (E = "java/lang/IllegalStateException"))) (hR : ∀ (σ : Sg), VR σ → wp_X16_reopen ra jx rm σ (fun σ' (_ : Int) => VR σ' ∧ gI σ' rm 3 = gI σ rm 3) (fun _ _ => False)) (k : ∀ t σc σr v, LIv VH VR dm ra jx th rm (n + 1) t σc σr → JLw p l e s m args below meth c D cA o Q σc σr v 1116 [(0, .ref b), (1, .ref th), (2, .ref rm), (3, .ref o), (4, .int (i32 (11 * (n : Int))))] []) : ∀ t σc σr v, LIv VH VR dm ra jx th rm n t σc σr → JLw p l e s m args below meth c D cA o Q σc σr v 764 [(0, .ref b), (1, .ref th), (2, .ref rm), (3, .ref o), (4, .int (i32 (11 * (n : Int))))] [] := by
  intro t σc σr v hI H locs ls hLS hl
  obtain ⟨⟨hV, hGc, hYc, hth⟩, hR0, hGr, hSr, ht⟩ := hI
  refine lv_aload_n B.1 B.2.1 dLw_764 rfl (lv_at hl 1 rfl) ?_
  refine lv_aload_n B.1 B.2.1 dLw_765 rfl (lv_at hl 3 rfl) ?_
  refine l_W (r9 := ()) B hLS hl (okw_reopen hl0 hT hth hGc hYc (hC σc n t hV hn) (fun σ9 E9 h9 => h9.2)) wsL_141 hdL_reopen ⟨Nat.le_of_ble_eq_true rfl, Nat.le_of_ble_eq_true rfl⟩ rfl rfl (rest := []) (Nat.le_of_ble_eq_true rfl) dLw_766 (fun σ1 r1 v1 gr1 hq1 => ?_)
  obtain ⟨hq1, hG1, hY1, hE1⟩ := hq1
  intro H locs ls hLS hl
  have hV1 : VH σ1 th (n + 1) t := by rcases hq1 with ⟨_, q, _⟩ | ⟨_, q, _⟩; exact q; exact q.1
  have hth1 : kO σ1 th 12 := hth.up hE1
  refine lv_istore (lv' := [(5, .int (i32 r1)), (0, .ref b), (1, .ref th), (2, .ref rm), (3, .ref o), (4, .int (i32 (11 * (n : Int))))]) B.1 B.2.1 dLw_769 hl (by decide) rfl (fun ls hl => ?_)
  refine lv_aload_n B.1 B.2.1 dLw_771 rfl (lv_at hl 3 rfl) ?_
  refine l_R B hLS hl (As := []) (ok_X16_reopen hT.1 σr hGr hSr (hR σr hR0)) (fun σ9 w9 h9 => by obtain ⟨r8, rfl, gr8, _, hG8, hS8⟩ := h9; exact hS8.2.2.2.2.trans hSr.2.2.2.2.symm) (fun _ _ h9 => h9.1) wcL_143 hd_X16_reopen ⟨Nat.le_of_ble_eq_true rfl, Nat.le_of_ble_eq_true rfl⟩ hSr.1 rfl rfl (rest := []) (Nat.le_of_ble_eq_true rfl) dLw_772 (fun σ2 w9 hq2 => ?_)
  obtain ⟨r2, rfl, gr2, hq2, hG2, hS2⟩ := hq2
  intro H locs ls hLS hl
  refine W.eq (g2 := F0 m 775 ls [.int (i32 r2)]) rfl ?_
  refine lv_istore (lv' := [(6, .int (i32 r2)), (5, .int (i32 r1)), (0, .ref b), (1, .ref th), (2, .ref rm), (3, .ref o), (4, .int (i32 (11 * (n : Int))))]) B.1 B.2.1 dLw_775 hl (by decide) rfl (fun ls hl => ?_)
  refine lv_goto (tgt := 1116) B.1 B.2.1 dLw_777 (by decide) ?_
  exact k _ _ _ _ ⟨⟨hV1, hG1, hY1, hth1⟩, hq2.1, hG2, hS2, hq2.2.trans ht⟩ H locs ls hLS (lv_sub (l' := [(0, .ref b), (1, .ref th), (2, .ref rm), (3, .ref o), (4, .int (i32 (11 * (n : Int))))]) hl [2, 3, 4, 5, 6] rfl)
set_option maxRecDepth 20000 in
theorem lc_visible (B : Cx p s m args c code 8 RL D cA tys (A0 s)) (hl0 : l.stackTraces = false) (hT : TyC cA tys) (hX : va_X b L xs s s.heap) (hbl : b < s.heap.size) (hL5 : L ≤ 5632) (hn : n < 512) (hi : 11 * (n : Int) + 11 ≤ (L : Int)) (hC : ∀ (σ : Sg) (n : Nat) (t : Int) (a0 : Int), VH σ th n t → n < 512 → rng a0 → wp_X12_visible th a0 σ (fun σ' _ => VH σ' th (n + 1) t) (fun σ' E => VH σ' th (n + 1) t ∧ (E = "java/lang/IndexOutOfBoundsException"))) (hR : ∀ (σ : Sg) (a0 : Int), VR σ → rng a0 → wp_X16_visible ra jx rm a0 σ (fun σ' (_ : Int) => VR σ' ∧ gI σ' rm 3 = gI σ rm 3) (fun _ _ => False)) (k : ∀ t σc σr v, LIv VH VR dm ra jx th rm (n + 1) t σc σr → JLw p l e s m args below meth c D cA o Q σc σr v 1116 [(0, .ref b), (1, .ref th), (2, .ref rm), (3, .ref o), (4, .int (i32 (11 * (n : Int))))] []) : ∀ t σc σr v, LIv VH VR dm ra jx th rm n t σc σr → JLw p l e s m args below meth c D cA o Q σc σr v 780 [(0, .ref b), (1, .ref th), (2, .ref rm), (3, .ref o), (4, .int (i32 (11 * (n : Int))))] [] := by
  intro t σc σr v hI H locs ls hLS hl
  obtain ⟨⟨hV, hGc, hYc, hth⟩, hR0, hGr, hSr, ht⟩ := hI
  refine lv_aload_n B.1 B.2.1 dLw_780 rfl (lv_at hl 1 rfl) ?_
  refine lv_aload_n B.1 B.2.1 dLw_781 rfl (lv_at hl 0 rfl) ?_
  refine lv_iload B.1 B.2.1 dLw_782 (lv_at hl 4 rfl) ?_
  refine lv_iconst (v := i32 1) B.1 B.2.1 dLw_784 (by decide) ?_
  refine lv_iadd B.1 B.2.1 dLw_785 ?_
  rw [i32_add]
  refine l_ld B hX hbl hL5 hLS.2.2.1 ⟨by omega, by omega⟩ dLw_786 ?_
  refine lv_aload_n B.1 B.2.1 dLw_787 rfl (lv_at hl 3 rfl) ?_
  refine l_W (r9 := ()) B hLS hl (okw_visible hl0 hT (rng_sx _ _) hth hGc hYc (hC σc n t (sx xs (11 * (n : Int) + 1)) hV hn (rng_sx _ _)) (fun σ9 E9 h9 => h9.2)) wsL_144 hdL_visible ⟨Nat.le_of_ble_eq_true rfl, Nat.le_of_ble_eq_true rfl⟩ rfl rfl (rest := []) (Nat.le_of_ble_eq_true rfl) dLw_788 (fun σ1 r1 v1 gr1 hq1 => ?_)
  obtain ⟨hq1, hG1, hY1, hE1⟩ := hq1
  intro H locs ls hLS hl
  have hV1 : VH σ1 th (n + 1) t := by rcases hq1 with ⟨_, q, _⟩ | ⟨_, q, _⟩; exact q; exact q.1
  have hth1 : kO σ1 th 12 := hth.up hE1
  refine lv_istore (lv' := [(5, .int (i32 r1)), (0, .ref b), (1, .ref th), (2, .ref rm), (3, .ref o), (4, .int (i32 (11 * (n : Int))))]) B.1 B.2.1 dLw_791 hl (by decide) rfl (fun ls hl => ?_)
  refine lv_aload_n B.1 B.2.1 dLw_793 rfl (lv_at hl 3 rfl) ?_
  refine lv_aload_n B.1 B.2.1 dLw_794 rfl (lv_at hl 1 rfl) ?_
  refine lv_iload B.1 B.2.1 dLw_795 (lv_at hl 5 rfl) ?_
  refine lv_iconst (v := i32 1) B.1 B.2.1 dLw_797 (by decide) ?_
  refine lv_iadd B.1 B.2.1 dLw_798 ?_
  rw [i32_add]
  refine l_ld B hX hbl hL5 hLS.2.2.1 ⟨by omega, by omega⟩ dLw_799 ?_
  refine l_R B hLS hl (As := [.int (i32 (sx xs (11 * (n : Int) + 1)))]) (ok_X16_visible hT.1 σr (sx xs (11 * (n : Int) + 1)) (rng_sx _ _) hGr hSr (hR σr (sx xs (11 * (n : Int) + 1)) hR0 (rng_sx _ _))) (fun σ9 w9 h9 => by obtain ⟨r8, rfl, gr8, _, hG8, hS8⟩ := h9; exact hS8.2.2.2.2.trans hSr.2.2.2.2.symm) (fun _ _ h9 => h9.1) wcL_146 hd_X16_visible ⟨Nat.le_of_ble_eq_true rfl, Nat.le_of_ble_eq_true rfl⟩ hSr.1 rfl rfl (rest := []) (Nat.le_of_ble_eq_true rfl) dLw_800 (fun σ2 w9 hq2 => ?_)
  obtain ⟨r2, rfl, gr2, hq2, hG2, hS2⟩ := hq2
  intro H locs ls hLS hl
  refine W.eq (g2 := F0 m 803 ls [.int (i32 r2)]) rfl ?_
  refine lv_istore (lv' := [(6, .int (i32 r2)), (5, .int (i32 r1)), (0, .ref b), (1, .ref th), (2, .ref rm), (3, .ref o), (4, .int (i32 (11 * (n : Int))))]) B.1 B.2.1 dLw_803 hl (by decide) rfl (fun ls hl => ?_)
  refine lv_goto (tgt := 1116) B.1 B.2.1 dLw_805 (by decide) ?_
  exact k _ _ _ _ ⟨⟨hV1, hG1, hY1, hth1⟩, hq2.1, hG2, hS2, hq2.2.trans ht⟩ H locs ls hLS (lv_sub (l' := [(0, .ref b), (1, .ref th), (2, .ref rm), (3, .ref o), (4, .int (i32 (11 * (n : Int))))]) hl [2, 3, 4, 5, 6] rfl)
set_option maxRecDepth 20000 in
theorem lc_row (B : Cx p s m args c code 8 RL D cA tys (A0 s)) (hl0 : l.stackTraces = false) (hT : TyC cA tys) (hX : va_X b L xs s s.heap) (hbl : b < s.heap.size) (hL5 : L ≤ 5632) (hn : n < 512) (hi : 11 * (n : Int) + 11 ≤ (L : Int)) (hC : ∀ (σ : Sg) (n : Nat) (t : Int) (a0 : Int) (a1 : Int) (a2 : Int), VH σ th n t → n < 512 → rng a0 → rng a1 → rng a2 → wp_X12_row th a0 a1 a2 σ (fun σ' _ => VH σ' th (n + 1) t) (fun σ' E => VH σ' th (n + 1) t ∧ (E = "java/lang/IndexOutOfBoundsException"))) (hR : ∀ (σ : Sg) (a0 : Int) (a1 : Int) (a2 : Int), VR σ → rng a0 → rng a1 → rng a2 → wp_X16_row ra jx rm a0 a1 a2 σ (fun σ' (_ : Int64) => VR σ' ∧ gI σ' rm 3 = gI σ rm 3) (fun _ _ => False)) (k : ∀ t σc σr v, LIv VH VR dm ra jx th rm (n + 1) t σc σr → JLw p l e s m args below meth c D cA o Q σc σr v 1116 [(0, .ref b), (1, .ref th), (2, .ref rm), (3, .ref o), (4, .int (i32 (11 * (n : Int))))] []) : ∀ t σc σr v, LIv VH VR dm ra jx th rm n t σc σr → JLw p l e s m args below meth c D cA o Q σc σr v 808 [(0, .ref b), (1, .ref th), (2, .ref rm), (3, .ref o), (4, .int (i32 (11 * (n : Int))))] [] := by
  intro t σc σr v hI H locs ls hLS hl
  obtain ⟨⟨hV, hGc, hYc, hth⟩, hR0, hGr, hSr, ht⟩ := hI
  refine lv_aload_n B.1 B.2.1 dLw_808 rfl (lv_at hl 1 rfl) ?_
  refine lv_aload_n B.1 B.2.1 dLw_809 rfl (lv_at hl 0 rfl) ?_
  refine lv_iload B.1 B.2.1 dLw_810 (lv_at hl 4 rfl) ?_
  refine lv_iconst (v := i32 1) B.1 B.2.1 dLw_812 (by decide) ?_
  refine lv_iadd B.1 B.2.1 dLw_813 ?_
  rw [i32_add]
  refine l_ld B hX hbl hL5 hLS.2.2.1 ⟨by omega, by omega⟩ dLw_814 ?_
  refine lv_aload_n B.1 B.2.1 dLw_815 rfl (lv_at hl 0 rfl) ?_
  refine lv_iload B.1 B.2.1 dLw_816 (lv_at hl 4 rfl) ?_
  refine lv_iconst (v := i32 2) B.1 B.2.1 dLw_818 (by decide) ?_
  refine lv_iadd B.1 B.2.1 dLw_819 ?_
  rw [i32_add]
  refine l_ld B hX hbl hL5 hLS.2.2.1 ⟨by omega, by omega⟩ dLw_820 ?_
  refine lv_aload_n B.1 B.2.1 dLw_821 rfl (lv_at hl 0 rfl) ?_
  refine lv_iload B.1 B.2.1 dLw_822 (lv_at hl 4 rfl) ?_
  refine lv_iconst (v := i32 3) B.1 B.2.1 dLw_824 (by decide) ?_
  refine lv_iadd B.1 B.2.1 dLw_825 ?_
  rw [i32_add]
  refine l_ld B hX hbl hL5 hLS.2.2.1 ⟨by omega, by omega⟩ dLw_826 ?_
  refine lv_aload_n B.1 B.2.1 dLw_827 rfl (lv_at hl 3 rfl) ?_
  refine l_W (r9 := ()) B hLS hl (okw_row hl0 hT (rng_sx _ _) (rng_sx _ _) (rng_sx _ _) hth hGc hYc (hC σc n t (sx xs (11 * (n : Int) + 1)) (sx xs (11 * (n : Int) + 2)) (sx xs (11 * (n : Int) + 3)) hV hn (rng_sx _ _) (rng_sx _ _) (rng_sx _ _)) (fun σ9 E9 h9 => h9.2)) wsL_147 hdL_row ⟨Nat.le_of_ble_eq_true rfl, Nat.le_of_ble_eq_true rfl⟩ rfl rfl (rest := []) (Nat.le_of_ble_eq_true rfl) dLw_828 (fun σ1 r1 v1 gr1 hq1 => ?_)
  obtain ⟨hq1, hG1, hY1, hE1⟩ := hq1
  intro H locs ls hLS hl
  have hV1 : VH σ1 th (n + 1) t := by rcases hq1 with ⟨_, q, _⟩ | ⟨_, q, _⟩; exact q; exact q.1
  have hth1 : kO σ1 th 12 := hth.up hE1
  refine lv_istore (lv' := [(5, .int (i32 r1)), (0, .ref b), (1, .ref th), (2, .ref rm), (3, .ref o), (4, .int (i32 (11 * (n : Int))))]) B.1 B.2.1 dLw_831 hl (by decide) rfl (fun ls hl => ?_)
  refine lv_aload_n B.1 B.2.1 dLw_833 rfl (lv_at hl 3 rfl) ?_
  refine lv_aload_n B.1 B.2.1 dLw_834 rfl (lv_at hl 1 rfl) ?_
  refine lv_iload B.1 B.2.1 dLw_835 (lv_at hl 5 rfl) ?_
  refine lv_iconst (v := i32 1) B.1 B.2.1 dLw_837 (by decide) ?_
  refine lv_iadd B.1 B.2.1 dLw_838 ?_
  rw [i32_add]
  refine l_ld B hX hbl hL5 hLS.2.2.1 ⟨by omega, by omega⟩ dLw_839 ?_
  refine lv_aload_n B.1 B.2.1 dLw_840 rfl (lv_at hl 1 rfl) ?_
  refine lv_iload B.1 B.2.1 dLw_841 (lv_at hl 5 rfl) ?_
  refine lv_iconst (v := i32 2) B.1 B.2.1 dLw_843 (by decide) ?_
  refine lv_iadd B.1 B.2.1 dLw_844 ?_
  rw [i32_add]
  refine l_ld B hX hbl hL5 hLS.2.2.1 ⟨by omega, by omega⟩ dLw_845 ?_
  refine lv_aload_n B.1 B.2.1 dLw_846 rfl (lv_at hl 1 rfl) ?_
  refine lv_iload B.1 B.2.1 dLw_847 (lv_at hl 5 rfl) ?_
  refine lv_iconst (v := i32 3) B.1 B.2.1 dLw_849 (by decide) ?_
  refine lv_iadd B.1 B.2.1 dLw_850 ?_
  rw [i32_add]
  refine l_ld B hX hbl hL5 hLS.2.2.1 ⟨by omega, by omega⟩ dLw_851 ?_
  refine l_R B hLS hl (As := [.int (i32 (sx xs (11 * (n : Int) + 1))), .int (i32 (sx xs (11 * (n : Int) + 2))), .int (i32 (sx xs (11 * (n : Int) + 3)))]) (ok_X16_row hT.1 σr (sx xs (11 * (n : Int) + 1)) (sx xs (11 * (n : Int) + 2)) (sx xs (11 * (n : Int) + 3)) (rng_sx _ _) (rng_sx _ _) (rng_sx _ _) hGr hSr (hR σr (sx xs (11 * (n : Int) + 1)) (sx xs (11 * (n : Int) + 2)) (sx xs (11 * (n : Int) + 3)) hR0 (rng_sx _ _) (rng_sx _ _) (rng_sx _ _))) (fun σ9 w9 h9 => by obtain ⟨r8, rfl, _, hG8, hS8⟩ := h9; exact hS8.2.2.2.2.trans hSr.2.2.2.2.symm) (fun _ _ h9 => h9.1) wcL_150 hd_X16_row ⟨Nat.le_of_ble_eq_true rfl, Nat.le_of_ble_eq_true rfl⟩ hSr.1 rfl rfl (rest := []) (Nat.le_of_ble_eq_true rfl) dLw_852 (fun σ2 w9 hq2 => ?_)
  obtain ⟨r2, rfl, hq2, hG2, hS2⟩ := hq2
  intro H locs ls hLS hl
  refine W.eq (g2 := F0 m 855 ls [.long r2]) rfl ?_
  refine lv_lstore (lv' := [(6, .long r2), (5, .int (i32 r1)), (0, .ref b), (1, .ref th), (2, .ref rm), (3, .ref o), (4, .int (i32 (11 * (n : Int))))]) B.1 B.2.1 dLw_855 hl (by decide) rfl (fun ls hl => ?_)
  refine lv_goto (tgt := 1116) B.1 B.2.1 dLw_857 (by decide) ?_
  exact k _ _ _ _ ⟨⟨hV1, hG1, hY1, hth1⟩, hq2.1, hG2, hS2, hq2.2.trans ht⟩ H locs ls hLS (lv_sub (l' := [(0, .ref b), (1, .ref th), (2, .ref rm), (3, .ref o), (4, .int (i32 (11 * (n : Int))))]) hl [2, 3, 4, 5, 6] rfl)
set_option maxRecDepth 20000 in
theorem lc_lineage (B : Cx p s m args c code 8 RL D cA tys (A0 s)) (hl0 : l.stackTraces = false) (hT : TyC cA tys) (hX : va_X b L xs s s.heap) (hbl : b < s.heap.size) (hL5 : L ≤ 5632) (hn : n < 512) (hi : 11 * (n : Int) + 11 ≤ (L : Int)) (hC : ∀ (σ : Sg) (n : Nat) (t : Int) (a0 : Int) (a1 : Int) (a2 : Int), VH σ th n t → n < 512 → rng a0 → rng a1 → rng a2 → wp_X12_lineage th a0 a1 a2 σ (fun σ' _ => VH σ' th (n + 1) t) (fun σ' E => VH σ' th (n + 1) t ∧ (E = "java/lang/IndexOutOfBoundsException"))) (hR : ∀ (σ : Sg) (a0 : Int) (a1 : Int) (a2 : Int), VR σ → rng a0 → rng a1 → rng a2 → wp_X16_lineage ra jx rm a0 a1 a2 σ (fun σ' (_ : Int) => VR σ' ∧ gI σ' rm 3 = gI σ rm 3) (fun _ _ => False)) (k : ∀ t σc σr v, LIv VH VR dm ra jx th rm (n + 1) t σc σr → JLw p l e s m args below meth c D cA o Q σc σr v 1116 [(0, .ref b), (1, .ref th), (2, .ref rm), (3, .ref o), (4, .int (i32 (11 * (n : Int))))] []) : ∀ t σc σr v, LIv VH VR dm ra jx th rm n t σc σr → JLw p l e s m args below meth c D cA o Q σc σr v 860 [(0, .ref b), (1, .ref th), (2, .ref rm), (3, .ref o), (4, .int (i32 (11 * (n : Int))))] [] := by
  intro t σc σr v hI H locs ls hLS hl
  obtain ⟨⟨hV, hGc, hYc, hth⟩, hR0, hGr, hSr, ht⟩ := hI
  refine lv_aload_n B.1 B.2.1 dLw_860 rfl (lv_at hl 1 rfl) ?_
  refine lv_aload_n B.1 B.2.1 dLw_861 rfl (lv_at hl 0 rfl) ?_
  refine lv_iload B.1 B.2.1 dLw_862 (lv_at hl 4 rfl) ?_
  refine lv_iconst (v := i32 1) B.1 B.2.1 dLw_864 (by decide) ?_
  refine lv_iadd B.1 B.2.1 dLw_865 ?_
  rw [i32_add]
  refine l_ld B hX hbl hL5 hLS.2.2.1 ⟨by omega, by omega⟩ dLw_866 ?_
  refine lv_aload_n B.1 B.2.1 dLw_867 rfl (lv_at hl 0 rfl) ?_
  refine lv_iload B.1 B.2.1 dLw_868 (lv_at hl 4 rfl) ?_
  refine lv_iconst (v := i32 2) B.1 B.2.1 dLw_870 (by decide) ?_
  refine lv_iadd B.1 B.2.1 dLw_871 ?_
  rw [i32_add]
  refine l_ld B hX hbl hL5 hLS.2.2.1 ⟨by omega, by omega⟩ dLw_872 ?_
  refine lv_aload_n B.1 B.2.1 dLw_873 rfl (lv_at hl 0 rfl) ?_
  refine lv_iload B.1 B.2.1 dLw_874 (lv_at hl 4 rfl) ?_
  refine lv_iconst (v := i32 3) B.1 B.2.1 dLw_876 (by decide) ?_
  refine lv_iadd B.1 B.2.1 dLw_877 ?_
  rw [i32_add]
  refine l_ld B hX hbl hL5 hLS.2.2.1 ⟨by omega, by omega⟩ dLw_878 ?_
  refine lv_aload_n B.1 B.2.1 dLw_879 rfl (lv_at hl 3 rfl) ?_
  refine l_W (r9 := ()) B hLS hl (okw_lineage hl0 hT (rng_sx _ _) (rng_sx _ _) (rng_sx _ _) hth hGc hYc (hC σc n t (sx xs (11 * (n : Int) + 1)) (sx xs (11 * (n : Int) + 2)) (sx xs (11 * (n : Int) + 3)) hV hn (rng_sx _ _) (rng_sx _ _) (rng_sx _ _)) (fun σ9 E9 h9 => h9.2)) wsL_151 hdL_lineage ⟨Nat.le_of_ble_eq_true rfl, Nat.le_of_ble_eq_true rfl⟩ rfl rfl (rest := []) (Nat.le_of_ble_eq_true rfl) dLw_880 (fun σ1 r1 v1 gr1 hq1 => ?_)
  obtain ⟨hq1, hG1, hY1, hE1⟩ := hq1
  intro H locs ls hLS hl
  have hV1 : VH σ1 th (n + 1) t := by rcases hq1 with ⟨_, q, _⟩ | ⟨_, q, _⟩; exact q; exact q.1
  have hth1 : kO σ1 th 12 := hth.up hE1
  refine lv_istore (lv' := [(5, .int (i32 r1)), (0, .ref b), (1, .ref th), (2, .ref rm), (3, .ref o), (4, .int (i32 (11 * (n : Int))))]) B.1 B.2.1 dLw_883 hl (by decide) rfl (fun ls hl => ?_)
  refine lv_aload_n B.1 B.2.1 dLw_885 rfl (lv_at hl 3 rfl) ?_
  refine lv_aload_n B.1 B.2.1 dLw_886 rfl (lv_at hl 1 rfl) ?_
  refine lv_iload B.1 B.2.1 dLw_887 (lv_at hl 5 rfl) ?_
  refine lv_iconst (v := i32 1) B.1 B.2.1 dLw_889 (by decide) ?_
  refine lv_iadd B.1 B.2.1 dLw_890 ?_
  rw [i32_add]
  refine l_ld B hX hbl hL5 hLS.2.2.1 ⟨by omega, by omega⟩ dLw_891 ?_
  refine lv_aload_n B.1 B.2.1 dLw_892 rfl (lv_at hl 1 rfl) ?_
  refine lv_iload B.1 B.2.1 dLw_893 (lv_at hl 5 rfl) ?_
  refine lv_iconst (v := i32 2) B.1 B.2.1 dLw_895 (by decide) ?_
  refine lv_iadd B.1 B.2.1 dLw_896 ?_
  rw [i32_add]
  refine l_ld B hX hbl hL5 hLS.2.2.1 ⟨by omega, by omega⟩ dLw_897 ?_
  refine lv_aload_n B.1 B.2.1 dLw_898 rfl (lv_at hl 1 rfl) ?_
  refine lv_iload B.1 B.2.1 dLw_899 (lv_at hl 5 rfl) ?_
  refine lv_iconst (v := i32 3) B.1 B.2.1 dLw_901 (by decide) ?_
  refine lv_iadd B.1 B.2.1 dLw_902 ?_
  rw [i32_add]
  refine l_ld B hX hbl hL5 hLS.2.2.1 ⟨by omega, by omega⟩ dLw_903 ?_
  refine l_R B hLS hl (As := [.int (i32 (sx xs (11 * (n : Int) + 1))), .int (i32 (sx xs (11 * (n : Int) + 2))), .int (i32 (sx xs (11 * (n : Int) + 3)))]) (ok_X16_lineage hT.1 σr (sx xs (11 * (n : Int) + 1)) (sx xs (11 * (n : Int) + 2)) (sx xs (11 * (n : Int) + 3)) (rng_sx _ _) (rng_sx _ _) (rng_sx _ _) hGr hSr (hR σr (sx xs (11 * (n : Int) + 1)) (sx xs (11 * (n : Int) + 2)) (sx xs (11 * (n : Int) + 3)) hR0 (rng_sx _ _) (rng_sx _ _) (rng_sx _ _))) (fun σ9 w9 h9 => by obtain ⟨r8, rfl, gr8, _, hG8, hS8⟩ := h9; exact hS8.2.2.2.2.trans hSr.2.2.2.2.symm) (fun _ _ h9 => h9.1) wcL_153 hd_X16_lineage ⟨Nat.le_of_ble_eq_true rfl, Nat.le_of_ble_eq_true rfl⟩ hSr.1 rfl rfl (rest := []) (Nat.le_of_ble_eq_true rfl) dLw_904 (fun σ2 w9 hq2 => ?_)
  obtain ⟨r2, rfl, gr2, hq2, hG2, hS2⟩ := hq2
  intro H locs ls hLS hl
  refine W.eq (g2 := F0 m 907 ls [.int (i32 r2)]) rfl ?_
  refine lv_istore (lv' := [(6, .int (i32 r2)), (5, .int (i32 r1)), (0, .ref b), (1, .ref th), (2, .ref rm), (3, .ref o), (4, .int (i32 (11 * (n : Int))))]) B.1 B.2.1 dLw_907 hl (by decide) rfl (fun ls hl => ?_)
  refine lv_goto (tgt := 1116) B.1 B.2.1 dLw_909 (by decide) ?_
  exact k _ _ _ _ ⟨⟨hV1, hG1, hY1, hth1⟩, hq2.1, hG2, hS2, hq2.2.trans ht⟩ H locs ls hLS (lv_sub (l' := [(0, .ref b), (1, .ref th), (2, .ref rm), (3, .ref o), (4, .int (i32 (11 * (n : Int))))]) hl [2, 3, 4, 5, 6] rfl)
set_option maxRecDepth 20000 in
theorem lc_onePass (B : Cx p s m args c code 8 RL D cA tys (A0 s)) (hl0 : l.stackTraces = false) (hT : TyC cA tys) (hX : va_X b L xs s s.heap) (hbl : b < s.heap.size) (hL5 : L ≤ 5632) (hn : n < 512) (hi : 11 * (n : Int) + 11 ≤ (L : Int)) (hC : ∀ (σ : Sg) (n : Nat) (t : Int), VH σ th n t → n < 512 → wp_X12_onePass th σ (fun σ' _ => VH σ' th (n + 1) t) (fun σ' E => VH σ' th (n + 1) t ∧ (E = "java/lang/IllegalStateException"))) (hR : ∀ (σ : Sg), VR σ → wp_X16_onePass ra jx rm σ (fun σ' (_ : Int) => VR σ' ∧ gI σ' rm 3 = gI σ rm 3) (fun _ _ => False)) (k : ∀ t σc σr v, LIv VH VR dm ra jx th rm (n + 1) t σc σr → JLw p l e s m args below meth c D cA o Q σc σr v 1116 [(0, .ref b), (1, .ref th), (2, .ref rm), (3, .ref o), (4, .int (i32 (11 * (n : Int))))] []) : ∀ t σc σr v, LIv VH VR dm ra jx th rm n t σc σr → JLw p l e s m args below meth c D cA o Q σc σr v 912 [(0, .ref b), (1, .ref th), (2, .ref rm), (3, .ref o), (4, .int (i32 (11 * (n : Int))))] [] := by
  intro t σc σr v hI H locs ls hLS hl
  obtain ⟨⟨hV, hGc, hYc, hth⟩, hR0, hGr, hSr, ht⟩ := hI
  refine lv_aload_n B.1 B.2.1 dLw_912 rfl (lv_at hl 1 rfl) ?_
  refine lv_aload_n B.1 B.2.1 dLw_913 rfl (lv_at hl 3 rfl) ?_
  refine l_W (r9 := ()) B hLS hl (okw_onePass hl0 hT hth hGc hYc (hC σc n t hV hn) (fun σ9 E9 h9 => h9.2)) wsL_154 hdL_onePass ⟨Nat.le_of_ble_eq_true rfl, Nat.le_of_ble_eq_true rfl⟩ rfl rfl (rest := []) (Nat.le_of_ble_eq_true rfl) dLw_914 (fun σ1 r1 v1 gr1 hq1 => ?_)
  obtain ⟨hq1, hG1, hY1, hE1⟩ := hq1
  intro H locs ls hLS hl
  have hV1 : VH σ1 th (n + 1) t := by rcases hq1 with ⟨_, q, _⟩ | ⟨_, q, _⟩; exact q; exact q.1
  have hth1 : kO σ1 th 12 := hth.up hE1
  refine lv_istore (lv' := [(5, .int (i32 r1)), (0, .ref b), (1, .ref th), (2, .ref rm), (3, .ref o), (4, .int (i32 (11 * (n : Int))))]) B.1 B.2.1 dLw_917 hl (by decide) rfl (fun ls hl => ?_)
  refine lv_aload_n B.1 B.2.1 dLw_919 rfl (lv_at hl 3 rfl) ?_
  refine l_R B hLS hl (As := []) (ok_X16_onePass hT.1 σr hGr hSr (hR σr hR0)) (fun σ9 w9 h9 => by obtain ⟨r8, rfl, ⟨gr8, gz8⟩, _, hG8, hS8⟩ := h9; exact hS8.2.2.2.2.trans hSr.2.2.2.2.symm) (fun _ _ h9 => h9.1) wcL_156 hd_X16_onePass ⟨Nat.le_of_ble_eq_true rfl, Nat.le_of_ble_eq_true rfl⟩ hSr.1 rfl rfl (rest := []) (Nat.le_of_ble_eq_true rfl) dLw_920 (fun σ2 w9 hq2 => ?_)
  obtain ⟨r2, rfl, ⟨gr2, gz2⟩, hq2, hG2, hS2⟩ := hq2
  intro H locs ls hLS hl
  refine W.eq (g2 := F0 m 923 ls [.int (i32 r2)]) rfl ?_
  refine lv_istore (lv' := [(6, .int (i32 r2)), (5, .int (i32 r1)), (0, .ref b), (1, .ref th), (2, .ref rm), (3, .ref o), (4, .int (i32 (11 * (n : Int))))]) B.1 B.2.1 dLw_923 hl (by decide) rfl (fun ls hl => ?_)
  refine lv_goto (tgt := 1116) B.1 B.2.1 dLw_925 (by decide) ?_
  exact k _ _ _ _ ⟨⟨hV1, hG1, hY1, hth1⟩, hq2.1, hG2, hS2, hq2.2.trans ht⟩ H locs ls hLS (lv_sub (l' := [(0, .ref b), (1, .ref th), (2, .ref rm), (3, .ref o), (4, .int (i32 (11 * (n : Int))))]) hl [2, 3, 4, 5, 6] rfl)
set_option maxRecDepth 20000 in
theorem lc_task (B : Cx p s m args c code 8 RL D cA tys (A0 s)) (hl0 : l.stackTraces = false) (hT : TyC cA tys) (hX : va_X b L xs s s.heap) (hbl : b < s.heap.size) (hL5 : L ≤ 5632) (hn : n < 512) (hi : 11 * (n : Int) + 11 ≤ (L : Int)) (hC : ∀ (σ : Sg) (n : Nat) (t : Int) (a0 : Int) (a1 : Int), VH σ th n t → n < 512 → rng a0 → rng a1 → wp_X12_task th a0 a1 σ (fun σ' _ => VH σ' th (n + 1) t) (fun σ' E => VH σ' th (n + 1) t ∧ (E = "java/lang/IndexOutOfBoundsException" ∨ E = "java/lang/IllegalStateException" ∨ E = "java/lang/IllegalArgumentException"))) (hR : ∀ (σ : Sg) (a0 : Int) (a1 : Int), VR σ → rng a0 → rng a1 → wp_X16_task ra jx rm a0 a1 σ (fun σ' (_ : Int64) => VR σ' ∧ gI σ' rm 3 = gI σ rm 3) (fun _ _ => False)) (k : ∀ t σc σr v, LIv VH VR dm ra jx th rm (n + 1) t σc σr → JLw p l e s m args below meth c D cA o Q σc σr v 1116 [(0, .ref b), (1, .ref th), (2, .ref rm), (3, .ref o), (4, .int (i32 (11 * (n : Int))))] []) : ∀ t σc σr v, LIv VH VR dm ra jx th rm n t σc σr → JLw p l e s m args below meth c D cA o Q σc σr v 928 [(0, .ref b), (1, .ref th), (2, .ref rm), (3, .ref o), (4, .int (i32 (11 * (n : Int))))] [] := by
  intro t σc σr v hI H locs ls hLS hl
  obtain ⟨⟨hV, hGc, hYc, hth⟩, hR0, hGr, hSr, ht⟩ := hI
  refine lv_aload_n B.1 B.2.1 dLw_928 rfl (lv_at hl 1 rfl) ?_
  refine lv_aload_n B.1 B.2.1 dLw_929 rfl (lv_at hl 0 rfl) ?_
  refine lv_iload B.1 B.2.1 dLw_930 (lv_at hl 4 rfl) ?_
  refine lv_iconst (v := i32 1) B.1 B.2.1 dLw_932 (by decide) ?_
  refine lv_iadd B.1 B.2.1 dLw_933 ?_
  rw [i32_add]
  refine l_ld B hX hbl hL5 hLS.2.2.1 ⟨by omega, by omega⟩ dLw_934 ?_
  refine lv_aload_n B.1 B.2.1 dLw_935 rfl (lv_at hl 0 rfl) ?_
  refine lv_iload B.1 B.2.1 dLw_936 (lv_at hl 4 rfl) ?_
  refine lv_iconst (v := i32 2) B.1 B.2.1 dLw_938 (by decide) ?_
  refine lv_iadd B.1 B.2.1 dLw_939 ?_
  rw [i32_add]
  refine l_ld B hX hbl hL5 hLS.2.2.1 ⟨by omega, by omega⟩ dLw_940 ?_
  refine lv_aload_n B.1 B.2.1 dLw_941 rfl (lv_at hl 3 rfl) ?_
  refine l_W (r9 := ()) B hLS hl (okw_task hl0 hT (rng_sx _ _) (rng_sx _ _) hth hGc hYc (hC σc n t (sx xs (11 * (n : Int) + 1)) (sx xs (11 * (n : Int) + 2)) hV hn (rng_sx _ _) (rng_sx _ _)) (fun σ9 E9 h9 => h9.2)) wsL_157 hdL_task ⟨Nat.le_of_ble_eq_true rfl, Nat.le_of_ble_eq_true rfl⟩ rfl rfl (rest := []) (Nat.le_of_ble_eq_true rfl) dLw_942 (fun σ1 r1 v1 gr1 hq1 => ?_)
  obtain ⟨hq1, hG1, hY1, hE1⟩ := hq1
  intro H locs ls hLS hl
  have hV1 : VH σ1 th (n + 1) t := by rcases hq1 with ⟨_, q, _⟩ | ⟨_, q, _⟩; exact q; exact q.1
  have hth1 : kO σ1 th 12 := hth.up hE1
  refine lv_istore (lv' := [(5, .int (i32 r1)), (0, .ref b), (1, .ref th), (2, .ref rm), (3, .ref o), (4, .int (i32 (11 * (n : Int))))]) B.1 B.2.1 dLw_945 hl (by decide) rfl (fun ls hl => ?_)
  refine lv_aload_n B.1 B.2.1 dLw_947 rfl (lv_at hl 3 rfl) ?_
  refine lv_aload_n B.1 B.2.1 dLw_948 rfl (lv_at hl 1 rfl) ?_
  refine lv_iload B.1 B.2.1 dLw_949 (lv_at hl 5 rfl) ?_
  refine lv_iconst (v := i32 1) B.1 B.2.1 dLw_951 (by decide) ?_
  refine lv_iadd B.1 B.2.1 dLw_952 ?_
  rw [i32_add]
  refine l_ld B hX hbl hL5 hLS.2.2.1 ⟨by omega, by omega⟩ dLw_953 ?_
  refine lv_aload_n B.1 B.2.1 dLw_954 rfl (lv_at hl 1 rfl) ?_
  refine lv_iload B.1 B.2.1 dLw_955 (lv_at hl 5 rfl) ?_
  refine lv_iconst (v := i32 2) B.1 B.2.1 dLw_957 (by decide) ?_
  refine lv_iadd B.1 B.2.1 dLw_958 ?_
  rw [i32_add]
  refine l_ld B hX hbl hL5 hLS.2.2.1 ⟨by omega, by omega⟩ dLw_959 ?_
  refine l_R B hLS hl (As := [.int (i32 (sx xs (11 * (n : Int) + 1))), .int (i32 (sx xs (11 * (n : Int) + 2)))]) (ok_X16_task hT.1 σr (sx xs (11 * (n : Int) + 1)) (sx xs (11 * (n : Int) + 2)) (rng_sx _ _) (rng_sx _ _) hGr hSr (hR σr (sx xs (11 * (n : Int) + 1)) (sx xs (11 * (n : Int) + 2)) hR0 (rng_sx _ _) (rng_sx _ _))) (fun σ9 w9 h9 => by obtain ⟨r8, rfl, _, hG8, hS8⟩ := h9; exact hS8.2.2.2.2.trans hSr.2.2.2.2.symm) (fun _ _ h9 => h9.1) wcL_159 hd_X16_task ⟨Nat.le_of_ble_eq_true rfl, Nat.le_of_ble_eq_true rfl⟩ hSr.1 rfl rfl (rest := []) (Nat.le_of_ble_eq_true rfl) dLw_960 (fun σ2 w9 hq2 => ?_)
  obtain ⟨r2, rfl, hq2, hG2, hS2⟩ := hq2
  intro H locs ls hLS hl
  refine W.eq (g2 := F0 m 963 ls [.long r2]) rfl ?_
  refine lv_lstore (lv' := [(6, .long r2), (5, .int (i32 r1)), (0, .ref b), (1, .ref th), (2, .ref rm), (3, .ref o), (4, .int (i32 (11 * (n : Int))))]) B.1 B.2.1 dLw_963 hl (by decide) rfl (fun ls hl => ?_)
  refine lv_goto (tgt := 1116) B.1 B.2.1 dLw_965 (by decide) ?_
  exact k _ _ _ _ ⟨⟨hV1, hG1, hY1, hth1⟩, hq2.1, hG2, hS2, hq2.2.trans ht⟩ H locs ls hLS (lv_sub (l' := [(0, .ref b), (1, .ref th), (2, .ref rm), (3, .ref o), (4, .int (i32 (11 * (n : Int))))]) hl [2, 3, 4, 5, 6] rfl)
set_option maxRecDepth 20000 in
theorem lc_channel (B : Cx p s m args c code 8 RL D cA tys (A0 s)) (hl0 : l.stackTraces = false) (hT : TyC cA tys) (hX : va_X b L xs s s.heap) (hbl : b < s.heap.size) (hL5 : L ≤ 5632) (hn : n < 512) (hi : 11 * (n : Int) + 11 ≤ (L : Int)) (hC : ∀ (σ : Sg) (n : Nat) (t : Int) (a0 : Int) (a1 : Int), VH σ th n t → n < 512 → rng a0 → rng a1 → wp_X12_channel th a0 a1 σ (fun σ' _ => VH σ' th (n + 1) t) (fun σ' E => VH σ' th (n + 1) t ∧ (E = "java/lang/IndexOutOfBoundsException" ∨ E = "java/lang/IllegalStateException" ∨ E = "java/lang/IllegalArgumentException"))) (hR : ∀ (σ : Sg) (a0 : Int) (a1 : Int), VR σ → rng a0 → rng a1 → wp_X16_channel_ ra jx rm a0 a1 σ (fun σ' (_ : Int64) => VR σ' ∧ gI σ' rm 3 = gI σ rm 3) (fun _ _ => False)) (k : ∀ t σc σr v, LIv VH VR dm ra jx th rm (n + 1) t σc σr → JLw p l e s m args below meth c D cA o Q σc σr v 1116 [(0, .ref b), (1, .ref th), (2, .ref rm), (3, .ref o), (4, .int (i32 (11 * (n : Int))))] []) : ∀ t σc σr v, LIv VH VR dm ra jx th rm n t σc σr → JLw p l e s m args below meth c D cA o Q σc σr v 968 [(0, .ref b), (1, .ref th), (2, .ref rm), (3, .ref o), (4, .int (i32 (11 * (n : Int))))] [] := by
  intro t σc σr v hI H locs ls hLS hl
  obtain ⟨⟨hV, hGc, hYc, hth⟩, hR0, hGr, hSr, ht⟩ := hI
  refine lv_aload_n B.1 B.2.1 dLw_968 rfl (lv_at hl 1 rfl) ?_
  refine lv_aload_n B.1 B.2.1 dLw_969 rfl (lv_at hl 0 rfl) ?_
  refine lv_iload B.1 B.2.1 dLw_970 (lv_at hl 4 rfl) ?_
  refine lv_iconst (v := i32 1) B.1 B.2.1 dLw_972 (by decide) ?_
  refine lv_iadd B.1 B.2.1 dLw_973 ?_
  rw [i32_add]
  refine l_ld B hX hbl hL5 hLS.2.2.1 ⟨by omega, by omega⟩ dLw_974 ?_
  refine lv_aload_n B.1 B.2.1 dLw_975 rfl (lv_at hl 0 rfl) ?_
  refine lv_iload B.1 B.2.1 dLw_976 (lv_at hl 4 rfl) ?_
  refine lv_iconst (v := i32 2) B.1 B.2.1 dLw_978 (by decide) ?_
  refine lv_iadd B.1 B.2.1 dLw_979 ?_
  rw [i32_add]
  refine l_ld B hX hbl hL5 hLS.2.2.1 ⟨by omega, by omega⟩ dLw_980 ?_
  refine lv_aload_n B.1 B.2.1 dLw_981 rfl (lv_at hl 3 rfl) ?_
  refine l_W (r9 := ()) B hLS hl (okw_channel hl0 hT (rng_sx _ _) (rng_sx _ _) hth hGc hYc (hC σc n t (sx xs (11 * (n : Int) + 1)) (sx xs (11 * (n : Int) + 2)) hV hn (rng_sx _ _) (rng_sx _ _)) (fun σ9 E9 h9 => h9.2)) wsL_160 hdL_channel ⟨Nat.le_of_ble_eq_true rfl, Nat.le_of_ble_eq_true rfl⟩ rfl rfl (rest := []) (Nat.le_of_ble_eq_true rfl) dLw_982 (fun σ1 r1 v1 gr1 hq1 => ?_)
  obtain ⟨hq1, hG1, hY1, hE1⟩ := hq1
  intro H locs ls hLS hl
  have hV1 : VH σ1 th (n + 1) t := by rcases hq1 with ⟨_, q, _⟩ | ⟨_, q, _⟩; exact q; exact q.1
  have hth1 : kO σ1 th 12 := hth.up hE1
  refine lv_istore (lv' := [(5, .int (i32 r1)), (0, .ref b), (1, .ref th), (2, .ref rm), (3, .ref o), (4, .int (i32 (11 * (n : Int))))]) B.1 B.2.1 dLw_985 hl (by decide) rfl (fun ls hl => ?_)
  refine lv_aload_n B.1 B.2.1 dLw_987 rfl (lv_at hl 3 rfl) ?_
  refine lv_aload_n B.1 B.2.1 dLw_988 rfl (lv_at hl 1 rfl) ?_
  refine lv_iload B.1 B.2.1 dLw_989 (lv_at hl 5 rfl) ?_
  refine lv_iconst (v := i32 1) B.1 B.2.1 dLw_991 (by decide) ?_
  refine lv_iadd B.1 B.2.1 dLw_992 ?_
  rw [i32_add]
  refine l_ld B hX hbl hL5 hLS.2.2.1 ⟨by omega, by omega⟩ dLw_993 ?_
  refine lv_aload_n B.1 B.2.1 dLw_994 rfl (lv_at hl 1 rfl) ?_
  refine lv_iload B.1 B.2.1 dLw_995 (lv_at hl 5 rfl) ?_
  refine lv_iconst (v := i32 2) B.1 B.2.1 dLw_997 (by decide) ?_
  refine lv_iadd B.1 B.2.1 dLw_998 ?_
  rw [i32_add]
  refine l_ld B hX hbl hL5 hLS.2.2.1 ⟨by omega, by omega⟩ dLw_999 ?_
  refine l_R B hLS hl (As := [.int (i32 (sx xs (11 * (n : Int) + 1))), .int (i32 (sx xs (11 * (n : Int) + 2)))]) (ok_X16_channel_ hT.1 σr (sx xs (11 * (n : Int) + 1)) (sx xs (11 * (n : Int) + 2)) (rng_sx _ _) (rng_sx _ _) hGr hSr (hR σr (sx xs (11 * (n : Int) + 1)) (sx xs (11 * (n : Int) + 2)) hR0 (rng_sx _ _) (rng_sx _ _))) (fun σ9 w9 h9 => by obtain ⟨r8, rfl, _, hG8, hS8⟩ := h9; exact hS8.2.2.2.2.trans hSr.2.2.2.2.symm) (fun _ _ h9 => h9.1) wcL_162 hd_X16_channel_ ⟨Nat.le_of_ble_eq_true rfl, Nat.le_of_ble_eq_true rfl⟩ hSr.1 rfl rfl (rest := []) (Nat.le_of_ble_eq_true rfl) dLw_1000 (fun σ2 w9 hq2 => ?_)
  obtain ⟨r2, rfl, hq2, hG2, hS2⟩ := hq2
  intro H locs ls hLS hl
  refine W.eq (g2 := F0 m 1003 ls [.long r2]) rfl ?_
  refine lv_lstore (lv' := [(6, .long r2), (5, .int (i32 r1)), (0, .ref b), (1, .ref th), (2, .ref rm), (3, .ref o), (4, .int (i32 (11 * (n : Int))))]) B.1 B.2.1 dLw_1003 hl (by decide) rfl (fun ls hl => ?_)
  refine lv_goto (tgt := 1116) B.1 B.2.1 dLw_1005 (by decide) ?_
  exact k _ _ _ _ ⟨⟨hV1, hG1, hY1, hth1⟩, hq2.1, hG2, hS2, hq2.2.trans ht⟩ H locs ls hLS (lv_sub (l' := [(0, .ref b), (1, .ref th), (2, .ref rm), (3, .ref o), (4, .int (i32 (11 * (n : Int))))]) hl [2, 3, 4, 5, 6] rfl)
set_option maxRecDepth 20000 in
theorem lc_records (B : Cx p s m args c code 8 RL D cA tys (A0 s)) (hl0 : l.stackTraces = false) (hT : TyC cA tys) (hX : va_X b L xs s s.heap) (hbl : b < s.heap.size) (hL5 : L ≤ 5632) (hn : n < 512) (hi : 11 * (n : Int) + 11 ≤ (L : Int)) (hC : ∀ (σ : Sg) (n : Nat) (t : Int) (a0 : Int) (a1 : Int64), VH σ th n t → n < 512 → rng a0 → wp_X12_records th a0 a1 σ (fun σ' _ => VH σ' th (n + 1) t) (fun σ' E => VH σ' th (n + 1) t ∧ (E = "java/lang/IndexOutOfBoundsException" ∨ E = "java/lang/IllegalStateException" ∨ E = "java/lang/IllegalArgumentException"))) (hR : ∀ (σ : Sg) (a0 : Int) (a1 : Int64), VR σ → rng a0 → wp_X16_records ra jx rm a0 a1 σ (fun σ' (_ : Int) => VR σ' ∧ gI σ' rm 3 = gI σ rm 3) (fun _ _ => False)) (k : ∀ t σc σr v, LIv VH VR dm ra jx th rm (n + 1) t σc σr → JLw p l e s m args below meth c D cA o Q σc σr v 1116 [(0, .ref b), (1, .ref th), (2, .ref rm), (3, .ref o), (4, .int (i32 (11 * (n : Int))))] []) : ∀ t σc σr v, LIv VH VR dm ra jx th rm n t σc σr → JLw p l e s m args below meth c D cA o Q σc σr v 1008 [(0, .ref b), (1, .ref th), (2, .ref rm), (3, .ref o), (4, .int (i32 (11 * (n : Int))))] [] := by
  intro t σc σr v hI H locs ls hLS hl
  obtain ⟨⟨hV, hGc, hYc, hth⟩, hR0, hGr, hSr, ht⟩ := hI
  refine lv_aload_n B.1 B.2.1 dLw_1008 rfl (lv_at hl 1 rfl) ?_
  refine lv_aload_n B.1 B.2.1 dLw_1009 rfl (lv_at hl 0 rfl) ?_
  refine lv_iload B.1 B.2.1 dLw_1010 (lv_at hl 4 rfl) ?_
  refine lv_iconst (v := i32 1) B.1 B.2.1 dLw_1012 (by decide) ?_
  refine lv_iadd B.1 B.2.1 dLw_1013 ?_
  rw [i32_add]
  refine l_ld B hX hbl hL5 hLS.2.2.1 ⟨by omega, by omega⟩ dLw_1014 ?_
  refine lv_aload_n B.1 B.2.1 dLw_1015 rfl (lv_at hl 0 rfl) ?_
  refine lv_iload B.1 B.2.1 dLw_1016 (lv_at hl 4 rfl) ?_
  refine lv_iconst (v := i32 2) B.1 B.2.1 dLw_1018 (by decide) ?_
  refine lv_iadd B.1 B.2.1 dLw_1019 ?_
  rw [i32_add]
  refine l_ld B hX hbl hL5 hLS.2.2.1 ⟨by omega, by omega⟩ dLw_1020 ?_
  refine lv_i2l B.1 B.2.1 dLw_1021 (i32_i64 (rng_sx _ _)) ?_
  refine lv_bipush (v := i32 32) B.1 B.2.1 dLw_1022 (by decide) ?_
  refine lv_lshl B.1 B.2.1 dLw_1024 rfl ?_
  refine lv_aload_n B.1 B.2.1 dLw_1025 rfl (lv_at hl 0 rfl) ?_
  refine lv_iload B.1 B.2.1 dLw_1026 (lv_at hl 4 rfl) ?_
  refine lv_iconst (v := i32 3) B.1 B.2.1 dLw_1028 (by decide) ?_
  refine lv_iadd B.1 B.2.1 dLw_1029 ?_
  rw [i32_add]
  refine l_ld B hX hbl hL5 hLS.2.2.1 ⟨by omega, by omega⟩ dLw_1030 ?_
  refine lv_i2l B.1 B.2.1 dLw_1031 (i32_i64 (rng_sx _ _)) ?_
  refine lv_ldc2 B.1 B.2.1 B.2.2.1 (B.2.2.2.1 _ wkL_90) dLw_1032 ?_
  refine lv_land B.1 B.2.1 dLw_1035 ?_
  refine lv_lor B.1 B.2.1 dLw_1036 ?_
  refine any_long (fun w1 => ?_)
  refine lv_aload_n B.1 B.2.1 dLw_1037 rfl (lv_at hl 3 rfl) ?_
  refine l_W (r9 := ()) B hLS hl (okw_records hl0 hT (rng_sx _ _) hth hGc hYc (hC σc n t (sx xs (11 * (n : Int) + 1)) w1 hV hn (rng_sx _ _)) (fun σ9 E9 h9 => h9.2)) wsL_163 hdL_records ⟨Nat.le_of_ble_eq_true rfl, Nat.le_of_ble_eq_true rfl⟩ rfl rfl (rest := []) (Nat.le_of_ble_eq_true rfl) dLw_1038 (fun σ1 r1 v1 gr1 hq1 => ?_)
  obtain ⟨hq1, hG1, hY1, hE1⟩ := hq1
  intro H locs ls hLS hl
  have hV1 : VH σ1 th (n + 1) t := by rcases hq1 with ⟨_, q, _⟩ | ⟨_, q, _⟩; exact q; exact q.1
  have hth1 : kO σ1 th 12 := hth.up hE1
  refine lv_istore (lv' := [(5, .int (i32 r1)), (0, .ref b), (1, .ref th), (2, .ref rm), (3, .ref o), (4, .int (i32 (11 * (n : Int))))]) B.1 B.2.1 dLw_1041 hl (by decide) rfl (fun ls hl => ?_)
  refine lv_aload_n B.1 B.2.1 dLw_1043 rfl (lv_at hl 3 rfl) ?_
  refine lv_aload_n B.1 B.2.1 dLw_1044 rfl (lv_at hl 1 rfl) ?_
  refine lv_iload B.1 B.2.1 dLw_1045 (lv_at hl 5 rfl) ?_
  refine lv_iconst (v := i32 1) B.1 B.2.1 dLw_1047 (by decide) ?_
  refine lv_iadd B.1 B.2.1 dLw_1048 ?_
  rw [i32_add]
  refine l_ld B hX hbl hL5 hLS.2.2.1 ⟨by omega, by omega⟩ dLw_1049 ?_
  refine lv_aload_n B.1 B.2.1 dLw_1050 rfl (lv_at hl 1 rfl) ?_
  refine lv_iload B.1 B.2.1 dLw_1051 (lv_at hl 5 rfl) ?_
  refine lv_iconst (v := i32 2) B.1 B.2.1 dLw_1053 (by decide) ?_
  refine lv_iadd B.1 B.2.1 dLw_1054 ?_
  rw [i32_add]
  refine l_ld B hX hbl hL5 hLS.2.2.1 ⟨by omega, by omega⟩ dLw_1055 ?_
  refine lv_i2l B.1 B.2.1 dLw_1056 (i32_i64 (rng_sx _ _)) ?_
  refine lv_bipush (v := i32 32) B.1 B.2.1 dLw_1057 (by decide) ?_
  refine lv_lshl B.1 B.2.1 dLw_1059 rfl ?_
  refine lv_aload_n B.1 B.2.1 dLw_1060 rfl (lv_at hl 1 rfl) ?_
  refine lv_iload B.1 B.2.1 dLw_1061 (lv_at hl 5 rfl) ?_
  refine lv_iconst (v := i32 3) B.1 B.2.1 dLw_1063 (by decide) ?_
  refine lv_iadd B.1 B.2.1 dLw_1064 ?_
  rw [i32_add]
  refine l_ld B hX hbl hL5 hLS.2.2.1 ⟨by omega, by omega⟩ dLw_1065 ?_
  refine lv_i2l B.1 B.2.1 dLw_1066 (i32_i64 (rng_sx _ _)) ?_
  refine lv_ldc2 B.1 B.2.1 B.2.2.1 (B.2.2.2.1 _ wkL_90) dLw_1067 ?_
  refine lv_land B.1 B.2.1 dLw_1070 ?_
  refine lv_lor B.1 B.2.1 dLw_1071 ?_
  refine any_long (fun w2 => ?_)
  refine l_R B hLS hl (As := [.int (i32 (sx xs (11 * (n : Int) + 1))), .long w2]) (ok_X16_records hT.1 σr (sx xs (11 * (n : Int) + 1)) w2 (rng_sx _ _) hGr hSr (hR σr (sx xs (11 * (n : Int) + 1)) w2 hR0 (rng_sx _ _))) (fun σ9 w9 h9 => by obtain ⟨r8, rfl, gr8, _, hG8, hS8⟩ := h9; exact hS8.2.2.2.2.trans hSr.2.2.2.2.symm) (fun _ _ h9 => h9.1) wcL_166 hd_X16_records ⟨Nat.le_of_ble_eq_true rfl, Nat.le_of_ble_eq_true rfl⟩ hSr.1 rfl rfl (rest := []) (Nat.le_of_ble_eq_true rfl) dLw_1072 (fun σ2 w9 hq2 => ?_)
  obtain ⟨r2, rfl, gr2, hq2, hG2, hS2⟩ := hq2
  intro H locs ls hLS hl
  refine W.eq (g2 := F0 m 1075 ls [.int (i32 r2)]) rfl ?_
  refine lv_istore (lv' := [(6, .int (i32 r2)), (5, .int (i32 r1)), (0, .ref b), (1, .ref th), (2, .ref rm), (3, .ref o), (4, .int (i32 (11 * (n : Int))))]) B.1 B.2.1 dLw_1075 hl (by decide) rfl (fun ls hl => ?_)
  refine lv_goto (tgt := 1116) B.1 B.2.1 dLw_1077 (by decide) ?_
  exact k _ _ _ _ ⟨⟨hV1, hG1, hY1, hth1⟩, hq2.1, hG2, hS2, hq2.2.trans ht⟩ H locs ls hLS (lv_sub (l' := [(0, .ref b), (1, .ref th), (2, .ref rm), (3, .ref o), (4, .int (i32 (11 * (n : Int))))]) hl [2, 3, 4, 5, 6] rfl)
set_option maxRecDepth 20000 in
theorem lc_told (B : Cx p s m args c code 8 RL D cA tys (A0 s)) (hl0 : l.stackTraces = false) (hT : TyC cA tys) (hX : va_X b L xs s s.heap) (hbl : b < s.heap.size) (hL5 : L ≤ 5632) (hn : n < 512) (hi : 11 * (n : Int) + 11 ≤ (L : Int)) (hC : ∀ (σ : Sg) (n : Nat) (t : Int) (a0 : Int), VH σ th n t → n < 512 → rng a0 → wp_X12_told th a0 σ (fun σ' _ => VH σ' th (n + 1) t) (fun _ _ => False)) (hR : ∀ (σ : Sg) (a0 : Int), VR σ → rng a0 → wp_X16_told ra jx rm a0 σ (fun σ' (_ : Int) => VR σ' ∧ gI σ' rm 3 = gI σ rm 3) (fun _ _ => False)) (k : ∀ t σc σr v, LIv VH VR dm ra jx th rm (n + 1) t σc σr → JLw p l e s m args below meth c D cA o Q σc σr v 1116 [(0, .ref b), (1, .ref th), (2, .ref rm), (3, .ref o), (4, .int (i32 (11 * (n : Int))))] []) : ∀ t σc σr v, LIv VH VR dm ra jx th rm n t σc σr → JLw p l e s m args below meth c D cA o Q σc σr v 1080 [(0, .ref b), (1, .ref th), (2, .ref rm), (3, .ref o), (4, .int (i32 (11 * (n : Int))))] [] := by
  intro t σc σr v hI H locs ls hLS hl
  obtain ⟨⟨hV, hGc, hYc, hth⟩, hR0, hGr, hSr, ht⟩ := hI
  refine lv_aload_n B.1 B.2.1 dLw_1080 rfl (lv_at hl 1 rfl) ?_
  refine lv_aload_n B.1 B.2.1 dLw_1081 rfl (lv_at hl 0 rfl) ?_
  refine lv_iload B.1 B.2.1 dLw_1082 (lv_at hl 4 rfl) ?_
  refine lv_iconst (v := i32 1) B.1 B.2.1 dLw_1084 (by decide) ?_
  refine lv_iadd B.1 B.2.1 dLw_1085 ?_
  rw [i32_add]
  refine l_ld B hX hbl hL5 hLS.2.2.1 ⟨by omega, by omega⟩ dLw_1086 ?_
  refine l_C B hLS hl (As := [.int (i32 (sx xs (11 * (n : Int) + 1)))]) (ok_X12_told hl0 hT σc th (sx xs (11 * (n : Int) + 1)) (rng_sx _ _) hth hGc hYc (hC σc n t (sx xs (11 * (n : Int) + 1)) hV hn (rng_sx _ _))) (fun _ _ h9 => h9.1) wcL_167 hd_X12_told ⟨Nat.le_of_ble_eq_true rfl, Nat.le_of_ble_eq_true rfl⟩ hth rfl rfl (rest := []) (Nat.le_of_ble_eq_true rfl) dLw_1087 (fun σ1 w9 hq1 => ?_)
  obtain ⟨r1, rfl, gr1, hq1, hG1, hY1, hE1⟩ := hq1
  intro H locs ls hLS hl
  have hV1 : VH σ1 th (n + 1) t := hq1
  refine W.eq (g2 := F0 m 1090 ls [.int (i32 r1)]) rfl ?_
  have hth1 : kO σ1 th 12 := hth.up hE1
  refine lv_pop B.1 B.2.1 dLw_1090 rfl ?_
  refine lv_aload_n B.1 B.2.1 dLw_1091 rfl (lv_at hl 2 rfl) ?_
  refine lv_aload_n B.1 B.2.1 dLw_1092 rfl (lv_at hl 0 rfl) ?_
  refine lv_iload B.1 B.2.1 dLw_1093 (lv_at hl 4 rfl) ?_
  refine lv_iconst (v := i32 1) B.1 B.2.1 dLw_1095 (by decide) ?_
  refine lv_iadd B.1 B.2.1 dLw_1096 ?_
  rw [i32_add]
  refine l_ld B hX hbl hL5 hLS.2.2.1 ⟨by omega, by omega⟩ dLw_1097 ?_
  refine l_R B hLS hl (As := [.int (i32 (sx xs (11 * (n : Int) + 1)))]) (ok_X16_told hT.1 σr (sx xs (11 * (n : Int) + 1)) (rng_sx _ _) hGr hSr (hR σr (sx xs (11 * (n : Int) + 1)) hR0 (rng_sx _ _))) (fun σ9 w9 h9 => by obtain ⟨r8, rfl, gr8, _, hG8, hS8⟩ := h9; exact hS8.2.2.2.2.trans hSr.2.2.2.2.symm) (fun _ _ h9 => h9.1) wcL_170 hd_X16_told ⟨Nat.le_of_ble_eq_true rfl, Nat.le_of_ble_eq_true rfl⟩ hSr.1 rfl rfl (rest := []) (Nat.le_of_ble_eq_true rfl) dLw_1098 (fun σ2 w9 hq2 => ?_)
  obtain ⟨r2, rfl, gr2, hq2, hG2, hS2⟩ := hq2
  intro H locs ls hLS hl
  refine W.eq (g2 := F0 m 1101 ls [.int (i32 r2)]) rfl ?_
  refine lv_pop B.1 B.2.1 dLw_1101 rfl ?_
  refine lv_goto (tgt := 1116) B.1 B.2.1 dLw_1102 (by decide) ?_
  exact k _ _ _ _ ⟨⟨hV1, hG1, hY1, hth1⟩, hq2.1, hG2, hS2, hq2.2.trans ht⟩ H locs ls hLS (lv_sub (l' := [(0, .ref b), (1, .ref th), (2, .ref rm), (3, .ref o), (4, .int (i32 (11 * (n : Int))))]) hl [0, 1, 2, 3, 4] rfl)
set_option maxRecDepth 20000 in
theorem lc_clear (B : Cx p s m args c code 8 RL D cA tys (A0 s)) (hl0 : l.stackTraces = false) (hT : TyC cA tys) (hX : va_X b L xs s s.heap) (hbl : b < s.heap.size) (hL5 : L ≤ 5632) (hn : n < 512) (hi : 11 * (n : Int) + 11 ≤ (L : Int)) (hC : ∀ (σ : Sg) (n : Nat) (t : Int), VH σ th n t → n < 512 → wp_X12_clear th σ (fun σ' _ => VH σ' th (n + 1) 0) (fun _ _ => False)) (hR : ∀ (σ : Sg), VR σ → wp_X16_clear ra jx rm σ (fun σ' (_ : Unit) => VR σ' ∧ gI σ' rm 3 = 0) (fun _ _ => False)) (k : ∀ t σc σr v, LIv VH VR dm ra jx th rm (n + 1) t σc σr → JLw p l e s m args below meth c D cA o Q σc σr v 1116 [(0, .ref b), (1, .ref th), (2, .ref rm), (3, .ref o), (4, .int (i32 (11 * (n : Int))))] []) : ∀ t σc σr v, LIv VH VR dm ra jx th rm n t σc σr → JLw p l e s m args below meth c D cA o Q σc σr v 1105 [(0, .ref b), (1, .ref th), (2, .ref rm), (3, .ref o), (4, .int (i32 (11 * (n : Int))))] [] := by
  intro t σc σr v hI H locs ls hLS hl
  obtain ⟨⟨hV, hGc, hYc, hth⟩, hR0, hGr, hSr, ht⟩ := hI
  refine lv_aload_n B.1 B.2.1 dLw_1105 rfl (lv_at hl 1 rfl) ?_
  refine l_C B hLS hl (As := []) (ok_X12_clear hl0 hT σc th hth hGc hYc (hC σc n t hV hn)) (fun _ _ h9 => h9.1) wcL_171 hd_X12_clear ⟨Nat.le_of_ble_eq_true rfl, Nat.le_of_ble_eq_true rfl⟩ hth rfl rfl (rest := []) (Nat.le_of_ble_eq_true rfl) dLw_1106 (fun σ1 w9 hq1 => ?_)
  obtain ⟨rfl, hq1, hG1, hY1, hE1⟩ := hq1
  intro H locs ls hLS hl
  have hV1 : VH σ1 th (n + 1) 0 := hq1
  refine W.eq (g2 := F0 m 1109 ls []) rfl ?_
  have hth1 : kO σ1 th 12 := hth.up hE1
  refine lv_aload_n B.1 B.2.1 dLw_1109 rfl (lv_at hl 2 rfl) ?_
  refine l_R B hLS hl (As := []) (ok_X16_clear hT.1 σr hGr hSr (hR σr hR0)) (fun σ9 w9 h9 => by obtain ⟨rfl, _, hG8, hS8⟩ := h9; exact hS8.2.2.2.2.trans hSr.2.2.2.2.symm) (fun _ _ h9 => h9.1) wcL_174 hd_X16_clear ⟨Nat.le_of_ble_eq_true rfl, Nat.le_of_ble_eq_true rfl⟩ hSr.1 rfl rfl (rest := []) (Nat.le_of_ble_eq_true rfl) dLw_1110 (fun σ2 w9 hq2 => ?_)
  obtain ⟨rfl, hq2, hG2, hS2⟩ := hq2
  intro H locs ls hLS hl
  refine W.eq (g2 := F0 m 1113 ls []) rfl ?_
  refine lv_goto (tgt := 1116) B.1 B.2.1 dLw_1113 (by decide) ?_
  exact k _ _ _ _ ⟨⟨hV1, hG1, hY1, hth1⟩, hq2.1, hG2, hS2, hq2.2⟩ H locs ls hLS (lv_sub (l' := [(0, .ref b), (1, .ref th), (2, .ref rm), (3, .ref o), (4, .int (i32 (11 * (n : Int))))]) hl [0, 1, 2, 3, 4] rfl)
end LCA

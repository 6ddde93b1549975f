section MIN
variable {p : Program} {l : Launch} {e : Env} {R : Room} {s : State} {m : MethodId} {args : Array Value} {below : List Frame} {meth : Method} {c : Code} {cc : ByteArray} {nL : Nat} {own : String} {D : va_G} {cA : Nat → ClassId} {tys : List (ClassId × FieldType)} {A : Nat → Prop} {n0 s0 : Nat} {Q : State → Prop} {σ : Sg} {pc : Nat} {lo : List (Nat × Value)} {ls : Array Slot} {H : Heap} {locs : List Loc} {rest : List Value} {Qn : Sg → Option Value → Prop} {Qx : Sg → String → Prop} {y : MethodName} {bytes : ByteArray} {maxL fr lw index : Nat} {ret : Option FieldType}
variable {c9 s9 rm : Nat}
set_option maxHeartbeats 4000000 in
set_option maxRecDepth 20000 in
theorem mi_0 (B : Cx p s m args c cX16_init 4 RX16 D cA tys A) (hT : TyC cA tys) (hRm : Rm R n0 s0) (hin : meth.name = "<init>") (hfr : 8 ≤ R.frames) (hlw : 200 ≤ R.locals) (hz : c9 + 200 ≤ BC ∧ s9 + 600000 ≤ BS) (k : ∀ σ, ST σ mr_13 c9 s9 0 rm 16 → JJ p l e R s m args below meth c 4 D cA A n0 s0 Q σ 130 [(0, .ref rm)] []) : ∀ σ, ST σ mr_0 c9 s9 0 rm 16 → JJ p l e R s m args below meth c 4 D cA A n0 s0 Q σ 0 [(0, .ref rm)] [] := by
  intro σ X H locs ls hH hl hc
  refine lv_aload_n B.1 B.2.1 dX16_init_0 rfl (lv_at hl 0 rfl) ?_
  refine h_oinit B hl wo_X16_943 (by omega) (by omega) dX16_init_1 ?_
  refine lv_aload_n B.1 B.2.1 dX16_init_4 rfl (lv_at hl 0 rfl) ?_
  refine nw_O B hRm X (co := 14) (N := 6) rfl (by decide) wu_X14 tyX14 tyX14_ok (by decide) wn_X16_948 ⟨by rw [ml_0.1]; omega, by rw [ml_0.2]; omega⟩ dX16_init_5 hH hc (fun σ q H X P9 E9 hq hk hH hc => ?_)
  refine lv_dup B.1 B.2.1 dX16_init_8 rfl ?_
  refine c_thr B hH hl hc hRm (c_X14_init l D.1 D.2 q H.size) (fun _ _ h9 => h9.1) hk (by decide) (r := (RX14, TX14, 6)) rfl (fl_14 X.1 hq dN_new) rfl rfl wy_X14 wt_X16_950 (by decide) ⟨by omega, by show 8 + (1 + 11) + 84 ≤ _; omega⟩ (Nat.le_of_ble_eq_true rfl) dX16_init_9 (fun H locs hH => ?_)
  have hq : (gD σ)[1]? = some q := by rw [← ml_0.1]; exact hq
  refine pt_F B X (C := RX16) (T := TX16) (N := 123) (k := 1) hq (by decide) rfl wu_X16 tyX16 tyX16_ok nmX16 (by decide) wf_X16_16 rfl (ty := .object "StreamHouseModel$Fault") rfl hin rfl rfl rfl (nrO _ _) (ftO _ _) dX16_init_12 hH hc (fun σ H locs X P9 E9 hH hc => ?_)
  have X : ST σ mr_1 c9 s9 0 rm 16 := X
  refine lv_aload_n B.1 B.2.1 dX16_init_15 rfl (lv_at hl 0 rfl) ?_
  refine lv_sipush (v := i32 1500) B.1 B.2.1 dX16_init_16 (by decide) ?_
  refine nw_B B hT hRm wa_102 X (n := 1500) (nn := 1500) ⟨by decide, by decide⟩ rfl ⟨by rw [ml_1.1]; omega, by rw [ml_1.2]; omega⟩ dX16_init_19 hH hc (fun σ q H X P9 E9 hq hH hc => ?_)
  have hq : (gD σ)[2]? = some q := by rw [← ml_1.1]; exact hq
  refine pt_F B X (C := RX16) (T := TX16) (N := 123) (k := 2) hq (by decide) rfl wu_X16 tyX16 tyX16_ok nmX16 (by decide) wf_X16_20 rfl (ty := .array .byte) rfl hin rfl rfl rfl (nrA _ _) (ftA _ _) dX16_init_21 hH hc (fun σ H locs X P9 E9 hH hc => ?_)
  have X : ST σ mr_2 c9 s9 0 rm 16 := X
  refine lv_aload_n B.1 B.2.1 dX16_init_24 rfl (lv_at hl 0 rfl) ?_
  refine lv_bipush (v := i32 23) B.1 B.2.1 dX16_init_25 (by decide) ?_
  refine nw_J B hT hRm wa_101 X (n := 23) (nn := 23) ⟨by decide, by decide⟩ rfl ⟨by rw [ml_2.1]; omega, by rw [ml_2.2]; omega⟩ dX16_init_27 hH hc (fun σ q H X P9 E9 hq hH hc => ?_)
  have hq : (gD σ)[3]? = some q := by rw [← ml_2.1]; exact hq
  refine pt_F B X (C := RX16) (T := TX16) (N := 123) (k := 14) hq (by decide) rfl wu_X16 tyX16 tyX16_ok nmX16 (by decide) wf_X16_95 rfl (ty := .array .long) rfl hin rfl rfl rfl (nrA _ _) (ftA _ _) dX16_init_29 hH hc (fun σ H locs X P9 E9 hH hc => ?_)
  have X : ST σ mr_3 c9 s9 0 rm 16 := X
  refine lv_aload_n B.1 B.2.1 dX16_init_32 rfl (lv_at hl 0 rfl) ?_
  refine nw_O B hRm X (co := 15) (N := 20) rfl (by decide) wu_X15 tyX15 tyX15_ok (by decide) wn_X16_123 ⟨by rw [ml_3.1]; omega, by rw [ml_3.2]; omega⟩ dX16_init_33 hH hc (fun σ q H X P9 E9 hq hk hH hc => ?_)
  refine lv_dup B.1 B.2.1 dX16_init_36 rfl ?_
  refine lv_aload_n B.1 B.2.1 dX16_init_37 rfl (lv_at hl 0 rfl) ?_
  have hq : (gD σ)[4]? = some q := by rw [← ml_3.1]; exact hq
  have XJ : ST σ (dN mr_3 15 20) c9 s9 4 q 15 := ⟨X.1, X.2.1, X.2.2.1, hq, hk⟩
  have h0 := X.2.2.2.1
  have k0 := X.2.2.2.2
  refine c_IN B hH hl hc hRm (As := [.ref rm]) (ok_X15_init hT XJ h0 ⟨by rw [dN_len, ml_3.1]; omega, by rw [dN_sz, ml_3.2]; omega⟩) (fun _ _ h9 => h9) (List.mem_of_getElem? (l := nmL) (i := 19) rfl) rfl wq_X15_init 1 (by decide) ⟨by show 1 + 1 ≤ _; omega, by show 8 + (2 + 11) + 12 ≤ _; omega⟩ rfl (rest := [.ref q, .ref rm]) rfl (Nat.le_of_ble_eq_true rfl) dX16_init_38 (fun σ w9 hw9 => ?_)
  obtain ⟨rfl, XK, P9, E9⟩ := hw9
  intro H locs ls hH hl hc
  refine W.eq (g2 := F0 m 41 ls [.ref q, .ref rm]) rfl ?_
  have X : ST σ (jr_16 (dN mr_3 15 20) 4 0) c9 s9 0 rm 16 := ⟨XK.1, XK.2.1, XK.2.2.1, P9 _ _ h0, k0.up E9⟩
  have hq : (gD σ)[4]? = some q := P9 _ _ hq
  refine pt_F B X (C := RX16) (T := TX16) (N := 123) (k := 15) hq (by decide) rfl wu_X16 tyX16 tyX16_ok nmX16 (by decide) wf_X16_954 rfl (ty := .object "StreamHouseModel$Job") rfl hin rfl rfl rfl (nrO _ _) (ftO _ _) dX16_init_41 hH hc (fun σ H locs X P9 E9 hH hc => ?_)
  have X : ST σ mr_4 c9 s9 0 rm 16 := X
  refine lv_aload_n B.1 B.2.1 dX16_init_44 rfl (lv_at hl 0 rfl) ?_
  refine nw_O B hRm X (co := 15) (N := 20) rfl (by decide) wu_X15 tyX15 tyX15_ok (by decide) wn_X16_123 ⟨by rw [ml_4.1]; omega, by rw [ml_4.2]; omega⟩ dX16_init_45 hH hc (fun σ q H X P9 E9 hq hk hH hc => ?_)
  refine lv_dup B.1 B.2.1 dX16_init_48 rfl ?_
  refine lv_aload_n B.1 B.2.1 dX16_init_49 rfl (lv_at hl 0 rfl) ?_
  have hq : (gD σ)[21]? = some q := by rw [← ml_4.1]; exact hq
  have XJ : ST σ (dN mr_4 15 20) c9 s9 21 q 15 := ⟨X.1, X.2.1, X.2.2.1, hq, hk⟩
  have h0 := X.2.2.2.1
  have k0 := X.2.2.2.2
  refine c_IN B hH hl hc hRm (As := [.ref rm]) (ok_X15_init hT XJ h0 ⟨by rw [dN_len, ml_4.1]; omega, by rw [dN_sz, ml_4.2]; omega⟩) (fun _ _ h9 => h9) (List.mem_of_getElem? (l := nmL) (i := 19) rfl) rfl wq_X15_init 1 (by decide) ⟨by show 1 + 1 ≤ _; omega, by show 8 + (2 + 11) + 12 ≤ _; omega⟩ rfl (rest := [.ref q, .ref rm]) rfl (Nat.le_of_ble_eq_true rfl) dX16_init_50 (fun σ w9 hw9 => ?_)
  obtain ⟨rfl, XK, P9, E9⟩ := hw9
  intro H locs ls hH hl hc
  refine W.eq (g2 := F0 m 53 ls [.ref q, .ref rm]) rfl ?_
  have X : ST σ (jr_16 (dN mr_4 15 20) 21 0) c9 s9 0 rm 16 := ⟨XK.1, XK.2.1, XK.2.2.1, P9 _ _ h0, k0.up E9⟩
  have hq : (gD σ)[21]? = some q := P9 _ _ hq
  refine pt_F B X (C := RX16) (T := TX16) (N := 123) (k := 16) hq (by decide) rfl wu_X16 tyX16 tyX16_ok nmX16 (by decide) wf_X16_957 rfl (ty := .object "StreamHouseModel$Job") rfl hin rfl rfl rfl (nrO _ _) (ftO _ _) dX16_init_53 hH hc (fun σ H locs X P9 E9 hH hc => ?_)
  have X : ST σ mr_5 c9 s9 0 rm 16 := X
  refine lv_aload_n B.1 B.2.1 dX16_init_56 rfl (lv_at hl 0 rfl) ?_
  refine lv_null B.1 B.2.1 dX16_init_57 ?_
  refine pt_Z B X (C := RX16) (T := TX16) (N := 123) (k := 17) (mz_17_5) (by decide) rfl wu_X16 tyX16 tyX16_ok nmX16 (by decide) wf_X16_356 rfl (ty := .object "StreamHouseModel$Job") rfl rfl rfl rfl rfl dX16_init_58 hH hc (fun σ H locs X hH hc => ?_)
  refine lv_aload_n B.1 B.2.1 dX16_init_61 rfl (lv_at hl 0 rfl) ?_
  refine lv_aload_n B.1 B.2.1 dX16_init_62 rfl (lv_at hl 0 rfl) ?_
  obtain ⟨b9, hb9, hv9⟩ := X.1.gP2 X.2.2.2.1 mz_15_5
  refine f_getp B hH X.2.2.2.2 (by decide) rfl wu_X16 15 (by decide) wf_X16_954 rfl rfl dX16_init_63 ?_
  refine W.eq (g2 := F0 m 66 ls [.ref b9, .ref rm]) (by rw [hv9]; rfl) ?_
  refine pt_P B X (C := RX16) (T := TX16) (N := 123) (k := 18) hb9 (by decide) rfl wu_X16 tyX16 tyX16_ok nmX16 (by decide) wf_X16_118 rfl (ty := .object "StreamHouseModel$Job") rfl rfl rfl (nrO _ _) (ftO _ _) dX16_init_66 hH hc (fun σ H locs X P9 E9 hH hc => ?_)
  have X : ST σ mr_6 c9 s9 0 rm 16 := X
  refine lv_aload_n B.1 B.2.1 dX16_init_69 rfl (lv_at hl 0 rfl) ?_
  refine lv_sipush (v := i32 1600) B.1 B.2.1 dX16_init_70 (by decide) ?_
  refine nw_J B hT hRm wa_101 X (n := 1600) (nn := 1600) ⟨by decide, by decide⟩ rfl ⟨by rw [ml_6.1]; omega, by rw [ml_6.2]; omega⟩ dX16_init_73 hH hc (fun σ q H X P9 E9 hq hH hc => ?_)
  have hq : (gD σ)[38]? = some q := by rw [← ml_6.1]; exact hq
  refine pt_F B X (C := RX16) (T := TX16) (N := 123) (k := 20) hq (by decide) rfl wu_X16 tyX16 tyX16_ok nmX16 (by decide) wf_X16_336 rfl (ty := .array .long) rfl hin rfl rfl rfl (nrA _ _) (ftA _ _) dX16_init_75 hH hc (fun σ H locs X P9 E9 hH hc => ?_)
  have X : ST σ mr_7 c9 s9 0 rm 16 := X
  refine lv_aload_n B.1 B.2.1 dX16_init_78 rfl (lv_at hl 0 rfl) ?_
  refine lv_iconst (v := i32 4) B.1 B.2.1 dX16_init_79 (by decide) ?_
  refine nw_I B hT hRm wa_100 X (n := 4) (nn := 4) ⟨by decide, by decide⟩ rfl ⟨by rw [ml_7.1]; omega, by rw [ml_7.2]; omega⟩ dX16_init_80 hH hc (fun σ q H X P9 E9 hq hH hc => ?_)
  have hq : (gD σ)[39]? = some q := by rw [← ml_7.1]; exact hq
  refine pt_F B X (C := RX16) (T := TX16) (N := 123) (k := 22) hq (by decide) rfl wu_X16 tyX16 tyX16_ok nmX16 (by decide) wf_X16_763 rfl (ty := .array .int) rfl hin rfl rfl rfl (nrA _ _) (ftA _ _) dX16_init_82 hH hc (fun σ H locs X P9 E9 hH hc => ?_)
  have X : ST σ mr_8 c9 s9 0 rm 16 := X
  refine lv_aload_n B.1 B.2.1 dX16_init_85 rfl (lv_at hl 0 rfl) ?_
  refine lv_sipush (v := i32 256) B.1 B.2.1 dX16_init_86 (by decide) ?_
  refine nw_J B hT hRm wa_101 X (n := 256) (nn := 256) ⟨by decide, by decide⟩ rfl ⟨by rw [ml_8.1]; omega, by rw [ml_8.2]; omega⟩ dX16_init_89 hH hc (fun σ q H X P9 E9 hq hH hc => ?_)
  have hq : (gD σ)[40]? = some q := by rw [← ml_8.1]; exact hq
  refine pt_F B X (C := RX16) (T := TX16) (N := 123) (k := 23) hq (by decide) rfl wu_X16 tyX16 tyX16_ok nmX16 (by decide) wf_X16_754 rfl (ty := .array .long) rfl hin rfl rfl rfl (nrA _ _) (ftA _ _) dX16_init_91 hH hc (fun σ H locs X P9 E9 hH hc => ?_)
  have X : ST σ mr_9 c9 s9 0 rm 16 := X
  refine lv_aload_n B.1 B.2.1 dX16_init_94 rfl (lv_at hl 0 rfl) ?_
  refine lv_sipush (v := i32 1024) B.1 B.2.1 dX16_init_95 (by decide) ?_
  refine nw_J B hT hRm wa_101 X (n := 1024) (nn := 1024) ⟨by decide, by decide⟩ rfl ⟨by rw [ml_9.1]; omega, by rw [ml_9.2]; omega⟩ dX16_init_98 hH hc (fun σ q H X P9 E9 hq hH hc => ?_)
  have hq : (gD σ)[41]? = some q := by rw [← ml_9.1]; exact hq
  refine pt_F B X (C := RX16) (T := TX16) (N := 123) (k := 24) hq (by decide) rfl wu_X16 tyX16 tyX16_ok nmX16 (by decide) wf_X16_772 rfl (ty := .array .long) rfl hin rfl rfl rfl (nrA _ _) (ftA _ _) dX16_init_100 hH hc (fun σ H locs X P9 E9 hH hc => ?_)
  have X : ST σ mr_10 c9 s9 0 rm 16 := X
  refine lv_aload_n B.1 B.2.1 dX16_init_103 rfl (lv_at hl 0 rfl) ?_
  refine lv_iconst (v := i32 4) B.1 B.2.1 dX16_init_104 (by decide) ?_
  refine nw_Z B hT hRm wa_103 X (n := 4) (nn := 4) ⟨by decide, by decide⟩ rfl ⟨by rw [ml_10.1]; omega, by rw [ml_10.2]; omega⟩ dX16_init_105 hH hc (fun σ q H X P9 E9 hq hH hc => ?_)
  have hq : (gD σ)[42]? = some q := by rw [← ml_10.1]; exact hq
  refine pt_F B X (C := RX16) (T := TX16) (N := 123) (k := 25) hq (by decide) rfl wu_X16 tyX16 tyX16_ok nmX16 (by decide) wf_X16_779 rfl (ty := .array .boolean) rfl hin rfl rfl rfl (nrA _ _) (ftA _ _) dX16_init_107 hH hc (fun σ H locs X P9 E9 hH hc => ?_)
  have X : ST σ mr_11 c9 s9 0 rm 16 := X
  refine lv_aload_n B.1 B.2.1 dX16_init_110 rfl (lv_at hl 0 rfl) ?_
  refine lv_ldcw (v := i32 120000) B.1 B.2.1 B.2.2.1 (B.2.2.2.1 _ (wk_X16_960)) dX16_init_111 ?_
  refine nw_J B hT hRm wa_101 X (n := 120000) (nn := 120000) ⟨by decide, by decide⟩ rfl ⟨by rw [ml_11.1]; omega, by rw [ml_11.2]; omega⟩ dX16_init_114 hH hc (fun σ q H X P9 E9 hq hH hc => ?_)
  have hq : (gD σ)[43]? = some q := by rw [← ml_11.1]; exact hq
  refine pt_F B X (C := RX16) (T := TX16) (N := 123) (k := 26) hq (by decide) rfl wu_X16 tyX16 tyX16_ok nmX16 (by decide) wf_X16_350 rfl (ty := .array .long) rfl hin rfl rfl rfl (nrA _ _) (ftA _ _) dX16_init_116 hH hc (fun σ H locs X P9 E9 hH hc => ?_)
  have X : ST σ mr_12 c9 s9 0 rm 16 := X
  refine lv_aload_n B.1 B.2.1 dX16_init_119 rfl (lv_at hl 0 rfl) ?_
  refine nw_O B hRm X (co := 13) (N := 6) rfl (by decide) wu_X13 tyX13 tyX13_ok (by decide) wn_X16_829 ⟨by rw [ml_12.1]; omega, by rw [ml_12.2]; omega⟩ dX16_init_120 hH hc (fun σ q H X P9 E9 hq hk hH hc => ?_)
  refine lv_dup B.1 B.2.1 dX16_init_123 rfl ?_
  refine c_thr B hH hl hc hRm (c_X13_init l D.1 D.2 q H.size) (fun _ _ h9 => h9.1) hk (by decide) (r := (RX13, TX13, 6)) rfl (fl_13 X.1 hq dN_new) rfl rfl wy_X13 wt_X16_961 (by decide) ⟨by omega, by show 8 + (1 + 11) + 84 ≤ _; omega⟩ (Nat.le_of_ble_eq_true rfl) dX16_init_124 (fun H locs hH => ?_)
  have hq : (gD σ)[44]? = some q := by rw [← ml_12.1]; exact hq
  refine pt_F B X (C := RX16) (T := TX16) (N := 123) (k := 28) hq (by decide) rfl wu_X16 tyX16 tyX16_ok nmX16 (by decide) wf_X16_346 rfl (ty := .object "StreamHouseModel$Broken") rfl hin rfl rfl rfl (nrO _ _) (ftO _ _) dX16_init_127 hH hc (fun σ H locs X P9 E9 hH hc => ?_)
  have X : ST σ mr_13 c9 s9 0 rm 16 := X
  exact k _ X H locs ls hH hl hc
set_option maxHeartbeats 4000000 in
set_option maxRecDepth 20000 in
theorem mi_130 (B : Cx p s m args c cX16_init 4 RX16 D cA tys A) (hT : TyC cA tys) (hRm : Rm R n0 s0) (hin : meth.name = "<init>") (hfr : 8 ≤ R.frames) (hlw : 200 ≤ R.locals) (hz : c9 + 200 ≤ BC ∧ s9 + 600000 ≤ BS) (k : ∀ σ, ST σ mr_27 c9 s9 0 rm 16 → JJ p l e R s m args below meth c 4 D cA A n0 s0 Q σ 245 [(0, .ref rm)] []) : ∀ σ, ST σ mr_13 c9 s9 0 rm 16 → JJ p l e R s m args below meth c 4 D cA A n0 s0 Q σ 130 [(0, .ref rm)] [] := by
  intro σ X H locs ls hH hl hc
  refine lv_aload_n B.1 B.2.1 dX16_init_130 rfl (lv_at hl 0 rfl) ?_
  refine nw_O B hRm X (co := 13) (N := 6) rfl (by decide) wu_X13 tyX13 tyX13_ok (by decide) wn_X16_829 ⟨by rw [ml_13.1]; omega, by rw [ml_13.2]; omega⟩ dX16_init_131 hH hc (fun σ q H X P9 E9 hq hk hH hc => ?_)
  refine lv_dup B.1 B.2.1 dX16_init_134 rfl ?_
  refine c_thr B hH hl hc hRm (c_X13_init l D.1 D.2 q H.size) (fun _ _ h9 => h9.1) hk (by decide) (r := (RX13, TX13, 6)) rfl (fl_13 X.1 hq dN_new) rfl rfl wy_X13 wt_X16_961 (by decide) ⟨by omega, by show 8 + (1 + 11) + 84 ≤ _; omega⟩ (Nat.le_of_ble_eq_true rfl) dX16_init_135 (fun H locs hH => ?_)
  have hq : (gD σ)[45]? = some q := by rw [← ml_13.1]; exact hq
  refine pt_F B X (C := RX16) (T := TX16) (N := 123) (k := 29) hq (by decide) rfl wu_X16 tyX16 tyX16_ok nmX16 (by decide) wf_X16_691 rfl (ty := .object "StreamHouseModel$Broken") rfl hin rfl rfl rfl (nrO _ _) (ftO _ _) dX16_init_138 hH hc (fun σ H locs X P9 E9 hH hc => ?_)
  have X : ST σ mr_14 c9 s9 0 rm 16 := X
  refine lv_aload_n B.1 B.2.1 dX16_init_141 rfl (lv_at hl 0 rfl) ?_
  refine lv_bipush (v := i32 17) B.1 B.2.1 dX16_init_142 (by decide) ?_
  refine nw_I B hT hRm wa_100 X (n := 17) (nn := 17) ⟨by decide, by decide⟩ rfl ⟨by rw [ml_14.1]; omega, by rw [ml_14.2]; omega⟩ dX16_init_144 hH hc (fun σ q H X P9 E9 hq hH hc => ?_)
  have hq : (gD σ)[46]? = some q := by rw [← ml_14.1]; exact hq
  refine pt_F B X (C := RX16) (T := TX16) (N := 123) (k := 37) hq (by decide) rfl wu_X16 tyX16 tyX16_ok nmX16 (by decide) wf_X16_389 rfl (ty := .array .int) rfl hin rfl rfl rfl (nrA _ _) (ftA _ _) dX16_init_146 hH hc (fun σ H locs X P9 E9 hH hc => ?_)
  have X : ST σ mr_15 c9 s9 0 rm 16 := X
  refine lv_aload_n B.1 B.2.1 dX16_init_149 rfl (lv_at hl 0 rfl) ?_
  refine lv_bipush (v := i32 64) B.1 B.2.1 dX16_init_150 (by decide) ?_
  refine nw_I B hT hRm wa_100 X (n := 64) (nn := 64) ⟨by decide, by decide⟩ rfl ⟨by rw [ml_15.1]; omega, by rw [ml_15.2]; omega⟩ dX16_init_152 hH hc (fun σ q H X P9 E9 hq hH hc => ?_)
  have hq : (gD σ)[47]? = some q := by rw [← ml_15.1]; exact hq
  refine pt_F B X (C := RX16) (T := TX16) (N := 123) (k := 38) hq (by decide) rfl wu_X16 tyX16 tyX16_ok nmX16 (by decide) wf_X16_380 rfl (ty := .array .int) rfl hin rfl rfl rfl (nrA _ _) (ftA _ _) dX16_init_154 hH hc (fun σ H locs X P9 E9 hH hc => ?_)
  have X : ST σ mr_16 c9 s9 0 rm 16 := X
  refine lv_aload_n B.1 B.2.1 dX16_init_157 rfl (lv_at hl 0 rfl) ?_
  refine lv_bipush (v := i32 64) B.1 B.2.1 dX16_init_158 (by decide) ?_
  refine nw_I B hT hRm wa_100 X (n := 64) (nn := 64) ⟨by decide, by decide⟩ rfl ⟨by rw [ml_16.1]; omega, by rw [ml_16.2]; omega⟩ dX16_init_160 hH hc (fun σ q H X P9 E9 hq hH hc => ?_)
  have hq : (gD σ)[48]? = some q := by rw [← ml_16.1]; exact hq
  refine pt_F B X (C := RX16) (T := TX16) (N := 123) (k := 39) hq (by decide) rfl wu_X16 tyX16 tyX16_ok nmX16 (by decide) wf_X16_396 rfl (ty := .array .int) rfl hin rfl rfl rfl (nrA _ _) (ftA _ _) dX16_init_162 hH hc (fun σ H locs X P9 E9 hH hc => ?_)
  have X : ST σ mr_17 c9 s9 0 rm 16 := X
  refine lv_aload_n B.1 B.2.1 dX16_init_165 rfl (lv_at hl 0 rfl) ?_
  refine lv_bipush (v := i32 64) B.1 B.2.1 dX16_init_166 (by decide) ?_
  refine nw_J B hT hRm wa_101 X (n := 64) (nn := 64) ⟨by decide, by decide⟩ rfl ⟨by rw [ml_17.1]; omega, by rw [ml_17.2]; omega⟩ dX16_init_168 hH hc (fun σ q H X P9 E9 hq hH hc => ?_)
  have hq : (gD σ)[49]? = some q := by rw [← ml_17.1]; exact hq
  refine pt_F B X (C := RX16) (T := TX16) (N := 123) (k := 40) hq (by decide) rfl wu_X16 tyX16 tyX16_ok nmX16 (by decide) wf_X16_414 rfl (ty := .array .long) rfl hin rfl rfl rfl (nrA _ _) (ftA _ _) dX16_init_170 hH hc (fun σ H locs X P9 E9 hH hc => ?_)
  have X : ST σ mr_18 c9 s9 0 rm 16 := X
  refine lv_aload_n B.1 B.2.1 dX16_init_173 rfl (lv_at hl 0 rfl) ?_
  refine lv_bipush (v := i32 64) B.1 B.2.1 dX16_init_174 (by decide) ?_
  refine nw_I B hT hRm wa_100 X (n := 64) (nn := 64) ⟨by decide, by decide⟩ rfl ⟨by rw [ml_18.1]; omega, by rw [ml_18.2]; omega⟩ dX16_init_176 hH hc (fun σ q H X P9 E9 hq hH hc => ?_)
  have hq : (gD σ)[50]? = some q := by rw [← ml_18.1]; exact hq
  refine pt_F B X (C := RX16) (T := TX16) (N := 123) (k := 41) hq (by decide) rfl wu_X16 tyX16 tyX16_ok nmX16 (by decide) wf_X16_419 rfl (ty := .array .int) rfl hin rfl rfl rfl (nrA _ _) (ftA _ _) dX16_init_178 hH hc (fun σ H locs X P9 E9 hH hc => ?_)
  have X : ST σ mr_19 c9 s9 0 rm 16 := X
  refine lv_aload_n B.1 B.2.1 dX16_init_181 rfl (lv_at hl 0 rfl) ?_
  refine lv_bipush (v := i32 64) B.1 B.2.1 dX16_init_182 (by decide) ?_
  refine nw_I B hT hRm wa_100 X (n := 64) (nn := 64) ⟨by decide, by decide⟩ rfl ⟨by rw [ml_19.1]; omega, by rw [ml_19.2]; omega⟩ dX16_init_184 hH hc (fun σ q H X P9 E9 hq hH hc => ?_)
  have hq : (gD σ)[51]? = some q := by rw [← ml_19.1]; exact hq
  refine pt_F B X (C := RX16) (T := TX16) (N := 123) (k := 42) hq (by decide) rfl wu_X16 tyX16 tyX16_ok nmX16 (by decide) wf_X16_422 rfl (ty := .array .int) rfl hin rfl rfl rfl (nrA _ _) (ftA _ _) dX16_init_186 hH hc (fun σ H locs X P9 E9 hH hc => ?_)
  have X : ST σ mr_20 c9 s9 0 rm 16 := X
  refine lv_aload_n B.1 B.2.1 dX16_init_189 rfl (lv_at hl 0 rfl) ?_
  refine lv_bipush (v := i32 64) B.1 B.2.1 dX16_init_190 (by decide) ?_
  refine nw_I B hT hRm wa_100 X (n := 64) (nn := 64) ⟨by decide, by decide⟩ rfl ⟨by rw [ml_20.1]; omega, by rw [ml_20.2]; omega⟩ dX16_init_192 hH hc (fun σ q H X P9 E9 hq hH hc => ?_)
  have hq : (gD σ)[52]? = some q := by rw [← ml_20.1]; exact hq
  refine pt_F B X (C := RX16) (T := TX16) (N := 123) (k := 43) hq (by decide) rfl wu_X16 tyX16 tyX16_ok nmX16 (by decide) wf_X16_425 rfl (ty := .array .int) rfl hin rfl rfl rfl (nrA _ _) (ftA _ _) dX16_init_194 hH hc (fun σ H locs X P9 E9 hH hc => ?_)
  have X : ST σ mr_21 c9 s9 0 rm 16 := X
  refine lv_aload_n B.1 B.2.1 dX16_init_197 rfl (lv_at hl 0 rfl) ?_
  refine lv_bipush (v := i32 64) B.1 B.2.1 dX16_init_198 (by decide) ?_
  refine nw_Z B hT hRm wa_103 X (n := 64) (nn := 64) ⟨by decide, by decide⟩ rfl ⟨by rw [ml_21.1]; omega, by rw [ml_21.2]; omega⟩ dX16_init_200 hH hc (fun σ q H X P9 E9 hq hH hc => ?_)
  have hq : (gD σ)[53]? = some q := by rw [← ml_21.1]; exact hq
  refine pt_F B X (C := RX16) (T := TX16) (N := 123) (k := 44) hq (by decide) rfl wu_X16 tyX16 tyX16_ok nmX16 (by decide) wf_X16_428 rfl (ty := .array .boolean) rfl hin rfl rfl rfl (nrA _ _) (ftA _ _) dX16_init_202 hH hc (fun σ H locs X P9 E9 hH hc => ?_)
  have X : ST σ mr_22 c9 s9 0 rm 16 := X
  refine lv_aload_n B.1 B.2.1 dX16_init_205 rfl (lv_at hl 0 rfl) ?_
  refine lv_bipush (v := i32 64) B.1 B.2.1 dX16_init_206 (by decide) ?_
  refine nw_I B hT hRm wa_100 X (n := 64) (nn := 64) ⟨by decide, by decide⟩ rfl ⟨by rw [ml_22.1]; omega, by rw [ml_22.2]; omega⟩ dX16_init_208 hH hc (fun σ q H X P9 E9 hq hH hc => ?_)
  have hq : (gD σ)[54]? = some q := by rw [← ml_22.1]; exact hq
  refine pt_F B X (C := RX16) (T := TX16) (N := 123) (k := 45) hq (by decide) rfl wu_X16 tyX16 tyX16_ok nmX16 (by decide) wf_X16_432 rfl (ty := .array .int) rfl hin rfl rfl rfl (nrA _ _) (ftA _ _) dX16_init_210 hH hc (fun σ H locs X P9 E9 hH hc => ?_)
  have X : ST σ mr_23 c9 s9 0 rm 16 := X
  refine lv_aload_n B.1 B.2.1 dX16_init_213 rfl (lv_at hl 0 rfl) ?_
  refine lv_bipush (v := i32 64) B.1 B.2.1 dX16_init_214 (by decide) ?_
  refine nw_I B hT hRm wa_100 X (n := 64) (nn := 64) ⟨by decide, by decide⟩ rfl ⟨by rw [ml_23.1]; omega, by rw [ml_23.2]; omega⟩ dX16_init_216 hH hc (fun σ q H X P9 E9 hq hH hc => ?_)
  have hq : (gD σ)[55]? = some q := by rw [← ml_23.1]; exact hq
  refine pt_F B X (C := RX16) (T := TX16) (N := 123) (k := 46) hq (by decide) rfl wu_X16 tyX16 tyX16_ok nmX16 (by decide) wf_X16_435 rfl (ty := .array .int) rfl hin rfl rfl rfl (nrA _ _) (ftA _ _) dX16_init_218 hH hc (fun σ H locs X P9 E9 hH hc => ?_)
  have X : ST σ mr_24 c9 s9 0 rm 16 := X
  refine lv_aload_n B.1 B.2.1 dX16_init_221 rfl (lv_at hl 0 rfl) ?_
  refine lv_bipush (v := i32 64) B.1 B.2.1 dX16_init_222 (by decide) ?_
  refine nw_I B hT hRm wa_100 X (n := 64) (nn := 64) ⟨by decide, by decide⟩ rfl ⟨by rw [ml_24.1]; omega, by rw [ml_24.2]; omega⟩ dX16_init_224 hH hc (fun σ q H X P9 E9 hq hH hc => ?_)
  have hq : (gD σ)[56]? = some q := by rw [← ml_24.1]; exact hq
  refine pt_F B X (C := RX16) (T := TX16) (N := 123) (k := 47) hq (by decide) rfl wu_X16 tyX16 tyX16_ok nmX16 (by decide) wf_X16_438 rfl (ty := .array .int) rfl hin rfl rfl rfl (nrA _ _) (ftA _ _) dX16_init_226 hH hc (fun σ H locs X P9 E9 hH hc => ?_)
  have X : ST σ mr_25 c9 s9 0 rm 16 := X
  refine lv_aload_n B.1 B.2.1 dX16_init_229 rfl (lv_at hl 0 rfl) ?_
  refine lv_bipush (v := i32 64) B.1 B.2.1 dX16_init_230 (by decide) ?_
  refine nw_I B hT hRm wa_100 X (n := 64) (nn := 64) ⟨by decide, by decide⟩ rfl ⟨by rw [ml_25.1]; omega, by rw [ml_25.2]; omega⟩ dX16_init_232 hH hc (fun σ q H X P9 E9 hq hH hc => ?_)
  have hq : (gD σ)[57]? = some q := by rw [← ml_25.1]; exact hq
  refine pt_F B X (C := RX16) (T := TX16) (N := 123) (k := 48) hq (by decide) rfl wu_X16 tyX16 tyX16_ok nmX16 (by decide) wf_X16_441 rfl (ty := .array .int) rfl hin rfl rfl rfl (nrA _ _) (ftA _ _) dX16_init_234 hH hc (fun σ H locs X P9 E9 hH hc => ?_)
  have X : ST σ mr_26 c9 s9 0 rm 16 := X
  refine lv_aload_n B.1 B.2.1 dX16_init_237 rfl (lv_at hl 0 rfl) ?_
  refine lv_bipush (v := i32 32) B.1 B.2.1 dX16_init_238 (by decide) ?_
  refine nw_J B hT hRm wa_101 X (n := 32) (nn := 32) ⟨by decide, by decide⟩ rfl ⟨by rw [ml_26.1]; omega, by rw [ml_26.2]; omega⟩ dX16_init_240 hH hc (fun σ q H X P9 E9 hq hH hc => ?_)
  have hq : (gD σ)[58]? = some q := by rw [← ml_26.1]; exact hq
  refine pt_F B X (C := RX16) (T := TX16) (N := 123) (k := 49) hq (by decide) rfl wu_X16 tyX16 tyX16_ok nmX16 (by decide) wf_X16_444 rfl (ty := .array .long) rfl hin rfl rfl rfl (nrA _ _) (ftA _ _) dX16_init_242 hH hc (fun σ H locs X P9 E9 hH hc => ?_)
  have X : ST σ mr_27 c9 s9 0 rm 16 := X
  exact k _ X H locs ls hH hl hc
set_option maxHeartbeats 4000000 in
set_option maxRecDepth 20000 in
theorem mi_245 (B : Cx p s m args c cX16_init 4 RX16 D cA tys A) (hT : TyC cA tys) (hRm : Rm R n0 s0) (hin : meth.name = "<init>") (hfr : 8 ≤ R.frames) (hlw : 200 ≤ R.locals) (hz : c9 + 200 ≤ BC ∧ s9 + 600000 ≤ BS) (k : ∀ σ, ST σ mr_41 c9 s9 0 rm 16 → JJ p l e R s m args below meth c 4 D cA A n0 s0 Q σ 371 [(0, .ref rm)] []) : ∀ σ, ST σ mr_27 c9 s9 0 rm 16 → JJ p l e R s m args below meth c 4 D cA A n0 s0 Q σ 245 [(0, .ref rm)] [] := by
  intro σ X H locs ls hH hl hc
  refine lv_aload_n B.1 B.2.1 dX16_init_245 rfl (lv_at hl 0 rfl) ?_
  refine lv_sipush (v := i32 1100) B.1 B.2.1 dX16_init_246 (by decide) ?_
  refine nw_I B hT hRm wa_100 X (n := 1100) (nn := 1100) ⟨by decide, by decide⟩ rfl ⟨by rw [ml_27.1]; omega, by rw [ml_27.2]; omega⟩ dX16_init_249 hH hc (fun σ q H X P9 E9 hq hH hc => ?_)
  have hq : (gD σ)[59]? = some q := by rw [← ml_27.1]; exact hq
  refine pt_F B X (C := RX16) (T := TX16) (N := 123) (k := 51) hq (by decide) rfl wu_X16 tyX16 tyX16_ok nmX16 (by decide) wf_X16_368 rfl (ty := .array .int) rfl hin rfl rfl rfl (nrA _ _) (ftA _ _) dX16_init_251 hH hc (fun σ H locs X P9 E9 hH hc => ?_)
  have X : ST σ mr_28 c9 s9 0 rm 16 := X
  refine lv_aload_n B.1 B.2.1 dX16_init_254 rfl (lv_at hl 0 rfl) ?_
  refine lv_sipush (v := i32 1100) B.1 B.2.1 dX16_init_255 (by decide) ?_
  refine nw_I B hT hRm wa_100 X (n := 1100) (nn := 1100) ⟨by decide, by decide⟩ rfl ⟨by rw [ml_28.1]; omega, by rw [ml_28.2]; omega⟩ dX16_init_258 hH hc (fun σ q H X P9 E9 hq hH hc => ?_)
  have hq : (gD σ)[60]? = some q := by rw [← ml_28.1]; exact hq
  refine pt_F B X (C := RX16) (T := TX16) (N := 123) (k := 52) hq (by decide) rfl wu_X16 tyX16 tyX16_ok nmX16 (by decide) wf_X16_374 rfl (ty := .array .int) rfl hin rfl rfl rfl (nrA _ _) (ftA _ _) dX16_init_260 hH hc (fun σ H locs X P9 E9 hH hc => ?_)
  have X : ST σ mr_29 c9 s9 0 rm 16 := X
  refine lv_aload_n B.1 B.2.1 dX16_init_263 rfl (lv_at hl 0 rfl) ?_
  refine lv_sipush (v := i32 1100) B.1 B.2.1 dX16_init_264 (by decide) ?_
  refine nw_I B hT hRm wa_100 X (n := 1100) (nn := 1100) ⟨by decide, by decide⟩ rfl ⟨by rw [ml_29.1]; omega, by rw [ml_29.2]; omega⟩ dX16_init_267 hH hc (fun σ q H X P9 E9 hq hH hc => ?_)
  have hq : (gD σ)[61]? = some q := by rw [← ml_29.1]; exact hq
  refine pt_F B X (C := RX16) (T := TX16) (N := 123) (k := 53) hq (by decide) rfl wu_X16 tyX16 tyX16_ok nmX16 (by decide) wf_X16_377 rfl (ty := .array .int) rfl hin rfl rfl rfl (nrA _ _) (ftA _ _) dX16_init_269 hH hc (fun σ H locs X P9 E9 hH hc => ?_)
  have X : ST σ mr_30 c9 s9 0 rm 16 := X
  refine lv_aload_n B.1 B.2.1 dX16_init_272 rfl (lv_at hl 0 rfl) ?_
  refine lv_sipush (v := i32 1100) B.1 B.2.1 dX16_init_273 (by decide) ?_
  refine nw_I B hT hRm wa_100 X (n := 1100) (nn := 1100) ⟨by decide, by decide⟩ rfl ⟨by rw [ml_30.1]; omega, by rw [ml_30.2]; omega⟩ dX16_init_276 hH hc (fun σ q H X P9 E9 hq hH hc => ?_)
  have hq : (gD σ)[62]? = some q := by rw [← ml_30.1]; exact hq
  refine pt_F B X (C := RX16) (T := TX16) (N := 123) (k := 54) hq (by decide) rfl wu_X16 tyX16 tyX16_ok nmX16 (by decide) wf_X16_447 rfl (ty := .array .int) rfl hin rfl rfl rfl (nrA _ _) (ftA _ _) dX16_init_278 hH hc (fun σ H locs X P9 E9 hH hc => ?_)
  have X : ST σ mr_31 c9 s9 0 rm 16 := X
  refine lv_aload_n B.1 B.2.1 dX16_init_281 rfl (lv_at hl 0 rfl) ?_
  refine lv_sipush (v := i32 1100) B.1 B.2.1 dX16_init_282 (by decide) ?_
  refine nw_I B hT hRm wa_100 X (n := 1100) (nn := 1100) ⟨by decide, by decide⟩ rfl ⟨by rw [ml_31.1]; omega, by rw [ml_31.2]; omega⟩ dX16_init_285 hH hc (fun σ q H X P9 E9 hq hH hc => ?_)
  have hq : (gD σ)[63]? = some q := by rw [← ml_31.1]; exact hq
  refine pt_F B X (C := RX16) (T := TX16) (N := 123) (k := 55) hq (by decide) rfl wu_X16 tyX16 tyX16_ok nmX16 (by decide) wf_X16_450 rfl (ty := .array .int) rfl hin rfl rfl rfl (nrA _ _) (ftA _ _) dX16_init_287 hH hc (fun σ H locs X P9 E9 hH hc => ?_)
  have X : ST σ mr_32 c9 s9 0 rm 16 := X
  refine lv_aload_n B.1 B.2.1 dX16_init_290 rfl (lv_at hl 0 rfl) ?_
  refine lv_sipush (v := i32 1100) B.1 B.2.1 dX16_init_291 (by decide) ?_
  refine nw_J B hT hRm wa_101 X (n := 1100) (nn := 1100) ⟨by decide, by decide⟩ rfl ⟨by rw [ml_32.1]; omega, by rw [ml_32.2]; omega⟩ dX16_init_294 hH hc (fun σ q H X P9 E9 hq hH hc => ?_)
  have hq : (gD σ)[64]? = some q := by rw [← ml_32.1]; exact hq
  refine pt_F B X (C := RX16) (T := TX16) (N := 123) (k := 56) hq (by decide) rfl wu_X16 tyX16 tyX16_ok nmX16 (by decide) wf_X16_453 rfl (ty := .array .long) rfl hin rfl rfl rfl (nrA _ _) (ftA _ _) dX16_init_296 hH hc (fun σ H locs X P9 E9 hH hc => ?_)
  have X : ST σ mr_33 c9 s9 0 rm 16 := X
  refine lv_aload_n B.1 B.2.1 dX16_init_299 rfl (lv_at hl 0 rfl) ?_
  refine lv_sipush (v := i32 1100) B.1 B.2.1 dX16_init_300 (by decide) ?_
  refine nw_Z B hT hRm wa_103 X (n := 1100) (nn := 1100) ⟨by decide, by decide⟩ rfl ⟨by rw [ml_33.1]; omega, by rw [ml_33.2]; omega⟩ dX16_init_303 hH hc (fun σ q H X P9 E9 hq hH hc => ?_)
  have hq : (gD σ)[65]? = some q := by rw [← ml_33.1]; exact hq
  refine pt_F B X (C := RX16) (T := TX16) (N := 123) (k := 57) hq (by decide) rfl wu_X16 tyX16 tyX16_ok nmX16 (by decide) wf_X16_456 rfl (ty := .array .boolean) rfl hin rfl rfl rfl (nrA _ _) (ftA _ _) dX16_init_305 hH hc (fun σ H locs X P9 E9 hH hc => ?_)
  have X : ST σ mr_34 c9 s9 0 rm 16 := X
  refine lv_aload_n B.1 B.2.1 dX16_init_308 rfl (lv_at hl 0 rfl) ?_
  refine lv_sipush (v := i32 1100) B.1 B.2.1 dX16_init_309 (by decide) ?_
  refine nw_J B hT hRm wa_101 X (n := 1100) (nn := 1100) ⟨by decide, by decide⟩ rfl ⟨by rw [ml_34.1]; omega, by rw [ml_34.2]; omega⟩ dX16_init_312 hH hc (fun σ q H X P9 E9 hq hH hc => ?_)
  have hq : (gD σ)[66]? = some q := by rw [← ml_34.1]; exact hq
  refine pt_F B X (C := RX16) (T := TX16) (N := 123) (k := 58) hq (by decide) rfl wu_X16 tyX16 tyX16_ok nmX16 (by decide) wf_X16_459 rfl (ty := .array .long) rfl hin rfl rfl rfl (nrA _ _) (ftA _ _) dX16_init_314 hH hc (fun σ H locs X P9 E9 hH hc => ?_)
  have X : ST σ mr_35 c9 s9 0 rm 16 := X
  refine lv_aload_n B.1 B.2.1 dX16_init_317 rfl (lv_at hl 0 rfl) ?_
  refine lv_sipush (v := i32 8800) B.1 B.2.1 dX16_init_318 (by decide) ?_
  refine nw_I B hT hRm wa_100 X (n := 8800) (nn := 8800) ⟨by decide, by decide⟩ rfl ⟨by rw [ml_35.1]; omega, by rw [ml_35.2]; omega⟩ dX16_init_321 hH hc (fun σ q H X P9 E9 hq hH hc => ?_)
  have hq : (gD σ)[67]? = some q := by rw [← ml_35.1]; exact hq
  refine pt_F B X (C := RX16) (T := TX16) (N := 123) (k := 59) hq (by decide) rfl wu_X16 tyX16 tyX16_ok nmX16 (by decide) wf_X16_492 rfl (ty := .array .int) rfl hin rfl rfl rfl (nrA _ _) (ftA _ _) dX16_init_323 hH hc (fun σ H locs X P9 E9 hH hc => ?_)
  have X : ST σ mr_36 c9 s9 0 rm 16 := X
  refine lv_aload_n B.1 B.2.1 dX16_init_326 rfl (lv_at hl 0 rfl) ?_
  refine lv_sipush (v := i32 12802) B.1 B.2.1 dX16_init_327 (by decide) ?_
  refine nw_I B hT hRm wa_100 X (n := 12802) (nn := 12802) ⟨by decide, by decide⟩ rfl ⟨by rw [ml_36.1]; omega, by rw [ml_36.2]; omega⟩ dX16_init_330 hH hc (fun σ q H X P9 E9 hq hH hc => ?_)
  have hq : (gD σ)[68]? = some q := by rw [← ml_36.1]; exact hq
  refine pt_F B X (C := RX16) (T := TX16) (N := 123) (k := 60) hq (by decide) rfl wu_X16 tyX16 tyX16_ok nmX16 (by decide) wf_X16_467 rfl (ty := .array .int) rfl hin rfl rfl rfl (nrA _ _) (ftA _ _) dX16_init_332 hH hc (fun σ H locs X P9 E9 hH hc => ?_)
  have X : ST σ mr_37 c9 s9 0 rm 16 := X
  refine lv_aload_n B.1 B.2.1 dX16_init_335 rfl (lv_at hl 0 rfl) ?_
  refine lv_sipush (v := i32 12802) B.1 B.2.1 dX16_init_336 (by decide) ?_
  refine nw_J B hT hRm wa_101 X (n := 12802) (nn := 12802) ⟨by decide, by decide⟩ rfl ⟨by rw [ml_37.1]; omega, by rw [ml_37.2]; omega⟩ dX16_init_339 hH hc (fun σ q H X P9 E9 hq hH hc => ?_)
  have hq : (gD σ)[69]? = some q := by rw [← ml_37.1]; exact hq
  refine pt_F B X (C := RX16) (T := TX16) (N := 123) (k := 61) hq (by decide) rfl wu_X16 tyX16 tyX16_ok nmX16 (by decide) wf_X16_470 rfl (ty := .array .long) rfl hin rfl rfl rfl (nrA _ _) (ftA _ _) dX16_init_341 hH hc (fun σ H locs X P9 E9 hH hc => ?_)
  have X : ST σ mr_38 c9 s9 0 rm 16 := X
  refine lv_aload_n B.1 B.2.1 dX16_init_344 rfl (lv_at hl 0 rfl) ?_
  refine lv_ldcw (v := i32 102416) B.1 B.2.1 B.2.2.1 (B.2.2.2.1 _ (wk_X16_962)) dX16_init_345 ?_
  refine nw_J B hT hRm wa_101 X (n := 102416) (nn := 102416) ⟨by decide, by decide⟩ rfl ⟨by rw [ml_38.1]; omega, by rw [ml_38.2]; omega⟩ dX16_init_348 hH hc (fun σ q H X P9 E9 hq hH hc => ?_)
  have hq : (gD σ)[70]? = some q := by rw [← ml_38.1]; exact hq
  refine pt_F B X (C := RX16) (T := TX16) (N := 123) (k := 62) hq (by decide) rfl wu_X16 tyX16 tyX16_ok nmX16 (by decide) wf_X16_473 rfl (ty := .array .long) rfl hin rfl rfl rfl (nrA _ _) (ftA _ _) dX16_init_350 hH hc (fun σ H locs X P9 E9 hH hc => ?_)
  have X : ST σ mr_39 c9 s9 0 rm 16 := X
  refine lv_aload_n B.1 B.2.1 dX16_init_353 rfl (lv_at hl 0 rfl) ?_
  refine lv_sipush (v := i32 12802) B.1 B.2.1 dX16_init_354 (by decide) ?_
  refine nw_I B hT hRm wa_100 X (n := 12802) (nn := 12802) ⟨by decide, by decide⟩ rfl ⟨by rw [ml_39.1]; omega, by rw [ml_39.2]; omega⟩ dX16_init_357 hH hc (fun σ q H X P9 E9 hq hH hc => ?_)
  have hq : (gD σ)[71]? = some q := by rw [← ml_39.1]; exact hq
  refine pt_F B X (C := RX16) (T := TX16) (N := 123) (k := 63) hq (by decide) rfl wu_X16 tyX16 tyX16_ok nmX16 (by decide) wf_X16_476 rfl (ty := .array .int) rfl hin rfl rfl rfl (nrA _ _) (ftA _ _) dX16_init_359 hH hc (fun σ H locs X P9 E9 hH hc => ?_)
  have X : ST σ mr_40 c9 s9 0 rm 16 := X
  refine lv_aload_n B.1 B.2.1 dX16_init_362 rfl (lv_at hl 0 rfl) ?_
  refine lv_sipush (v := i32 12802) B.1 B.2.1 dX16_init_363 (by decide) ?_
  refine nw_I B hT hRm wa_100 X (n := 12802) (nn := 12802) ⟨by decide, by decide⟩ rfl ⟨by rw [ml_40.1]; omega, by rw [ml_40.2]; omega⟩ dX16_init_366 hH hc (fun σ q H X P9 E9 hq hH hc => ?_)
  have hq : (gD σ)[72]? = some q := by rw [← ml_40.1]; exact hq
  refine pt_F B X (C := RX16) (T := TX16) (N := 123) (k := 64) hq (by decide) rfl wu_X16 tyX16 tyX16_ok nmX16 (by decide) wf_X16_479 rfl (ty := .array .int) rfl hin rfl rfl rfl (nrA _ _) (ftA _ _) dX16_init_368 hH hc (fun σ H locs X P9 E9 hH hc => ?_)
  have X : ST σ mr_41 c9 s9 0 rm 16 := X
  exact k _ X H locs ls hH hl hc
set_option maxHeartbeats 4000000 in
set_option maxRecDepth 20000 in
theorem mi_371 (B : Cx p s m args c cX16_init 4 RX16 D cA tys A) (hT : TyC cA tys) (hRm : Rm R n0 s0) (hin : meth.name = "<init>") (hfr : 8 ≤ R.frames) (hlw : 200 ≤ R.locals) (hz : c9 + 200 ≤ BC ∧ s9 + 600000 ≤ BS) (k : ∀ σ, ST σ mr_55 c9 s9 0 rm 16 → JJ p l e R s m args below meth c 4 D cA A n0 s0 Q σ 492 [(0, .ref rm)] []) : ∀ σ, ST σ mr_41 c9 s9 0 rm 16 → JJ p l e R s m args below meth c 4 D cA A n0 s0 Q σ 371 [(0, .ref rm)] [] := by
  intro σ X H locs ls hH hl hc
  refine lv_aload_n B.1 B.2.1 dX16_init_371 rfl (lv_at hl 0 rfl) ?_
  refine lv_sipush (v := i32 12802) B.1 B.2.1 dX16_init_372 (by decide) ?_
  refine nw_I B hT hRm wa_100 X (n := 12802) (nn := 12802) ⟨by decide, by decide⟩ rfl ⟨by rw [ml_41.1]; omega, by rw [ml_41.2]; omega⟩ dX16_init_375 hH hc (fun σ q H X P9 E9 hq hH hc => ?_)
  have hq : (gD σ)[73]? = some q := by rw [← ml_41.1]; exact hq
  refine pt_F B X (C := RX16) (T := TX16) (N := 123) (k := 65) hq (by decide) rfl wu_X16 tyX16 tyX16_ok nmX16 (by decide) wf_X16_405 rfl (ty := .array .int) rfl hin rfl rfl rfl (nrA _ _) (ftA _ _) dX16_init_377 hH hc (fun σ H locs X P9 E9 hH hc => ?_)
  have X : ST σ mr_42 c9 s9 0 rm 16 := X
  refine lv_aload_n B.1 B.2.1 dX16_init_380 rfl (lv_at hl 0 rfl) ?_
  refine lv_sipush (v := i32 4000) B.1 B.2.1 dX16_init_381 (by decide) ?_
  refine nw_I B hT hRm wa_100 X (n := 4000) (nn := 4000) ⟨by decide, by decide⟩ rfl ⟨by rw [ml_42.1]; omega, by rw [ml_42.2]; omega⟩ dX16_init_384 hH hc (fun σ q H X P9 E9 hq hH hc => ?_)
  have hq : (gD σ)[74]? = some q := by rw [← ml_42.1]; exact hq
  refine pt_F B X (C := RX16) (T := TX16) (N := 123) (k := 68) hq (by decide) rfl wu_X16 tyX16 tyX16_ok nmX16 (by decide) wf_X16_513 rfl (ty := .array .int) rfl hin rfl rfl rfl (nrA _ _) (ftA _ _) dX16_init_386 hH hc (fun σ H locs X P9 E9 hH hc => ?_)
  have X : ST σ mr_43 c9 s9 0 rm 16 := X
  refine lv_aload_n B.1 B.2.1 dX16_init_389 rfl (lv_at hl 0 rfl) ?_
  refine lv_sipush (v := i32 4000) B.1 B.2.1 dX16_init_390 (by decide) ?_
  refine nw_I B hT hRm wa_100 X (n := 4000) (nn := 4000) ⟨by decide, by decide⟩ rfl ⟨by rw [ml_43.1]; omega, by rw [ml_43.2]; omega⟩ dX16_init_393 hH hc (fun σ q H X P9 E9 hq hH hc => ?_)
  have hq : (gD σ)[75]? = some q := by rw [← ml_43.1]; exact hq
  refine pt_F B X (C := RX16) (T := TX16) (N := 123) (k := 69) hq (by decide) rfl wu_X16 tyX16 tyX16_ok nmX16 (by decide) wf_X16_516 rfl (ty := .array .int) rfl hin rfl rfl rfl (nrA _ _) (ftA _ _) dX16_init_395 hH hc (fun σ H locs X P9 E9 hH hc => ?_)
  have X : ST σ mr_44 c9 s9 0 rm 16 := X
  refine lv_aload_n B.1 B.2.1 dX16_init_398 rfl (lv_at hl 0 rfl) ?_
  refine lv_sipush (v := i32 4000) B.1 B.2.1 dX16_init_399 (by decide) ?_
  refine nw_J B hT hRm wa_101 X (n := 4000) (nn := 4000) ⟨by decide, by decide⟩ rfl ⟨by rw [ml_44.1]; omega, by rw [ml_44.2]; omega⟩ dX16_init_402 hH hc (fun σ q H X P9 E9 hq hH hc => ?_)
  have hq : (gD σ)[76]? = some q := by rw [← ml_44.1]; exact hq
  refine pt_F B X (C := RX16) (T := TX16) (N := 123) (k := 70) hq (by decide) rfl wu_X16 tyX16 tyX16_ok nmX16 (by decide) wf_X16_519 rfl (ty := .array .long) rfl hin rfl rfl rfl (nrA _ _) (ftA _ _) dX16_init_404 hH hc (fun σ H locs X P9 E9 hH hc => ?_)
  have X : ST σ mr_45 c9 s9 0 rm 16 := X
  refine lv_aload_n B.1 B.2.1 dX16_init_407 rfl (lv_at hl 0 rfl) ?_
  refine lv_sipush (v := i32 4000) B.1 B.2.1 dX16_init_408 (by decide) ?_
  refine nw_J B hT hRm wa_101 X (n := 4000) (nn := 4000) ⟨by decide, by decide⟩ rfl ⟨by rw [ml_45.1]; omega, by rw [ml_45.2]; omega⟩ dX16_init_411 hH hc (fun σ q H X P9 E9 hq hH hc => ?_)
  have hq : (gD σ)[77]? = some q := by rw [← ml_45.1]; exact hq
  refine pt_F B X (C := RX16) (T := TX16) (N := 123) (k := 71) hq (by decide) rfl wu_X16 tyX16 tyX16_ok nmX16 (by decide) wf_X16_522 rfl (ty := .array .long) rfl hin rfl rfl rfl (nrA _ _) (ftA _ _) dX16_init_413 hH hc (fun σ H locs X P9 E9 hH hc => ?_)
  have X : ST σ mr_46 c9 s9 0 rm 16 := X
  refine lv_aload_n B.1 B.2.1 dX16_init_416 rfl (lv_at hl 0 rfl) ?_
  refine lv_sipush (v := i32 4000) B.1 B.2.1 dX16_init_417 (by decide) ?_
  refine nw_J B hT hRm wa_101 X (n := 4000) (nn := 4000) ⟨by decide, by decide⟩ rfl ⟨by rw [ml_46.1]; omega, by rw [ml_46.2]; omega⟩ dX16_init_420 hH hc (fun σ q H X P9 E9 hq hH hc => ?_)
  have hq : (gD σ)[78]? = some q := by rw [← ml_46.1]; exact hq
  refine pt_F B X (C := RX16) (T := TX16) (N := 123) (k := 72) hq (by decide) rfl wu_X16 tyX16 tyX16_ok nmX16 (by decide) wf_X16_525 rfl (ty := .array .long) rfl hin rfl rfl rfl (nrA _ _) (ftA _ _) dX16_init_422 hH hc (fun σ H locs X P9 E9 hH hc => ?_)
  have X : ST σ mr_47 c9 s9 0 rm 16 := X
  refine lv_aload_n B.1 B.2.1 dX16_init_425 rfl (lv_at hl 0 rfl) ?_
  refine lv_sipush (v := i32 32000) B.1 B.2.1 dX16_init_426 (by decide) ?_
  refine nw_J B hT hRm wa_101 X (n := 32000) (nn := 32000) ⟨by decide, by decide⟩ rfl ⟨by rw [ml_47.1]; omega, by rw [ml_47.2]; omega⟩ dX16_init_429 hH hc (fun σ q H X P9 E9 hq hH hc => ?_)
  have hq : (gD σ)[79]? = some q := by rw [← ml_47.1]; exact hq
  refine pt_F B X (C := RX16) (T := TX16) (N := 123) (k := 73) hq (by decide) rfl wu_X16 tyX16 tyX16_ok nmX16 (by decide) wf_X16_528 rfl (ty := .array .long) rfl hin rfl rfl rfl (nrA _ _) (ftA _ _) dX16_init_431 hH hc (fun σ H locs X P9 E9 hH hc => ?_)
  have X : ST σ mr_48 c9 s9 0 rm 16 := X
  refine lv_aload_n B.1 B.2.1 dX16_init_434 rfl (lv_at hl 0 rfl) ?_
  refine lv_sipush (v := i32 4000) B.1 B.2.1 dX16_init_435 (by decide) ?_
  refine nw_I B hT hRm wa_100 X (n := 4000) (nn := 4000) ⟨by decide, by decide⟩ rfl ⟨by rw [ml_48.1]; omega, by rw [ml_48.2]; omega⟩ dX16_init_438 hH hc (fun σ q H X P9 E9 hq hH hc => ?_)
  have hq : (gD σ)[80]? = some q := by rw [← ml_48.1]; exact hq
  refine pt_F B X (C := RX16) (T := TX16) (N := 123) (k := 74) hq (by decide) rfl wu_X16 tyX16 tyX16_ok nmX16 (by decide) wf_X16_531 rfl (ty := .array .int) rfl hin rfl rfl rfl (nrA _ _) (ftA _ _) dX16_init_440 hH hc (fun σ H locs X P9 E9 hH hc => ?_)
  have X : ST σ mr_49 c9 s9 0 rm 16 := X
  refine lv_aload_n B.1 B.2.1 dX16_init_443 rfl (lv_at hl 0 rfl) ?_
  refine lv_sipush (v := i32 4000) B.1 B.2.1 dX16_init_444 (by decide) ?_
  refine nw_I B hT hRm wa_100 X (n := 4000) (nn := 4000) ⟨by decide, by decide⟩ rfl ⟨by rw [ml_49.1]; omega, by rw [ml_49.2]; omega⟩ dX16_init_447 hH hc (fun σ q H X P9 E9 hq hH hc => ?_)
  have hq : (gD σ)[81]? = some q := by rw [← ml_49.1]; exact hq
  refine pt_F B X (C := RX16) (T := TX16) (N := 123) (k := 75) hq (by decide) rfl wu_X16 tyX16 tyX16_ok nmX16 (by decide) wf_X16_495 rfl (ty := .array .int) rfl hin rfl rfl rfl (nrA _ _) (ftA _ _) dX16_init_449 hH hc (fun σ H locs X P9 E9 hH hc => ?_)
  have X : ST σ mr_50 c9 s9 0 rm 16 := X
  refine lv_aload_n B.1 B.2.1 dX16_init_452 rfl (lv_at hl 0 rfl) ?_
  refine lv_bipush (v := i32 64) B.1 B.2.1 dX16_init_453 (by decide) ?_
  refine nw_I B hT hRm wa_100 X (n := 64) (nn := 64) ⟨by decide, by decide⟩ rfl ⟨by rw [ml_50.1]; omega, by rw [ml_50.2]; omega⟩ dX16_init_455 hH hc (fun σ q H X P9 E9 hq hH hc => ?_)
  have hq : (gD σ)[82]? = some q := by rw [← ml_50.1]; exact hq
  refine pt_F B X (C := RX16) (T := TX16) (N := 123) (k := 76) hq (by decide) rfl wu_X16 tyX16 tyX16_ok nmX16 (by decide) wf_X16_504 rfl (ty := .array .int) rfl hin rfl rfl rfl (nrA _ _) (ftA _ _) dX16_init_457 hH hc (fun σ H locs X P9 E9 hH hc => ?_)
  have X : ST σ mr_51 c9 s9 0 rm 16 := X
  refine lv_aload_n B.1 B.2.1 dX16_init_460 rfl (lv_at hl 0 rfl) ?_
  refine lv_bipush (v := i32 64) B.1 B.2.1 dX16_init_461 (by decide) ?_
  refine nw_I B hT hRm wa_100 X (n := 64) (nn := 64) ⟨by decide, by decide⟩ rfl ⟨by rw [ml_51.1]; omega, by rw [ml_51.2]; omega⟩ dX16_init_463 hH hc (fun σ q H X P9 E9 hq hH hc => ?_)
  have hq : (gD σ)[83]? = some q := by rw [← ml_51.1]; exact hq
  refine pt_F B X (C := RX16) (T := TX16) (N := 123) (k := 77) hq (by decide) rfl wu_X16 tyX16 tyX16_ok nmX16 (by decide) wf_X16_507 rfl (ty := .array .int) rfl hin rfl rfl rfl (nrA _ _) (ftA _ _) dX16_init_465 hH hc (fun σ H locs X P9 E9 hH hc => ?_)
  have X : ST σ mr_52 c9 s9 0 rm 16 := X
  refine lv_aload_n B.1 B.2.1 dX16_init_468 rfl (lv_at hl 0 rfl) ?_
  refine lv_bipush (v := i32 64) B.1 B.2.1 dX16_init_469 (by decide) ?_
  refine nw_I B hT hRm wa_100 X (n := 64) (nn := 64) ⟨by decide, by decide⟩ rfl ⟨by rw [ml_52.1]; omega, by rw [ml_52.2]; omega⟩ dX16_init_471 hH hc (fun σ q H X P9 E9 hq hH hc => ?_)
  have hq : (gD σ)[84]? = some q := by rw [← ml_52.1]; exact hq
  refine pt_F B X (C := RX16) (T := TX16) (N := 123) (k := 78) hq (by decide) rfl wu_X16 tyX16 tyX16_ok nmX16 (by decide) wf_X16_510 rfl (ty := .array .int) rfl hin rfl rfl rfl (nrA _ _) (ftA _ _) dX16_init_473 hH hc (fun σ H locs X P9 E9 hH hc => ?_)
  have X : ST σ mr_53 c9 s9 0 rm 16 := X
  refine lv_aload_n B.1 B.2.1 dX16_init_476 rfl (lv_at hl 0 rfl) ?_
  refine lv_bipush (v := i32 8) B.1 B.2.1 dX16_init_477 (by decide) ?_
  refine nw_J B hT hRm wa_101 X (n := 8) (nn := 8) ⟨by decide, by decide⟩ rfl ⟨by rw [ml_53.1]; omega, by rw [ml_53.2]; omega⟩ dX16_init_479 hH hc (fun σ q H X P9 E9 hq hH hc => ?_)
  have hq : (gD σ)[85]? = some q := by rw [← ml_53.1]; exact hq
  refine pt_F B X (C := RX16) (T := TX16) (N := 123) (k := 81) hq (by decide) rfl wu_X16 tyX16 tyX16_ok nmX16 (by decide) wf_X16_542 rfl (ty := .array .long) rfl hin rfl rfl rfl (nrA _ _) (ftA _ _) dX16_init_481 hH hc (fun σ H locs X P9 E9 hH hc => ?_)
  have X : ST σ mr_54 c9 s9 0 rm 16 := X
  refine lv_aload_n B.1 B.2.1 dX16_init_484 rfl (lv_at hl 0 rfl) ?_
  refine lv_bipush (v := i32 16) B.1 B.2.1 dX16_init_485 (by decide) ?_
  refine nw_J B hT hRm wa_101 X (n := 16) (nn := 16) ⟨by decide, by decide⟩ rfl ⟨by rw [ml_54.1]; omega, by rw [ml_54.2]; omega⟩ dX16_init_487 hH hc (fun σ q H X P9 E9 hq hH hc => ?_)
  have hq : (gD σ)[86]? = some q := by rw [← ml_54.1]; exact hq
  refine pt_F B X (C := RX16) (T := TX16) (N := 123) (k := 82) hq (by decide) rfl wu_X16 tyX16 tyX16_ok nmX16 (by decide) wf_X16_578 rfl (ty := .array .long) rfl hin rfl rfl rfl (nrA _ _) (ftA _ _) dX16_init_489 hH hc (fun σ H locs X P9 E9 hH hc => ?_)
  have X : ST σ mr_55 c9 s9 0 rm 16 := X
  exact k _ X H locs ls hH hl hc
set_option maxHeartbeats 4000000 in
set_option maxRecDepth 20000 in
theorem mi_492 (B : Cx p s m args c cX16_init 4 RX16 D cA tys A) (hT : TyC cA tys) (hRm : Rm R n0 s0) (hin : meth.name = "<init>") (hfr : 8 ≤ R.frames) (hlw : 200 ≤ R.locals) (hz : c9 + 200 ≤ BC ∧ s9 + 600000 ≤ BS) (k : ∀ σ, ST σ mr_69 c9 s9 0 rm 16 → JJ p l e R s m args below meth c 4 D cA A n0 s0 Q σ 607 [(0, .ref rm)] []) : ∀ σ, ST σ mr_55 c9 s9 0 rm 16 → JJ p l e R s m args below meth c 4 D cA A n0 s0 Q σ 492 [(0, .ref rm)] [] := by
  intro σ X H locs ls hH hl hc
  refine lv_aload_n B.1 B.2.1 dX16_init_492 rfl (lv_at hl 0 rfl) ?_
  refine lv_sipush (v := i32 2000) B.1 B.2.1 dX16_init_493 (by decide) ?_
  refine nw_J B hT hRm wa_101 X (n := 2000) (nn := 2000) ⟨by decide, by decide⟩ rfl ⟨by rw [ml_55.1]; omega, by rw [ml_55.2]; omega⟩ dX16_init_496 hH hc (fun σ q H X P9 E9 hq hH hc => ?_)
  have hq : (gD σ)[87]? = some q := by rw [← ml_55.1]; exact hq
  refine pt_F B X (C := RX16) (T := TX16) (N := 123) (k := 83) hq (by decide) rfl wu_X16 tyX16 tyX16_ok nmX16 (by decide) wf_X16_670 rfl (ty := .array .long) rfl hin rfl rfl rfl (nrA _ _) (ftA _ _) dX16_init_498 hH hc (fun σ H locs X P9 E9 hH hc => ?_)
  have X : ST σ mr_56 c9 s9 0 rm 16 := X
  refine lv_aload_n B.1 B.2.1 dX16_init_501 rfl (lv_at hl 0 rfl) ?_
  refine lv_sipush (v := i32 16000) B.1 B.2.1 dX16_init_502 (by decide) ?_
  refine nw_J B hT hRm wa_101 X (n := 16000) (nn := 16000) ⟨by decide, by decide⟩ rfl ⟨by rw [ml_56.1]; omega, by rw [ml_56.2]; omega⟩ dX16_init_505 hH hc (fun σ q H X P9 E9 hq hH hc => ?_)
  have hq : (gD σ)[88]? = some q := by rw [← ml_56.1]; exact hq
  refine pt_F B X (C := RX16) (T := TX16) (N := 123) (k := 84) hq (by decide) rfl wu_X16 tyX16 tyX16_ok nmX16 (by decide) wf_X16_673 rfl (ty := .array .long) rfl hin rfl rfl rfl (nrA _ _) (ftA _ _) dX16_init_507 hH hc (fun σ H locs X P9 E9 hH hc => ?_)
  have X : ST σ mr_57 c9 s9 0 rm 16 := X
  refine lv_aload_n B.1 B.2.1 dX16_init_510 rfl (lv_at hl 0 rfl) ?_
  refine lv_sipush (v := i32 2000) B.1 B.2.1 dX16_init_511 (by decide) ?_
  refine nw_I B hT hRm wa_100 X (n := 2000) (nn := 2000) ⟨by decide, by decide⟩ rfl ⟨by rw [ml_57.1]; omega, by rw [ml_57.2]; omega⟩ dX16_init_514 hH hc (fun σ q H X P9 E9 hq hH hc => ?_)
  have hq : (gD σ)[89]? = some q := by rw [← ml_57.1]; exact hq
  refine pt_F B X (C := RX16) (T := TX16) (N := 123) (k := 85) hq (by decide) rfl wu_X16 tyX16 tyX16_ok nmX16 (by decide) wf_X16_676 rfl (ty := .array .int) rfl hin rfl rfl rfl (nrA _ _) (ftA _ _) dX16_init_516 hH hc (fun σ H locs X P9 E9 hH hc => ?_)
  have X : ST σ mr_58 c9 s9 0 rm 16 := X
  refine lv_aload_n B.1 B.2.1 dX16_init_519 rfl (lv_at hl 0 rfl) ?_
  refine lv_sipush (v := i32 2000) B.1 B.2.1 dX16_init_520 (by decide) ?_
  refine nw_I B hT hRm wa_100 X (n := 2000) (nn := 2000) ⟨by decide, by decide⟩ rfl ⟨by rw [ml_58.1]; omega, by rw [ml_58.2]; omega⟩ dX16_init_523 hH hc (fun σ q H X P9 E9 hq hH hc => ?_)
  have hq : (gD σ)[90]? = some q := by rw [← ml_58.1]; exact hq
  refine pt_F B X (C := RX16) (T := TX16) (N := 123) (k := 86) hq (by decide) rfl wu_X16 tyX16 tyX16_ok nmX16 (by decide) wf_X16_652 rfl (ty := .array .int) rfl hin rfl rfl rfl (nrA _ _) (ftA _ _) dX16_init_525 hH hc (fun σ H locs X P9 E9 hH hc => ?_)
  have X : ST σ mr_59 c9 s9 0 rm 16 := X
  refine lv_aload_n B.1 B.2.1 dX16_init_528 rfl (lv_at hl 0 rfl) ?_
  refine lv_bipush (v := i32 12) B.1 B.2.1 dX16_init_529 (by decide) ?_
  refine nw_I B hT hRm wa_100 X (n := 12) (nn := 12) ⟨by decide, by decide⟩ rfl ⟨by rw [ml_59.1]; omega, by rw [ml_59.2]; omega⟩ dX16_init_531 hH hc (fun σ q H X P9 E9 hq hH hc => ?_)
  have hq : (gD σ)[91]? = some q := by rw [← ml_59.1]; exact hq
  refine pt_F B X (C := RX16) (T := TX16) (N := 123) (k := 87) hq (by decide) rfl wu_X16 tyX16 tyX16_ok nmX16 (by decide) wf_X16_661 rfl (ty := .array .int) rfl hin rfl rfl rfl (nrA _ _) (ftA _ _) dX16_init_533 hH hc (fun σ H locs X P9 E9 hH hc => ?_)
  have X : ST σ mr_60 c9 s9 0 rm 16 := X
  refine lv_aload_n B.1 B.2.1 dX16_init_536 rfl (lv_at hl 0 rfl) ?_
  refine lv_bipush (v := i32 12) B.1 B.2.1 dX16_init_537 (by decide) ?_
  refine nw_I B hT hRm wa_100 X (n := 12) (nn := 12) ⟨by decide, by decide⟩ rfl ⟨by rw [ml_60.1]; omega, by rw [ml_60.2]; omega⟩ dX16_init_539 hH hc (fun σ q H X P9 E9 hq hH hc => ?_)
  have hq : (gD σ)[92]? = some q := by rw [← ml_60.1]; exact hq
  refine pt_F B X (C := RX16) (T := TX16) (N := 123) (k := 88) hq (by decide) rfl wu_X16 tyX16 tyX16_ok nmX16 (by decide) wf_X16_664 rfl (ty := .array .int) rfl hin rfl rfl rfl (nrA _ _) (ftA _ _) dX16_init_541 hH hc (fun σ H locs X P9 E9 hH hc => ?_)
  have X : ST σ mr_61 c9 s9 0 rm 16 := X
  refine lv_aload_n B.1 B.2.1 dX16_init_544 rfl (lv_at hl 0 rfl) ?_
  refine lv_bipush (v := i32 12) B.1 B.2.1 dX16_init_545 (by decide) ?_
  refine nw_I B hT hRm wa_100 X (n := 12) (nn := 12) ⟨by decide, by decide⟩ rfl ⟨by rw [ml_61.1]; omega, by rw [ml_61.2]; omega⟩ dX16_init_547 hH hc (fun σ q H X P9 E9 hq hH hc => ?_)
  have hq : (gD σ)[93]? = some q := by rw [← ml_61.1]; exact hq
  refine pt_F B X (C := RX16) (T := TX16) (N := 123) (k := 89) hq (by decide) rfl wu_X16 tyX16 tyX16_ok nmX16 (by decide) wf_X16_667 rfl (ty := .array .int) rfl hin rfl rfl rfl (nrA _ _) (ftA _ _) dX16_init_549 hH hc (fun σ H locs X P9 E9 hH hc => ?_)
  have X : ST σ mr_62 c9 s9 0 rm 16 := X
  refine lv_aload_n B.1 B.2.1 dX16_init_552 rfl (lv_at hl 0 rfl) ?_
  refine lv_iconst (v := i32 (-1)) B.1 B.2.1 dX16_init_553 (by decide) ?_
  refine pt_I B X (C := RX16) (T := TX16) (N := 123) (k := 96) (by decide) rfl wu_X16 tyX16 tyX16_ok nmX16 (by decide) wf_X16_685 rfl (ty := .int) rfl rfl rfl rfl rfl (by unfold rng; omega) dX16_init_554 hH hc (fun σ H locs X hH hc => ?_)
  have X : ST σ mr_63 c9 s9 0 rm 16 := X
  refine lv_aload_n B.1 B.2.1 dX16_init_557 rfl (lv_at hl 0 rfl) ?_
  refine lv_iconst (v := i32 2) B.1 B.2.1 dX16_init_558 (by decide) ?_
  refine nw_I B hT hRm wa_100 X (n := 2) (nn := 2) ⟨by decide, by decide⟩ rfl ⟨by rw [ml_63.1]; omega, by rw [ml_63.2]; omega⟩ dX16_init_559 hH hc (fun σ q H X P9 E9 hq hH hc => ?_)
  have hq : (gD σ)[94]? = some q := by rw [← ml_63.1]; exact hq
  refine pt_F B X (C := RX16) (T := TX16) (N := 123) (k := 97) hq (by decide) rfl wu_X16 tyX16 tyX16_ok nmX16 (by decide) wf_X16_748 rfl (ty := .array .int) rfl hin rfl rfl rfl (nrA _ _) (ftA _ _) dX16_init_561 hH hc (fun σ H locs X P9 E9 hH hc => ?_)
  have X : ST σ mr_64 c9 s9 0 rm 16 := X
  refine lv_aload_n B.1 B.2.1 dX16_init_564 rfl (lv_at hl 0 rfl) ?_
  refine lv_iconst (v := i32 2) B.1 B.2.1 dX16_init_565 (by decide) ?_
  refine nw_I B hT hRm wa_100 X (n := 2) (nn := 2) ⟨by decide, by decide⟩ rfl ⟨by rw [ml_64.1]; omega, by rw [ml_64.2]; omega⟩ dX16_init_566 hH hc (fun σ q H X P9 E9 hq hH hc => ?_)
  have hq : (gD σ)[95]? = some q := by rw [← ml_64.1]; exact hq
  refine pt_F B X (C := RX16) (T := TX16) (N := 123) (k := 98) hq (by decide) rfl wu_X16 tyX16 tyX16_ok nmX16 (by decide) wf_X16_703 rfl (ty := .array .int) rfl hin rfl rfl rfl (nrA _ _) (ftA _ _) dX16_init_568 hH hc (fun σ H locs X P9 E9 hH hc => ?_)
  have X : ST σ mr_65 c9 s9 0 rm 16 := X
  refine lv_aload_n B.1 B.2.1 dX16_init_571 rfl (lv_at hl 0 rfl) ?_
  refine lv_sipush (v := i32 8000) B.1 B.2.1 dX16_init_572 (by decide) ?_
  refine nw_I B hT hRm wa_100 X (n := 8000) (nn := 8000) ⟨by decide, by decide⟩ rfl ⟨by rw [ml_65.1]; omega, by rw [ml_65.2]; omega⟩ dX16_init_575 hH hc (fun σ q H X P9 E9 hq hH hc => ?_)
  have hq : (gD σ)[96]? = some q := by rw [← ml_65.1]; exact hq
  refine pt_F B X (C := RX16) (T := TX16) (N := 123) (k := 99) hq (by decide) rfl wu_X16 tyX16 tyX16_ok nmX16 (by decide) wf_X16_706 rfl (ty := .array .int) rfl hin rfl rfl rfl (nrA _ _) (ftA _ _) dX16_init_577 hH hc (fun σ H locs X P9 E9 hH hc => ?_)
  have X : ST σ mr_66 c9 s9 0 rm 16 := X
  refine lv_aload_n B.1 B.2.1 dX16_init_580 rfl (lv_at hl 0 rfl) ?_
  refine lv_sipush (v := i32 8000) B.1 B.2.1 dX16_init_581 (by decide) ?_
  refine nw_I B hT hRm wa_100 X (n := 8000) (nn := 8000) ⟨by decide, by decide⟩ rfl ⟨by rw [ml_66.1]; omega, by rw [ml_66.2]; omega⟩ dX16_init_584 hH hc (fun σ q H X P9 E9 hq hH hc => ?_)
  have hq : (gD σ)[97]? = some q := by rw [← ml_66.1]; exact hq
  refine pt_F B X (C := RX16) (T := TX16) (N := 123) (k := 100) hq (by decide) rfl wu_X16 tyX16 tyX16_ok nmX16 (by decide) wf_X16_709 rfl (ty := .array .int) rfl hin rfl rfl rfl (nrA _ _) (ftA _ _) dX16_init_586 hH hc (fun σ H locs X P9 E9 hH hc => ?_)
  have X : ST σ mr_67 c9 s9 0 rm 16 := X
  refine lv_aload_n B.1 B.2.1 dX16_init_589 rfl (lv_at hl 0 rfl) ?_
  refine lv_sipush (v := i32 8000) B.1 B.2.1 dX16_init_590 (by decide) ?_
  refine nw_I B hT hRm wa_100 X (n := 8000) (nn := 8000) ⟨by decide, by decide⟩ rfl ⟨by rw [ml_67.1]; omega, by rw [ml_67.2]; omega⟩ dX16_init_593 hH hc (fun σ q H X P9 E9 hq hH hc => ?_)
  have hq : (gD σ)[98]? = some q := by rw [← ml_67.1]; exact hq
  refine pt_F B X (C := RX16) (T := TX16) (N := 123) (k := 101) hq (by decide) rfl wu_X16 tyX16 tyX16_ok nmX16 (by decide) wf_X16_712 rfl (ty := .array .int) rfl hin rfl rfl rfl (nrA _ _) (ftA _ _) dX16_init_595 hH hc (fun σ H locs X P9 E9 hH hc => ?_)
  have X : ST σ mr_68 c9 s9 0 rm 16 := X
  refine lv_aload_n B.1 B.2.1 dX16_init_598 rfl (lv_at hl 0 rfl) ?_
  refine lv_sipush (v := i32 8000) B.1 B.2.1 dX16_init_599 (by decide) ?_
  refine nw_J B hT hRm wa_101 X (n := 8000) (nn := 8000) ⟨by decide, by decide⟩ rfl ⟨by rw [ml_68.1]; omega, by rw [ml_68.2]; omega⟩ dX16_init_602 hH hc (fun σ q H X P9 E9 hq hH hc => ?_)
  have hq : (gD σ)[99]? = some q := by rw [← ml_68.1]; exact hq
  refine pt_F B X (C := RX16) (T := TX16) (N := 123) (k := 102) hq (by decide) rfl wu_X16 tyX16 tyX16_ok nmX16 (by decide) wf_X16_715 rfl (ty := .array .long) rfl hin rfl rfl rfl (nrA _ _) (ftA _ _) dX16_init_604 hH hc (fun σ H locs X P9 E9 hH hc => ?_)
  have X : ST σ mr_69 c9 s9 0 rm 16 := X
  exact k _ X H locs ls hH hl hc
set_option maxHeartbeats 4000000 in
set_option maxRecDepth 20000 in
theorem mi_607 (B : Cx p s m args c cX16_init 4 RX16 D cA tys A) (hT : TyC cA tys) (hRm : Rm R n0 s0) (hin : meth.name = "<init>") (hfr : 8 ≤ R.frames) (hlw : 200 ≤ R.locals) (hz : c9 + 200 ≤ BC ∧ s9 + 600000 ≤ BS) (k : ∀ σ, ST σ mr_83 c9 s9 0 rm 16 → JJ p l e R s m args below meth c 4 D cA A n0 s0 Q σ 732 [(0, .ref rm)] []) : ∀ σ, ST σ mr_69 c9 s9 0 rm 16 → JJ p l e R s m args below meth c 4 D cA A n0 s0 Q σ 607 [(0, .ref rm)] [] := by
  intro σ X H locs ls hH hl hc
  refine lv_aload_n B.1 B.2.1 dX16_init_607 rfl (lv_at hl 0 rfl) ?_
  refine lv_sipush (v := i32 8000) B.1 B.2.1 dX16_init_608 (by decide) ?_
  refine nw_J B hT hRm wa_101 X (n := 8000) (nn := 8000) ⟨by decide, by decide⟩ rfl ⟨by rw [ml_69.1]; omega, by rw [ml_69.2]; omega⟩ dX16_init_611 hH hc (fun σ q H X P9 E9 hq hH hc => ?_)
  have hq : (gD σ)[100]? = some q := by rw [← ml_69.1]; exact hq
  refine pt_F B X (C := RX16) (T := TX16) (N := 123) (k := 103) hq (by decide) rfl wu_X16 tyX16 tyX16_ok nmX16 (by decide) wf_X16_718 rfl (ty := .array .long) rfl hin rfl rfl rfl (nrA _ _) (ftA _ _) dX16_init_613 hH hc (fun σ H locs X P9 E9 hH hc => ?_)
  have X : ST σ mr_70 c9 s9 0 rm 16 := X
  refine lv_aload_n B.1 B.2.1 dX16_init_616 rfl (lv_at hl 0 rfl) ?_
  refine lv_sipush (v := i32 8000) B.1 B.2.1 dX16_init_617 (by decide) ?_
  refine nw_J B hT hRm wa_101 X (n := 8000) (nn := 8000) ⟨by decide, by decide⟩ rfl ⟨by rw [ml_70.1]; omega, by rw [ml_70.2]; omega⟩ dX16_init_620 hH hc (fun σ q H X P9 E9 hq hH hc => ?_)
  have hq : (gD σ)[101]? = some q := by rw [← ml_70.1]; exact hq
  refine pt_F B X (C := RX16) (T := TX16) (N := 123) (k := 104) hq (by decide) rfl wu_X16 tyX16 tyX16_ok nmX16 (by decide) wf_X16_721 rfl (ty := .array .long) rfl hin rfl rfl rfl (nrA _ _) (ftA _ _) dX16_init_622 hH hc (fun σ H locs X P9 E9 hH hc => ?_)
  have X : ST σ mr_71 c9 s9 0 rm 16 := X
  refine lv_aload_n B.1 B.2.1 dX16_init_625 rfl (lv_at hl 0 rfl) ?_
  refine lv_ldcw (v := i32 64000) B.1 B.2.1 B.2.2.1 (B.2.2.2.1 _ (wk_X16_963)) dX16_init_626 ?_
  refine nw_J B hT hRm wa_101 X (n := 64000) (nn := 64000) ⟨by decide, by decide⟩ rfl ⟨by rw [ml_71.1]; omega, by rw [ml_71.2]; omega⟩ dX16_init_629 hH hc (fun σ q H X P9 E9 hq hH hc => ?_)
  have hq : (gD σ)[102]? = some q := by rw [← ml_71.1]; exact hq
  refine pt_F B X (C := RX16) (T := TX16) (N := 123) (k := 105) hq (by decide) rfl wu_X16 tyX16 tyX16_ok nmX16 (by decide) wf_X16_727 rfl (ty := .array .long) rfl hin rfl rfl rfl (nrA _ _) (ftA _ _) dX16_init_631 hH hc (fun σ H locs X P9 E9 hH hc => ?_)
  have X : ST σ mr_72 c9 s9 0 rm 16 := X
  refine lv_aload_n B.1 B.2.1 dX16_init_634 rfl (lv_at hl 0 rfl) ?_
  refine lv_sipush (v := i32 8000) B.1 B.2.1 dX16_init_635 (by decide) ?_
  refine nw_I B hT hRm wa_100 X (n := 8000) (nn := 8000) ⟨by decide, by decide⟩ rfl ⟨by rw [ml_72.1]; omega, by rw [ml_72.2]; omega⟩ dX16_init_638 hH hc (fun σ q H X P9 E9 hq hH hc => ?_)
  have hq : (gD σ)[103]? = some q := by rw [← ml_72.1]; exact hq
  refine pt_F B X (C := RX16) (T := TX16) (N := 123) (k := 106) hq (by decide) rfl wu_X16 tyX16 tyX16_ok nmX16 (by decide) wf_X16_724 rfl (ty := .array .int) rfl hin rfl rfl rfl (nrA _ _) (ftA _ _) dX16_init_640 hH hc (fun σ H locs X P9 E9 hH hc => ?_)
  have X : ST σ mr_73 c9 s9 0 rm 16 := X
  refine lv_aload_n B.1 B.2.1 dX16_init_643 rfl (lv_at hl 0 rfl) ?_
  refine lv_sipush (v := i32 128) B.1 B.2.1 dX16_init_644 (by decide) ?_
  refine nw_I B hT hRm wa_100 X (n := 128) (nn := 128) ⟨by decide, by decide⟩ rfl ⟨by rw [ml_73.1]; omega, by rw [ml_73.2]; omega⟩ dX16_init_647 hH hc (fun σ q H X P9 E9 hq hH hc => ?_)
  have hq : (gD σ)[104]? = some q := by rw [← ml_73.1]; exact hq
  refine pt_F B X (C := RX16) (T := TX16) (N := 123) (k := 107) hq (by decide) rfl wu_X16 tyX16 tyX16_ok nmX16 (by decide) wf_X16_694 rfl (ty := .array .int) rfl hin rfl rfl rfl (nrA _ _) (ftA _ _) dX16_init_649 hH hc (fun σ H locs X P9 E9 hH hc => ?_)
  have X : ST σ mr_74 c9 s9 0 rm 16 := X
  refine lv_aload_n B.1 B.2.1 dX16_init_652 rfl (lv_at hl 0 rfl) ?_
  refine lv_sipush (v := i32 128) B.1 B.2.1 dX16_init_653 (by decide) ?_
  refine nw_I B hT hRm wa_100 X (n := 128) (nn := 128) ⟨by decide, by decide⟩ rfl ⟨by rw [ml_74.1]; omega, by rw [ml_74.2]; omega⟩ dX16_init_656 hH hc (fun σ q H X P9 E9 hq hH hc => ?_)
  have hq : (gD σ)[105]? = some q := by rw [← ml_74.1]; exact hq
  refine pt_F B X (C := RX16) (T := TX16) (N := 123) (k := 108) hq (by decide) rfl wu_X16 tyX16 tyX16_ok nmX16 (by decide) wf_X16_697 rfl (ty := .array .int) rfl hin rfl rfl rfl (nrA _ _) (ftA _ _) dX16_init_658 hH hc (fun σ H locs X P9 E9 hH hc => ?_)
  have X : ST σ mr_75 c9 s9 0 rm 16 := X
  refine lv_aload_n B.1 B.2.1 dX16_init_661 rfl (lv_at hl 0 rfl) ?_
  refine lv_sipush (v := i32 128) B.1 B.2.1 dX16_init_662 (by decide) ?_
  refine nw_J B hT hRm wa_101 X (n := 128) (nn := 128) ⟨by decide, by decide⟩ rfl ⟨by rw [ml_75.1]; omega, by rw [ml_75.2]; omega⟩ dX16_init_665 hH hc (fun σ q H X P9 E9 hq hH hc => ?_)
  have hq : (gD σ)[106]? = some q := by rw [← ml_75.1]; exact hq
  refine pt_F B X (C := RX16) (T := TX16) (N := 123) (k := 109) hq (by decide) rfl wu_X16 tyX16 tyX16_ok nmX16 (by decide) wf_X16_700 rfl (ty := .array .long) rfl hin rfl rfl rfl (nrA _ _) (ftA _ _) dX16_init_667 hH hc (fun σ H locs X P9 E9 hH hc => ?_)
  have X : ST σ mr_76 c9 s9 0 rm 16 := X
  refine lv_aload_n B.1 B.2.1 dX16_init_670 rfl (lv_at hl 0 rfl) ?_
  refine lv_sipush (v := i32 4000) B.1 B.2.1 dX16_init_671 (by decide) ?_
  refine nw_I B hT hRm wa_100 X (n := 4000) (nn := 4000) ⟨by decide, by decide⟩ rfl ⟨by rw [ml_76.1]; omega, by rw [ml_76.2]; omega⟩ dX16_init_674 hH hc (fun σ q H X P9 E9 hq hH hc => ?_)
  have hq : (gD σ)[107]? = some q := by rw [← ml_76.1]; exact hq
  refine pt_F B X (C := RX16) (T := TX16) (N := 123) (k := 114) hq (by decide) rfl wu_X16 tyX16 tyX16_ok nmX16 (by decide) wf_X16_964 rfl (ty := .array .int) rfl hin rfl rfl rfl (nrA _ _) (ftA _ _) dX16_init_676 hH hc (fun σ H locs X P9 E9 hH hc => ?_)
  have X : ST σ mr_77 c9 s9 0 rm 16 := X
  refine lv_aload_n B.1 B.2.1 dX16_init_679 rfl (lv_at hl 0 rfl) ?_
  refine lv_sipush (v := i32 4000) B.1 B.2.1 dX16_init_680 (by decide) ?_
  refine nw_J B hT hRm wa_101 X (n := 4000) (nn := 4000) ⟨by decide, by decide⟩ rfl ⟨by rw [ml_77.1]; omega, by rw [ml_77.2]; omega⟩ dX16_init_683 hH hc (fun σ q H X P9 E9 hq hH hc => ?_)
  have hq : (gD σ)[108]? = some q := by rw [← ml_77.1]; exact hq
  refine pt_F B X (C := RX16) (T := TX16) (N := 123) (k := 115) hq (by decide) rfl wu_X16 tyX16 tyX16_ok nmX16 (by decide) wf_X16_864 rfl (ty := .array .long) rfl hin rfl rfl rfl (nrA _ _) (ftA _ _) dX16_init_685 hH hc (fun σ H locs X P9 E9 hH hc => ?_)
  have X : ST σ mr_78 c9 s9 0 rm 16 := X
  refine lv_aload_n B.1 B.2.1 dX16_init_688 rfl (lv_at hl 0 rfl) ?_
  refine lv_sipush (v := i32 32000) B.1 B.2.1 dX16_init_689 (by decide) ?_
  refine nw_J B hT hRm wa_101 X (n := 32000) (nn := 32000) ⟨by decide, by decide⟩ rfl ⟨by rw [ml_78.1]; omega, by rw [ml_78.2]; omega⟩ dX16_init_692 hH hc (fun σ q H X P9 E9 hq hH hc => ?_)
  have hq : (gD σ)[109]? = some q := by rw [← ml_78.1]; exact hq
  refine pt_F B X (C := RX16) (T := TX16) (N := 123) (k := 116) hq (by decide) rfl wu_X16 tyX16 tyX16_ok nmX16 (by decide) wf_X16_867 rfl (ty := .array .long) rfl hin rfl rfl rfl (nrA _ _) (ftA _ _) dX16_init_694 hH hc (fun σ H locs X P9 E9 hH hc => ?_)
  have X : ST σ mr_79 c9 s9 0 rm 16 := X
  refine lv_aload_n B.1 B.2.1 dX16_init_697 rfl (lv_at hl 0 rfl) ?_
  refine lv_bipush (v := i32 17) B.1 B.2.1 dX16_init_698 (by decide) ?_
  refine nw_I B hT hRm wa_100 X (n := 17) (nn := 17) ⟨by decide, by decide⟩ rfl ⟨by rw [ml_79.1]; omega, by rw [ml_79.2]; omega⟩ dX16_init_700 hH hc (fun σ q H X P9 E9 hq hH hc => ?_)
  have hq : (gD σ)[110]? = some q := by rw [← ml_79.1]; exact hq
  refine pt_F B X (C := RX16) (T := TX16) (N := 123) (k := 118) hq (by decide) rfl wu_X16 tyX16 tyX16_ok nmX16 (by decide) wf_X16_874 rfl (ty := .array .int) rfl hin rfl rfl rfl (nrA _ _) (ftA _ _) dX16_init_702 hH hc (fun σ H locs X P9 E9 hH hc => ?_)
  have X : ST σ mr_80 c9 s9 0 rm 16 := X
  refine lv_aload_n B.1 B.2.1 dX16_init_705 rfl (lv_at hl 0 rfl) ?_
  refine lv_sipush (v := i32 4000) B.1 B.2.1 dX16_init_706 (by decide) ?_
  refine nw_I B hT hRm wa_100 X (n := 4000) (nn := 4000) ⟨by decide, by decide⟩ rfl ⟨by rw [ml_80.1]; omega, by rw [ml_80.2]; omega⟩ dX16_init_709 hH hc (fun σ q H X P9 E9 hq hH hc => ?_)
  have hq : (gD σ)[111]? = some q := by rw [← ml_80.1]; exact hq
  refine pt_F B X (C := RX16) (T := TX16) (N := 123) (k := 119) hq (by decide) rfl wu_X16 tyX16 tyX16_ok nmX16 (by decide) wf_X16_877 rfl (ty := .array .int) rfl hin rfl rfl rfl (nrA _ _) (ftA _ _) dX16_init_711 hH hc (fun σ H locs X P9 E9 hH hc => ?_)
  have X : ST σ mr_81 c9 s9 0 rm 16 := X
  refine lv_aload_n B.1 B.2.1 dX16_init_714 rfl (lv_at hl 0 rfl) ?_
  refine lv_sipush (v := i32 4000) B.1 B.2.1 dX16_init_715 (by decide) ?_
  refine nw_Z B hT hRm wa_103 X (n := 4000) (nn := 4000) ⟨by decide, by decide⟩ rfl ⟨by rw [ml_81.1]; omega, by rw [ml_81.2]; omega⟩ dX16_init_718 hH hc (fun σ q H X P9 E9 hq hH hc => ?_)
  have hq : (gD σ)[112]? = some q := by rw [← ml_81.1]; exact hq
  refine pt_F B X (C := RX16) (T := TX16) (N := 123) (k := 120) hq (by decide) rfl wu_X16 tyX16 tyX16_ok nmX16 (by decide) wf_X16_897 rfl (ty := .array .boolean) rfl hin rfl rfl rfl (nrA _ _) (ftA _ _) dX16_init_720 hH hc (fun σ H locs X P9 E9 hH hc => ?_)
  have X : ST σ mr_82 c9 s9 0 rm 16 := X
  refine lv_aload_n B.1 B.2.1 dX16_init_723 rfl (lv_at hl 0 rfl) ?_
  refine lv_sipush (v := i32 4000) B.1 B.2.1 dX16_init_724 (by decide) ?_
  refine nw_J B hT hRm wa_101 X (n := 4000) (nn := 4000) ⟨by decide, by decide⟩ rfl ⟨by rw [ml_82.1]; omega, by rw [ml_82.2]; omega⟩ dX16_init_727 hH hc (fun σ q H X P9 E9 hq hH hc => ?_)
  have hq : (gD σ)[113]? = some q := by rw [← ml_82.1]; exact hq
  refine pt_F B X (C := RX16) (T := TX16) (N := 123) (k := 121) hq (by decide) rfl wu_X16 tyX16 tyX16_ok nmX16 (by decide) wf_X16_907 rfl (ty := .array .long) rfl hin rfl rfl rfl (nrA _ _) (ftA _ _) dX16_init_729 hH hc (fun σ H locs X P9 E9 hH hc => ?_)
  have X : ST σ mr_83 c9 s9 0 rm 16 := X
  exact k _ X H locs ls hH hl hc
set_option maxHeartbeats 4000000 in
set_option maxRecDepth 20000 in
theorem mi_732 (B : Cx p s m args c cX16_init 4 RX16 D cA tys A) (hT : TyC cA tys) (hRm : Rm R n0 s0) (hin : meth.name = "<init>") (hfr : 8 ≤ R.frames) (hlw : 200 ≤ R.locals) (hz : c9 + 200 ≤ BC ∧ s9 + 600000 ≤ BS) (k : ∀ σ, ST σ mr_84 c9 s9 0 rm 16 → JJ p l e R s m args below meth c 4 D cA A n0 s0 Q σ 741 [(0, .ref rm)] []) : ∀ σ, ST σ mr_83 c9 s9 0 rm 16 → JJ p l e R s m args below meth c 4 D cA A n0 s0 Q σ 732 [(0, .ref rm)] [] := by
  intro σ X H locs ls hH hl hc
  refine lv_aload_n B.1 B.2.1 dX16_init_732 rfl (lv_at hl 0 rfl) ?_
  refine lv_sipush (v := i32 4000) B.1 B.2.1 dX16_init_733 (by decide) ?_
  refine nw_I B hT hRm wa_100 X (n := 4000) (nn := 4000) ⟨by decide, by decide⟩ rfl ⟨by rw [ml_83.1]; omega, by rw [ml_83.2]; omega⟩ dX16_init_736 hH hc (fun σ q H X P9 E9 hq hH hc => ?_)
  have hq : (gD σ)[114]? = some q := by rw [← ml_83.1]; exact hq
  refine pt_F B X (C := RX16) (T := TX16) (N := 123) (k := 122) hq (by decide) rfl wu_X16 tyX16 tyX16_ok nmX16 (by decide) wf_X16_910 rfl (ty := .array .int) rfl hin rfl rfl rfl (nrA _ _) (ftA _ _) dX16_init_738 hH hc (fun σ H locs X P9 E9 hH hc => ?_)
  have X : ST σ mr_84 c9 s9 0 rm 16 := X
  exact k _ X H locs ls hH hl hc
theorem mi_all (B : Cx p s m args c cX16_init 4 RX16 D cA tys A) (hT : TyC cA tys) (hRm : Rm R n0 s0) (hin : meth.name = "<init>") (hfr : 8 ≤ R.frames) (hlw : 200 ≤ R.locals) (hz : c9 + 200 ≤ BC ∧ s9 + 600000 ≤ BS) (k : ∀ σ, ST σ mr_84 c9 s9 0 rm 16 → JJ p l e R s m args below meth c 4 D cA A n0 s0 Q σ 741 [(0, .ref rm)] []) : ∀ σ, ST σ mr_0 c9 s9 0 rm 16 → JJ p l e R s m args below meth c 4 D cA A n0 s0 Q σ 0 [(0, .ref rm)] [] :=
  mi_0 B hT hRm hin hfr hlw hz (mi_130 B hT hRm hin hfr hlw hz (mi_245 B hT hRm hin hfr hlw hz (mi_371 B hT hRm hin hfr hlw hz (mi_492 B hT hRm hin hfr hlw hz (mi_607 B hT hRm hin hfr hlw hz (mi_732 B hT hRm hin hfr hlw hz (k)))))))
end MIN

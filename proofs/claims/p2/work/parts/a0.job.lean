theorem wo_X15_9 : ∀ w ∈ [Cond.methodLink RX15 9 Lib.objectInit, .instanceMethod Lib.objectInit, .code Lib.objectInit ⟨#[0xb1]⟩ 1 none], w ∈ WAL := List.forall_mem_cons.mpr ⟨List.mem_filter.mpr ⟨tb_8 _ (List.mem_of_getElem? (i := 85) rfl), rfl⟩, List.forall_mem_cons.mpr ⟨List.mem_filter.mpr ⟨tb_1 _ (List.mem_of_getElem? (i := 40) rfl), rfl⟩, List.forall_mem_cons.mpr ⟨List.mem_filter.mpr ⟨tb_1 _ (List.mem_of_getElem? (i := 41) rfl), rfl⟩, (fun _ h => nomatch h)⟩⟩⟩
/-! the reference's Job, made -/
def jr_0 (d : List Rc) (i j : Nat) : List Rc := dU d i (uP 19 j)
def jr_1 (d : List Rc) (i j : Nat) : List Rc := dU (dN (jr_0 d i j) 100 16) i (uP 2 (jr_0 d i j).length)
def jr_2 (d : List Rc) (i j : Nat) : List Rc := dU (dN (jr_1 d i j) 101 16) i (uP 3 (jr_1 d i j).length)
def jr_3 (d : List Rc) (i j : Nat) : List Rc := dU (dN (jr_2 d i j) 100 16) i (uP 4 (jr_2 d i j).length)
def jr_4 (d : List Rc) (i j : Nat) : List Rc := dU (dN (jr_3 d i j) 100 16) i (uP 5 (jr_3 d i j).length)
def jr_5 (d : List Rc) (i j : Nat) : List Rc := dU (dN (jr_4 d i j) 100 16) i (uP 6 (jr_4 d i j).length)
def jr_6 (d : List Rc) (i j : Nat) : List Rc := dU (dN (jr_5 d i j) 101 144) i (uP 7 (jr_5 d i j).length)
def jr_7 (d : List Rc) (i j : Nat) : List Rc := dU (dN (jr_6 d i j) 101 16) i (uP 8 (jr_6 d i j).length)
def jr_8 (d : List Rc) (i j : Nat) : List Rc := dU (dN (jr_7 d i j) 101 16) i (uP 9 (jr_7 d i j).length)
def jr_9 (d : List Rc) (i j : Nat) : List Rc := dU (dN (jr_8 d i j) 100 16) i (uP 10 (jr_8 d i j).length)
def jr_10 (d : List Rc) (i j : Nat) : List Rc := dU (dN (jr_9 d i j) 100 16) i (uP 11 (jr_9 d i j).length)
def jr_11 (d : List Rc) (i j : Nat) : List Rc := dU (dN (jr_10 d i j) 100 16) i (uP 12 (jr_10 d i j).length)
def jr_12 (d : List Rc) (i j : Nat) : List Rc := dU (dN (jr_11 d i j) 100 128) i (uP 13 (jr_11 d i j).length)
def jr_13 (d : List Rc) (i j : Nat) : List Rc := dU (dN (jr_12 d i j) 100 128) i (uP 14 (jr_12 d i j).length)
def jr_14 (d : List Rc) (i j : Nat) : List Rc := dU (dN (jr_13 d i j) 100 6000) i (uP 15 (jr_13 d i j).length)
def jr_15 (d : List Rc) (i j : Nat) : List Rc := dU (dN (jr_14 d i j) 101 6000) i (uP 16 (jr_14 d i j).length)
def jr_16 (d : List Rc) (i j : Nat) : List Rc := dU (dN (jr_15 d i j) 100 4) i (uP 18 (jr_15 d i j).length)
theorem jl_0 {d : List Rc} {i j : Nat} : (jr_0 d i j).length = d.length ∧ sz (jr_0 d i j) = sz d := ⟨dU_len _ _ _, dU_szP _ _ _ _⟩
theorem jl_1 {d : List Rc} {i j : Nat} : (jr_1 d i j).length = d.length + 1 ∧ sz (jr_1 d i j) = sz d + 16 := ⟨by unfold jr_1; rw [dU_len, dN_len, jl_0.1], by unfold jr_1; rw [dU_szP, dN_sz, jl_0.2]⟩
theorem jl_2 {d : List Rc} {i j : Nat} : (jr_2 d i j).length = d.length + 2 ∧ sz (jr_2 d i j) = sz d + 32 := ⟨by unfold jr_2; rw [dU_len, dN_len, jl_1.1], by unfold jr_2; rw [dU_szP, dN_sz, jl_1.2]⟩
theorem jl_3 {d : List Rc} {i j : Nat} : (jr_3 d i j).length = d.length + 3 ∧ sz (jr_3 d i j) = sz d + 48 := ⟨by unfold jr_3; rw [dU_len, dN_len, jl_2.1], by unfold jr_3; rw [dU_szP, dN_sz, jl_2.2]⟩
theorem jl_4 {d : List Rc} {i j : Nat} : (jr_4 d i j).length = d.length + 4 ∧ sz (jr_4 d i j) = sz d + 64 := ⟨by unfold jr_4; rw [dU_len, dN_len, jl_3.1], by unfold jr_4; rw [dU_szP, dN_sz, jl_3.2]⟩
theorem jl_5 {d : List Rc} {i j : Nat} : (jr_5 d i j).length = d.length + 5 ∧ sz (jr_5 d i j) = sz d + 80 := ⟨by unfold jr_5; rw [dU_len, dN_len, jl_4.1], by unfold jr_5; rw [dU_szP, dN_sz, jl_4.2]⟩
theorem jl_6 {d : List Rc} {i j : Nat} : (jr_6 d i j).length = d.length + 6 ∧ sz (jr_6 d i j) = sz d + 224 := ⟨by unfold jr_6; rw [dU_len, dN_len, jl_5.1], by unfold jr_6; rw [dU_szP, dN_sz, jl_5.2]⟩
theorem jl_7 {d : List Rc} {i j : Nat} : (jr_7 d i j).length = d.length + 7 ∧ sz (jr_7 d i j) = sz d + 240 := ⟨by unfold jr_7; rw [dU_len, dN_len, jl_6.1], by unfold jr_7; rw [dU_szP, dN_sz, jl_6.2]⟩
theorem jl_8 {d : List Rc} {i j : Nat} : (jr_8 d i j).length = d.length + 8 ∧ sz (jr_8 d i j) = sz d + 256 := ⟨by unfold jr_8; rw [dU_len, dN_len, jl_7.1], by unfold jr_8; rw [dU_szP, dN_sz, jl_7.2]⟩
theorem jl_9 {d : List Rc} {i j : Nat} : (jr_9 d i j).length = d.length + 9 ∧ sz (jr_9 d i j) = sz d + 272 := ⟨by unfold jr_9; rw [dU_len, dN_len, jl_8.1], by unfold jr_9; rw [dU_szP, dN_sz, jl_8.2]⟩
theorem jl_10 {d : List Rc} {i j : Nat} : (jr_10 d i j).length = d.length + 10 ∧ sz (jr_10 d i j) = sz d + 288 := ⟨by unfold jr_10; rw [dU_len, dN_len, jl_9.1], by unfold jr_10; rw [dU_szP, dN_sz, jl_9.2]⟩
theorem jl_11 {d : List Rc} {i j : Nat} : (jr_11 d i j).length = d.length + 11 ∧ sz (jr_11 d i j) = sz d + 304 := ⟨by unfold jr_11; rw [dU_len, dN_len, jl_10.1], by unfold jr_11; rw [dU_szP, dN_sz, jl_10.2]⟩
theorem jl_12 {d : List Rc} {i j : Nat} : (jr_12 d i j).length = d.length + 12 ∧ sz (jr_12 d i j) = sz d + 432 := ⟨by unfold jr_12; rw [dU_len, dN_len, jl_11.1], by unfold jr_12; rw [dU_szP, dN_sz, jl_11.2]⟩
theorem jl_13 {d : List Rc} {i j : Nat} : (jr_13 d i j).length = d.length + 13 ∧ sz (jr_13 d i j) = sz d + 560 := ⟨by unfold jr_13; rw [dU_len, dN_len, jl_12.1], by unfold jr_13; rw [dU_szP, dN_sz, jl_12.2]⟩
theorem jl_14 {d : List Rc} {i j : Nat} : (jr_14 d i j).length = d.length + 14 ∧ sz (jr_14 d i j) = sz d + 6560 := ⟨by unfold jr_14; rw [dU_len, dN_len, jl_13.1], by unfold jr_14; rw [dU_szP, dN_sz, jl_13.2]⟩
theorem jl_15 {d : List Rc} {i j : Nat} : (jr_15 d i j).length = d.length + 15 ∧ sz (jr_15 d i j) = sz d + 12560 := ⟨by unfold jr_15; rw [dU_len, dN_len, jl_14.1], by unfold jr_15; rw [dU_szP, dN_sz, jl_14.2]⟩
theorem jl_16 {d : List Rc} {i j : Nat} : (jr_16 d i j).length = d.length + 16 ∧ sz (jr_16 d i j) = sz d + 12564 := ⟨by unfold jr_16; rw [dU_len, dN_len, jl_15.1], by unfold jr_16; rw [dU_szP, dN_sz, jl_15.2]⟩
theorem dX15_init_0 : decode cX15_init 0 = .ok (.aload_n 0, 1) := by decide +kernel
theorem dX15_init_1 : decode cX15_init 1 = .ok (.aload_n 1, 1) := by decide +kernel
theorem dX15_init_2 : decode cX15_init 2 = .ok (.putfield 3, 3) := by decide +kernel
theorem dX15_init_5 : decode cX15_init 5 = .ok (.aload_n 0, 1) := by decide +kernel
theorem dX15_init_6 : decode cX15_init 6 = .ok (.invokespecial 9, 3) := by decide +kernel
theorem dX15_init_9 : decode cX15_init 9 = .ok (.aload_n 0, 1) := by decide +kernel
theorem dX15_init_10 : decode cX15_init 10 = .ok (.bipush 16, 2) := by decide +kernel
theorem dX15_init_12 : decode cX15_init 12 = .ok (.newarray .int, 2) := by decide +kernel
theorem dX15_init_14 : decode cX15_init 14 = .ok (.putfield 15, 3) := by decide +kernel
theorem dX15_init_17 : decode cX15_init 17 = .ok (.aload_n 0, 1) := by decide +kernel
theorem dX15_init_18 : decode cX15_init 18 = .ok (.bipush 16, 2) := by decide +kernel
theorem dX15_init_20 : decode cX15_init 20 = .ok (.newarray .long, 2) := by decide +kernel
theorem dX15_init_22 : decode cX15_init 22 = .ok (.putfield 19, 3) := by decide +kernel
theorem dX15_init_25 : decode cX15_init 25 = .ok (.aload_n 0, 1) := by decide +kernel
theorem dX15_init_26 : decode cX15_init 26 = .ok (.bipush 16, 2) := by decide +kernel
theorem dX15_init_28 : decode cX15_init 28 = .ok (.newarray .int, 2) := by decide +kernel
theorem dX15_init_30 : decode cX15_init 30 = .ok (.putfield 23, 3) := by decide +kernel
theorem dX15_init_33 : decode cX15_init 33 = .ok (.aload_n 0, 1) := by decide +kernel
theorem dX15_init_34 : decode cX15_init 34 = .ok (.bipush 16, 2) := by decide +kernel
theorem dX15_init_36 : decode cX15_init 36 = .ok (.newarray .int, 2) := by decide +kernel
theorem dX15_init_38 : decode cX15_init 38 = .ok (.putfield 26, 3) := by decide +kernel
theorem dX15_init_41 : decode cX15_init 41 = .ok (.aload_n 0, 1) := by decide +kernel
theorem dX15_init_42 : decode cX15_init 42 = .ok (.bipush 16, 2) := by decide +kernel
theorem dX15_init_44 : decode cX15_init 44 = .ok (.newarray .int, 2) := by decide +kernel
theorem dX15_init_46 : decode cX15_init 46 = .ok (.putfield 29, 3) := by decide +kernel
theorem dX15_init_49 : decode cX15_init 49 = .ok (.aload_n 0, 1) := by decide +kernel
theorem dX15_init_50 : decode cX15_init 50 = .ok (.sipush 144, 3) := by decide +kernel
theorem dX15_init_53 : decode cX15_init 53 = .ok (.newarray .long, 2) := by decide +kernel
theorem dX15_init_55 : decode cX15_init 55 = .ok (.putfield 32, 3) := by decide +kernel
theorem dX15_init_58 : decode cX15_init 58 = .ok (.aload_n 0, 1) := by decide +kernel
theorem dX15_init_59 : decode cX15_init 59 = .ok (.bipush 16, 2) := by decide +kernel
theorem dX15_init_61 : decode cX15_init 61 = .ok (.newarray .long, 2) := by decide +kernel
theorem dX15_init_63 : decode cX15_init 63 = .ok (.putfield 35, 3) := by decide +kernel
theorem dX15_init_66 : decode cX15_init 66 = .ok (.aload_n 0, 1) := by decide +kernel
theorem dX15_init_67 : decode cX15_init 67 = .ok (.bipush 16, 2) := by decide +kernel
theorem dX15_init_69 : decode cX15_init 69 = .ok (.newarray .long, 2) := by decide +kernel
theorem dX15_init_71 : decode cX15_init 71 = .ok (.putfield 38, 3) := by decide +kernel
theorem dX15_init_74 : decode cX15_init 74 = .ok (.aload_n 0, 1) := by decide +kernel
theorem dX15_init_75 : decode cX15_init 75 = .ok (.bipush 16, 2) := by decide +kernel
theorem dX15_init_77 : decode cX15_init 77 = .ok (.newarray .int, 2) := by decide +kernel
theorem dX15_init_79 : decode cX15_init 79 = .ok (.putfield 41, 3) := by decide +kernel
theorem dX15_init_82 : decode cX15_init 82 = .ok (.aload_n 0, 1) := by decide +kernel
theorem dX15_init_83 : decode cX15_init 83 = .ok (.bipush 16, 2) := by decide +kernel
theorem dX15_init_85 : decode cX15_init 85 = .ok (.newarray .int, 2) := by decide +kernel
theorem dX15_init_87 : decode cX15_init 87 = .ok (.putfield 44, 3) := by decide +kernel
theorem dX15_init_90 : decode cX15_init 90 = .ok (.aload_n 0, 1) := by decide +kernel
theorem dX15_init_91 : decode cX15_init 91 = .ok (.bipush 16, 2) := by decide +kernel
theorem dX15_init_93 : decode cX15_init 93 = .ok (.newarray .int, 2) := by decide +kernel
theorem dX15_init_95 : decode cX15_init 95 = .ok (.putfield 47, 3) := by decide +kernel
theorem dX15_init_98 : decode cX15_init 98 = .ok (.aload_n 0, 1) := by decide +kernel
theorem dX15_init_99 : decode cX15_init 99 = .ok (.sipush 128, 3) := by decide +kernel
theorem dX15_init_102 : decode cX15_init 102 = .ok (.newarray .int, 2) := by decide +kernel
theorem dX15_init_104 : decode cX15_init 104 = .ok (.putfield 50, 3) := by decide +kernel
theorem dX15_init_107 : decode cX15_init 107 = .ok (.aload_n 0, 1) := by decide +kernel
theorem dX15_init_108 : decode cX15_init 108 = .ok (.sipush 128, 3) := by decide +kernel
theorem dX15_init_111 : decode cX15_init 111 = .ok (.newarray .int, 2) := by decide +kernel
theorem dX15_init_113 : decode cX15_init 113 = .ok (.putfield 53, 3) := by decide +kernel
theorem dX15_init_116 : decode cX15_init 116 = .ok (.aload_n 0, 1) := by decide +kernel
theorem dX15_init_117 : decode cX15_init 117 = .ok (.sipush 6000, 3) := by decide +kernel
theorem dX15_init_120 : decode cX15_init 120 = .ok (.newarray .int, 2) := by decide +kernel
theorem dX15_init_122 : decode cX15_init 122 = .ok (.putfield 56, 3) := by decide +kernel
theorem dX15_init_125 : decode cX15_init 125 = .ok (.aload_n 0, 1) := by decide +kernel
theorem dX15_init_126 : decode cX15_init 126 = .ok (.sipush 6000, 3) := by decide +kernel
theorem dX15_init_129 : decode cX15_init 129 = .ok (.newarray .long, 2) := by decide +kernel
theorem dX15_init_131 : decode cX15_init 131 = .ok (.putfield 59, 3) := by decide +kernel
theorem dX15_init_134 : decode cX15_init 134 = .ok (.aload_n 0, 1) := by decide +kernel
theorem dX15_init_135 : decode cX15_init 135 = .ok (.iconst 4, 1) := by decide +kernel
theorem dX15_init_136 : decode cX15_init 136 = .ok (.newarray .int, 2) := by decide +kernel
theorem dX15_init_138 : decode cX15_init 138 = .ok (.putfield 62, 3) := by decide +kernel
theorem dX15_init_141 : decode cX15_init 141 = .ok (.return_, 1) := by decide +kernel
section JIN
variable {p : Program} {l : Launch} {e : Env} {R : Room} {s : State} {m : MethodId} {args : Array Value} {below : List Frame} {meth : Method} {c : Code} {cc : ByteArray} {nL : Nat} {own : String} {D : va_G} {cA : Nat → ClassId} {tys : List (ClassId × FieldType)} {A : Nat → Prop} {n0 s0 : Nat} {Q : State → Prop} {σ : Sg} {pc : Nat} {lo : List (Nat × Value)} {ls : Array Slot} {H : Heap} {locs : List Loc} {rest : List Value} {Qn : Sg → Option Value → Prop} {Qx : Sg → String → Prop} {y : MethodName} {bytes : ByteArray} {maxL fr lw index : Nat} {ret : Option FieldType}
variable {d : List Rc} {c9 s9 i j jm rmm : Nat}
set_option maxHeartbeats 4000000 in
set_option maxRecDepth 20000 in
theorem ok_X15_init (hT : TyC cA tys) (X : ST σ d c9 s9 i jm 15) (hj : (gD σ)[j]? = some rmm) (hz : c9 + d.length + 16 ≤ BC ∧ s9 + sz d + 12564 ≤ BS) : Ok l D cA tys A yX15_init (.code yX15_init cX15_init 2 none) 1 12 [.ref jm, .ref rmm] σ (fun σ' v => v = none ∧ ST σ' (jr_16 d i j) c9 s9 i jm 15 ∧ Pf σ σ' ∧ Ext σ σ') (fun _ _ => False) := by
  refine ok_of (ret := none) (by decide) (Nat.le_of_ble_eq_true rfl) ?_
  intro p e R s m args below meth c hRR B hr hlocks htab hin9 H locs ls hH hl hc
  have hl : lv_has ls 2 [(0, .ref jm), (1, .ref rmm)] := hl
  have hRm : Rm R (gc σ) (gs σ) := by rw [hRR]; exact ⟨rfl, rfl⟩
  have hin := hin9 rfl
  refine lv_aload_n B.1 B.2.1 dX15_init_0 rfl (lv_at hl 0 rfl) ?_
  refine lv_aload_n B.1 B.2.1 dX15_init_1 rfl (lv_at hl 1 rfl) ?_
  refine pt_F B X (C := RX15) (T := TX15) (N := 20) (k := 19) hj (by decide) rfl wu_X15 tyX15 tyX15_ok nmX15 (by decide) wf_X15_3 rfl (ty := .object "StreamHouseModel") rfl hin rfl rfl rfl (nrO _ _) (ftO _ _) dX15_init_2 hH hc (fun σ H locs X P9 E9 hH hc => ?_)
  have X : ST σ (jr_0 d i j) c9 s9 i jm 15 := X
  have hP := P9
  have hE := E9
  refine lv_aload_n B.1 B.2.1 dX15_init_5 rfl (lv_at hl 0 rfl) ?_
  refine h_oinit B hl wo_X15_9 (by rw [hRR]; exact Nat.le_refl _) (by rw [hRR]; exact Nat.le_refl _) dX15_init_6 ?_
  refine lv_aload_n B.1 B.2.1 dX15_init_9 rfl (lv_at hl 0 rfl) ?_
  refine lv_bipush (v := i32 16) B.1 B.2.1 dX15_init_10 (by decide) ?_
  refine nw_I B hT hRm wa_100 X (n := 16) (nn := 16) ⟨by decide, by decide⟩ rfl ⟨by rw [jl_0.1]; omega, by rw [jl_0.2]; omega⟩ dX15_init_12 hH hc (fun σ q H X P9 E9 hq hH hc => ?_)
  have hP := hP.tr P9
  have hE := hE.trans E9
  refine pt_F B X (C := RX15) (T := TX15) (N := 20) (k := 2) hq (by decide) rfl wu_X15 tyX15 tyX15_ok nmX15 (by decide) wf_X15_15 rfl (ty := .array .int) rfl hin rfl rfl rfl (nrA _ _) (ftA _ _) dX15_init_14 hH hc (fun σ H locs X P9 E9 hH hc => ?_)
  have hP := hP.tr P9
  have hE := hE.trans E9
  have X : ST σ (jr_1 d i j) c9 s9 i jm 15 := X
  refine lv_aload_n B.1 B.2.1 dX15_init_17 rfl (lv_at hl 0 rfl) ?_
  refine lv_bipush (v := i32 16) B.1 B.2.1 dX15_init_18 (by decide) ?_
  refine nw_J B hT hRm wa_101 X (n := 16) (nn := 16) ⟨by decide, by decide⟩ rfl ⟨by rw [jl_1.1]; omega, by rw [jl_1.2]; omega⟩ dX15_init_20 hH hc (fun σ q H X P9 E9 hq hH hc => ?_)
  have hP := hP.tr P9
  have hE := hE.trans E9
  refine pt_F B X (C := RX15) (T := TX15) (N := 20) (k := 3) hq (by decide) rfl wu_X15 tyX15 tyX15_ok nmX15 (by decide) wf_X15_19 rfl (ty := .array .long) rfl hin rfl rfl rfl (nrA _ _) (ftA _ _) dX15_init_22 hH hc (fun σ H locs X P9 E9 hH hc => ?_)
  have hP := hP.tr P9
  have hE := hE.trans E9
  have X : ST σ (jr_2 d i j) c9 s9 i jm 15 := X
  refine lv_aload_n B.1 B.2.1 dX15_init_25 rfl (lv_at hl 0 rfl) ?_
  refine lv_bipush (v := i32 16) B.1 B.2.1 dX15_init_26 (by decide) ?_
  refine nw_I B hT hRm wa_100 X (n := 16) (nn := 16) ⟨by decide, by decide⟩ rfl ⟨by rw [jl_2.1]; omega, by rw [jl_2.2]; omega⟩ dX15_init_28 hH hc (fun σ q H X P9 E9 hq hH hc => ?_)
  have hP := hP.tr P9
  have hE := hE.trans E9
  refine pt_F B X (C := RX15) (T := TX15) (N := 20) (k := 4) hq (by decide) rfl wu_X15 tyX15 tyX15_ok nmX15 (by decide) wf_X15_23 rfl (ty := .array .int) rfl hin rfl rfl rfl (nrA _ _) (ftA _ _) dX15_init_30 hH hc (fun σ H locs X P9 E9 hH hc => ?_)
  have hP := hP.tr P9
  have hE := hE.trans E9
  have X : ST σ (jr_3 d i j) c9 s9 i jm 15 := X
  refine lv_aload_n B.1 B.2.1 dX15_init_33 rfl (lv_at hl 0 rfl) ?_
  refine lv_bipush (v := i32 16) B.1 B.2.1 dX15_init_34 (by decide) ?_
  refine nw_I B hT hRm wa_100 X (n := 16) (nn := 16) ⟨by decide, by decide⟩ rfl ⟨by rw [jl_3.1]; omega, by rw [jl_3.2]; omega⟩ dX15_init_36 hH hc (fun σ q H X P9 E9 hq hH hc => ?_)
  have hP := hP.tr P9
  have hE := hE.trans E9
  refine pt_F B X (C := RX15) (T := TX15) (N := 20) (k := 5) hq (by decide) rfl wu_X15 tyX15 tyX15_ok nmX15 (by decide) wf_X15_26 rfl (ty := .array .int) rfl hin rfl rfl rfl (nrA _ _) (ftA _ _) dX15_init_38 hH hc (fun σ H locs X P9 E9 hH hc => ?_)
  have hP := hP.tr P9
  have hE := hE.trans E9
  have X : ST σ (jr_4 d i j) c9 s9 i jm 15 := X
  refine lv_aload_n B.1 B.2.1 dX15_init_41 rfl (lv_at hl 0 rfl) ?_
  refine lv_bipush (v := i32 16) B.1 B.2.1 dX15_init_42 (by decide) ?_
  refine nw_I B hT hRm wa_100 X (n := 16) (nn := 16) ⟨by decide, by decide⟩ rfl ⟨by rw [jl_4.1]; omega, by rw [jl_4.2]; omega⟩ dX15_init_44 hH hc (fun σ q H X P9 E9 hq hH hc => ?_)
  have hP := hP.tr P9
  have hE := hE.trans E9
  refine pt_F B X (C := RX15) (T := TX15) (N := 20) (k := 6) hq (by decide) rfl wu_X15 tyX15 tyX15_ok nmX15 (by decide) wf_X15_29 rfl (ty := .array .int) rfl hin rfl rfl rfl (nrA _ _) (ftA _ _) dX15_init_46 hH hc (fun σ H locs X P9 E9 hH hc => ?_)
  have hP := hP.tr P9
  have hE := hE.trans E9
  have X : ST σ (jr_5 d i j) c9 s9 i jm 15 := X
  refine lv_aload_n B.1 B.2.1 dX15_init_49 rfl (lv_at hl 0 rfl) ?_
  refine lv_sipush (v := i32 144) B.1 B.2.1 dX15_init_50 (by decide) ?_
  refine nw_J B hT hRm wa_101 X (n := 144) (nn := 144) ⟨by decide, by decide⟩ rfl ⟨by rw [jl_5.1]; omega, by rw [jl_5.2]; omega⟩ dX15_init_53 hH hc (fun σ q H X P9 E9 hq hH hc => ?_)
  have hP := hP.tr P9
  have hE := hE.trans E9
  refine pt_F B X (C := RX15) (T := TX15) (N := 20) (k := 7) hq (by decide) rfl wu_X15 tyX15 tyX15_ok nmX15 (by decide) wf_X15_32 rfl (ty := .array .long) rfl hin rfl rfl rfl (nrA _ _) (ftA _ _) dX15_init_55 hH hc (fun σ H locs X P9 E9 hH hc => ?_)
  have hP := hP.tr P9
  have hE := hE.trans E9
  have X : ST σ (jr_6 d i j) c9 s9 i jm 15 := X
  refine lv_aload_n B.1 B.2.1 dX15_init_58 rfl (lv_at hl 0 rfl) ?_
  refine lv_bipush (v := i32 16) B.1 B.2.1 dX15_init_59 (by decide) ?_
  refine nw_J B hT hRm wa_101 X (n := 16) (nn := 16) ⟨by decide, by decide⟩ rfl ⟨by rw [jl_6.1]; omega, by rw [jl_6.2]; omega⟩ dX15_init_61 hH hc (fun σ q H X P9 E9 hq hH hc => ?_)
  have hP := hP.tr P9
  have hE := hE.trans E9
  refine pt_F B X (C := RX15) (T := TX15) (N := 20) (k := 8) hq (by decide) rfl wu_X15 tyX15 tyX15_ok nmX15 (by decide) wf_X15_35 rfl (ty := .array .long) rfl hin rfl rfl rfl (nrA _ _) (ftA _ _) dX15_init_63 hH hc (fun σ H locs X P9 E9 hH hc => ?_)
  have hP := hP.tr P9
  have hE := hE.trans E9
  have X : ST σ (jr_7 d i j) c9 s9 i jm 15 := X
  refine lv_aload_n B.1 B.2.1 dX15_init_66 rfl (lv_at hl 0 rfl) ?_
  refine lv_bipush (v := i32 16) B.1 B.2.1 dX15_init_67 (by decide) ?_
  refine nw_J B hT hRm wa_101 X (n := 16) (nn := 16) ⟨by decide, by decide⟩ rfl ⟨by rw [jl_7.1]; omega, by rw [jl_7.2]; omega⟩ dX15_init_69 hH hc (fun σ q H X P9 E9 hq hH hc => ?_)
  have hP := hP.tr P9
  have hE := hE.trans E9
  refine pt_F B X (C := RX15) (T := TX15) (N := 20) (k := 9) hq (by decide) rfl wu_X15 tyX15 tyX15_ok nmX15 (by decide) wf_X15_38 rfl (ty := .array .long) rfl hin rfl rfl rfl (nrA _ _) (ftA _ _) dX15_init_71 hH hc (fun σ H locs X P9 E9 hH hc => ?_)
  have hP := hP.tr P9
  have hE := hE.trans E9
  have X : ST σ (jr_8 d i j) c9 s9 i jm 15 := X
  refine lv_aload_n B.1 B.2.1 dX15_init_74 rfl (lv_at hl 0 rfl) ?_
  refine lv_bipush (v := i32 16) B.1 B.2.1 dX15_init_75 (by decide) ?_
  refine nw_I B hT hRm wa_100 X (n := 16) (nn := 16) ⟨by decide, by decide⟩ rfl ⟨by rw [jl_8.1]; omega, by rw [jl_8.2]; omega⟩ dX15_init_77 hH hc (fun σ q H X P9 E9 hq hH hc => ?_)
  have hP := hP.tr P9
  have hE := hE.trans E9
  refine pt_F B X (C := RX15) (T := TX15) (N := 20) (k := 10) hq (by decide) rfl wu_X15 tyX15 tyX15_ok nmX15 (by decide) wf_X15_41 rfl (ty := .array .int) rfl hin rfl rfl rfl (nrA _ _) (ftA _ _) dX15_init_79 hH hc (fun σ H locs X P9 E9 hH hc => ?_)
  have hP := hP.tr P9
  have hE := hE.trans E9
  have X : ST σ (jr_9 d i j) c9 s9 i jm 15 := X
  refine lv_aload_n B.1 B.2.1 dX15_init_82 rfl (lv_at hl 0 rfl) ?_
  refine lv_bipush (v := i32 16) B.1 B.2.1 dX15_init_83 (by decide) ?_
  refine nw_I B hT hRm wa_100 X (n := 16) (nn := 16) ⟨by decide, by decide⟩ rfl ⟨by rw [jl_9.1]; omega, by rw [jl_9.2]; omega⟩ dX15_init_85 hH hc (fun σ q H X P9 E9 hq hH hc => ?_)
  have hP := hP.tr P9
  have hE := hE.trans E9
  refine pt_F B X (C := RX15) (T := TX15) (N := 20) (k := 11) hq (by decide) rfl wu_X15 tyX15 tyX15_ok nmX15 (by decide) wf_X15_44 rfl (ty := .array .int) rfl hin rfl rfl rfl (nrA _ _) (ftA _ _) dX15_init_87 hH hc (fun σ H locs X P9 E9 hH hc => ?_)
  have hP := hP.tr P9
  have hE := hE.trans E9
  have X : ST σ (jr_10 d i j) c9 s9 i jm 15 := X
  refine lv_aload_n B.1 B.2.1 dX15_init_90 rfl (lv_at hl 0 rfl) ?_
  refine lv_bipush (v := i32 16) B.1 B.2.1 dX15_init_91 (by decide) ?_
  refine nw_I B hT hRm wa_100 X (n := 16) (nn := 16) ⟨by decide, by decide⟩ rfl ⟨by rw [jl_10.1]; omega, by rw [jl_10.2]; omega⟩ dX15_init_93 hH hc (fun σ q H X P9 E9 hq hH hc => ?_)
  have hP := hP.tr P9
  have hE := hE.trans E9
  refine pt_F B X (C := RX15) (T := TX15) (N := 20) (k := 12) hq (by decide) rfl wu_X15 tyX15 tyX15_ok nmX15 (by decide) wf_X15_47 rfl (ty := .array .int) rfl hin rfl rfl rfl (nrA _ _) (ftA _ _) dX15_init_95 hH hc (fun σ H locs X P9 E9 hH hc => ?_)
  have hP := hP.tr P9
  have hE := hE.trans E9
  have X : ST σ (jr_11 d i j) c9 s9 i jm 15 := X
  refine lv_aload_n B.1 B.2.1 dX15_init_98 rfl (lv_at hl 0 rfl) ?_
  refine lv_sipush (v := i32 128) B.1 B.2.1 dX15_init_99 (by decide) ?_
  refine nw_I B hT hRm wa_100 X (n := 128) (nn := 128) ⟨by decide, by decide⟩ rfl ⟨by rw [jl_11.1]; omega, by rw [jl_11.2]; omega⟩ dX15_init_102 hH hc (fun σ q H X P9 E9 hq hH hc => ?_)
  have hP := hP.tr P9
  have hE := hE.trans E9
  refine pt_F B X (C := RX15) (T := TX15) (N := 20) (k := 13) hq (by decide) rfl wu_X15 tyX15 tyX15_ok nmX15 (by decide) wf_X15_50 rfl (ty := .array .int) rfl hin rfl rfl rfl (nrA _ _) (ftA _ _) dX15_init_104 hH hc (fun σ H locs X P9 E9 hH hc => ?_)
  have hP := hP.tr P9
  have hE := hE.trans E9
  have X : ST σ (jr_12 d i j) c9 s9 i jm 15 := X
  refine lv_aload_n B.1 B.2.1 dX15_init_107 rfl (lv_at hl 0 rfl) ?_
  refine lv_sipush (v := i32 128) B.1 B.2.1 dX15_init_108 (by decide) ?_
  refine nw_I B hT hRm wa_100 X (n := 128) (nn := 128) ⟨by decide, by decide⟩ rfl ⟨by rw [jl_12.1]; omega, by rw [jl_12.2]; omega⟩ dX15_init_111 hH hc (fun σ q H X P9 E9 hq hH hc => ?_)
  have hP := hP.tr P9
  have hE := hE.trans E9
  refine pt_F B X (C := RX15) (T := TX15) (N := 20) (k := 14) hq (by decide) rfl wu_X15 tyX15 tyX15_ok nmX15 (by decide) wf_X15_53 rfl (ty := .array .int) rfl hin rfl rfl rfl (nrA _ _) (ftA _ _) dX15_init_113 hH hc (fun σ H locs X P9 E9 hH hc => ?_)
  have hP := hP.tr P9
  have hE := hE.trans E9
  have X : ST σ (jr_13 d i j) c9 s9 i jm 15 := X
  refine lv_aload_n B.1 B.2.1 dX15_init_116 rfl (lv_at hl 0 rfl) ?_
  refine lv_sipush (v := i32 6000) B.1 B.2.1 dX15_init_117 (by decide) ?_
  refine nw_I B hT hRm wa_100 X (n := 6000) (nn := 6000) ⟨by decide, by decide⟩ rfl ⟨by rw [jl_13.1]; omega, by rw [jl_13.2]; omega⟩ dX15_init_120 hH hc (fun σ q H X P9 E9 hq hH hc => ?_)
  have hP := hP.tr P9
  have hE := hE.trans E9
  refine pt_F B X (C := RX15) (T := TX15) (N := 20) (k := 15) hq (by decide) rfl wu_X15 tyX15 tyX15_ok nmX15 (by decide) wf_X15_56 rfl (ty := .array .int) rfl hin rfl rfl rfl (nrA _ _) (ftA _ _) dX15_init_122 hH hc (fun σ H locs X P9 E9 hH hc => ?_)
  have hP := hP.tr P9
  have hE := hE.trans E9
  have X : ST σ (jr_14 d i j) c9 s9 i jm 15 := X
  refine lv_aload_n B.1 B.2.1 dX15_init_125 rfl (lv_at hl 0 rfl) ?_
  refine lv_sipush (v := i32 6000) B.1 B.2.1 dX15_init_126 (by decide) ?_
  refine nw_J B hT hRm wa_101 X (n := 6000) (nn := 6000) ⟨by decide, by decide⟩ rfl ⟨by rw [jl_14.1]; omega, by rw [jl_14.2]; omega⟩ dX15_init_129 hH hc (fun σ q H X P9 E9 hq hH hc => ?_)
  have hP := hP.tr P9
  have hE := hE.trans E9
  refine pt_F B X (C := RX15) (T := TX15) (N := 20) (k := 16) hq (by decide) rfl wu_X15 tyX15 tyX15_ok nmX15 (by decide) wf_X15_59 rfl (ty := .array .long) rfl hin rfl rfl rfl (nrA _ _) (ftA _ _) dX15_init_131 hH hc (fun σ H locs X P9 E9 hH hc => ?_)
  have hP := hP.tr P9
  have hE := hE.trans E9
  have X : ST σ (jr_15 d i j) c9 s9 i jm 15 := X
  refine lv_aload_n B.1 B.2.1 dX15_init_134 rfl (lv_at hl 0 rfl) ?_
  refine lv_iconst (v := i32 4) B.1 B.2.1 dX15_init_135 (by decide) ?_
  refine nw_I B hT hRm wa_100 X (n := 4) (nn := 4) ⟨by decide, by decide⟩ rfl ⟨by rw [jl_15.1]; omega, by rw [jl_15.2]; omega⟩ dX15_init_136 hH hc (fun σ q H X P9 E9 hq hH hc => ?_)
  have hP := hP.tr P9
  have hE := hE.trans E9
  refine pt_F B X (C := RX15) (T := TX15) (N := 20) (k := 18) hq (by decide) rfl wu_X15 tyX15 tyX15_ok nmX15 (by decide) wf_X15_62 rfl (ty := .array .int) rfl hin rfl rfl rfl (nrA _ _) (ftA _ _) dX15_init_138 hH hc (fun σ H locs X P9 E9 hH hc => ?_)
  have hP := hP.tr P9
  have hE := hE.trans E9
  have X : ST σ (jr_16 d i j) c9 s9 i jm 15 := X
  exact e_vret B hH hc hr hlocks ⟨rfl, X, hP, hE⟩ dX15_init_141
end JIN

section C77
variable {p : Program} {l : Launch} {e : Env} {R : Room} {s : State} {m : MethodId} {args : Array Value} {below : List Frame} {meth : Method} {c : Code} {D : va_G} {cA : Nat → ClassId} {tys : List (ClassId × FieldType)} {A : Nat → Prop} {n0 s0 : Nat} {QM : State → Prop} {σi : Sg}
theorem dC_J13_bitCount_95d88_0 : decode cJ13_bitCount_95d88 0 = .ok (.lload_n 0, 1) := by decide +kernel
theorem dC_J13_bitCount_95d88_1 : decode cJ13_bitCount_95d88 1 = .ok (.lload_n 0, 1) := by decide +kernel
theorem dC_J13_bitCount_95d88_2 : decode cJ13_bitCount_95d88 2 = .ok (.iconst 1, 1) := by decide +kernel
theorem dC_J13_bitCount_95d88_3 : decode cJ13_bitCount_95d88 3 = .ok (.lushr, 1) := by decide +kernel
theorem dC_J13_bitCount_95d88_4 : decode cJ13_bitCount_95d88 4 = .ok (.ldc2_w 314, 3) := by decide +kernel
theorem dC_J13_bitCount_95d88_7 : decode cJ13_bitCount_95d88 7 = .ok (.land, 1) := by decide +kernel
theorem dC_J13_bitCount_95d88_8 : decode cJ13_bitCount_95d88 8 = .ok (.lsub, 1) := by decide +kernel
theorem dC_J13_bitCount_95d88_9 : decode cJ13_bitCount_95d88 9 = .ok (.lstore_n 0, 1) := by decide +kernel
theorem dC_J13_bitCount_95d88_10 : decode cJ13_bitCount_95d88 10 = .ok (.lload_n 0, 1) := by decide +kernel
theorem dC_J13_bitCount_95d88_11 : decode cJ13_bitCount_95d88 11 = .ok (.ldc2_w 316, 3) := by decide +kernel
theorem dC_J13_bitCount_95d88_14 : decode cJ13_bitCount_95d88 14 = .ok (.land, 1) := by decide +kernel
theorem dC_J13_bitCount_95d88_15 : decode cJ13_bitCount_95d88 15 = .ok (.lload_n 0, 1) := by decide +kernel
theorem dC_J13_bitCount_95d88_16 : decode cJ13_bitCount_95d88 16 = .ok (.iconst 2, 1) := by decide +kernel
theorem dC_J13_bitCount_95d88_17 : decode cJ13_bitCount_95d88 17 = .ok (.lushr, 1) := by decide +kernel
theorem dC_J13_bitCount_95d88_18 : decode cJ13_bitCount_95d88 18 = .ok (.ldc2_w 316, 3) := by decide +kernel
theorem dC_J13_bitCount_95d88_21 : decode cJ13_bitCount_95d88 21 = .ok (.land, 1) := by decide +kernel
theorem dC_J13_bitCount_95d88_22 : decode cJ13_bitCount_95d88 22 = .ok (.ladd, 1) := by decide +kernel
theorem dC_J13_bitCount_95d88_23 : decode cJ13_bitCount_95d88 23 = .ok (.lstore_n 0, 1) := by decide +kernel
theorem dC_J13_bitCount_95d88_24 : decode cJ13_bitCount_95d88 24 = .ok (.lload_n 0, 1) := by decide +kernel
theorem dC_J13_bitCount_95d88_25 : decode cJ13_bitCount_95d88 25 = .ok (.lload_n 0, 1) := by decide +kernel
theorem dC_J13_bitCount_95d88_26 : decode cJ13_bitCount_95d88 26 = .ok (.iconst 4, 1) := by decide +kernel
theorem dC_J13_bitCount_95d88_27 : decode cJ13_bitCount_95d88 27 = .ok (.lushr, 1) := by decide +kernel
theorem dC_J13_bitCount_95d88_28 : decode cJ13_bitCount_95d88 28 = .ok (.ladd, 1) := by decide +kernel
theorem dC_J13_bitCount_95d88_29 : decode cJ13_bitCount_95d88 29 = .ok (.ldc2_w 318, 3) := by decide +kernel
theorem dC_J13_bitCount_95d88_32 : decode cJ13_bitCount_95d88 32 = .ok (.land, 1) := by decide +kernel
theorem dC_J13_bitCount_95d88_33 : decode cJ13_bitCount_95d88 33 = .ok (.lstore_n 0, 1) := by decide +kernel
theorem dC_J13_bitCount_95d88_34 : decode cJ13_bitCount_95d88 34 = .ok (.lload_n 0, 1) := by decide +kernel
theorem dC_J13_bitCount_95d88_35 : decode cJ13_bitCount_95d88 35 = .ok (.lload_n 0, 1) := by decide +kernel
theorem dC_J13_bitCount_95d88_36 : decode cJ13_bitCount_95d88 36 = .ok (.bipush 8, 2) := by decide +kernel
theorem dC_J13_bitCount_95d88_38 : decode cJ13_bitCount_95d88 38 = .ok (.lushr, 1) := by decide +kernel
theorem dC_J13_bitCount_95d88_39 : decode cJ13_bitCount_95d88 39 = .ok (.ladd, 1) := by decide +kernel
theorem dC_J13_bitCount_95d88_40 : decode cJ13_bitCount_95d88 40 = .ok (.lstore_n 0, 1) := by decide +kernel
theorem dC_J13_bitCount_95d88_41 : decode cJ13_bitCount_95d88 41 = .ok (.lload_n 0, 1) := by decide +kernel
theorem dC_J13_bitCount_95d88_42 : decode cJ13_bitCount_95d88 42 = .ok (.lload_n 0, 1) := by decide +kernel
theorem dC_J13_bitCount_95d88_43 : decode cJ13_bitCount_95d88 43 = .ok (.bipush 16, 2) := by decide +kernel
theorem dC_J13_bitCount_95d88_45 : decode cJ13_bitCount_95d88 45 = .ok (.lushr, 1) := by decide +kernel
theorem dC_J13_bitCount_95d88_46 : decode cJ13_bitCount_95d88 46 = .ok (.ladd, 1) := by decide +kernel
theorem dC_J13_bitCount_95d88_47 : decode cJ13_bitCount_95d88 47 = .ok (.lstore_n 0, 1) := by decide +kernel
theorem dC_J13_bitCount_95d88_48 : decode cJ13_bitCount_95d88 48 = .ok (.lload_n 0, 1) := by decide +kernel
theorem dC_J13_bitCount_95d88_49 : decode cJ13_bitCount_95d88 49 = .ok (.lload_n 0, 1) := by decide +kernel
theorem dC_J13_bitCount_95d88_50 : decode cJ13_bitCount_95d88 50 = .ok (.bipush 32, 2) := by decide +kernel
theorem dC_J13_bitCount_95d88_52 : decode cJ13_bitCount_95d88 52 = .ok (.lushr, 1) := by decide +kernel
theorem dC_J13_bitCount_95d88_53 : decode cJ13_bitCount_95d88 53 = .ok (.ladd, 1) := by decide +kernel
theorem dC_J13_bitCount_95d88_54 : decode cJ13_bitCount_95d88 54 = .ok (.lstore_n 0, 1) := by decide +kernel
theorem dC_J13_bitCount_95d88_55 : decode cJ13_bitCount_95d88 55 = .ok (.lload_n 0, 1) := by decide +kernel
theorem dC_J13_bitCount_95d88_56 : decode cJ13_bitCount_95d88 56 = .ok (.l2i, 1) := by decide +kernel
theorem dC_J13_bitCount_95d88_57 : decode cJ13_bitCount_95d88 57 = .ok (.bipush 127, 2) := by decide +kernel
theorem dC_J13_bitCount_95d88_59 : decode cJ13_bitCount_95d88 59 = .ok (.iand, 1) := by decide +kernel
theorem dC_J13_bitCount_95d88_60 : decode cJ13_bitCount_95d88 60 = .ok (.ireturn, 1) := by decide +kernel
set_option maxRecDepth 20000 in
theorem aC_J13_bitCount_95d88_0 {Q : Sg → Int → Prop} {X : Sg → String → Prop} (K : MD l R p s m args c cJ13_bitCount_95d88 2 yJ13_bitCount_95d88.cls D cA tys A n0 s0 0 0 []) (hQ : CQI p l e R s m args below meth c cJ13_bitCount_95d88 D cA A n0 s0 QM σi Q) (hX : CX p l e R s m args below meth c 2 D cA A n0 s0 QM σi X) (hTh : CT p l e R s m args below meth c cJ13_bitCount_95d88 2 D cA A n0 s0 QM σi yJ13_bitCount_95d88.cls X) : ∀ (σ : Sg) (v0 : Int64), wC_J13_bitCount_95d88_0 Q X σ v0 → RG σ → TY σ → Ext σi σ → JJ p l e R s m args below meth c 2 D cA A n0 s0 QM σ 0 [(0, .long v0)] [] := by
  intro σ v0 h hGσ hYσ hE H locs ls hH hl hc
  have B := K.1
  have hl9 := K.2.2.2.2.2.2
  unfold wC_J13_bitCount_95d88_0 at h
  refine lv_lload_n B.1 B.2.1 dC_J13_bitCount_95d88_0 rfl (lv_at hl 0 rfl) ?_
  refine lv_lload_n B.1 B.2.1 dC_J13_bitCount_95d88_1 rfl (lv_at hl 0 rfl) ?_
  refine lv_iconst (v := i32 1) B.1 B.2.1 dC_J13_bitCount_95d88_2 (by decide) ?_
  refine lv_lushr B.1 B.2.1 dC_J13_bitCount_95d88_3 rfl ?_
  refine lv_ldc2 B.1 B.2.1 B.2.2.1 (B.2.2.2.1 _ (wk_J13_314)) dC_J13_bitCount_95d88_4 ?_
  refine lv_land B.1 B.2.1 dC_J13_bitCount_95d88_7 ?_
  refine lv_lsub B.1 B.2.1 dC_J13_bitCount_95d88_8 ?_
  refine lv_lstore_n (lv' := [(0, .long (v0 - (((v0).toUInt64 >>> ((i32 1).toInt64.toUInt64 &&& Int64.toUInt64 63)).toInt64 &&& 6148914691236517205)))]) B.1 B.2.1 dC_J13_bitCount_95d88_9 rfl hl (by decide) rfl (fun ls hl => ?_)
  refine lv_lload_n B.1 B.2.1 dC_J13_bitCount_95d88_10 rfl (lv_at hl 0 rfl) ?_
  refine lv_ldc2 B.1 B.2.1 B.2.2.1 (B.2.2.2.1 _ (wk_J13_316)) dC_J13_bitCount_95d88_11 ?_
  refine lv_land B.1 B.2.1 dC_J13_bitCount_95d88_14 ?_
  refine lv_lload_n B.1 B.2.1 dC_J13_bitCount_95d88_15 rfl (lv_at hl 0 rfl) ?_
  refine lv_iconst (v := i32 2) B.1 B.2.1 dC_J13_bitCount_95d88_16 (by decide) ?_
  refine lv_lushr B.1 B.2.1 dC_J13_bitCount_95d88_17 rfl ?_
  refine lv_ldc2 B.1 B.2.1 B.2.2.1 (B.2.2.2.1 _ (wk_J13_316)) dC_J13_bitCount_95d88_18 ?_
  refine lv_land B.1 B.2.1 dC_J13_bitCount_95d88_21 ?_
  refine lv_ladd B.1 B.2.1 dC_J13_bitCount_95d88_22 ?_
  refine lv_lstore_n (lv' := [(0, .long (((v0 - (((v0).toUInt64 >>> ((i32 1).toInt64.toUInt64 &&& Int64.toUInt64 63)).toInt64 &&& 6148914691236517205)) &&& 3689348814741910323) + ((((v0 - (((v0).toUInt64 >>> ((i32 1).toInt64.toUInt64 &&& Int64.toUInt64 63)).toInt64 &&& 6148914691236517205))).toUInt64 >>> ((i32 2).toInt64.toUInt64 &&& Int64.toUInt64 63)).toInt64 &&& 3689348814741910323)))]) B.1 B.2.1 dC_J13_bitCount_95d88_23 rfl hl (by decide) rfl (fun ls hl => ?_)
  refine lv_lload_n B.1 B.2.1 dC_J13_bitCount_95d88_24 rfl (lv_at hl 0 rfl) ?_
  refine lv_lload_n B.1 B.2.1 dC_J13_bitCount_95d88_25 rfl (lv_at hl 0 rfl) ?_
  refine lv_iconst (v := i32 4) B.1 B.2.1 dC_J13_bitCount_95d88_26 (by decide) ?_
  refine lv_lushr B.1 B.2.1 dC_J13_bitCount_95d88_27 rfl ?_
  refine lv_ladd B.1 B.2.1 dC_J13_bitCount_95d88_28 ?_
  refine lv_ldc2 B.1 B.2.1 B.2.2.1 (B.2.2.2.1 _ (wk_J13_318)) dC_J13_bitCount_95d88_29 ?_
  refine lv_land B.1 B.2.1 dC_J13_bitCount_95d88_32 ?_
  refine lv_lstore_n (lv' := [(0, .long (((((v0 - (((v0).toUInt64 >>> ((i32 1).toInt64.toUInt64 &&& Int64.toUInt64 63)).toInt64 &&& 6148914691236517205)) &&& 3689348814741910323) + ((((v0 - (((v0).toUInt64 >>> ((i32 1).toInt64.toUInt64 &&& Int64.toUInt64 63)).toInt64 &&& 6148914691236517205))).toUInt64 >>> ((i32 2).toInt64.toUInt64 &&& Int64.toUInt64 63)).toInt64 &&& 3689348814741910323)) + (((((v0 - (((v0).toUInt64 >>> ((i32 1).toInt64.toUInt64 &&& Int64.toUInt64 63)).toInt64 &&& 6148914691236517205)) &&& 3689348814741910323) + ((((v0 - (((v0).toUInt64 >>> ((i32 1).toInt64.toUInt64 &&& Int64.toUInt64 63)).toInt64 &&& 6148914691236517205))).toUInt64 >>> ((i32 2).toInt64.toUInt64 &&& Int64.toUInt64 63)).toInt64 &&& 3689348814741910323))).toUInt64 >>> ((i32 4).toInt64.toUInt64 &&& Int64.toUInt64 63)).toInt64) &&& 1085102592571150095))]) B.1 B.2.1 dC_J13_bitCount_95d88_33 rfl hl (by decide) rfl (fun ls hl => ?_)
  refine lv_lload_n B.1 B.2.1 dC_J13_bitCount_95d88_34 rfl (lv_at hl 0 rfl) ?_
  refine lv_lload_n B.1 B.2.1 dC_J13_bitCount_95d88_35 rfl (lv_at hl 0 rfl) ?_
  refine lv_bipush (v := i32 8) B.1 B.2.1 dC_J13_bitCount_95d88_36 (by decide) ?_
  refine lv_lushr B.1 B.2.1 dC_J13_bitCount_95d88_38 rfl ?_
  refine lv_ladd B.1 B.2.1 dC_J13_bitCount_95d88_39 ?_
  refine lv_lstore_n (lv' := [(0, .long ((((((v0 - (((v0).toUInt64 >>> ((i32 1).toInt64.toUInt64 &&& Int64.toUInt64 63)).toInt64 &&& 6148914691236517205)) &&& 3689348814741910323) + ((((v0 - (((v0).toUInt64 >>> ((i32 1).toInt64.toUInt64 &&& Int64.toUInt64 63)).toInt64 &&& 6148914691236517205))).toUInt64 >>> ((i32 2).toInt64.toUInt64 &&& Int64.toUInt64 63)).toInt64 &&& 3689348814741910323)) + (((((v0 - (((v0).toUInt64 >>> ((i32 1).toInt64.toUInt64 &&& Int64.toUInt64 63)).toInt64 &&& 6148914691236517205)) &&& 3689348814741910323) + ((((v0 - (((v0).toUInt64 >>> ((i32 1).toInt64.toUInt64 &&& Int64.toUInt64 63)).toInt64 &&& 6148914691236517205))).toUInt64 >>> ((i32 2).toInt64.toUInt64 &&& Int64.toUInt64 63)).toInt64 &&& 3689348814741910323))).toUInt64 >>> ((i32 4).toInt64.toUInt64 &&& Int64.toUInt64 63)).toInt64) &&& 1085102592571150095) + (((((((v0 - (((v0).toUInt64 >>> ((i32 1).toInt64.toUInt64 &&& Int64.toUInt64 63)).toInt64 &&& 6148914691236517205)) &&& 3689348814741910323) + ((((v0 - (((v0).toUInt64 >>> ((i32 1).toInt64.toUInt64 &&& Int64.toUInt64 63)).toInt64 &&& 6148914691236517205))).toUInt64 >>> ((i32 2).toInt64.toUInt64 &&& Int64.toUInt64 63)).toInt64 &&& 3689348814741910323)) + (((((v0 - (((v0).toUInt64 >>> ((i32 1).toInt64.toUInt64 &&& Int64.toUInt64 63)).toInt64 &&& 6148914691236517205)) &&& 3689348814741910323) + ((((v0 - (((v0).toUInt64 >>> ((i32 1).toInt64.toUInt64 &&& Int64.toUInt64 63)).toInt64 &&& 6148914691236517205))).toUInt64 >>> ((i32 2).toInt64.toUInt64 &&& Int64.toUInt64 63)).toInt64 &&& 3689348814741910323))).toUInt64 >>> ((i32 4).toInt64.toUInt64 &&& Int64.toUInt64 63)).toInt64) &&& 1085102592571150095)).toUInt64 >>> ((i32 8).toInt64.toUInt64 &&& Int64.toUInt64 63)).toInt64))]) B.1 B.2.1 dC_J13_bitCount_95d88_40 rfl hl (by decide) rfl (fun ls hl => ?_)
  refine lv_lload_n B.1 B.2.1 dC_J13_bitCount_95d88_41 rfl (lv_at hl 0 rfl) ?_
  refine lv_lload_n B.1 B.2.1 dC_J13_bitCount_95d88_42 rfl (lv_at hl 0 rfl) ?_
  refine lv_bipush (v := i32 16) B.1 B.2.1 dC_J13_bitCount_95d88_43 (by decide) ?_
  refine lv_lushr B.1 B.2.1 dC_J13_bitCount_95d88_45 rfl ?_
  refine lv_ladd B.1 B.2.1 dC_J13_bitCount_95d88_46 ?_
  refine lv_lstore_n (lv' := [(0, .long (((((((v0 - (((v0).toUInt64 >>> ((i32 1).toInt64.toUInt64 &&& Int64.toUInt64 63)).toInt64 &&& 6148914691236517205)) &&& 3689348814741910323) + ((((v0 - (((v0).toUInt64 >>> ((i32 1).toInt64.toUInt64 &&& Int64.toUInt64 63)).toInt64 &&& 6148914691236517205))).toUInt64 >>> ((i32 2).toInt64.toUInt64 &&& Int64.toUInt64 63)).toInt64 &&& 3689348814741910323)) + (((((v0 - (((v0).toUInt64 >>> ((i32 1).toInt64.toUInt64 &&& Int64.toUInt64 63)).toInt64 &&& 6148914691236517205)) &&& 3689348814741910323) + ((((v0 - (((v0).toUInt64 >>> ((i32 1).toInt64.toUInt64 &&& Int64.toUInt64 63)).toInt64 &&& 6148914691236517205))).toUInt64 >>> ((i32 2).toInt64.toUInt64 &&& Int64.toUInt64 63)).toInt64 &&& 3689348814741910323))).toUInt64 >>> ((i32 4).toInt64.toUInt64 &&& Int64.toUInt64 63)).toInt64) &&& 1085102592571150095) + (((((((v0 - (((v0).toUInt64 >>> ((i32 1).toInt64.toUInt64 &&& Int64.toUInt64 63)).toInt64 &&& 6148914691236517205)) &&& 3689348814741910323) + ((((v0 - (((v0).toUInt64 >>> ((i32 1).toInt64.toUInt64 &&& Int64.toUInt64 63)).toInt64 &&& 6148914691236517205))).toUInt64 >>> ((i32 2).toInt64.toUInt64 &&& Int64.toUInt64 63)).toInt64 &&& 3689348814741910323)) + (((((v0 - (((v0).toUInt64 >>> ((i32 1).toInt64.toUInt64 &&& Int64.toUInt64 63)).toInt64 &&& 6148914691236517205)) &&& 3689348814741910323) + ((((v0 - (((v0).toUInt64 >>> ((i32 1).toInt64.toUInt64 &&& Int64.toUInt64 63)).toInt64 &&& 6148914691236517205))).toUInt64 >>> ((i32 2).toInt64.toUInt64 &&& Int64.toUInt64 63)).toInt64 &&& 3689348814741910323))).toUInt64 >>> ((i32 4).toInt64.toUInt64 &&& Int64.toUInt64 63)).toInt64) &&& 1085102592571150095)).toUInt64 >>> ((i32 8).toInt64.toUInt64 &&& Int64.toUInt64 63)).toInt64) + ((((((((v0 - (((v0).toUInt64 >>> ((i32 1).toInt64.toUInt64 &&& Int64.toUInt64 63)).toInt64 &&& 6148914691236517205)) &&& 3689348814741910323) + ((((v0 - (((v0).toUInt64 >>> ((i32 1).toInt64.toUInt64 &&& Int64.toUInt64 63)).toInt64 &&& 6148914691236517205))).toUInt64 >>> ((i32 2).toInt64.toUInt64 &&& Int64.toUInt64 63)).toInt64 &&& 3689348814741910323)) + (((((v0 - (((v0).toUInt64 >>> ((i32 1).toInt64.toUInt64 &&& Int64.toUInt64 63)).toInt64 &&& 6148914691236517205)) &&& 3689348814741910323) + ((((v0 - (((v0).toUInt64 >>> ((i32 1).toInt64.toUInt64 &&& Int64.toUInt64 63)).toInt64 &&& 6148914691236517205))).toUInt64 >>> ((i32 2).toInt64.toUInt64 &&& Int64.toUInt64 63)).toInt64 &&& 3689348814741910323))).toUInt64 >>> ((i32 4).toInt64.toUInt64 &&& Int64.toUInt64 63)).toInt64) &&& 1085102592571150095) + (((((((v0 - (((v0).toUInt64 >>> ((i32 1).toInt64.toUInt64 &&& Int64.toUInt64 63)).toInt64 &&& 6148914691236517205)) &&& 3689348814741910323) + ((((v0 - (((v0).toUInt64 >>> ((i32 1).toInt64.toUInt64 &&& Int64.toUInt64 63)).toInt64 &&& 6148914691236517205))).toUInt64 >>> ((i32 2).toInt64.toUInt64 &&& Int64.toUInt64 63)).toInt64 &&& 3689348814741910323)) + (((((v0 - (((v0).toUInt64 >>> ((i32 1).toInt64.toUInt64 &&& Int64.toUInt64 63)).toInt64 &&& 6148914691236517205)) &&& 3689348814741910323) + ((((v0 - (((v0).toUInt64 >>> ((i32 1).toInt64.toUInt64 &&& Int64.toUInt64 63)).toInt64 &&& 6148914691236517205))).toUInt64 >>> ((i32 2).toInt64.toUInt64 &&& Int64.toUInt64 63)).toInt64 &&& 3689348814741910323))).toUInt64 >>> ((i32 4).toInt64.toUInt64 &&& Int64.toUInt64 63)).toInt64) &&& 1085102592571150095)).toUInt64 >>> ((i32 8).toInt64.toUInt64 &&& Int64.toUInt64 63)).toInt64)).toUInt64 >>> ((i32 16).toInt64.toUInt64 &&& Int64.toUInt64 63)).toInt64))]) B.1 B.2.1 dC_J13_bitCount_95d88_47 rfl hl (by decide) rfl (fun ls hl => ?_)
  refine lv_lload_n B.1 B.2.1 dC_J13_bitCount_95d88_48 rfl (lv_at hl 0 rfl) ?_
  refine lv_lload_n B.1 B.2.1 dC_J13_bitCount_95d88_49 rfl (lv_at hl 0 rfl) ?_
  refine lv_bipush (v := i32 32) B.1 B.2.1 dC_J13_bitCount_95d88_50 (by decide) ?_
  refine lv_lushr B.1 B.2.1 dC_J13_bitCount_95d88_52 rfl ?_
  refine lv_ladd B.1 B.2.1 dC_J13_bitCount_95d88_53 ?_
  refine lv_lstore_n (lv' := [(0, .long ((((((((v0 - (((v0).toUInt64 >>> ((i32 1).toInt64.toUInt64 &&& Int64.toUInt64 63)).toInt64 &&& 6148914691236517205)) &&& 3689348814741910323) + ((((v0 - (((v0).toUInt64 >>> ((i32 1).toInt64.toUInt64 &&& Int64.toUInt64 63)).toInt64 &&& 6148914691236517205))).toUInt64 >>> ((i32 2).toInt64.toUInt64 &&& Int64.toUInt64 63)).toInt64 &&& 3689348814741910323)) + (((((v0 - (((v0).toUInt64 >>> ((i32 1).toInt64.toUInt64 &&& Int64.toUInt64 63)).toInt64 &&& 6148914691236517205)) &&& 3689348814741910323) + ((((v0 - (((v0).toUInt64 >>> ((i32 1).toInt64.toUInt64 &&& Int64.toUInt64 63)).toInt64 &&& 6148914691236517205))).toUInt64 >>> ((i32 2).toInt64.toUInt64 &&& Int64.toUInt64 63)).toInt64 &&& 3689348814741910323))).toUInt64 >>> ((i32 4).toInt64.toUInt64 &&& Int64.toUInt64 63)).toInt64) &&& 1085102592571150095) + (((((((v0 - (((v0).toUInt64 >>> ((i32 1).toInt64.toUInt64 &&& Int64.toUInt64 63)).toInt64 &&& 6148914691236517205)) &&& 3689348814741910323) + ((((v0 - (((v0).toUInt64 >>> ((i32 1).toInt64.toUInt64 &&& Int64.toUInt64 63)).toInt64 &&& 6148914691236517205))).toUInt64 >>> ((i32 2).toInt64.toUInt64 &&& Int64.toUInt64 63)).toInt64 &&& 3689348814741910323)) + (((((v0 - (((v0).toUInt64 >>> ((i32 1).toInt64.toUInt64 &&& Int64.toUInt64 63)).toInt64 &&& 6148914691236517205)) &&& 3689348814741910323) + ((((v0 - (((v0).toUInt64 >>> ((i32 1).toInt64.toUInt64 &&& Int64.toUInt64 63)).toInt64 &&& 6148914691236517205))).toUInt64 >>> ((i32 2).toInt64.toUInt64 &&& Int64.toUInt64 63)).toInt64 &&& 3689348814741910323))).toUInt64 >>> ((i32 4).toInt64.toUInt64 &&& Int64.toUInt64 63)).toInt64) &&& 1085102592571150095)).toUInt64 >>> ((i32 8).toInt64.toUInt64 &&& Int64.toUInt64 63)).toInt64) + ((((((((v0 - (((v0).toUInt64 >>> ((i32 1).toInt64.toUInt64 &&& Int64.toUInt64 63)).toInt64 &&& 6148914691236517205)) &&& 3689348814741910323) + ((((v0 - (((v0).toUInt64 >>> ((i32 1).toInt64.toUInt64 &&& Int64.toUInt64 63)).toInt64 &&& 6148914691236517205))).toUInt64 >>> ((i32 2).toInt64.toUInt64 &&& Int64.toUInt64 63)).toInt64 &&& 3689348814741910323)) + (((((v0 - (((v0).toUInt64 >>> ((i32 1).toInt64.toUInt64 &&& Int64.toUInt64 63)).toInt64 &&& 6148914691236517205)) &&& 3689348814741910323) + ((((v0 - (((v0).toUInt64 >>> ((i32 1).toInt64.toUInt64 &&& Int64.toUInt64 63)).toInt64 &&& 6148914691236517205))).toUInt64 >>> ((i32 2).toInt64.toUInt64 &&& Int64.toUInt64 63)).toInt64 &&& 3689348814741910323))).toUInt64 >>> ((i32 4).toInt64.toUInt64 &&& Int64.toUInt64 63)).toInt64) &&& 1085102592571150095) + (((((((v0 - (((v0).toUInt64 >>> ((i32 1).toInt64.toUInt64 &&& Int64.toUInt64 63)).toInt64 &&& 6148914691236517205)) &&& 3689348814741910323) + ((((v0 - (((v0).toUInt64 >>> ((i32 1).toInt64.toUInt64 &&& Int64.toUInt64 63)).toInt64 &&& 6148914691236517205))).toUInt64 >>> ((i32 2).toInt64.toUInt64 &&& Int64.toUInt64 63)).toInt64 &&& 3689348814741910323)) + (((((v0 - (((v0).toUInt64 >>> ((i32 1).toInt64.toUInt64 &&& Int64.toUInt64 63)).toInt64 &&& 6148914691236517205)) &&& 3689348814741910323) + ((((v0 - (((v0).toUInt64 >>> ((i32 1).toInt64.toUInt64 &&& Int64.toUInt64 63)).toInt64 &&& 6148914691236517205))).toUInt64 >>> ((i32 2).toInt64.toUInt64 &&& Int64.toUInt64 63)).toInt64 &&& 3689348814741910323))).toUInt64 >>> ((i32 4).toInt64.toUInt64 &&& Int64.toUInt64 63)).toInt64) &&& 1085102592571150095)).toUInt64 >>> ((i32 8).toInt64.toUInt64 &&& Int64.toUInt64 63)).toInt64)).toUInt64 >>> ((i32 16).toInt64.toUInt64 &&& Int64.toUInt64 63)).toInt64) + (((((((((v0 - (((v0).toUInt64 >>> ((i32 1).toInt64.toUInt64 &&& Int64.toUInt64 63)).toInt64 &&& 6148914691236517205)) &&& 3689348814741910323) + ((((v0 - (((v0).toUInt64 >>> ((i32 1).toInt64.toUInt64 &&& Int64.toUInt64 63)).toInt64 &&& 6148914691236517205))).toUInt64 >>> ((i32 2).toInt64.toUInt64 &&& Int64.toUInt64 63)).toInt64 &&& 3689348814741910323)) + (((((v0 - (((v0).toUInt64 >>> ((i32 1).toInt64.toUInt64 &&& Int64.toUInt64 63)).toInt64 &&& 6148914691236517205)) &&& 3689348814741910323) + ((((v0 - (((v0).toUInt64 >>> ((i32 1).toInt64.toUInt64 &&& Int64.toUInt64 63)).toInt64 &&& 6148914691236517205))).toUInt64 >>> ((i32 2).toInt64.toUInt64 &&& Int64.toUInt64 63)).toInt64 &&& 3689348814741910323))).toUInt64 >>> ((i32 4).toInt64.toUInt64 &&& Int64.toUInt64 63)).toInt64) &&& 1085102592571150095) + (((((((v0 - (((v0).toUInt64 >>> ((i32 1).toInt64.toUInt64 &&& Int64.toUInt64 63)).toInt64 &&& 6148914691236517205)) &&& 3689348814741910323) + ((((v0 - (((v0).toUInt64 >>> ((i32 1).toInt64.toUInt64 &&& Int64.toUInt64 63)).toInt64 &&& 6148914691236517205))).toUInt64 >>> ((i32 2).toInt64.toUInt64 &&& Int64.toUInt64 63)).toInt64 &&& 3689348814741910323)) + (((((v0 - (((v0).toUInt64 >>> ((i32 1).toInt64.toUInt64 &&& Int64.toUInt64 63)).toInt64 &&& 6148914691236517205)) &&& 3689348814741910323) + ((((v0 - (((v0).toUInt64 >>> ((i32 1).toInt64.toUInt64 &&& Int64.toUInt64 63)).toInt64 &&& 6148914691236517205))).toUInt64 >>> ((i32 2).toInt64.toUInt64 &&& Int64.toUInt64 63)).toInt64 &&& 3689348814741910323))).toUInt64 >>> ((i32 4).toInt64.toUInt64 &&& Int64.toUInt64 63)).toInt64) &&& 1085102592571150095)).toUInt64 >>> ((i32 8).toInt64.toUInt64 &&& Int64.toUInt64 63)).toInt64) + ((((((((v0 - (((v0).toUInt64 >>> ((i32 1).toInt64.toUInt64 &&& Int64.toUInt64 63)).toInt64 &&& 6148914691236517205)) &&& 3689348814741910323) + ((((v0 - (((v0).toUInt64 >>> ((i32 1).toInt64.toUInt64 &&& Int64.toUInt64 63)).toInt64 &&& 6148914691236517205))).toUInt64 >>> ((i32 2).toInt64.toUInt64 &&& Int64.toUInt64 63)).toInt64 &&& 3689348814741910323)) + (((((v0 - (((v0).toUInt64 >>> ((i32 1).toInt64.toUInt64 &&& Int64.toUInt64 63)).toInt64 &&& 6148914691236517205)) &&& 3689348814741910323) + ((((v0 - (((v0).toUInt64 >>> ((i32 1).toInt64.toUInt64 &&& Int64.toUInt64 63)).toInt64 &&& 6148914691236517205))).toUInt64 >>> ((i32 2).toInt64.toUInt64 &&& Int64.toUInt64 63)).toInt64 &&& 3689348814741910323))).toUInt64 >>> ((i32 4).toInt64.toUInt64 &&& Int64.toUInt64 63)).toInt64) &&& 1085102592571150095) + (((((((v0 - (((v0).toUInt64 >>> ((i32 1).toInt64.toUInt64 &&& Int64.toUInt64 63)).toInt64 &&& 6148914691236517205)) &&& 3689348814741910323) + ((((v0 - (((v0).toUInt64 >>> ((i32 1).toInt64.toUInt64 &&& Int64.toUInt64 63)).toInt64 &&& 6148914691236517205))).toUInt64 >>> ((i32 2).toInt64.toUInt64 &&& Int64.toUInt64 63)).toInt64 &&& 3689348814741910323)) + (((((v0 - (((v0).toUInt64 >>> ((i32 1).toInt64.toUInt64 &&& Int64.toUInt64 63)).toInt64 &&& 6148914691236517205)) &&& 3689348814741910323) + ((((v0 - (((v0).toUInt64 >>> ((i32 1).toInt64.toUInt64 &&& Int64.toUInt64 63)).toInt64 &&& 6148914691236517205))).toUInt64 >>> ((i32 2).toInt64.toUInt64 &&& Int64.toUInt64 63)).toInt64 &&& 3689348814741910323))).toUInt64 >>> ((i32 4).toInt64.toUInt64 &&& Int64.toUInt64 63)).toInt64) &&& 1085102592571150095)).toUInt64 >>> ((i32 8).toInt64.toUInt64 &&& Int64.toUInt64 63)).toInt64)).toUInt64 >>> ((i32 16).toInt64.toUInt64 &&& Int64.toUInt64 63)).toInt64)).toUInt64 >>> ((i32 32).toInt64.toUInt64 &&& Int64.toUInt64 63)).toInt64))]) B.1 B.2.1 dC_J13_bitCount_95d88_54 rfl hl (by decide) rfl (fun ls hl => ?_)
  refine lv_lload_n B.1 B.2.1 dC_J13_bitCount_95d88_55 rfl (lv_at hl 0 rfl) ?_
  refine lv_l2i B.1 B.2.1 dC_J13_bitCount_95d88_56 rfl ?_
  refine W.eq (g2 := F0 m 57 ls [.int (i32 ((((((((((v0 - (((v0).toUInt64 >>> ((i32 1).toInt64.toUInt64 &&& Int64.toUInt64 63)).toInt64 &&& 6148914691236517205)) &&& 3689348814741910323) + ((((v0 - (((v0).toUInt64 >>> ((i32 1).toInt64.toUInt64 &&& Int64.toUInt64 63)).toInt64 &&& 6148914691236517205))).toUInt64 >>> ((i32 2).toInt64.toUInt64 &&& Int64.toUInt64 63)).toInt64 &&& 3689348814741910323)) + (((((v0 - (((v0).toUInt64 >>> ((i32 1).toInt64.toUInt64 &&& Int64.toUInt64 63)).toInt64 &&& 6148914691236517205)) &&& 3689348814741910323) + ((((v0 - (((v0).toUInt64 >>> ((i32 1).toInt64.toUInt64 &&& Int64.toUInt64 63)).toInt64 &&& 6148914691236517205))).toUInt64 >>> ((i32 2).toInt64.toUInt64 &&& Int64.toUInt64 63)).toInt64 &&& 3689348814741910323))).toUInt64 >>> ((i32 4).toInt64.toUInt64 &&& Int64.toUInt64 63)).toInt64) &&& 1085102592571150095) + (((((((v0 - (((v0).toUInt64 >>> ((i32 1).toInt64.toUInt64 &&& Int64.toUInt64 63)).toInt64 &&& 6148914691236517205)) &&& 3689348814741910323) + ((((v0 - (((v0).toUInt64 >>> ((i32 1).toInt64.toUInt64 &&& Int64.toUInt64 63)).toInt64 &&& 6148914691236517205))).toUInt64 >>> ((i32 2).toInt64.toUInt64 &&& Int64.toUInt64 63)).toInt64 &&& 3689348814741910323)) + (((((v0 - (((v0).toUInt64 >>> ((i32 1).toInt64.toUInt64 &&& Int64.toUInt64 63)).toInt64 &&& 6148914691236517205)) &&& 3689348814741910323) + ((((v0 - (((v0).toUInt64 >>> ((i32 1).toInt64.toUInt64 &&& Int64.toUInt64 63)).toInt64 &&& 6148914691236517205))).toUInt64 >>> ((i32 2).toInt64.toUInt64 &&& Int64.toUInt64 63)).toInt64 &&& 3689348814741910323))).toUInt64 >>> ((i32 4).toInt64.toUInt64 &&& Int64.toUInt64 63)).toInt64) &&& 1085102592571150095)).toUInt64 >>> ((i32 8).toInt64.toUInt64 &&& Int64.toUInt64 63)).toInt64) + ((((((((v0 - (((v0).toUInt64 >>> ((i32 1).toInt64.toUInt64 &&& Int64.toUInt64 63)).toInt64 &&& 6148914691236517205)) &&& 3689348814741910323) + ((((v0 - (((v0).toUInt64 >>> ((i32 1).toInt64.toUInt64 &&& Int64.toUInt64 63)).toInt64 &&& 6148914691236517205))).toUInt64 >>> ((i32 2).toInt64.toUInt64 &&& Int64.toUInt64 63)).toInt64 &&& 3689348814741910323)) + (((((v0 - (((v0).toUInt64 >>> ((i32 1).toInt64.toUInt64 &&& Int64.toUInt64 63)).toInt64 &&& 6148914691236517205)) &&& 3689348814741910323) + ((((v0 - (((v0).toUInt64 >>> ((i32 1).toInt64.toUInt64 &&& Int64.toUInt64 63)).toInt64 &&& 6148914691236517205))).toUInt64 >>> ((i32 2).toInt64.toUInt64 &&& Int64.toUInt64 63)).toInt64 &&& 3689348814741910323))).toUInt64 >>> ((i32 4).toInt64.toUInt64 &&& Int64.toUInt64 63)).toInt64) &&& 1085102592571150095) + (((((((v0 - (((v0).toUInt64 >>> ((i32 1).toInt64.toUInt64 &&& Int64.toUInt64 63)).toInt64 &&& 6148914691236517205)) &&& 3689348814741910323) + ((((v0 - (((v0).toUInt64 >>> ((i32 1).toInt64.toUInt64 &&& Int64.toUInt64 63)).toInt64 &&& 6148914691236517205))).toUInt64 >>> ((i32 2).toInt64.toUInt64 &&& Int64.toUInt64 63)).toInt64 &&& 3689348814741910323)) + (((((v0 - (((v0).toUInt64 >>> ((i32 1).toInt64.toUInt64 &&& Int64.toUInt64 63)).toInt64 &&& 6148914691236517205)) &&& 3689348814741910323) + ((((v0 - (((v0).toUInt64 >>> ((i32 1).toInt64.toUInt64 &&& Int64.toUInt64 63)).toInt64 &&& 6148914691236517205))).toUInt64 >>> ((i32 2).toInt64.toUInt64 &&& Int64.toUInt64 63)).toInt64 &&& 3689348814741910323))).toUInt64 >>> ((i32 4).toInt64.toUInt64 &&& Int64.toUInt64 63)).toInt64) &&& 1085102592571150095)).toUInt64 >>> ((i32 8).toInt64.toUInt64 &&& Int64.toUInt64 63)).toInt64)).toUInt64 >>> ((i32 16).toInt64.toUInt64 &&& Int64.toUInt64 63)).toInt64) + (((((((((v0 - (((v0).toUInt64 >>> ((i32 1).toInt64.toUInt64 &&& Int64.toUInt64 63)).toInt64 &&& 6148914691236517205)) &&& 3689348814741910323) + ((((v0 - (((v0).toUInt64 >>> ((i32 1).toInt64.toUInt64 &&& Int64.toUInt64 63)).toInt64 &&& 6148914691236517205))).toUInt64 >>> ((i32 2).toInt64.toUInt64 &&& Int64.toUInt64 63)).toInt64 &&& 3689348814741910323)) + (((((v0 - (((v0).toUInt64 >>> ((i32 1).toInt64.toUInt64 &&& Int64.toUInt64 63)).toInt64 &&& 6148914691236517205)) &&& 3689348814741910323) + ((((v0 - (((v0).toUInt64 >>> ((i32 1).toInt64.toUInt64 &&& Int64.toUInt64 63)).toInt64 &&& 6148914691236517205))).toUInt64 >>> ((i32 2).toInt64.toUInt64 &&& Int64.toUInt64 63)).toInt64 &&& 3689348814741910323))).toUInt64 >>> ((i32 4).toInt64.toUInt64 &&& Int64.toUInt64 63)).toInt64) &&& 1085102592571150095) + (((((((v0 - (((v0).toUInt64 >>> ((i32 1).toInt64.toUInt64 &&& Int64.toUInt64 63)).toInt64 &&& 6148914691236517205)) &&& 3689348814741910323) + ((((v0 - (((v0).toUInt64 >>> ((i32 1).toInt64.toUInt64 &&& Int64.toUInt64 63)).toInt64 &&& 6148914691236517205))).toUInt64 >>> ((i32 2).toInt64.toUInt64 &&& Int64.toUInt64 63)).toInt64 &&& 3689348814741910323)) + (((((v0 - (((v0).toUInt64 >>> ((i32 1).toInt64.toUInt64 &&& Int64.toUInt64 63)).toInt64 &&& 6148914691236517205)) &&& 3689348814741910323) + ((((v0 - (((v0).toUInt64 >>> ((i32 1).toInt64.toUInt64 &&& Int64.toUInt64 63)).toInt64 &&& 6148914691236517205))).toUInt64 >>> ((i32 2).toInt64.toUInt64 &&& Int64.toUInt64 63)).toInt64 &&& 3689348814741910323))).toUInt64 >>> ((i32 4).toInt64.toUInt64 &&& Int64.toUInt64 63)).toInt64) &&& 1085102592571150095)).toUInt64 >>> ((i32 8).toInt64.toUInt64 &&& Int64.toUInt64 63)).toInt64) + ((((((((v0 - (((v0).toUInt64 >>> ((i32 1).toInt64.toUInt64 &&& Int64.toUInt64 63)).toInt64 &&& 6148914691236517205)) &&& 3689348814741910323) + ((((v0 - (((v0).toUInt64 >>> ((i32 1).toInt64.toUInt64 &&& Int64.toUInt64 63)).toInt64 &&& 6148914691236517205))).toUInt64 >>> ((i32 2).toInt64.toUInt64 &&& Int64.toUInt64 63)).toInt64 &&& 3689348814741910323)) + (((((v0 - (((v0).toUInt64 >>> ((i32 1).toInt64.toUInt64 &&& Int64.toUInt64 63)).toInt64 &&& 6148914691236517205)) &&& 3689348814741910323) + ((((v0 - (((v0).toUInt64 >>> ((i32 1).toInt64.toUInt64 &&& Int64.toUInt64 63)).toInt64 &&& 6148914691236517205))).toUInt64 >>> ((i32 2).toInt64.toUInt64 &&& Int64.toUInt64 63)).toInt64 &&& 3689348814741910323))).toUInt64 >>> ((i32 4).toInt64.toUInt64 &&& Int64.toUInt64 63)).toInt64) &&& 1085102592571150095) + (((((((v0 - (((v0).toUInt64 >>> ((i32 1).toInt64.toUInt64 &&& Int64.toUInt64 63)).toInt64 &&& 6148914691236517205)) &&& 3689348814741910323) + ((((v0 - (((v0).toUInt64 >>> ((i32 1).toInt64.toUInt64 &&& Int64.toUInt64 63)).toInt64 &&& 6148914691236517205))).toUInt64 >>> ((i32 2).toInt64.toUInt64 &&& Int64.toUInt64 63)).toInt64 &&& 3689348814741910323)) + (((((v0 - (((v0).toUInt64 >>> ((i32 1).toInt64.toUInt64 &&& Int64.toUInt64 63)).toInt64 &&& 6148914691236517205)) &&& 3689348814741910323) + ((((v0 - (((v0).toUInt64 >>> ((i32 1).toInt64.toUInt64 &&& Int64.toUInt64 63)).toInt64 &&& 6148914691236517205))).toUInt64 >>> ((i32 2).toInt64.toUInt64 &&& Int64.toUInt64 63)).toInt64 &&& 3689348814741910323))).toUInt64 >>> ((i32 4).toInt64.toUInt64 &&& Int64.toUInt64 63)).toInt64) &&& 1085102592571150095)).toUInt64 >>> ((i32 8).toInt64.toUInt64 &&& Int64.toUInt64 63)).toInt64)).toUInt64 >>> ((i32 16).toInt64.toUInt64 &&& Int64.toUInt64 63)).toInt64)).toUInt64 >>> ((i32 32).toInt64.toUInt64 &&& Int64.toUInt64 63)).toInt64)).toInt32.toInt))]) (by simp only [i32_self]) ?_
  refine lv_bipush (v := i32 127) B.1 B.2.1 dC_J13_bitCount_95d88_57 (by decide) ?_
  refine lv_iand B.1 B.2.1 dC_J13_bitCount_95d88_59 ?_
  refine W.eq (g2 := F0 m 60 ls [.int (i32 (andI ((((((((((v0 - (((v0).toUInt64 >>> ((i32 1).toInt64.toUInt64 &&& Int64.toUInt64 63)).toInt64 &&& 6148914691236517205)) &&& 3689348814741910323) + ((((v0 - (((v0).toUInt64 >>> ((i32 1).toInt64.toUInt64 &&& Int64.toUInt64 63)).toInt64 &&& 6148914691236517205))).toUInt64 >>> ((i32 2).toInt64.toUInt64 &&& Int64.toUInt64 63)).toInt64 &&& 3689348814741910323)) + (((((v0 - (((v0).toUInt64 >>> ((i32 1).toInt64.toUInt64 &&& Int64.toUInt64 63)).toInt64 &&& 6148914691236517205)) &&& 3689348814741910323) + ((((v0 - (((v0).toUInt64 >>> ((i32 1).toInt64.toUInt64 &&& Int64.toUInt64 63)).toInt64 &&& 6148914691236517205))).toUInt64 >>> ((i32 2).toInt64.toUInt64 &&& Int64.toUInt64 63)).toInt64 &&& 3689348814741910323))).toUInt64 >>> ((i32 4).toInt64.toUInt64 &&& Int64.toUInt64 63)).toInt64) &&& 1085102592571150095) + (((((((v0 - (((v0).toUInt64 >>> ((i32 1).toInt64.toUInt64 &&& Int64.toUInt64 63)).toInt64 &&& 6148914691236517205)) &&& 3689348814741910323) + ((((v0 - (((v0).toUInt64 >>> ((i32 1).toInt64.toUInt64 &&& Int64.toUInt64 63)).toInt64 &&& 6148914691236517205))).toUInt64 >>> ((i32 2).toInt64.toUInt64 &&& Int64.toUInt64 63)).toInt64 &&& 3689348814741910323)) + (((((v0 - (((v0).toUInt64 >>> ((i32 1).toInt64.toUInt64 &&& Int64.toUInt64 63)).toInt64 &&& 6148914691236517205)) &&& 3689348814741910323) + ((((v0 - (((v0).toUInt64 >>> ((i32 1).toInt64.toUInt64 &&& Int64.toUInt64 63)).toInt64 &&& 6148914691236517205))).toUInt64 >>> ((i32 2).toInt64.toUInt64 &&& Int64.toUInt64 63)).toInt64 &&& 3689348814741910323))).toUInt64 >>> ((i32 4).toInt64.toUInt64 &&& Int64.toUInt64 63)).toInt64) &&& 1085102592571150095)).toUInt64 >>> ((i32 8).toInt64.toUInt64 &&& Int64.toUInt64 63)).toInt64) + ((((((((v0 - (((v0).toUInt64 >>> ((i32 1).toInt64.toUInt64 &&& Int64.toUInt64 63)).toInt64 &&& 6148914691236517205)) &&& 3689348814741910323) + ((((v0 - (((v0).toUInt64 >>> ((i32 1).toInt64.toUInt64 &&& Int64.toUInt64 63)).toInt64 &&& 6148914691236517205))).toUInt64 >>> ((i32 2).toInt64.toUInt64 &&& Int64.toUInt64 63)).toInt64 &&& 3689348814741910323)) + (((((v0 - (((v0).toUInt64 >>> ((i32 1).toInt64.toUInt64 &&& Int64.toUInt64 63)).toInt64 &&& 6148914691236517205)) &&& 3689348814741910323) + ((((v0 - (((v0).toUInt64 >>> ((i32 1).toInt64.toUInt64 &&& Int64.toUInt64 63)).toInt64 &&& 6148914691236517205))).toUInt64 >>> ((i32 2).toInt64.toUInt64 &&& Int64.toUInt64 63)).toInt64 &&& 3689348814741910323))).toUInt64 >>> ((i32 4).toInt64.toUInt64 &&& Int64.toUInt64 63)).toInt64) &&& 1085102592571150095) + (((((((v0 - (((v0).toUInt64 >>> ((i32 1).toInt64.toUInt64 &&& Int64.toUInt64 63)).toInt64 &&& 6148914691236517205)) &&& 3689348814741910323) + ((((v0 - (((v0).toUInt64 >>> ((i32 1).toInt64.toUInt64 &&& Int64.toUInt64 63)).toInt64 &&& 6148914691236517205))).toUInt64 >>> ((i32 2).toInt64.toUInt64 &&& Int64.toUInt64 63)).toInt64 &&& 3689348814741910323)) + (((((v0 - (((v0).toUInt64 >>> ((i32 1).toInt64.toUInt64 &&& Int64.toUInt64 63)).toInt64 &&& 6148914691236517205)) &&& 3689348814741910323) + ((((v0 - (((v0).toUInt64 >>> ((i32 1).toInt64.toUInt64 &&& Int64.toUInt64 63)).toInt64 &&& 6148914691236517205))).toUInt64 >>> ((i32 2).toInt64.toUInt64 &&& Int64.toUInt64 63)).toInt64 &&& 3689348814741910323))).toUInt64 >>> ((i32 4).toInt64.toUInt64 &&& Int64.toUInt64 63)).toInt64) &&& 1085102592571150095)).toUInt64 >>> ((i32 8).toInt64.toUInt64 &&& Int64.toUInt64 63)).toInt64)).toUInt64 >>> ((i32 16).toInt64.toUInt64 &&& Int64.toUInt64 63)).toInt64) + (((((((((v0 - (((v0).toUInt64 >>> ((i32 1).toInt64.toUInt64 &&& Int64.toUInt64 63)).toInt64 &&& 6148914691236517205)) &&& 3689348814741910323) + ((((v0 - (((v0).toUInt64 >>> ((i32 1).toInt64.toUInt64 &&& Int64.toUInt64 63)).toInt64 &&& 6148914691236517205))).toUInt64 >>> ((i32 2).toInt64.toUInt64 &&& Int64.toUInt64 63)).toInt64 &&& 3689348814741910323)) + (((((v0 - (((v0).toUInt64 >>> ((i32 1).toInt64.toUInt64 &&& Int64.toUInt64 63)).toInt64 &&& 6148914691236517205)) &&& 3689348814741910323) + ((((v0 - (((v0).toUInt64 >>> ((i32 1).toInt64.toUInt64 &&& Int64.toUInt64 63)).toInt64 &&& 6148914691236517205))).toUInt64 >>> ((i32 2).toInt64.toUInt64 &&& Int64.toUInt64 63)).toInt64 &&& 3689348814741910323))).toUInt64 >>> ((i32 4).toInt64.toUInt64 &&& Int64.toUInt64 63)).toInt64) &&& 1085102592571150095) + (((((((v0 - (((v0).toUInt64 >>> ((i32 1).toInt64.toUInt64 &&& Int64.toUInt64 63)).toInt64 &&& 6148914691236517205)) &&& 3689348814741910323) + ((((v0 - (((v0).toUInt64 >>> ((i32 1).toInt64.toUInt64 &&& Int64.toUInt64 63)).toInt64 &&& 6148914691236517205))).toUInt64 >>> ((i32 2).toInt64.toUInt64 &&& Int64.toUInt64 63)).toInt64 &&& 3689348814741910323)) + (((((v0 - (((v0).toUInt64 >>> ((i32 1).toInt64.toUInt64 &&& Int64.toUInt64 63)).toInt64 &&& 6148914691236517205)) &&& 3689348814741910323) + ((((v0 - (((v0).toUInt64 >>> ((i32 1).toInt64.toUInt64 &&& Int64.toUInt64 63)).toInt64 &&& 6148914691236517205))).toUInt64 >>> ((i32 2).toInt64.toUInt64 &&& Int64.toUInt64 63)).toInt64 &&& 3689348814741910323))).toUInt64 >>> ((i32 4).toInt64.toUInt64 &&& Int64.toUInt64 63)).toInt64) &&& 1085102592571150095)).toUInt64 >>> ((i32 8).toInt64.toUInt64 &&& Int64.toUInt64 63)).toInt64) + ((((((((v0 - (((v0).toUInt64 >>> ((i32 1).toInt64.toUInt64 &&& Int64.toUInt64 63)).toInt64 &&& 6148914691236517205)) &&& 3689348814741910323) + ((((v0 - (((v0).toUInt64 >>> ((i32 1).toInt64.toUInt64 &&& Int64.toUInt64 63)).toInt64 &&& 6148914691236517205))).toUInt64 >>> ((i32 2).toInt64.toUInt64 &&& Int64.toUInt64 63)).toInt64 &&& 3689348814741910323)) + (((((v0 - (((v0).toUInt64 >>> ((i32 1).toInt64.toUInt64 &&& Int64.toUInt64 63)).toInt64 &&& 6148914691236517205)) &&& 3689348814741910323) + ((((v0 - (((v0).toUInt64 >>> ((i32 1).toInt64.toUInt64 &&& Int64.toUInt64 63)).toInt64 &&& 6148914691236517205))).toUInt64 >>> ((i32 2).toInt64.toUInt64 &&& Int64.toUInt64 63)).toInt64 &&& 3689348814741910323))).toUInt64 >>> ((i32 4).toInt64.toUInt64 &&& Int64.toUInt64 63)).toInt64) &&& 1085102592571150095) + (((((((v0 - (((v0).toUInt64 >>> ((i32 1).toInt64.toUInt64 &&& Int64.toUInt64 63)).toInt64 &&& 6148914691236517205)) &&& 3689348814741910323) + ((((v0 - (((v0).toUInt64 >>> ((i32 1).toInt64.toUInt64 &&& Int64.toUInt64 63)).toInt64 &&& 6148914691236517205))).toUInt64 >>> ((i32 2).toInt64.toUInt64 &&& Int64.toUInt64 63)).toInt64 &&& 3689348814741910323)) + (((((v0 - (((v0).toUInt64 >>> ((i32 1).toInt64.toUInt64 &&& Int64.toUInt64 63)).toInt64 &&& 6148914691236517205)) &&& 3689348814741910323) + ((((v0 - (((v0).toUInt64 >>> ((i32 1).toInt64.toUInt64 &&& Int64.toUInt64 63)).toInt64 &&& 6148914691236517205))).toUInt64 >>> ((i32 2).toInt64.toUInt64 &&& Int64.toUInt64 63)).toInt64 &&& 3689348814741910323))).toUInt64 >>> ((i32 4).toInt64.toUInt64 &&& Int64.toUInt64 63)).toInt64) &&& 1085102592571150095)).toUInt64 >>> ((i32 8).toInt64.toUInt64 &&& Int64.toUInt64 63)).toInt64)).toUInt64 >>> ((i32 16).toInt64.toUInt64 &&& Int64.toUInt64 63)).toInt64)).toUInt64 >>> ((i32 32).toInt64.toUInt64 &&& Int64.toUInt64 63)).toInt64)).toInt32.toInt) 127))]) (by simp only [andI, orI, shlI, shrI, i32_self]) ?_
  exact hQ _ _ _ _ _ _ (rng_andI _ _) dC_J13_bitCount_95d88_60 hH hc h hGσ hYσ hE
theorem okC_J13_bitCount_95d88 (hl0 : l.stackTraces = false) (hT : TyC cA tys) {Q : Sg → Int → Prop} {X : Sg → String → Prop} (σ : Sg) (v0 : Int64) (hG : RG σ) (hY : TY σ) (h : wpC_J13_bitCount_95d88 v0 σ Q X) : Ok l D cA tys A yJ13_bitCount_95d88 (.code yJ13_bitCount_95d88 cJ13_bitCount_95d88 2 (some .int)) 0 0 [.long v0] σ (QcI σ Q) (QxC σ X) := by
  unfold wpC_J13_bitCount_95d88 at h
  exact oc_IF hl0 (by decide +kernel) (by exact Nat.le_of_ble_eq_true rfl) hT (fun p e R s m args below meth c K hQ hX hTh H locs ls hH hl hc => aC_J13_bitCount_95d88_0 K hQ hX hTh σ v0 h hG hY (Ext.rfl' σ) H locs ls hH (lv_sub (l' := [(0, .long v0)]) hl [0] rfl) hc)
theorem dC_J13_compare_74951_0 : decode cJ13_compare_74951 0 = .ok (.lload_n 0, 1) := by decide +kernel
theorem dC_J13_compare_74951_1 : decode cJ13_compare_74951 1 = .ok (.lload_n 2, 1) := by decide +kernel
theorem dC_J13_compare_74951_2 : decode cJ13_compare_74951 2 = .ok (.lcmp, 1) := by decide +kernel
theorem dC_J13_compare_74951_3 : decode cJ13_compare_74951 3 = .ok (.ifCond .ge 7, 3) := by decide +kernel
theorem dC_J13_compare_74951_6 : decode cJ13_compare_74951 6 = .ok (.iconst (-1), 1) := by decide +kernel
theorem dC_J13_compare_74951_7 : decode cJ13_compare_74951 7 = .ok (.goto 14, 3) := by decide +kernel
theorem dC_J13_compare_74951_10 : decode cJ13_compare_74951 10 = .ok (.lload_n 0, 1) := by decide +kernel
theorem dC_J13_compare_74951_11 : decode cJ13_compare_74951 11 = .ok (.lload_n 2, 1) := by decide +kernel
theorem dC_J13_compare_74951_12 : decode cJ13_compare_74951 12 = .ok (.lcmp, 1) := by decide +kernel
theorem dC_J13_compare_74951_13 : decode cJ13_compare_74951 13 = .ok (.ifCond .ne 7, 3) := by decide +kernel
theorem dC_J13_compare_74951_16 : decode cJ13_compare_74951 16 = .ok (.iconst 0, 1) := by decide +kernel
theorem dC_J13_compare_74951_17 : decode cJ13_compare_74951 17 = .ok (.goto 4, 3) := by decide +kernel
theorem dC_J13_compare_74951_20 : decode cJ13_compare_74951 20 = .ok (.iconst 1, 1) := by decide +kernel
theorem dC_J13_compare_74951_21 : decode cJ13_compare_74951 21 = .ok (.ireturn, 1) := by decide +kernel
set_option maxRecDepth 20000 in
theorem aC_J13_compare_74951_21 {Q : Sg → Int → Prop} {X : Sg → String → Prop} (K : MD l R p s m args c cJ13_compare_74951 4 yJ13_compare_74951.cls D cA tys A n0 s0 0 0 []) (hQ : CQI p l e R s m args below meth c cJ13_compare_74951 D cA A n0 s0 QM σi Q) (hX : CX p l e R s m args below meth c 4 D cA A n0 s0 QM σi X) (hTh : CT p l e R s m args below meth c cJ13_compare_74951 4 D cA A n0 s0 QM σi yJ13_compare_74951.cls X) : ∀ (σ : Sg) (u0 : Int) (gu0 : rng u0), wC_J13_compare_74951_21 Q X σ u0 → RG σ → TY σ → Ext σi σ → JJ p l e R s m args below meth c 4 D cA A n0 s0 QM σ 21 [] [.int (i32 u0)] := by
  intro σ u0 gu0 h hGσ hYσ hE H locs ls hH hl hc
  have B := K.1
  have hl9 := K.2.2.2.2.2.2
  unfold wC_J13_compare_74951_21 at h
  exact hQ _ _ _ _ _ _ gu0 dC_J13_compare_74951_21 hH hc h hGσ hYσ hE
set_option maxRecDepth 20000 in
theorem aC_J13_compare_74951_20 {Q : Sg → Int → Prop} {X : Sg → String → Prop} (K : MD l R p s m args c cJ13_compare_74951 4 yJ13_compare_74951.cls D cA tys A n0 s0 0 0 []) (hQ : CQI p l e R s m args below meth c cJ13_compare_74951 D cA A n0 s0 QM σi Q) (hX : CX p l e R s m args below meth c 4 D cA A n0 s0 QM σi X) (hTh : CT p l e R s m args below meth c cJ13_compare_74951 4 D cA A n0 s0 QM σi yJ13_compare_74951.cls X) : ∀ (σ : Sg), wC_J13_compare_74951_20 Q X σ → RG σ → TY σ → Ext σi σ → JJ p l e R s m args below meth c 4 D cA A n0 s0 QM σ 20 [] [] := by
  intro σ h hGσ hYσ hE H locs ls hH hl hc
  have B := K.1
  have hl9 := K.2.2.2.2.2.2
  unfold wC_J13_compare_74951_20 at h
  refine lv_iconst (v := i32 1) B.1 B.2.1 dC_J13_compare_74951_20 (by decide) ?_
  exact aC_J13_compare_74951_21 K hQ hX hTh _ _ (by unfold rng; omega) h hGσ hYσ hE _ _ _ hH (lv_sub (l' := []) hl [] rfl) hc
set_option maxRecDepth 20000 in
theorem aC_J13_compare_74951_16 {Q : Sg → Int → Prop} {X : Sg → String → Prop} (K : MD l R p s m args c cJ13_compare_74951 4 yJ13_compare_74951.cls D cA tys A n0 s0 0 0 []) (hQ : CQI p l e R s m args below meth c cJ13_compare_74951 D cA A n0 s0 QM σi Q) (hX : CX p l e R s m args below meth c 4 D cA A n0 s0 QM σi X) (hTh : CT p l e R s m args below meth c cJ13_compare_74951 4 D cA A n0 s0 QM σi yJ13_compare_74951.cls X) : ∀ (σ : Sg), wC_J13_compare_74951_16 Q X σ → RG σ → TY σ → Ext σi σ → JJ p l e R s m args below meth c 4 D cA A n0 s0 QM σ 16 [] [] := by
  intro σ h hGσ hYσ hE H locs ls hH hl hc
  have B := K.1
  have hl9 := K.2.2.2.2.2.2
  unfold wC_J13_compare_74951_16 at h
  refine lv_iconst (v := i32 0) B.1 B.2.1 dC_J13_compare_74951_16 (by decide) ?_
  refine lv_goto (tgt := 21) B.1 B.2.1 dC_J13_compare_74951_17 (by decide) ?_
  exact aC_J13_compare_74951_21 K hQ hX hTh _ _ (by unfold rng; omega) h hGσ hYσ hE _ _ _ hH (lv_sub (l' := []) hl [] rfl) hc
set_option maxRecDepth 20000 in
theorem aC_J13_compare_74951_10 {Q : Sg → Int → Prop} {X : Sg → String → Prop} (K : MD l R p s m args c cJ13_compare_74951 4 yJ13_compare_74951.cls D cA tys A n0 s0 0 0 []) (hQ : CQI p l e R s m args below meth c cJ13_compare_74951 D cA A n0 s0 QM σi Q) (hX : CX p l e R s m args below meth c 4 D cA A n0 s0 QM σi X) (hTh : CT p l e R s m args below meth c cJ13_compare_74951 4 D cA A n0 s0 QM σi yJ13_compare_74951.cls X) : ∀ (σ : Sg) (v0 : Int64) (v2 : Int64), wC_J13_compare_74951_10 Q X σ v0 v2 → RG σ → TY σ → Ext σi σ → JJ p l e R s m args below meth c 4 D cA A n0 s0 QM σ 10 [(0, .long v0), (2, .long v2)] [] := by
  intro σ v0 v2 h hGσ hYσ hE H locs ls hH hl hc
  have B := K.1
  have hl9 := K.2.2.2.2.2.2
  unfold wC_J13_compare_74951_10 at h
  refine lv_lload_n B.1 B.2.1 dC_J13_compare_74951_10 rfl (lv_at hl 0 rfl) ?_
  refine lv_lload_n B.1 B.2.1 dC_J13_compare_74951_11 rfl (lv_at hl 1 rfl) ?_
  refine W.lcmp B.1 B.2.1 dC_J13_compare_74951_12 ?_
  refine lv_if_ne (tgt := 20) B.1 B.2.1 dC_J13_compare_74951_13 (by decide) (fun h9 => ?_) (fun h9 => ?_)
  · rw [if_pos (fun q => h9 ((lg_cmp_eq _ _).mpr q))] at h
    exact aC_J13_compare_74951_20 K hQ hX hTh _ h hGσ hYσ hE _ _ _ hH (lv_sub (l' := []) hl [] rfl) hc
  · rw [if_neg (fun q => q ((lg_cmp_eq _ _).mp h9))] at h
    exact aC_J13_compare_74951_16 K hQ hX hTh _ h hGσ hYσ hE _ _ _ hH (lv_sub (l' := []) hl [] rfl) hc
set_option maxRecDepth 20000 in
theorem aC_J13_compare_74951_6 {Q : Sg → Int → Prop} {X : Sg → String → Prop} (K : MD l R p s m args c cJ13_compare_74951 4 yJ13_compare_74951.cls D cA tys A n0 s0 0 0 []) (hQ : CQI p l e R s m args below meth c cJ13_compare_74951 D cA A n0 s0 QM σi Q) (hX : CX p l e R s m args below meth c 4 D cA A n0 s0 QM σi X) (hTh : CT p l e R s m args below meth c cJ13_compare_74951 4 D cA A n0 s0 QM σi yJ13_compare_74951.cls X) : ∀ (σ : Sg), wC_J13_compare_74951_6 Q X σ → RG σ → TY σ → Ext σi σ → JJ p l e R s m args below meth c 4 D cA A n0 s0 QM σ 6 [] [] := by
  intro σ h hGσ hYσ hE H locs ls hH hl hc
  have B := K.1
  have hl9 := K.2.2.2.2.2.2
  unfold wC_J13_compare_74951_6 at h
  refine lv_iconst (v := i32 (-1)) B.1 B.2.1 dC_J13_compare_74951_6 (by decide) ?_
  refine lv_goto (tgt := 21) B.1 B.2.1 dC_J13_compare_74951_7 (by decide) ?_
  exact aC_J13_compare_74951_21 K hQ hX hTh _ _ (by unfold rng; omega) h hGσ hYσ hE _ _ _ hH (lv_sub (l' := []) hl [] rfl) hc
set_option maxRecDepth 20000 in
theorem aC_J13_compare_74951_0 {Q : Sg → Int → Prop} {X : Sg → String → Prop} (K : MD l R p s m args c cJ13_compare_74951 4 yJ13_compare_74951.cls D cA tys A n0 s0 0 0 []) (hQ : CQI p l e R s m args below meth c cJ13_compare_74951 D cA A n0 s0 QM σi Q) (hX : CX p l e R s m args below meth c 4 D cA A n0 s0 QM σi X) (hTh : CT p l e R s m args below meth c cJ13_compare_74951 4 D cA A n0 s0 QM σi yJ13_compare_74951.cls X) : ∀ (σ : Sg) (v0 : Int64) (v2 : Int64), wC_J13_compare_74951_0 Q X σ v0 v2 → RG σ → TY σ → Ext σi σ → JJ p l e R s m args below meth c 4 D cA A n0 s0 QM σ 0 [(0, .long v0), (2, .long v2)] [] := by
  intro σ v0 v2 h hGσ hYσ hE H locs ls hH hl hc
  have B := K.1
  have hl9 := K.2.2.2.2.2.2
  unfold wC_J13_compare_74951_0 at h
  refine lv_lload_n B.1 B.2.1 dC_J13_compare_74951_0 rfl (lv_at hl 0 rfl) ?_
  refine lv_lload_n B.1 B.2.1 dC_J13_compare_74951_1 rfl (lv_at hl 1 rfl) ?_
  refine W.lcmp B.1 B.2.1 dC_J13_compare_74951_2 ?_
  refine lv_if_ge (tgt := 10) B.1 B.2.1 dC_J13_compare_74951_3 (by decide) (fun h9 => ?_) (fun h9 => ?_)
  · rw [if_pos ((lg_cmp_ge _ _).mp h9)] at h
    exact aC_J13_compare_74951_10 K hQ hX hTh _ _ _ h hGσ hYσ hE _ _ _ hH (lv_sub (l' := [(0, .long v0), (2, .long v2)]) hl [0, 1] rfl) hc
  · rw [if_neg (fun q => h9 ((lg_cmp_ge _ _).mpr q))] at h
    exact aC_J13_compare_74951_6 K hQ hX hTh _ h hGσ hYσ hE _ _ _ hH (lv_sub (l' := []) hl [] rfl) hc
theorem okC_J13_compare_74951 (hl0 : l.stackTraces = false) (hT : TyC cA tys) {Q : Sg → Int → Prop} {X : Sg → String → Prop} (σ : Sg) (v0 : Int64) (v2 : Int64) (hG : RG σ) (hY : TY σ) (h : wpC_J13_compare_74951 v0 v2 σ Q X) : Ok l D cA tys A yJ13_compare_74951 (.code yJ13_compare_74951 cJ13_compare_74951 4 (some .int)) 0 0 [.long v0, .long v2] σ (QcI σ Q) (QxC σ X) := by
  unfold wpC_J13_compare_74951 at h
  exact oc_IF hl0 (by decide +kernel) (by exact Nat.le_of_ble_eq_true rfl) hT (fun p e R s m args below meth c K hQ hX hTh H locs ls hH hl hc => aC_J13_compare_74951_0 K hQ hX hTh σ v0 v2 h hG hY (Ext.rfl' σ) H locs ls hH (lv_sub (l' := [(0, .long v0), (2, .long v2)]) hl [0, 1] rfl) hc)
theorem dC_J9_min_7cf53_0 : decode cJ9_min_7cf53 0 = .ok (.iload_n 0, 1) := by decide +kernel
theorem dC_J9_min_7cf53_1 : decode cJ9_min_7cf53 1 = .ok (.iload_n 1, 1) := by decide +kernel
theorem dC_J9_min_7cf53_2 : decode cJ9_min_7cf53 2 = .ok (.if_icmp .gt 7, 3) := by decide +kernel
theorem dC_J9_min_7cf53_5 : decode cJ9_min_7cf53 5 = .ok (.iload_n 0, 1) := by decide +kernel
theorem dC_J9_min_7cf53_6 : decode cJ9_min_7cf53 6 = .ok (.goto 4, 3) := by decide +kernel
theorem dC_J9_min_7cf53_9 : decode cJ9_min_7cf53 9 = .ok (.iload_n 1, 1) := by decide +kernel
theorem dC_J9_min_7cf53_10 : decode cJ9_min_7cf53 10 = .ok (.ireturn, 1) := by decide +kernel
set_option maxRecDepth 20000 in
theorem aC_J9_min_7cf53_10 {Q : Sg → Int → Prop} {X : Sg → String → Prop} (K : MD l R p s m args c cJ9_min_7cf53 2 yJ9_min_7cf53.cls D cA tys A n0 s0 0 0 []) (hQ : CQI p l e R s m args below meth c cJ9_min_7cf53 D cA A n0 s0 QM σi Q) (hX : CX p l e R s m args below meth c 2 D cA A n0 s0 QM σi X) (hTh : CT p l e R s m args below meth c cJ9_min_7cf53 2 D cA A n0 s0 QM σi yJ9_min_7cf53.cls X) : ∀ (σ : Sg) (u0 : Int) (gu0 : rng u0), wC_J9_min_7cf53_10 Q X σ u0 → RG σ → TY σ → Ext σi σ → JJ p l e R s m args below meth c 2 D cA A n0 s0 QM σ 10 [] [.int (i32 u0)] := by
  intro σ u0 gu0 h hGσ hYσ hE H locs ls hH hl hc
  have B := K.1
  have hl9 := K.2.2.2.2.2.2
  unfold wC_J9_min_7cf53_10 at h
  exact hQ _ _ _ _ _ _ gu0 dC_J9_min_7cf53_10 hH hc h hGσ hYσ hE
set_option maxRecDepth 20000 in
theorem aC_J9_min_7cf53_9 {Q : Sg → Int → Prop} {X : Sg → String → Prop} (K : MD l R p s m args c cJ9_min_7cf53 2 yJ9_min_7cf53.cls D cA tys A n0 s0 0 0 []) (hQ : CQI p l e R s m args below meth c cJ9_min_7cf53 D cA A n0 s0 QM σi Q) (hX : CX p l e R s m args below meth c 2 D cA A n0 s0 QM σi X) (hTh : CT p l e R s m args below meth c cJ9_min_7cf53 2 D cA A n0 s0 QM σi yJ9_min_7cf53.cls X) : ∀ (σ : Sg) (v1 : Int) (g1 : rng v1), wC_J9_min_7cf53_9 Q X σ v1 → RG σ → TY σ → Ext σi σ → JJ p l e R s m args below meth c 2 D cA A n0 s0 QM σ 9 [(1, .int (i32 v1))] [] := by
  intro σ v1 g1 h hGσ hYσ hE H locs ls hH hl hc
  have B := K.1
  have hl9 := K.2.2.2.2.2.2
  unfold wC_J9_min_7cf53_9 at h
  refine lv_iload_n B.1 B.2.1 dC_J9_min_7cf53_9 rfl (lv_at hl 0 rfl) ?_
  exact aC_J9_min_7cf53_10 K hQ hX hTh _ _ g1 h hGσ hYσ hE _ _ _ hH (lv_sub (l' := []) hl [] rfl) hc
set_option maxRecDepth 20000 in
theorem aC_J9_min_7cf53_5 {Q : Sg → Int → Prop} {X : Sg → String → Prop} (K : MD l R p s m args c cJ9_min_7cf53 2 yJ9_min_7cf53.cls D cA tys A n0 s0 0 0 []) (hQ : CQI p l e R s m args below meth c cJ9_min_7cf53 D cA A n0 s0 QM σi Q) (hX : CX p l e R s m args below meth c 2 D cA A n0 s0 QM σi X) (hTh : CT p l e R s m args below meth c cJ9_min_7cf53 2 D cA A n0 s0 QM σi yJ9_min_7cf53.cls X) : ∀ (σ : Sg) (v0 : Int) (g0 : rng v0), wC_J9_min_7cf53_5 Q X σ v0 → RG σ → TY σ → Ext σi σ → JJ p l e R s m args below meth c 2 D cA A n0 s0 QM σ 5 [(0, .int (i32 v0))] [] := by
  intro σ v0 g0 h hGσ hYσ hE H locs ls hH hl hc
  have B := K.1
  have hl9 := K.2.2.2.2.2.2
  unfold wC_J9_min_7cf53_5 at h
  refine lv_iload_n B.1 B.2.1 dC_J9_min_7cf53_5 rfl (lv_at hl 0 rfl) ?_
  refine lv_goto (tgt := 10) B.1 B.2.1 dC_J9_min_7cf53_6 (by decide) ?_
  exact aC_J9_min_7cf53_10 K hQ hX hTh _ _ g0 h hGσ hYσ hE _ _ _ hH (lv_sub (l' := []) hl [] rfl) hc
set_option maxRecDepth 20000 in
theorem aC_J9_min_7cf53_0 {Q : Sg → Int → Prop} {X : Sg → String → Prop} (K : MD l R p s m args c cJ9_min_7cf53 2 yJ9_min_7cf53.cls D cA tys A n0 s0 0 0 []) (hQ : CQI p l e R s m args below meth c cJ9_min_7cf53 D cA A n0 s0 QM σi Q) (hX : CX p l e R s m args below meth c 2 D cA A n0 s0 QM σi X) (hTh : CT p l e R s m args below meth c cJ9_min_7cf53 2 D cA A n0 s0 QM σi yJ9_min_7cf53.cls X) : ∀ (σ : Sg) (v0 : Int) (v1 : Int) (g0 : rng v0) (g1 : rng v1), wC_J9_min_7cf53_0 Q X σ v0 v1 → RG σ → TY σ → Ext σi σ → JJ p l e R s m args below meth c 2 D cA A n0 s0 QM σ 0 [(0, .int (i32 v0)), (1, .int (i32 v1))] [] := by
  intro σ v0 v1 g0 g1 h hGσ hYσ hE H locs ls hH hl hc
  have B := K.1
  have hl9 := K.2.2.2.2.2.2
  unfold wC_J9_min_7cf53_0 at h
  refine lv_iload_n B.1 B.2.1 dC_J9_min_7cf53_0 rfl (lv_at hl 0 rfl) ?_
  refine lv_iload_n B.1 B.2.1 dC_J9_min_7cf53_1 rfl (lv_at hl 1 rfl) ?_
  refine lv_icmp_gt (tgt := 9) B.1 B.2.1 dC_J9_min_7cf53_2 (by decide) (fun h9 => ?_) (fun h9 => ?_)
  · rw [if_pos ((i32_lt g1 g0).mp h9)] at h
    exact aC_J9_min_7cf53_9 K hQ hX hTh _ _ g1 h hGσ hYσ hE _ _ _ hH (lv_sub (l' := [(1, .int (i32 v1))]) hl [1] rfl) hc
  · rw [if_neg (fun q => h9 ((i32_lt g1 g0).mpr q))] at h
    exact aC_J9_min_7cf53_5 K hQ hX hTh _ _ g0 h hGσ hYσ hE _ _ _ hH (lv_sub (l' := [(0, .int (i32 v0))]) hl [0] rfl) hc
theorem okC_J9_min_7cf53 (hl0 : l.stackTraces = false) (hT : TyC cA tys) {Q : Sg → Int → Prop} {X : Sg → String → Prop} (σ : Sg) (v0 : Int) (v1 : Int) (g0 : rng v0) (g1 : rng v1) (hG : RG σ) (hY : TY σ) (h : wpC_J9_min_7cf53 v0 v1 σ Q X) : Ok l D cA tys A yJ9_min_7cf53 (.code yJ9_min_7cf53 cJ9_min_7cf53 2 (some .int)) 0 0 [.int (i32 v0), .int (i32 v1)] σ (QcI σ Q) (QxC σ X) := by
  unfold wpC_J9_min_7cf53 at h
  exact oc_IF hl0 (by decide +kernel) (by exact Nat.le_of_ble_eq_true rfl) hT (fun p e R s m args below meth c K hQ hX hTh H locs ls hH hl hc => aC_J9_min_7cf53_0 K hQ hX hTh σ v0 v1 g0 g1 h hG hY (Ext.rfl' σ) H locs ls hH (lv_sub (l' := [(0, .int (i32 v0)), (1, .int (i32 v1))]) hl [0, 1] rfl) hc)
theorem dC_J7_copyOf_59c91_0 : decode cJ7_copyOf_59c91 0 = .ok (.iload_n 1, 1) := by decide +kernel
theorem dC_J7_copyOf_59c91_1 : decode cJ7_copyOf_59c91 1 = .ok (.aload_n 0, 1) := by decide +kernel
theorem dC_J7_copyOf_59c91_2 : decode cJ7_copyOf_59c91 2 = .ok (.arraylength, 1) := by decide +kernel
theorem dC_J7_copyOf_59c91_3 : decode cJ7_copyOf_59c91 3 = .ok (.if_icmp .ne 11, 3) := by decide +kernel
theorem dC_J7_copyOf_59c91_14 : decode cJ7_copyOf_59c91 14 = .ok (.iload_n 1, 1) := by decide +kernel
theorem dC_J7_copyOf_59c91_15 : decode cJ7_copyOf_59c91 15 = .ok (.newarray .int, 2) := by decide +kernel
theorem dC_J7_copyOf_59c91_17 : decode cJ7_copyOf_59c91 17 = .ok (.astore_n 2, 1) := by decide +kernel
theorem dC_J7_copyOf_59c91_18 : decode cJ7_copyOf_59c91 18 = .ok (.aload_n 0, 1) := by decide +kernel
theorem dC_J7_copyOf_59c91_19 : decode cJ7_copyOf_59c91 19 = .ok (.iconst 0, 1) := by decide +kernel
theorem dC_J7_copyOf_59c91_20 : decode cJ7_copyOf_59c91 20 = .ok (.aload_n 2, 1) := by decide +kernel
theorem dC_J7_copyOf_59c91_21 : decode cJ7_copyOf_59c91 21 = .ok (.iconst 0, 1) := by decide +kernel
theorem dC_J7_copyOf_59c91_22 : decode cJ7_copyOf_59c91 22 = .ok (.aload_n 0, 1) := by decide +kernel
theorem dC_J7_copyOf_59c91_23 : decode cJ7_copyOf_59c91 23 = .ok (.arraylength, 1) := by decide +kernel
theorem dC_J7_copyOf_59c91_24 : decode cJ7_copyOf_59c91 24 = .ok (.iload_n 1, 1) := by decide +kernel
theorem dC_J7_copyOf_59c91_25 : decode cJ7_copyOf_59c91 25 = .ok (.invokestatic 304, 3) := by decide +kernel
theorem dC_J7_copyOf_59c91_28 : decode cJ7_copyOf_59c91 28 = .ok (.invokestatic 150, 3) := by decide +kernel
theorem dC_J7_copyOf_59c91_31 : decode cJ7_copyOf_59c91 31 = .ok (.aload_n 2, 1) := by decide +kernel
theorem dC_J7_copyOf_59c91_32 : decode cJ7_copyOf_59c91 32 = .ok (.areturn, 1) := by decide +kernel
set_option maxRecDepth 20000 in
theorem aC_J7_copyOf_59c91_14 {Q : Sg → Option Nat → Prop} {X : Sg → String → Prop} (K : MD l R p s m args c cJ7_copyOf_59c91 3 yJ7_copyOf_59c91.cls D cA tys A n0 s0 1 60 []) (hQ : CQA p l e R s m args below meth c cJ7_copyOf_59c91 D cA A n0 s0 QM σi 100 Q) (hX : CX p l e R s m args below meth c 3 D cA A n0 s0 QM σi X) (hTh : CT p l e R s m args below meth c cJ7_copyOf_59c91 3 D cA A n0 s0 QM σi yJ7_copyOf_59c91.cls X) : ∀ (σ : Sg) (v0 : Option Nat) (v1 : Int) (g0 : tyV σ 100 v0) (g1 : rng v1), wC_J7_copyOf_59c91_14 Q X σ v0 v1 → RG σ → TY σ → Ext σi σ → JJ p l e R s m args below meth c 3 D cA A n0 s0 QM σ 14 [(0, va_rf v0), (1, .int (i32 v1))] [] := by
  intro σ v0 v1 g0 g1 h hGσ hYσ hE H locs ls hH hl hc
  have B := K.1
  have hl9 := K.2.2.2.2.2.2
  unfold wC_J7_copyOf_59c91_14 at h
  refine lv_iload_n B.1 B.2.1 dC_J7_copyOf_59c91_14 rfl (lv_at hl 1 rfl) ?_
  obtain ⟨lz9, h⟩ := h
  obtain ⟨zq15, h⟩ := h
  refine c_newI B K.2.1 hH hc K.2.2.1 wa_100 (n := v1) ⟨lz9, by have : gs σ + v1.toNat ≤ 7000000 := zq15.2; omega⟩ zq15 dC_J7_copyOf_59c91_15 (fun q15 H hq15 hH hc => ?_)
  obtain ⟨σ16, eσ16⟩ : ∃ z, z = newA σ q15 100 v1.toNat := ⟨_, rfl⟩
  have h := h q15 hq15 σ16 eσ16
  have hH : Hd D cA A s (newA σ q15 100 v1.toNat) H locs := hH
  have hc : CB n0 s0 (newA σ q15 100 v1.toNat) := hc
  show W p l e R s m args below meth c H locs (gc (newA σ q15 100 v1.toNat) - n0) (gs (newA σ q15 100 v1.toNat) - s0) QM _
  rw [← eσ16] at hH hc ⊢
  have hGσ16 : RG σ16 := by rw [eσ16]; exact hGσ.newA
  have hYσ16 : TY σ16 := by rw [eσ16]; exact hYσ.newA hq15 (by have : gs σ + v1.toNat ≤ 7000000 := zq15.2; omega)
  have xσ16 : Ext σ σ16 := by rw [eσ16]; exact Ext.newA hq15
  have kq15 : kO σ16 q15 100 := by rw [eσ16]; exact kO.newA
  refine W.eq (g2 := F0 m 17 ls [va_rf (some q15)]) (rfl) ?_
  refine lv_astore_nQ (lv' := [(2, va_rf (some q15)), (0, va_rf v0), (1, .int (i32 v1))]) B.1 B.2.1 dC_J7_copyOf_59c91_17 rfl hl (by decide) rfl (fun ls hl => ?_)
  refine lv_aload_nQ B.1 B.2.1 dC_J7_copyOf_59c91_18 rfl (lv_at hl 1 rfl) ?_
  refine lv_iconst (v := i32 0) B.1 B.2.1 dC_J7_copyOf_59c91_19 (by decide) ?_
  refine lv_aload_nQ B.1 B.2.1 dC_J7_copyOf_59c91_20 rfl (lv_at hl 0 rfl) ?_
  refine W.eq (g2 := F0 m 21 ls [.ref q15, .int (i32 0), va_rf v0]) (rfl) ?_
  refine lv_iconst (v := i32 0) B.1 B.2.1 dC_J7_copyOf_59c91_21 (by decide) ?_
  refine lv_aload_nQ B.1 B.2.1 dC_J7_copyOf_59c91_22 rfl (lv_at hl 1 rfl) ?_
  obtain ⟨a17, ea17, h⟩ := h
  have ka17 : kO σ16 a17 100 := (g0.up xσ16) a17 ea17
  have h := h ka17
  refine W.eq (g2 := F0 m 23 ls [.ref a17, .int (i32 0), .ref q15, .int (i32 0), va_rf v0]) (by rw [ea17]; rfl) ?_
  refine h_alen B hH ka17.1 (by decide) ka17.2 0 K.2.1.1.1 dC_J7_copyOf_59c91_23 ?_
  refine lv_iload_n B.1 B.2.1 dC_J7_copyOf_59c91_24 rfl (lv_at hl 2 rfl) ?_
  refine c_S B hH hl hc K.2.2.1 (As := [.int (i32 (gn σ16 a17 : Int)), .int (i32 v1)]) (okC_J9_min_7cf53 hl9 K.2.1 σ16 (gn σ16 a17 : Int) v1 (rng_gn (hYσ16.2 _)) g1 hGσ16 hYσ16 h) wc_J7_304 2 hdC_J9_min_7cf53 ⟨Nat.le_trans (Nat.le_of_ble_eq_true rfl) K.2.2.2.1, Nat.le_trans (Nat.le_of_ble_eq_true rfl) K.2.2.2.2.1⟩ rfl (rest := [.int (i32 0), .ref q15, .int (i32 0), va_rf v0]) rfl (by simp only [List.map_cons, List.map_nil, rf_cat]; exact Nat.le_of_ble_eq_true rfl) dC_J7_copyOf_59c91_25 (fun σ18 w hq => ?_) (fun σ9 E9 hx9 => hX σ9 E9 _ _ _ (tb_out K.2.2.2.2.2.1 rfl) hx9.1 hx9.2.1 hx9.2.2.1 ((hE.trans xσ16).trans hx9.2.2.2))
  obtain ⟨r19, rfl, gr19, h, hGσ18, hYσ18, xσ18⟩ := hq
  have h := h xσ18
  intro H locs ls hH hl hc
  refine W.eq (g2 := F0 m 28 ls [.int (i32 r19), .int (i32 0), .ref q15, .int (i32 0), va_rf v0]) (rfl) ?_
  try dsimp only at h
  obtain ⟨q1, h⟩ := h
  obtain ⟨σ20, eσ20⟩ : ∃ z, z = cpI σ18 a17 (0 : Int) q15 (0 : Int) r19 := ⟨_, rfl⟩
  have h := h σ20 eσ20
  refine W.eq (g2 := F0 m 28 ls [.int (i32 r19), .int (i32 0), .ref q15, .int (i32 0), .ref a17]) (by rw [ea17]; rfl) ?_
  refine c_copyI B K.2.1 hH hl ws_J7_150 (ka17.up xσ18) (kq15.up xσ18) q1.1 q1.2.1 q1.2.2 ⟨by have := hYσ18.2 a17; omega, by have := hYσ18.2 q15; omega⟩ (by have := K.2.2.2.1; omega) (Nat.le_trans (Nat.le_of_ble_eq_true rfl) K.2.2.2.2.1) dC_J7_copyOf_59c91_28 (fun H locs hH => ?_)
  have hH : Hd D cA A s (cpI σ18 a17 (0 : Int) q15 (0 : Int) r19) H locs := hH
  rw [← eσ20] at hH
  have hGσ20 : RG σ20 := by rw [eσ20]; exact hGσ18.cpI
  have hYσ20 : TY σ20 := by rw [eσ20]; exact hYσ18.cpI
  have xσ20 : Ext σ18 σ20 := by rw [eσ20]; exact Ext.cpI
  have hc : CB n0 s0 σ20 := by rw [eσ20]; exact hc
  rw [show gc σ18 = gc σ20 by rw [eσ20]; try rfl, show gs σ18 = gs σ20 by rw [eσ20]; try rfl]
  refine lv_aload_nQ B.1 B.2.1 dC_J7_copyOf_59c91_31 rfl (lv_at hl 0 rfl) ?_
  refine W.eq (g2 := F0 m 32 ls [.ref q15]) (rfl) ?_
  refine W.eq (g2 := F0 m 32 ls [va_rf (some q15)]) (rfl) ?_
  exact hQ _ _ _ _ _ _ (tyS1 (kq15.up (xσ18.trans xσ20))) dC_J7_copyOf_59c91_32 hH hc h hGσ20 hYσ20 (((hE.trans xσ16).trans xσ18).trans xσ20)
set_option maxRecDepth 20000 in
theorem aC_J7_copyOf_59c91_6 {Q : Sg → Option Nat → Prop} {X : Sg → String → Prop} (K : MD l R p s m args c cJ7_copyOf_59c91 3 yJ7_copyOf_59c91.cls D cA tys A n0 s0 1 60 []) (hQ : CQA p l e R s m args below meth c cJ7_copyOf_59c91 D cA A n0 s0 QM σi 100 Q) (hX : CX p l e R s m args below meth c 3 D cA A n0 s0 QM σi X) (hTh : CT p l e R s m args below meth c cJ7_copyOf_59c91 3 D cA A n0 s0 QM σi yJ7_copyOf_59c91.cls X) : ∀ (σ : Sg), wC_J7_copyOf_59c91_6 Q X σ → RG σ → TY σ → Ext σi σ → JJ p l e R s m args below meth c 3 D cA A n0 s0 QM σ 6 [] [] := by
  intro σ h hGσ hYσ hE H locs ls hH hl hc
  have B := K.1
  have hl9 := K.2.2.2.2.2.2
  unfold wC_J7_copyOf_59c91_6 at h
  exact h.1.elim
set_option maxRecDepth 20000 in
theorem aC_J7_copyOf_59c91_0 {Q : Sg → Option Nat → Prop} {X : Sg → String → Prop} (K : MD l R p s m args c cJ7_copyOf_59c91 3 yJ7_copyOf_59c91.cls D cA tys A n0 s0 1 60 []) (hQ : CQA p l e R s m args below meth c cJ7_copyOf_59c91 D cA A n0 s0 QM σi 100 Q) (hX : CX p l e R s m args below meth c 3 D cA A n0 s0 QM σi X) (hTh : CT p l e R s m args below meth c cJ7_copyOf_59c91 3 D cA A n0 s0 QM σi yJ7_copyOf_59c91.cls X) : ∀ (σ : Sg) (v0 : Option Nat) (v1 : Int) (g0 : tyV σ 100 v0) (g1 : rng v1), wC_J7_copyOf_59c91_0 Q X σ v0 v1 → RG σ → TY σ → Ext σi σ → JJ p l e R s m args below meth c 3 D cA A n0 s0 QM σ 0 [(0, va_rf v0), (1, .int (i32 v1))] [] := by
  intro σ v0 v1 g0 g1 h hGσ hYσ hE H locs ls hH hl hc
  have B := K.1
  have hl9 := K.2.2.2.2.2.2
  unfold wC_J7_copyOf_59c91_0 at h
  refine lv_iload_n B.1 B.2.1 dC_J7_copyOf_59c91_0 rfl (lv_at hl 1 rfl) ?_
  refine lv_aload_nQ B.1 B.2.1 dC_J7_copyOf_59c91_1 rfl (lv_at hl 0 rfl) ?_
  obtain ⟨a21, ea21, h⟩ := h
  have ka21 : kO σ a21 100 := g0 a21 ea21
  have h := h ka21
  refine W.eq (g2 := F0 m 2 ls [.ref a21, .int (i32 v1)]) (by rw [ea21]; rfl) ?_
  refine h_alen B hH ka21.1 (by decide) ka21.2 0 K.2.1.1.1 dC_J7_copyOf_59c91_2 ?_
  refine lv_icmp_ne (tgt := 14) B.1 B.2.1 dC_J7_copyOf_59c91_3 (by decide) (fun h9 => ?_) (fun h9 => ?_)
  · rw [if_pos (fun q => h9 ((i32_eq g1 (rng_gn (hYσ.2 _))).mpr q))] at h
    exact aC_J7_copyOf_59c91_14 K hQ hX hTh _ _ _ g0 g1 h hGσ hYσ hE _ _ _ hH (lv_sub (l' := [(0, va_rf v0), (1, .int (i32 v1))]) hl [0, 1] rfl) hc
  · rw [if_neg (fun q => q ((i32_eq g1 (rng_gn (hYσ.2 _))).mp h9))] at h
    exact aC_J7_copyOf_59c91_6 K hQ hX hTh _ h hGσ hYσ hE _ _ _ hH (lv_sub (l' := []) hl [] rfl) hc
theorem okC_J7_copyOf_59c91 (hl0 : l.stackTraces = false) (hT : TyC cA tys) {Q : Sg → Option Nat → Prop} {X : Sg → String → Prop} (σ : Sg) (v0 : Option Nat) (v1 : Int) (g0 : tyV σ 100 v0) (g1 : rng v1) (hG : RG σ) (hY : TY σ) (h : wpC_J7_copyOf_59c91 v0 v1 σ Q X) : Ok l D cA tys A yJ7_copyOf_59c91 (.code yJ7_copyOf_59c91 cJ7_copyOf_59c91 3 (some (.array .int))) 1 60 [va_rf v0, .int (i32 v1)] σ (QcA σ 100 Q) (QxC σ X) := by
  unfold wpC_J7_copyOf_59c91 at h
  exact oc_AF hl0 (by decide +kernel) (by cases v0 <;> exact Nat.le_of_ble_eq_true rfl) hT (fun p e R s m args below meth c K hQ hX hTh H locs ls hH hl hc => aC_J7_copyOf_59c91_0 K hQ hX hTh σ v0 v1 g0 g1 h hG hY (Ext.rfl' σ) H locs ls hH (lv_sub (l' := [(0, va_rf v0), (1, .int (i32 v1))]) hl [0, 1] (by cases v0 <;> rfl)) hc)
theorem dC_J7_copyOf_c38d5_0 : decode cJ7_copyOf_c38d5 0 = .ok (.iload_n 1, 1) := by decide +kernel
theorem dC_J7_copyOf_c38d5_1 : decode cJ7_copyOf_c38d5 1 = .ok (.aload_n 0, 1) := by decide +kernel
theorem dC_J7_copyOf_c38d5_2 : decode cJ7_copyOf_c38d5 2 = .ok (.arraylength, 1) := by decide +kernel
theorem dC_J7_copyOf_c38d5_3 : decode cJ7_copyOf_c38d5 3 = .ok (.if_icmp .ne 11, 3) := by decide +kernel
theorem dC_J7_copyOf_c38d5_14 : decode cJ7_copyOf_c38d5 14 = .ok (.iload_n 1, 1) := by decide +kernel
theorem dC_J7_copyOf_c38d5_15 : decode cJ7_copyOf_c38d5 15 = .ok (.newarray .long, 2) := by decide +kernel
theorem dC_J7_copyOf_c38d5_17 : decode cJ7_copyOf_c38d5 17 = .ok (.astore_n 2, 1) := by decide +kernel
theorem dC_J7_copyOf_c38d5_18 : decode cJ7_copyOf_c38d5 18 = .ok (.aload_n 0, 1) := by decide +kernel
theorem dC_J7_copyOf_c38d5_19 : decode cJ7_copyOf_c38d5 19 = .ok (.iconst 0, 1) := by decide +kernel
theorem dC_J7_copyOf_c38d5_20 : decode cJ7_copyOf_c38d5 20 = .ok (.aload_n 2, 1) := by decide +kernel
theorem dC_J7_copyOf_c38d5_21 : decode cJ7_copyOf_c38d5 21 = .ok (.iconst 0, 1) := by decide +kernel
theorem dC_J7_copyOf_c38d5_22 : decode cJ7_copyOf_c38d5 22 = .ok (.aload_n 0, 1) := by decide +kernel
theorem dC_J7_copyOf_c38d5_23 : decode cJ7_copyOf_c38d5 23 = .ok (.arraylength, 1) := by decide +kernel
theorem dC_J7_copyOf_c38d5_24 : decode cJ7_copyOf_c38d5 24 = .ok (.iload_n 1, 1) := by decide +kernel
theorem dC_J7_copyOf_c38d5_25 : decode cJ7_copyOf_c38d5 25 = .ok (.invokestatic 304, 3) := by decide +kernel
theorem dC_J7_copyOf_c38d5_28 : decode cJ7_copyOf_c38d5 28 = .ok (.invokestatic 150, 3) := by decide +kernel
theorem dC_J7_copyOf_c38d5_31 : decode cJ7_copyOf_c38d5 31 = .ok (.aload_n 2, 1) := by decide +kernel
theorem dC_J7_copyOf_c38d5_32 : decode cJ7_copyOf_c38d5 32 = .ok (.areturn, 1) := by decide +kernel
set_option maxRecDepth 20000 in
theorem aC_J7_copyOf_c38d5_14 {Q : Sg → Option Nat → Prop} {X : Sg → String → Prop} (K : MD l R p s m args c cJ7_copyOf_c38d5 3 yJ7_copyOf_c38d5.cls D cA tys A n0 s0 1 60 []) (hQ : CQA p l e R s m args below meth c cJ7_copyOf_c38d5 D cA A n0 s0 QM σi 101 Q) (hX : CX p l e R s m args below meth c 3 D cA A n0 s0 QM σi X) (hTh : CT p l e R s m args below meth c cJ7_copyOf_c38d5 3 D cA A n0 s0 QM σi yJ7_copyOf_c38d5.cls X) : ∀ (σ : Sg) (v0 : Option Nat) (v1 : Int) (g0 : tyV σ 101 v0) (g1 : rng v1), wC_J7_copyOf_c38d5_14 Q X σ v0 v1 → RG σ → TY σ → Ext σi σ → JJ p l e R s m args below meth c 3 D cA A n0 s0 QM σ 14 [(0, va_rf v0), (1, .int (i32 v1))] [] := by
  intro σ v0 v1 g0 g1 h hGσ hYσ hE H locs ls hH hl hc
  have B := K.1
  have hl9 := K.2.2.2.2.2.2
  unfold wC_J7_copyOf_c38d5_14 at h
  refine lv_iload_n B.1 B.2.1 dC_J7_copyOf_c38d5_14 rfl (lv_at hl 1 rfl) ?_
  obtain ⟨lz9, h⟩ := h
  obtain ⟨zq15, h⟩ := h
  refine c_newJ B K.2.1 hH hc K.2.2.1 wa_101 (n := v1) ⟨lz9, by have : gs σ + v1.toNat ≤ 7000000 := zq15.2; omega⟩ zq15 dC_J7_copyOf_c38d5_15 (fun q15 H hq15 hH hc => ?_)
  obtain ⟨σ16, eσ16⟩ : ∃ z, z = newA σ q15 101 v1.toNat := ⟨_, rfl⟩
  have h := h q15 hq15 σ16 eσ16
  have hH : Hd D cA A s (newA σ q15 101 v1.toNat) H locs := hH
  have hc : CB n0 s0 (newA σ q15 101 v1.toNat) := hc
  show W p l e R s m args below meth c H locs (gc (newA σ q15 101 v1.toNat) - n0) (gs (newA σ q15 101 v1.toNat) - s0) QM _
  rw [← eσ16] at hH hc ⊢
  have hGσ16 : RG σ16 := by rw [eσ16]; exact hGσ.newA
  have hYσ16 : TY σ16 := by rw [eσ16]; exact hYσ.newA hq15 (by have : gs σ + v1.toNat ≤ 7000000 := zq15.2; omega)
  have xσ16 : Ext σ σ16 := by rw [eσ16]; exact Ext.newA hq15
  have kq15 : kO σ16 q15 101 := by rw [eσ16]; exact kO.newA
  refine W.eq (g2 := F0 m 17 ls [va_rf (some q15)]) (rfl) ?_
  refine lv_astore_nQ (lv' := [(2, va_rf (some q15)), (0, va_rf v0), (1, .int (i32 v1))]) B.1 B.2.1 dC_J7_copyOf_c38d5_17 rfl hl (by decide) rfl (fun ls hl => ?_)
  refine lv_aload_nQ B.1 B.2.1 dC_J7_copyOf_c38d5_18 rfl (lv_at hl 1 rfl) ?_
  refine lv_iconst (v := i32 0) B.1 B.2.1 dC_J7_copyOf_c38d5_19 (by decide) ?_
  refine lv_aload_nQ B.1 B.2.1 dC_J7_copyOf_c38d5_20 rfl (lv_at hl 0 rfl) ?_
  refine W.eq (g2 := F0 m 21 ls [.ref q15, .int (i32 0), va_rf v0]) (rfl) ?_
  refine lv_iconst (v := i32 0) B.1 B.2.1 dC_J7_copyOf_c38d5_21 (by decide) ?_
  refine lv_aload_nQ B.1 B.2.1 dC_J7_copyOf_c38d5_22 rfl (lv_at hl 1 rfl) ?_
  obtain ⟨a17, ea17, h⟩ := h
  have ka17 : kO σ16 a17 101 := (g0.up xσ16) a17 ea17
  have h := h ka17
  refine W.eq (g2 := F0 m 23 ls [.ref a17, .int (i32 0), .ref q15, .int (i32 0), va_rf v0]) (by rw [ea17]; rfl) ?_
  refine h_alen B hH ka17.1 (by decide) ka17.2 1 K.2.1.1.2.1 dC_J7_copyOf_c38d5_23 ?_
  refine lv_iload_n B.1 B.2.1 dC_J7_copyOf_c38d5_24 rfl (lv_at hl 2 rfl) ?_
  refine c_S B hH hl hc K.2.2.1 (As := [.int (i32 (gn σ16 a17 : Int)), .int (i32 v1)]) (okC_J9_min_7cf53 hl9 K.2.1 σ16 (gn σ16 a17 : Int) v1 (rng_gn (hYσ16.2 _)) g1 hGσ16 hYσ16 h) wc_J7_304 2 hdC_J9_min_7cf53 ⟨Nat.le_trans (Nat.le_of_ble_eq_true rfl) K.2.2.2.1, Nat.le_trans (Nat.le_of_ble_eq_true rfl) K.2.2.2.2.1⟩ rfl (rest := [.int (i32 0), .ref q15, .int (i32 0), va_rf v0]) rfl (by simp only [List.map_cons, List.map_nil, rf_cat]; exact Nat.le_of_ble_eq_true rfl) dC_J7_copyOf_c38d5_25 (fun σ18 w hq => ?_) (fun σ9 E9 hx9 => hX σ9 E9 _ _ _ (tb_out K.2.2.2.2.2.1 rfl) hx9.1 hx9.2.1 hx9.2.2.1 ((hE.trans xσ16).trans hx9.2.2.2))
  obtain ⟨r19, rfl, gr19, h, hGσ18, hYσ18, xσ18⟩ := hq
  have h := h xσ18
  intro H locs ls hH hl hc
  refine W.eq (g2 := F0 m 28 ls [.int (i32 r19), .int (i32 0), .ref q15, .int (i32 0), va_rf v0]) (rfl) ?_
  try dsimp only at h
  obtain ⟨q1, h⟩ := h
  obtain ⟨σ20, eσ20⟩ : ∃ z, z = cpJ σ18 a17 (0 : Int) q15 (0 : Int) r19 := ⟨_, rfl⟩
  have h := h σ20 eσ20
  refine W.eq (g2 := F0 m 28 ls [.int (i32 r19), .int (i32 0), .ref q15, .int (i32 0), .ref a17]) (by rw [ea17]; rfl) ?_
  refine c_copy B K.2.1 hH hl ws_J7_150 (ka17.up xσ18) (kq15.up xσ18) q1.1 q1.2.1 q1.2.2 ⟨by have := hYσ18.2 a17; omega, by have := hYσ18.2 q15; omega⟩ (by have := K.2.2.2.1; omega) (Nat.le_trans (Nat.le_of_ble_eq_true rfl) K.2.2.2.2.1) dC_J7_copyOf_c38d5_28 (fun H locs hH => ?_)
  have hH : Hd D cA A s (cpJ σ18 a17 (0 : Int) q15 (0 : Int) r19) H locs := hH
  rw [← eσ20] at hH
  have hGσ20 : RG σ20 := by rw [eσ20]; exact hGσ18.cpJ
  have hYσ20 : TY σ20 := by rw [eσ20]; exact hYσ18.cpJ
  have xσ20 : Ext σ18 σ20 := by rw [eσ20]; exact Ext.cpJ
  have hc : CB n0 s0 σ20 := by rw [eσ20]; exact hc
  rw [show gc σ18 = gc σ20 by rw [eσ20]; try rfl, show gs σ18 = gs σ20 by rw [eσ20]; try rfl]
  refine lv_aload_nQ B.1 B.2.1 dC_J7_copyOf_c38d5_31 rfl (lv_at hl 0 rfl) ?_
  refine W.eq (g2 := F0 m 32 ls [.ref q15]) (rfl) ?_
  refine W.eq (g2 := F0 m 32 ls [va_rf (some q15)]) (rfl) ?_
  exact hQ _ _ _ _ _ _ (tyS1 (kq15.up (xσ18.trans xσ20))) dC_J7_copyOf_c38d5_32 hH hc h hGσ20 hYσ20 (((hE.trans xσ16).trans xσ18).trans xσ20)
set_option maxRecDepth 20000 in
theorem aC_J7_copyOf_c38d5_6 {Q : Sg → Option Nat → Prop} {X : Sg → String → Prop} (K : MD l R p s m args c cJ7_copyOf_c38d5 3 yJ7_copyOf_c38d5.cls D cA tys A n0 s0 1 60 []) (hQ : CQA p l e R s m args below meth c cJ7_copyOf_c38d5 D cA A n0 s0 QM σi 101 Q) (hX : CX p l e R s m args below meth c 3 D cA A n0 s0 QM σi X) (hTh : CT p l e R s m args below meth c cJ7_copyOf_c38d5 3 D cA A n0 s0 QM σi yJ7_copyOf_c38d5.cls X) : ∀ (σ : Sg), wC_J7_copyOf_c38d5_6 Q X σ → RG σ → TY σ → Ext σi σ → JJ p l e R s m args below meth c 3 D cA A n0 s0 QM σ 6 [] [] := by
  intro σ h hGσ hYσ hE H locs ls hH hl hc
  have B := K.1
  have hl9 := K.2.2.2.2.2.2
  unfold wC_J7_copyOf_c38d5_6 at h
  exact h.1.elim
set_option maxRecDepth 20000 in
theorem aC_J7_copyOf_c38d5_0 {Q : Sg → Option Nat → Prop} {X : Sg → String → Prop} (K : MD l R p s m args c cJ7_copyOf_c38d5 3 yJ7_copyOf_c38d5.cls D cA tys A n0 s0 1 60 []) (hQ : CQA p l e R s m args below meth c cJ7_copyOf_c38d5 D cA A n0 s0 QM σi 101 Q) (hX : CX p l e R s m args below meth c 3 D cA A n0 s0 QM σi X) (hTh : CT p l e R s m args below meth c cJ7_copyOf_c38d5 3 D cA A n0 s0 QM σi yJ7_copyOf_c38d5.cls X) : ∀ (σ : Sg) (v0 : Option Nat) (v1 : Int) (g0 : tyV σ 101 v0) (g1 : rng v1), wC_J7_copyOf_c38d5_0 Q X σ v0 v1 → RG σ → TY σ → Ext σi σ → JJ p l e R s m args below meth c 3 D cA A n0 s0 QM σ 0 [(0, va_rf v0), (1, .int (i32 v1))] [] := by
  intro σ v0 v1 g0 g1 h hGσ hYσ hE H locs ls hH hl hc
  have B := K.1
  have hl9 := K.2.2.2.2.2.2
  unfold wC_J7_copyOf_c38d5_0 at h
  refine lv_iload_n B.1 B.2.1 dC_J7_copyOf_c38d5_0 rfl (lv_at hl 1 rfl) ?_
  refine lv_aload_nQ B.1 B.2.1 dC_J7_copyOf_c38d5_1 rfl (lv_at hl 0 rfl) ?_
  obtain ⟨a21, ea21, h⟩ := h
  have ka21 : kO σ a21 101 := g0 a21 ea21
  have h := h ka21
  refine W.eq (g2 := F0 m 2 ls [.ref a21, .int (i32 v1)]) (by rw [ea21]; rfl) ?_
  refine h_alen B hH ka21.1 (by decide) ka21.2 1 K.2.1.1.2.1 dC_J7_copyOf_c38d5_2 ?_
  refine lv_icmp_ne (tgt := 14) B.1 B.2.1 dC_J7_copyOf_c38d5_3 (by decide) (fun h9 => ?_) (fun h9 => ?_)
  · rw [if_pos (fun q => h9 ((i32_eq g1 (rng_gn (hYσ.2 _))).mpr q))] at h
    exact aC_J7_copyOf_c38d5_14 K hQ hX hTh _ _ _ g0 g1 h hGσ hYσ hE _ _ _ hH (lv_sub (l' := [(0, va_rf v0), (1, .int (i32 v1))]) hl [0, 1] rfl) hc
  · rw [if_neg (fun q => q ((i32_eq g1 (rng_gn (hYσ.2 _))).mp h9))] at h
    exact aC_J7_copyOf_c38d5_6 K hQ hX hTh _ h hGσ hYσ hE _ _ _ hH (lv_sub (l' := []) hl [] rfl) hc
theorem okC_J7_copyOf_c38d5 (hl0 : l.stackTraces = false) (hT : TyC cA tys) {Q : Sg → Option Nat → Prop} {X : Sg → String → Prop} (σ : Sg) (v0 : Option Nat) (v1 : Int) (g0 : tyV σ 101 v0) (g1 : rng v1) (hG : RG σ) (hY : TY σ) (h : wpC_J7_copyOf_c38d5 v0 v1 σ Q X) : Ok l D cA tys A yJ7_copyOf_c38d5 (.code yJ7_copyOf_c38d5 cJ7_copyOf_c38d5 3 (some (.array .long))) 1 60 [va_rf v0, .int (i32 v1)] σ (QcA σ 101 Q) (QxC σ X) := by
  unfold wpC_J7_copyOf_c38d5 at h
  exact oc_AF hl0 (by decide +kernel) (by cases v0 <;> exact Nat.le_of_ble_eq_true rfl) hT (fun p e R s m args below meth c K hQ hX hTh H locs ls hH hl hc => aC_J7_copyOf_c38d5_0 K hQ hX hTh σ v0 v1 g0 g1 h hG hY (Ext.rfl' σ) H locs ls hH (lv_sub (l' := [(0, va_rf v0), (1, .int (i32 v1))]) hl [0, 1] (by cases v0 <;> rfl)) hc)
theorem dC_J7_fill_53178_0 : decode cJ7_fill_53178 0 = .ok (.iconst 0, 1) := by decide +kernel
theorem dC_J7_fill_53178_1 : decode cJ7_fill_53178 1 = .ok (.istore_n 2, 1) := by decide +kernel
theorem dC_J7_fill_53178_2 : decode cJ7_fill_53178 2 = .ok (.aload_n 0, 1) := by decide +kernel
theorem dC_J7_fill_53178_3 : decode cJ7_fill_53178 3 = .ok (.arraylength, 1) := by decide +kernel
theorem dC_J7_fill_53178_4 : decode cJ7_fill_53178 4 = .ok (.istore_n 3, 1) := by decide +kernel
theorem dC_J7_fill_53178_5 : decode cJ7_fill_53178 5 = .ok (.iload_n 2, 1) := by decide +kernel
theorem dC_J7_fill_53178_6 : decode cJ7_fill_53178 6 = .ok (.iload_n 3, 1) := by decide +kernel
theorem dC_J7_fill_53178_7 : decode cJ7_fill_53178 7 = .ok (.if_icmp .ge 13, 3) := by decide +kernel
theorem dC_J7_fill_53178_10 : decode cJ7_fill_53178 10 = .ok (.aload_n 0, 1) := by decide +kernel
theorem dC_J7_fill_53178_11 : decode cJ7_fill_53178 11 = .ok (.iload_n 2, 1) := by decide +kernel
theorem dC_J7_fill_53178_12 : decode cJ7_fill_53178 12 = .ok (.iload_n 1, 1) := by decide +kernel
theorem dC_J7_fill_53178_13 : decode cJ7_fill_53178 13 = .ok (.iastore, 1) := by decide +kernel
theorem dC_J7_fill_53178_14 : decode cJ7_fill_53178 14 = .ok (.iinc 2 1, 3) := by decide +kernel
theorem dC_J7_fill_53178_17 : decode cJ7_fill_53178 17 = .ok (.goto (-12), 3) := by decide +kernel
theorem dC_J7_fill_53178_20 : decode cJ7_fill_53178 20 = .ok (.return_, 1) := by decide +kernel
set_option maxRecDepth 20000 in
theorem aC_J7_fill_53178_20 {Q : Sg → Unit → Prop} {X : Sg → String → Prop} (K : MD l R p s m args c cJ7_fill_53178 4 yJ7_fill_53178.cls D cA tys A n0 s0 0 0 []) (hQ : CQV p l e R s m args below meth c cJ7_fill_53178 D cA A n0 s0 QM σi Q) (hX : CX p l e R s m args below meth c 4 D cA A n0 s0 QM σi X) (hTh : CT p l e R s m args below meth c cJ7_fill_53178 4 D cA A n0 s0 QM σi yJ7_fill_53178.cls X) : ∀ (σ : Sg), wC_J7_fill_53178_20 Q X σ → RG σ → TY σ → Ext σi σ → JJ p l e R s m args below meth c 4 D cA A n0 s0 QM σ 20 [] [] := by
  intro σ h hGσ hYσ hE H locs ls hH hl hc
  have B := K.1
  have hl9 := K.2.2.2.2.2.2
  unfold wC_J7_fill_53178_20 at h
  exact hQ _ _ _ _ _ dC_J7_fill_53178_20 hH hc h hGσ hYσ hE
set_option maxRecDepth 20000 in
theorem aC_J7_fill_53178_10 {Q : Sg → Unit → Prop} {X : Sg → String → Prop} (K : MD l R p s m args c cJ7_fill_53178 4 yJ7_fill_53178.cls D cA tys A n0 s0 0 0 []) (hQ : CQV p l e R s m args below meth c cJ7_fill_53178 D cA A n0 s0 QM σi Q) (hX : CX p l e R s m args below meth c 4 D cA A n0 s0 QM σi X) (hTh : CT p l e R s m args below meth c cJ7_fill_53178 4 D cA A n0 s0 QM σi yJ7_fill_53178.cls X) {K5 : Sg → Option Nat → Int → Int → Int → Prop} (hK5 : ∀ (σ : Sg) (v0 : Option Nat) (v1 : Int) (v2 : Int) (v3 : Int) (g0 : tyV σ 100 v0) (g1 : rng v1) (g2 : rng v2) (g3 : rng v3), K5 σ v0 v1 v2 v3 → RG σ → TY σ → Ext σi σ → JJ p l e R s m args below meth c 4 D cA A n0 s0 QM σ 5 [(0, va_rf v0), (1, .int (i32 v1)), (2, .int (i32 v2)), (3, .int (i32 v3))] []) : ∀ (σ : Sg) (v0 : Option Nat) (v1 : Int) (v2 : Int) (v3 : Int) (g0 : tyV σ 100 v0) (g1 : rng v1) (g2 : rng v2) (g3 : rng v3), wC_J7_fill_53178_10 K5 Q X σ v0 v1 v2 v3 → RG σ → TY σ → Ext σi σ → JJ p l e R s m args below meth c 4 D cA A n0 s0 QM σ 10 [(0, va_rf v0), (1, .int (i32 v1)), (2, .int (i32 v2)), (3, .int (i32 v3))] [] := by
  intro σ v0 v1 v2 v3 g0 g1 g2 g3 h hGσ hYσ hE H locs ls hH hl hc
  have B := K.1
  have hl9 := K.2.2.2.2.2.2
  unfold wC_J7_fill_53178_10 at h
  refine lv_aload_nQ B.1 B.2.1 dC_J7_fill_53178_10 rfl (lv_at hl 0 rfl) ?_
  refine lv_iload_n B.1 B.2.1 dC_J7_fill_53178_11 rfl (lv_at hl 2 rfl) ?_
  refine lv_iload_n B.1 B.2.1 dC_J7_fill_53178_12 rfl (lv_at hl 1 rfl) ?_
  obtain ⟨a7, ea7, h⟩ := h
  have ka7 : kO σ a7 100 := g0 a7 ea7
  have h := h ka7
  obtain ⟨q1, h⟩ := h
  obtain ⟨σ8, eσ8⟩ : ∃ z, z = pI σ a7 v2.toNat v1 := ⟨_, rfl⟩
  have h := h σ8 eσ8
  refine W.eq (g2 := F0 m 13 ls [.int (i32 v1), .int (i32 v2), .ref a7]) (by rw [ea7]; rfl) ?_
  refine y_iast B K.2.1 hH ka7 q1 dC_J7_fill_53178_13 (hYσ.2 _) (fun H locs hH => ?_)
  have hH : Hd D cA A s (pI σ a7 v2.toNat v1) H locs := hH
  rw [← eσ8] at hH
  have hGσ8 : RG σ8 := by rw [eσ8]; exact hGσ.pI g1
  have hYσ8 : TY σ8 := by rw [eσ8]; exact hYσ.pI
  have xσ8 : Ext σ σ8 := by rw [eσ8]; exact Ext.pI
  have hc : CB n0 s0 σ8 := by rw [eσ8]; exact hc
  rw [show gc σ = gc σ8 by rw [eσ8]; try rfl, show gs σ = gs σ8 by rw [eσ8]; try rfl]
  obtain ⟨q2, h⟩ := h
  refine lv_iinc (k := 2) (v := i32 (v2 + 1)) (lv' := [(2, .int (i32 (v2 + 1))), (0, va_rf v0), (1, .int (i32 v1)), (3, .int (i32 v3))]) B.1 B.2.1 dC_J7_fill_53178_14 hl rfl (i32_add _ _) (by decide) rfl (fun ls hl => ?_)
  refine lv_goto (tgt := 5) B.1 B.2.1 dC_J7_fill_53178_17 (by decide) ?_
  exact hK5 _ _ _ _ _ (g0.up xσ8) g1 q2 g3 h hGσ8 hYσ8 (hE.trans xσ8) _ _ _ hH (lv_sub (l' := [(0, va_rf v0), (1, .int (i32 v1)), (2, .int (i32 (v2 + 1))), (3, .int (i32 v3))]) hl [1, 2, 0, 3] rfl) hc
set_option maxRecDepth 20000 in
theorem aC_J7_fill_53178_5 {Q : Sg → Unit → Prop} {X : Sg → String → Prop} (K : MD l R p s m args c cJ7_fill_53178 4 yJ7_fill_53178.cls D cA tys A n0 s0 0 0 []) (hQ : CQV p l e R s m args below meth c cJ7_fill_53178 D cA A n0 s0 QM σi Q) (hX : CX p l e R s m args below meth c 4 D cA A n0 s0 QM σi X) (hTh : CT p l e R s m args below meth c cJ7_fill_53178 4 D cA A n0 s0 QM σi yJ7_fill_53178.cls X) {K5 : Sg → Option Nat → Int → Int → Int → Prop} (hK5 : ∀ (σ : Sg) (v0 : Option Nat) (v1 : Int) (v2 : Int) (v3 : Int) (g0 : tyV σ 100 v0) (g1 : rng v1) (g2 : rng v2) (g3 : rng v3), K5 σ v0 v1 v2 v3 → RG σ → TY σ → Ext σi σ → JJ p l e R s m args below meth c 4 D cA A n0 s0 QM σ 5 [(0, va_rf v0), (1, .int (i32 v1)), (2, .int (i32 v2)), (3, .int (i32 v3))] []) : ∀ (σ : Sg) (v0 : Option Nat) (v1 : Int) (v2 : Int) (v3 : Int) (g0 : tyV σ 100 v0) (g1 : rng v1) (g2 : rng v2) (g3 : rng v3), wC_J7_fill_53178_5 K5 Q X σ v0 v1 v2 v3 → RG σ → TY σ → Ext σi σ → JJ p l e R s m args below meth c 4 D cA A n0 s0 QM σ 5 [(0, va_rf v0), (1, .int (i32 v1)), (2, .int (i32 v2)), (3, .int (i32 v3))] [] := by
  intro σ v0 v1 v2 v3 g0 g1 g2 g3 h hGσ hYσ hE H locs ls hH hl hc
  have B := K.1
  have hl9 := K.2.2.2.2.2.2
  unfold wC_J7_fill_53178_5 at h
  refine lv_iload_n B.1 B.2.1 dC_J7_fill_53178_5 rfl (lv_at hl 2 rfl) ?_
  refine lv_iload_n B.1 B.2.1 dC_J7_fill_53178_6 rfl (lv_at hl 3 rfl) ?_
  refine lv_icmp_ge (tgt := 20) B.1 B.2.1 dC_J7_fill_53178_7 (by decide) (fun h9 => ?_) (fun h9 => ?_)
  · rw [if_pos ((i32_le g3 g2).mp h9)] at h
    exact aC_J7_fill_53178_20 K hQ hX hTh _ h hGσ hYσ hE _ _ _ hH (lv_sub (l' := []) hl [] rfl) hc
  · rw [if_neg (fun q => h9 ((i32_le g3 g2).mpr q))] at h
    exact aC_J7_fill_53178_10 K hQ hX hTh hK5 _ _ _ _ _ g0 g1 g2 g3 h hGσ hYσ hE _ _ _ hH (lv_sub (l' := [(0, va_rf v0), (1, .int (i32 v1)), (2, .int (i32 v2)), (3, .int (i32 v3))]) hl [0, 1, 2, 3] rfl) hc
theorem alC_J7_fill_53178_5 {Q : Sg → Unit → Prop} {X : Sg → String → Prop} (K : MD l R p s m args c cJ7_fill_53178 4 yJ7_fill_53178.cls D cA tys A n0 s0 0 0 []) (hQ : CQV p l e R s m args below meth c cJ7_fill_53178 D cA A n0 s0 QM σi Q) (hX : CX p l e R s m args below meth c 4 D cA A n0 s0 QM σi X) (hTh : CT p l e R s m args below meth c cJ7_fill_53178 4 D cA A n0 s0 QM σi yJ7_fill_53178.cls X) : ∀ (n : Nat), ∀ (σ : Sg) (v0 : Option Nat) (v1 : Int) (v2 : Int) (v3 : Int) (g0 : tyV σ 100 v0) (g1 : rng v1) (g2 : rng v2) (g3 : rng v3), wlC_J7_fill_53178_5 Q X n σ v0 v1 v2 v3 → RG σ → TY σ → Ext σi σ → JJ p l e R s m args below meth c 4 D cA A n0 s0 QM σ 5 [(0, va_rf v0), (1, .int (i32 v1)), (2, .int (i32 v2)), (3, .int (i32 v3))] [] := by
  intro n
  induction n with
  | zero => intro σ v0 v1 v2 v3 g0 g1 g2 g3 h; exact h.elim
  | succ n ih => exact fun σ v0 v1 v2 v3 g0 g1 g2 g3 h => aC_J7_fill_53178_5 K hQ hX hTh ih σ v0 v1 v2 v3 g0 g1 g2 g3 h
set_option maxRecDepth 20000 in
theorem aC_J7_fill_53178_0 {Q : Sg → Unit → Prop} {X : Sg → String → Prop} (K : MD l R p s m args c cJ7_fill_53178 4 yJ7_fill_53178.cls D cA tys A n0 s0 0 0 []) (hQ : CQV p l e R s m args below meth c cJ7_fill_53178 D cA A n0 s0 QM σi Q) (hX : CX p l e R s m args below meth c 4 D cA A n0 s0 QM σi X) (hTh : CT p l e R s m args below meth c cJ7_fill_53178 4 D cA A n0 s0 QM σi yJ7_fill_53178.cls X) : ∀ (σ : Sg) (v0 : Option Nat) (v1 : Int) (g0 : tyV σ 100 v0) (g1 : rng v1), wC_J7_fill_53178_0 Q X σ v0 v1 → RG σ → TY σ → Ext σi σ → JJ p l e R s m args below meth c 4 D cA A n0 s0 QM σ 0 [(0, va_rf v0), (1, .int (i32 v1))] [] := by
  intro σ v0 v1 g0 g1 h hGσ hYσ hE H locs ls hH hl hc
  have B := K.1
  have hl9 := K.2.2.2.2.2.2
  unfold wC_J7_fill_53178_0 at h
  refine lv_iconst (v := i32 0) B.1 B.2.1 dC_J7_fill_53178_0 (by decide) ?_
  refine lv_istore_n (lv' := [(2, .int (i32 0)), (0, va_rf v0), (1, .int (i32 v1))]) B.1 B.2.1 dC_J7_fill_53178_1 rfl hl (by decide) rfl (fun ls hl => ?_)
  refine lv_aload_nQ B.1 B.2.1 dC_J7_fill_53178_2 rfl (lv_at hl 1 rfl) ?_
  obtain ⟨a9, ea9, h⟩ := h
  have ka9 : kO σ a9 100 := g0 a9 ea9
  have h := h ka9
  refine W.eq (g2 := F0 m 3 ls [.ref a9]) (by rw [ea9]; rfl) ?_
  refine h_alen B hH ka9.1 (by decide) ka9.2 0 K.2.1.1.1 dC_J7_fill_53178_3 ?_
  refine lv_istore_n (lv' := [(3, .int (i32 (gn σ a9 : Int))), (2, .int (i32 0)), (0, va_rf v0), (1, .int (i32 v1))]) B.1 B.2.1 dC_J7_fill_53178_4 rfl hl (by decide) rfl (fun ls hl => ?_)
  obtain ⟨n9, h⟩ := h
  exact alC_J7_fill_53178_5 K hQ hX hTh n9 _ _ _ _ _ g0 g1 (by unfold rng; omega) (rng_gn (hYσ.2 _)) h hGσ hYσ hE _ _ _ hH (lv_sub (l' := [(0, va_rf v0), (1, .int (i32 v1)), (2, .int (i32 0)), (3, .int (i32 (gn σ a9 : Int)))]) hl [2, 3, 1, 0] rfl) hc
theorem okC_J7_fill_53178 (hl0 : l.stackTraces = false) (hT : TyC cA tys) {Q : Sg → Unit → Prop} {X : Sg → String → Prop} (σ : Sg) (v0 : Option Nat) (v1 : Int) (g0 : tyV σ 100 v0) (g1 : rng v1) (hG : RG σ) (hY : TY σ) (h : wpC_J7_fill_53178 v0 v1 σ Q X) : Ok l D cA tys A yJ7_fill_53178 (.code yJ7_fill_53178 cJ7_fill_53178 4 none) 0 0 [va_rf v0, .int (i32 v1)] σ (QcV σ Q) (QxC σ X) := by
  unfold wpC_J7_fill_53178 at h
  exact oc_VF hl0 (by decide +kernel) (by cases v0 <;> exact Nat.le_of_ble_eq_true rfl) hT (fun p e R s m args below meth c K hQ hX hTh H locs ls hH hl hc => aC_J7_fill_53178_0 K hQ hX hTh σ v0 v1 g0 g1 h hG hY (Ext.rfl' σ) H locs ls hH (lv_sub (l' := [(0, va_rf v0), (1, .int (i32 v1))]) hl [0, 1] (by cases v0 <;> rfl)) hc)
theorem dC_J9_floorDiv_f86c9_0 : decode cJ9_floorDiv_f86c9 0 = .ok (.lload_n 0, 1) := by decide +kernel
theorem dC_J9_floorDiv_f86c9_1 : decode cJ9_floorDiv_f86c9 1 = .ok (.lload_n 2, 1) := by decide +kernel
theorem dC_J9_floorDiv_f86c9_2 : decode cJ9_floorDiv_f86c9 2 = .ok (.ldiv, 1) := by decide +kernel
theorem dC_J9_floorDiv_f86c9_3 : decode cJ9_floorDiv_f86c9 3 = .ok (.lstore 4, 2) := by decide +kernel
theorem dC_J9_floorDiv_f86c9_5 : decode cJ9_floorDiv_f86c9 5 = .ok (.lload_n 0, 1) := by decide +kernel
theorem dC_J9_floorDiv_f86c9_6 : decode cJ9_floorDiv_f86c9 6 = .ok (.lload_n 2, 1) := by decide +kernel
theorem dC_J9_floorDiv_f86c9_7 : decode cJ9_floorDiv_f86c9 7 = .ok (.lxor, 1) := by decide +kernel
theorem dC_J9_floorDiv_f86c9_8 : decode cJ9_floorDiv_f86c9 8 = .ok (.lconst 0, 1) := by decide +kernel
theorem dC_J9_floorDiv_f86c9_9 : decode cJ9_floorDiv_f86c9 9 = .ok (.lcmp, 1) := by decide +kernel
theorem dC_J9_floorDiv_f86c9_10 : decode cJ9_floorDiv_f86c9 10 = .ok (.ifCond .ge 17, 3) := by decide +kernel
theorem dC_J9_floorDiv_f86c9_13 : decode cJ9_floorDiv_f86c9 13 = .ok (.lload 4, 2) := by decide +kernel
theorem dC_J9_floorDiv_f86c9_15 : decode cJ9_floorDiv_f86c9 15 = .ok (.lload_n 2, 1) := by decide +kernel
theorem dC_J9_floorDiv_f86c9_16 : decode cJ9_floorDiv_f86c9 16 = .ok (.lmul, 1) := by decide +kernel
theorem dC_J9_floorDiv_f86c9_17 : decode cJ9_floorDiv_f86c9 17 = .ok (.lload_n 0, 1) := by decide +kernel
theorem dC_J9_floorDiv_f86c9_18 : decode cJ9_floorDiv_f86c9 18 = .ok (.lcmp, 1) := by decide +kernel
theorem dC_J9_floorDiv_f86c9_19 : decode cJ9_floorDiv_f86c9 19 = .ok (.ifCond .eq 8, 3) := by decide +kernel
theorem dC_J9_floorDiv_f86c9_22 : decode cJ9_floorDiv_f86c9 22 = .ok (.lload 4, 2) := by decide +kernel
theorem dC_J9_floorDiv_f86c9_24 : decode cJ9_floorDiv_f86c9 24 = .ok (.lconst 1, 1) := by decide +kernel
theorem dC_J9_floorDiv_f86c9_25 : decode cJ9_floorDiv_f86c9 25 = .ok (.lsub, 1) := by decide +kernel
theorem dC_J9_floorDiv_f86c9_26 : decode cJ9_floorDiv_f86c9 26 = .ok (.lreturn, 1) := by decide +kernel
theorem dC_J9_floorDiv_f86c9_27 : decode cJ9_floorDiv_f86c9 27 = .ok (.lload 4, 2) := by decide +kernel
theorem dC_J9_floorDiv_f86c9_29 : decode cJ9_floorDiv_f86c9 29 = .ok (.lreturn, 1) := by decide +kernel
set_option maxRecDepth 20000 in
theorem aC_J9_floorDiv_f86c9_27 {Q : Sg → Int64 → Prop} {X : Sg → String → Prop} (K : MD l R p s m args c cJ9_floorDiv_f86c9 6 yJ9_floorDiv_f86c9.cls D cA tys A n0 s0 0 0 []) (hQ : CQJ p l e R s m args below meth c cJ9_floorDiv_f86c9 D cA A n0 s0 QM σi Q) (hX : CX p l e R s m args below meth c 6 D cA A n0 s0 QM σi X) (hTh : CT p l e R s m args below meth c cJ9_floorDiv_f86c9 6 D cA A n0 s0 QM σi yJ9_floorDiv_f86c9.cls X) : ∀ (σ : Sg) (v4 : Int64), wC_J9_floorDiv_f86c9_27 Q X σ v4 → RG σ → TY σ → Ext σi σ → JJ p l e R s m args below meth c 6 D cA A n0 s0 QM σ 27 [(4, .long v4)] [] := by
  intro σ v4 h hGσ hYσ hE H locs ls hH hl hc
  have B := K.1
  have hl9 := K.2.2.2.2.2.2
  unfold wC_J9_floorDiv_f86c9_27 at h
  refine lv_lload B.1 B.2.1 dC_J9_floorDiv_f86c9_27 (lv_at hl 0 rfl) ?_
  exact hQ _ _ _ _ _ _ dC_J9_floorDiv_f86c9_29 hH hc h hGσ hYσ hE
set_option maxRecDepth 20000 in
theorem aC_J9_floorDiv_f86c9_22 {Q : Sg → Int64 → Prop} {X : Sg → String → Prop} (K : MD l R p s m args c cJ9_floorDiv_f86c9 6 yJ9_floorDiv_f86c9.cls D cA tys A n0 s0 0 0 []) (hQ : CQJ p l e R s m args below meth c cJ9_floorDiv_f86c9 D cA A n0 s0 QM σi Q) (hX : CX p l e R s m args below meth c 6 D cA A n0 s0 QM σi X) (hTh : CT p l e R s m args below meth c cJ9_floorDiv_f86c9 6 D cA A n0 s0 QM σi yJ9_floorDiv_f86c9.cls X) : ∀ (σ : Sg) (v4 : Int64), wC_J9_floorDiv_f86c9_22 Q X σ v4 → RG σ → TY σ → Ext σi σ → JJ p l e R s m args below meth c 6 D cA A n0 s0 QM σ 22 [(4, .long v4)] [] := by
  intro σ v4 h hGσ hYσ hE H locs ls hH hl hc
  have B := K.1
  have hl9 := K.2.2.2.2.2.2
  unfold wC_J9_floorDiv_f86c9_22 at h
  refine lv_lload B.1 B.2.1 dC_J9_floorDiv_f86c9_22 (lv_at hl 0 rfl) ?_
  refine lv_lconst (v := 1) B.1 B.2.1 dC_J9_floorDiv_f86c9_24 (by decide) ?_
  refine lv_lsub B.1 B.2.1 dC_J9_floorDiv_f86c9_25 ?_
  exact hQ _ _ _ _ _ _ dC_J9_floorDiv_f86c9_26 hH hc h hGσ hYσ hE
set_option maxRecDepth 20000 in
theorem aC_J9_floorDiv_f86c9_13 {Q : Sg → Int64 → Prop} {X : Sg → String → Prop} (K : MD l R p s m args c cJ9_floorDiv_f86c9 6 yJ9_floorDiv_f86c9.cls D cA tys A n0 s0 0 0 []) (hQ : CQJ p l e R s m args below meth c cJ9_floorDiv_f86c9 D cA A n0 s0 QM σi Q) (hX : CX p l e R s m args below meth c 6 D cA A n0 s0 QM σi X) (hTh : CT p l e R s m args below meth c cJ9_floorDiv_f86c9 6 D cA A n0 s0 QM σi yJ9_floorDiv_f86c9.cls X) : ∀ (σ : Sg) (v0 : Int64) (v2 : Int64) (v4 : Int64), wC_J9_floorDiv_f86c9_13 Q X σ v0 v2 v4 → RG σ → TY σ → Ext σi σ → JJ p l e R s m args below meth c 6 D cA A n0 s0 QM σ 13 [(0, .long v0), (2, .long v2), (4, .long v4)] [] := by
  intro σ v0 v2 v4 h hGσ hYσ hE H locs ls hH hl hc
  have B := K.1
  have hl9 := K.2.2.2.2.2.2
  unfold wC_J9_floorDiv_f86c9_13 at h
  refine lv_lload B.1 B.2.1 dC_J9_floorDiv_f86c9_13 (lv_at hl 2 rfl) ?_
  refine lv_lload_n B.1 B.2.1 dC_J9_floorDiv_f86c9_15 rfl (lv_at hl 1 rfl) ?_
  refine lv_lmul B.1 B.2.1 dC_J9_floorDiv_f86c9_16 ?_
  refine lv_lload_n B.1 B.2.1 dC_J9_floorDiv_f86c9_17 rfl (lv_at hl 0 rfl) ?_
  refine W.lcmp B.1 B.2.1 dC_J9_floorDiv_f86c9_18 ?_
  refine lv_if_eq (tgt := 27) B.1 B.2.1 dC_J9_floorDiv_f86c9_19 (by decide) (fun h9 => ?_) (fun h9 => ?_)
  · rw [if_pos ((lg_cmp_eq _ _).mp h9)] at h
    exact aC_J9_floorDiv_f86c9_27 K hQ hX hTh _ _ h hGσ hYσ hE _ _ _ hH (lv_sub (l' := [(4, .long v4)]) hl [2] rfl) hc
  · rw [if_neg (fun q => h9 ((lg_cmp_eq _ _).mpr q))] at h
    exact aC_J9_floorDiv_f86c9_22 K hQ hX hTh _ _ h hGσ hYσ hE _ _ _ hH (lv_sub (l' := [(4, .long v4)]) hl [2] rfl) hc
set_option maxRecDepth 20000 in
theorem aC_J9_floorDiv_f86c9_0 {Q : Sg → Int64 → Prop} {X : Sg → String → Prop} (K : MD l R p s m args c cJ9_floorDiv_f86c9 6 yJ9_floorDiv_f86c9.cls D cA tys A n0 s0 0 0 []) (hQ : CQJ p l e R s m args below meth c cJ9_floorDiv_f86c9 D cA A n0 s0 QM σi Q) (hX : CX p l e R s m args below meth c 6 D cA A n0 s0 QM σi X) (hTh : CT p l e R s m args below meth c cJ9_floorDiv_f86c9 6 D cA A n0 s0 QM σi yJ9_floorDiv_f86c9.cls X) : ∀ (σ : Sg) (v0 : Int64) (v2 : Int64), wC_J9_floorDiv_f86c9_0 Q X σ v0 v2 → RG σ → TY σ → Ext σi σ → JJ p l e R s m args below meth c 6 D cA A n0 s0 QM σ 0 [(0, .long v0), (2, .long v2)] [] := by
  intro σ v0 v2 h hGσ hYσ hE H locs ls hH hl hc
  have B := K.1
  have hl9 := K.2.2.2.2.2.2
  unfold wC_J9_floorDiv_f86c9_0 at h
  refine lv_lload_n B.1 B.2.1 dC_J9_floorDiv_f86c9_0 rfl (lv_at hl 0 rfl) ?_
  refine lv_lload_n B.1 B.2.1 dC_J9_floorDiv_f86c9_1 rfl (lv_at hl 1 rfl) ?_
  obtain ⟨q1, h⟩ := h
  refine lv_ldiv B.1 B.2.1 dC_J9_floorDiv_f86c9_2 q1 ?_
  refine lv_lstore (lv' := [(4, .long (v0 / v2)), (0, .long v0), (2, .long v2)]) B.1 B.2.1 dC_J9_floorDiv_f86c9_3 hl (by decide) rfl (fun ls hl => ?_)
  refine lv_lload_n B.1 B.2.1 dC_J9_floorDiv_f86c9_5 rfl (lv_at hl 1 rfl) ?_
  refine lv_lload_n B.1 B.2.1 dC_J9_floorDiv_f86c9_6 rfl (lv_at hl 2 rfl) ?_
  refine lv_lxor B.1 B.2.1 dC_J9_floorDiv_f86c9_7 ?_
  refine lv_lconst (v := 0) B.1 B.2.1 dC_J9_floorDiv_f86c9_8 (by decide) ?_
  refine W.lcmp B.1 B.2.1 dC_J9_floorDiv_f86c9_9 ?_
  refine lv_if_ge (tgt := 27) B.1 B.2.1 dC_J9_floorDiv_f86c9_10 (by decide) (fun h9 => ?_) (fun h9 => ?_)
  · rw [if_pos ((lg_cmp_ge _ _).mp h9)] at h
    exact aC_J9_floorDiv_f86c9_27 K hQ hX hTh _ _ h hGσ hYσ hE _ _ _ hH (lv_sub (l' := [(4, .long (v0 / v2))]) hl [0] rfl) hc
  · rw [if_neg (fun q => h9 ((lg_cmp_ge _ _).mpr q))] at h
    exact aC_J9_floorDiv_f86c9_13 K hQ hX hTh _ _ _ _ h hGσ hYσ hE _ _ _ hH (lv_sub (l' := [(0, .long v0), (2, .long v2), (4, .long (v0 / v2))]) hl [1, 2, 0] rfl) hc
theorem okC_J9_floorDiv_f86c9 (hl0 : l.stackTraces = false) (hT : TyC cA tys) {Q : Sg → Int64 → Prop} {X : Sg → String → Prop} (σ : Sg) (v0 : Int64) (v2 : Int64) (hG : RG σ) (hY : TY σ) (h : wpC_J9_floorDiv_f86c9 v0 v2 σ Q X) : Ok l D cA tys A yJ9_floorDiv_f86c9 (.code yJ9_floorDiv_f86c9 cJ9_floorDiv_f86c9 6 (some .long)) 0 0 [.long v0, .long v2] σ (QcJ σ Q) (QxC σ X) := by
  unfold wpC_J9_floorDiv_f86c9 at h
  exact oc_JF hl0 (by decide +kernel) (by exact Nat.le_of_ble_eq_true rfl) hT (fun p e R s m args below meth c K hQ hX hTh H locs ls hH hl hc => aC_J9_floorDiv_f86c9_0 K hQ hX hTh σ v0 v2 h hG hY (Ext.rfl' σ) H locs ls hH (lv_sub (l' := [(0, .long v0), (2, .long v2)]) hl [0, 1] rfl) hc)
theorem dC_J9_max_7cf53_0 : decode cJ9_max_7cf53 0 = .ok (.iload_n 0, 1) := by decide +kernel
theorem dC_J9_max_7cf53_1 : decode cJ9_max_7cf53 1 = .ok (.iload_n 1, 1) := by decide +kernel
theorem dC_J9_max_7cf53_2 : decode cJ9_max_7cf53 2 = .ok (.if_icmp .lt 7, 3) := by decide +kernel
theorem dC_J9_max_7cf53_5 : decode cJ9_max_7cf53 5 = .ok (.iload_n 0, 1) := by decide +kernel
theorem dC_J9_max_7cf53_6 : decode cJ9_max_7cf53 6 = .ok (.goto 4, 3) := by decide +kernel
theorem dC_J9_max_7cf53_9 : decode cJ9_max_7cf53 9 = .ok (.iload_n 1, 1) := by decide +kernel
theorem dC_J9_max_7cf53_10 : decode cJ9_max_7cf53 10 = .ok (.ireturn, 1) := by decide +kernel
set_option maxRecDepth 20000 in
theorem aC_J9_max_7cf53_10 {Q : Sg → Int → Prop} {X : Sg → String → Prop} (K : MD l R p s m args c cJ9_max_7cf53 2 yJ9_max_7cf53.cls D cA tys A n0 s0 0 0 []) (hQ : CQI p l e R s m args below meth c cJ9_max_7cf53 D cA A n0 s0 QM σi Q) (hX : CX p l e R s m args below meth c 2 D cA A n0 s0 QM σi X) (hTh : CT p l e R s m args below meth c cJ9_max_7cf53 2 D cA A n0 s0 QM σi yJ9_max_7cf53.cls X) : ∀ (σ : Sg) (u0 : Int) (gu0 : rng u0), wC_J9_max_7cf53_10 Q X σ u0 → RG σ → TY σ → Ext σi σ → JJ p l e R s m args below meth c 2 D cA A n0 s0 QM σ 10 [] [.int (i32 u0)] := by
  intro σ u0 gu0 h hGσ hYσ hE H locs ls hH hl hc
  have B := K.1
  have hl9 := K.2.2.2.2.2.2
  unfold wC_J9_max_7cf53_10 at h
  exact hQ _ _ _ _ _ _ gu0 dC_J9_max_7cf53_10 hH hc h hGσ hYσ hE
set_option maxRecDepth 20000 in
theorem aC_J9_max_7cf53_9 {Q : Sg → Int → Prop} {X : Sg → String → Prop} (K : MD l R p s m args c cJ9_max_7cf53 2 yJ9_max_7cf53.cls D cA tys A n0 s0 0 0 []) (hQ : CQI p l e R s m args below meth c cJ9_max_7cf53 D cA A n0 s0 QM σi Q) (hX : CX p l e R s m args below meth c 2 D cA A n0 s0 QM σi X) (hTh : CT p l e R s m args below meth c cJ9_max_7cf53 2 D cA A n0 s0 QM σi yJ9_max_7cf53.cls X) : ∀ (σ : Sg) (v1 : Int) (g1 : rng v1), wC_J9_max_7cf53_9 Q X σ v1 → RG σ → TY σ → Ext σi σ → JJ p l e R s m args below meth c 2 D cA A n0 s0 QM σ 9 [(1, .int (i32 v1))] [] := by
  intro σ v1 g1 h hGσ hYσ hE H locs ls hH hl hc
  have B := K.1
  have hl9 := K.2.2.2.2.2.2
  unfold wC_J9_max_7cf53_9 at h
  refine lv_iload_n B.1 B.2.1 dC_J9_max_7cf53_9 rfl (lv_at hl 0 rfl) ?_
  exact aC_J9_max_7cf53_10 K hQ hX hTh _ _ g1 h hGσ hYσ hE _ _ _ hH (lv_sub (l' := []) hl [] rfl) hc
set_option maxRecDepth 20000 in
theorem aC_J9_max_7cf53_5 {Q : Sg → Int → Prop} {X : Sg → String → Prop} (K : MD l R p s m args c cJ9_max_7cf53 2 yJ9_max_7cf53.cls D cA tys A n0 s0 0 0 []) (hQ : CQI p l e R s m args below meth c cJ9_max_7cf53 D cA A n0 s0 QM σi Q) (hX : CX p l e R s m args below meth c 2 D cA A n0 s0 QM σi X) (hTh : CT p l e R s m args below meth c cJ9_max_7cf53 2 D cA A n0 s0 QM σi yJ9_max_7cf53.cls X) : ∀ (σ : Sg) (v0 : Int) (g0 : rng v0), wC_J9_max_7cf53_5 Q X σ v0 → RG σ → TY σ → Ext σi σ → JJ p l e R s m args below meth c 2 D cA A n0 s0 QM σ 5 [(0, .int (i32 v0))] [] := by
  intro σ v0 g0 h hGσ hYσ hE H locs ls hH hl hc
  have B := K.1
  have hl9 := K.2.2.2.2.2.2
  unfold wC_J9_max_7cf53_5 at h
  refine lv_iload_n B.1 B.2.1 dC_J9_max_7cf53_5 rfl (lv_at hl 0 rfl) ?_
  refine lv_goto (tgt := 10) B.1 B.2.1 dC_J9_max_7cf53_6 (by decide) ?_
  exact aC_J9_max_7cf53_10 K hQ hX hTh _ _ g0 h hGσ hYσ hE _ _ _ hH (lv_sub (l' := []) hl [] rfl) hc
set_option maxRecDepth 20000 in
theorem aC_J9_max_7cf53_0 {Q : Sg → Int → Prop} {X : Sg → String → Prop} (K : MD l R p s m args c cJ9_max_7cf53 2 yJ9_max_7cf53.cls D cA tys A n0 s0 0 0 []) (hQ : CQI p l e R s m args below meth c cJ9_max_7cf53 D cA A n0 s0 QM σi Q) (hX : CX p l e R s m args below meth c 2 D cA A n0 s0 QM σi X) (hTh : CT p l e R s m args below meth c cJ9_max_7cf53 2 D cA A n0 s0 QM σi yJ9_max_7cf53.cls X) : ∀ (σ : Sg) (v0 : Int) (v1 : Int) (g0 : rng v0) (g1 : rng v1), wC_J9_max_7cf53_0 Q X σ v0 v1 → RG σ → TY σ → Ext σi σ → JJ p l e R s m args below meth c 2 D cA A n0 s0 QM σ 0 [(0, .int (i32 v0)), (1, .int (i32 v1))] [] := by
  intro σ v0 v1 g0 g1 h hGσ hYσ hE H locs ls hH hl hc
  have B := K.1
  have hl9 := K.2.2.2.2.2.2
  unfold wC_J9_max_7cf53_0 at h
  refine lv_iload_n B.1 B.2.1 dC_J9_max_7cf53_0 rfl (lv_at hl 0 rfl) ?_
  refine lv_iload_n B.1 B.2.1 dC_J9_max_7cf53_1 rfl (lv_at hl 1 rfl) ?_
  refine lv_icmp_lt (tgt := 9) B.1 B.2.1 dC_J9_max_7cf53_2 (by decide) (fun h9 => ?_) (fun h9 => ?_)
  · rw [if_pos ((i32_lt g0 g1).mp h9)] at h
    exact aC_J9_max_7cf53_9 K hQ hX hTh _ _ g1 h hGσ hYσ hE _ _ _ hH (lv_sub (l' := [(1, .int (i32 v1))]) hl [1] rfl) hc
  · rw [if_neg (fun q => h9 ((i32_lt g0 g1).mpr q))] at h
    exact aC_J9_max_7cf53_5 K hQ hX hTh _ _ g0 h hGσ hYσ hE _ _ _ hH (lv_sub (l' := [(0, .int (i32 v0))]) hl [0] rfl) hc
theorem okC_J9_max_7cf53 (hl0 : l.stackTraces = false) (hT : TyC cA tys) {Q : Sg → Int → Prop} {X : Sg → String → Prop} (σ : Sg) (v0 : Int) (v1 : Int) (g0 : rng v0) (g1 : rng v1) (hG : RG σ) (hY : TY σ) (h : wpC_J9_max_7cf53 v0 v1 σ Q X) : Ok l D cA tys A yJ9_max_7cf53 (.code yJ9_max_7cf53 cJ9_max_7cf53 2 (some .int)) 0 0 [.int (i32 v0), .int (i32 v1)] σ (QcI σ Q) (QxC σ X) := by
  unfold wpC_J9_max_7cf53 at h
  exact oc_IF hl0 (by decide +kernel) (by exact Nat.le_of_ble_eq_true rfl) hT (fun p e R s m args below meth c K hQ hX hTh H locs ls hH hl hc => aC_J9_max_7cf53_0 K hQ hX hTh σ v0 v1 g0 g1 h hG hY (Ext.rfl' σ) H locs ls hH (lv_sub (l' := [(0, .int (i32 v0)), (1, .int (i32 v1))]) hl [0, 1] rfl) hc)
theorem dC_J9_max_f86c9_0 : decode cJ9_max_f86c9 0 = .ok (.lload_n 0, 1) := by decide +kernel
theorem dC_J9_max_f86c9_1 : decode cJ9_max_f86c9 1 = .ok (.lload_n 2, 1) := by decide +kernel
theorem dC_J9_max_f86c9_2 : decode cJ9_max_f86c9 2 = .ok (.lcmp, 1) := by decide +kernel
theorem dC_J9_max_f86c9_3 : decode cJ9_max_f86c9 3 = .ok (.ifCond .lt 7, 3) := by decide +kernel
theorem dC_J9_max_f86c9_6 : decode cJ9_max_f86c9 6 = .ok (.lload_n 0, 1) := by decide +kernel
theorem dC_J9_max_f86c9_7 : decode cJ9_max_f86c9 7 = .ok (.goto 4, 3) := by decide +kernel
theorem dC_J9_max_f86c9_10 : decode cJ9_max_f86c9 10 = .ok (.lload_n 2, 1) := by decide +kernel
theorem dC_J9_max_f86c9_11 : decode cJ9_max_f86c9 11 = .ok (.lreturn, 1) := by decide +kernel
set_option maxRecDepth 20000 in
theorem aC_J9_max_f86c9_11 {Q : Sg → Int64 → Prop} {X : Sg → String → Prop} (K : MD l R p s m args c cJ9_max_f86c9 4 yJ9_max_f86c9.cls D cA tys A n0 s0 0 0 []) (hQ : CQJ p l e R s m args below meth c cJ9_max_f86c9 D cA A n0 s0 QM σi Q) (hX : CX p l e R s m args below meth c 4 D cA A n0 s0 QM σi X) (hTh : CT p l e R s m args below meth c cJ9_max_f86c9 4 D cA A n0 s0 QM σi yJ9_max_f86c9.cls X) : ∀ (σ : Sg) (u0 : Int64), wC_J9_max_f86c9_11 Q X σ u0 → RG σ → TY σ → Ext σi σ → JJ p l e R s m args below meth c 4 D cA A n0 s0 QM σ 11 [] [.long u0] := by
  intro σ u0 h hGσ hYσ hE H locs ls hH hl hc
  have B := K.1
  have hl9 := K.2.2.2.2.2.2
  unfold wC_J9_max_f86c9_11 at h
  exact hQ _ _ _ _ _ _ dC_J9_max_f86c9_11 hH hc h hGσ hYσ hE
set_option maxRecDepth 20000 in
theorem aC_J9_max_f86c9_10 {Q : Sg → Int64 → Prop} {X : Sg → String → Prop} (K : MD l R p s m args c cJ9_max_f86c9 4 yJ9_max_f86c9.cls D cA tys A n0 s0 0 0 []) (hQ : CQJ p l e R s m args below meth c cJ9_max_f86c9 D cA A n0 s0 QM σi Q) (hX : CX p l e R s m args below meth c 4 D cA A n0 s0 QM σi X) (hTh : CT p l e R s m args below meth c cJ9_max_f86c9 4 D cA A n0 s0 QM σi yJ9_max_f86c9.cls X) : ∀ (σ : Sg) (v2 : Int64), wC_J9_max_f86c9_10 Q X σ v2 → RG σ → TY σ → Ext σi σ → JJ p l e R s m args below meth c 4 D cA A n0 s0 QM σ 10 [(2, .long v2)] [] := by
  intro σ v2 h hGσ hYσ hE H locs ls hH hl hc
  have B := K.1
  have hl9 := K.2.2.2.2.2.2
  unfold wC_J9_max_f86c9_10 at h
  refine lv_lload_n B.1 B.2.1 dC_J9_max_f86c9_10 rfl (lv_at hl 0 rfl) ?_
  exact aC_J9_max_f86c9_11 K hQ hX hTh _ _ h hGσ hYσ hE _ _ _ hH (lv_sub (l' := []) hl [] rfl) hc
set_option maxRecDepth 20000 in
theorem aC_J9_max_f86c9_6 {Q : Sg → Int64 → Prop} {X : Sg → String → Prop} (K : MD l R p s m args c cJ9_max_f86c9 4 yJ9_max_f86c9.cls D cA tys A n0 s0 0 0 []) (hQ : CQJ p l e R s m args below meth c cJ9_max_f86c9 D cA A n0 s0 QM σi Q) (hX : CX p l e R s m args below meth c 4 D cA A n0 s0 QM σi X) (hTh : CT p l e R s m args below meth c cJ9_max_f86c9 4 D cA A n0 s0 QM σi yJ9_max_f86c9.cls X) : ∀ (σ : Sg) (v0 : Int64), wC_J9_max_f86c9_6 Q X σ v0 → RG σ → TY σ → Ext σi σ → JJ p l e R s m args below meth c 4 D cA A n0 s0 QM σ 6 [(0, .long v0)] [] := by
  intro σ v0 h hGσ hYσ hE H locs ls hH hl hc
  have B := K.1
  have hl9 := K.2.2.2.2.2.2
  unfold wC_J9_max_f86c9_6 at h
  refine lv_lload_n B.1 B.2.1 dC_J9_max_f86c9_6 rfl (lv_at hl 0 rfl) ?_
  refine lv_goto (tgt := 11) B.1 B.2.1 dC_J9_max_f86c9_7 (by decide) ?_
  exact aC_J9_max_f86c9_11 K hQ hX hTh _ _ h hGσ hYσ hE _ _ _ hH (lv_sub (l' := []) hl [] rfl) hc
set_option maxRecDepth 20000 in
theorem aC_J9_max_f86c9_0 {Q : Sg → Int64 → Prop} {X : Sg → String → Prop} (K : MD l R p s m args c cJ9_max_f86c9 4 yJ9_max_f86c9.cls D cA tys A n0 s0 0 0 []) (hQ : CQJ p l e R s m args below meth c cJ9_max_f86c9 D cA A n0 s0 QM σi Q) (hX : CX p l e R s m args below meth c 4 D cA A n0 s0 QM σi X) (hTh : CT p l e R s m args below meth c cJ9_max_f86c9 4 D cA A n0 s0 QM σi yJ9_max_f86c9.cls X) : ∀ (σ : Sg) (v0 : Int64) (v2 : Int64), wC_J9_max_f86c9_0 Q X σ v0 v2 → RG σ → TY σ → Ext σi σ → JJ p l e R s m args below meth c 4 D cA A n0 s0 QM σ 0 [(0, .long v0), (2, .long v2)] [] := by
  intro σ v0 v2 h hGσ hYσ hE H locs ls hH hl hc
  have B := K.1
  have hl9 := K.2.2.2.2.2.2
  unfold wC_J9_max_f86c9_0 at h
  refine lv_lload_n B.1 B.2.1 dC_J9_max_f86c9_0 rfl (lv_at hl 0 rfl) ?_
  refine lv_lload_n B.1 B.2.1 dC_J9_max_f86c9_1 rfl (lv_at hl 1 rfl) ?_
  refine W.lcmp B.1 B.2.1 dC_J9_max_f86c9_2 ?_
  refine lv_if_lt (tgt := 10) B.1 B.2.1 dC_J9_max_f86c9_3 (by decide) (fun h9 => ?_) (fun h9 => ?_)
  · rw [if_pos ((lg_cmp_lt _ _).mp h9)] at h
    exact aC_J9_max_f86c9_10 K hQ hX hTh _ _ h hGσ hYσ hE _ _ _ hH (lv_sub (l' := [(2, .long v2)]) hl [1] rfl) hc
  · rw [if_neg (fun q => h9 ((lg_cmp_lt _ _).mpr q))] at h
    exact aC_J9_max_f86c9_6 K hQ hX hTh _ _ h hGσ hYσ hE _ _ _ hH (lv_sub (l' := [(0, .long v0)]) hl [0] rfl) hc
theorem okC_J9_max_f86c9 (hl0 : l.stackTraces = false) (hT : TyC cA tys) {Q : Sg → Int64 → Prop} {X : Sg → String → Prop} (σ : Sg) (v0 : Int64) (v2 : Int64) (hG : RG σ) (hY : TY σ) (h : wpC_J9_max_f86c9 v0 v2 σ Q X) : Ok l D cA tys A yJ9_max_f86c9 (.code yJ9_max_f86c9 cJ9_max_f86c9 4 (some .long)) 0 0 [.long v0, .long v2] σ (QcJ σ Q) (QxC σ X) := by
  unfold wpC_J9_max_f86c9 at h
  exact oc_JF hl0 (by decide +kernel) (by exact Nat.le_of_ble_eq_true rfl) hT (fun p e R s m args below meth c K hQ hX hTh H locs ls hH hl hc => aC_J9_max_f86c9_0 K hQ hX hTh σ v0 v2 h hG hY (Ext.rfl' σ) H locs ls hH (lv_sub (l' := [(0, .long v0), (2, .long v2)]) hl [0, 1] rfl) hc)
theorem dC_J9_min_f86c9_0 : decode cJ9_min_f86c9 0 = .ok (.lload_n 0, 1) := by decide +kernel
theorem dC_J9_min_f86c9_1 : decode cJ9_min_f86c9 1 = .ok (.lload_n 2, 1) := by decide +kernel
theorem dC_J9_min_f86c9_2 : decode cJ9_min_f86c9 2 = .ok (.lcmp, 1) := by decide +kernel
theorem dC_J9_min_f86c9_3 : decode cJ9_min_f86c9 3 = .ok (.ifCond .gt 7, 3) := by decide +kernel
theorem dC_J9_min_f86c9_6 : decode cJ9_min_f86c9 6 = .ok (.lload_n 0, 1) := by decide +kernel
theorem dC_J9_min_f86c9_7 : decode cJ9_min_f86c9 7 = .ok (.goto 4, 3) := by decide +kernel
theorem dC_J9_min_f86c9_10 : decode cJ9_min_f86c9 10 = .ok (.lload_n 2, 1) := by decide +kernel
theorem dC_J9_min_f86c9_11 : decode cJ9_min_f86c9 11 = .ok (.lreturn, 1) := by decide +kernel
set_option maxRecDepth 20000 in
theorem aC_J9_min_f86c9_11 {Q : Sg → Int64 → Prop} {X : Sg → String → Prop} (K : MD l R p s m args c cJ9_min_f86c9 4 yJ9_min_f86c9.cls D cA tys A n0 s0 0 0 []) (hQ : CQJ p l e R s m args below meth c cJ9_min_f86c9 D cA A n0 s0 QM σi Q) (hX : CX p l e R s m args below meth c 4 D cA A n0 s0 QM σi X) (hTh : CT p l e R s m args below meth c cJ9_min_f86c9 4 D cA A n0 s0 QM σi yJ9_min_f86c9.cls X) : ∀ (σ : Sg) (u0 : Int64), wC_J9_min_f86c9_11 Q X σ u0 → RG σ → TY σ → Ext σi σ → JJ p l e R s m args below meth c 4 D cA A n0 s0 QM σ 11 [] [.long u0] := by
  intro σ u0 h hGσ hYσ hE H locs ls hH hl hc
  have B := K.1
  have hl9 := K.2.2.2.2.2.2
  unfold wC_J9_min_f86c9_11 at h
  exact hQ _ _ _ _ _ _ dC_J9_min_f86c9_11 hH hc h hGσ hYσ hE
set_option maxRecDepth 20000 in
theorem aC_J9_min_f86c9_10 {Q : Sg → Int64 → Prop} {X : Sg → String → Prop} (K : MD l R p s m args c cJ9_min_f86c9 4 yJ9_min_f86c9.cls D cA tys A n0 s0 0 0 []) (hQ : CQJ p l e R s m args below meth c cJ9_min_f86c9 D cA A n0 s0 QM σi Q) (hX : CX p l e R s m args below meth c 4 D cA A n0 s0 QM σi X) (hTh : CT p l e R s m args below meth c cJ9_min_f86c9 4 D cA A n0 s0 QM σi yJ9_min_f86c9.cls X) : ∀ (σ : Sg) (v2 : Int64), wC_J9_min_f86c9_10 Q X σ v2 → RG σ → TY σ → Ext σi σ → JJ p l e R s m args below meth c 4 D cA A n0 s0 QM σ 10 [(2, .long v2)] [] := by
  intro σ v2 h hGσ hYσ hE H locs ls hH hl hc
  have B := K.1
  have hl9 := K.2.2.2.2.2.2
  unfold wC_J9_min_f86c9_10 at h
  refine lv_lload_n B.1 B.2.1 dC_J9_min_f86c9_10 rfl (lv_at hl 0 rfl) ?_
  exact aC_J9_min_f86c9_11 K hQ hX hTh _ _ h hGσ hYσ hE _ _ _ hH (lv_sub (l' := []) hl [] rfl) hc
set_option maxRecDepth 20000 in
theorem aC_J9_min_f86c9_6 {Q : Sg → Int64 → Prop} {X : Sg → String → Prop} (K : MD l R p s m args c cJ9_min_f86c9 4 yJ9_min_f86c9.cls D cA tys A n0 s0 0 0 []) (hQ : CQJ p l e R s m args below meth c cJ9_min_f86c9 D cA A n0 s0 QM σi Q) (hX : CX p l e R s m args below meth c 4 D cA A n0 s0 QM σi X) (hTh : CT p l e R s m args below meth c cJ9_min_f86c9 4 D cA A n0 s0 QM σi yJ9_min_f86c9.cls X) : ∀ (σ : Sg) (v0 : Int64), wC_J9_min_f86c9_6 Q X σ v0 → RG σ → TY σ → Ext σi σ → JJ p l e R s m args below meth c 4 D cA A n0 s0 QM σ 6 [(0, .long v0)] [] := by
  intro σ v0 h hGσ hYσ hE H locs ls hH hl hc
  have B := K.1
  have hl9 := K.2.2.2.2.2.2
  unfold wC_J9_min_f86c9_6 at h
  refine lv_lload_n B.1 B.2.1 dC_J9_min_f86c9_6 rfl (lv_at hl 0 rfl) ?_
  refine lv_goto (tgt := 11) B.1 B.2.1 dC_J9_min_f86c9_7 (by decide) ?_
  exact aC_J9_min_f86c9_11 K hQ hX hTh _ _ h hGσ hYσ hE _ _ _ hH (lv_sub (l' := []) hl [] rfl) hc
set_option maxRecDepth 20000 in
theorem aC_J9_min_f86c9_0 {Q : Sg → Int64 → Prop} {X : Sg → String → Prop} (K : MD l R p s m args c cJ9_min_f86c9 4 yJ9_min_f86c9.cls D cA tys A n0 s0 0 0 []) (hQ : CQJ p l e R s m args below meth c cJ9_min_f86c9 D cA A n0 s0 QM σi Q) (hX : CX p l e R s m args below meth c 4 D cA A n0 s0 QM σi X) (hTh : CT p l e R s m args below meth c cJ9_min_f86c9 4 D cA A n0 s0 QM σi yJ9_min_f86c9.cls X) : ∀ (σ : Sg) (v0 : Int64) (v2 : Int64), wC_J9_min_f86c9_0 Q X σ v0 v2 → RG σ → TY σ → Ext σi σ → JJ p l e R s m args below meth c 4 D cA A n0 s0 QM σ 0 [(0, .long v0), (2, .long v2)] [] := by
  intro σ v0 v2 h hGσ hYσ hE H locs ls hH hl hc
  have B := K.1
  have hl9 := K.2.2.2.2.2.2
  unfold wC_J9_min_f86c9_0 at h
  refine lv_lload_n B.1 B.2.1 dC_J9_min_f86c9_0 rfl (lv_at hl 0 rfl) ?_
  refine lv_lload_n B.1 B.2.1 dC_J9_min_f86c9_1 rfl (lv_at hl 1 rfl) ?_
  refine W.lcmp B.1 B.2.1 dC_J9_min_f86c9_2 ?_
  refine lv_if_gt (tgt := 10) B.1 B.2.1 dC_J9_min_f86c9_3 (by decide) (fun h9 => ?_) (fun h9 => ?_)
  · rw [if_pos ((lg_cmp_gt _ _).mp h9)] at h
    exact aC_J9_min_f86c9_10 K hQ hX hTh _ _ h hGσ hYσ hE _ _ _ hH (lv_sub (l' := [(2, .long v2)]) hl [1] rfl) hc
  · rw [if_neg (fun q => h9 ((lg_cmp_gt _ _).mpr q))] at h
    exact aC_J9_min_f86c9_6 K hQ hX hTh _ _ h hGσ hYσ hE _ _ _ hH (lv_sub (l' := [(0, .long v0)]) hl [0] rfl) hc
theorem okC_J9_min_f86c9 (hl0 : l.stackTraces = false) (hT : TyC cA tys) {Q : Sg → Int64 → Prop} {X : Sg → String → Prop} (σ : Sg) (v0 : Int64) (v2 : Int64) (hG : RG σ) (hY : TY σ) (h : wpC_J9_min_f86c9 v0 v2 σ Q X) : Ok l D cA tys A yJ9_min_f86c9 (.code yJ9_min_f86c9 cJ9_min_f86c9 4 (some .long)) 0 0 [.long v0, .long v2] σ (QcJ σ Q) (QxC σ X) := by
  unfold wpC_J9_min_f86c9 at h
  exact oc_JF hl0 (by decide +kernel) (by exact Nat.le_of_ble_eq_true rfl) hT (fun p e R s m args below meth c K hQ hX hTh H locs ls hH hl hc => aC_J9_min_f86c9_0 K hQ hX hTh σ v0 v2 h hG hY (Ext.rfl' σ) H locs ls hH (lv_sub (l' := [(0, .long v0), (2, .long v2)]) hl [0, 1] rfl) hc)
theorem dX4_emit_0 : decode cX4_emit 0 = .ok (.aload_n 0, 1) := by decide +kernel
theorem dX4_emit_1 : decode cX4_emit 1 = .ok (.getfield 60, 3) := by decide +kernel
theorem dX4_emit_4 : decode cX4_emit 4 = .ok (.aload_n 0, 1) := by decide +kernel
theorem dX4_emit_5 : decode cX4_emit 5 = .ok (.getfield 24, 3) := by decide +kernel
theorem dX4_emit_8 : decode cX4_emit 8 = .ok (.arraylength, 1) := by decide +kernel
theorem dX4_emit_9 : decode cX4_emit 9 = .ok (.if_icmp .lt 37, 3) := by decide +kernel
theorem dX4_emit_12 : decode cX4_emit 12 = .ok (.aload_n 0, 1) := by decide +kernel
theorem dX4_emit_13 : decode cX4_emit 13 = .ok (.aload_n 0, 1) := by decide +kernel
theorem dX4_emit_14 : decode cX4_emit 14 = .ok (.getfield 24, 3) := by decide +kernel
theorem dX4_emit_17 : decode cX4_emit 17 = .ok (.iconst 2, 1) := by decide +kernel
theorem dX4_emit_18 : decode cX4_emit 18 = .ok (.aload_n 0, 1) := by decide +kernel
theorem dX4_emit_19 : decode cX4_emit 19 = .ok (.getfield 60, 3) := by decide +kernel
theorem dX4_emit_22 : decode cX4_emit 22 = .ok (.imul, 1) := by decide +kernel
theorem dX4_emit_23 : decode cX4_emit 23 = .ok (.invokestatic 84, 3) := by decide +kernel
theorem dX4_emit_26 : decode cX4_emit 26 = .ok (.putfield 24, 3) := by decide +kernel
theorem dX4_emit_29 : decode cX4_emit 29 = .ok (.aload_n 0, 1) := by decide +kernel
theorem dX4_emit_30 : decode cX4_emit 30 = .ok (.aload_n 0, 1) := by decide +kernel
theorem dX4_emit_31 : decode cX4_emit 31 = .ok (.getfield 27, 3) := by decide +kernel
theorem dX4_emit_34 : decode cX4_emit 34 = .ok (.iconst 2, 1) := by decide +kernel
theorem dX4_emit_35 : decode cX4_emit 35 = .ok (.aload_n 0, 1) := by decide +kernel
theorem dX4_emit_36 : decode cX4_emit 36 = .ok (.getfield 60, 3) := by decide +kernel
theorem dX4_emit_39 : decode cX4_emit 39 = .ok (.imul, 1) := by decide +kernel
theorem dX4_emit_40 : decode cX4_emit 40 = .ok (.invokestatic 88, 3) := by decide +kernel
theorem dX4_emit_43 : decode cX4_emit 43 = .ok (.putfield 27, 3) := by decide +kernel
theorem dX4_emit_46 : decode cX4_emit 46 = .ok (.aload_n 0, 1) := by decide +kernel
theorem dX4_emit_47 : decode cX4_emit 47 = .ok (.getfield 24, 3) := by decide +kernel
theorem dX4_emit_50 : decode cX4_emit 50 = .ok (.aload_n 0, 1) := by decide +kernel
theorem dX4_emit_51 : decode cX4_emit 51 = .ok (.getfield 60, 3) := by decide +kernel
theorem dX4_emit_54 : decode cX4_emit 54 = .ok (.iload_n 1, 1) := by decide +kernel
theorem dX4_emit_55 : decode cX4_emit 55 = .ok (.iastore, 1) := by decide +kernel
theorem dX4_emit_56 : decode cX4_emit 56 = .ok (.aload_n 0, 1) := by decide +kernel
theorem dX4_emit_57 : decode cX4_emit 57 = .ok (.getfield 27, 3) := by decide +kernel
theorem dX4_emit_60 : decode cX4_emit 60 = .ok (.aload_n 0, 1) := by decide +kernel
theorem dX4_emit_61 : decode cX4_emit 61 = .ok (.getfield 60, 3) := by decide +kernel
theorem dX4_emit_64 : decode cX4_emit 64 = .ok (.lload_n 2, 1) := by decide +kernel
theorem dX4_emit_65 : decode cX4_emit 65 = .ok (.lastore, 1) := by decide +kernel
theorem dX4_emit_66 : decode cX4_emit 66 = .ok (.aload_n 0, 1) := by decide +kernel
theorem dX4_emit_67 : decode cX4_emit 67 = .ok (.dup, 1) := by decide +kernel
theorem dX4_emit_68 : decode cX4_emit 68 = .ok (.getfield 60, 3) := by decide +kernel
theorem dX4_emit_71 : decode cX4_emit 71 = .ok (.iconst 1, 1) := by decide +kernel
theorem dX4_emit_72 : decode cX4_emit 72 = .ok (.iadd, 1) := by decide +kernel
theorem dX4_emit_73 : decode cX4_emit 73 = .ok (.putfield 60, 3) := by decide +kernel
theorem dX4_emit_76 : decode cX4_emit 76 = .ok (.aload_n 0, 1) := by decide +kernel
theorem dX4_emit_77 : decode cX4_emit 77 = .ok (.getfield 60, 3) := by decide +kernel
theorem dX4_emit_80 : decode cX4_emit 80 = .ok (.iconst 1, 1) := by decide +kernel
theorem dX4_emit_81 : decode cX4_emit 81 = .ok (.isub, 1) := by decide +kernel
theorem dX4_emit_82 : decode cX4_emit 82 = .ok (.ireturn, 1) := by decide +kernel
set_option maxRecDepth 20000 in
theorem a_X4_emit_46 {Q : Sg → Int → Prop} {X : Sg → String → Prop} {th : Nat} (K : MD l R p s m args c cX4_emit 4 RX4 D cA tys A n0 s0 2 82 []) (hQ : CQI p l e R s m args below meth c cX4_emit D cA A n0 s0 QM σi Q) (hX : CX p l e R s m args below meth c 4 D cA A n0 s0 QM σi X) (hTh : CT p l e R s m args below meth c cX4_emit 4 D cA A n0 s0 QM σi RX4 X) : ∀ (σ : Sg) (v1 : Int) (v2 : Int64) (g1 : rng v1), w_X4_emit_46 th Q X σ v1 v2 → RG σ → TY σ → Ext σi σ → kO σ th 4 → JJ p l e R s m args below meth c 4 D cA A n0 s0 QM σ 46 [(0, .ref th), (1, .int (i32 v1)), (2, .long v2)] [] := by
  intro σ v1 v2 g1 h hGσ hYσ hE hth H locs ls hH hl hc
  have B := K.1
  have hl9 := K.2.2.2.2.2.2
  unfold w_X4_emit_46 at h
  refine lv_aload_n B.1 B.2.1 dX4_emit_46 rfl (lv_at hl 0 rfl) ?_
  refine f_getp B hH hth (by decide) rfl wu_X4 5 (by decide) wf_X4_24 rfl rfl dX4_emit_47 ?_
  refine lv_aload_n B.1 B.2.1 dX4_emit_50 rfl (lv_at hl 0 rfl) ?_
  refine f_geti B hH hth (by decide) rfl wu_X4 7 (by decide) wf_X4_60 rfl rfl dX4_emit_51 ?_
  refine lv_iload_n B.1 B.2.1 dX4_emit_54 rfl (lv_at hl 1 rfl) ?_
  obtain ⟨a25, ea25, h⟩ := h
  have ka25 : kO σ a25 100 := (hYσ.get hth (by decide)) a25 ea25
  have h := h ka25
  obtain ⟨q1, h⟩ := h
  obtain ⟨σ26, eσ26⟩ : ∃ z, z = pI σ a25 (gI σ th 7).toNat v1 := ⟨_, rfl⟩
  have h := h σ26 eσ26
  refine W.eq (g2 := F0 m 55 ls [.int (i32 v1), .int (i32 (gI σ th 7)), .ref a25]) (by rw [ea25]; rfl) ?_
  refine y_iast B K.2.1 hH ka25 q1 dX4_emit_55 (hYσ.2 _) (fun H locs hH => ?_)
  have hH : Hd D cA A s (pI σ a25 (gI σ th 7).toNat v1) H locs := hH
  rw [← eσ26] at hH
  have hGσ26 : RG σ26 := by rw [eσ26]; exact hGσ.pI g1
  have hYσ26 : TY σ26 := by rw [eσ26]; exact hYσ.pI
  have xσ26 : Ext σ σ26 := by rw [eσ26]; exact Ext.pI
  have hc : CB n0 s0 σ26 := by rw [eσ26]; exact hc
  rw [show gc σ = gc σ26 by rw [eσ26]; try rfl, show gs σ = gs σ26 by rw [eσ26]; try rfl]
  refine lv_aload_n B.1 B.2.1 dX4_emit_56 rfl (lv_at hl 0 rfl) ?_
  refine f_getp B hH (hth.up xσ26) (by decide) rfl wu_X4 6 (by decide) wf_X4_27 rfl rfl dX4_emit_57 ?_
  refine lv_aload_n B.1 B.2.1 dX4_emit_60 rfl (lv_at hl 0 rfl) ?_
  refine f_geti B hH (hth.up xσ26) (by decide) rfl wu_X4 7 (by decide) wf_X4_60 rfl rfl dX4_emit_61 ?_
  refine lv_lload_n B.1 B.2.1 dX4_emit_64 rfl (lv_at hl 2 rfl) ?_
  obtain ⟨a27, ea27, h⟩ := h
  have ka27 : kO σ26 a27 101 := (hYσ26.get (hth.up xσ26) (by decide)) a27 ea27
  have h := h ka27
  obtain ⟨q2, h⟩ := h
  obtain ⟨σ28, eσ28⟩ : ∃ z, z = pJ σ26 a27 (gI σ26 th 7).toNat v2 := ⟨_, rfl⟩
  have h := h σ28 eσ28
  refine W.eq (g2 := F0 m 65 ls [.long v2, .int (i32 (gI σ26 th 7)), .ref a27]) (by rw [ea27]; rfl) ?_
  refine y_last B K.2.1 hH ka27 q2 dX4_emit_65 (hYσ26.2 _) (fun H locs hH => ?_)
  have hH : Hd D cA A s (pJ σ26 a27 (gI σ26 th 7).toNat v2) H locs := hH
  rw [← eσ28] at hH
  have hGσ28 : RG σ28 := by rw [eσ28]; exact hGσ26.pJ
  have hYσ28 : TY σ28 := by rw [eσ28]; exact hYσ26.pJ
  have xσ28 : Ext σ26 σ28 := by rw [eσ28]; exact Ext.pJ
  have hc : CB n0 s0 σ28 := by rw [eσ28]; exact hc
  rw [show gc σ26 = gc σ28 by rw [eσ28]; try rfl, show gs σ26 = gs σ28 by rw [eσ28]; try rfl]
  refine lv_aload_n B.1 B.2.1 dX4_emit_66 rfl (lv_at hl 0 rfl) ?_
  refine lv_dup B.1 B.2.1 dX4_emit_67 rfl ?_
  refine f_geti B hH (hth.up (xσ26.trans xσ28)) (by decide) rfl wu_X4 7 (by decide) wf_X4_60 rfl rfl dX4_emit_68 ?_
  refine lv_iconst (v := i32 1) B.1 B.2.1 dX4_emit_71 (by decide) ?_
  obtain ⟨q3, h⟩ := h
  refine lv_iadd B.1 B.2.1 dX4_emit_72 ?_
  rw [i32_add]
  obtain ⟨σ29, eσ29⟩ : ∃ z, z = pI σ28 th 7 (gI σ28 th 7 + 1) := ⟨_, rfl⟩
  have h := h σ29 eσ29
  refine f_puti B hH (hth.up (xσ26.trans xσ28)) (by decide) rfl wu_X4 tyX4 tyX4_ok nmX4 7 (by decide) wf_X4_60 rfl (ty := .int) rfl rfl rfl rfl rfl dX4_emit_73 (fun H locs hH => ?_)
  have hH : Hd D cA A s (pI σ28 th 7 (gI σ28 th 7 + 1)) H locs := hH
  rw [← eσ29] at hH
  have hGσ29 : RG σ29 := by rw [eσ29]; exact hGσ28.pI q3
  have hYσ29 : TY σ29 := by rw [eσ29]; exact hYσ28.pI
  have xσ29 : Ext σ28 σ29 := by rw [eσ29]; exact Ext.pI
  have hc : CB n0 s0 σ29 := by rw [eσ29]; exact hc
  rw [show gc σ28 = gc σ29 by rw [eσ29]; try rfl, show gs σ28 = gs σ29 by rw [eσ29]; try rfl]
  refine lv_aload_n B.1 B.2.1 dX4_emit_76 rfl (lv_at hl 0 rfl) ?_
  refine f_geti B hH (hth.up (xσ26.trans (xσ28.trans xσ29))) (by decide) rfl wu_X4 7 (by decide) wf_X4_60 rfl rfl dX4_emit_77 ?_
  refine lv_iconst (v := i32 1) B.1 B.2.1 dX4_emit_80 (by decide) ?_
  obtain ⟨q4, h⟩ := h
  refine lv_isub B.1 B.2.1 dX4_emit_81 ?_
  rw [i32_sub]
  exact hQ _ _ _ _ _ _ q4 dX4_emit_82 hH hc h hGσ29 hYσ29 (((hE.trans xσ26).trans xσ28).trans xσ29)
set_option maxRecDepth 20000 in
theorem a_X4_emit_12 {Q : Sg → Int → Prop} {X : Sg → String → Prop} {th : Nat} (K : MD l R p s m args c cX4_emit 4 RX4 D cA tys A n0 s0 2 82 []) (hQ : CQI p l e R s m args below meth c cX4_emit D cA A n0 s0 QM σi Q) (hX : CX p l e R s m args below meth c 4 D cA A n0 s0 QM σi X) (hTh : CT p l e R s m args below meth c cX4_emit 4 D cA A n0 s0 QM σi RX4 X) : ∀ (σ : Sg) (v1 : Int) (v2 : Int64) (g1 : rng v1), w_X4_emit_12 th Q X σ v1 v2 → RG σ → TY σ → Ext σi σ → kO σ th 4 → JJ p l e R s m args below meth c 4 D cA A n0 s0 QM σ 12 [(0, .ref th), (1, .int (i32 v1)), (2, .long v2)] [] := by
  intro σ v1 v2 g1 h hGσ hYσ hE hth H locs ls hH hl hc
  have B := K.1
  have hl9 := K.2.2.2.2.2.2
  unfold w_X4_emit_12 at h
  refine lv_aload_n B.1 B.2.1 dX4_emit_12 rfl (lv_at hl 0 rfl) ?_
  refine lv_aload_n B.1 B.2.1 dX4_emit_13 rfl (lv_at hl 0 rfl) ?_
  refine f_getp B hH hth (by decide) rfl wu_X4 5 (by decide) wf_X4_24 rfl rfl dX4_emit_14 ?_
  refine lv_iconst (v := i32 2) B.1 B.2.1 dX4_emit_17 (by decide) ?_
  refine lv_aload_n B.1 B.2.1 dX4_emit_18 rfl (lv_at hl 0 rfl) ?_
  refine f_geti B hH hth (by decide) rfl wu_X4 7 (by decide) wf_X4_60 rfl rfl dX4_emit_19 ?_
  obtain ⟨q1, h⟩ := h
  refine lv_imul B.1 B.2.1 dX4_emit_22 ?_
  rw [i32_mul]
  refine W.eq (g2 := F0 m 23 ls [.int (i32 (2 * gI σ th 7)), va_rf (gP σ th 5), .ref th]) (rfl) ?_
  refine c_S B hH hl hc K.2.2.1 (As := [va_rf (gP σ th 5), .int (i32 (2 * gI σ th 7))]) (okC_J7_copyOf_59c91 hl9 K.2.1 σ (gP σ th 5) (2 * gI σ th 7) (hYσ.get hth (by decide)) q1 hGσ hYσ h) wc_X4_84 2 hdC_J7_copyOf_59c91 ⟨Nat.le_trans (Nat.le_of_ble_eq_true rfl) K.2.2.2.1, Nat.le_trans (Nat.le_of_ble_eq_true rfl) K.2.2.2.2.1⟩ rfl (rest := [.ref th]) rfl (Nat.le_of_ble_eq_true rfl) dX4_emit_23 (fun σ30 w hq => ?_) (fun σ9 E9 hx9 => hX σ9 E9 _ _ _ (tb_out K.2.2.2.2.2.1 rfl) hx9.1 hx9.2.1 hx9.2.2.1 (hE.trans hx9.2.2.2))
  obtain ⟨r31, rfl, tr31, h, hGσ30, hYσ30, xσ30⟩ := hq
  have h := h xσ30 tr31
  intro H locs ls hH hl hc
  refine W.eq (g2 := F0 m 26 ls [va_rf r31, .ref th]) (rfl) ?_
  try dsimp only at h
  obtain ⟨σ32, eσ32⟩ : ∃ z, z = pP σ30 th 5 r31 := ⟨_, rfl⟩
  have h := h σ32 eσ32
  refine W.eq (g2 := F0 m 26 ls [va_rf r31, .ref th]) (rfl) ?_
  refine f_putp B hH (hth.up xσ30) (by decide) rfl wu_X4 tyX4 tyX4_ok nmX4 5 (by decide) wf_X4_24 rfl (r := r31) (ty := .array .int) rfl rfl rfl (nrA _ _) (ftA _ _) dX4_emit_26 (fun H locs hH => ?_)
  have hH : Hd D cA A s (pP σ30 th 5 r31) H locs := hH
  rw [← eσ32] at hH
  have hGσ32 : RG σ32 := by rw [eσ32]; exact hGσ30.pP
  have hYσ32 : TY σ32 := by rw [eσ32]; exact hYσ30.pP (hth.up xσ30) (d := 100) (by decide) tr31
  have xσ32 : Ext σ30 σ32 := by rw [eσ32]; exact Ext.pP
  have hc : CB n0 s0 σ32 := by rw [eσ32]; exact hc
  rw [show gc σ30 = gc σ32 by rw [eσ32]; try rfl, show gs σ30 = gs σ32 by rw [eσ32]; try rfl]
  refine lv_aload_n B.1 B.2.1 dX4_emit_29 rfl (lv_at hl 0 rfl) ?_
  refine lv_aload_n B.1 B.2.1 dX4_emit_30 rfl (lv_at hl 0 rfl) ?_
  refine f_getp B hH (hth.up (xσ30.trans xσ32)) (by decide) rfl wu_X4 6 (by decide) wf_X4_27 rfl rfl dX4_emit_31 ?_
  refine lv_iconst (v := i32 2) B.1 B.2.1 dX4_emit_34 (by decide) ?_
  refine lv_aload_n B.1 B.2.1 dX4_emit_35 rfl (lv_at hl 0 rfl) ?_
  refine f_geti B hH (hth.up (xσ30.trans xσ32)) (by decide) rfl wu_X4 7 (by decide) wf_X4_60 rfl rfl dX4_emit_36 ?_
  obtain ⟨q2, h⟩ := h
  refine lv_imul B.1 B.2.1 dX4_emit_39 ?_
  rw [i32_mul]
  refine W.eq (g2 := F0 m 40 ls [.int (i32 (2 * gI σ32 th 7)), va_rf (gP σ32 th 6), .ref th]) (rfl) ?_
  refine c_S B hH hl hc K.2.2.1 (As := [va_rf (gP σ32 th 6), .int (i32 (2 * gI σ32 th 7))]) (okC_J7_copyOf_c38d5 hl9 K.2.1 σ32 (gP σ32 th 6) (2 * gI σ32 th 7) (hYσ32.get (hth.up (xσ30.trans xσ32)) (by decide)) q2 hGσ32 hYσ32 h) wc_X4_88 2 hdC_J7_copyOf_c38d5 ⟨Nat.le_trans (Nat.le_of_ble_eq_true rfl) K.2.2.2.1, Nat.le_trans (Nat.le_of_ble_eq_true rfl) K.2.2.2.2.1⟩ rfl (rest := [.ref th]) rfl (Nat.le_of_ble_eq_true rfl) dX4_emit_40 (fun σ33 w hq => ?_) (fun σ9 E9 hx9 => hX σ9 E9 _ _ _ (tb_out K.2.2.2.2.2.1 rfl) hx9.1 hx9.2.1 hx9.2.2.1 (((hE.trans xσ30).trans xσ32).trans hx9.2.2.2))
  obtain ⟨r34, rfl, tr34, h, hGσ33, hYσ33, xσ33⟩ := hq
  have h := h xσ33 tr34
  intro H locs ls hH hl hc
  refine W.eq (g2 := F0 m 43 ls [va_rf r34, .ref th]) (rfl) ?_
  try dsimp only at h
  obtain ⟨σ35, eσ35⟩ : ∃ z, z = pP σ33 th 6 r34 := ⟨_, rfl⟩
  have h := h σ35 eσ35
  refine W.eq (g2 := F0 m 43 ls [va_rf r34, .ref th]) (rfl) ?_
  refine f_putp B hH (hth.up (xσ30.trans (xσ32.trans xσ33))) (by decide) rfl wu_X4 tyX4 tyX4_ok nmX4 6 (by decide) wf_X4_27 rfl (r := r34) (ty := .array .long) rfl rfl rfl (nrA _ _) (ftA _ _) dX4_emit_43 (fun H locs hH => ?_)
  have hH : Hd D cA A s (pP σ33 th 6 r34) H locs := hH
  rw [← eσ35] at hH
  have hGσ35 : RG σ35 := by rw [eσ35]; exact hGσ33.pP
  have hYσ35 : TY σ35 := by rw [eσ35]; exact hYσ33.pP (hth.up (xσ30.trans (xσ32.trans xσ33))) (d := 101) (by decide) tr34
  have xσ35 : Ext σ33 σ35 := by rw [eσ35]; exact Ext.pP
  have hc : CB n0 s0 σ35 := by rw [eσ35]; exact hc
  rw [show gc σ33 = gc σ35 by rw [eσ35]; try rfl, show gs σ33 = gs σ35 by rw [eσ35]; try rfl]
  exact a_X4_emit_46 K hQ hX hTh _ _ _ g1 h hGσ35 hYσ35 ((((hE.trans xσ30).trans xσ32).trans xσ33).trans xσ35) (hth.up (xσ30.trans (xσ32.trans (xσ33.trans xσ35)))) _ _ _ hH (lv_sub (l' := [(0, .ref th), (1, .int (i32 v1)), (2, .long v2)]) hl [0, 1, 2] rfl) hc
set_option maxRecDepth 20000 in
theorem a_X4_emit_0 {Q : Sg → Int → Prop} {X : Sg → String → Prop} {th : Nat} (K : MD l R p s m args c cX4_emit 4 RX4 D cA tys A n0 s0 2 82 []) (hQ : CQI p l e R s m args below meth c cX4_emit D cA A n0 s0 QM σi Q) (hX : CX p l e R s m args below meth c 4 D cA A n0 s0 QM σi X) (hTh : CT p l e R s m args below meth c cX4_emit 4 D cA A n0 s0 QM σi RX4 X) : ∀ (σ : Sg) (v1 : Int) (v2 : Int64) (g1 : rng v1), w_X4_emit_0 th Q X σ v1 v2 → RG σ → TY σ → Ext σi σ → kO σ th 4 → JJ p l e R s m args below meth c 4 D cA A n0 s0 QM σ 0 [(0, .ref th), (1, .int (i32 v1)), (2, .long v2)] [] := by
  intro σ v1 v2 g1 h hGσ hYσ hE hth H locs ls hH hl hc
  have B := K.1
  have hl9 := K.2.2.2.2.2.2
  unfold w_X4_emit_0 at h
  refine lv_aload_n B.1 B.2.1 dX4_emit_0 rfl (lv_at hl 0 rfl) ?_
  refine f_geti B hH hth (by decide) rfl wu_X4 7 (by decide) wf_X4_60 rfl rfl dX4_emit_1 ?_
  refine lv_aload_n B.1 B.2.1 dX4_emit_4 rfl (lv_at hl 0 rfl) ?_
  refine f_getp B hH hth (by decide) rfl wu_X4 5 (by decide) wf_X4_24 rfl rfl dX4_emit_5 ?_
  obtain ⟨a36, ea36, h⟩ := h
  have ka36 : kO σ a36 100 := (hYσ.get hth (by decide)) a36 ea36
  have h := h ka36
  refine W.eq (g2 := F0 m 8 ls [.ref a36, .int (i32 (gI σ th 7))]) (by rw [ea36]; rfl) ?_
  refine h_alen B hH ka36.1 (by decide) ka36.2 0 K.2.1.1.1 dX4_emit_8 ?_
  refine lv_icmp_lt (tgt := 46) B.1 B.2.1 dX4_emit_9 (by decide) (fun h9 => ?_) (fun h9 => ?_)
  · rw [if_pos ((i32_lt (hGσ _ _) (rng_gn (hYσ.2 _))).mp h9)] at h
    exact a_X4_emit_46 K hQ hX hTh _ _ _ g1 h hGσ hYσ hE hth _ _ _ hH (lv_sub (l' := [(0, .ref th), (1, .int (i32 v1)), (2, .long v2)]) hl [0, 1, 2] rfl) hc
  · rw [if_neg (fun q => h9 ((i32_lt (hGσ _ _) (rng_gn (hYσ.2 _))).mpr q))] at h
    exact a_X4_emit_12 K hQ hX hTh _ _ _ g1 h hGσ hYσ hE hth _ _ _ hH (lv_sub (l' := [(0, .ref th), (1, .int (i32 v1)), (2, .long v2)]) hl [0, 1, 2] rfl) hc
theorem ok_X4_emit (hl0 : l.stackTraces = false) (hT : TyC cA tys) {Q : Sg → Int → Prop} {X : Sg → String → Prop} (σ : Sg) (th : Nat) (v1 : Int) (v2 : Int64) (g1 : rng v1) (hth : kO σ th 4) (hG : RG σ) (hY : TY σ) (h : wp_X4_emit th v1 v2 σ Q X) : Ok l D cA tys A yX4_emit (.code yX4_emit cX4_emit 4 (some .int)) 2 82 [.ref th, .int (i32 v1), .long v2] σ (QcI σ Q) (QxC σ X) := by
  unfold wp_X4_emit at h
  exact oc_I hl0 (by decide) (by exact Nat.le_of_ble_eq_true rfl) hT (fun p e R s m args below meth c K hQ hX hTh H locs ls hH hl hc => a_X4_emit_0 K hQ hX hTh σ v1 v2 g1 h hG hY (Ext.rfl' σ) hth H locs ls hH (lv_sub (l' := [(0, .ref th), (1, .int (i32 v1)), (2, .long v2)]) hl [0, 1, 2] rfl) hc)
theorem dX4_landHere_0 : decode cX4_landHere 0 = .ok (.aload_n 0, 1) := by decide +kernel
theorem dX4_landHere_1 : decode cX4_landHere 1 = .ok (.getfield 27, 3) := by decide +kernel
theorem dX4_landHere_4 : decode cX4_landHere 4 = .ok (.iload_n 1, 1) := by decide +kernel
theorem dX4_landHere_5 : decode cX4_landHere 5 = .ok (.aload_n 0, 1) := by decide +kernel
theorem dX4_landHere_6 : decode cX4_landHere 6 = .ok (.getfield 60, 3) := by decide +kernel
theorem dX4_landHere_9 : decode cX4_landHere 9 = .ok (.i2l, 1) := by decide +kernel
theorem dX4_landHere_10 : decode cX4_landHere 10 = .ok (.lastore, 1) := by decide +kernel
theorem dX4_landHere_11 : decode cX4_landHere 11 = .ok (.return_, 1) := by decide +kernel
set_option maxRecDepth 20000 in
theorem a_X4_landHere_0 {Q : Sg → Unit → Prop} {X : Sg → String → Prop} {th : Nat} (K : MD l R p s m args c cX4_landHere 2 RX4 D cA tys A n0 s0 0 0 []) (hQ : CQV p l e R s m args below meth c cX4_landHere D cA A n0 s0 QM σi Q) (hX : CX p l e R s m args below meth c 2 D cA A n0 s0 QM σi X) (hTh : CT p l e R s m args below meth c cX4_landHere 2 D cA A n0 s0 QM σi RX4 X) : ∀ (σ : Sg) (v1 : Int) (g1 : rng v1), w_X4_landHere_0 th Q X σ v1 → RG σ → TY σ → Ext σi σ → kO σ th 4 → JJ p l e R s m args below meth c 2 D cA A n0 s0 QM σ 0 [(0, .ref th), (1, .int (i32 v1))] [] := by
  intro σ v1 g1 h hGσ hYσ hE hth H locs ls hH hl hc
  have B := K.1
  have hl9 := K.2.2.2.2.2.2
  unfold w_X4_landHere_0 at h
  refine lv_aload_n B.1 B.2.1 dX4_landHere_0 rfl (lv_at hl 0 rfl) ?_
  refine f_getp B hH hth (by decide) rfl wu_X4 6 (by decide) wf_X4_27 rfl rfl dX4_landHere_1 ?_
  refine lv_iload_n B.1 B.2.1 dX4_landHere_4 rfl (lv_at hl 1 rfl) ?_
  refine lv_aload_n B.1 B.2.1 dX4_landHere_5 rfl (lv_at hl 0 rfl) ?_
  refine f_geti B hH hth (by decide) rfl wu_X4 7 (by decide) wf_X4_60 rfl rfl dX4_landHere_6 ?_
  refine lv_i2l B.1 B.2.1 dX4_landHere_9 (i32_i64 (hGσ _ _)) ?_
  obtain ⟨a5, ea5, h⟩ := h
  have ka5 : kO σ a5 101 := (hYσ.get hth (by decide)) a5 ea5
  have h := h ka5
  obtain ⟨q1, h⟩ := h
  obtain ⟨σ6, eσ6⟩ : ∃ z, z = pJ σ a5 v1.toNat (Int64.ofInt (gI σ th 7)) := ⟨_, rfl⟩
  have h := h σ6 eσ6
  refine W.eq (g2 := F0 m 10 ls [.long (Int64.ofInt (gI σ th 7)), .int (i32 v1), .ref a5]) (by rw [ea5]; rfl) ?_
  refine y_last B K.2.1 hH ka5 q1 dX4_landHere_10 (hYσ.2 _) (fun H locs hH => ?_)
  have hH : Hd D cA A s (pJ σ a5 v1.toNat (Int64.ofInt (gI σ th 7))) H locs := hH
  rw [← eσ6] at hH
  have hGσ6 : RG σ6 := by rw [eσ6]; exact hGσ.pJ
  have hYσ6 : TY σ6 := by rw [eσ6]; exact hYσ.pJ
  have xσ6 : Ext σ σ6 := by rw [eσ6]; exact Ext.pJ
  have hc : CB n0 s0 σ6 := by rw [eσ6]; exact hc
  rw [show gc σ = gc σ6 by rw [eσ6]; try rfl, show gs σ = gs σ6 by rw [eσ6]; try rfl]
  exact hQ _ _ _ _ _ dX4_landHere_11 hH hc h hGσ6 hYσ6 (hE.trans xσ6)
theorem ok_X4_landHere (hl0 : l.stackTraces = false) (hT : TyC cA tys) {Q : Sg → Unit → Prop} {X : Sg → String → Prop} (σ : Sg) (th : Nat) (v1 : Int) (g1 : rng v1) (hth : kO σ th 4) (hG : RG σ) (hY : TY σ) (h : wp_X4_landHere th v1 σ Q X) : Ok l D cA tys A yX4_landHere (.code yX4_landHere cX4_landHere 2 none) 0 0 [.ref th, .int (i32 v1)] σ (QcV σ Q) (QxC σ X) := by
  unfold wp_X4_landHere at h
  exact oc_V hl0 (by decide) (by exact Nat.le_of_ble_eq_true rfl) hT (fun p e R s m args below meth c K hQ hX hTh hin9 H locs ls hH hl hc => a_X4_landHere_0 K hQ hX hTh σ v1 g1 h hG hY (Ext.rfl' σ) hth H locs ls hH (lv_sub (l' := [(0, .ref th), (1, .int (i32 v1))]) hl [0, 1] rfl) hc)
theorem dX6_refuse_0 : decode cX6_refuse 0 = .ok (.aload_n 0, 1) := by decide +kernel
theorem dX6_refuse_1 : decode cX6_refuse 1 = .ok (.iload_n 1, 1) := by decide +kernel
theorem dX6_refuse_2 : decode cX6_refuse 2 = .ok (.putfield 28, 3) := by decide +kernel
theorem dX6_refuse_5 : decode cX6_refuse 5 = .ok (.new 64, 3) := by decide +kernel
theorem dX6_refuse_8 : decode cX6_refuse 8 = .ok (.dup, 1) := by decide +kernel
theorem dX6_refuse_9 : decode cX6_refuse 9 = .ok (.invokespecial 265, 3) := by decide +kernel
theorem dX6_refuse_12 : decode cX6_refuse 12 = .ok (.athrow, 1) := by decide +kernel
set_option maxRecDepth 20000 in
theorem a_X6_refuse_0 {Q : Sg → Unit → Prop} {X : Sg → String → Prop} {th : Nat} (K : MD l R p s m args c cX6_refuse 2 RX6 D cA tys A n0 s0 6 90 []) (hQ : CQV p l e R s m args below meth c cX6_refuse D cA A n0 s0 QM σi Q) (hX : CX p l e R s m args below meth c 2 D cA A n0 s0 QM σi X) (hTh : CT p l e R s m args below meth c cX6_refuse 2 D cA A n0 s0 QM σi RX6 X) : ∀ (σ : Sg) (v1 : Int) (g1 : rng v1), w_X6_refuse_0 th Q X σ v1 → RG σ → TY σ → Ext σi σ → kO σ th 6 → JJ p l e R s m args below meth c 2 D cA A n0 s0 QM σ 0 [(0, .ref th), (1, .int (i32 v1))] [] := by
  intro σ v1 g1 h hGσ hYσ hE hth H locs ls hH hl hc
  have B := K.1
  have hl9 := K.2.2.2.2.2.2
  unfold w_X6_refuse_0 at h
  refine lv_aload_n B.1 B.2.1 dX6_refuse_0 rfl (lv_at hl 0 rfl) ?_
  refine lv_iload_n B.1 B.2.1 dX6_refuse_1 rfl (lv_at hl 1 rfl) ?_
  obtain ⟨σ3, eσ3⟩ : ∃ z, z = pI σ th 6 v1 := ⟨_, rfl⟩
  have h := h σ3 eσ3
  refine f_puti B hH hth (by decide) rfl wu_X6 tyX6 tyX6_ok nmX6 6 (by decide) wf_X6_28 rfl (ty := .int) rfl rfl rfl rfl rfl dX6_refuse_2 (fun H locs hH => ?_)
  have hH : Hd D cA A s (pI σ th 6 v1) H locs := hH
  rw [← eσ3] at hH
  have hGσ3 : RG σ3 := by rw [eσ3]; exact hGσ.pI g1
  have hYσ3 : TY σ3 := by rw [eσ3]; exact hYσ.pI
  have xσ3 : Ext σ σ3 := by rw [eσ3]; exact Ext.pI
  have hc : CB n0 s0 σ3 := by rw [eσ3]; exact hc
  rw [show gc σ = gc σ3 by rw [eσ3]; try rfl, show gs σ = gs σ3 by rw [eσ3]; try rfl]
  obtain ⟨q9, h⟩ := h
  exact hTh _ _ _ _ _ _ _ _ _ tw_X6_64_265 dX6_refuse_5 dX6_refuse_8 dX6_refuse_9 dX6_refuse_12 hH hl hc q9 h hGσ3 hYσ3 (hE.trans xσ3) (by have := K.2.2.2.1; omega) (by have := K.2.2.2.2.1; omega)
theorem ok_X6_refuse (hl0 : l.stackTraces = false) (hT : TyC cA tys) {Q : Sg → Unit → Prop} {X : Sg → String → Prop} (σ : Sg) (th : Nat) (v1 : Int) (g1 : rng v1) (hth : kO σ th 6) (hG : RG σ) (hY : TY σ) (h : wp_X6_refuse th v1 σ Q X) : Ok l D cA tys A yX6_refuse (.code yX6_refuse cX6_refuse 2 none) 6 90 [.ref th, .int (i32 v1)] σ (QcV σ Q) (QxC σ X) := by
  unfold wp_X6_refuse at h
  exact oc_V hl0 (by decide) (by exact Nat.le_of_ble_eq_true rfl) hT (fun p e R s m args below meth c K hQ hX hTh hin9 H locs ls hH hl hc => a_X6_refuse_0 K hQ hX hTh σ v1 g1 h hG hY (Ext.rfl' σ) hth H locs ls hH (lv_sub (l' := [(0, .ref th), (1, .int (i32 v1))]) hl [0, 1] rfl) hc)
theorem dX6_cannotStand_0 : decode cX6_cannotStand 0 = .ok (.aload_n 0, 1) := by decide +kernel
theorem dX6_cannotStand_1 : decode cX6_cannotStand 1 = .ok (.aload_n 0, 1) := by decide +kernel
theorem dX6_cannotStand_2 : decode cX6_cannotStand 2 = .ok (.getfield 43, 3) := by decide +kernel
theorem dX6_cannotStand_5 : decode cX6_cannotStand 5 = .ok (.ifCond .ne 7, 3) := by decide +kernel
theorem dX6_cannotStand_8 : decode cX6_cannotStand 8 = .ok (.iconst 3, 1) := by decide +kernel
theorem dX6_cannotStand_9 : decode cX6_cannotStand 9 = .ok (.goto 4, 3) := by decide +kernel
theorem dX6_cannotStand_12 : decode cX6_cannotStand 12 = .ok (.iconst 4, 1) := by decide +kernel
theorem dX6_cannotStand_13 : decode cX6_cannotStand 13 = .ok (.invokevirtual 81, 3) := by decide +kernel
theorem dX6_cannotStand_16 : decode cX6_cannotStand 16 = .ok (.return_, 1) := by decide +kernel
set_option maxRecDepth 20000 in
theorem a_X6_cannotStand_13 {Q : Sg → Unit → Prop} {X : Sg → String → Prop} {th : Nat} (K : MD l R p s m args c cX6_cannotStand 1 RX6 D cA tys A n0 s0 7 111 []) (hQ : CQV p l e R s m args below meth c cX6_cannotStand D cA A n0 s0 QM σi Q) (hX : CX p l e R s m args below meth c 1 D cA A n0 s0 QM σi X) (hTh : CT p l e R s m args below meth c cX6_cannotStand 1 D cA A n0 s0 QM σi RX6 X) : ∀ (σ : Sg) (u0 : Int) (gu0 : rng u0), w_X6_cannotStand_13 th Q X σ u0 → RG σ → TY σ → Ext σi σ → kO σ th 6 → JJ p l e R s m args below meth c 1 D cA A n0 s0 QM σ 13 [(0, .ref th)] [.int (i32 u0), .ref th] := by
  intro σ u0 gu0 h hGσ hYσ hE hth H locs ls hH hl hc
  have B := K.1
  have hl9 := K.2.2.2.2.2.2
  unfold w_X6_cannotStand_13 at h
  refine W.eq (g2 := F0 m 13 ls [.int (i32 u0), .ref th]) (rfl) ?_
  refine c_V B hH hl hc K.2.2.1 (C := RX6) (T := TX6) (N := 9) (ci := 6) (As := [.int (i32 u0)]) (ok_X6_refuse hl9 K.2.1 σ th u0 gu0 hth hGσ hYσ h) wc_X6_81 1 hd_X6_refuse ⟨Nat.le_trans (Nat.le_of_ble_eq_true rfl) K.2.2.2.1, Nat.le_trans (Nat.le_of_ble_eq_true rfl) K.2.2.2.2.1⟩ hth.1 hth.2 (by decide) rfl rfl (rest := []) rfl (Nat.le_of_ble_eq_true rfl) dX6_cannotStand_13 (fun σ3 w hq => ?_) (fun σ9 E9 hx9 => hX σ9 E9 _ _ _ (tb_out K.2.2.2.2.2.1 rfl) hx9.1 hx9.2.1 hx9.2.2.1 (hE.trans hx9.2.2.2))
  obtain ⟨rfl, h, hGσ3, hYσ3, xσ3⟩ := hq
  have h := h xσ3
  intro H locs ls hH hl hc
  refine W.eq (g2 := F0 m 16 ls []) (rfl) ?_
  try dsimp only at h
  exact hQ _ _ _ _ _ dX6_cannotStand_16 hH hc h hGσ3 hYσ3 (hE.trans xσ3)
set_option maxRecDepth 20000 in
theorem a_X6_cannotStand_12 {Q : Sg → Unit → Prop} {X : Sg → String → Prop} {th : Nat} (K : MD l R p s m args c cX6_cannotStand 1 RX6 D cA tys A n0 s0 7 111 []) (hQ : CQV p l e R s m args below meth c cX6_cannotStand D cA A n0 s0 QM σi Q) (hX : CX p l e R s m args below meth c 1 D cA A n0 s0 QM σi X) (hTh : CT p l e R s m args below meth c cX6_cannotStand 1 D cA A n0 s0 QM σi RX6 X) : ∀ (σ : Sg), w_X6_cannotStand_12 th Q X σ → RG σ → TY σ → Ext σi σ → kO σ th 6 → JJ p l e R s m args below meth c 1 D cA A n0 s0 QM σ 12 [(0, .ref th)] [.ref th] := by
  intro σ h hGσ hYσ hE hth H locs ls hH hl hc
  have B := K.1
  have hl9 := K.2.2.2.2.2.2
  unfold w_X6_cannotStand_12 at h
  refine lv_iconst (v := i32 4) B.1 B.2.1 dX6_cannotStand_12 (by decide) ?_
  exact a_X6_cannotStand_13 K hQ hX hTh _ _ (by unfold rng; omega) h hGσ hYσ hE hth _ _ _ hH (lv_sub (l' := [(0, .ref th)]) hl [0] rfl) hc
set_option maxRecDepth 20000 in
theorem a_X6_cannotStand_8 {Q : Sg → Unit → Prop} {X : Sg → String → Prop} {th : Nat} (K : MD l R p s m args c cX6_cannotStand 1 RX6 D cA tys A n0 s0 7 111 []) (hQ : CQV p l e R s m args below meth c cX6_cannotStand D cA A n0 s0 QM σi Q) (hX : CX p l e R s m args below meth c 1 D cA A n0 s0 QM σi X) (hTh : CT p l e R s m args below meth c cX6_cannotStand 1 D cA A n0 s0 QM σi RX6 X) : ∀ (σ : Sg), w_X6_cannotStand_8 th Q X σ → RG σ → TY σ → Ext σi σ → kO σ th 6 → JJ p l e R s m args below meth c 1 D cA A n0 s0 QM σ 8 [(0, .ref th)] [.ref th] := by
  intro σ h hGσ hYσ hE hth H locs ls hH hl hc
  have B := K.1
  have hl9 := K.2.2.2.2.2.2
  unfold w_X6_cannotStand_8 at h
  refine lv_iconst (v := i32 3) B.1 B.2.1 dX6_cannotStand_8 (by decide) ?_
  refine lv_goto (tgt := 13) B.1 B.2.1 dX6_cannotStand_9 (by decide) ?_
  exact a_X6_cannotStand_13 K hQ hX hTh _ _ (by unfold rng; omega) h hGσ hYσ hE hth _ _ _ hH (lv_sub (l' := [(0, .ref th)]) hl [0] rfl) hc
set_option maxRecDepth 20000 in
theorem a_X6_cannotStand_0 {Q : Sg → Unit → Prop} {X : Sg → String → Prop} {th : Nat} (K : MD l R p s m args c cX6_cannotStand 1 RX6 D cA tys A n0 s0 7 111 []) (hQ : CQV p l e R s m args below meth c cX6_cannotStand D cA A n0 s0 QM σi Q) (hX : CX p l e R s m args below meth c 1 D cA A n0 s0 QM σi X) (hTh : CT p l e R s m args below meth c cX6_cannotStand 1 D cA A n0 s0 QM σi RX6 X) : ∀ (σ : Sg), w_X6_cannotStand_0 th Q X σ → RG σ → TY σ → Ext σi σ → kO σ th 6 → JJ p l e R s m args below meth c 1 D cA A n0 s0 QM σ 0 [(0, .ref th)] [] := by
  intro σ h hGσ hYσ hE hth H locs ls hH hl hc
  have B := K.1
  have hl9 := K.2.2.2.2.2.2
  unfold w_X6_cannotStand_0 at h
  refine lv_aload_n B.1 B.2.1 dX6_cannotStand_0 rfl (lv_at hl 0 rfl) ?_
  refine lv_aload_n B.1 B.2.1 dX6_cannotStand_1 rfl (lv_at hl 0 rfl) ?_
  refine f_geti B hH hth (by decide) rfl wu_X6 3 (by decide) wf_X6_43 rfl rfl dX6_cannotStand_2 ?_
  refine lv_if_ne (tgt := 12) B.1 B.2.1 dX6_cannotStand_5 (by decide) (fun h9 => ?_) (fun h9 => ?_)
  · rw [if_pos (fun q => h9 ((z_eq (hGσ _ _)).mpr q))] at h
    exact a_X6_cannotStand_12 K hQ hX hTh _ h hGσ hYσ hE hth _ _ _ hH (lv_sub (l' := [(0, .ref th)]) hl [0] rfl) hc
  · rw [if_neg (fun q => q ((z_eq (hGσ _ _)).mp h9))] at h
    exact a_X6_cannotStand_8 K hQ hX hTh _ h hGσ hYσ hE hth _ _ _ hH (lv_sub (l' := [(0, .ref th)]) hl [0] rfl) hc
theorem ok_X6_cannotStand (hl0 : l.stackTraces = false) (hT : TyC cA tys) {Q : Sg → Unit → Prop} {X : Sg → String → Prop} (σ : Sg) (th : Nat) (hth : kO σ th 6) (hG : RG σ) (hY : TY σ) (h : wp_X6_cannotStand th σ Q X) : Ok l D cA tys A yX6_cannotStand (.code yX6_cannotStand cX6_cannotStand 1 none) 7 111 [.ref th] σ (QcV σ Q) (QxC σ X) := by
  unfold wp_X6_cannotStand at h
  exact oc_V hl0 (by decide) (by exact Nat.le_of_ble_eq_true rfl) hT (fun p e R s m args below meth c K hQ hX hTh hin9 H locs ls hH hl hc => a_X6_cannotStand_0 K hQ hX hTh σ h hG hY (Ext.rfl' σ) hth H locs ls hH (lv_sub (l' := [(0, .ref th)]) hl [0] rfl) hc)
theorem dX5_find_0 : decode cX5_find 0 = .ok (.iconst 0, 1) := by decide +kernel
theorem dX5_find_1 : decode cX5_find 1 = .ok (.istore_n 3, 1) := by decide +kernel
theorem dX5_find_2 : decode cX5_find 2 = .ok (.iload_n 3, 1) := by decide +kernel
theorem dX5_find_3 : decode cX5_find 3 = .ok (.aload_n 0, 1) := by decide +kernel
theorem dX5_find_4 : decode cX5_find 4 = .ok (.getfield 22, 3) := by decide +kernel
theorem dX5_find_7 : decode cX5_find 7 = .ok (.if_icmp .ge 22, 3) := by decide +kernel
theorem dX5_find_10 : decode cX5_find 10 = .ok (.aload_n 0, 1) := by decide +kernel
theorem dX5_find_11 : decode cX5_find 11 = .ok (.getfield 9, 3) := by decide +kernel
theorem dX5_find_14 : decode cX5_find 14 = .ok (.iload_n 3, 1) := by decide +kernel
theorem dX5_find_15 : decode cX5_find 15 = .ok (.laload, 1) := by decide +kernel
theorem dX5_find_16 : decode cX5_find 16 = .ok (.lload_n 1, 1) := by decide +kernel
theorem dX5_find_17 : decode cX5_find 17 = .ok (.lcmp, 1) := by decide +kernel
theorem dX5_find_18 : decode cX5_find 18 = .ok (.ifCond .ne 5, 3) := by decide +kernel
theorem dX5_find_21 : decode cX5_find 21 = .ok (.iload_n 3, 1) := by decide +kernel
theorem dX5_find_22 : decode cX5_find 22 = .ok (.ireturn, 1) := by decide +kernel
theorem dX5_find_23 : decode cX5_find 23 = .ok (.iinc 3 1, 3) := by decide +kernel
theorem dX5_find_26 : decode cX5_find 26 = .ok (.goto (-24), 3) := by decide +kernel
theorem dX5_find_29 : decode cX5_find 29 = .ok (.iconst (-1), 1) := by decide +kernel
theorem dX5_find_30 : decode cX5_find 30 = .ok (.ireturn, 1) := by decide +kernel
set_option maxRecDepth 20000 in
theorem a_X5_find_29 {Q : Sg → Int → Prop} {X : Sg → String → Prop} {th : Nat} (K : MD l R p s m args c cX5_find 4 RX5 D cA tys A n0 s0 0 0 []) (hQ : CQI p l e R s m args below meth c cX5_find D cA A n0 s0 QM σi Q) (hX : CX p l e R s m args below meth c 4 D cA A n0 s0 QM σi X) (hTh : CT p l e R s m args below meth c cX5_find 4 D cA A n0 s0 QM σi RX5 X) : ∀ (σ : Sg), w_X5_find_29 th Q X σ → RG σ → TY σ → Ext σi σ → kO σ th 5 → JJ p l e R s m args below meth c 4 D cA A n0 s0 QM σ 29 [(0, .ref th)] [] := by
  intro σ h hGσ hYσ hE hth H locs ls hH hl hc
  have B := K.1
  have hl9 := K.2.2.2.2.2.2
  unfold w_X5_find_29 at h
  refine lv_iconst (v := i32 (-1)) B.1 B.2.1 dX5_find_29 (by decide) ?_
  exact hQ _ _ _ _ _ _ (by unfold rng; omega) dX5_find_30 hH hc h hGσ hYσ hE
set_option maxRecDepth 20000 in
theorem a_X5_find_23 {Q : Sg → Int → Prop} {X : Sg → String → Prop} {th : Nat} (K : MD l R p s m args c cX5_find 4 RX5 D cA tys A n0 s0 0 0 []) (hQ : CQI p l e R s m args below meth c cX5_find D cA A n0 s0 QM σi Q) (hX : CX p l e R s m args below meth c 4 D cA A n0 s0 QM σi X) (hTh : CT p l e R s m args below meth c cX5_find 4 D cA A n0 s0 QM σi RX5 X) {K2 : Sg → Int64 → Int → Prop} (hK2 : ∀ (σ : Sg) (v1 : Int64) (v3 : Int) (g3 : rng v3), K2 σ v1 v3 → RG σ → TY σ → Ext σi σ → kO σ th 5 → JJ p l e R s m args below meth c 4 D cA A n0 s0 QM σ 2 [(0, .ref th), (1, .long v1), (3, .int (i32 v3))] []) : ∀ (σ : Sg) (v1 : Int64) (v3 : Int) (g3 : rng v3), w_X5_find_23 th K2 Q X σ v1 v3 → RG σ → TY σ → Ext σi σ → kO σ th 5 → JJ p l e R s m args below meth c 4 D cA A n0 s0 QM σ 23 [(0, .ref th), (1, .long v1), (3, .int (i32 v3))] [] := by
  intro σ v1 v3 g3 h hGσ hYσ hE hth H locs ls hH hl hc
  have B := K.1
  have hl9 := K.2.2.2.2.2.2
  unfold w_X5_find_23 at h
  obtain ⟨q1, h⟩ := h
  refine lv_iinc (k := 2) (v := i32 (v3 + 1)) (lv' := [(3, .int (i32 (v3 + 1))), (0, .ref th), (1, .long v1)]) B.1 B.2.1 dX5_find_23 hl rfl (i32_add _ _) (by decide) rfl (fun ls hl => ?_)
  refine lv_goto (tgt := 2) B.1 B.2.1 dX5_find_26 (by decide) ?_
  exact hK2 _ _ _ q1 h hGσ hYσ hE hth _ _ _ hH (lv_sub (l' := [(0, .ref th), (1, .long v1), (3, .int (i32 (v3 + 1)))]) hl [1, 2, 0] rfl) hc
set_option maxRecDepth 20000 in
theorem a_X5_find_21 {Q : Sg → Int → Prop} {X : Sg → String → Prop} {th : Nat} (K : MD l R p s m args c cX5_find 4 RX5 D cA tys A n0 s0 0 0 []) (hQ : CQI p l e R s m args below meth c cX5_find D cA A n0 s0 QM σi Q) (hX : CX p l e R s m args below meth c 4 D cA A n0 s0 QM σi X) (hTh : CT p l e R s m args below meth c cX5_find 4 D cA A n0 s0 QM σi RX5 X) : ∀ (σ : Sg) (v3 : Int) (g3 : rng v3), w_X5_find_21 th Q X σ v3 → RG σ → TY σ → Ext σi σ → kO σ th 5 → JJ p l e R s m args below meth c 4 D cA A n0 s0 QM σ 21 [(0, .ref th), (3, .int (i32 v3))] [] := by
  intro σ v3 g3 h hGσ hYσ hE hth H locs ls hH hl hc
  have B := K.1
  have hl9 := K.2.2.2.2.2.2
  unfold w_X5_find_21 at h
  refine lv_iload_n B.1 B.2.1 dX5_find_21 rfl (lv_at hl 1 rfl) ?_
  exact hQ _ _ _ _ _ _ g3 dX5_find_22 hH hc h hGσ hYσ hE
set_option maxRecDepth 20000 in
theorem a_X5_find_10 {Q : Sg → Int → Prop} {X : Sg → String → Prop} {th : Nat} (K : MD l R p s m args c cX5_find 4 RX5 D cA tys A n0 s0 0 0 []) (hQ : CQI p l e R s m args below meth c cX5_find D cA A n0 s0 QM σi Q) (hX : CX p l e R s m args below meth c 4 D cA A n0 s0 QM σi X) (hTh : CT p l e R s m args below meth c cX5_find 4 D cA A n0 s0 QM σi RX5 X) {K2 : Sg → Int64 → Int → Prop} (hK2 : ∀ (σ : Sg) (v1 : Int64) (v3 : Int) (g3 : rng v3), K2 σ v1 v3 → RG σ → TY σ → Ext σi σ → kO σ th 5 → JJ p l e R s m args below meth c 4 D cA A n0 s0 QM σ 2 [(0, .ref th), (1, .long v1), (3, .int (i32 v3))] []) : ∀ (σ : Sg) (v1 : Int64) (v3 : Int) (g3 : rng v3), w_X5_find_10 th K2 Q X σ v1 v3 → RG σ → TY σ → Ext σi σ → kO σ th 5 → JJ p l e R s m args below meth c 4 D cA A n0 s0 QM σ 10 [(0, .ref th), (1, .long v1), (3, .int (i32 v3))] [] := by
  intro σ v1 v3 g3 h hGσ hYσ hE hth H locs ls hH hl hc
  have B := K.1
  have hl9 := K.2.2.2.2.2.2
  unfold w_X5_find_10 at h
  refine lv_aload_n B.1 B.2.1 dX5_find_10 rfl (lv_at hl 0 rfl) ?_
  refine f_getp B hH hth (by decide) rfl wu_X5 0 (by decide) wf_X5_9 rfl rfl dX5_find_11 ?_
  refine lv_iload_n B.1 B.2.1 dX5_find_14 rfl (lv_at hl 2 rfl) ?_
  obtain ⟨a3, ea3, h⟩ := h
  have ka3 : kO σ a3 101 := (hYσ.get hth (by decide)) a3 ea3
  have h := h ka3
  obtain ⟨q1, h⟩ := h
  refine W.eq (g2 := F0 m 15 ls [.int (i32 v3), .ref a3]) (by rw [ea3]; rfl) ?_
  refine y_lald B K.2.1 hH ka3 q1 dX5_find_15 (hYσ.2 _) ?_
  refine lv_lload_n B.1 B.2.1 dX5_find_16 rfl (lv_at hl 1 rfl) ?_
  refine W.lcmp B.1 B.2.1 dX5_find_17 ?_
  refine lv_if_ne (tgt := 23) B.1 B.2.1 dX5_find_18 (by decide) (fun h9 => ?_) (fun h9 => ?_)
  · rw [if_pos (fun q => h9 ((lg_cmp_eq _ _).mpr q))] at h
    exact a_X5_find_23 K hQ hX hTh hK2 _ _ _ g3 h hGσ hYσ hE hth _ _ _ hH (lv_sub (l' := [(0, .ref th), (1, .long v1), (3, .int (i32 v3))]) hl [0, 1, 2] rfl) hc
  · rw [if_neg (fun q => q ((lg_cmp_eq _ _).mp h9))] at h
    exact a_X5_find_21 K hQ hX hTh _ _ g3 h hGσ hYσ hE hth _ _ _ hH (lv_sub (l' := [(0, .ref th), (3, .int (i32 v3))]) hl [0, 2] rfl) hc
set_option maxRecDepth 20000 in
theorem a_X5_find_2 {Q : Sg → Int → Prop} {X : Sg → String → Prop} {th : Nat} (K : MD l R p s m args c cX5_find 4 RX5 D cA tys A n0 s0 0 0 []) (hQ : CQI p l e R s m args below meth c cX5_find D cA A n0 s0 QM σi Q) (hX : CX p l e R s m args below meth c 4 D cA A n0 s0 QM σi X) (hTh : CT p l e R s m args below meth c cX5_find 4 D cA A n0 s0 QM σi RX5 X) {K2 : Sg → Int64 → Int → Prop} (hK2 : ∀ (σ : Sg) (v1 : Int64) (v3 : Int) (g3 : rng v3), K2 σ v1 v3 → RG σ → TY σ → Ext σi σ → kO σ th 5 → JJ p l e R s m args below meth c 4 D cA A n0 s0 QM σ 2 [(0, .ref th), (1, .long v1), (3, .int (i32 v3))] []) : ∀ (σ : Sg) (v1 : Int64) (v3 : Int) (g3 : rng v3), w_X5_find_2 th K2 Q X σ v1 v3 → RG σ → TY σ → Ext σi σ → kO σ th 5 → JJ p l e R s m args below meth c 4 D cA A n0 s0 QM σ 2 [(0, .ref th), (1, .long v1), (3, .int (i32 v3))] [] := by
  intro σ v1 v3 g3 h hGσ hYσ hE hth H locs ls hH hl hc
  have B := K.1
  have hl9 := K.2.2.2.2.2.2
  unfold w_X5_find_2 at h
  refine lv_iload_n B.1 B.2.1 dX5_find_2 rfl (lv_at hl 2 rfl) ?_
  refine lv_aload_n B.1 B.2.1 dX5_find_3 rfl (lv_at hl 0 rfl) ?_
  refine f_geti B hH hth (by decide) rfl wu_X5 3 (by decide) wf_X5_22 rfl rfl dX5_find_4 ?_
  refine lv_icmp_ge (tgt := 29) B.1 B.2.1 dX5_find_7 (by decide) (fun h9 => ?_) (fun h9 => ?_)
  · rw [if_pos ((i32_le (hGσ _ _) g3).mp h9)] at h
    exact a_X5_find_29 K hQ hX hTh _ h hGσ hYσ hE hth _ _ _ hH (lv_sub (l' := [(0, .ref th)]) hl [0] rfl) hc
  · rw [if_neg (fun q => h9 ((i32_le (hGσ _ _) g3).mpr q))] at h
    exact a_X5_find_10 K hQ hX hTh hK2 _ _ _ g3 h hGσ hYσ hE hth _ _ _ hH (lv_sub (l' := [(0, .ref th), (1, .long v1), (3, .int (i32 v3))]) hl [0, 1, 2] rfl) hc
theorem al_X5_find_2 {Q : Sg → Int → Prop} {X : Sg → String → Prop} {th : Nat} (K : MD l R p s m args c cX5_find 4 RX5 D cA tys A n0 s0 0 0 []) (hQ : CQI p l e R s m args below meth c cX5_find D cA A n0 s0 QM σi Q) (hX : CX p l e R s m args below meth c 4 D cA A n0 s0 QM σi X) (hTh : CT p l e R s m args below meth c cX5_find 4 D cA A n0 s0 QM σi RX5 X) : ∀ (n : Nat), ∀ (σ : Sg) (v1 : Int64) (v3 : Int) (g3 : rng v3), wl_X5_find_2 th Q X n σ v1 v3 → RG σ → TY σ → Ext σi σ → kO σ th 5 → JJ p l e R s m args below meth c 4 D cA A n0 s0 QM σ 2 [(0, .ref th), (1, .long v1), (3, .int (i32 v3))] [] := by
  intro n
  induction n with
  | zero => intro σ v1 v3 g3 h; exact h.elim
  | succ n ih => exact fun σ v1 v3 g3 h => a_X5_find_2 K hQ hX hTh ih σ v1 v3 g3 h
set_option maxRecDepth 20000 in
theorem a_X5_find_0 {Q : Sg → Int → Prop} {X : Sg → String → Prop} {th : Nat} (K : MD l R p s m args c cX5_find 4 RX5 D cA tys A n0 s0 0 0 []) (hQ : CQI p l e R s m args below meth c cX5_find D cA A n0 s0 QM σi Q) (hX : CX p l e R s m args below meth c 4 D cA A n0 s0 QM σi X) (hTh : CT p l e R s m args below meth c cX5_find 4 D cA A n0 s0 QM σi RX5 X) : ∀ (σ : Sg) (v1 : Int64), w_X5_find_0 th Q X σ v1 → RG σ → TY σ → Ext σi σ → kO σ th 5 → JJ p l e R s m args below meth c 4 D cA A n0 s0 QM σ 0 [(0, .ref th), (1, .long v1)] [] := by
  intro σ v1 h hGσ hYσ hE hth H locs ls hH hl hc
  have B := K.1
  have hl9 := K.2.2.2.2.2.2
  unfold w_X5_find_0 at h
  refine lv_iconst (v := i32 0) B.1 B.2.1 dX5_find_0 (by decide) ?_
  refine lv_istore_n (lv' := [(3, .int (i32 0)), (0, .ref th), (1, .long v1)]) B.1 B.2.1 dX5_find_1 rfl hl (by decide) rfl (fun ls hl => ?_)
  obtain ⟨n9, h⟩ := h
  exact al_X5_find_2 K hQ hX hTh n9 _ _ _ (by unfold rng; omega) h hGσ hYσ hE hth _ _ _ hH (lv_sub (l' := [(0, .ref th), (1, .long v1), (3, .int (i32 0))]) hl [1, 2, 0] rfl) hc
theorem ok_X5_find (hl0 : l.stackTraces = false) (hT : TyC cA tys) {Q : Sg → Int → Prop} {X : Sg → String → Prop} (σ : Sg) (th : Nat) (v1 : Int64) (hth : kO σ th 5) (hG : RG σ) (hY : TY σ) (h : wp_X5_find th v1 σ Q X) : Ok l D cA tys A yX5_find (.code yX5_find cX5_find 4 (some .int)) 0 0 [.ref th, .long v1] σ (QcI σ Q) (QxC σ X) := by
  unfold wp_X5_find at h
  exact oc_I hl0 (by decide) (by exact Nat.le_of_ble_eq_true rfl) hT (fun p e R s m args below meth c K hQ hX hTh H locs ls hH hl hc => a_X5_find_0 K hQ hX hTh σ v1 h hG hY (Ext.rfl' σ) hth H locs ls hH (lv_sub (l' := [(0, .ref th), (1, .long v1)]) hl [0, 1] rfl) hc)
theorem dX6_column_0 : decode cX6_column 0 = .ok (.aload_n 0, 1) := by decide +kernel
theorem dX6_column_1 : decode cX6_column 1 = .ok (.getfield 43, 3) := by decide +kernel
theorem dX6_column_4 : decode cX6_column 4 = .ok (.iconst 1, 1) := by decide +kernel
theorem dX6_column_5 : decode cX6_column 5 = .ok (.if_icmp .eq 7, 3) := by decide +kernel
theorem dX6_column_8 : decode cX6_column 8 = .ok (.aload_n 0, 1) := by decide +kernel
theorem dX6_column_9 : decode cX6_column 9 = .ok (.invokevirtual 70, 3) := by decide +kernel
theorem dX6_column_12 : decode cX6_column 12 = .ok (.aload_n 1, 1) := by decide +kernel
theorem dX6_column_13 : decode cX6_column 13 = .ok (.aload_n 0, 1) := by decide +kernel
theorem dX6_column_14 : decode cX6_column 14 = .ok (.getfield 73, 3) := by decide +kernel
theorem dX6_column_17 : decode cX6_column 17 = .ok (.invokevirtual 235, 3) := by decide +kernel
theorem dX6_column_20 : decode cX6_column 20 = .ok (.istore_n 2, 1) := by decide +kernel
theorem dX6_column_21 : decode cX6_column 21 = .ok (.iload_n 2, 1) := by decide +kernel
theorem dX6_column_22 : decode cX6_column 22 = .ok (.iconst (-1), 1) := by decide +kernel
theorem dX6_column_23 : decode cX6_column 23 = .ok (.if_icmp .ne 8, 3) := by decide +kernel
theorem dX6_column_26 : decode cX6_column 26 = .ok (.aload_n 0, 1) := by decide +kernel
theorem dX6_column_27 : decode cX6_column 27 = .ok (.iconst 5, 1) := by decide +kernel
theorem dX6_column_28 : decode cX6_column 28 = .ok (.invokevirtual 81, 3) := by decide +kernel
theorem dX6_column_31 : decode cX6_column 31 = .ok (.iload_n 2, 1) := by decide +kernel
theorem dX6_column_32 : decode cX6_column 32 = .ok (.ireturn, 1) := by decide +kernel
set_option maxRecDepth 20000 in
theorem a_X6_column_31 {Q : Sg → Int → Prop} {X : Sg → String → Prop} {th : Nat} (K : MD l R p s m args c cX6_column 3 RX6 D cA tys A n0 s0 8 131 []) (hQ : CQI p l e R s m args below meth c cX6_column D cA A n0 s0 QM σi Q) (hX : CX p l e R s m args below meth c 3 D cA A n0 s0 QM σi X) (hTh : CT p l e R s m args below meth c cX6_column 3 D cA A n0 s0 QM σi RX6 X) : ∀ (σ : Sg) (v2 : Int) (g2 : rng v2), w_X6_column_31 th Q X σ v2 → RG σ → TY σ → Ext σi σ → kO σ th 6 → JJ p l e R s m args below meth c 3 D cA A n0 s0 QM σ 31 [(0, .ref th), (2, .int (i32 v2))] [] := by
  intro σ v2 g2 h hGσ hYσ hE hth H locs ls hH hl hc
  have B := K.1
  have hl9 := K.2.2.2.2.2.2
  unfold w_X6_column_31 at h
  refine lv_iload_n B.1 B.2.1 dX6_column_31 rfl (lv_at hl 1 rfl) ?_
  exact hQ _ _ _ _ _ _ g2 dX6_column_32 hH hc h hGσ hYσ hE
set_option maxRecDepth 20000 in
theorem a_X6_column_26 {Q : Sg → Int → Prop} {X : Sg → String → Prop} {th : Nat} (K : MD l R p s m args c cX6_column 3 RX6 D cA tys A n0 s0 8 131 []) (hQ : CQI p l e R s m args below meth c cX6_column D cA A n0 s0 QM σi Q) (hX : CX p l e R s m args below meth c 3 D cA A n0 s0 QM σi X) (hTh : CT p l e R s m args below meth c cX6_column 3 D cA A n0 s0 QM σi RX6 X) : ∀ (σ : Sg) (v2 : Int) (g2 : rng v2), w_X6_column_26 th Q X σ v2 → RG σ → TY σ → Ext σi σ → kO σ th 6 → JJ p l e R s m args below meth c 3 D cA A n0 s0 QM σ 26 [(0, .ref th), (2, .int (i32 v2))] [] := by
  intro σ v2 g2 h hGσ hYσ hE hth H locs ls hH hl hc
  have B := K.1
  have hl9 := K.2.2.2.2.2.2
  unfold w_X6_column_26 at h
  refine lv_aload_n B.1 B.2.1 dX6_column_26 rfl (lv_at hl 0 rfl) ?_
  refine lv_iconst (v := i32 5) B.1 B.2.1 dX6_column_27 (by decide) ?_
  refine W.eq (g2 := F0 m 28 ls [.int (i32 5), .ref th]) (rfl) ?_
  refine c_V B hH hl hc K.2.2.1 (C := RX6) (T := TX6) (N := 9) (ci := 6) (As := [.int (i32 5)]) (ok_X6_refuse hl9 K.2.1 σ th 5 (by unfold rng; omega) hth hGσ hYσ h) wc_X6_81 1 hd_X6_refuse ⟨Nat.le_trans (Nat.le_of_ble_eq_true rfl) K.2.2.2.1, Nat.le_trans (Nat.le_of_ble_eq_true rfl) K.2.2.2.2.1⟩ hth.1 hth.2 (by decide) rfl rfl (rest := []) rfl (Nat.le_of_ble_eq_true rfl) dX6_column_28 (fun σ11 w hq => ?_) (fun σ9 E9 hx9 => hX σ9 E9 _ _ _ (tb_out K.2.2.2.2.2.1 rfl) hx9.1 hx9.2.1 hx9.2.2.1 (hE.trans hx9.2.2.2))
  obtain ⟨rfl, h, hGσ11, hYσ11, xσ11⟩ := hq
  have h := h xσ11
  intro H locs ls hH hl hc
  refine W.eq (g2 := F0 m 31 ls []) (rfl) ?_
  try dsimp only at h
  exact a_X6_column_31 K hQ hX hTh _ _ g2 h hGσ11 hYσ11 (hE.trans xσ11) (hth.up xσ11) _ _ _ hH (lv_sub (l' := [(0, .ref th), (2, .int (i32 v2))]) hl [0, 1] rfl) hc
set_option maxRecDepth 20000 in
theorem a_X6_column_12 {Q : Sg → Int → Prop} {X : Sg → String → Prop} {th : Nat} (K : MD l R p s m args c cX6_column 3 RX6 D cA tys A n0 s0 8 131 []) (hQ : CQI p l e R s m args below meth c cX6_column D cA A n0 s0 QM σi Q) (hX : CX p l e R s m args below meth c 3 D cA A n0 s0 QM σi X) (hTh : CT p l e R s m args below meth c cX6_column 3 D cA A n0 s0 QM σi RX6 X) : ∀ (σ : Sg) (v1 : Option Nat) (g1 : tyV σ 5 v1), w_X6_column_12 th Q X σ v1 → RG σ → TY σ → Ext σi σ → kO σ th 6 → JJ p l e R s m args below meth c 3 D cA A n0 s0 QM σ 12 [(0, .ref th), (1, va_rf v1)] [] := by
  intro σ v1 g1 h hGσ hYσ hE hth H locs ls hH hl hc
  have B := K.1
  have hl9 := K.2.2.2.2.2.2
  unfold w_X6_column_12 at h
  refine lv_aload_nQ B.1 B.2.1 dX6_column_12 rfl (lv_at hl 1 rfl) ?_
  refine lv_aload_n B.1 B.2.1 dX6_column_13 rfl (lv_at hl 0 rfl) ?_
  refine f_getl B hH hth (by decide) rfl wu_X6 4 (by decide) wf_X6_73 rfl rfl dX6_column_14 ?_
  obtain ⟨a14, ea14, h⟩ := h
  have ka14 : kO σ a14 5 := g1 a14 ea14
  have h := h ka14
  refine W.eq (g2 := F0 m 17 ls [.long (gJ σ th 4), .ref a14]) (by rw [ea14]; rfl) ?_
  refine c_V B hH hl hc K.2.2.1 (C := RX5) (T := TX5) (N := 17) (ci := 5) (As := [.long (gJ σ th 4)]) (ok_X5_find hl9 K.2.1 σ a14 (gJ σ th 4) ka14 hGσ hYσ h) wc_X6_235 1 hd_X5_find ⟨Nat.le_trans (Nat.le_of_ble_eq_true rfl) K.2.2.2.1, Nat.le_trans (Nat.le_of_ble_eq_true rfl) K.2.2.2.2.1⟩ ka14.1 ka14.2 (by decide) rfl rfl (rest := []) rfl (Nat.le_of_ble_eq_true rfl) dX6_column_17 (fun σ12 w hq => ?_) (fun σ9 E9 hx9 => hX σ9 E9 _ _ _ (tb_out K.2.2.2.2.2.1 rfl) hx9.1 hx9.2.1 hx9.2.2.1 (hE.trans hx9.2.2.2))
  obtain ⟨r13, rfl, gr13, h, hGσ12, hYσ12, xσ12⟩ := hq
  have h := h xσ12
  intro H locs ls hH hl hc
  refine W.eq (g2 := F0 m 20 ls [.int (i32 r13)]) (rfl) ?_
  try dsimp only at h
  refine lv_istore_n (lv' := [(2, .int (i32 r13)), (0, .ref th), (1, va_rf v1)]) B.1 B.2.1 dX6_column_20 rfl hl (by decide) (by generalize v1 = w9; cases w9 <;> rfl) (fun ls hl => ?_)
  refine lv_iload_n B.1 B.2.1 dX6_column_21 rfl (lv_at hl 0 rfl) ?_
  refine lv_iconst (v := i32 (-1)) B.1 B.2.1 dX6_column_22 (by decide) ?_
  refine lv_icmp_ne (tgt := 31) B.1 B.2.1 dX6_column_23 (by decide) (fun h9 => ?_) (fun h9 => ?_)
  · rw [if_pos (fun q => h9 ((i32_eq gr13 (by unfold rng; omega)).mpr q))] at h
    exact a_X6_column_31 K hQ hX hTh _ _ gr13 h hGσ12 hYσ12 (hE.trans xσ12) (hth.up xσ12) _ _ _ hH (lv_sub (l' := [(0, .ref th), (2, .int (i32 r13))]) hl [1, 0] rfl) hc
  · rw [if_neg (fun q => q ((i32_eq gr13 (by unfold rng; omega)).mp h9))] at h
    exact a_X6_column_26 K hQ hX hTh _ _ gr13 h hGσ12 hYσ12 (hE.trans xσ12) (hth.up xσ12) _ _ _ hH (lv_sub (l' := [(0, .ref th), (2, .int (i32 r13))]) hl [1, 0] rfl) hc
set_option maxRecDepth 20000 in
theorem a_X6_column_8 {Q : Sg → Int → Prop} {X : Sg → String → Prop} {th : Nat} (K : MD l R p s m args c cX6_column 3 RX6 D cA tys A n0 s0 8 131 []) (hQ : CQI p l e R s m args below meth c cX6_column D cA A n0 s0 QM σi Q) (hX : CX p l e R s m args below meth c 3 D cA A n0 s0 QM σi X) (hTh : CT p l e R s m args below meth c cX6_column 3 D cA A n0 s0 QM σi RX6 X) : ∀ (σ : Sg) (v1 : Option Nat) (g1 : tyV σ 5 v1), w_X6_column_8 th Q X σ v1 → RG σ → TY σ → Ext σi σ → kO σ th 6 → JJ p l e R s m args below meth c 3 D cA A n0 s0 QM σ 8 [(0, .ref th), (1, va_rf v1)] [] := by
  intro σ v1 g1 h hGσ hYσ hE hth H locs ls hH hl hc
  have B := K.1
  have hl9 := K.2.2.2.2.2.2
  unfold w_X6_column_8 at h
  refine lv_aload_n B.1 B.2.1 dX6_column_8 rfl (lv_at hl 0 rfl) ?_
  refine W.eq (g2 := F0 m 9 ls [.ref th]) (rfl) ?_
  refine c_V B hH hl hc K.2.2.1 (C := RX6) (T := TX6) (N := 9) (ci := 6) (As := []) (ok_X6_cannotStand hl9 K.2.1 σ th hth hGσ hYσ h) wc_X6_70 0 hd_X6_cannotStand ⟨Nat.le_trans (Nat.le_of_ble_eq_true rfl) K.2.2.2.1, Nat.le_trans (Nat.le_of_ble_eq_true rfl) K.2.2.2.2.1⟩ hth.1 hth.2 (by decide) rfl rfl (rest := []) rfl (Nat.le_of_ble_eq_true rfl) dX6_column_9 (fun σ15 w hq => ?_) (fun σ9 E9 hx9 => hX σ9 E9 _ _ _ (tb_out K.2.2.2.2.2.1 rfl) hx9.1 hx9.2.1 hx9.2.2.1 (hE.trans hx9.2.2.2))
  obtain ⟨rfl, h, hGσ15, hYσ15, xσ15⟩ := hq
  have h := h xσ15
  intro H locs ls hH hl hc
  refine W.eq (g2 := F0 m 12 ls []) (rfl) ?_
  try dsimp only at h
  exact a_X6_column_12 K hQ hX hTh _ _ (g1.up xσ15) h hGσ15 hYσ15 (hE.trans xσ15) (hth.up xσ15) _ _ _ hH (lv_sub (l' := [(0, .ref th), (1, va_rf v1)]) hl [0, 1] rfl) hc
set_option maxRecDepth 20000 in
theorem a_X6_column_0 {Q : Sg → Int → Prop} {X : Sg → String → Prop} {th : Nat} (K : MD l R p s m args c cX6_column 3 RX6 D cA tys A n0 s0 8 131 []) (hQ : CQI p l e R s m args below meth c cX6_column D cA A n0 s0 QM σi Q) (hX : CX p l e R s m args below meth c 3 D cA A n0 s0 QM σi X) (hTh : CT p l e R s m args below meth c cX6_column 3 D cA A n0 s0 QM σi RX6 X) : ∀ (σ : Sg) (v1 : Option Nat) (g1 : tyV σ 5 v1), w_X6_column_0 th Q X σ v1 → RG σ → TY σ → Ext σi σ → kO σ th 6 → JJ p l e R s m args below meth c 3 D cA A n0 s0 QM σ 0 [(0, .ref th), (1, va_rf v1)] [] := by
  intro σ v1 g1 h hGσ hYσ hE hth H locs ls hH hl hc
  have B := K.1
  have hl9 := K.2.2.2.2.2.2
  unfold w_X6_column_0 at h
  refine lv_aload_n B.1 B.2.1 dX6_column_0 rfl (lv_at hl 0 rfl) ?_
  refine f_geti B hH hth (by decide) rfl wu_X6 3 (by decide) wf_X6_43 rfl rfl dX6_column_1 ?_
  refine lv_iconst (v := i32 1) B.1 B.2.1 dX6_column_4 (by decide) ?_
  refine lv_icmp_eq (tgt := 12) B.1 B.2.1 dX6_column_5 (by decide) (fun h9 => ?_) (fun h9 => ?_)
  · rw [if_pos ((i32_eq (hGσ _ _) (by unfold rng; omega)).mp h9)] at h
    exact a_X6_column_12 K hQ hX hTh _ _ g1 h hGσ hYσ hE hth _ _ _ hH (lv_sub (l' := [(0, .ref th), (1, va_rf v1)]) hl [0, 1] rfl) hc
  · rw [if_neg (fun q => h9 ((i32_eq (hGσ _ _) (by unfold rng; omega)).mpr q))] at h
    exact a_X6_column_8 K hQ hX hTh _ _ g1 h hGσ hYσ hE hth _ _ _ hH (lv_sub (l' := [(0, .ref th), (1, va_rf v1)]) hl [0, 1] rfl) hc
theorem ok_X6_column (hl0 : l.stackTraces = false) (hT : TyC cA tys) {Q : Sg → Int → Prop} {X : Sg → String → Prop} (σ : Sg) (th : Nat) (v1 : Option Nat) (g1 : tyV σ 5 v1) (hth : kO σ th 6) (hG : RG σ) (hY : TY σ) (h : wp_X6_column th v1 σ Q X) : Ok l D cA tys A yX6_column (.code yX6_column cX6_column 3 (some .int)) 8 131 [.ref th, va_rf v1] σ (QcI σ Q) (QxC σ X) := by
  unfold wp_X6_column at h
  exact oc_I hl0 (by decide) (by cases v1 <;> exact Nat.le_of_ble_eq_true rfl) hT (fun p e R s m args below meth c K hQ hX hTh H locs ls hH hl hc => a_X6_column_0 K hQ hX hTh σ v1 g1 h hG hY (Ext.rfl' σ) hth H locs ls hH (lv_sub (l' := [(0, .ref th), (1, va_rf v1)]) hl [0, 1] (by cases v1 <;> rfl)) hc)
theorem dX6_goDeeper_0 : decode cX6_goDeeper 0 = .ok (.iload_n 1, 1) := by decide +kernel
theorem dX6_goDeeper_1 : decode cX6_goDeeper 1 = .ok (.bipush 10, 2) := by decide +kernel
theorem dX6_goDeeper_3 : decode cX6_goDeeper 3 = .ok (.if_icmp .lt 9, 3) := by decide +kernel
theorem dX6_goDeeper_6 : decode cX6_goDeeper 6 = .ok (.aload_n 0, 1) := by decide +kernel
theorem dX6_goDeeper_7 : decode cX6_goDeeper 7 = .ok (.bipush 9, 2) := by decide +kernel
theorem dX6_goDeeper_9 : decode cX6_goDeeper 9 = .ok (.invokevirtual 81, 3) := by decide +kernel
theorem dX6_goDeeper_12 : decode cX6_goDeeper 12 = .ok (.return_, 1) := by decide +kernel
set_option maxRecDepth 20000 in
theorem a_X6_goDeeper_12 {Q : Sg → Unit → Prop} {X : Sg → String → Prop} {th : Nat} (K : MD l R p s m args c cX6_goDeeper 2 RX6 D cA tys A n0 s0 7 111 []) (hQ : CQV p l e R s m args below meth c cX6_goDeeper D cA A n0 s0 QM σi Q) (hX : CX p l e R s m args below meth c 2 D cA A n0 s0 QM σi X) (hTh : CT p l e R s m args below meth c cX6_goDeeper 2 D cA A n0 s0 QM σi RX6 X) : ∀ (σ : Sg), w_X6_goDeeper_12 th Q X σ → RG σ → TY σ → Ext σi σ → kO σ th 6 → JJ p l e R s m args below meth c 2 D cA A n0 s0 QM σ 12 [(0, .ref th)] [] := by
  intro σ h hGσ hYσ hE hth H locs ls hH hl hc
  have B := K.1
  have hl9 := K.2.2.2.2.2.2
  unfold w_X6_goDeeper_12 at h
  exact hQ _ _ _ _ _ dX6_goDeeper_12 hH hc h hGσ hYσ hE
set_option maxRecDepth 20000 in
theorem a_X6_goDeeper_6 {Q : Sg → Unit → Prop} {X : Sg → String → Prop} {th : Nat} (K : MD l R p s m args c cX6_goDeeper 2 RX6 D cA tys A n0 s0 7 111 []) (hQ : CQV p l e R s m args below meth c cX6_goDeeper D cA A n0 s0 QM σi Q) (hX : CX p l e R s m args below meth c 2 D cA A n0 s0 QM σi X) (hTh : CT p l e R s m args below meth c cX6_goDeeper 2 D cA A n0 s0 QM σi RX6 X) : ∀ (σ : Sg), w_X6_goDeeper_6 th Q X σ → RG σ → TY σ → Ext σi σ → kO σ th 6 → JJ p l e R s m args below meth c 2 D cA A n0 s0 QM σ 6 [(0, .ref th)] [] := by
  intro σ h hGσ hYσ hE hth H locs ls hH hl hc
  have B := K.1
  have hl9 := K.2.2.2.2.2.2
  unfold w_X6_goDeeper_6 at h
  refine lv_aload_n B.1 B.2.1 dX6_goDeeper_6 rfl (lv_at hl 0 rfl) ?_
  refine lv_bipush (v := i32 9) B.1 B.2.1 dX6_goDeeper_7 (by decide) ?_
  refine W.eq (g2 := F0 m 9 ls [.int (i32 9), .ref th]) (rfl) ?_
  refine c_V B hH hl hc K.2.2.1 (C := RX6) (T := TX6) (N := 9) (ci := 6) (As := [.int (i32 9)]) (ok_X6_refuse hl9 K.2.1 σ th 9 (by unfold rng; omega) hth hGσ hYσ h) wc_X6_81 1 hd_X6_refuse ⟨Nat.le_trans (Nat.le_of_ble_eq_true rfl) K.2.2.2.1, Nat.le_trans (Nat.le_of_ble_eq_true rfl) K.2.2.2.2.1⟩ hth.1 hth.2 (by decide) rfl rfl (rest := []) rfl (Nat.le_of_ble_eq_true rfl) dX6_goDeeper_9 (fun σ3 w hq => ?_) (fun σ9 E9 hx9 => hX σ9 E9 _ _ _ (tb_out K.2.2.2.2.2.1 rfl) hx9.1 hx9.2.1 hx9.2.2.1 (hE.trans hx9.2.2.2))
  obtain ⟨rfl, h, hGσ3, hYσ3, xσ3⟩ := hq
  have h := h xσ3
  intro H locs ls hH hl hc
  refine W.eq (g2 := F0 m 12 ls []) (rfl) ?_
  try dsimp only at h
  exact a_X6_goDeeper_12 K hQ hX hTh _ h hGσ3 hYσ3 (hE.trans xσ3) (hth.up xσ3) _ _ _ hH (lv_sub (l' := [(0, .ref th)]) hl [0] rfl) hc
set_option maxRecDepth 20000 in
theorem a_X6_goDeeper_0 {Q : Sg → Unit → Prop} {X : Sg → String → Prop} {th : Nat} (K : MD l R p s m args c cX6_goDeeper 2 RX6 D cA tys A n0 s0 7 111 []) (hQ : CQV p l e R s m args below meth c cX6_goDeeper D cA A n0 s0 QM σi Q) (hX : CX p l e R s m args below meth c 2 D cA A n0 s0 QM σi X) (hTh : CT p l e R s m args below meth c cX6_goDeeper 2 D cA A n0 s0 QM σi RX6 X) : ∀ (σ : Sg) (v1 : Int) (g1 : rng v1), w_X6_goDeeper_0 th Q X σ v1 → RG σ → TY σ → Ext σi σ → kO σ th 6 → JJ p l e R s m args below meth c 2 D cA A n0 s0 QM σ 0 [(0, .ref th), (1, .int (i32 v1))] [] := by
  intro σ v1 g1 h hGσ hYσ hE hth H locs ls hH hl hc
  have B := K.1
  have hl9 := K.2.2.2.2.2.2
  unfold w_X6_goDeeper_0 at h
  refine lv_iload_n B.1 B.2.1 dX6_goDeeper_0 rfl (lv_at hl 1 rfl) ?_
  refine lv_bipush (v := i32 10) B.1 B.2.1 dX6_goDeeper_1 (by decide) ?_
  refine lv_icmp_lt (tgt := 12) B.1 B.2.1 dX6_goDeeper_3 (by decide) (fun h9 => ?_) (fun h9 => ?_)
  · rw [if_pos ((i32_lt g1 (by unfold rng; omega)).mp h9)] at h
    exact a_X6_goDeeper_12 K hQ hX hTh _ h hGσ hYσ hE hth _ _ _ hH (lv_sub (l' := [(0, .ref th)]) hl [0] rfl) hc
  · rw [if_neg (fun q => h9 ((i32_lt g1 (by unfold rng; omega)).mpr q))] at h
    exact a_X6_goDeeper_6 K hQ hX hTh _ h hGσ hYσ hE hth _ _ _ hH (lv_sub (l' := [(0, .ref th)]) hl [0] rfl) hc
theorem ok_X6_goDeeper (hl0 : l.stackTraces = false) (hT : TyC cA tys) {Q : Sg → Unit → Prop} {X : Sg → String → Prop} (σ : Sg) (th : Nat) (v1 : Int) (g1 : rng v1) (hth : kO σ th 6) (hG : RG σ) (hY : TY σ) (h : wp_X6_goDeeper th v1 σ Q X) : Ok l D cA tys A yX6_goDeeper (.code yX6_goDeeper cX6_goDeeper 2 none) 7 111 [.ref th, .int (i32 v1)] σ (QcV σ Q) (QxC σ X) := by
  unfold wp_X6_goDeeper at h
  exact oc_V hl0 (by decide) (by exact Nat.le_of_ble_eq_true rfl) hT (fun p e R s m args below meth c K hQ hX hTh hin9 H locs ls hH hl hc => a_X6_goDeeper_0 K hQ hX hTh σ v1 g1 h hG hY (Ext.rfl' σ) hth H locs ls hH (lv_sub (l' := [(0, .ref th), (1, .int (i32 v1))]) hl [0, 1] rfl) hc)
theorem dX6_instructionOfToken_0 : decode cX6_instructionOfToken 0 = .ok (.aload_n 0, 1) := by decide +kernel
theorem dX6_instructionOfToken_1 : decode cX6_instructionOfToken 1 = .ok (.getfield 73, 3) := by decide +kernel
theorem dX6_instructionOfToken_4 : decode cX6_instructionOfToken 4 = .ok (.l2i, 1) := by decide +kernel
theorem dX6_instructionOfToken_5 : decode cX6_instructionOfToken 5 = .ok (.lookupswitch 110 #[(38, 86), (42, 104), (43, 98), (45, 101), (47, 107), (60, 89), (61, 95), (62, 92), (124, 83)], 83) := by decide +kernel
theorem dX6_instructionOfToken_88 : decode cX6_instructionOfToken 88 = .ok (.bipush 10, 2) := by decide +kernel
theorem dX6_instructionOfToken_90 : decode cX6_instructionOfToken 90 = .ok (.ireturn, 1) := by decide +kernel
theorem dX6_instructionOfToken_91 : decode cX6_instructionOfToken 91 = .ok (.bipush 9, 2) := by decide +kernel
theorem dX6_instructionOfToken_93 : decode cX6_instructionOfToken 93 = .ok (.ireturn, 1) := by decide +kernel
theorem dX6_instructionOfToken_94 : decode cX6_instructionOfToken 94 = .ok (.bipush 16, 2) := by decide +kernel
theorem dX6_instructionOfToken_96 : decode cX6_instructionOfToken 96 = .ok (.ireturn, 1) := by decide +kernel
theorem dX6_instructionOfToken_97 : decode cX6_instructionOfToken 97 = .ok (.bipush 17, 2) := by decide +kernel
theorem dX6_instructionOfToken_99 : decode cX6_instructionOfToken 99 = .ok (.ireturn, 1) := by decide +kernel
theorem dX6_instructionOfToken_100 : decode cX6_instructionOfToken 100 = .ok (.bipush 18, 2) := by decide +kernel
theorem dX6_instructionOfToken_102 : decode cX6_instructionOfToken 102 = .ok (.ireturn, 1) := by decide +kernel
theorem dX6_instructionOfToken_103 : decode cX6_instructionOfToken 103 = .ok (.bipush 11, 2) := by decide +kernel
theorem dX6_instructionOfToken_105 : decode cX6_instructionOfToken 105 = .ok (.ireturn, 1) := by decide +kernel
theorem dX6_instructionOfToken_106 : decode cX6_instructionOfToken 106 = .ok (.bipush 12, 2) := by decide +kernel
theorem dX6_instructionOfToken_108 : decode cX6_instructionOfToken 108 = .ok (.ireturn, 1) := by decide +kernel
theorem dX6_instructionOfToken_109 : decode cX6_instructionOfToken 109 = .ok (.bipush 13, 2) := by decide +kernel
theorem dX6_instructionOfToken_111 : decode cX6_instructionOfToken 111 = .ok (.ireturn, 1) := by decide +kernel
theorem dX6_instructionOfToken_112 : decode cX6_instructionOfToken 112 = .ok (.bipush 14, 2) := by decide +kernel
theorem dX6_instructionOfToken_114 : decode cX6_instructionOfToken 114 = .ok (.ireturn, 1) := by decide +kernel
theorem dX6_instructionOfToken_115 : decode cX6_instructionOfToken 115 = .ok (.bipush 15, 2) := by decide +kernel
theorem dX6_instructionOfToken_117 : decode cX6_instructionOfToken 117 = .ok (.ireturn, 1) := by decide +kernel
theorem lk_X6_instructionOfToken_5 (x : Int) (h0 : ¬ x = 38) (h1 : ¬ x = 42) (h2 : ¬ x = 43) (h3 : ¬ x = 45) (h4 : ¬ x = 47) (h5 : ¬ x = 60) (h6 : ¬ x = 61) (h7 : ¬ x = 62) (h8 : ¬ x = 124) : Op.lookupswitch.offset [(38, 86), (42, 104), (43, 98), (45, 101), (47, 107), (60, 89), (61, 95), (62, 92), (124, 83)] 110 x = 110 := by simp [Op.lookupswitch.offset, h0, Ne.symm h0, h1, Ne.symm h1, h2, Ne.symm h2, h3, Ne.symm h3, h4, Ne.symm h4, h5, Ne.symm h5, h6, Ne.symm h6, h7, Ne.symm h7, h8, Ne.symm h8]
set_option maxRecDepth 20000 in
theorem a_X6_instructionOfToken_88 {Q : Sg → Int → Prop} {X : Sg → String → Prop} {th : Nat} (K : MD l R p s m args c cX6_instructionOfToken 1 RX6 D cA tys A n0 s0 0 0 []) (hQ : CQI p l e R s m args below meth c cX6_instructionOfToken D cA A n0 s0 QM σi Q) (hX : CX p l e R s m args below meth c 1 D cA A n0 s0 QM σi X) (hTh : CT p l e R s m args below meth c cX6_instructionOfToken 1 D cA A n0 s0 QM σi RX6 X) : ∀ (σ : Sg), w_X6_instructionOfToken_88 th Q X σ → RG σ → TY σ → Ext σi σ → kO σ th 6 → JJ p l e R s m args below meth c 1 D cA A n0 s0 QM σ 88 [(0, .ref th)] [] := by
  intro σ h hGσ hYσ hE hth H locs ls hH hl hc
  have B := K.1
  have hl9 := K.2.2.2.2.2.2
  unfold w_X6_instructionOfToken_88 at h
  refine lv_bipush (v := i32 10) B.1 B.2.1 dX6_instructionOfToken_88 (by decide) ?_
  exact hQ _ _ _ _ _ _ (by unfold rng; omega) dX6_instructionOfToken_90 hH hc h hGσ hYσ hE
set_option maxRecDepth 20000 in
theorem a_X6_instructionOfToken_91 {Q : Sg → Int → Prop} {X : Sg → String → Prop} {th : Nat} (K : MD l R p s m args c cX6_instructionOfToken 1 RX6 D cA tys A n0 s0 0 0 []) (hQ : CQI p l e R s m args below meth c cX6_instructionOfToken D cA A n0 s0 QM σi Q) (hX : CX p l e R s m args below meth c 1 D cA A n0 s0 QM σi X) (hTh : CT p l e R s m args below meth c cX6_instructionOfToken 1 D cA A n0 s0 QM σi RX6 X) : ∀ (σ : Sg), w_X6_instructionOfToken_91 th Q X σ → RG σ → TY σ → Ext σi σ → kO σ th 6 → JJ p l e R s m args below meth c 1 D cA A n0 s0 QM σ 91 [(0, .ref th)] [] := by
  intro σ h hGσ hYσ hE hth H locs ls hH hl hc
  have B := K.1
  have hl9 := K.2.2.2.2.2.2
  unfold w_X6_instructionOfToken_91 at h
  refine lv_bipush (v := i32 9) B.1 B.2.1 dX6_instructionOfToken_91 (by decide) ?_
  exact hQ _ _ _ _ _ _ (by unfold rng; omega) dX6_instructionOfToken_93 hH hc h hGσ hYσ hE
set_option maxRecDepth 20000 in
theorem a_X6_instructionOfToken_94 {Q : Sg → Int → Prop} {X : Sg → String → Prop} {th : Nat} (K : MD l R p s m args c cX6_instructionOfToken 1 RX6 D cA tys A n0 s0 0 0 []) (hQ : CQI p l e R s m args below meth c cX6_instructionOfToken D cA A n0 s0 QM σi Q) (hX : CX p l e R s m args below meth c 1 D cA A n0 s0 QM σi X) (hTh : CT p l e R s m args below meth c cX6_instructionOfToken 1 D cA A n0 s0 QM σi RX6 X) : ∀ (σ : Sg), w_X6_instructionOfToken_94 th Q X σ → RG σ → TY σ → Ext σi σ → kO σ th 6 → JJ p l e R s m args below meth c 1 D cA A n0 s0 QM σ 94 [(0, .ref th)] [] := by
  intro σ h hGσ hYσ hE hth H locs ls hH hl hc
  have B := K.1
  have hl9 := K.2.2.2.2.2.2
  unfold w_X6_instructionOfToken_94 at h
  refine lv_bipush (v := i32 16) B.1 B.2.1 dX6_instructionOfToken_94 (by decide) ?_
  exact hQ _ _ _ _ _ _ (by unfold rng; omega) dX6_instructionOfToken_96 hH hc h hGσ hYσ hE
set_option maxRecDepth 20000 in
theorem a_X6_instructionOfToken_97 {Q : Sg → Int → Prop} {X : Sg → String → Prop} {th : Nat} (K : MD l R p s m args c cX6_instructionOfToken 1 RX6 D cA tys A n0 s0 0 0 []) (hQ : CQI p l e R s m args below meth c cX6_instructionOfToken D cA A n0 s0 QM σi Q) (hX : CX p l e R s m args below meth c 1 D cA A n0 s0 QM σi X) (hTh : CT p l e R s m args below meth c cX6_instructionOfToken 1 D cA A n0 s0 QM σi RX6 X) : ∀ (σ : Sg), w_X6_instructionOfToken_97 th Q X σ → RG σ → TY σ → Ext σi σ → kO σ th 6 → JJ p l e R s m args below meth c 1 D cA A n0 s0 QM σ 97 [(0, .ref th)] [] := by
  intro σ h hGσ hYσ hE hth H locs ls hH hl hc
  have B := K.1
  have hl9 := K.2.2.2.2.2.2
  unfold w_X6_instructionOfToken_97 at h
  refine lv_bipush (v := i32 17) B.1 B.2.1 dX6_instructionOfToken_97 (by decide) ?_
  exact hQ _ _ _ _ _ _ (by unfold rng; omega) dX6_instructionOfToken_99 hH hc h hGσ hYσ hE
set_option maxRecDepth 20000 in
theorem a_X6_instructionOfToken_100 {Q : Sg → Int → Prop} {X : Sg → String → Prop} {th : Nat} (K : MD l R p s m args c cX6_instructionOfToken 1 RX6 D cA tys A n0 s0 0 0 []) (hQ : CQI p l e R s m args below meth c cX6_instructionOfToken D cA A n0 s0 QM σi Q) (hX : CX p l e R s m args below meth c 1 D cA A n0 s0 QM σi X) (hTh : CT p l e R s m args below meth c cX6_instructionOfToken 1 D cA A n0 s0 QM σi RX6 X) : ∀ (σ : Sg), w_X6_instructionOfToken_100 th Q X σ → RG σ → TY σ → Ext σi σ → kO σ th 6 → JJ p l e R s m args below meth c 1 D cA A n0 s0 QM σ 100 [(0, .ref th)] [] := by
  intro σ h hGσ hYσ hE hth H locs ls hH hl hc
  have B := K.1
  have hl9 := K.2.2.2.2.2.2
  unfold w_X6_instructionOfToken_100 at h
  refine lv_bipush (v := i32 18) B.1 B.2.1 dX6_instructionOfToken_100 (by decide) ?_
  exact hQ _ _ _ _ _ _ (by unfold rng; omega) dX6_instructionOfToken_102 hH hc h hGσ hYσ hE
set_option maxRecDepth 20000 in
theorem a_X6_instructionOfToken_103 {Q : Sg → Int → Prop} {X : Sg → String → Prop} {th : Nat} (K : MD l R p s m args c cX6_instructionOfToken 1 RX6 D cA tys A n0 s0 0 0 []) (hQ : CQI p l e R s m args below meth c cX6_instructionOfToken D cA A n0 s0 QM σi Q) (hX : CX p l e R s m args below meth c 1 D cA A n0 s0 QM σi X) (hTh : CT p l e R s m args below meth c cX6_instructionOfToken 1 D cA A n0 s0 QM σi RX6 X) : ∀ (σ : Sg), w_X6_instructionOfToken_103 th Q X σ → RG σ → TY σ → Ext σi σ → kO σ th 6 → JJ p l e R s m args below meth c 1 D cA A n0 s0 QM σ 103 [(0, .ref th)] [] := by
  intro σ h hGσ hYσ hE hth H locs ls hH hl hc
  have B := K.1
  have hl9 := K.2.2.2.2.2.2
  unfold w_X6_instructionOfToken_103 at h
  refine lv_bipush (v := i32 11) B.1 B.2.1 dX6_instructionOfToken_103 (by decide) ?_
  exact hQ _ _ _ _ _ _ (by unfold rng; omega) dX6_instructionOfToken_105 hH hc h hGσ hYσ hE
set_option maxRecDepth 20000 in
theorem a_X6_instructionOfToken_106 {Q : Sg → Int → Prop} {X : Sg → String → Prop} {th : Nat} (K : MD l R p s m args c cX6_instructionOfToken 1 RX6 D cA tys A n0 s0 0 0 []) (hQ : CQI p l e R s m args below meth c cX6_instructionOfToken D cA A n0 s0 QM σi Q) (hX : CX p l e R s m args below meth c 1 D cA A n0 s0 QM σi X) (hTh : CT p l e R s m args below meth c cX6_instructionOfToken 1 D cA A n0 s0 QM σi RX6 X) : ∀ (σ : Sg), w_X6_instructionOfToken_106 th Q X σ → RG σ → TY σ → Ext σi σ → kO σ th 6 → JJ p l e R s m args below meth c 1 D cA A n0 s0 QM σ 106 [(0, .ref th)] [] := by
  intro σ h hGσ hYσ hE hth H locs ls hH hl hc
  have B := K.1
  have hl9 := K.2.2.2.2.2.2
  unfold w_X6_instructionOfToken_106 at h
  refine lv_bipush (v := i32 12) B.1 B.2.1 dX6_instructionOfToken_106 (by decide) ?_
  exact hQ _ _ _ _ _ _ (by unfold rng; omega) dX6_instructionOfToken_108 hH hc h hGσ hYσ hE
set_option maxRecDepth 20000 in
theorem a_X6_instructionOfToken_109 {Q : Sg → Int → Prop} {X : Sg → String → Prop} {th : Nat} (K : MD l R p s m args c cX6_instructionOfToken 1 RX6 D cA tys A n0 s0 0 0 []) (hQ : CQI p l e R s m args below meth c cX6_instructionOfToken D cA A n0 s0 QM σi Q) (hX : CX p l e R s m args below meth c 1 D cA A n0 s0 QM σi X) (hTh : CT p l e R s m args below meth c cX6_instructionOfToken 1 D cA A n0 s0 QM σi RX6 X) : ∀ (σ : Sg), w_X6_instructionOfToken_109 th Q X σ → RG σ → TY σ → Ext σi σ → kO σ th 6 → JJ p l e R s m args below meth c 1 D cA A n0 s0 QM σ 109 [(0, .ref th)] [] := by
  intro σ h hGσ hYσ hE hth H locs ls hH hl hc
  have B := K.1
  have hl9 := K.2.2.2.2.2.2
  unfold w_X6_instructionOfToken_109 at h
  refine lv_bipush (v := i32 13) B.1 B.2.1 dX6_instructionOfToken_109 (by decide) ?_
  exact hQ _ _ _ _ _ _ (by unfold rng; omega) dX6_instructionOfToken_111 hH hc h hGσ hYσ hE
set_option maxRecDepth 20000 in
theorem a_X6_instructionOfToken_112 {Q : Sg → Int → Prop} {X : Sg → String → Prop} {th : Nat} (K : MD l R p s m args c cX6_instructionOfToken 1 RX6 D cA tys A n0 s0 0 0 []) (hQ : CQI p l e R s m args below meth c cX6_instructionOfToken D cA A n0 s0 QM σi Q) (hX : CX p l e R s m args below meth c 1 D cA A n0 s0 QM σi X) (hTh : CT p l e R s m args below meth c cX6_instructionOfToken 1 D cA A n0 s0 QM σi RX6 X) : ∀ (σ : Sg), w_X6_instructionOfToken_112 th Q X σ → RG σ → TY σ → Ext σi σ → kO σ th 6 → JJ p l e R s m args below meth c 1 D cA A n0 s0 QM σ 112 [(0, .ref th)] [] := by
  intro σ h hGσ hYσ hE hth H locs ls hH hl hc
  have B := K.1
  have hl9 := K.2.2.2.2.2.2
  unfold w_X6_instructionOfToken_112 at h
  refine lv_bipush (v := i32 14) B.1 B.2.1 dX6_instructionOfToken_112 (by decide) ?_
  exact hQ _ _ _ _ _ _ (by unfold rng; omega) dX6_instructionOfToken_114 hH hc h hGσ hYσ hE
set_option maxRecDepth 20000 in
theorem a_X6_instructionOfToken_115 {Q : Sg → Int → Prop} {X : Sg → String → Prop} {th : Nat} (K : MD l R p s m args c cX6_instructionOfToken 1 RX6 D cA tys A n0 s0 0 0 []) (hQ : CQI p l e R s m args below meth c cX6_instructionOfToken D cA A n0 s0 QM σi Q) (hX : CX p l e R s m args below meth c 1 D cA A n0 s0 QM σi X) (hTh : CT p l e R s m args below meth c cX6_instructionOfToken 1 D cA A n0 s0 QM σi RX6 X) : ∀ (σ : Sg), w_X6_instructionOfToken_115 th Q X σ → RG σ → TY σ → Ext σi σ → kO σ th 6 → JJ p l e R s m args below meth c 1 D cA A n0 s0 QM σ 115 [(0, .ref th)] [] := by
  intro σ h hGσ hYσ hE hth H locs ls hH hl hc
  have B := K.1
  have hl9 := K.2.2.2.2.2.2
  unfold w_X6_instructionOfToken_115 at h
  refine lv_bipush (v := i32 15) B.1 B.2.1 dX6_instructionOfToken_115 (by decide) ?_
  exact hQ _ _ _ _ _ _ (by unfold rng; omega) dX6_instructionOfToken_117 hH hc h hGσ hYσ hE
set_option maxRecDepth 20000 in
theorem a_X6_instructionOfToken_0 {Q : Sg → Int → Prop} {X : Sg → String → Prop} {th : Nat} (K : MD l R p s m args c cX6_instructionOfToken 1 RX6 D cA tys A n0 s0 0 0 []) (hQ : CQI p l e R s m args below meth c cX6_instructionOfToken D cA A n0 s0 QM σi Q) (hX : CX p l e R s m args below meth c 1 D cA A n0 s0 QM σi X) (hTh : CT p l e R s m args below meth c cX6_instructionOfToken 1 D cA A n0 s0 QM σi RX6 X) : ∀ (σ : Sg), w_X6_instructionOfToken_0 th Q X σ → RG σ → TY σ → Ext σi σ → kO σ th 6 → JJ p l e R s m args below meth c 1 D cA A n0 s0 QM σ 0 [(0, .ref th)] [] := by
  intro σ h hGσ hYσ hE hth H locs ls hH hl hc
  have B := K.1
  have hl9 := K.2.2.2.2.2.2
  unfold w_X6_instructionOfToken_0 at h
  refine lv_aload_n B.1 B.2.1 dX6_instructionOfToken_0 rfl (lv_at hl 0 rfl) ?_
  refine f_getl B hH hth (by decide) rfl wu_X6 4 (by decide) wf_X6_73 rfl rfl dX6_instructionOfToken_1 ?_
  refine lv_l2i B.1 B.2.1 dX6_instructionOfToken_4 rfl ?_
  refine W.eq (g2 := F0 m 5 ls [.int (i32 ((gJ σ th 4).toInt32.toInt))]) (by simp only [i32_self]) ?_
  rcases Classical.em ((gJ σ th 4).toInt32.toInt = 38) with e9 | e9
  · rw [if_pos e9] at h
    refine lv_lookup (off := 86) (tgt := 91) B.1 B.2.1 dX6_instructionOfToken_5 rfl (by rw [i32_toInt (rng_toInt _), e9]; rfl) (by decide) ?_
    exact a_X6_instructionOfToken_91 K hQ hX hTh _ h hGσ hYσ hE hth _ _ _ hH (lv_sub (l' := [(0, .ref th)]) hl [0] rfl) hc
  rw [if_neg e9] at h
  have k1 := e9
  rcases Classical.em ((gJ σ th 4).toInt32.toInt = 42) with e9 | e9
  · rw [if_pos e9] at h
    refine lv_lookup (off := 104) (tgt := 109) B.1 B.2.1 dX6_instructionOfToken_5 rfl (by rw [i32_toInt (rng_toInt _), e9]; rfl) (by decide) ?_
    exact a_X6_instructionOfToken_109 K hQ hX hTh _ h hGσ hYσ hE hth _ _ _ hH (lv_sub (l' := [(0, .ref th)]) hl [0] rfl) hc
  rw [if_neg e9] at h
  have k2 := e9
  rcases Classical.em ((gJ σ th 4).toInt32.toInt = 43) with e9 | e9
  · rw [if_pos e9] at h
    refine lv_lookup (off := 98) (tgt := 103) B.1 B.2.1 dX6_instructionOfToken_5 rfl (by rw [i32_toInt (rng_toInt _), e9]; rfl) (by decide) ?_
    exact a_X6_instructionOfToken_103 K hQ hX hTh _ h hGσ hYσ hE hth _ _ _ hH (lv_sub (l' := [(0, .ref th)]) hl [0] rfl) hc
  rw [if_neg e9] at h
  have k3 := e9
  rcases Classical.em ((gJ σ th 4).toInt32.toInt = 45) with e9 | e9
  · rw [if_pos e9] at h
    refine lv_lookup (off := 101) (tgt := 106) B.1 B.2.1 dX6_instructionOfToken_5 rfl (by rw [i32_toInt (rng_toInt _), e9]; rfl) (by decide) ?_
    exact a_X6_instructionOfToken_106 K hQ hX hTh _ h hGσ hYσ hE hth _ _ _ hH (lv_sub (l' := [(0, .ref th)]) hl [0] rfl) hc
  rw [if_neg e9] at h
  have k4 := e9
  rcases Classical.em ((gJ σ th 4).toInt32.toInt = 47) with e9 | e9
  · rw [if_pos e9] at h
    refine lv_lookup (off := 107) (tgt := 112) B.1 B.2.1 dX6_instructionOfToken_5 rfl (by rw [i32_toInt (rng_toInt _), e9]; rfl) (by decide) ?_
    exact a_X6_instructionOfToken_112 K hQ hX hTh _ h hGσ hYσ hE hth _ _ _ hH (lv_sub (l' := [(0, .ref th)]) hl [0] rfl) hc
  rw [if_neg e9] at h
  have k5 := e9
  rcases Classical.em ((gJ σ th 4).toInt32.toInt = 60) with e9 | e9
  · rw [if_pos e9] at h
    refine lv_lookup (off := 89) (tgt := 94) B.1 B.2.1 dX6_instructionOfToken_5 rfl (by rw [i32_toInt (rng_toInt _), e9]; rfl) (by decide) ?_
    exact a_X6_instructionOfToken_94 K hQ hX hTh _ h hGσ hYσ hE hth _ _ _ hH (lv_sub (l' := [(0, .ref th)]) hl [0] rfl) hc
  rw [if_neg e9] at h
  have k6 := e9
  rcases Classical.em ((gJ σ th 4).toInt32.toInt = 61) with e9 | e9
  · rw [if_pos e9] at h
    refine lv_lookup (off := 95) (tgt := 100) B.1 B.2.1 dX6_instructionOfToken_5 rfl (by rw [i32_toInt (rng_toInt _), e9]; rfl) (by decide) ?_
    exact a_X6_instructionOfToken_100 K hQ hX hTh _ h hGσ hYσ hE hth _ _ _ hH (lv_sub (l' := [(0, .ref th)]) hl [0] rfl) hc
  rw [if_neg e9] at h
  have k7 := e9
  rcases Classical.em ((gJ σ th 4).toInt32.toInt = 62) with e9 | e9
  · rw [if_pos e9] at h
    refine lv_lookup (off := 92) (tgt := 97) B.1 B.2.1 dX6_instructionOfToken_5 rfl (by rw [i32_toInt (rng_toInt _), e9]; rfl) (by decide) ?_
    exact a_X6_instructionOfToken_97 K hQ hX hTh _ h hGσ hYσ hE hth _ _ _ hH (lv_sub (l' := [(0, .ref th)]) hl [0] rfl) hc
  rw [if_neg e9] at h
  have k8 := e9
  rcases Classical.em ((gJ σ th 4).toInt32.toInt = 124) with e9 | e9
  · rw [if_pos e9] at h
    refine lv_lookup (off := 83) (tgt := 88) B.1 B.2.1 dX6_instructionOfToken_5 rfl (by rw [i32_toInt (rng_toInt _), e9]; rfl) (by decide) ?_
    exact a_X6_instructionOfToken_88 K hQ hX hTh _ h hGσ hYσ hE hth _ _ _ hH (lv_sub (l' := [(0, .ref th)]) hl [0] rfl) hc
  rw [if_neg e9] at h
  have k9 := e9
  refine lv_lookup (off := 110) (tgt := 115) B.1 B.2.1 dX6_instructionOfToken_5 rfl (by rw [i32_toInt (rng_toInt _)]; exact lk_X6_instructionOfToken_5 _ k1 k2 k3 k4 k5 k6 k7 k8 k9) (by decide) ?_
  exact a_X6_instructionOfToken_115 K hQ hX hTh _ h hGσ hYσ hE hth _ _ _ hH (lv_sub (l' := [(0, .ref th)]) hl [0] rfl) hc
theorem ok_X6_instructionOfToken (hl0 : l.stackTraces = false) (hT : TyC cA tys) {Q : Sg → Int → Prop} {X : Sg → String → Prop} (σ : Sg) (th : Nat) (hth : kO σ th 6) (hG : RG σ) (hY : TY σ) (h : wp_X6_instructionOfToken th σ Q X) : Ok l D cA tys A yX6_instructionOfToken (.code yX6_instructionOfToken cX6_instructionOfToken 1 (some .int)) 0 0 [.ref th] σ (QcI σ Q) (QxC σ X) := by
  unfold wp_X6_instructionOfToken at h
  exact oc_I hl0 (by decide) (by exact Nat.le_of_ble_eq_true rfl) hT (fun p e R s m args below meth c K hQ hX hTh H locs ls hH hl hc => a_X6_instructionOfToken_0 K hQ hX hTh σ h hG hY (Ext.rfl' σ) hth H locs ls hH (lv_sub (l' := [(0, .ref th)]) hl [0] rfl) hc)
theorem dX6_isSign_0 : decode cX6_isSign 0 = .ok (.aload_n 0, 1) := by decide +kernel
theorem dX6_isSign_1 : decode cX6_isSign 1 = .ok (.getfield 43, 3) := by decide +kernel
theorem dX6_isSign_4 : decode cX6_isSign 4 = .ok (.iconst 5, 1) := by decide +kernel
theorem dX6_isSign_5 : decode cX6_isSign 5 = .ok (.if_icmp .ne 17, 3) := by decide +kernel
theorem dX6_isSign_8 : decode cX6_isSign 8 = .ok (.aload_n 0, 1) := by decide +kernel
theorem dX6_isSign_9 : decode cX6_isSign 9 = .ok (.getfield 73, 3) := by decide +kernel
theorem dX6_isSign_12 : decode cX6_isSign 12 = .ok (.iload_n 1, 1) := by decide +kernel
theorem dX6_isSign_13 : decode cX6_isSign 13 = .ok (.i2l, 1) := by decide +kernel
theorem dX6_isSign_14 : decode cX6_isSign 14 = .ok (.lcmp, 1) := by decide +kernel
theorem dX6_isSign_15 : decode cX6_isSign 15 = .ok (.ifCond .ne 7, 3) := by decide +kernel
theorem dX6_isSign_18 : decode cX6_isSign 18 = .ok (.iconst 1, 1) := by decide +kernel
theorem dX6_isSign_19 : decode cX6_isSign 19 = .ok (.goto 4, 3) := by decide +kernel
theorem dX6_isSign_22 : decode cX6_isSign 22 = .ok (.iconst 0, 1) := by decide +kernel
theorem dX6_isSign_23 : decode cX6_isSign 23 = .ok (.ireturn, 1) := by decide +kernel
set_option maxRecDepth 20000 in
theorem a_X6_isSign_23 {Q : Sg → Int → Prop} {X : Sg → String → Prop} {th : Nat} (K : MD l R p s m args c cX6_isSign 2 RX6 D cA tys A n0 s0 0 0 []) (hQ : CQZ p l e R s m args below meth c cX6_isSign D cA A n0 s0 QM σi Q) (hX : CX p l e R s m args below meth c 2 D cA A n0 s0 QM σi X) (hTh : CT p l e R s m args below meth c cX6_isSign 2 D cA A n0 s0 QM σi RX6 X) : ∀ (σ : Sg) (u0 : Int) (gu0 : rng u0), w_X6_isSign_23 th Q X σ u0 → RG σ → TY σ → Ext σi σ → kO σ th 6 → JJ p l e R s m args below meth c 2 D cA A n0 s0 QM σ 23 [(0, .ref th)] [.int (i32 u0)] := by
  intro σ u0 gu0 h hGσ hYσ hE hth H locs ls hH hl hc
  have B := K.1
  have hl9 := K.2.2.2.2.2.2
  unfold w_X6_isSign_23 at h
  obtain ⟨qz, h⟩ := h
  exact hQ _ _ _ _ _ _ gu0 qz dX6_isSign_23 hH hc h hGσ hYσ hE
set_option maxRecDepth 20000 in
theorem a_X6_isSign_22 {Q : Sg → Int → Prop} {X : Sg → String → Prop} {th : Nat} (K : MD l R p s m args c cX6_isSign 2 RX6 D cA tys A n0 s0 0 0 []) (hQ : CQZ p l e R s m args below meth c cX6_isSign D cA A n0 s0 QM σi Q) (hX : CX p l e R s m args below meth c 2 D cA A n0 s0 QM σi X) (hTh : CT p l e R s m args below meth c cX6_isSign 2 D cA A n0 s0 QM σi RX6 X) : ∀ (σ : Sg), w_X6_isSign_22 th Q X σ → RG σ → TY σ → Ext σi σ → kO σ th 6 → JJ p l e R s m args below meth c 2 D cA A n0 s0 QM σ 22 [(0, .ref th)] [] := by
  intro σ h hGσ hYσ hE hth H locs ls hH hl hc
  have B := K.1
  have hl9 := K.2.2.2.2.2.2
  unfold w_X6_isSign_22 at h
  refine lv_iconst (v := i32 0) B.1 B.2.1 dX6_isSign_22 (by decide) ?_
  exact a_X6_isSign_23 K hQ hX hTh _ _ (by unfold rng; omega) h hGσ hYσ hE hth _ _ _ hH (lv_sub (l' := [(0, .ref th)]) hl [0] rfl) hc
set_option maxRecDepth 20000 in
theorem a_X6_isSign_18 {Q : Sg → Int → Prop} {X : Sg → String → Prop} {th : Nat} (K : MD l R p s m args c cX6_isSign 2 RX6 D cA tys A n0 s0 0 0 []) (hQ : CQZ p l e R s m args below meth c cX6_isSign D cA A n0 s0 QM σi Q) (hX : CX p l e R s m args below meth c 2 D cA A n0 s0 QM σi X) (hTh : CT p l e R s m args below meth c cX6_isSign 2 D cA A n0 s0 QM σi RX6 X) : ∀ (σ : Sg), w_X6_isSign_18 th Q X σ → RG σ → TY σ → Ext σi σ → kO σ th 6 → JJ p l e R s m args below meth c 2 D cA A n0 s0 QM σ 18 [(0, .ref th)] [] := by
  intro σ h hGσ hYσ hE hth H locs ls hH hl hc
  have B := K.1
  have hl9 := K.2.2.2.2.2.2
  unfold w_X6_isSign_18 at h
  refine lv_iconst (v := i32 1) B.1 B.2.1 dX6_isSign_18 (by decide) ?_
  refine lv_goto (tgt := 23) B.1 B.2.1 dX6_isSign_19 (by decide) ?_
  exact a_X6_isSign_23 K hQ hX hTh _ _ (by unfold rng; omega) h hGσ hYσ hE hth _ _ _ hH (lv_sub (l' := [(0, .ref th)]) hl [0] rfl) hc
set_option maxRecDepth 20000 in
theorem a_X6_isSign_8 {Q : Sg → Int → Prop} {X : Sg → String → Prop} {th : Nat} (K : MD l R p s m args c cX6_isSign 2 RX6 D cA tys A n0 s0 0 0 []) (hQ : CQZ p l e R s m args below meth c cX6_isSign D cA A n0 s0 QM σi Q) (hX : CX p l e R s m args below meth c 2 D cA A n0 s0 QM σi X) (hTh : CT p l e R s m args below meth c cX6_isSign 2 D cA A n0 s0 QM σi RX6 X) : ∀ (σ : Sg) (v1 : Int) (g1 : rng v1), w_X6_isSign_8 th Q X σ v1 → RG σ → TY σ → Ext σi σ → kO σ th 6 → JJ p l e R s m args below meth c 2 D cA A n0 s0 QM σ 8 [(0, .ref th), (1, .int (i32 v1))] [] := by
  intro σ v1 g1 h hGσ hYσ hE hth H locs ls hH hl hc
  have B := K.1
  have hl9 := K.2.2.2.2.2.2
  unfold w_X6_isSign_8 at h
  refine lv_aload_n B.1 B.2.1 dX6_isSign_8 rfl (lv_at hl 0 rfl) ?_
  refine f_getl B hH hth (by decide) rfl wu_X6 4 (by decide) wf_X6_73 rfl rfl dX6_isSign_9 ?_
  refine lv_iload_n B.1 B.2.1 dX6_isSign_12 rfl (lv_at hl 1 rfl) ?_
  refine lv_i2l B.1 B.2.1 dX6_isSign_13 (i32_i64 g1) ?_
  refine W.lcmp B.1 B.2.1 dX6_isSign_14 ?_
  refine lv_if_ne (tgt := 22) B.1 B.2.1 dX6_isSign_15 (by decide) (fun h9 => ?_) (fun h9 => ?_)
  · rw [if_pos (fun q => h9 ((lg_cmp_eq _ _).mpr q))] at h
    exact a_X6_isSign_22 K hQ hX hTh _ h hGσ hYσ hE hth _ _ _ hH (lv_sub (l' := [(0, .ref th)]) hl [0] rfl) hc
  · rw [if_neg (fun q => q ((lg_cmp_eq _ _).mp h9))] at h
    exact a_X6_isSign_18 K hQ hX hTh _ h hGσ hYσ hE hth _ _ _ hH (lv_sub (l' := [(0, .ref th)]) hl [0] rfl) hc
set_option maxRecDepth 20000 in
theorem a_X6_isSign_0 {Q : Sg → Int → Prop} {X : Sg → String → Prop} {th : Nat} (K : MD l R p s m args c cX6_isSign 2 RX6 D cA tys A n0 s0 0 0 []) (hQ : CQZ p l e R s m args below meth c cX6_isSign D cA A n0 s0 QM σi Q) (hX : CX p l e R s m args below meth c 2 D cA A n0 s0 QM σi X) (hTh : CT p l e R s m args below meth c cX6_isSign 2 D cA A n0 s0 QM σi RX6 X) : ∀ (σ : Sg) (v1 : Int) (g1 : rng v1), w_X6_isSign_0 th Q X σ v1 → RG σ → TY σ → Ext σi σ → kO σ th 6 → JJ p l e R s m args below meth c 2 D cA A n0 s0 QM σ 0 [(0, .ref th), (1, .int (i32 v1))] [] := by
  intro σ v1 g1 h hGσ hYσ hE hth H locs ls hH hl hc
  have B := K.1
  have hl9 := K.2.2.2.2.2.2
  unfold w_X6_isSign_0 at h
  refine lv_aload_n B.1 B.2.1 dX6_isSign_0 rfl (lv_at hl 0 rfl) ?_
  refine f_geti B hH hth (by decide) rfl wu_X6 3 (by decide) wf_X6_43 rfl rfl dX6_isSign_1 ?_
  refine lv_iconst (v := i32 5) B.1 B.2.1 dX6_isSign_4 (by decide) ?_
  refine lv_icmp_ne (tgt := 22) B.1 B.2.1 dX6_isSign_5 (by decide) (fun h9 => ?_) (fun h9 => ?_)
  · rw [if_pos (fun q => h9 ((i32_eq (hGσ _ _) (by unfold rng; omega)).mpr q))] at h
    exact a_X6_isSign_22 K hQ hX hTh _ h hGσ hYσ hE hth _ _ _ hH (lv_sub (l' := [(0, .ref th)]) hl [0] rfl) hc
  · rw [if_neg (fun q => q ((i32_eq (hGσ _ _) (by unfold rng; omega)).mp h9))] at h
    exact a_X6_isSign_8 K hQ hX hTh _ _ g1 h hGσ hYσ hE hth _ _ _ hH (lv_sub (l' := [(0, .ref th), (1, .int (i32 v1))]) hl [0, 1] rfl) hc
theorem ok_X6_isSign (hl0 : l.stackTraces = false) (hT : TyC cA tys) {Q : Sg → Int → Prop} {X : Sg → String → Prop} (σ : Sg) (th : Nat) (v1 : Int) (g1 : rng v1) (hth : kO σ th 6) (hG : RG σ) (hY : TY σ) (h : wp_X6_isSign th v1 σ Q X) : Ok l D cA tys A yX6_isSign (.code yX6_isSign cX6_isSign 2 (some .boolean)) 0 0 [.ref th, .int (i32 v1)] σ (QcZ σ Q) (QxC σ X) := by
  unfold wp_X6_isSign at h
  exact oc_Z hl0 (by decide) (by exact Nat.le_of_ble_eq_true rfl) hT (fun p e R s m args below meth c K hQ hX hTh H locs ls hH hl hc => a_X6_isSign_0 K hQ hX hTh σ v1 g1 h hG hY (Ext.rfl' σ) hth H locs ls hH (lv_sub (l' := [(0, .ref th), (1, .int (i32 v1))]) hl [0, 1] rfl) hc)
theorem dX6_isWord_0 : decode cX6_isWord 0 = .ok (.aload_n 0, 1) := by decide +kernel
theorem dX6_isWord_1 : decode cX6_isWord 1 = .ok (.getfield 43, 3) := by decide +kernel
theorem dX6_isWord_4 : decode cX6_isWord 4 = .ok (.iconst 2, 1) := by decide +kernel
theorem dX6_isWord_5 : decode cX6_isWord 5 = .ok (.if_icmp .ne 17, 3) := by decide +kernel
theorem dX6_isWord_8 : decode cX6_isWord 8 = .ok (.aload_n 0, 1) := by decide +kernel
theorem dX6_isWord_9 : decode cX6_isWord 9 = .ok (.getfield 73, 3) := by decide +kernel
theorem dX6_isWord_12 : decode cX6_isWord 12 = .ok (.iload_n 1, 1) := by decide +kernel
theorem dX6_isWord_13 : decode cX6_isWord 13 = .ok (.i2l, 1) := by decide +kernel
theorem dX6_isWord_14 : decode cX6_isWord 14 = .ok (.lcmp, 1) := by decide +kernel
theorem dX6_isWord_15 : decode cX6_isWord 15 = .ok (.ifCond .ne 7, 3) := by decide +kernel
theorem dX6_isWord_18 : decode cX6_isWord 18 = .ok (.iconst 1, 1) := by decide +kernel
theorem dX6_isWord_19 : decode cX6_isWord 19 = .ok (.goto 4, 3) := by decide +kernel
theorem dX6_isWord_22 : decode cX6_isWord 22 = .ok (.iconst 0, 1) := by decide +kernel
theorem dX6_isWord_23 : decode cX6_isWord 23 = .ok (.ireturn, 1) := by decide +kernel
set_option maxRecDepth 20000 in
theorem a_X6_isWord_23 {Q : Sg → Int → Prop} {X : Sg → String → Prop} {th : Nat} (K : MD l R p s m args c cX6_isWord 2 RX6 D cA tys A n0 s0 0 0 []) (hQ : CQZ p l e R s m args below meth c cX6_isWord D cA A n0 s0 QM σi Q) (hX : CX p l e R s m args below meth c 2 D cA A n0 s0 QM σi X) (hTh : CT p l e R s m args below meth c cX6_isWord 2 D cA A n0 s0 QM σi RX6 X) : ∀ (σ : Sg) (u0 : Int) (gu0 : rng u0), w_X6_isWord_23 th Q X σ u0 → RG σ → TY σ → Ext σi σ → kO σ th 6 → JJ p l e R s m args below meth c 2 D cA A n0 s0 QM σ 23 [(0, .ref th)] [.int (i32 u0)] := by
  intro σ u0 gu0 h hGσ hYσ hE hth H locs ls hH hl hc
  have B := K.1
  have hl9 := K.2.2.2.2.2.2
  unfold w_X6_isWord_23 at h
  obtain ⟨qz, h⟩ := h
  exact hQ _ _ _ _ _ _ gu0 qz dX6_isWord_23 hH hc h hGσ hYσ hE
set_option maxRecDepth 20000 in
theorem a_X6_isWord_22 {Q : Sg → Int → Prop} {X : Sg → String → Prop} {th : Nat} (K : MD l R p s m args c cX6_isWord 2 RX6 D cA tys A n0 s0 0 0 []) (hQ : CQZ p l e R s m args below meth c cX6_isWord D cA A n0 s0 QM σi Q) (hX : CX p l e R s m args below meth c 2 D cA A n0 s0 QM σi X) (hTh : CT p l e R s m args below meth c cX6_isWord 2 D cA A n0 s0 QM σi RX6 X) : ∀ (σ : Sg), w_X6_isWord_22 th Q X σ → RG σ → TY σ → Ext σi σ → kO σ th 6 → JJ p l e R s m args below meth c 2 D cA A n0 s0 QM σ 22 [(0, .ref th)] [] := by
  intro σ h hGσ hYσ hE hth H locs ls hH hl hc
  have B := K.1
  have hl9 := K.2.2.2.2.2.2
  unfold w_X6_isWord_22 at h
  refine lv_iconst (v := i32 0) B.1 B.2.1 dX6_isWord_22 (by decide) ?_
  exact a_X6_isWord_23 K hQ hX hTh _ _ (by unfold rng; omega) h hGσ hYσ hE hth _ _ _ hH (lv_sub (l' := [(0, .ref th)]) hl [0] rfl) hc
set_option maxRecDepth 20000 in
theorem a_X6_isWord_18 {Q : Sg → Int → Prop} {X : Sg → String → Prop} {th : Nat} (K : MD l R p s m args c cX6_isWord 2 RX6 D cA tys A n0 s0 0 0 []) (hQ : CQZ p l e R s m args below meth c cX6_isWord D cA A n0 s0 QM σi Q) (hX : CX p l e R s m args below meth c 2 D cA A n0 s0 QM σi X) (hTh : CT p l e R s m args below meth c cX6_isWord 2 D cA A n0 s0 QM σi RX6 X) : ∀ (σ : Sg), w_X6_isWord_18 th Q X σ → RG σ → TY σ → Ext σi σ → kO σ th 6 → JJ p l e R s m args below meth c 2 D cA A n0 s0 QM σ 18 [(0, .ref th)] [] := by
  intro σ h hGσ hYσ hE hth H locs ls hH hl hc
  have B := K.1
  have hl9 := K.2.2.2.2.2.2
  unfold w_X6_isWord_18 at h
  refine lv_iconst (v := i32 1) B.1 B.2.1 dX6_isWord_18 (by decide) ?_
  refine lv_goto (tgt := 23) B.1 B.2.1 dX6_isWord_19 (by decide) ?_
  exact a_X6_isWord_23 K hQ hX hTh _ _ (by unfold rng; omega) h hGσ hYσ hE hth _ _ _ hH (lv_sub (l' := [(0, .ref th)]) hl [0] rfl) hc
set_option maxRecDepth 20000 in
theorem a_X6_isWord_8 {Q : Sg → Int → Prop} {X : Sg → String → Prop} {th : Nat} (K : MD l R p s m args c cX6_isWord 2 RX6 D cA tys A n0 s0 0 0 []) (hQ : CQZ p l e R s m args below meth c cX6_isWord D cA A n0 s0 QM σi Q) (hX : CX p l e R s m args below meth c 2 D cA A n0 s0 QM σi X) (hTh : CT p l e R s m args below meth c cX6_isWord 2 D cA A n0 s0 QM σi RX6 X) : ∀ (σ : Sg) (v1 : Int) (g1 : rng v1), w_X6_isWord_8 th Q X σ v1 → RG σ → TY σ → Ext σi σ → kO σ th 6 → JJ p l e R s m args below meth c 2 D cA A n0 s0 QM σ 8 [(0, .ref th), (1, .int (i32 v1))] [] := by
  intro σ v1 g1 h hGσ hYσ hE hth H locs ls hH hl hc
  have B := K.1
  have hl9 := K.2.2.2.2.2.2
  unfold w_X6_isWord_8 at h
  refine lv_aload_n B.1 B.2.1 dX6_isWord_8 rfl (lv_at hl 0 rfl) ?_
  refine f_getl B hH hth (by decide) rfl wu_X6 4 (by decide) wf_X6_73 rfl rfl dX6_isWord_9 ?_
  refine lv_iload_n B.1 B.2.1 dX6_isWord_12 rfl (lv_at hl 1 rfl) ?_
  refine lv_i2l B.1 B.2.1 dX6_isWord_13 (i32_i64 g1) ?_
  refine W.lcmp B.1 B.2.1 dX6_isWord_14 ?_
  refine lv_if_ne (tgt := 22) B.1 B.2.1 dX6_isWord_15 (by decide) (fun h9 => ?_) (fun h9 => ?_)
  · rw [if_pos (fun q => h9 ((lg_cmp_eq _ _).mpr q))] at h
    exact a_X6_isWord_22 K hQ hX hTh _ h hGσ hYσ hE hth _ _ _ hH (lv_sub (l' := [(0, .ref th)]) hl [0] rfl) hc
  · rw [if_neg (fun q => q ((lg_cmp_eq _ _).mp h9))] at h
    exact a_X6_isWord_18 K hQ hX hTh _ h hGσ hYσ hE hth _ _ _ hH (lv_sub (l' := [(0, .ref th)]) hl [0] rfl) hc
set_option maxRecDepth 20000 in
theorem a_X6_isWord_0 {Q : Sg → Int → Prop} {X : Sg → String → Prop} {th : Nat} (K : MD l R p s m args c cX6_isWord 2 RX6 D cA tys A n0 s0 0 0 []) (hQ : CQZ p l e R s m args below meth c cX6_isWord D cA A n0 s0 QM σi Q) (hX : CX p l e R s m args below meth c 2 D cA A n0 s0 QM σi X) (hTh : CT p l e R s m args below meth c cX6_isWord 2 D cA A n0 s0 QM σi RX6 X) : ∀ (σ : Sg) (v1 : Int) (g1 : rng v1), w_X6_isWord_0 th Q X σ v1 → RG σ → TY σ → Ext σi σ → kO σ th 6 → JJ p l e R s m args below meth c 2 D cA A n0 s0 QM σ 0 [(0, .ref th), (1, .int (i32 v1))] [] := by
  intro σ v1 g1 h hGσ hYσ hE hth H locs ls hH hl hc
  have B := K.1
  have hl9 := K.2.2.2.2.2.2
  unfold w_X6_isWord_0 at h
  refine lv_aload_n B.1 B.2.1 dX6_isWord_0 rfl (lv_at hl 0 rfl) ?_
  refine f_geti B hH hth (by decide) rfl wu_X6 3 (by decide) wf_X6_43 rfl rfl dX6_isWord_1 ?_
  refine lv_iconst (v := i32 2) B.1 B.2.1 dX6_isWord_4 (by decide) ?_
  refine lv_icmp_ne (tgt := 22) B.1 B.2.1 dX6_isWord_5 (by decide) (fun h9 => ?_) (fun h9 => ?_)
  · rw [if_pos (fun q => h9 ((i32_eq (hGσ _ _) (by unfold rng; omega)).mpr q))] at h
    exact a_X6_isWord_22 K hQ hX hTh _ h hGσ hYσ hE hth _ _ _ hH (lv_sub (l' := [(0, .ref th)]) hl [0] rfl) hc
  · rw [if_neg (fun q => q ((i32_eq (hGσ _ _) (by unfold rng; omega)).mp h9))] at h
    exact a_X6_isWord_8 K hQ hX hTh _ _ g1 h hGσ hYσ hE hth _ _ _ hH (lv_sub (l' := [(0, .ref th), (1, .int (i32 v1))]) hl [0, 1] rfl) hc
theorem ok_X6_isWord (hl0 : l.stackTraces = false) (hT : TyC cA tys) {Q : Sg → Int → Prop} {X : Sg → String → Prop} (σ : Sg) (th : Nat) (v1 : Int) (g1 : rng v1) (hth : kO σ th 6) (hG : RG σ) (hY : TY σ) (h : wp_X6_isWord th v1 σ Q X) : Ok l D cA tys A yX6_isWord (.code yX6_isWord cX6_isWord 2 (some .boolean)) 0 0 [.ref th, .int (i32 v1)] σ (QcZ σ Q) (QxC σ X) := by
  unfold wp_X6_isWord at h
  exact oc_Z hl0 (by decide) (by exact Nat.le_of_ble_eq_true rfl) hT (fun p e R s m args below meth c K hQ hX hTh H locs ls hH hl hc => a_X6_isWord_0 K hQ hX hTh σ v1 g1 h hG hY (Ext.rfl' σ) hth H locs ls hH (lv_sub (l' := [(0, .ref th), (1, .int (i32 v1))]) hl [0, 1] rfl) hc)
theorem dX6_levelOfToken_0 : decode cX6_levelOfToken 0 = .ok (.aload_n 0, 1) := by decide +kernel
theorem dX6_levelOfToken_1 : decode cX6_levelOfToken 1 = .ok (.getfield 43, 3) := by decide +kernel
theorem dX6_levelOfToken_4 : decode cX6_levelOfToken 4 = .ok (.iconst 5, 1) := by decide +kernel
theorem dX6_levelOfToken_5 : decode cX6_levelOfToken 5 = .ok (.if_icmp .eq 5, 3) := by decide +kernel
theorem dX6_levelOfToken_8 : decode cX6_levelOfToken 8 = .ok (.iconst (-1), 1) := by decide +kernel
theorem dX6_levelOfToken_9 : decode cX6_levelOfToken 9 = .ok (.ireturn, 1) := by decide +kernel
theorem dX6_levelOfToken_10 : decode cX6_levelOfToken 10 = .ok (.aload_n 0, 1) := by decide +kernel
theorem dX6_levelOfToken_11 : decode cX6_levelOfToken 11 = .ok (.getfield 73, 3) := by decide +kernel
theorem dX6_levelOfToken_14 : decode cX6_levelOfToken 14 = .ok (.l2i, 1) := by decide +kernel
theorem dX6_levelOfToken_15 : decode cX6_levelOfToken 15 = .ok (.lookupswitch 97 #[(37, 95), (38, 89), (42, 95), (43, 93), (45, 93), (47, 95), (60, 91), (61, 91), (62, 91), (124, 89)], 89) := by decide +kernel
theorem dX6_levelOfToken_104 : decode cX6_levelOfToken 104 = .ok (.iconst 0, 1) := by decide +kernel
theorem dX6_levelOfToken_105 : decode cX6_levelOfToken 105 = .ok (.ireturn, 1) := by decide +kernel
theorem dX6_levelOfToken_106 : decode cX6_levelOfToken 106 = .ok (.iconst 1, 1) := by decide +kernel
theorem dX6_levelOfToken_107 : decode cX6_levelOfToken 107 = .ok (.ireturn, 1) := by decide +kernel
theorem dX6_levelOfToken_108 : decode cX6_levelOfToken 108 = .ok (.iconst 2, 1) := by decide +kernel
theorem dX6_levelOfToken_109 : decode cX6_levelOfToken 109 = .ok (.ireturn, 1) := by decide +kernel
theorem dX6_levelOfToken_110 : decode cX6_levelOfToken 110 = .ok (.iconst 3, 1) := by decide +kernel
theorem dX6_levelOfToken_111 : decode cX6_levelOfToken 111 = .ok (.ireturn, 1) := by decide +kernel
theorem dX6_levelOfToken_112 : decode cX6_levelOfToken 112 = .ok (.iconst (-1), 1) := by decide +kernel
theorem dX6_levelOfToken_113 : decode cX6_levelOfToken 113 = .ok (.ireturn, 1) := by decide +kernel
theorem lk_X6_levelOfToken_15 (x : Int) (h0 : ¬ x = 37) (h1 : ¬ x = 38) (h2 : ¬ x = 42) (h3 : ¬ x = 43) (h4 : ¬ x = 45) (h5 : ¬ x = 47) (h6 : ¬ x = 60) (h7 : ¬ x = 61) (h8 : ¬ x = 62) (h9 : ¬ x = 124) : Op.lookupswitch.offset [(37, 95), (38, 89), (42, 95), (43, 93), (45, 93), (47, 95), (60, 91), (61, 91), (62, 91), (124, 89)] 97 x = 97 := by simp [Op.lookupswitch.offset, h0, Ne.symm h0, h1, Ne.symm h1, h2, Ne.symm h2, h3, Ne.symm h3, h4, Ne.symm h4, h5, Ne.symm h5, h6, Ne.symm h6, h7, Ne.symm h7, h8, Ne.symm h8, h9, Ne.symm h9]
set_option maxRecDepth 20000 in
theorem a_X6_levelOfToken_104 {Q : Sg → Int → Prop} {X : Sg → String → Prop} {th : Nat} (K : MD l R p s m args c cX6_levelOfToken 1 RX6 D cA tys A n0 s0 0 0 []) (hQ : CQI p l e R s m args below meth c cX6_levelOfToken D cA A n0 s0 QM σi Q) (hX : CX p l e R s m args below meth c 1 D cA A n0 s0 QM σi X) (hTh : CT p l e R s m args below meth c cX6_levelOfToken 1 D cA A n0 s0 QM σi RX6 X) : ∀ (σ : Sg), w_X6_levelOfToken_104 th Q X σ → RG σ → TY σ → Ext σi σ → kO σ th 6 → JJ p l e R s m args below meth c 1 D cA A n0 s0 QM σ 104 [(0, .ref th)] [] := by
  intro σ h hGσ hYσ hE hth H locs ls hH hl hc
  have B := K.1
  have hl9 := K.2.2.2.2.2.2
  unfold w_X6_levelOfToken_104 at h
  refine lv_iconst (v := i32 0) B.1 B.2.1 dX6_levelOfToken_104 (by decide) ?_
  exact hQ _ _ _ _ _ _ (by unfold rng; omega) dX6_levelOfToken_105 hH hc h hGσ hYσ hE
set_option maxRecDepth 20000 in
theorem a_X6_levelOfToken_106 {Q : Sg → Int → Prop} {X : Sg → String → Prop} {th : Nat} (K : MD l R p s m args c cX6_levelOfToken 1 RX6 D cA tys A n0 s0 0 0 []) (hQ : CQI p l e R s m args below meth c cX6_levelOfToken D cA A n0 s0 QM σi Q) (hX : CX p l e R s m args below meth c 1 D cA A n0 s0 QM σi X) (hTh : CT p l e R s m args below meth c cX6_levelOfToken 1 D cA A n0 s0 QM σi RX6 X) : ∀ (σ : Sg), w_X6_levelOfToken_106 th Q X σ → RG σ → TY σ → Ext σi σ → kO σ th 6 → JJ p l e R s m args below meth c 1 D cA A n0 s0 QM σ 106 [(0, .ref th)] [] := by
  intro σ h hGσ hYσ hE hth H locs ls hH hl hc
  have B := K.1
  have hl9 := K.2.2.2.2.2.2
  unfold w_X6_levelOfToken_106 at h
  refine lv_iconst (v := i32 1) B.1 B.2.1 dX6_levelOfToken_106 (by decide) ?_
  exact hQ _ _ _ _ _ _ (by unfold rng; omega) dX6_levelOfToken_107 hH hc h hGσ hYσ hE
set_option maxRecDepth 20000 in
theorem a_X6_levelOfToken_108 {Q : Sg → Int → Prop} {X : Sg → String → Prop} {th : Nat} (K : MD l R p s m args c cX6_levelOfToken 1 RX6 D cA tys A n0 s0 0 0 []) (hQ : CQI p l e R s m args below meth c cX6_levelOfToken D cA A n0 s0 QM σi Q) (hX : CX p l e R s m args below meth c 1 D cA A n0 s0 QM σi X) (hTh : CT p l e R s m args below meth c cX6_levelOfToken 1 D cA A n0 s0 QM σi RX6 X) : ∀ (σ : Sg), w_X6_levelOfToken_108 th Q X σ → RG σ → TY σ → Ext σi σ → kO σ th 6 → JJ p l e R s m args below meth c 1 D cA A n0 s0 QM σ 108 [(0, .ref th)] [] := by
  intro σ h hGσ hYσ hE hth H locs ls hH hl hc
  have B := K.1
  have hl9 := K.2.2.2.2.2.2
  unfold w_X6_levelOfToken_108 at h
  refine lv_iconst (v := i32 2) B.1 B.2.1 dX6_levelOfToken_108 (by decide) ?_
  exact hQ _ _ _ _ _ _ (by unfold rng; omega) dX6_levelOfToken_109 hH hc h hGσ hYσ hE
set_option maxRecDepth 20000 in
theorem a_X6_levelOfToken_110 {Q : Sg → Int → Prop} {X : Sg → String → Prop} {th : Nat} (K : MD l R p s m args c cX6_levelOfToken 1 RX6 D cA tys A n0 s0 0 0 []) (hQ : CQI p l e R s m args below meth c cX6_levelOfToken D cA A n0 s0 QM σi Q) (hX : CX p l e R s m args below meth c 1 D cA A n0 s0 QM σi X) (hTh : CT p l e R s m args below meth c cX6_levelOfToken 1 D cA A n0 s0 QM σi RX6 X) : ∀ (σ : Sg), w_X6_levelOfToken_110 th Q X σ → RG σ → TY σ → Ext σi σ → kO σ th 6 → JJ p l e R s m args below meth c 1 D cA A n0 s0 QM σ 110 [(0, .ref th)] [] := by
  intro σ h hGσ hYσ hE hth H locs ls hH hl hc
  have B := K.1
  have hl9 := K.2.2.2.2.2.2
  unfold w_X6_levelOfToken_110 at h
  refine lv_iconst (v := i32 3) B.1 B.2.1 dX6_levelOfToken_110 (by decide) ?_
  exact hQ _ _ _ _ _ _ (by unfold rng; omega) dX6_levelOfToken_111 hH hc h hGσ hYσ hE
set_option maxRecDepth 20000 in
theorem a_X6_levelOfToken_112 {Q : Sg → Int → Prop} {X : Sg → String → Prop} {th : Nat} (K : MD l R p s m args c cX6_levelOfToken 1 RX6 D cA tys A n0 s0 0 0 []) (hQ : CQI p l e R s m args below meth c cX6_levelOfToken D cA A n0 s0 QM σi Q) (hX : CX p l e R s m args below meth c 1 D cA A n0 s0 QM σi X) (hTh : CT p l e R s m args below meth c cX6_levelOfToken 1 D cA A n0 s0 QM σi RX6 X) : ∀ (σ : Sg), w_X6_levelOfToken_112 th Q X σ → RG σ → TY σ → Ext σi σ → kO σ th 6 → JJ p l e R s m args below meth c 1 D cA A n0 s0 QM σ 112 [(0, .ref th)] [] := by
  intro σ h hGσ hYσ hE hth H locs ls hH hl hc
  have B := K.1
  have hl9 := K.2.2.2.2.2.2
  unfold w_X6_levelOfToken_112 at h
  refine lv_iconst (v := i32 (-1)) B.1 B.2.1 dX6_levelOfToken_112 (by decide) ?_
  exact hQ _ _ _ _ _ _ (by unfold rng; omega) dX6_levelOfToken_113 hH hc h hGσ hYσ hE
set_option maxRecDepth 20000 in
theorem a_X6_levelOfToken_10 {Q : Sg → Int → Prop} {X : Sg → String → Prop} {th : Nat} (K : MD l R p s m args c cX6_levelOfToken 1 RX6 D cA tys A n0 s0 0 0 []) (hQ : CQI p l e R s m args below meth c cX6_levelOfToken D cA A n0 s0 QM σi Q) (hX : CX p l e R s m args below meth c 1 D cA A n0 s0 QM σi X) (hTh : CT p l e R s m args below meth c cX6_levelOfToken 1 D cA A n0 s0 QM σi RX6 X) : ∀ (σ : Sg), w_X6_levelOfToken_10 th Q X σ → RG σ → TY σ → Ext σi σ → kO σ th 6 → JJ p l e R s m args below meth c 1 D cA A n0 s0 QM σ 10 [(0, .ref th)] [] := by
  intro σ h hGσ hYσ hE hth H locs ls hH hl hc
  have B := K.1
  have hl9 := K.2.2.2.2.2.2
  unfold w_X6_levelOfToken_10 at h
  refine lv_aload_n B.1 B.2.1 dX6_levelOfToken_10 rfl (lv_at hl 0 rfl) ?_
  refine f_getl B hH hth (by decide) rfl wu_X6 4 (by decide) wf_X6_73 rfl rfl dX6_levelOfToken_11 ?_
  refine lv_l2i B.1 B.2.1 dX6_levelOfToken_14 rfl ?_
  refine W.eq (g2 := F0 m 15 ls [.int (i32 ((gJ σ th 4).toInt32.toInt))]) (by simp only [i32_self]) ?_
  rcases Classical.em ((gJ σ th 4).toInt32.toInt = 37) with e9 | e9
  · rw [if_pos e9] at h
    refine lv_lookup (off := 95) (tgt := 110) B.1 B.2.1 dX6_levelOfToken_15 rfl (by rw [i32_toInt (rng_toInt _), e9]; rfl) (by decide) ?_
    exact a_X6_levelOfToken_110 K hQ hX hTh _ h hGσ hYσ hE hth _ _ _ hH (lv_sub (l' := [(0, .ref th)]) hl [0] rfl) hc
  rw [if_neg e9] at h
  have k1 := e9
  rcases Classical.em ((gJ σ th 4).toInt32.toInt = 38) with e9 | e9
  · rw [if_pos e9] at h
    refine lv_lookup (off := 89) (tgt := 104) B.1 B.2.1 dX6_levelOfToken_15 rfl (by rw [i32_toInt (rng_toInt _), e9]; rfl) (by decide) ?_
    exact a_X6_levelOfToken_104 K hQ hX hTh _ h hGσ hYσ hE hth _ _ _ hH (lv_sub (l' := [(0, .ref th)]) hl [0] rfl) hc
  rw [if_neg e9] at h
  have k2 := e9
  rcases Classical.em ((gJ σ th 4).toInt32.toInt = 42) with e9 | e9
  · rw [if_pos e9] at h
    refine lv_lookup (off := 95) (tgt := 110) B.1 B.2.1 dX6_levelOfToken_15 rfl (by rw [i32_toInt (rng_toInt _), e9]; rfl) (by decide) ?_
    exact a_X6_levelOfToken_110 K hQ hX hTh _ h hGσ hYσ hE hth _ _ _ hH (lv_sub (l' := [(0, .ref th)]) hl [0] rfl) hc
  rw [if_neg e9] at h
  have k3 := e9
  rcases Classical.em ((gJ σ th 4).toInt32.toInt = 43) with e9 | e9
  · rw [if_pos e9] at h
    refine lv_lookup (off := 93) (tgt := 108) B.1 B.2.1 dX6_levelOfToken_15 rfl (by rw [i32_toInt (rng_toInt _), e9]; rfl) (by decide) ?_
    exact a_X6_levelOfToken_108 K hQ hX hTh _ h hGσ hYσ hE hth _ _ _ hH (lv_sub (l' := [(0, .ref th)]) hl [0] rfl) hc
  rw [if_neg e9] at h
  have k4 := e9
  rcases Classical.em ((gJ σ th 4).toInt32.toInt = 45) with e9 | e9
  · rw [if_pos e9] at h
    refine lv_lookup (off := 93) (tgt := 108) B.1 B.2.1 dX6_levelOfToken_15 rfl (by rw [i32_toInt (rng_toInt _), e9]; rfl) (by decide) ?_
    exact a_X6_levelOfToken_108 K hQ hX hTh _ h hGσ hYσ hE hth _ _ _ hH (lv_sub (l' := [(0, .ref th)]) hl [0] rfl) hc
  rw [if_neg e9] at h
  have k5 := e9
  rcases Classical.em ((gJ σ th 4).toInt32.toInt = 47) with e9 | e9
  · rw [if_pos e9] at h
    refine lv_lookup (off := 95) (tgt := 110) B.1 B.2.1 dX6_levelOfToken_15 rfl (by rw [i32_toInt (rng_toInt _), e9]; rfl) (by decide) ?_
    exact a_X6_levelOfToken_110 K hQ hX hTh _ h hGσ hYσ hE hth _ _ _ hH (lv_sub (l' := [(0, .ref th)]) hl [0] rfl) hc
  rw [if_neg e9] at h
  have k6 := e9
  rcases Classical.em ((gJ σ th 4).toInt32.toInt = 60) with e9 | e9
  · rw [if_pos e9] at h
    refine lv_lookup (off := 91) (tgt := 106) B.1 B.2.1 dX6_levelOfToken_15 rfl (by rw [i32_toInt (rng_toInt _), e9]; rfl) (by decide) ?_
    exact a_X6_levelOfToken_106 K hQ hX hTh _ h hGσ hYσ hE hth _ _ _ hH (lv_sub (l' := [(0, .ref th)]) hl [0] rfl) hc
  rw [if_neg e9] at h
  have k7 := e9
  rcases Classical.em ((gJ σ th 4).toInt32.toInt = 61) with e9 | e9
  · rw [if_pos e9] at h
    refine lv_lookup (off := 91) (tgt := 106) B.1 B.2.1 dX6_levelOfToken_15 rfl (by rw [i32_toInt (rng_toInt _), e9]; rfl) (by decide) ?_
    exact a_X6_levelOfToken_106 K hQ hX hTh _ h hGσ hYσ hE hth _ _ _ hH (lv_sub (l' := [(0, .ref th)]) hl [0] rfl) hc
  rw [if_neg e9] at h
  have k8 := e9
  rcases Classical.em ((gJ σ th 4).toInt32.toInt = 62) with e9 | e9
  · rw [if_pos e9] at h
    refine lv_lookup (off := 91) (tgt := 106) B.1 B.2.1 dX6_levelOfToken_15 rfl (by rw [i32_toInt (rng_toInt _), e9]; rfl) (by decide) ?_
    exact a_X6_levelOfToken_106 K hQ hX hTh _ h hGσ hYσ hE hth _ _ _ hH (lv_sub (l' := [(0, .ref th)]) hl [0] rfl) hc
  rw [if_neg e9] at h
  have k9 := e9
  rcases Classical.em ((gJ σ th 4).toInt32.toInt = 124) with e9 | e9
  · rw [if_pos e9] at h
    refine lv_lookup (off := 89) (tgt := 104) B.1 B.2.1 dX6_levelOfToken_15 rfl (by rw [i32_toInt (rng_toInt _), e9]; rfl) (by decide) ?_
    exact a_X6_levelOfToken_104 K hQ hX hTh _ h hGσ hYσ hE hth _ _ _ hH (lv_sub (l' := [(0, .ref th)]) hl [0] rfl) hc
  rw [if_neg e9] at h
  have k10 := e9
  refine lv_lookup (off := 97) (tgt := 112) B.1 B.2.1 dX6_levelOfToken_15 rfl (by rw [i32_toInt (rng_toInt _)]; exact lk_X6_levelOfToken_15 _ k1 k2 k3 k4 k5 k6 k7 k8 k9 k10) (by decide) ?_
  exact a_X6_levelOfToken_112 K hQ hX hTh _ h hGσ hYσ hE hth _ _ _ hH (lv_sub (l' := [(0, .ref th)]) hl [0] rfl) hc
set_option maxRecDepth 20000 in
theorem a_X6_levelOfToken_8 {Q : Sg → Int → Prop} {X : Sg → String → Prop} {th : Nat} (K : MD l R p s m args c cX6_levelOfToken 1 RX6 D cA tys A n0 s0 0 0 []) (hQ : CQI p l e R s m args below meth c cX6_levelOfToken D cA A n0 s0 QM σi Q) (hX : CX p l e R s m args below meth c 1 D cA A n0 s0 QM σi X) (hTh : CT p l e R s m args below meth c cX6_levelOfToken 1 D cA A n0 s0 QM σi RX6 X) : ∀ (σ : Sg), w_X6_levelOfToken_8 th Q X σ → RG σ → TY σ → Ext σi σ → kO σ th 6 → JJ p l e R s m args below meth c 1 D cA A n0 s0 QM σ 8 [(0, .ref th)] [] := by
  intro σ h hGσ hYσ hE hth H locs ls hH hl hc
  have B := K.1
  have hl9 := K.2.2.2.2.2.2
  unfold w_X6_levelOfToken_8 at h
  refine lv_iconst (v := i32 (-1)) B.1 B.2.1 dX6_levelOfToken_8 (by decide) ?_
  exact hQ _ _ _ _ _ _ (by unfold rng; omega) dX6_levelOfToken_9 hH hc h hGσ hYσ hE
set_option maxRecDepth 20000 in
theorem a_X6_levelOfToken_0 {Q : Sg → Int → Prop} {X : Sg → String → Prop} {th : Nat} (K : MD l R p s m args c cX6_levelOfToken 1 RX6 D cA tys A n0 s0 0 0 []) (hQ : CQI p l e R s m args below meth c cX6_levelOfToken D cA A n0 s0 QM σi Q) (hX : CX p l e R s m args below meth c 1 D cA A n0 s0 QM σi X) (hTh : CT p l e R s m args below meth c cX6_levelOfToken 1 D cA A n0 s0 QM σi RX6 X) : ∀ (σ : Sg), w_X6_levelOfToken_0 th Q X σ → RG σ → TY σ → Ext σi σ → kO σ th 6 → JJ p l e R s m args below meth c 1 D cA A n0 s0 QM σ 0 [(0, .ref th)] [] := by
  intro σ h hGσ hYσ hE hth H locs ls hH hl hc
  have B := K.1
  have hl9 := K.2.2.2.2.2.2
  unfold w_X6_levelOfToken_0 at h
  refine lv_aload_n B.1 B.2.1 dX6_levelOfToken_0 rfl (lv_at hl 0 rfl) ?_
  refine f_geti B hH hth (by decide) rfl wu_X6 3 (by decide) wf_X6_43 rfl rfl dX6_levelOfToken_1 ?_
  refine lv_iconst (v := i32 5) B.1 B.2.1 dX6_levelOfToken_4 (by decide) ?_
  refine lv_icmp_eq (tgt := 10) B.1 B.2.1 dX6_levelOfToken_5 (by decide) (fun h9 => ?_) (fun h9 => ?_)
  · rw [if_pos ((i32_eq (hGσ _ _) (by unfold rng; omega)).mp h9)] at h
    exact a_X6_levelOfToken_10 K hQ hX hTh _ h hGσ hYσ hE hth _ _ _ hH (lv_sub (l' := [(0, .ref th)]) hl [0] rfl) hc
  · rw [if_neg (fun q => h9 ((i32_eq (hGσ _ _) (by unfold rng; omega)).mpr q))] at h
    exact a_X6_levelOfToken_8 K hQ hX hTh _ h hGσ hYσ hE hth _ _ _ hH (lv_sub (l' := [(0, .ref th)]) hl [0] rfl) hc
theorem ok_X6_levelOfToken (hl0 : l.stackTraces = false) (hT : TyC cA tys) {Q : Sg → Int → Prop} {X : Sg → String → Prop} (σ : Sg) (th : Nat) (hth : kO σ th 6) (hG : RG σ) (hY : TY σ) (h : wp_X6_levelOfToken th σ Q X) : Ok l D cA tys A yX6_levelOfToken (.code yX6_levelOfToken cX6_levelOfToken 1 (some .int)) 0 0 [.ref th] σ (QcI σ Q) (QxC σ X) := by
  unfold wp_X6_levelOfToken at h
  exact oc_I hl0 (by decide) (by exact Nat.le_of_ble_eq_true rfl) hT (fun p e R s m args below meth c K hQ hX hTh H locs ls hH hl hc => a_X6_levelOfToken_0 K hQ hX hTh σ h hG hY (Ext.rfl' σ) hth H locs ls hH (lv_sub (l' := [(0, .ref th)]) hl [0] rfl) hc)
theorem dX6_digits_0 : decode cX6_digits 0 = .ok (.aload_n 0, 1) := by decide +kernel
theorem dX6_digits_1 : decode cX6_digits 1 = .ok (.lconst 0, 1) := by decide +kernel
theorem dX6_digits_2 : decode cX6_digits 2 = .ok (.putfield 73, 3) := by decide +kernel
theorem dX6_digits_5 : decode cX6_digits 5 = .ok (.iconst 0, 1) := by decide +kernel
theorem dX6_digits_6 : decode cX6_digits 6 = .ok (.istore_n 1, 1) := by decide +kernel
theorem dX6_digits_7 : decode cX6_digits 7 = .ok (.iload_n 1, 1) := by decide +kernel
theorem dX6_digits_8 : decode cX6_digits 8 = .ok (.sipush 1500, 3) := by decide +kernel
theorem dX6_digits_11 : decode cX6_digits 11 = .ok (.if_icmp .ge 85, 3) := by decide +kernel
theorem dX6_digits_14 : decode cX6_digits 14 = .ok (.aload_n 0, 1) := by decide +kernel
theorem dX6_digits_15 : decode cX6_digits 15 = .ok (.getfield 25, 3) := by decide +kernel
theorem dX6_digits_18 : decode cX6_digits 18 = .ok (.aload_n 0, 1) := by decide +kernel
theorem dX6_digits_19 : decode cX6_digits 19 = .ok (.getfield 21, 3) := by decide +kernel
theorem dX6_digits_22 : decode cX6_digits 22 = .ok (.if_icmp .ge 74, 3) := by decide +kernel
theorem dX6_digits_25 : decode cX6_digits 25 = .ok (.aload_n 0, 1) := by decide +kernel
theorem dX6_digits_26 : decode cX6_digits 26 = .ok (.getfield 9, 3) := by decide +kernel
theorem dX6_digits_29 : decode cX6_digits 29 = .ok (.aload_n 0, 1) := by decide +kernel
theorem dX6_digits_30 : decode cX6_digits 30 = .ok (.getfield 25, 3) := by decide +kernel
theorem dX6_digits_33 : decode cX6_digits 33 = .ok (.baload, 1) := by decide +kernel
theorem dX6_digits_34 : decode cX6_digits 34 = .ok (.bipush 48, 2) := by decide +kernel
theorem dX6_digits_36 : decode cX6_digits 36 = .ok (.if_icmp .lt 60, 3) := by decide +kernel
theorem dX6_digits_39 : decode cX6_digits 39 = .ok (.aload_n 0, 1) := by decide +kernel
theorem dX6_digits_40 : decode cX6_digits 40 = .ok (.getfield 9, 3) := by decide +kernel
theorem dX6_digits_43 : decode cX6_digits 43 = .ok (.aload_n 0, 1) := by decide +kernel
theorem dX6_digits_44 : decode cX6_digits 44 = .ok (.getfield 25, 3) := by decide +kernel
theorem dX6_digits_47 : decode cX6_digits 47 = .ok (.baload, 1) := by decide +kernel
theorem dX6_digits_48 : decode cX6_digits 48 = .ok (.bipush 57, 2) := by decide +kernel
theorem dX6_digits_50 : decode cX6_digits 50 = .ok (.if_icmp .gt 46, 3) := by decide +kernel
theorem dX6_digits_53 : decode cX6_digits 53 = .ok (.aload_n 0, 1) := by decide +kernel
theorem dX6_digits_54 : decode cX6_digits 54 = .ok (.aload_n 0, 1) := by decide +kernel
theorem dX6_digits_55 : decode cX6_digits 55 = .ok (.getfield 73, 3) := by decide +kernel
theorem dX6_digits_58 : decode cX6_digits 58 = .ok (.ldc2_w 290, 3) := by decide +kernel
theorem dX6_digits_61 : decode cX6_digits 61 = .ok (.lmul, 1) := by decide +kernel
theorem dX6_digits_62 : decode cX6_digits 62 = .ok (.aload_n 0, 1) := by decide +kernel
theorem dX6_digits_63 : decode cX6_digits 63 = .ok (.getfield 9, 3) := by decide +kernel
theorem dX6_digits_66 : decode cX6_digits 66 = .ok (.aload_n 0, 1) := by decide +kernel
theorem dX6_digits_67 : decode cX6_digits 67 = .ok (.getfield 25, 3) := by decide +kernel
theorem dX6_digits_70 : decode cX6_digits 70 = .ok (.baload, 1) := by decide +kernel
theorem dX6_digits_71 : decode cX6_digits 71 = .ok (.i2l, 1) := by decide +kernel
theorem dX6_digits_72 : decode cX6_digits 72 = .ok (.ladd, 1) := by decide +kernel
theorem dX6_digits_73 : decode cX6_digits 73 = .ok (.ldc2_w 276, 3) := by decide +kernel
theorem dX6_digits_76 : decode cX6_digits 76 = .ok (.lsub, 1) := by decide +kernel
theorem dX6_digits_77 : decode cX6_digits 77 = .ok (.putfield 73, 3) := by decide +kernel
theorem dX6_digits_80 : decode cX6_digits 80 = .ok (.aload_n 0, 1) := by decide +kernel
theorem dX6_digits_81 : decode cX6_digits 81 = .ok (.dup, 1) := by decide +kernel
theorem dX6_digits_82 : decode cX6_digits 82 = .ok (.getfield 25, 3) := by decide +kernel
theorem dX6_digits_85 : decode cX6_digits 85 = .ok (.iconst 1, 1) := by decide +kernel
theorem dX6_digits_86 : decode cX6_digits 86 = .ok (.iadd, 1) := by decide +kernel
theorem dX6_digits_87 : decode cX6_digits 87 = .ok (.putfield 25, 3) := by decide +kernel
theorem dX6_digits_90 : decode cX6_digits 90 = .ok (.iinc 1 1, 3) := by decide +kernel
theorem dX6_digits_93 : decode cX6_digits 93 = .ok (.goto (-86), 3) := by decide +kernel
theorem dX6_digits_96 : decode cX6_digits 96 = .ok (.aload_n 0, 1) := by decide +kernel
theorem dX6_digits_97 : decode cX6_digits 97 = .ok (.iconst 4, 1) := by decide +kernel
theorem dX6_digits_98 : decode cX6_digits 98 = .ok (.putfield 43, 3) := by decide +kernel
theorem dX6_digits_101 : decode cX6_digits 101 = .ok (.return_, 1) := by decide +kernel
set_option maxRecDepth 20000 in
theorem a_X6_digits_96 {Q : Sg → Unit → Prop} {X : Sg → String → Prop} {th : Nat} (K : MD l R p s m args c cX6_digits 2 RX6 D cA tys A n0 s0 0 0 []) (hQ : CQV p l e R s m args below meth c cX6_digits D cA A n0 s0 QM σi Q) (hX : CX p l e R s m args below meth c 2 D cA A n0 s0 QM σi X) (hTh : CT p l e R s m args below meth c cX6_digits 2 D cA A n0 s0 QM σi RX6 X) : ∀ (σ : Sg), w_X6_digits_96 th Q X σ → RG σ → TY σ → Ext σi σ → kO σ th 6 → JJ p l e R s m args below meth c 2 D cA A n0 s0 QM σ 96 [(0, .ref th)] [] := by
  intro σ h hGσ hYσ hE hth H locs ls hH hl hc
  have B := K.1
  have hl9 := K.2.2.2.2.2.2
  unfold w_X6_digits_96 at h
  refine lv_aload_n B.1 B.2.1 dX6_digits_96 rfl (lv_at hl 0 rfl) ?_
  refine lv_iconst (v := i32 4) B.1 B.2.1 dX6_digits_97 (by decide) ?_
  obtain ⟨σ15, eσ15⟩ : ∃ z, z = pI σ th 3 4 := ⟨_, rfl⟩
  have h := h σ15 eσ15
  refine f_puti B hH hth (by decide) rfl wu_X6 tyX6 tyX6_ok nmX6 3 (by decide) wf_X6_43 rfl (ty := .int) rfl rfl rfl rfl rfl dX6_digits_98 (fun H locs hH => ?_)
  have hH : Hd D cA A s (pI σ th 3 4) H locs := hH
  rw [← eσ15] at hH
  have hGσ15 : RG σ15 := by rw [eσ15]; exact hGσ.pI (by unfold rng; omega)
  have hYσ15 : TY σ15 := by rw [eσ15]; exact hYσ.pI
  have xσ15 : Ext σ σ15 := by rw [eσ15]; exact Ext.pI
  have hc : CB n0 s0 σ15 := by rw [eσ15]; exact hc
  rw [show gc σ = gc σ15 by rw [eσ15]; try rfl, show gs σ = gs σ15 by rw [eσ15]; try rfl]
  exact hQ _ _ _ _ _ dX6_digits_101 hH hc h hGσ15 hYσ15 (hE.trans xσ15)
set_option maxRecDepth 20000 in
theorem a_X6_digits_53 {Q : Sg → Unit → Prop} {X : Sg → String → Prop} {th : Nat} (K : MD l R p s m args c cX6_digits 2 RX6 D cA tys A n0 s0 0 0 []) (hQ : CQV p l e R s m args below meth c cX6_digits D cA A n0 s0 QM σi Q) (hX : CX p l e R s m args below meth c 2 D cA A n0 s0 QM σi X) (hTh : CT p l e R s m args below meth c cX6_digits 2 D cA A n0 s0 QM σi RX6 X) {K7 : Sg → Int → Prop} (hK7 : ∀ (σ : Sg) (v1 : Int) (g1 : rng v1), K7 σ v1 → RG σ → TY σ → Ext σi σ → kO σ th 6 → JJ p l e R s m args below meth c 2 D cA A n0 s0 QM σ 7 [(0, .ref th), (1, .int (i32 v1))] []) : ∀ (σ : Sg) (v1 : Int) (g1 : rng v1), w_X6_digits_53 th K7 Q X σ v1 → RG σ → TY σ → Ext σi σ → kO σ th 6 → JJ p l e R s m args below meth c 2 D cA A n0 s0 QM σ 53 [(0, .ref th), (1, .int (i32 v1))] [] := by
  intro σ v1 g1 h hGσ hYσ hE hth H locs ls hH hl hc
  have B := K.1
  have hl9 := K.2.2.2.2.2.2
  unfold w_X6_digits_53 at h
  refine lv_aload_n B.1 B.2.1 dX6_digits_53 rfl (lv_at hl 0 rfl) ?_
  refine lv_aload_n B.1 B.2.1 dX6_digits_54 rfl (lv_at hl 0 rfl) ?_
  refine f_getl B hH hth (by decide) rfl wu_X6 4 (by decide) wf_X6_73 rfl rfl dX6_digits_55 ?_
  refine lv_ldc2 B.1 B.2.1 B.2.2.1 (B.2.2.2.1 _ (wk_X6_290)) dX6_digits_58 ?_
  refine lv_lmul B.1 B.2.1 dX6_digits_61 ?_
  refine lv_aload_n B.1 B.2.1 dX6_digits_62 rfl (lv_at hl 0 rfl) ?_
  refine f_getp B hH hth (by decide) rfl wu_X6 0 (by decide) wf_X6_9 rfl rfl dX6_digits_63 ?_
  refine lv_aload_n B.1 B.2.1 dX6_digits_66 rfl (lv_at hl 0 rfl) ?_
  refine f_geti B hH hth (by decide) rfl wu_X6 2 (by decide) wf_X6_25 rfl rfl dX6_digits_67 ?_
  obtain ⟨a16, ea16, h⟩ := h
  have ka16 : kO σ a16 102 := (hYσ.get hth (by decide)) a16 ea16
  have h := h ka16
  obtain ⟨q1, h⟩ := h
  refine W.eq (g2 := F0 m 70 ls [.int (i32 (gI σ th 2)), .ref a16, .long (gJ σ th 4 * 10), .ref th]) (by rw [ea16]; rfl) ?_
  refine y_bald B K.2.1 hH ka16 q1 dX6_digits_70 (hYσ.2 _) ?_
  refine lv_i2l B.1 B.2.1 dX6_digits_71 (i32_i64 (hGσ _ _)) ?_
  refine lv_ladd B.1 B.2.1 dX6_digits_72 ?_
  refine lv_ldc2 B.1 B.2.1 B.2.2.1 (B.2.2.2.1 _ (wk_X6_276)) dX6_digits_73 ?_
  refine lv_lsub B.1 B.2.1 dX6_digits_76 ?_
  obtain ⟨σ17, eσ17⟩ : ∃ z, z = pJ σ th 4 (((gJ σ th 4 * 10) + (Int64.ofInt (gI σ a16 (gI σ th 2).toNat))) - 48) := ⟨_, rfl⟩
  have h := h σ17 eσ17
  refine f_putl B hH hth (by decide) rfl wu_X6 tyX6 tyX6_ok nmX6 4 (by decide) wf_X6_73 rfl (ty := .long) rfl rfl rfl rfl rfl dX6_digits_77 (fun H locs hH => ?_)
  have hH : Hd D cA A s (pJ σ th 4 (((gJ σ th 4 * 10) + (Int64.ofInt (gI σ a16 (gI σ th 2).toNat))) - 48)) H locs := hH
  rw [← eσ17] at hH
  have hGσ17 : RG σ17 := by rw [eσ17]; exact hGσ.pJ
  have hYσ17 : TY σ17 := by rw [eσ17]; exact hYσ.pJ
  have xσ17 : Ext σ σ17 := by rw [eσ17]; exact Ext.pJ
  have hc : CB n0 s0 σ17 := by rw [eσ17]; exact hc
  rw [show gc σ = gc σ17 by rw [eσ17]; try rfl, show gs σ = gs σ17 by rw [eσ17]; try rfl]
  refine lv_aload_n B.1 B.2.1 dX6_digits_80 rfl (lv_at hl 0 rfl) ?_
  refine lv_dup B.1 B.2.1 dX6_digits_81 rfl ?_
  refine f_geti B hH (hth.up xσ17) (by decide) rfl wu_X6 2 (by decide) wf_X6_25 rfl rfl dX6_digits_82 ?_
  refine lv_iconst (v := i32 1) B.1 B.2.1 dX6_digits_85 (by decide) ?_
  obtain ⟨q2, h⟩ := h
  refine lv_iadd B.1 B.2.1 dX6_digits_86 ?_
  rw [i32_add]
  obtain ⟨σ18, eσ18⟩ : ∃ z, z = pI σ17 th 2 (gI σ17 th 2 + 1) := ⟨_, rfl⟩
  have h := h σ18 eσ18
  refine f_puti B hH (hth.up xσ17) (by decide) rfl wu_X6 tyX6 tyX6_ok nmX6 2 (by decide) wf_X6_25 rfl (ty := .int) rfl rfl rfl rfl rfl dX6_digits_87 (fun H locs hH => ?_)
  have hH : Hd D cA A s (pI σ17 th 2 (gI σ17 th 2 + 1)) H locs := hH
  rw [← eσ18] at hH
  have hGσ18 : RG σ18 := by rw [eσ18]; exact hGσ17.pI q2
  have hYσ18 : TY σ18 := by rw [eσ18]; exact hYσ17.pI
  have xσ18 : Ext σ17 σ18 := by rw [eσ18]; exact Ext.pI
  have hc : CB n0 s0 σ18 := by rw [eσ18]; exact hc
  rw [show gc σ17 = gc σ18 by rw [eσ18]; try rfl, show gs σ17 = gs σ18 by rw [eσ18]; try rfl]
  obtain ⟨q3, h⟩ := h
  refine lv_iinc (k := 1) (v := i32 (v1 + 1)) (lv' := [(1, .int (i32 (v1 + 1))), (0, .ref th)]) B.1 B.2.1 dX6_digits_90 hl rfl (i32_add _ _) (by decide) rfl (fun ls hl => ?_)
  refine lv_goto (tgt := 7) B.1 B.2.1 dX6_digits_93 (by decide) ?_
  exact hK7 _ _ q3 h hGσ18 hYσ18 ((hE.trans xσ17).trans xσ18) (hth.up (xσ17.trans xσ18)) _ _ _ hH (lv_sub (l' := [(0, .ref th), (1, .int (i32 (v1 + 1)))]) hl [1, 0] rfl) hc
set_option maxRecDepth 20000 in
theorem a_X6_digits_39 {Q : Sg → Unit → Prop} {X : Sg → String → Prop} {th : Nat} (K : MD l R p s m args c cX6_digits 2 RX6 D cA tys A n0 s0 0 0 []) (hQ : CQV p l e R s m args below meth c cX6_digits D cA A n0 s0 QM σi Q) (hX : CX p l e R s m args below meth c 2 D cA A n0 s0 QM σi X) (hTh : CT p l e R s m args below meth c cX6_digits 2 D cA A n0 s0 QM σi RX6 X) {K7 : Sg → Int → Prop} (hK7 : ∀ (σ : Sg) (v1 : Int) (g1 : rng v1), K7 σ v1 → RG σ → TY σ → Ext σi σ → kO σ th 6 → JJ p l e R s m args below meth c 2 D cA A n0 s0 QM σ 7 [(0, .ref th), (1, .int (i32 v1))] []) : ∀ (σ : Sg) (v1 : Int) (g1 : rng v1), w_X6_digits_39 th K7 Q X σ v1 → RG σ → TY σ → Ext σi σ → kO σ th 6 → JJ p l e R s m args below meth c 2 D cA A n0 s0 QM σ 39 [(0, .ref th), (1, .int (i32 v1))] [] := by
  intro σ v1 g1 h hGσ hYσ hE hth H locs ls hH hl hc
  have B := K.1
  have hl9 := K.2.2.2.2.2.2
  unfold w_X6_digits_39 at h
  refine lv_aload_n B.1 B.2.1 dX6_digits_39 rfl (lv_at hl 0 rfl) ?_
  refine f_getp B hH hth (by decide) rfl wu_X6 0 (by decide) wf_X6_9 rfl rfl dX6_digits_40 ?_
  refine lv_aload_n B.1 B.2.1 dX6_digits_43 rfl (lv_at hl 0 rfl) ?_
  refine f_geti B hH hth (by decide) rfl wu_X6 2 (by decide) wf_X6_25 rfl rfl dX6_digits_44 ?_
  obtain ⟨a19, ea19, h⟩ := h
  have ka19 : kO σ a19 102 := (hYσ.get hth (by decide)) a19 ea19
  have h := h ka19
  obtain ⟨q1, h⟩ := h
  refine W.eq (g2 := F0 m 47 ls [.int (i32 (gI σ th 2)), .ref a19]) (by rw [ea19]; rfl) ?_
  refine y_bald B K.2.1 hH ka19 q1 dX6_digits_47 (hYσ.2 _) ?_
  refine lv_bipush (v := i32 57) B.1 B.2.1 dX6_digits_48 (by decide) ?_
  refine lv_icmp_gt (tgt := 96) B.1 B.2.1 dX6_digits_50 (by decide) (fun h9 => ?_) (fun h9 => ?_)
  · rw [if_pos ((i32_lt (by unfold rng; omega) (hGσ _ _)).mp h9)] at h
    exact a_X6_digits_96 K hQ hX hTh _ h hGσ hYσ hE hth _ _ _ hH (lv_sub (l' := [(0, .ref th)]) hl [0] rfl) hc
  · rw [if_neg (fun q => h9 ((i32_lt (by unfold rng; omega) (hGσ _ _)).mpr q))] at h
    exact a_X6_digits_53 K hQ hX hTh hK7 _ _ g1 h hGσ hYσ hE hth _ _ _ hH (lv_sub (l' := [(0, .ref th), (1, .int (i32 v1))]) hl [0, 1] rfl) hc
set_option maxRecDepth 20000 in
theorem a_X6_digits_25 {Q : Sg → Unit → Prop} {X : Sg → String → Prop} {th : Nat} (K : MD l R p s m args c cX6_digits 2 RX6 D cA tys A n0 s0 0 0 []) (hQ : CQV p l e R s m args below meth c cX6_digits D cA A n0 s0 QM σi Q) (hX : CX p l e R s m args below meth c 2 D cA A n0 s0 QM σi X) (hTh : CT p l e R s m args below meth c cX6_digits 2 D cA A n0 s0 QM σi RX6 X) {K7 : Sg → Int → Prop} (hK7 : ∀ (σ : Sg) (v1 : Int) (g1 : rng v1), K7 σ v1 → RG σ → TY σ → Ext σi σ → kO σ th 6 → JJ p l e R s m args below meth c 2 D cA A n0 s0 QM σ 7 [(0, .ref th), (1, .int (i32 v1))] []) : ∀ (σ : Sg) (v1 : Int) (g1 : rng v1), w_X6_digits_25 th K7 Q X σ v1 → RG σ → TY σ → Ext σi σ → kO σ th 6 → JJ p l e R s m args below meth c 2 D cA A n0 s0 QM σ 25 [(0, .ref th), (1, .int (i32 v1))] [] := by
  intro σ v1 g1 h hGσ hYσ hE hth H locs ls hH hl hc
  have B := K.1
  have hl9 := K.2.2.2.2.2.2
  unfold w_X6_digits_25 at h
  refine lv_aload_n B.1 B.2.1 dX6_digits_25 rfl (lv_at hl 0 rfl) ?_
  refine f_getp B hH hth (by decide) rfl wu_X6 0 (by decide) wf_X6_9 rfl rfl dX6_digits_26 ?_
  refine lv_aload_n B.1 B.2.1 dX6_digits_29 rfl (lv_at hl 0 rfl) ?_
  refine f_geti B hH hth (by decide) rfl wu_X6 2 (by decide) wf_X6_25 rfl rfl dX6_digits_30 ?_
  obtain ⟨a20, ea20, h⟩ := h
  have ka20 : kO σ a20 102 := (hYσ.get hth (by decide)) a20 ea20
  have h := h ka20
  obtain ⟨q1, h⟩ := h
  refine W.eq (g2 := F0 m 33 ls [.int (i32 (gI σ th 2)), .ref a20]) (by rw [ea20]; rfl) ?_
  refine y_bald B K.2.1 hH ka20 q1 dX6_digits_33 (hYσ.2 _) ?_
  refine lv_bipush (v := i32 48) B.1 B.2.1 dX6_digits_34 (by decide) ?_
  refine lv_icmp_lt (tgt := 96) B.1 B.2.1 dX6_digits_36 (by decide) (fun h9 => ?_) (fun h9 => ?_)
  · rw [if_pos ((i32_lt (hGσ _ _) (by unfold rng; omega)).mp h9)] at h
    exact a_X6_digits_96 K hQ hX hTh _ h hGσ hYσ hE hth _ _ _ hH (lv_sub (l' := [(0, .ref th)]) hl [0] rfl) hc
  · rw [if_neg (fun q => h9 ((i32_lt (hGσ _ _) (by unfold rng; omega)).mpr q))] at h
    exact a_X6_digits_39 K hQ hX hTh hK7 _ _ g1 h hGσ hYσ hE hth _ _ _ hH (lv_sub (l' := [(0, .ref th), (1, .int (i32 v1))]) hl [0, 1] rfl) hc
set_option maxRecDepth 20000 in
theorem a_X6_digits_14 {Q : Sg → Unit → Prop} {X : Sg → String → Prop} {th : Nat} (K : MD l R p s m args c cX6_digits 2 RX6 D cA tys A n0 s0 0 0 []) (hQ : CQV p l e R s m args below meth c cX6_digits D cA A n0 s0 QM σi Q) (hX : CX p l e R s m args below meth c 2 D cA A n0 s0 QM σi X) (hTh : CT p l e R s m args below meth c cX6_digits 2 D cA A n0 s0 QM σi RX6 X) {K7 : Sg → Int → Prop} (hK7 : ∀ (σ : Sg) (v1 : Int) (g1 : rng v1), K7 σ v1 → RG σ → TY σ → Ext σi σ → kO σ th 6 → JJ p l e R s m args below meth c 2 D cA A n0 s0 QM σ 7 [(0, .ref th), (1, .int (i32 v1))] []) : ∀ (σ : Sg) (v1 : Int) (g1 : rng v1), w_X6_digits_14 th K7 Q X σ v1 → RG σ → TY σ → Ext σi σ → kO σ th 6 → JJ p l e R s m args below meth c 2 D cA A n0 s0 QM σ 14 [(0, .ref th), (1, .int (i32 v1))] [] := by
  intro σ v1 g1 h hGσ hYσ hE hth H locs ls hH hl hc
  have B := K.1
  have hl9 := K.2.2.2.2.2.2
  unfold w_X6_digits_14 at h
  refine lv_aload_n B.1 B.2.1 dX6_digits_14 rfl (lv_at hl 0 rfl) ?_
  refine f_geti B hH hth (by decide) rfl wu_X6 2 (by decide) wf_X6_25 rfl rfl dX6_digits_15 ?_
  refine lv_aload_n B.1 B.2.1 dX6_digits_18 rfl (lv_at hl 0 rfl) ?_
  refine f_geti B hH hth (by decide) rfl wu_X6 1 (by decide) wf_X6_21 rfl rfl dX6_digits_19 ?_
  refine lv_icmp_ge (tgt := 96) B.1 B.2.1 dX6_digits_22 (by decide) (fun h9 => ?_) (fun h9 => ?_)
  · rw [if_pos ((i32_le (hGσ _ _) (hGσ _ _)).mp h9)] at h
    exact a_X6_digits_96 K hQ hX hTh _ h hGσ hYσ hE hth _ _ _ hH (lv_sub (l' := [(0, .ref th)]) hl [0] rfl) hc
  · rw [if_neg (fun q => h9 ((i32_le (hGσ _ _) (hGσ _ _)).mpr q))] at h
    exact a_X6_digits_25 K hQ hX hTh hK7 _ _ g1 h hGσ hYσ hE hth _ _ _ hH (lv_sub (l' := [(0, .ref th), (1, .int (i32 v1))]) hl [0, 1] rfl) hc
set_option maxRecDepth 20000 in
theorem a_X6_digits_7 {Q : Sg → Unit → Prop} {X : Sg → String → Prop} {th : Nat} (K : MD l R p s m args c cX6_digits 2 RX6 D cA tys A n0 s0 0 0 []) (hQ : CQV p l e R s m args below meth c cX6_digits D cA A n0 s0 QM σi Q) (hX : CX p l e R s m args below meth c 2 D cA A n0 s0 QM σi X) (hTh : CT p l e R s m args below meth c cX6_digits 2 D cA A n0 s0 QM σi RX6 X) {K7 : Sg → Int → Prop} (hK7 : ∀ (σ : Sg) (v1 : Int) (g1 : rng v1), K7 σ v1 → RG σ → TY σ → Ext σi σ → kO σ th 6 → JJ p l e R s m args below meth c 2 D cA A n0 s0 QM σ 7 [(0, .ref th), (1, .int (i32 v1))] []) : ∀ (σ : Sg) (v1 : Int) (g1 : rng v1), w_X6_digits_7 th K7 Q X σ v1 → RG σ → TY σ → Ext σi σ → kO σ th 6 → JJ p l e R s m args below meth c 2 D cA A n0 s0 QM σ 7 [(0, .ref th), (1, .int (i32 v1))] [] := by
  intro σ v1 g1 h hGσ hYσ hE hth H locs ls hH hl hc
  have B := K.1
  have hl9 := K.2.2.2.2.2.2
  unfold w_X6_digits_7 at h
  refine lv_iload_n B.1 B.2.1 dX6_digits_7 rfl (lv_at hl 1 rfl) ?_
  refine lv_sipush (v := i32 1500) B.1 B.2.1 dX6_digits_8 (by decide) ?_
  refine lv_icmp_ge (tgt := 96) B.1 B.2.1 dX6_digits_11 (by decide) (fun h9 => ?_) (fun h9 => ?_)
  · rw [if_pos ((i32_le (by unfold rng; omega) g1).mp h9)] at h
    exact a_X6_digits_96 K hQ hX hTh _ h hGσ hYσ hE hth _ _ _ hH (lv_sub (l' := [(0, .ref th)]) hl [0] rfl) hc
  · rw [if_neg (fun q => h9 ((i32_le (by unfold rng; omega) g1).mpr q))] at h
    exact a_X6_digits_14 K hQ hX hTh hK7 _ _ g1 h hGσ hYσ hE hth _ _ _ hH (lv_sub (l' := [(0, .ref th), (1, .int (i32 v1))]) hl [0, 1] rfl) hc
theorem al_X6_digits_7 {Q : Sg → Unit → Prop} {X : Sg → String → Prop} {th : Nat} (K : MD l R p s m args c cX6_digits 2 RX6 D cA tys A n0 s0 0 0 []) (hQ : CQV p l e R s m args below meth c cX6_digits D cA A n0 s0 QM σi Q) (hX : CX p l e R s m args below meth c 2 D cA A n0 s0 QM σi X) (hTh : CT p l e R s m args below meth c cX6_digits 2 D cA A n0 s0 QM σi RX6 X) : ∀ (n : Nat), ∀ (σ : Sg) (v1 : Int) (g1 : rng v1), wl_X6_digits_7 th Q X n σ v1 → RG σ → TY σ → Ext σi σ → kO σ th 6 → JJ p l e R s m args below meth c 2 D cA A n0 s0 QM σ 7 [(0, .ref th), (1, .int (i32 v1))] [] := by
  intro n
  induction n with
  | zero => intro σ v1 g1 h; exact h.elim
  | succ n ih => exact fun σ v1 g1 h => a_X6_digits_7 K hQ hX hTh ih σ v1 g1 h
set_option maxRecDepth 20000 in
theorem a_X6_digits_0 {Q : Sg → Unit → Prop} {X : Sg → String → Prop} {th : Nat} (K : MD l R p s m args c cX6_digits 2 RX6 D cA tys A n0 s0 0 0 []) (hQ : CQV p l e R s m args below meth c cX6_digits D cA A n0 s0 QM σi Q) (hX : CX p l e R s m args below meth c 2 D cA A n0 s0 QM σi X) (hTh : CT p l e R s m args below meth c cX6_digits 2 D cA A n0 s0 QM σi RX6 X) : ∀ (σ : Sg), w_X6_digits_0 th Q X σ → RG σ → TY σ → Ext σi σ → kO σ th 6 → JJ p l e R s m args below meth c 2 D cA A n0 s0 QM σ 0 [(0, .ref th)] [] := by
  intro σ h hGσ hYσ hE hth H locs ls hH hl hc
  have B := K.1
  have hl9 := K.2.2.2.2.2.2
  unfold w_X6_digits_0 at h
  refine lv_aload_n B.1 B.2.1 dX6_digits_0 rfl (lv_at hl 0 rfl) ?_
  refine lv_lconst (v := 0) B.1 B.2.1 dX6_digits_1 (by decide) ?_
  obtain ⟨σ21, eσ21⟩ : ∃ z, z = pJ σ th 4 0 := ⟨_, rfl⟩
  have h := h σ21 eσ21
  refine f_putl B hH hth (by decide) rfl wu_X6 tyX6 tyX6_ok nmX6 4 (by decide) wf_X6_73 rfl (ty := .long) rfl rfl rfl rfl rfl dX6_digits_2 (fun H locs hH => ?_)
  have hH : Hd D cA A s (pJ σ th 4 0) H locs := hH
  rw [← eσ21] at hH
  have hGσ21 : RG σ21 := by rw [eσ21]; exact hGσ.pJ
  have hYσ21 : TY σ21 := by rw [eσ21]; exact hYσ.pJ
  have xσ21 : Ext σ σ21 := by rw [eσ21]; exact Ext.pJ
  have hc : CB n0 s0 σ21 := by rw [eσ21]; exact hc
  rw [show gc σ = gc σ21 by rw [eσ21]; try rfl, show gs σ = gs σ21 by rw [eσ21]; try rfl]
  refine lv_iconst (v := i32 0) B.1 B.2.1 dX6_digits_5 (by decide) ?_
  refine lv_istore_n (lv' := [(1, .int (i32 0)), (0, .ref th)]) B.1 B.2.1 dX6_digits_6 rfl hl (by decide) rfl (fun ls hl => ?_)
  obtain ⟨n9, h⟩ := h
  exact al_X6_digits_7 K hQ hX hTh n9 _ _ (by unfold rng; omega) h hGσ21 hYσ21 (hE.trans xσ21) (hth.up xσ21) _ _ _ hH (lv_sub (l' := [(0, .ref th), (1, .int (i32 0))]) hl [1, 0] rfl) hc
theorem ok_X6_digits (hl0 : l.stackTraces = false) (hT : TyC cA tys) {Q : Sg → Unit → Prop} {X : Sg → String → Prop} (σ : Sg) (th : Nat) (hth : kO σ th 6) (hG : RG σ) (hY : TY σ) (h : wp_X6_digits th σ Q X) : Ok l D cA tys A yX6_digits (.code yX6_digits cX6_digits 2 none) 0 0 [.ref th] σ (QcV σ Q) (QxC σ X) := by
  unfold wp_X6_digits at h
  exact oc_V hl0 (by decide) (by exact Nat.le_of_ble_eq_true rfl) hT (fun p e R s m args below meth c K hQ hX hTh hin9 H locs ls hH hl hc => a_X6_digits_0 K hQ hX hTh σ h hG hY (Ext.rfl' σ) hth H locs ls hH (lv_sub (l' := [(0, .ref th)]) hl [0] rfl) hc)
theorem dX6_isSignByte_0 : decode cX6_isSignByte 0 = .ok (.iload_n 0, 1) := by decide +kernel
theorem dX6_isSignByte_1 : decode cX6_isSignByte 1 = .ok (.lookupswitch 149 #[(33, 147), (37, 147), (38, 147), (40, 147), (41, 147), (42, 147), (43, 147), (44, 147), (45, 147), (47, 147), (58, 147), (59, 147), (60, 147), (61, 147), (62, 147), (63, 147), (124, 147)], 147) := by decide +kernel
theorem dX6_isSignByte_148 : decode cX6_isSignByte 148 = .ok (.iconst 1, 1) := by decide +kernel
theorem dX6_isSignByte_149 : decode cX6_isSignByte 149 = .ok (.ireturn, 1) := by decide +kernel
theorem dX6_isSignByte_150 : decode cX6_isSignByte 150 = .ok (.iconst 0, 1) := by decide +kernel
theorem dX6_isSignByte_151 : decode cX6_isSignByte 151 = .ok (.ireturn, 1) := by decide +kernel
theorem lk_X6_isSignByte_1 (x : Int) (h0 : ¬ x = 33) (h1 : ¬ x = 37) (h2 : ¬ x = 38) (h3 : ¬ x = 40) (h4 : ¬ x = 41) (h5 : ¬ x = 42) (h6 : ¬ x = 43) (h7 : ¬ x = 44) (h8 : ¬ x = 45) (h9 : ¬ x = 47) (h10 : ¬ x = 58) (h11 : ¬ x = 59) (h12 : ¬ x = 60) (h13 : ¬ x = 61) (h14 : ¬ x = 62) (h15 : ¬ x = 63) (h16 : ¬ x = 124) : Op.lookupswitch.offset [(33, 147), (37, 147), (38, 147), (40, 147), (41, 147), (42, 147), (43, 147), (44, 147), (45, 147), (47, 147), (58, 147), (59, 147), (60, 147), (61, 147), (62, 147), (63, 147), (124, 147)] 149 x = 149 := by simp [Op.lookupswitch.offset, h0, Ne.symm h0, h1, Ne.symm h1, h2, Ne.symm h2, h3, Ne.symm h3, h4, Ne.symm h4, h5, Ne.symm h5, h6, Ne.symm h6, h7, Ne.symm h7, h8, Ne.symm h8, h9, Ne.symm h9, h10, Ne.symm h10, h11, Ne.symm h11, h12, Ne.symm h12, h13, Ne.symm h13, h14, Ne.symm h14, h15, Ne.symm h15, h16, Ne.symm h16]
set_option maxRecDepth 20000 in
theorem a_X6_isSignByte_148 {Q : Sg → Int → Prop} {X : Sg → String → Prop} (K : MD l R p s m args c cX6_isSignByte 1 RX6 D cA tys A n0 s0 0 0 []) (hQ : CQZ p l e R s m args below meth c cX6_isSignByte D cA A n0 s0 QM σi Q) (hX : CX p l e R s m args below meth c 1 D cA A n0 s0 QM σi X) (hTh : CT p l e R s m args below meth c cX6_isSignByte 1 D cA A n0 s0 QM σi RX6 X) : ∀ (σ : Sg), w_X6_isSignByte_148 Q X σ → RG σ → TY σ → Ext σi σ → JJ p l e R s m args below meth c 1 D cA A n0 s0 QM σ 148 [] [] := by
  intro σ h hGσ hYσ hE H locs ls hH hl hc
  have B := K.1
  have hl9 := K.2.2.2.2.2.2
  unfold w_X6_isSignByte_148 at h
  refine lv_iconst (v := i32 1) B.1 B.2.1 dX6_isSignByte_148 (by decide) ?_
  exact hQ _ _ _ _ _ _ (by unfold rng; omega) (Or.inr rfl) dX6_isSignByte_149 hH hc h hGσ hYσ hE
set_option maxRecDepth 20000 in
theorem a_X6_isSignByte_150 {Q : Sg → Int → Prop} {X : Sg → String → Prop} (K : MD l R p s m args c cX6_isSignByte 1 RX6 D cA tys A n0 s0 0 0 []) (hQ : CQZ p l e R s m args below meth c cX6_isSignByte D cA A n0 s0 QM σi Q) (hX : CX p l e R s m args below meth c 1 D cA A n0 s0 QM σi X) (hTh : CT p l e R s m args below meth c cX6_isSignByte 1 D cA A n0 s0 QM σi RX6 X) : ∀ (σ : Sg), w_X6_isSignByte_150 Q X σ → RG σ → TY σ → Ext σi σ → JJ p l e R s m args below meth c 1 D cA A n0 s0 QM σ 150 [] [] := by
  intro σ h hGσ hYσ hE H locs ls hH hl hc
  have B := K.1
  have hl9 := K.2.2.2.2.2.2
  unfold w_X6_isSignByte_150 at h
  refine lv_iconst (v := i32 0) B.1 B.2.1 dX6_isSignByte_150 (by decide) ?_
  exact hQ _ _ _ _ _ _ (by unfold rng; omega) (Or.inl rfl) dX6_isSignByte_151 hH hc h hGσ hYσ hE
set_option maxRecDepth 20000 in
theorem a_X6_isSignByte_0 {Q : Sg → Int → Prop} {X : Sg → String → Prop} (K : MD l R p s m args c cX6_isSignByte 1 RX6 D cA tys A n0 s0 0 0 []) (hQ : CQZ p l e R s m args below meth c cX6_isSignByte D cA A n0 s0 QM σi Q) (hX : CX p l e R s m args below meth c 1 D cA A n0 s0 QM σi X) (hTh : CT p l e R s m args below meth c cX6_isSignByte 1 D cA A n0 s0 QM σi RX6 X) : ∀ (σ : Sg) (v0 : Int) (g0 : rng v0), w_X6_isSignByte_0 Q X σ v0 → RG σ → TY σ → Ext σi σ → JJ p l e R s m args below meth c 1 D cA A n0 s0 QM σ 0 [(0, .int (i32 v0))] [] := by
  intro σ v0 g0 h hGσ hYσ hE H locs ls hH hl hc
  have B := K.1
  have hl9 := K.2.2.2.2.2.2
  unfold w_X6_isSignByte_0 at h
  refine lv_iload_n B.1 B.2.1 dX6_isSignByte_0 rfl (lv_at hl 0 rfl) ?_
  rcases Classical.em (v0 = 33) with e9 | e9
  · rw [if_pos e9] at h
    refine lv_lookup (off := 147) (tgt := 148) B.1 B.2.1 dX6_isSignByte_1 rfl (by rw [i32_toInt g0, e9]; rfl) (by decide) ?_
    exact a_X6_isSignByte_148 K hQ hX hTh _ h hGσ hYσ hE _ _ _ hH (lv_sub (l' := []) hl [] rfl) hc
  rw [if_neg e9] at h
  have k1 := e9
  rcases Classical.em (v0 = 37) with e9 | e9
  · rw [if_pos e9] at h
    refine lv_lookup (off := 147) (tgt := 148) B.1 B.2.1 dX6_isSignByte_1 rfl (by rw [i32_toInt g0, e9]; rfl) (by decide) ?_
    exact a_X6_isSignByte_148 K hQ hX hTh _ h hGσ hYσ hE _ _ _ hH (lv_sub (l' := []) hl [] rfl) hc
  rw [if_neg e9] at h
  have k2 := e9
  rcases Classical.em (v0 = 38) with e9 | e9
  · rw [if_pos e9] at h
    refine lv_lookup (off := 147) (tgt := 148) B.1 B.2.1 dX6_isSignByte_1 rfl (by rw [i32_toInt g0, e9]; rfl) (by decide) ?_
    exact a_X6_isSignByte_148 K hQ hX hTh _ h hGσ hYσ hE _ _ _ hH (lv_sub (l' := []) hl [] rfl) hc
  rw [if_neg e9] at h
  have k3 := e9
  rcases Classical.em (v0 = 40) with e9 | e9
  · rw [if_pos e9] at h
    refine lv_lookup (off := 147) (tgt := 148) B.1 B.2.1 dX6_isSignByte_1 rfl (by rw [i32_toInt g0, e9]; rfl) (by decide) ?_
    exact a_X6_isSignByte_148 K hQ hX hTh _ h hGσ hYσ hE _ _ _ hH (lv_sub (l' := []) hl [] rfl) hc
  rw [if_neg e9] at h
  have k4 := e9
  rcases Classical.em (v0 = 41) with e9 | e9
  · rw [if_pos e9] at h
    refine lv_lookup (off := 147) (tgt := 148) B.1 B.2.1 dX6_isSignByte_1 rfl (by rw [i32_toInt g0, e9]; rfl) (by decide) ?_
    exact a_X6_isSignByte_148 K hQ hX hTh _ h hGσ hYσ hE _ _ _ hH (lv_sub (l' := []) hl [] rfl) hc
  rw [if_neg e9] at h
  have k5 := e9
  rcases Classical.em (v0 = 42) with e9 | e9
  · rw [if_pos e9] at h
    refine lv_lookup (off := 147) (tgt := 148) B.1 B.2.1 dX6_isSignByte_1 rfl (by rw [i32_toInt g0, e9]; rfl) (by decide) ?_
    exact a_X6_isSignByte_148 K hQ hX hTh _ h hGσ hYσ hE _ _ _ hH (lv_sub (l' := []) hl [] rfl) hc
  rw [if_neg e9] at h
  have k6 := e9
  rcases Classical.em (v0 = 43) with e9 | e9
  · rw [if_pos e9] at h
    refine lv_lookup (off := 147) (tgt := 148) B.1 B.2.1 dX6_isSignByte_1 rfl (by rw [i32_toInt g0, e9]; rfl) (by decide) ?_
    exact a_X6_isSignByte_148 K hQ hX hTh _ h hGσ hYσ hE _ _ _ hH (lv_sub (l' := []) hl [] rfl) hc
  rw [if_neg e9] at h
  have k7 := e9
  rcases Classical.em (v0 = 44) with e9 | e9
  · rw [if_pos e9] at h
    refine lv_lookup (off := 147) (tgt := 148) B.1 B.2.1 dX6_isSignByte_1 rfl (by rw [i32_toInt g0, e9]; rfl) (by decide) ?_
    exact a_X6_isSignByte_148 K hQ hX hTh _ h hGσ hYσ hE _ _ _ hH (lv_sub (l' := []) hl [] rfl) hc
  rw [if_neg e9] at h
  have k8 := e9
  rcases Classical.em (v0 = 45) with e9 | e9
  · rw [if_pos e9] at h
    refine lv_lookup (off := 147) (tgt := 148) B.1 B.2.1 dX6_isSignByte_1 rfl (by rw [i32_toInt g0, e9]; rfl) (by decide) ?_
    exact a_X6_isSignByte_148 K hQ hX hTh _ h hGσ hYσ hE _ _ _ hH (lv_sub (l' := []) hl [] rfl) hc
  rw [if_neg e9] at h
  have k9 := e9
  rcases Classical.em (v0 = 47) with e9 | e9
  · rw [if_pos e9] at h
    refine lv_lookup (off := 147) (tgt := 148) B.1 B.2.1 dX6_isSignByte_1 rfl (by rw [i32_toInt g0, e9]; rfl) (by decide) ?_
    exact a_X6_isSignByte_148 K hQ hX hTh _ h hGσ hYσ hE _ _ _ hH (lv_sub (l' := []) hl [] rfl) hc
  rw [if_neg e9] at h
  have k10 := e9
  rcases Classical.em (v0 = 58) with e9 | e9
  · rw [if_pos e9] at h
    refine lv_lookup (off := 147) (tgt := 148) B.1 B.2.1 dX6_isSignByte_1 rfl (by rw [i32_toInt g0, e9]; rfl) (by decide) ?_
    exact a_X6_isSignByte_148 K hQ hX hTh _ h hGσ hYσ hE _ _ _ hH (lv_sub (l' := []) hl [] rfl) hc
  rw [if_neg e9] at h
  have k11 := e9
  rcases Classical.em (v0 = 59) with e9 | e9
  · rw [if_pos e9] at h
    refine lv_lookup (off := 147) (tgt := 148) B.1 B.2.1 dX6_isSignByte_1 rfl (by rw [i32_toInt g0, e9]; rfl) (by decide) ?_
    exact a_X6_isSignByte_148 K hQ hX hTh _ h hGσ hYσ hE _ _ _ hH (lv_sub (l' := []) hl [] rfl) hc
  rw [if_neg e9] at h
  have k12 := e9
  rcases Classical.em (v0 = 60) with e9 | e9
  · rw [if_pos e9] at h
    refine lv_lookup (off := 147) (tgt := 148) B.1 B.2.1 dX6_isSignByte_1 rfl (by rw [i32_toInt g0, e9]; rfl) (by decide) ?_
    exact a_X6_isSignByte_148 K hQ hX hTh _ h hGσ hYσ hE _ _ _ hH (lv_sub (l' := []) hl [] rfl) hc
  rw [if_neg e9] at h
  have k13 := e9
  rcases Classical.em (v0 = 61) with e9 | e9
  · rw [if_pos e9] at h
    refine lv_lookup (off := 147) (tgt := 148) B.1 B.2.1 dX6_isSignByte_1 rfl (by rw [i32_toInt g0, e9]; rfl) (by decide) ?_
    exact a_X6_isSignByte_148 K hQ hX hTh _ h hGσ hYσ hE _ _ _ hH (lv_sub (l' := []) hl [] rfl) hc
  rw [if_neg e9] at h
  have k14 := e9
  rcases Classical.em (v0 = 62) with e9 | e9
  · rw [if_pos e9] at h
    refine lv_lookup (off := 147) (tgt := 148) B.1 B.2.1 dX6_isSignByte_1 rfl (by rw [i32_toInt g0, e9]; rfl) (by decide) ?_
    exact a_X6_isSignByte_148 K hQ hX hTh _ h hGσ hYσ hE _ _ _ hH (lv_sub (l' := []) hl [] rfl) hc
  rw [if_neg e9] at h
  have k15 := e9
  rcases Classical.em (v0 = 63) with e9 | e9
  · rw [if_pos e9] at h
    refine lv_lookup (off := 147) (tgt := 148) B.1 B.2.1 dX6_isSignByte_1 rfl (by rw [i32_toInt g0, e9]; rfl) (by decide) ?_
    exact a_X6_isSignByte_148 K hQ hX hTh _ h hGσ hYσ hE _ _ _ hH (lv_sub (l' := []) hl [] rfl) hc
  rw [if_neg e9] at h
  have k16 := e9
  rcases Classical.em (v0 = 124) with e9 | e9
  · rw [if_pos e9] at h
    refine lv_lookup (off := 147) (tgt := 148) B.1 B.2.1 dX6_isSignByte_1 rfl (by rw [i32_toInt g0, e9]; rfl) (by decide) ?_
    exact a_X6_isSignByte_148 K hQ hX hTh _ h hGσ hYσ hE _ _ _ hH (lv_sub (l' := []) hl [] rfl) hc
  rw [if_neg e9] at h
  have k17 := e9
  refine lv_lookup (off := 149) (tgt := 150) B.1 B.2.1 dX6_isSignByte_1 rfl (by rw [i32_toInt g0]; exact lk_X6_isSignByte_1 _ k1 k2 k3 k4 k5 k6 k7 k8 k9 k10 k11 k12 k13 k14 k15 k16 k17) (by decide) ?_
  exact a_X6_isSignByte_150 K hQ hX hTh _ h hGσ hYσ hE _ _ _ hH (lv_sub (l' := []) hl [] rfl) hc
theorem ok_X6_isSignByte (hl0 : l.stackTraces = false) (hT : TyC cA tys) {Q : Sg → Int → Prop} {X : Sg → String → Prop} (σ : Sg) (v0 : Int) (g0 : rng v0) (hG : RG σ) (hY : TY σ) (h : wp_X6_isSignByte v0 σ Q X) : Ok l D cA tys A yX6_isSignByte (.code yX6_isSignByte cX6_isSignByte 1 (some .boolean)) 0 0 [.int (i32 v0)] σ (QcZ σ Q) (QxC σ X) := by
  unfold wp_X6_isSignByte at h
  exact oc_Z hl0 (by decide) (by exact Nat.le_of_ble_eq_true rfl) hT (fun p e R s m args below meth c K hQ hX hTh H locs ls hH hl hc => a_X6_isSignByte_0 K hQ hX hTh σ v0 g0 h hG hY (Ext.rfl' σ) H locs ls hH (lv_sub (l' := [(0, .int (i32 v0))]) hl [0] rfl) hc)
theorem dX6_word_0 : decode cX6_word 0 = .ok (.aload_n 0, 1) := by decide +kernel
theorem dX6_word_1 : decode cX6_word 1 = .ok (.lconst 0, 1) := by decide +kernel
theorem dX6_word_2 : decode cX6_word 2 = .ok (.putfield 73, 3) := by decide +kernel
theorem dX6_word_5 : decode cX6_word 5 = .ok (.iconst 0, 1) := by decide +kernel
theorem dX6_word_6 : decode cX6_word 6 = .ok (.istore_n 1, 1) := by decide +kernel
theorem dX6_word_7 : decode cX6_word 7 = .ok (.iload_n 1, 1) := by decide +kernel
theorem dX6_word_8 : decode cX6_word 8 = .ok (.sipush 1500, 3) := by decide +kernel
theorem dX6_word_11 : decode cX6_word 11 = .ok (.if_icmp .ge 80, 3) := by decide +kernel
theorem dX6_word_14 : decode cX6_word 14 = .ok (.aload_n 0, 1) := by decide +kernel
theorem dX6_word_15 : decode cX6_word 15 = .ok (.getfield 25, 3) := by decide +kernel
theorem dX6_word_18 : decode cX6_word 18 = .ok (.aload_n 0, 1) := by decide +kernel
theorem dX6_word_19 : decode cX6_word 19 = .ok (.getfield 21, 3) := by decide +kernel
theorem dX6_word_22 : decode cX6_word 22 = .ok (.if_icmp .ge 69, 3) := by decide +kernel
theorem dX6_word_25 : decode cX6_word 25 = .ok (.aload_n 0, 1) := by decide +kernel
theorem dX6_word_26 : decode cX6_word 26 = .ok (.getfield 9, 3) := by decide +kernel
theorem dX6_word_29 : decode cX6_word 29 = .ok (.aload_n 0, 1) := by decide +kernel
theorem dX6_word_30 : decode cX6_word 30 = .ok (.getfield 25, 3) := by decide +kernel
theorem dX6_word_33 : decode cX6_word 33 = .ok (.baload, 1) := by decide +kernel
theorem dX6_word_34 : decode cX6_word 34 = .ok (.bipush 97, 2) := by decide +kernel
theorem dX6_word_36 : decode cX6_word 36 = .ok (.if_icmp .lt 55, 3) := by decide +kernel
theorem dX6_word_39 : decode cX6_word 39 = .ok (.aload_n 0, 1) := by decide +kernel
theorem dX6_word_40 : decode cX6_word 40 = .ok (.getfield 9, 3) := by decide +kernel
theorem dX6_word_43 : decode cX6_word 43 = .ok (.aload_n 0, 1) := by decide +kernel
theorem dX6_word_44 : decode cX6_word 44 = .ok (.getfield 25, 3) := by decide +kernel
theorem dX6_word_47 : decode cX6_word 47 = .ok (.baload, 1) := by decide +kernel
theorem dX6_word_48 : decode cX6_word 48 = .ok (.bipush 122, 2) := by decide +kernel
theorem dX6_word_50 : decode cX6_word 50 = .ok (.if_icmp .gt 41, 3) := by decide +kernel
theorem dX6_word_53 : decode cX6_word 53 = .ok (.aload_n 0, 1) := by decide +kernel
theorem dX6_word_54 : decode cX6_word 54 = .ok (.aload_n 0, 1) := by decide +kernel
theorem dX6_word_55 : decode cX6_word 55 = .ok (.getfield 73, 3) := by decide +kernel
theorem dX6_word_58 : decode cX6_word 58 = .ok (.bipush 8, 2) := by decide +kernel
theorem dX6_word_60 : decode cX6_word 60 = .ok (.lshl, 1) := by decide +kernel
theorem dX6_word_61 : decode cX6_word 61 = .ok (.aload_n 0, 1) := by decide +kernel
theorem dX6_word_62 : decode cX6_word 62 = .ok (.getfield 9, 3) := by decide +kernel
theorem dX6_word_65 : decode cX6_word 65 = .ok (.aload_n 0, 1) := by decide +kernel
theorem dX6_word_66 : decode cX6_word 66 = .ok (.getfield 25, 3) := by decide +kernel
theorem dX6_word_69 : decode cX6_word 69 = .ok (.baload, 1) := by decide +kernel
theorem dX6_word_70 : decode cX6_word 70 = .ok (.i2l, 1) := by decide +kernel
theorem dX6_word_71 : decode cX6_word 71 = .ok (.lor, 1) := by decide +kernel
theorem dX6_word_72 : decode cX6_word 72 = .ok (.putfield 73, 3) := by decide +kernel
theorem dX6_word_75 : decode cX6_word 75 = .ok (.aload_n 0, 1) := by decide +kernel
theorem dX6_word_76 : decode cX6_word 76 = .ok (.dup, 1) := by decide +kernel
theorem dX6_word_77 : decode cX6_word 77 = .ok (.getfield 25, 3) := by decide +kernel
theorem dX6_word_80 : decode cX6_word 80 = .ok (.iconst 1, 1) := by decide +kernel
theorem dX6_word_81 : decode cX6_word 81 = .ok (.iadd, 1) := by decide +kernel
theorem dX6_word_82 : decode cX6_word 82 = .ok (.putfield 25, 3) := by decide +kernel
theorem dX6_word_85 : decode cX6_word 85 = .ok (.iinc 1 1, 3) := by decide +kernel
theorem dX6_word_88 : decode cX6_word 88 = .ok (.goto (-81), 3) := by decide +kernel
theorem dX6_word_91 : decode cX6_word 91 = .ok (.aload_n 0, 1) := by decide +kernel
theorem dX6_word_92 : decode cX6_word 92 = .ok (.aload_n 0, 1) := by decide +kernel
theorem dX6_word_93 : decode cX6_word 93 = .ok (.getfield 25, 3) := by decide +kernel
theorem dX6_word_96 : decode cX6_word 96 = .ok (.aload_n 0, 1) := by decide +kernel
theorem dX6_word_97 : decode cX6_word 97 = .ok (.getfield 266, 3) := by decide +kernel
theorem dX6_word_100 : decode cX6_word 100 = .ok (.isub, 1) := by decide +kernel
theorem dX6_word_101 : decode cX6_word 101 = .ok (.bipush 6, 2) := by decide +kernel
theorem dX6_word_103 : decode cX6_word 103 = .ok (.if_icmp .le 7, 3) := by decide +kernel
theorem dX6_word_106 : decode cX6_word 106 = .ok (.iconst 3, 1) := by decide +kernel
theorem dX6_word_107 : decode cX6_word 107 = .ok (.goto 4, 3) := by decide +kernel
theorem dX6_word_110 : decode cX6_word 110 = .ok (.iconst 1, 1) := by decide +kernel
theorem dX6_word_111 : decode cX6_word 111 = .ok (.putfield 43, 3) := by decide +kernel
theorem dX6_word_114 : decode cX6_word 114 = .ok (.iconst 0, 1) := by decide +kernel
theorem dX6_word_115 : decode cX6_word 115 = .ok (.istore_n 1, 1) := by decide +kernel
theorem dX6_word_116 : decode cX6_word 116 = .ok (.iload_n 1, 1) := by decide +kernel
theorem dX6_word_117 : decode cX6_word 117 = .ok (.getstatic 286, 3) := by decide +kernel
theorem dX6_word_120 : decode cX6_word 120 = .ok (.arraylength, 1) := by decide +kernel
theorem dX6_word_121 : decode cX6_word 121 = .ok (.if_icmp .ge 41, 3) := by decide +kernel
theorem dX6_word_124 : decode cX6_word 124 = .ok (.aload_n 0, 1) := by decide +kernel
theorem dX6_word_125 : decode cX6_word 125 = .ok (.getfield 43, 3) := by decide +kernel
theorem dX6_word_128 : decode cX6_word 128 = .ok (.iconst 1, 1) := by decide +kernel
theorem dX6_word_129 : decode cX6_word 129 = .ok (.if_icmp .ne 33, 3) := by decide +kernel
theorem dX6_word_132 : decode cX6_word 132 = .ok (.aload_n 0, 1) := by decide +kernel
theorem dX6_word_133 : decode cX6_word 133 = .ok (.getfield 73, 3) := by decide +kernel
theorem dX6_word_136 : decode cX6_word 136 = .ok (.getstatic 286, 3) := by decide +kernel
theorem dX6_word_139 : decode cX6_word 139 = .ok (.iload_n 1, 1) := by decide +kernel
theorem dX6_word_140 : decode cX6_word 140 = .ok (.laload, 1) := by decide +kernel
theorem dX6_word_141 : decode cX6_word 141 = .ok (.lcmp, 1) := by decide +kernel
theorem dX6_word_142 : decode cX6_word 142 = .ok (.ifCond .ne 14, 3) := by decide +kernel
theorem dX6_word_145 : decode cX6_word 145 = .ok (.aload_n 0, 1) := by decide +kernel
theorem dX6_word_146 : decode cX6_word 146 = .ok (.iconst 2, 1) := by decide +kernel
theorem dX6_word_147 : decode cX6_word 147 = .ok (.putfield 43, 3) := by decide +kernel
theorem dX6_word_150 : decode cX6_word 150 = .ok (.aload_n 0, 1) := by decide +kernel
theorem dX6_word_151 : decode cX6_word 151 = .ok (.iload_n 1, 1) := by decide +kernel
theorem dX6_word_152 : decode cX6_word 152 = .ok (.i2l, 1) := by decide +kernel
theorem dX6_word_153 : decode cX6_word 153 = .ok (.putfield 73, 3) := by decide +kernel
theorem dX6_word_156 : decode cX6_word 156 = .ok (.iinc 1 1, 3) := by decide +kernel
theorem dX6_word_159 : decode cX6_word 159 = .ok (.goto (-43), 3) := by decide +kernel
theorem dX6_word_162 : decode cX6_word 162 = .ok (.return_, 1) := by decide +kernel
set_option maxRecDepth 20000 in
theorem a_X6_word_162 {Q : Sg → Unit → Prop} {X : Sg → String → Prop} {th : Nat} (K : MD l R p s m args c cX6_word 2 RX6 D cA tys A n0 s0 0 0 []) (hQ : CQV p l e R s m args below meth c cX6_word D cA A n0 s0 QM σi Q) (hX : CX p l e R s m args below meth c 2 D cA A n0 s0 QM σi X) (hTh : CT p l e R s m args below meth c cX6_word 2 D cA A n0 s0 QM σi RX6 X) : ∀ (σ : Sg), w_X6_word_162 th Q X σ → RG σ → TY σ → Ext σi σ → kO σ th 6 → JJ p l e R s m args below meth c 2 D cA A n0 s0 QM σ 162 [(0, .ref th)] [] := by
  intro σ h hGσ hYσ hE hth H locs ls hH hl hc
  have B := K.1
  have hl9 := K.2.2.2.2.2.2
  unfold w_X6_word_162 at h
  exact hQ _ _ _ _ _ dX6_word_162 hH hc h hGσ hYσ hE
set_option maxRecDepth 20000 in
theorem a_X6_word_156 {Q : Sg → Unit → Prop} {X : Sg → String → Prop} {th : Nat} (K : MD l R p s m args c cX6_word 2 RX6 D cA tys A n0 s0 0 0 []) (hQ : CQV p l e R s m args below meth c cX6_word D cA A n0 s0 QM σi Q) (hX : CX p l e R s m args below meth c 2 D cA A n0 s0 QM σi X) (hTh : CT p l e R s m args below meth c cX6_word 2 D cA A n0 s0 QM σi RX6 X) {K116 : Sg → Int → Prop} (hK116 : ∀ (σ : Sg) (v1 : Int) (g1 : rng v1), K116 σ v1 → RG σ → TY σ → Ext σi σ → kO σ th 6 → JJ p l e R s m args below meth c 2 D cA A n0 s0 QM σ 116 [(0, .ref th), (1, .int (i32 v1))] []) : ∀ (σ : Sg) (v1 : Int) (g1 : rng v1), w_X6_word_156 th K116 Q X σ v1 → RG σ → TY σ → Ext σi σ → kO σ th 6 → JJ p l e R s m args below meth c 2 D cA A n0 s0 QM σ 156 [(0, .ref th), (1, .int (i32 v1))] [] := by
  intro σ v1 g1 h hGσ hYσ hE hth H locs ls hH hl hc
  have B := K.1
  have hl9 := K.2.2.2.2.2.2
  unfold w_X6_word_156 at h
  obtain ⟨q1, h⟩ := h
  refine lv_iinc (k := 1) (v := i32 (v1 + 1)) (lv' := [(1, .int (i32 (v1 + 1))), (0, .ref th)]) B.1 B.2.1 dX6_word_156 hl rfl (i32_add _ _) (by decide) rfl (fun ls hl => ?_)
  refine lv_goto (tgt := 116) B.1 B.2.1 dX6_word_159 (by decide) ?_
  exact hK116 _ _ q1 h hGσ hYσ hE hth _ _ _ hH (lv_sub (l' := [(0, .ref th), (1, .int (i32 (v1 + 1)))]) hl [1, 0] rfl) hc
set_option maxRecDepth 20000 in
theorem a_X6_word_145 {Q : Sg → Unit → Prop} {X : Sg → String → Prop} {th : Nat} (K : MD l R p s m args c cX6_word 2 RX6 D cA tys A n0 s0 0 0 []) (hQ : CQV p l e R s m args below meth c cX6_word D cA A n0 s0 QM σi Q) (hX : CX p l e R s m args below meth c 2 D cA A n0 s0 QM σi X) (hTh : CT p l e R s m args below meth c cX6_word 2 D cA A n0 s0 QM σi RX6 X) {K116 : Sg → Int → Prop} (hK116 : ∀ (σ : Sg) (v1 : Int) (g1 : rng v1), K116 σ v1 → RG σ → TY σ → Ext σi σ → kO σ th 6 → JJ p l e R s m args below meth c 2 D cA A n0 s0 QM σ 116 [(0, .ref th), (1, .int (i32 v1))] []) : ∀ (σ : Sg) (v1 : Int) (g1 : rng v1), w_X6_word_145 th K116 Q X σ v1 → RG σ → TY σ → Ext σi σ → kO σ th 6 → JJ p l e R s m args below meth c 2 D cA A n0 s0 QM σ 145 [(0, .ref th), (1, .int (i32 v1))] [] := by
  intro σ v1 g1 h hGσ hYσ hE hth H locs ls hH hl hc
  have B := K.1
  have hl9 := K.2.2.2.2.2.2
  unfold w_X6_word_145 at h
  refine lv_aload_n B.1 B.2.1 dX6_word_145 rfl (lv_at hl 0 rfl) ?_
  refine lv_iconst (v := i32 2) B.1 B.2.1 dX6_word_146 (by decide) ?_
  obtain ⟨σ21, eσ21⟩ : ∃ z, z = pI σ th 3 2 := ⟨_, rfl⟩
  have h := h σ21 eσ21
  refine f_puti B hH hth (by decide) rfl wu_X6 tyX6 tyX6_ok nmX6 3 (by decide) wf_X6_43 rfl (ty := .int) rfl rfl rfl rfl rfl dX6_word_147 (fun H locs hH => ?_)
  have hH : Hd D cA A s (pI σ th 3 2) H locs := hH
  rw [← eσ21] at hH
  have hGσ21 : RG σ21 := by rw [eσ21]; exact hGσ.pI (by unfold rng; omega)
  have hYσ21 : TY σ21 := by rw [eσ21]; exact hYσ.pI
  have xσ21 : Ext σ σ21 := by rw [eσ21]; exact Ext.pI
  have hc : CB n0 s0 σ21 := by rw [eσ21]; exact hc
  rw [show gc σ = gc σ21 by rw [eσ21]; try rfl, show gs σ = gs σ21 by rw [eσ21]; try rfl]
  refine lv_aload_n B.1 B.2.1 dX6_word_150 rfl (lv_at hl 0 rfl) ?_
  refine lv_iload_n B.1 B.2.1 dX6_word_151 rfl (lv_at hl 1 rfl) ?_
  refine lv_i2l B.1 B.2.1 dX6_word_152 (i32_i64 g1) ?_
  obtain ⟨σ22, eσ22⟩ : ∃ z, z = pJ σ21 th 4 (Int64.ofInt v1) := ⟨_, rfl⟩
  have h := h σ22 eσ22
  refine f_putl B hH (hth.up xσ21) (by decide) rfl wu_X6 tyX6 tyX6_ok nmX6 4 (by decide) wf_X6_73 rfl (ty := .long) rfl rfl rfl rfl rfl dX6_word_153 (fun H locs hH => ?_)
  have hH : Hd D cA A s (pJ σ21 th 4 (Int64.ofInt v1)) H locs := hH
  rw [← eσ22] at hH
  have hGσ22 : RG σ22 := by rw [eσ22]; exact hGσ21.pJ
  have hYσ22 : TY σ22 := by rw [eσ22]; exact hYσ21.pJ
  have xσ22 : Ext σ21 σ22 := by rw [eσ22]; exact Ext.pJ
  have hc : CB n0 s0 σ22 := by rw [eσ22]; exact hc
  rw [show gc σ21 = gc σ22 by rw [eσ22]; try rfl, show gs σ21 = gs σ22 by rw [eσ22]; try rfl]
  exact a_X6_word_156 K hQ hX hTh hK116 _ _ g1 h hGσ22 hYσ22 ((hE.trans xσ21).trans xσ22) (hth.up (xσ21.trans xσ22)) _ _ _ hH (lv_sub (l' := [(0, .ref th), (1, .int (i32 v1))]) hl [0, 1] rfl) hc
set_option maxRecDepth 20000 in
theorem a_X6_word_132 {Q : Sg → Unit → Prop} {X : Sg → String → Prop} {th : Nat} (K : MD l R p s m args c cX6_word 2 RX6 D cA tys A n0 s0 0 0 []) (hQ : CQV p l e R s m args below meth c cX6_word D cA A n0 s0 QM σi Q) (hX : CX p l e R s m args below meth c 2 D cA A n0 s0 QM σi X) (hTh : CT p l e R s m args below meth c cX6_word 2 D cA A n0 s0 QM σi RX6 X) {K116 : Sg → Int → Prop} (hK116 : ∀ (σ : Sg) (v1 : Int) (g1 : rng v1), K116 σ v1 → RG σ → TY σ → Ext σi σ → kO σ th 6 → JJ p l e R s m args below meth c 2 D cA A n0 s0 QM σ 116 [(0, .ref th), (1, .int (i32 v1))] []) : ∀ (σ : Sg) (v1 : Int) (g1 : rng v1), w_X6_word_132 th K116 Q X σ v1 → RG σ → TY σ → Ext σi σ → kO σ th 6 → JJ p l e R s m args below meth c 2 D cA A n0 s0 QM σ 132 [(0, .ref th), (1, .int (i32 v1))] [] := by
  intro σ v1 g1 h hGσ hYσ hE hth H locs ls hH hl hc
  have B := K.1
  have hl9 := K.2.2.2.2.2.2
  unfold w_X6_word_132 at h
  refine lv_aload_n B.1 B.2.1 dX6_word_132 rfl (lv_at hl 0 rfl) ?_
  refine f_getl B hH hth (by decide) rfl wu_X6 4 (by decide) wf_X6_73 rfl rfl dX6_word_133 ?_
  refine va_gets (v := .ref (cA 3000)) B.1 B.2.1 B.2.2.2.2.2.2.2.2.2.2.2.2.2.1 hH.2.2 B.2.2.1 (B.2.2.2.1 _ wf_X6_286) (fun _ h9 => h9) dX6_word_136 ?_
  refine lv_iload_n B.1 B.2.1 dX6_word_139 rfl (lv_at hl 1 rfl) ?_
  obtain ⟨q1, h⟩ := h
  refine k_ald B hH q1 dX6_word_140 (fun k23 => ?_)
  have h := h k23
  refine W.lcmp B.1 B.2.1 dX6_word_141 ?_
  refine lv_if_ne (tgt := 156) B.1 B.2.1 dX6_word_142 (by decide) (fun h9 => ?_) (fun h9 => ?_)
  · rw [if_pos (fun q => h9 ((lg_cmp_eq _ _).mpr q))] at h
    exact a_X6_word_156 K hQ hX hTh hK116 _ _ g1 h hGσ hYσ hE hth _ _ _ hH (lv_sub (l' := [(0, .ref th), (1, .int (i32 v1))]) hl [0, 1] rfl) hc
  · rw [if_neg (fun q => q ((lg_cmp_eq _ _).mp h9))] at h
    exact a_X6_word_145 K hQ hX hTh hK116 _ _ g1 h hGσ hYσ hE hth _ _ _ hH (lv_sub (l' := [(0, .ref th), (1, .int (i32 v1))]) hl [0, 1] rfl) hc
set_option maxRecDepth 20000 in
theorem a_X6_word_124 {Q : Sg → Unit → Prop} {X : Sg → String → Prop} {th : Nat} (K : MD l R p s m args c cX6_word 2 RX6 D cA tys A n0 s0 0 0 []) (hQ : CQV p l e R s m args below meth c cX6_word D cA A n0 s0 QM σi Q) (hX : CX p l e R s m args below meth c 2 D cA A n0 s0 QM σi X) (hTh : CT p l e R s m args below meth c cX6_word 2 D cA A n0 s0 QM σi RX6 X) {K116 : Sg → Int → Prop} (hK116 : ∀ (σ : Sg) (v1 : Int) (g1 : rng v1), K116 σ v1 → RG σ → TY σ → Ext σi σ → kO σ th 6 → JJ p l e R s m args below meth c 2 D cA A n0 s0 QM σ 116 [(0, .ref th), (1, .int (i32 v1))] []) : ∀ (σ : Sg) (v1 : Int) (g1 : rng v1), w_X6_word_124 th K116 Q X σ v1 → RG σ → TY σ → Ext σi σ → kO σ th 6 → JJ p l e R s m args below meth c 2 D cA A n0 s0 QM σ 124 [(0, .ref th), (1, .int (i32 v1))] [] := by
  intro σ v1 g1 h hGσ hYσ hE hth H locs ls hH hl hc
  have B := K.1
  have hl9 := K.2.2.2.2.2.2
  unfold w_X6_word_124 at h
  refine lv_aload_n B.1 B.2.1 dX6_word_124 rfl (lv_at hl 0 rfl) ?_
  refine f_geti B hH hth (by decide) rfl wu_X6 3 (by decide) wf_X6_43 rfl rfl dX6_word_125 ?_
  refine lv_iconst (v := i32 1) B.1 B.2.1 dX6_word_128 (by decide) ?_
  refine lv_icmp_ne (tgt := 162) B.1 B.2.1 dX6_word_129 (by decide) (fun h9 => ?_) (fun h9 => ?_)
  · rw [if_pos (fun q => h9 ((i32_eq (hGσ _ _) (by unfold rng; omega)).mpr q))] at h
    exact a_X6_word_162 K hQ hX hTh _ h hGσ hYσ hE hth _ _ _ hH (lv_sub (l' := [(0, .ref th)]) hl [0] rfl) hc
  · rw [if_neg (fun q => q ((i32_eq (hGσ _ _) (by unfold rng; omega)).mp h9))] at h
    exact a_X6_word_132 K hQ hX hTh hK116 _ _ g1 h hGσ hYσ hE hth _ _ _ hH (lv_sub (l' := [(0, .ref th), (1, .int (i32 v1))]) hl [0, 1] rfl) hc
set_option maxRecDepth 20000 in
theorem a_X6_word_116 {Q : Sg → Unit → Prop} {X : Sg → String → Prop} {th : Nat} (K : MD l R p s m args c cX6_word 2 RX6 D cA tys A n0 s0 0 0 []) (hQ : CQV p l e R s m args below meth c cX6_word D cA A n0 s0 QM σi Q) (hX : CX p l e R s m args below meth c 2 D cA A n0 s0 QM σi X) (hTh : CT p l e R s m args below meth c cX6_word 2 D cA A n0 s0 QM σi RX6 X) {K116 : Sg → Int → Prop} (hK116 : ∀ (σ : Sg) (v1 : Int) (g1 : rng v1), K116 σ v1 → RG σ → TY σ → Ext σi σ → kO σ th 6 → JJ p l e R s m args below meth c 2 D cA A n0 s0 QM σ 116 [(0, .ref th), (1, .int (i32 v1))] []) : ∀ (σ : Sg) (v1 : Int) (g1 : rng v1), w_X6_word_116 th K116 Q X σ v1 → RG σ → TY σ → Ext σi σ → kO σ th 6 → JJ p l e R s m args below meth c 2 D cA A n0 s0 QM σ 116 [(0, .ref th), (1, .int (i32 v1))] [] := by
  intro σ v1 g1 h hGσ hYσ hE hth H locs ls hH hl hc
  have B := K.1
  have hl9 := K.2.2.2.2.2.2
  unfold w_X6_word_116 at h
  refine lv_iload_n B.1 B.2.1 dX6_word_116 rfl (lv_at hl 1 rfl) ?_
  refine va_gets (v := .ref (cA 3000)) B.1 B.2.1 B.2.2.2.2.2.2.2.2.2.2.2.2.2.1 hH.2.2 B.2.2.1 (B.2.2.2.1 _ wf_X6_286) (fun _ h9 => h9) dX6_word_117 ?_
  refine k_len B hH dX6_word_120 ?_
  refine lv_icmp_ge (tgt := 162) B.1 B.2.1 dX6_word_121 (by decide) (fun h9 => ?_) (fun h9 => ?_)
  · rw [if_pos ((i32_le (by unfold rng; omega) g1).mp h9)] at h
    exact a_X6_word_162 K hQ hX hTh _ h hGσ hYσ hE hth _ _ _ hH (lv_sub (l' := [(0, .ref th)]) hl [0] rfl) hc
  · rw [if_neg (fun q => h9 ((i32_le (by unfold rng; omega) g1).mpr q))] at h
    exact a_X6_word_124 K hQ hX hTh hK116 _ _ g1 h hGσ hYσ hE hth _ _ _ hH (lv_sub (l' := [(0, .ref th), (1, .int (i32 v1))]) hl [0, 1] rfl) hc
theorem al_X6_word_116 {Q : Sg → Unit → Prop} {X : Sg → String → Prop} {th : Nat} (K : MD l R p s m args c cX6_word 2 RX6 D cA tys A n0 s0 0 0 []) (hQ : CQV p l e R s m args below meth c cX6_word D cA A n0 s0 QM σi Q) (hX : CX p l e R s m args below meth c 2 D cA A n0 s0 QM σi X) (hTh : CT p l e R s m args below meth c cX6_word 2 D cA A n0 s0 QM σi RX6 X) : ∀ (n : Nat), ∀ (σ : Sg) (v1 : Int) (g1 : rng v1), wl_X6_word_116 th Q X n σ v1 → RG σ → TY σ → Ext σi σ → kO σ th 6 → JJ p l e R s m args below meth c 2 D cA A n0 s0 QM σ 116 [(0, .ref th), (1, .int (i32 v1))] [] := by
  intro n
  induction n with
  | zero => intro σ v1 g1 h; exact h.elim
  | succ n ih => exact fun σ v1 g1 h => a_X6_word_116 K hQ hX hTh ih σ v1 g1 h
set_option maxRecDepth 20000 in
theorem a_X6_word_111 {Q : Sg → Unit → Prop} {X : Sg → String → Prop} {th : Nat} (K : MD l R p s m args c cX6_word 2 RX6 D cA tys A n0 s0 0 0 []) (hQ : CQV p l e R s m args below meth c cX6_word D cA A n0 s0 QM σi Q) (hX : CX p l e R s m args below meth c 2 D cA A n0 s0 QM σi X) (hTh : CT p l e R s m args below meth c cX6_word 2 D cA A n0 s0 QM σi RX6 X) : ∀ (σ : Sg) (u0 : Int) (gu0 : rng u0), w_X6_word_111 th Q X σ u0 → RG σ → TY σ → Ext σi σ → kO σ th 6 → JJ p l e R s m args below meth c 2 D cA A n0 s0 QM σ 111 [(0, .ref th)] [.int (i32 u0), .ref th] := by
  intro σ u0 gu0 h hGσ hYσ hE hth H locs ls hH hl hc
  have B := K.1
  have hl9 := K.2.2.2.2.2.2
  unfold w_X6_word_111 at h
  obtain ⟨σ24, eσ24⟩ : ∃ z, z = pI σ th 3 u0 := ⟨_, rfl⟩
  have h := h σ24 eσ24
  refine f_puti B hH hth (by decide) rfl wu_X6 tyX6 tyX6_ok nmX6 3 (by decide) wf_X6_43 rfl (ty := .int) rfl rfl rfl rfl rfl dX6_word_111 (fun H locs hH => ?_)
  have hH : Hd D cA A s (pI σ th 3 u0) H locs := hH
  rw [← eσ24] at hH
  have hGσ24 : RG σ24 := by rw [eσ24]; exact hGσ.pI gu0
  have hYσ24 : TY σ24 := by rw [eσ24]; exact hYσ.pI
  have xσ24 : Ext σ σ24 := by rw [eσ24]; exact Ext.pI
  have hc : CB n0 s0 σ24 := by rw [eσ24]; exact hc
  rw [show gc σ = gc σ24 by rw [eσ24]; try rfl, show gs σ = gs σ24 by rw [eσ24]; try rfl]
  refine lv_iconst (v := i32 0) B.1 B.2.1 dX6_word_114 (by decide) ?_
  refine lv_istore_n (lv' := [(1, .int (i32 0)), (0, .ref th)]) B.1 B.2.1 dX6_word_115 rfl hl (by decide) rfl (fun ls hl => ?_)
  obtain ⟨n9, h⟩ := h
  exact al_X6_word_116 K hQ hX hTh n9 _ _ (by unfold rng; omega) h hGσ24 hYσ24 (hE.trans xσ24) (hth.up xσ24) _ _ _ hH (lv_sub (l' := [(0, .ref th), (1, .int (i32 0))]) hl [1, 0] rfl) hc
set_option maxRecDepth 20000 in
theorem a_X6_word_110 {Q : Sg → Unit → Prop} {X : Sg → String → Prop} {th : Nat} (K : MD l R p s m args c cX6_word 2 RX6 D cA tys A n0 s0 0 0 []) (hQ : CQV p l e R s m args below meth c cX6_word D cA A n0 s0 QM σi Q) (hX : CX p l e R s m args below meth c 2 D cA A n0 s0 QM σi X) (hTh : CT p l e R s m args below meth c cX6_word 2 D cA A n0 s0 QM σi RX6 X) : ∀ (σ : Sg), w_X6_word_110 th Q X σ → RG σ → TY σ → Ext σi σ → kO σ th 6 → JJ p l e R s m args below meth c 2 D cA A n0 s0 QM σ 110 [(0, .ref th)] [.ref th] := by
  intro σ h hGσ hYσ hE hth H locs ls hH hl hc
  have B := K.1
  have hl9 := K.2.2.2.2.2.2
  unfold w_X6_word_110 at h
  refine lv_iconst (v := i32 1) B.1 B.2.1 dX6_word_110 (by decide) ?_
  exact a_X6_word_111 K hQ hX hTh _ _ (by unfold rng; omega) h hGσ hYσ hE hth _ _ _ hH (lv_sub (l' := [(0, .ref th)]) hl [0] rfl) hc
set_option maxRecDepth 20000 in
theorem a_X6_word_106 {Q : Sg → Unit → Prop} {X : Sg → String → Prop} {th : Nat} (K : MD l R p s m args c cX6_word 2 RX6 D cA tys A n0 s0 0 0 []) (hQ : CQV p l e R s m args below meth c cX6_word D cA A n0 s0 QM σi Q) (hX : CX p l e R s m args below meth c 2 D cA A n0 s0 QM σi X) (hTh : CT p l e R s m args below meth c cX6_word 2 D cA A n0 s0 QM σi RX6 X) : ∀ (σ : Sg), w_X6_word_106 th Q X σ → RG σ → TY σ → Ext σi σ → kO σ th 6 → JJ p l e R s m args below meth c 2 D cA A n0 s0 QM σ 106 [(0, .ref th)] [.ref th] := by
  intro σ h hGσ hYσ hE hth H locs ls hH hl hc
  have B := K.1
  have hl9 := K.2.2.2.2.2.2
  unfold w_X6_word_106 at h
  refine lv_iconst (v := i32 3) B.1 B.2.1 dX6_word_106 (by decide) ?_
  refine lv_goto (tgt := 111) B.1 B.2.1 dX6_word_107 (by decide) ?_
  exact a_X6_word_111 K hQ hX hTh _ _ (by unfold rng; omega) h hGσ hYσ hE hth _ _ _ hH (lv_sub (l' := [(0, .ref th)]) hl [0] rfl) hc
set_option maxRecDepth 20000 in
theorem a_X6_word_91 {Q : Sg → Unit → Prop} {X : Sg → String → Prop} {th : Nat} (K : MD l R p s m args c cX6_word 2 RX6 D cA tys A n0 s0 0 0 []) (hQ : CQV p l e R s m args below meth c cX6_word D cA A n0 s0 QM σi Q) (hX : CX p l e R s m args below meth c 2 D cA A n0 s0 QM σi X) (hTh : CT p l e R s m args below meth c cX6_word 2 D cA A n0 s0 QM σi RX6 X) : ∀ (σ : Sg), w_X6_word_91 th Q X σ → RG σ → TY σ → Ext σi σ → kO σ th 6 → JJ p l e R s m args below meth c 2 D cA A n0 s0 QM σ 91 [(0, .ref th)] [] := by
  intro σ h hGσ hYσ hE hth H locs ls hH hl hc
  have B := K.1
  have hl9 := K.2.2.2.2.2.2
  unfold w_X6_word_91 at h
  refine lv_aload_n B.1 B.2.1 dX6_word_91 rfl (lv_at hl 0 rfl) ?_
  refine lv_aload_n B.1 B.2.1 dX6_word_92 rfl (lv_at hl 0 rfl) ?_
  refine f_geti B hH hth (by decide) rfl wu_X6 2 (by decide) wf_X6_25 rfl rfl dX6_word_93 ?_
  refine lv_aload_n B.1 B.2.1 dX6_word_96 rfl (lv_at hl 0 rfl) ?_
  refine f_geti B hH hth (by decide) rfl wu_X6 5 (by decide) wf_X6_266 rfl rfl dX6_word_97 ?_
  obtain ⟨q1, h⟩ := h
  refine lv_isub B.1 B.2.1 dX6_word_100 ?_
  rw [i32_sub]
  refine lv_bipush (v := i32 6) B.1 B.2.1 dX6_word_101 (by decide) ?_
  refine lv_icmp_le (tgt := 110) B.1 B.2.1 dX6_word_103 (by decide) (fun h9 => ?_) (fun h9 => ?_)
  · rw [if_pos ((i32_le q1 (by unfold rng; omega)).mp h9)] at h
    exact a_X6_word_110 K hQ hX hTh _ h hGσ hYσ hE hth _ _ _ hH (lv_sub (l' := [(0, .ref th)]) hl [0] rfl) hc
  · rw [if_neg (fun q => h9 ((i32_le q1 (by unfold rng; omega)).mpr q))] at h
    exact a_X6_word_106 K hQ hX hTh _ h hGσ hYσ hE hth _ _ _ hH (lv_sub (l' := [(0, .ref th)]) hl [0] rfl) hc
set_option maxRecDepth 20000 in
theorem a_X6_word_53 {Q : Sg → Unit → Prop} {X : Sg → String → Prop} {th : Nat} (K : MD l R p s m args c cX6_word 2 RX6 D cA tys A n0 s0 0 0 []) (hQ : CQV p l e R s m args below meth c cX6_word D cA A n0 s0 QM σi Q) (hX : CX p l e R s m args below meth c 2 D cA A n0 s0 QM σi X) (hTh : CT p l e R s m args below meth c cX6_word 2 D cA A n0 s0 QM σi RX6 X) {K7 : Sg → Int → Prop} (hK7 : ∀ (σ : Sg) (v1 : Int) (g1 : rng v1), K7 σ v1 → RG σ → TY σ → Ext σi σ → kO σ th 6 → JJ p l e R s m args below meth c 2 D cA A n0 s0 QM σ 7 [(0, .ref th), (1, .int (i32 v1))] []) : ∀ (σ : Sg) (v1 : Int) (g1 : rng v1), w_X6_word_53 th K7 Q X σ v1 → RG σ → TY σ → Ext σi σ → kO σ th 6 → JJ p l e R s m args below meth c 2 D cA A n0 s0 QM σ 53 [(0, .ref th), (1, .int (i32 v1))] [] := by
  intro σ v1 g1 h hGσ hYσ hE hth H locs ls hH hl hc
  have B := K.1
  have hl9 := K.2.2.2.2.2.2
  unfold w_X6_word_53 at h
  refine lv_aload_n B.1 B.2.1 dX6_word_53 rfl (lv_at hl 0 rfl) ?_
  refine lv_aload_n B.1 B.2.1 dX6_word_54 rfl (lv_at hl 0 rfl) ?_
  refine f_getl B hH hth (by decide) rfl wu_X6 4 (by decide) wf_X6_73 rfl rfl dX6_word_55 ?_
  refine lv_bipush (v := i32 8) B.1 B.2.1 dX6_word_58 (by decide) ?_
  refine lv_lshl B.1 B.2.1 dX6_word_60 rfl ?_
  refine lv_aload_n B.1 B.2.1 dX6_word_61 rfl (lv_at hl 0 rfl) ?_
  refine f_getp B hH hth (by decide) rfl wu_X6 0 (by decide) wf_X6_9 rfl rfl dX6_word_62 ?_
  refine lv_aload_n B.1 B.2.1 dX6_word_65 rfl (lv_at hl 0 rfl) ?_
  refine f_geti B hH hth (by decide) rfl wu_X6 2 (by decide) wf_X6_25 rfl rfl dX6_word_66 ?_
  obtain ⟨a25, ea25, h⟩ := h
  have ka25 : kO σ a25 102 := (hYσ.get hth (by decide)) a25 ea25
  have h := h ka25
  obtain ⟨q1, h⟩ := h
  refine W.eq (g2 := F0 m 69 ls [.int (i32 (gI σ th 2)), .ref a25, .long (gJ σ th 4 <<< ((i32 8).toInt64 &&& 63)), .ref th]) (by rw [ea25]; rfl) ?_
  refine y_bald B K.2.1 hH ka25 q1 dX6_word_69 (hYσ.2 _) ?_
  refine lv_i2l B.1 B.2.1 dX6_word_70 (i32_i64 (hGσ _ _)) ?_
  refine lv_lor B.1 B.2.1 dX6_word_71 ?_
  obtain ⟨σ26, eσ26⟩ : ∃ z, z = pJ σ th 4 ((gJ σ th 4 <<< ((i32 8).toInt64 &&& 63)) ||| (Int64.ofInt (gI σ a25 (gI σ th 2).toNat))) := ⟨_, rfl⟩
  have h := h σ26 eσ26
  refine f_putl B hH hth (by decide) rfl wu_X6 tyX6 tyX6_ok nmX6 4 (by decide) wf_X6_73 rfl (ty := .long) rfl rfl rfl rfl rfl dX6_word_72 (fun H locs hH => ?_)
  have hH : Hd D cA A s (pJ σ th 4 ((gJ σ th 4 <<< ((i32 8).toInt64 &&& 63)) ||| (Int64.ofInt (gI σ a25 (gI σ th 2).toNat)))) H locs := hH
  rw [← eσ26] at hH
  have hGσ26 : RG σ26 := by rw [eσ26]; exact hGσ.pJ
  have hYσ26 : TY σ26 := by rw [eσ26]; exact hYσ.pJ
  have xσ26 : Ext σ σ26 := by rw [eσ26]; exact Ext.pJ
  have hc : CB n0 s0 σ26 := by rw [eσ26]; exact hc
  rw [show gc σ = gc σ26 by rw [eσ26]; try rfl, show gs σ = gs σ26 by rw [eσ26]; try rfl]
  refine lv_aload_n B.1 B.2.1 dX6_word_75 rfl (lv_at hl 0 rfl) ?_
  refine lv_dup B.1 B.2.1 dX6_word_76 rfl ?_
  refine f_geti B hH (hth.up xσ26) (by decide) rfl wu_X6 2 (by decide) wf_X6_25 rfl rfl dX6_word_77 ?_
  refine lv_iconst (v := i32 1) B.1 B.2.1 dX6_word_80 (by decide) ?_
  obtain ⟨q2, h⟩ := h
  refine lv_iadd B.1 B.2.1 dX6_word_81 ?_
  rw [i32_add]
  obtain ⟨σ27, eσ27⟩ : ∃ z, z = pI σ26 th 2 (gI σ26 th 2 + 1) := ⟨_, rfl⟩
  have h := h σ27 eσ27
  refine f_puti B hH (hth.up xσ26) (by decide) rfl wu_X6 tyX6 tyX6_ok nmX6 2 (by decide) wf_X6_25 rfl (ty := .int) rfl rfl rfl rfl rfl dX6_word_82 (fun H locs hH => ?_)
  have hH : Hd D cA A s (pI σ26 th 2 (gI σ26 th 2 + 1)) H locs := hH
  rw [← eσ27] at hH
  have hGσ27 : RG σ27 := by rw [eσ27]; exact hGσ26.pI q2
  have hYσ27 : TY σ27 := by rw [eσ27]; exact hYσ26.pI
  have xσ27 : Ext σ26 σ27 := by rw [eσ27]; exact Ext.pI
  have hc : CB n0 s0 σ27 := by rw [eσ27]; exact hc
  rw [show gc σ26 = gc σ27 by rw [eσ27]; try rfl, show gs σ26 = gs σ27 by rw [eσ27]; try rfl]
  obtain ⟨q3, h⟩ := h
  refine lv_iinc (k := 1) (v := i32 (v1 + 1)) (lv' := [(1, .int (i32 (v1 + 1))), (0, .ref th)]) B.1 B.2.1 dX6_word_85 hl rfl (i32_add _ _) (by decide) rfl (fun ls hl => ?_)
  refine lv_goto (tgt := 7) B.1 B.2.1 dX6_word_88 (by decide) ?_
  exact hK7 _ _ q3 h hGσ27 hYσ27 ((hE.trans xσ26).trans xσ27) (hth.up (xσ26.trans xσ27)) _ _ _ hH (lv_sub (l' := [(0, .ref th), (1, .int (i32 (v1 + 1)))]) hl [1, 0] rfl) hc
set_option maxRecDepth 20000 in
theorem a_X6_word_39 {Q : Sg → Unit → Prop} {X : Sg → String → Prop} {th : Nat} (K : MD l R p s m args c cX6_word 2 RX6 D cA tys A n0 s0 0 0 []) (hQ : CQV p l e R s m args below meth c cX6_word D cA A n0 s0 QM σi Q) (hX : CX p l e R s m args below meth c 2 D cA A n0 s0 QM σi X) (hTh : CT p l e R s m args below meth c cX6_word 2 D cA A n0 s0 QM σi RX6 X) {K7 : Sg → Int → Prop} (hK7 : ∀ (σ : Sg) (v1 : Int) (g1 : rng v1), K7 σ v1 → RG σ → TY σ → Ext σi σ → kO σ th 6 → JJ p l e R s m args below meth c 2 D cA A n0 s0 QM σ 7 [(0, .ref th), (1, .int (i32 v1))] []) : ∀ (σ : Sg) (v1 : Int) (g1 : rng v1), w_X6_word_39 th K7 Q X σ v1 → RG σ → TY σ → Ext σi σ → kO σ th 6 → JJ p l e R s m args below meth c 2 D cA A n0 s0 QM σ 39 [(0, .ref th), (1, .int (i32 v1))] [] := by
  intro σ v1 g1 h hGσ hYσ hE hth H locs ls hH hl hc
  have B := K.1
  have hl9 := K.2.2.2.2.2.2
  unfold w_X6_word_39 at h
  refine lv_aload_n B.1 B.2.1 dX6_word_39 rfl (lv_at hl 0 rfl) ?_
  refine f_getp B hH hth (by decide) rfl wu_X6 0 (by decide) wf_X6_9 rfl rfl dX6_word_40 ?_
  refine lv_aload_n B.1 B.2.1 dX6_word_43 rfl (lv_at hl 0 rfl) ?_
  refine f_geti B hH hth (by decide) rfl wu_X6 2 (by decide) wf_X6_25 rfl rfl dX6_word_44 ?_
  obtain ⟨a28, ea28, h⟩ := h
  have ka28 : kO σ a28 102 := (hYσ.get hth (by decide)) a28 ea28
  have h := h ka28
  obtain ⟨q1, h⟩ := h
  refine W.eq (g2 := F0 m 47 ls [.int (i32 (gI σ th 2)), .ref a28]) (by rw [ea28]; rfl) ?_
  refine y_bald B K.2.1 hH ka28 q1 dX6_word_47 (hYσ.2 _) ?_
  refine lv_bipush (v := i32 122) B.1 B.2.1 dX6_word_48 (by decide) ?_
  refine lv_icmp_gt (tgt := 91) B.1 B.2.1 dX6_word_50 (by decide) (fun h9 => ?_) (fun h9 => ?_)
  · rw [if_pos ((i32_lt (by unfold rng; omega) (hGσ _ _)).mp h9)] at h
    exact a_X6_word_91 K hQ hX hTh _ h hGσ hYσ hE hth _ _ _ hH (lv_sub (l' := [(0, .ref th)]) hl [0] rfl) hc
  · rw [if_neg (fun q => h9 ((i32_lt (by unfold rng; omega) (hGσ _ _)).mpr q))] at h
    exact a_X6_word_53 K hQ hX hTh hK7 _ _ g1 h hGσ hYσ hE hth _ _ _ hH (lv_sub (l' := [(0, .ref th), (1, .int (i32 v1))]) hl [0, 1] rfl) hc
set_option maxRecDepth 20000 in
theorem a_X6_word_25 {Q : Sg → Unit → Prop} {X : Sg → String → Prop} {th : Nat} (K : MD l R p s m args c cX6_word 2 RX6 D cA tys A n0 s0 0 0 []) (hQ : CQV p l e R s m args below meth c cX6_word D cA A n0 s0 QM σi Q) (hX : CX p l e R s m args below meth c 2 D cA A n0 s0 QM σi X) (hTh : CT p l e R s m args below meth c cX6_word 2 D cA A n0 s0 QM σi RX6 X) {K7 : Sg → Int → Prop} (hK7 : ∀ (σ : Sg) (v1 : Int) (g1 : rng v1), K7 σ v1 → RG σ → TY σ → Ext σi σ → kO σ th 6 → JJ p l e R s m args below meth c 2 D cA A n0 s0 QM σ 7 [(0, .ref th), (1, .int (i32 v1))] []) : ∀ (σ : Sg) (v1 : Int) (g1 : rng v1), w_X6_word_25 th K7 Q X σ v1 → RG σ → TY σ → Ext σi σ → kO σ th 6 → JJ p l e R s m args below meth c 2 D cA A n0 s0 QM σ 25 [(0, .ref th), (1, .int (i32 v1))] [] := by
  intro σ v1 g1 h hGσ hYσ hE hth H locs ls hH hl hc
  have B := K.1
  have hl9 := K.2.2.2.2.2.2
  unfold w_X6_word_25 at h
  refine lv_aload_n B.1 B.2.1 dX6_word_25 rfl (lv_at hl 0 rfl) ?_
  refine f_getp B hH hth (by decide) rfl wu_X6 0 (by decide) wf_X6_9 rfl rfl dX6_word_26 ?_
  refine lv_aload_n B.1 B.2.1 dX6_word_29 rfl (lv_at hl 0 rfl) ?_
  refine f_geti B hH hth (by decide) rfl wu_X6 2 (by decide) wf_X6_25 rfl rfl dX6_word_30 ?_
  obtain ⟨a29, ea29, h⟩ := h
  have ka29 : kO σ a29 102 := (hYσ.get hth (by decide)) a29 ea29
  have h := h ka29
  obtain ⟨q1, h⟩ := h
  refine W.eq (g2 := F0 m 33 ls [.int (i32 (gI σ th 2)), .ref a29]) (by rw [ea29]; rfl) ?_
  refine y_bald B K.2.1 hH ka29 q1 dX6_word_33 (hYσ.2 _) ?_
  refine lv_bipush (v := i32 97) B.1 B.2.1 dX6_word_34 (by decide) ?_
  refine lv_icmp_lt (tgt := 91) B.1 B.2.1 dX6_word_36 (by decide) (fun h9 => ?_) (fun h9 => ?_)
  · rw [if_pos ((i32_lt (hGσ _ _) (by unfold rng; omega)).mp h9)] at h
    exact a_X6_word_91 K hQ hX hTh _ h hGσ hYσ hE hth _ _ _ hH (lv_sub (l' := [(0, .ref th)]) hl [0] rfl) hc
  · rw [if_neg (fun q => h9 ((i32_lt (hGσ _ _) (by unfold rng; omega)).mpr q))] at h
    exact a_X6_word_39 K hQ hX hTh hK7 _ _ g1 h hGσ hYσ hE hth _ _ _ hH (lv_sub (l' := [(0, .ref th), (1, .int (i32 v1))]) hl [0, 1] rfl) hc
set_option maxRecDepth 20000 in
theorem a_X6_word_14 {Q : Sg → Unit → Prop} {X : Sg → String → Prop} {th : Nat} (K : MD l R p s m args c cX6_word 2 RX6 D cA tys A n0 s0 0 0 []) (hQ : CQV p l e R s m args below meth c cX6_word D cA A n0 s0 QM σi Q) (hX : CX p l e R s m args below meth c 2 D cA A n0 s0 QM σi X) (hTh : CT p l e R s m args below meth c cX6_word 2 D cA A n0 s0 QM σi RX6 X) {K7 : Sg → Int → Prop} (hK7 : ∀ (σ : Sg) (v1 : Int) (g1 : rng v1), K7 σ v1 → RG σ → TY σ → Ext σi σ → kO σ th 6 → JJ p l e R s m args below meth c 2 D cA A n0 s0 QM σ 7 [(0, .ref th), (1, .int (i32 v1))] []) : ∀ (σ : Sg) (v1 : Int) (g1 : rng v1), w_X6_word_14 th K7 Q X σ v1 → RG σ → TY σ → Ext σi σ → kO σ th 6 → JJ p l e R s m args below meth c 2 D cA A n0 s0 QM σ 14 [(0, .ref th), (1, .int (i32 v1))] [] := by
  intro σ v1 g1 h hGσ hYσ hE hth H locs ls hH hl hc
  have B := K.1
  have hl9 := K.2.2.2.2.2.2
  unfold w_X6_word_14 at h
  refine lv_aload_n B.1 B.2.1 dX6_word_14 rfl (lv_at hl 0 rfl) ?_
  refine f_geti B hH hth (by decide) rfl wu_X6 2 (by decide) wf_X6_25 rfl rfl dX6_word_15 ?_
  refine lv_aload_n B.1 B.2.1 dX6_word_18 rfl (lv_at hl 0 rfl) ?_
  refine f_geti B hH hth (by decide) rfl wu_X6 1 (by decide) wf_X6_21 rfl rfl dX6_word_19 ?_
  refine lv_icmp_ge (tgt := 91) B.1 B.2.1 dX6_word_22 (by decide) (fun h9 => ?_) (fun h9 => ?_)
  · rw [if_pos ((i32_le (hGσ _ _) (hGσ _ _)).mp h9)] at h
    exact a_X6_word_91 K hQ hX hTh _ h hGσ hYσ hE hth _ _ _ hH (lv_sub (l' := [(0, .ref th)]) hl [0] rfl) hc
  · rw [if_neg (fun q => h9 ((i32_le (hGσ _ _) (hGσ _ _)).mpr q))] at h
    exact a_X6_word_25 K hQ hX hTh hK7 _ _ g1 h hGσ hYσ hE hth _ _ _ hH (lv_sub (l' := [(0, .ref th), (1, .int (i32 v1))]) hl [0, 1] rfl) hc
set_option maxRecDepth 20000 in
theorem a_X6_word_7 {Q : Sg → Unit → Prop} {X : Sg → String → Prop} {th : Nat} (K : MD l R p s m args c cX6_word 2 RX6 D cA tys A n0 s0 0 0 []) (hQ : CQV p l e R s m args below meth c cX6_word D cA A n0 s0 QM σi Q) (hX : CX p l e R s m args below meth c 2 D cA A n0 s0 QM σi X) (hTh : CT p l e R s m args below meth c cX6_word 2 D cA A n0 s0 QM σi RX6 X) {K7 : Sg → Int → Prop} (hK7 : ∀ (σ : Sg) (v1 : Int) (g1 : rng v1), K7 σ v1 → RG σ → TY σ → Ext σi σ → kO σ th 6 → JJ p l e R s m args below meth c 2 D cA A n0 s0 QM σ 7 [(0, .ref th), (1, .int (i32 v1))] []) : ∀ (σ : Sg) (v1 : Int) (g1 : rng v1), w_X6_word_7 th K7 Q X σ v1 → RG σ → TY σ → Ext σi σ → kO σ th 6 → JJ p l e R s m args below meth c 2 D cA A n0 s0 QM σ 7 [(0, .ref th), (1, .int (i32 v1))] [] := by
  intro σ v1 g1 h hGσ hYσ hE hth H locs ls hH hl hc
  have B := K.1
  have hl9 := K.2.2.2.2.2.2
  unfold w_X6_word_7 at h
  refine lv_iload_n B.1 B.2.1 dX6_word_7 rfl (lv_at hl 1 rfl) ?_
  refine lv_sipush (v := i32 1500) B.1 B.2.1 dX6_word_8 (by decide) ?_
  refine lv_icmp_ge (tgt := 91) B.1 B.2.1 dX6_word_11 (by decide) (fun h9 => ?_) (fun h9 => ?_)
  · rw [if_pos ((i32_le (by unfold rng; omega) g1).mp h9)] at h
    exact a_X6_word_91 K hQ hX hTh _ h hGσ hYσ hE hth _ _ _ hH (lv_sub (l' := [(0, .ref th)]) hl [0] rfl) hc
  · rw [if_neg (fun q => h9 ((i32_le (by unfold rng; omega) g1).mpr q))] at h
    exact a_X6_word_14 K hQ hX hTh hK7 _ _ g1 h hGσ hYσ hE hth _ _ _ hH (lv_sub (l' := [(0, .ref th), (1, .int (i32 v1))]) hl [0, 1] rfl) hc
theorem al_X6_word_7 {Q : Sg → Unit → Prop} {X : Sg → String → Prop} {th : Nat} (K : MD l R p s m args c cX6_word 2 RX6 D cA tys A n0 s0 0 0 []) (hQ : CQV p l e R s m args below meth c cX6_word D cA A n0 s0 QM σi Q) (hX : CX p l e R s m args below meth c 2 D cA A n0 s0 QM σi X) (hTh : CT p l e R s m args below meth c cX6_word 2 D cA A n0 s0 QM σi RX6 X) : ∀ (n : Nat), ∀ (σ : Sg) (v1 : Int) (g1 : rng v1), wl_X6_word_7 th Q X n σ v1 → RG σ → TY σ → Ext σi σ → kO σ th 6 → JJ p l e R s m args below meth c 2 D cA A n0 s0 QM σ 7 [(0, .ref th), (1, .int (i32 v1))] [] := by
  intro n
  induction n with
  | zero => intro σ v1 g1 h; exact h.elim
  | succ n ih => exact fun σ v1 g1 h => a_X6_word_7 K hQ hX hTh ih σ v1 g1 h
set_option maxRecDepth 20000 in
theorem a_X6_word_0 {Q : Sg → Unit → Prop} {X : Sg → String → Prop} {th : Nat} (K : MD l R p s m args c cX6_word 2 RX6 D cA tys A n0 s0 0 0 []) (hQ : CQV p l e R s m args below meth c cX6_word D cA A n0 s0 QM σi Q) (hX : CX p l e R s m args below meth c 2 D cA A n0 s0 QM σi X) (hTh : CT p l e R s m args below meth c cX6_word 2 D cA A n0 s0 QM σi RX6 X) : ∀ (σ : Sg), w_X6_word_0 th Q X σ → RG σ → TY σ → Ext σi σ → kO σ th 6 → JJ p l e R s m args below meth c 2 D cA A n0 s0 QM σ 0 [(0, .ref th)] [] := by
  intro σ h hGσ hYσ hE hth H locs ls hH hl hc
  have B := K.1
  have hl9 := K.2.2.2.2.2.2
  unfold w_X6_word_0 at h
  refine lv_aload_n B.1 B.2.1 dX6_word_0 rfl (lv_at hl 0 rfl) ?_
  refine lv_lconst (v := 0) B.1 B.2.1 dX6_word_1 (by decide) ?_
  obtain ⟨σ30, eσ30⟩ : ∃ z, z = pJ σ th 4 0 := ⟨_, rfl⟩
  have h := h σ30 eσ30
  refine f_putl B hH hth (by decide) rfl wu_X6 tyX6 tyX6_ok nmX6 4 (by decide) wf_X6_73 rfl (ty := .long) rfl rfl rfl rfl rfl dX6_word_2 (fun H locs hH => ?_)
  have hH : Hd D cA A s (pJ σ th 4 0) H locs := hH
  rw [← eσ30] at hH
  have hGσ30 : RG σ30 := by rw [eσ30]; exact hGσ.pJ
  have hYσ30 : TY σ30 := by rw [eσ30]; exact hYσ.pJ
  have xσ30 : Ext σ σ30 := by rw [eσ30]; exact Ext.pJ
  have hc : CB n0 s0 σ30 := by rw [eσ30]; exact hc
  rw [show gc σ = gc σ30 by rw [eσ30]; try rfl, show gs σ = gs σ30 by rw [eσ30]; try rfl]
  refine lv_iconst (v := i32 0) B.1 B.2.1 dX6_word_5 (by decide) ?_
  refine lv_istore_n (lv' := [(1, .int (i32 0)), (0, .ref th)]) B.1 B.2.1 dX6_word_6 rfl hl (by decide) rfl (fun ls hl => ?_)
  obtain ⟨n9, h⟩ := h
  exact al_X6_word_7 K hQ hX hTh n9 _ _ (by unfold rng; omega) h hGσ30 hYσ30 (hE.trans xσ30) (hth.up xσ30) _ _ _ hH (lv_sub (l' := [(0, .ref th), (1, .int (i32 0))]) hl [1, 0] rfl) hc
theorem ok_X6_word (hl0 : l.stackTraces = false) (hT : TyC cA tys) {Q : Sg → Unit → Prop} {X : Sg → String → Prop} (σ : Sg) (th : Nat) (hth : kO σ th 6) (hG : RG σ) (hY : TY σ) (h : wp_X6_word th σ Q X) : Ok l D cA tys A yX6_word (.code yX6_word cX6_word 2 none) 0 0 [.ref th] σ (QcV σ Q) (QxC σ X) := by
  unfold wp_X6_word at h
  exact oc_V hl0 (by decide) (by exact Nat.le_of_ble_eq_true rfl) hT (fun p e R s m args below meth c K hQ hX hTh hin9 H locs ls hH hl hc => a_X6_word_0 K hQ hX hTh σ h hG hY (Ext.rfl' σ) hth H locs ls hH (lv_sub (l' := [(0, .ref th)]) hl [0] rfl) hc)
theorem dX6_next_0 : decode cX6_next 0 = .ok (.iconst 0, 1) := by decide +kernel
theorem dX6_next_1 : decode cX6_next 1 = .ok (.istore_n 1, 1) := by decide +kernel
theorem dX6_next_2 : decode cX6_next 2 = .ok (.iload_n 1, 1) := by decide +kernel
theorem dX6_next_3 : decode cX6_next 3 = .ok (.sipush 1500, 3) := by decide +kernel
theorem dX6_next_6 : decode cX6_next 6 = .ok (.if_icmp .ge 56, 3) := by decide +kernel
theorem dX6_next_9 : decode cX6_next 9 = .ok (.aload_n 0, 1) := by decide +kernel
theorem dX6_next_10 : decode cX6_next 10 = .ok (.getfield 25, 3) := by decide +kernel
theorem dX6_next_13 : decode cX6_next 13 = .ok (.aload_n 0, 1) := by decide +kernel
theorem dX6_next_14 : decode cX6_next 14 = .ok (.getfield 21, 3) := by decide +kernel
theorem dX6_next_17 : decode cX6_next 17 = .ok (.if_icmp .ge 45, 3) := by decide +kernel
theorem dX6_next_20 : decode cX6_next 20 = .ok (.aload_n 0, 1) := by decide +kernel
theorem dX6_next_21 : decode cX6_next 21 = .ok (.getfield 9, 3) := by decide +kernel
theorem dX6_next_24 : decode cX6_next 24 = .ok (.aload_n 0, 1) := by decide +kernel
theorem dX6_next_25 : decode cX6_next 25 = .ok (.getfield 25, 3) := by decide +kernel
theorem dX6_next_28 : decode cX6_next 28 = .ok (.baload, 1) := by decide +kernel
theorem dX6_next_29 : decode cX6_next 29 = .ok (.ifCond .lt 33, 3) := by decide +kernel
theorem dX6_next_32 : decode cX6_next 32 = .ok (.aload_n 0, 1) := by decide +kernel
theorem dX6_next_33 : decode cX6_next 33 = .ok (.getfield 9, 3) := by decide +kernel
theorem dX6_next_36 : decode cX6_next 36 = .ok (.aload_n 0, 1) := by decide +kernel
theorem dX6_next_37 : decode cX6_next 37 = .ok (.getfield 25, 3) := by decide +kernel
theorem dX6_next_40 : decode cX6_next 40 = .ok (.baload, 1) := by decide +kernel
theorem dX6_next_41 : decode cX6_next 41 = .ok (.bipush 32, 2) := by decide +kernel
theorem dX6_next_43 : decode cX6_next 43 = .ok (.if_icmp .gt 19, 3) := by decide +kernel
theorem dX6_next_46 : decode cX6_next 46 = .ok (.aload_n 0, 1) := by decide +kernel
theorem dX6_next_47 : decode cX6_next 47 = .ok (.dup, 1) := by decide +kernel
theorem dX6_next_48 : decode cX6_next 48 = .ok (.getfield 25, 3) := by decide +kernel
theorem dX6_next_51 : decode cX6_next 51 = .ok (.iconst 1, 1) := by decide +kernel
theorem dX6_next_52 : decode cX6_next 52 = .ok (.iadd, 1) := by decide +kernel
theorem dX6_next_53 : decode cX6_next 53 = .ok (.putfield 25, 3) := by decide +kernel
theorem dX6_next_56 : decode cX6_next 56 = .ok (.iinc 1 1, 3) := by decide +kernel
theorem dX6_next_59 : decode cX6_next 59 = .ok (.goto (-57), 3) := by decide +kernel
theorem dX6_next_62 : decode cX6_next 62 = .ok (.aload_n 0, 1) := by decide +kernel
theorem dX6_next_63 : decode cX6_next 63 = .ok (.aload_n 0, 1) := by decide +kernel
theorem dX6_next_64 : decode cX6_next 64 = .ok (.getfield 25, 3) := by decide +kernel
theorem dX6_next_67 : decode cX6_next 67 = .ok (.putfield 266, 3) := by decide +kernel
theorem dX6_next_70 : decode cX6_next 70 = .ok (.aload_n 0, 1) := by decide +kernel
theorem dX6_next_71 : decode cX6_next 71 = .ok (.getfield 25, 3) := by decide +kernel
theorem dX6_next_74 : decode cX6_next 74 = .ok (.aload_n 0, 1) := by decide +kernel
theorem dX6_next_75 : decode cX6_next 75 = .ok (.getfield 21, 3) := by decide +kernel
theorem dX6_next_78 : decode cX6_next 78 = .ok (.if_icmp .lt 9, 3) := by decide +kernel
theorem dX6_next_81 : decode cX6_next 81 = .ok (.aload_n 0, 1) := by decide +kernel
theorem dX6_next_82 : decode cX6_next 82 = .ok (.iconst 0, 1) := by decide +kernel
theorem dX6_next_83 : decode cX6_next 83 = .ok (.putfield 43, 3) := by decide +kernel
theorem dX6_next_86 : decode cX6_next 86 = .ok (.return_, 1) := by decide +kernel
theorem dX6_next_87 : decode cX6_next 87 = .ok (.aload_n 0, 1) := by decide +kernel
theorem dX6_next_88 : decode cX6_next 88 = .ok (.aload_n 0, 1) := by decide +kernel
theorem dX6_next_89 : decode cX6_next 89 = .ok (.getfield 9, 3) := by decide +kernel
theorem dX6_next_92 : decode cX6_next 92 = .ok (.aload_n 0, 1) := by decide +kernel
theorem dX6_next_93 : decode cX6_next 93 = .ok (.getfield 25, 3) := by decide +kernel
theorem dX6_next_96 : decode cX6_next 96 = .ok (.baload, 1) := by decide +kernel
theorem dX6_next_97 : decode cX6_next 97 = .ok (.i2l, 1) := by decide +kernel
theorem dX6_next_98 : decode cX6_next 98 = .ok (.putfield 73, 3) := by decide +kernel
theorem dX6_next_101 : decode cX6_next 101 = .ok (.aload_n 0, 1) := by decide +kernel
theorem dX6_next_102 : decode cX6_next 102 = .ok (.getfield 73, 3) := by decide +kernel
theorem dX6_next_105 : decode cX6_next 105 = .ok (.ldc2_w 269, 3) := by decide +kernel
theorem dX6_next_108 : decode cX6_next 108 = .ok (.lcmp, 1) := by decide +kernel
theorem dX6_next_109 : decode cX6_next 109 = .ok (.ifCond .lt 21, 3) := by decide +kernel
theorem dX6_next_112 : decode cX6_next 112 = .ok (.aload_n 0, 1) := by decide +kernel
theorem dX6_next_113 : decode cX6_next 113 = .ok (.getfield 73, 3) := by decide +kernel
theorem dX6_next_116 : decode cX6_next 116 = .ok (.ldc2_w 271, 3) := by decide +kernel
theorem dX6_next_119 : decode cX6_next 119 = .ok (.lcmp, 1) := by decide +kernel
theorem dX6_next_120 : decode cX6_next 120 = .ok (.ifCond .gt 10, 3) := by decide +kernel
theorem dX6_next_123 : decode cX6_next 123 = .ok (.aload_n 0, 1) := by decide +kernel
theorem dX6_next_124 : decode cX6_next 124 = .ok (.invokevirtual 273, 3) := by decide +kernel
theorem dX6_next_127 : decode cX6_next 127 = .ok (.goto 82, 3) := by decide +kernel
theorem dX6_next_130 : decode cX6_next 130 = .ok (.aload_n 0, 1) := by decide +kernel
theorem dX6_next_131 : decode cX6_next 131 = .ok (.getfield 73, 3) := by decide +kernel
theorem dX6_next_134 : decode cX6_next 134 = .ok (.ldc2_w 276, 3) := by decide +kernel
theorem dX6_next_137 : decode cX6_next 137 = .ok (.lcmp, 1) := by decide +kernel
theorem dX6_next_138 : decode cX6_next 138 = .ok (.ifCond .lt 40, 3) := by decide +kernel
theorem dX6_next_141 : decode cX6_next 141 = .ok (.aload_n 0, 1) := by decide +kernel
theorem dX6_next_142 : decode cX6_next 142 = .ok (.getfield 73, 3) := by decide +kernel
theorem dX6_next_145 : decode cX6_next 145 = .ok (.ldc2_w 278, 3) := by decide +kernel
theorem dX6_next_148 : decode cX6_next 148 = .ok (.lcmp, 1) := by decide +kernel
theorem dX6_next_149 : decode cX6_next 149 = .ok (.ifCond .gt 29, 3) := by decide +kernel
theorem dX6_next_152 : decode cX6_next 152 = .ok (.aload_n 0, 1) := by decide +kernel
theorem dX6_next_153 : decode cX6_next 153 = .ok (.invokevirtual 280, 3) := by decide +kernel
theorem dX6_next_156 : decode cX6_next 156 = .ok (.aload_n 0, 1) := by decide +kernel
theorem dX6_next_157 : decode cX6_next 157 = .ok (.getfield 25, 3) := by decide +kernel
theorem dX6_next_160 : decode cX6_next 160 = .ok (.aload_n 0, 1) := by decide +kernel
theorem dX6_next_161 : decode cX6_next 161 = .ok (.getfield 266, 3) := by decide +kernel
theorem dX6_next_164 : decode cX6_next 164 = .ok (.isub, 1) := by decide +kernel
theorem dX6_next_165 : decode cX6_next 165 = .ok (.bipush 18, 2) := by decide +kernel
theorem dX6_next_167 : decode cX6_next 167 = .ok (.if_icmp .le 42, 3) := by decide +kernel
theorem dX6_next_170 : decode cX6_next 170 = .ok (.aload_n 0, 1) := by decide +kernel
theorem dX6_next_171 : decode cX6_next 171 = .ok (.iconst 2, 1) := by decide +kernel
theorem dX6_next_172 : decode cX6_next 172 = .ok (.invokevirtual 81, 3) := by decide +kernel
theorem dX6_next_175 : decode cX6_next 175 = .ok (.goto 34, 3) := by decide +kernel
theorem dX6_next_178 : decode cX6_next 178 = .ok (.aload_n 0, 1) := by decide +kernel
theorem dX6_next_179 : decode cX6_next 179 = .ok (.getfield 73, 3) := by decide +kernel
theorem dX6_next_182 : decode cX6_next 182 = .ok (.l2i, 1) := by decide +kernel
theorem dX6_next_183 : decode cX6_next 183 = .ok (.invokestatic 283, 3) := by decide +kernel
theorem dX6_next_186 : decode cX6_next 186 = .ok (.ifCond .ne 8, 3) := by decide +kernel
theorem dX6_next_189 : decode cX6_next 189 = .ok (.aload_n 0, 1) := by decide +kernel
theorem dX6_next_190 : decode cX6_next 190 = .ok (.iconst 1, 1) := by decide +kernel
theorem dX6_next_191 : decode cX6_next 191 = .ok (.invokevirtual 81, 3) := by decide +kernel
theorem dX6_next_194 : decode cX6_next 194 = .ok (.aload_n 0, 1) := by decide +kernel
theorem dX6_next_195 : decode cX6_next 195 = .ok (.iconst 5, 1) := by decide +kernel
theorem dX6_next_196 : decode cX6_next 196 = .ok (.putfield 43, 3) := by decide +kernel
theorem dX6_next_199 : decode cX6_next 199 = .ok (.aload_n 0, 1) := by decide +kernel
theorem dX6_next_200 : decode cX6_next 200 = .ok (.dup, 1) := by decide +kernel
theorem dX6_next_201 : decode cX6_next 201 = .ok (.getfield 25, 3) := by decide +kernel
theorem dX6_next_204 : decode cX6_next 204 = .ok (.iconst 1, 1) := by decide +kernel
theorem dX6_next_205 : decode cX6_next 205 = .ok (.iadd, 1) := by decide +kernel
theorem dX6_next_206 : decode cX6_next 206 = .ok (.putfield 25, 3) := by decide +kernel
theorem dX6_next_209 : decode cX6_next 209 = .ok (.return_, 1) := by decide +kernel
set_option maxRecDepth 20000 in
theorem a_X6_next_209 {Q : Sg → Unit → Prop} {X : Sg → String → Prop} {th : Nat} (K : MD l R p s m args c cX6_next 2 RX6 D cA tys A n0 s0 7 111 []) (hQ : CQV p l e R s m args below meth c cX6_next D cA A n0 s0 QM σi Q) (hX : CX p l e R s m args below meth c 2 D cA A n0 s0 QM σi X) (hTh : CT p l e R s m args below meth c cX6_next 2 D cA A n0 s0 QM σi RX6 X) : ∀ (σ : Sg), w_X6_next_209 th Q X σ → RG σ → TY σ → Ext σi σ → kO σ th 6 → JJ p l e R s m args below meth c 2 D cA A n0 s0 QM σ 209 [(0, .ref th)] [] := by
  intro σ h hGσ hYσ hE hth H locs ls hH hl hc
  have B := K.1
  have hl9 := K.2.2.2.2.2.2
  unfold w_X6_next_209 at h
  exact hQ _ _ _ _ _ dX6_next_209 hH hc h hGσ hYσ hE
set_option maxRecDepth 20000 in
theorem a_X6_next_194 {Q : Sg → Unit → Prop} {X : Sg → String → Prop} {th : Nat} (K : MD l R p s m args c cX6_next 2 RX6 D cA tys A n0 s0 7 111 []) (hQ : CQV p l e R s m args below meth c cX6_next D cA A n0 s0 QM σi Q) (hX : CX p l e R s m args below meth c 2 D cA A n0 s0 QM σi X) (hTh : CT p l e R s m args below meth c cX6_next 2 D cA A n0 s0 QM σi RX6 X) : ∀ (σ : Sg), w_X6_next_194 th Q X σ → RG σ → TY σ → Ext σi σ → kO σ th 6 → JJ p l e R s m args below meth c 2 D cA A n0 s0 QM σ 194 [(0, .ref th)] [] := by
  intro σ h hGσ hYσ hE hth H locs ls hH hl hc
  have B := K.1
  have hl9 := K.2.2.2.2.2.2
  unfold w_X6_next_194 at h
  refine lv_aload_n B.1 B.2.1 dX6_next_194 rfl (lv_at hl 0 rfl) ?_
  refine lv_iconst (v := i32 5) B.1 B.2.1 dX6_next_195 (by decide) ?_
  obtain ⟨σ31, eσ31⟩ : ∃ z, z = pI σ th 3 5 := ⟨_, rfl⟩
  have h := h σ31 eσ31
  refine f_puti B hH hth (by decide) rfl wu_X6 tyX6 tyX6_ok nmX6 3 (by decide) wf_X6_43 rfl (ty := .int) rfl rfl rfl rfl rfl dX6_next_196 (fun H locs hH => ?_)
  have hH : Hd D cA A s (pI σ th 3 5) H locs := hH
  rw [← eσ31] at hH
  have hGσ31 : RG σ31 := by rw [eσ31]; exact hGσ.pI (by unfold rng; omega)
  have hYσ31 : TY σ31 := by rw [eσ31]; exact hYσ.pI
  have xσ31 : Ext σ σ31 := by rw [eσ31]; exact Ext.pI
  have hc : CB n0 s0 σ31 := by rw [eσ31]; exact hc
  rw [show gc σ = gc σ31 by rw [eσ31]; try rfl, show gs σ = gs σ31 by rw [eσ31]; try rfl]
  refine lv_aload_n B.1 B.2.1 dX6_next_199 rfl (lv_at hl 0 rfl) ?_
  refine lv_dup B.1 B.2.1 dX6_next_200 rfl ?_
  refine f_geti B hH (hth.up xσ31) (by decide) rfl wu_X6 2 (by decide) wf_X6_25 rfl rfl dX6_next_201 ?_
  refine lv_iconst (v := i32 1) B.1 B.2.1 dX6_next_204 (by decide) ?_
  obtain ⟨q1, h⟩ := h
  refine lv_iadd B.1 B.2.1 dX6_next_205 ?_
  rw [i32_add]
  obtain ⟨σ32, eσ32⟩ : ∃ z, z = pI σ31 th 2 (gI σ31 th 2 + 1) := ⟨_, rfl⟩
  have h := h σ32 eσ32
  refine f_puti B hH (hth.up xσ31) (by decide) rfl wu_X6 tyX6 tyX6_ok nmX6 2 (by decide) wf_X6_25 rfl (ty := .int) rfl rfl rfl rfl rfl dX6_next_206 (fun H locs hH => ?_)
  have hH : Hd D cA A s (pI σ31 th 2 (gI σ31 th 2 + 1)) H locs := hH
  rw [← eσ32] at hH
  have hGσ32 : RG σ32 := by rw [eσ32]; exact hGσ31.pI q1
  have hYσ32 : TY σ32 := by rw [eσ32]; exact hYσ31.pI
  have xσ32 : Ext σ31 σ32 := by rw [eσ32]; exact Ext.pI
  have hc : CB n0 s0 σ32 := by rw [eσ32]; exact hc
  rw [show gc σ31 = gc σ32 by rw [eσ32]; try rfl, show gs σ31 = gs σ32 by rw [eσ32]; try rfl]
  exact a_X6_next_209 K hQ hX hTh _ h hGσ32 hYσ32 ((hE.trans xσ31).trans xσ32) (hth.up (xσ31.trans xσ32)) _ _ _ hH (lv_sub (l' := [(0, .ref th)]) hl [0] rfl) hc
set_option maxRecDepth 20000 in
theorem a_X6_next_189 {Q : Sg → Unit → Prop} {X : Sg → String → Prop} {th : Nat} (K : MD l R p s m args c cX6_next 2 RX6 D cA tys A n0 s0 7 111 []) (hQ : CQV p l e R s m args below meth c cX6_next D cA A n0 s0 QM σi Q) (hX : CX p l e R s m args below meth c 2 D cA A n0 s0 QM σi X) (hTh : CT p l e R s m args below meth c cX6_next 2 D cA A n0 s0 QM σi RX6 X) : ∀ (σ : Sg), w_X6_next_189 th Q X σ → RG σ → TY σ → Ext σi σ → kO σ th 6 → JJ p l e R s m args below meth c 2 D cA A n0 s0 QM σ 189 [(0, .ref th)] [] := by
  intro σ h hGσ hYσ hE hth H locs ls hH hl hc
  have B := K.1
  have hl9 := K.2.2.2.2.2.2
  unfold w_X6_next_189 at h
  refine lv_aload_n B.1 B.2.1 dX6_next_189 rfl (lv_at hl 0 rfl) ?_
  refine lv_iconst (v := i32 1) B.1 B.2.1 dX6_next_190 (by decide) ?_
  refine W.eq (g2 := F0 m 191 ls [.int (i32 1), .ref th]) (rfl) ?_
  refine c_V B hH hl hc K.2.2.1 (C := RX6) (T := TX6) (N := 9) (ci := 6) (As := [.int (i32 1)]) (ok_X6_refuse hl9 K.2.1 σ th 1 (by unfold rng; omega) hth hGσ hYσ h) wc_X6_81 1 hd_X6_refuse ⟨Nat.le_trans (Nat.le_of_ble_eq_true rfl) K.2.2.2.1, Nat.le_trans (Nat.le_of_ble_eq_true rfl) K.2.2.2.2.1⟩ hth.1 hth.2 (by decide) rfl rfl (rest := []) rfl (Nat.le_of_ble_eq_true rfl) dX6_next_191 (fun σ33 w hq => ?_) (fun σ9 E9 hx9 => hX σ9 E9 _ _ _ (tb_out K.2.2.2.2.2.1 rfl) hx9.1 hx9.2.1 hx9.2.2.1 (hE.trans hx9.2.2.2))
  obtain ⟨rfl, h, hGσ33, hYσ33, xσ33⟩ := hq
  have h := h xσ33
  intro H locs ls hH hl hc
  refine W.eq (g2 := F0 m 194 ls []) (rfl) ?_
  try dsimp only at h
  exact a_X6_next_194 K hQ hX hTh _ h hGσ33 hYσ33 (hE.trans xσ33) (hth.up xσ33) _ _ _ hH (lv_sub (l' := [(0, .ref th)]) hl [0] rfl) hc
set_option maxRecDepth 20000 in
theorem a_X6_next_178 {Q : Sg → Unit → Prop} {X : Sg → String → Prop} {th : Nat} (K : MD l R p s m args c cX6_next 2 RX6 D cA tys A n0 s0 7 111 []) (hQ : CQV p l e R s m args below meth c cX6_next D cA A n0 s0 QM σi Q) (hX : CX p l e R s m args below meth c 2 D cA A n0 s0 QM σi X) (hTh : CT p l e R s m args below meth c cX6_next 2 D cA A n0 s0 QM σi RX6 X) : ∀ (σ : Sg), w_X6_next_178 th Q X σ → RG σ → TY σ → Ext σi σ → kO σ th 6 → JJ p l e R s m args below meth c 2 D cA A n0 s0 QM σ 178 [(0, .ref th)] [] := by
  intro σ h hGσ hYσ hE hth H locs ls hH hl hc
  have B := K.1
  have hl9 := K.2.2.2.2.2.2
  unfold w_X6_next_178 at h
  refine lv_aload_n B.1 B.2.1 dX6_next_178 rfl (lv_at hl 0 rfl) ?_
  refine f_getl B hH hth (by decide) rfl wu_X6 4 (by decide) wf_X6_73 rfl rfl dX6_next_179 ?_
  refine lv_l2i B.1 B.2.1 dX6_next_182 rfl ?_
  refine W.eq (g2 := F0 m 183 ls [.int (i32 ((gJ σ th 4).toInt32.toInt))]) (by simp only [i32_self]) ?_
  refine c_S B hH hl hc K.2.2.1 (As := [.int (i32 ((gJ σ th 4).toInt32.toInt))]) (ok_X6_isSignByte hl9 K.2.1 σ ((gJ σ th 4).toInt32.toInt) (rng_toInt _) hGσ hYσ h) wc_X6_283 1 hd_X6_isSignByte ⟨Nat.le_trans (Nat.le_of_ble_eq_true rfl) K.2.2.2.1, Nat.le_trans (Nat.le_of_ble_eq_true rfl) K.2.2.2.2.1⟩ rfl (rest := []) rfl (Nat.le_of_ble_eq_true rfl) dX6_next_183 (fun σ34 w hq => ?_) (fun σ9 E9 hx9 => hX σ9 E9 _ _ _ (tb_out K.2.2.2.2.2.1 rfl) hx9.1 hx9.2.1 hx9.2.2.1 (hE.trans hx9.2.2.2))
  obtain ⟨r35, rfl, ⟨gr35, gzr35⟩, h, hGσ34, hYσ34, xσ34⟩ := hq
  have h := h xσ34
  intro H locs ls hH hl hc
  refine W.eq (g2 := F0 m 186 ls [.int (i32 r35)]) (rfl) ?_
  try dsimp only at h
  refine lv_if_ne (tgt := 194) B.1 B.2.1 dX6_next_186 (by decide) (fun h9 => ?_) (fun h9 => ?_)
  · rw [if_pos (fun q => h9 ((z_eq gr35).mpr q))] at h
    exact a_X6_next_194 K hQ hX hTh _ h hGσ34 hYσ34 (hE.trans xσ34) (hth.up xσ34) _ _ _ hH (lv_sub (l' := [(0, .ref th)]) hl [0] rfl) hc
  · rw [if_neg (fun q => q ((z_eq gr35).mp h9))] at h
    exact a_X6_next_189 K hQ hX hTh _ h hGσ34 hYσ34 (hE.trans xσ34) (hth.up xσ34) _ _ _ hH (lv_sub (l' := [(0, .ref th)]) hl [0] rfl) hc
set_option maxRecDepth 20000 in
theorem a_X6_next_170 {Q : Sg → Unit → Prop} {X : Sg → String → Prop} {th : Nat} (K : MD l R p s m args c cX6_next 2 RX6 D cA tys A n0 s0 7 111 []) (hQ : CQV p l e R s m args below meth c cX6_next D cA A n0 s0 QM σi Q) (hX : CX p l e R s m args below meth c 2 D cA A n0 s0 QM σi X) (hTh : CT p l e R s m args below meth c cX6_next 2 D cA A n0 s0 QM σi RX6 X) : ∀ (σ : Sg), w_X6_next_170 th Q X σ → RG σ → TY σ → Ext σi σ → kO σ th 6 → JJ p l e R s m args below meth c 2 D cA A n0 s0 QM σ 170 [(0, .ref th)] [] := by
  intro σ h hGσ hYσ hE hth H locs ls hH hl hc
  have B := K.1
  have hl9 := K.2.2.2.2.2.2
  unfold w_X6_next_170 at h
  refine lv_aload_n B.1 B.2.1 dX6_next_170 rfl (lv_at hl 0 rfl) ?_
  refine lv_iconst (v := i32 2) B.1 B.2.1 dX6_next_171 (by decide) ?_
  refine W.eq (g2 := F0 m 172 ls [.int (i32 2), .ref th]) (rfl) ?_
  refine c_V B hH hl hc K.2.2.1 (C := RX6) (T := TX6) (N := 9) (ci := 6) (As := [.int (i32 2)]) (ok_X6_refuse hl9 K.2.1 σ th 2 (by unfold rng; omega) hth hGσ hYσ h) wc_X6_81 1 hd_X6_refuse ⟨Nat.le_trans (Nat.le_of_ble_eq_true rfl) K.2.2.2.1, Nat.le_trans (Nat.le_of_ble_eq_true rfl) K.2.2.2.2.1⟩ hth.1 hth.2 (by decide) rfl rfl (rest := []) rfl (Nat.le_of_ble_eq_true rfl) dX6_next_172 (fun σ36 w hq => ?_) (fun σ9 E9 hx9 => hX σ9 E9 _ _ _ (tb_out K.2.2.2.2.2.1 rfl) hx9.1 hx9.2.1 hx9.2.2.1 (hE.trans hx9.2.2.2))
  obtain ⟨rfl, h, hGσ36, hYσ36, xσ36⟩ := hq
  have h := h xσ36
  intro H locs ls hH hl hc
  refine W.eq (g2 := F0 m 175 ls []) (rfl) ?_
  try dsimp only at h
  refine lv_goto (tgt := 209) B.1 B.2.1 dX6_next_175 (by decide) ?_
  exact a_X6_next_209 K hQ hX hTh _ h hGσ36 hYσ36 (hE.trans xσ36) (hth.up xσ36) _ _ _ hH (lv_sub (l' := [(0, .ref th)]) hl [0] rfl) hc
set_option maxRecDepth 20000 in
theorem a_X6_next_152 {Q : Sg → Unit → Prop} {X : Sg → String → Prop} {th : Nat} (K : MD l R p s m args c cX6_next 2 RX6 D cA tys A n0 s0 7 111 []) (hQ : CQV p l e R s m args below meth c cX6_next D cA A n0 s0 QM σi Q) (hX : CX p l e R s m args below meth c 2 D cA A n0 s0 QM σi X) (hTh : CT p l e R s m args below meth c cX6_next 2 D cA A n0 s0 QM σi RX6 X) : ∀ (σ : Sg), w_X6_next_152 th Q X σ → RG σ → TY σ → Ext σi σ → kO σ th 6 → JJ p l e R s m args below meth c 2 D cA A n0 s0 QM σ 152 [(0, .ref th)] [] := by
  intro σ h hGσ hYσ hE hth H locs ls hH hl hc
  have B := K.1
  have hl9 := K.2.2.2.2.2.2
  unfold w_X6_next_152 at h
  refine lv_aload_n B.1 B.2.1 dX6_next_152 rfl (lv_at hl 0 rfl) ?_
  refine W.eq (g2 := F0 m 153 ls [.ref th]) (rfl) ?_
  refine c_V B hH hl hc K.2.2.1 (C := RX6) (T := TX6) (N := 9) (ci := 6) (As := []) (ok_X6_digits hl9 K.2.1 σ th hth hGσ hYσ h) wc_X6_280 0 hd_X6_digits ⟨Nat.le_trans (Nat.le_of_ble_eq_true rfl) K.2.2.2.1, Nat.le_trans (Nat.le_of_ble_eq_true rfl) K.2.2.2.2.1⟩ hth.1 hth.2 (by decide) rfl rfl (rest := []) rfl (Nat.le_of_ble_eq_true rfl) dX6_next_153 (fun σ37 w hq => ?_) (fun σ9 E9 hx9 => hX σ9 E9 _ _ _ (tb_out K.2.2.2.2.2.1 rfl) hx9.1 hx9.2.1 hx9.2.2.1 (hE.trans hx9.2.2.2))
  obtain ⟨rfl, h, hGσ37, hYσ37, xσ37⟩ := hq
  have h := h xσ37
  intro H locs ls hH hl hc
  refine W.eq (g2 := F0 m 156 ls []) (rfl) ?_
  try dsimp only at h
  refine lv_aload_n B.1 B.2.1 dX6_next_156 rfl (lv_at hl 0 rfl) ?_
  refine f_geti B hH (hth.up xσ37) (by decide) rfl wu_X6 2 (by decide) wf_X6_25 rfl rfl dX6_next_157 ?_
  refine lv_aload_n B.1 B.2.1 dX6_next_160 rfl (lv_at hl 0 rfl) ?_
  refine f_geti B hH (hth.up xσ37) (by decide) rfl wu_X6 5 (by decide) wf_X6_266 rfl rfl dX6_next_161 ?_
  obtain ⟨q1, h⟩ := h
  refine lv_isub B.1 B.2.1 dX6_next_164 ?_
  rw [i32_sub]
  refine lv_bipush (v := i32 18) B.1 B.2.1 dX6_next_165 (by decide) ?_
  refine lv_icmp_le (tgt := 209) B.1 B.2.1 dX6_next_167 (by decide) (fun h9 => ?_) (fun h9 => ?_)
  · rw [if_pos ((i32_le q1 (by unfold rng; omega)).mp h9)] at h
    exact a_X6_next_209 K hQ hX hTh _ h hGσ37 hYσ37 (hE.trans xσ37) (hth.up xσ37) _ _ _ hH (lv_sub (l' := [(0, .ref th)]) hl [0] rfl) hc
  · rw [if_neg (fun q => h9 ((i32_le q1 (by unfold rng; omega)).mpr q))] at h
    exact a_X6_next_170 K hQ hX hTh _ h hGσ37 hYσ37 (hE.trans xσ37) (hth.up xσ37) _ _ _ hH (lv_sub (l' := [(0, .ref th)]) hl [0] rfl) hc
set_option maxRecDepth 20000 in
theorem a_X6_next_141 {Q : Sg → Unit → Prop} {X : Sg → String → Prop} {th : Nat} (K : MD l R p s m args c cX6_next 2 RX6 D cA tys A n0 s0 7 111 []) (hQ : CQV p l e R s m args below meth c cX6_next D cA A n0 s0 QM σi Q) (hX : CX p l e R s m args below meth c 2 D cA A n0 s0 QM σi X) (hTh : CT p l e R s m args below meth c cX6_next 2 D cA A n0 s0 QM σi RX6 X) : ∀ (σ : Sg), w_X6_next_141 th Q X σ → RG σ → TY σ → Ext σi σ → kO σ th 6 → JJ p l e R s m args below meth c 2 D cA A n0 s0 QM σ 141 [(0, .ref th)] [] := by
  intro σ h hGσ hYσ hE hth H locs ls hH hl hc
  have B := K.1
  have hl9 := K.2.2.2.2.2.2
  unfold w_X6_next_141 at h
  refine lv_aload_n B.1 B.2.1 dX6_next_141 rfl (lv_at hl 0 rfl) ?_
  refine f_getl B hH hth (by decide) rfl wu_X6 4 (by decide) wf_X6_73 rfl rfl dX6_next_142 ?_
  refine lv_ldc2 B.1 B.2.1 B.2.2.1 (B.2.2.2.1 _ (wk_X6_278)) dX6_next_145 ?_
  refine W.lcmp B.1 B.2.1 dX6_next_148 ?_
  refine lv_if_gt (tgt := 178) B.1 B.2.1 dX6_next_149 (by decide) (fun h9 => ?_) (fun h9 => ?_)
  · rw [if_pos ((lg_cmp_gt _ _).mp h9)] at h
    exact a_X6_next_178 K hQ hX hTh _ h hGσ hYσ hE hth _ _ _ hH (lv_sub (l' := [(0, .ref th)]) hl [0] rfl) hc
  · rw [if_neg (fun q => h9 ((lg_cmp_gt _ _).mpr q))] at h
    exact a_X6_next_152 K hQ hX hTh _ h hGσ hYσ hE hth _ _ _ hH (lv_sub (l' := [(0, .ref th)]) hl [0] rfl) hc
set_option maxRecDepth 20000 in
theorem a_X6_next_130 {Q : Sg → Unit → Prop} {X : Sg → String → Prop} {th : Nat} (K : MD l R p s m args c cX6_next 2 RX6 D cA tys A n0 s0 7 111 []) (hQ : CQV p l e R s m args below meth c cX6_next D cA A n0 s0 QM σi Q) (hX : CX p l e R s m args below meth c 2 D cA A n0 s0 QM σi X) (hTh : CT p l e R s m args below meth c cX6_next 2 D cA A n0 s0 QM σi RX6 X) : ∀ (σ : Sg), w_X6_next_130 th Q X σ → RG σ → TY σ → Ext σi σ → kO σ th 6 → JJ p l e R s m args below meth c 2 D cA A n0 s0 QM σ 130 [(0, .ref th)] [] := by
  intro σ h hGσ hYσ hE hth H locs ls hH hl hc
  have B := K.1
  have hl9 := K.2.2.2.2.2.2
  unfold w_X6_next_130 at h
  refine lv_aload_n B.1 B.2.1 dX6_next_130 rfl (lv_at hl 0 rfl) ?_
  refine f_getl B hH hth (by decide) rfl wu_X6 4 (by decide) wf_X6_73 rfl rfl dX6_next_131 ?_
  refine lv_ldc2 B.1 B.2.1 B.2.2.1 (B.2.2.2.1 _ (wk_X6_276)) dX6_next_134 ?_
  refine W.lcmp B.1 B.2.1 dX6_next_137 ?_
  refine lv_if_lt (tgt := 178) B.1 B.2.1 dX6_next_138 (by decide) (fun h9 => ?_) (fun h9 => ?_)
  · rw [if_pos ((lg_cmp_lt _ _).mp h9)] at h
    exact a_X6_next_178 K hQ hX hTh _ h hGσ hYσ hE hth _ _ _ hH (lv_sub (l' := [(0, .ref th)]) hl [0] rfl) hc
  · rw [if_neg (fun q => h9 ((lg_cmp_lt _ _).mpr q))] at h
    exact a_X6_next_141 K hQ hX hTh _ h hGσ hYσ hE hth _ _ _ hH (lv_sub (l' := [(0, .ref th)]) hl [0] rfl) hc
set_option maxRecDepth 20000 in
theorem a_X6_next_123 {Q : Sg → Unit → Prop} {X : Sg → String → Prop} {th : Nat} (K : MD l R p s m args c cX6_next 2 RX6 D cA tys A n0 s0 7 111 []) (hQ : CQV p l e R s m args below meth c cX6_next D cA A n0 s0 QM σi Q) (hX : CX p l e R s m args below meth c 2 D cA A n0 s0 QM σi X) (hTh : CT p l e R s m args below meth c cX6_next 2 D cA A n0 s0 QM σi RX6 X) : ∀ (σ : Sg), w_X6_next_123 th Q X σ → RG σ → TY σ → Ext σi σ → kO σ th 6 → JJ p l e R s m args below meth c 2 D cA A n0 s0 QM σ 123 [(0, .ref th)] [] := by
  intro σ h hGσ hYσ hE hth H locs ls hH hl hc
  have B := K.1
  have hl9 := K.2.2.2.2.2.2
  unfold w_X6_next_123 at h
  refine lv_aload_n B.1 B.2.1 dX6_next_123 rfl (lv_at hl 0 rfl) ?_
  refine W.eq (g2 := F0 m 124 ls [.ref th]) (rfl) ?_
  refine c_V B hH hl hc K.2.2.1 (C := RX6) (T := TX6) (N := 9) (ci := 6) (As := []) (ok_X6_word hl9 K.2.1 σ th hth hGσ hYσ h) wc_X6_273 0 hd_X6_word ⟨Nat.le_trans (Nat.le_of_ble_eq_true rfl) K.2.2.2.1, Nat.le_trans (Nat.le_of_ble_eq_true rfl) K.2.2.2.2.1⟩ hth.1 hth.2 (by decide) rfl rfl (rest := []) rfl (Nat.le_of_ble_eq_true rfl) dX6_next_124 (fun σ38 w hq => ?_) (fun σ9 E9 hx9 => hX σ9 E9 _ _ _ (tb_out K.2.2.2.2.2.1 rfl) hx9.1 hx9.2.1 hx9.2.2.1 (hE.trans hx9.2.2.2))
  obtain ⟨rfl, h, hGσ38, hYσ38, xσ38⟩ := hq
  have h := h xσ38
  intro H locs ls hH hl hc
  refine W.eq (g2 := F0 m 127 ls []) (rfl) ?_
  try dsimp only at h
  refine lv_goto (tgt := 209) B.1 B.2.1 dX6_next_127 (by decide) ?_
  exact a_X6_next_209 K hQ hX hTh _ h hGσ38 hYσ38 (hE.trans xσ38) (hth.up xσ38) _ _ _ hH (lv_sub (l' := [(0, .ref th)]) hl [0] rfl) hc
set_option maxRecDepth 20000 in
theorem a_X6_next_112 {Q : Sg → Unit → Prop} {X : Sg → String → Prop} {th : Nat} (K : MD l R p s m args c cX6_next 2 RX6 D cA tys A n0 s0 7 111 []) (hQ : CQV p l e R s m args below meth c cX6_next D cA A n0 s0 QM σi Q) (hX : CX p l e R s m args below meth c 2 D cA A n0 s0 QM σi X) (hTh : CT p l e R s m args below meth c cX6_next 2 D cA A n0 s0 QM σi RX6 X) : ∀ (σ : Sg), w_X6_next_112 th Q X σ → RG σ → TY σ → Ext σi σ → kO σ th 6 → JJ p l e R s m args below meth c 2 D cA A n0 s0 QM σ 112 [(0, .ref th)] [] := by
  intro σ h hGσ hYσ hE hth H locs ls hH hl hc
  have B := K.1
  have hl9 := K.2.2.2.2.2.2
  unfold w_X6_next_112 at h
  refine lv_aload_n B.1 B.2.1 dX6_next_112 rfl (lv_at hl 0 rfl) ?_
  refine f_getl B hH hth (by decide) rfl wu_X6 4 (by decide) wf_X6_73 rfl rfl dX6_next_113 ?_
  refine lv_ldc2 B.1 B.2.1 B.2.2.1 (B.2.2.2.1 _ (wk_X6_271)) dX6_next_116 ?_
  refine W.lcmp B.1 B.2.1 dX6_next_119 ?_
  refine lv_if_gt (tgt := 130) B.1 B.2.1 dX6_next_120 (by decide) (fun h9 => ?_) (fun h9 => ?_)
  · rw [if_pos ((lg_cmp_gt _ _).mp h9)] at h
    exact a_X6_next_130 K hQ hX hTh _ h hGσ hYσ hE hth _ _ _ hH (lv_sub (l' := [(0, .ref th)]) hl [0] rfl) hc
  · rw [if_neg (fun q => h9 ((lg_cmp_gt _ _).mpr q))] at h
    exact a_X6_next_123 K hQ hX hTh _ h hGσ hYσ hE hth _ _ _ hH (lv_sub (l' := [(0, .ref th)]) hl [0] rfl) hc
set_option maxRecDepth 20000 in
theorem a_X6_next_87 {Q : Sg → Unit → Prop} {X : Sg → String → Prop} {th : Nat} (K : MD l R p s m args c cX6_next 2 RX6 D cA tys A n0 s0 7 111 []) (hQ : CQV p l e R s m args below meth c cX6_next D cA A n0 s0 QM σi Q) (hX : CX p l e R s m args below meth c 2 D cA A n0 s0 QM σi X) (hTh : CT p l e R s m args below meth c cX6_next 2 D cA A n0 s0 QM σi RX6 X) : ∀ (σ : Sg), w_X6_next_87 th Q X σ → RG σ → TY σ → Ext σi σ → kO σ th 6 → JJ p l e R s m args below meth c 2 D cA A n0 s0 QM σ 87 [(0, .ref th)] [] := by
  intro σ h hGσ hYσ hE hth H locs ls hH hl hc
  have B := K.1
  have hl9 := K.2.2.2.2.2.2
  unfold w_X6_next_87 at h
  refine lv_aload_n B.1 B.2.1 dX6_next_87 rfl (lv_at hl 0 rfl) ?_
  refine lv_aload_n B.1 B.2.1 dX6_next_88 rfl (lv_at hl 0 rfl) ?_
  refine f_getp B hH hth (by decide) rfl wu_X6 0 (by decide) wf_X6_9 rfl rfl dX6_next_89 ?_
  refine lv_aload_n B.1 B.2.1 dX6_next_92 rfl (lv_at hl 0 rfl) ?_
  refine f_geti B hH hth (by decide) rfl wu_X6 2 (by decide) wf_X6_25 rfl rfl dX6_next_93 ?_
  obtain ⟨a39, ea39, h⟩ := h
  have ka39 : kO σ a39 102 := (hYσ.get hth (by decide)) a39 ea39
  have h := h ka39
  obtain ⟨q1, h⟩ := h
  refine W.eq (g2 := F0 m 96 ls [.int (i32 (gI σ th 2)), .ref a39, .ref th]) (by rw [ea39]; rfl) ?_
  refine y_bald B K.2.1 hH ka39 q1 dX6_next_96 (hYσ.2 _) ?_
  refine lv_i2l B.1 B.2.1 dX6_next_97 (i32_i64 (hGσ _ _)) ?_
  obtain ⟨σ40, eσ40⟩ : ∃ z, z = pJ σ th 4 (Int64.ofInt (gI σ a39 (gI σ th 2).toNat)) := ⟨_, rfl⟩
  have h := h σ40 eσ40
  refine f_putl B hH hth (by decide) rfl wu_X6 tyX6 tyX6_ok nmX6 4 (by decide) wf_X6_73 rfl (ty := .long) rfl rfl rfl rfl rfl dX6_next_98 (fun H locs hH => ?_)
  have hH : Hd D cA A s (pJ σ th 4 (Int64.ofInt (gI σ a39 (gI σ th 2).toNat))) H locs := hH
  rw [← eσ40] at hH
  have hGσ40 : RG σ40 := by rw [eσ40]; exact hGσ.pJ
  have hYσ40 : TY σ40 := by rw [eσ40]; exact hYσ.pJ
  have xσ40 : Ext σ σ40 := by rw [eσ40]; exact Ext.pJ
  have hc : CB n0 s0 σ40 := by rw [eσ40]; exact hc
  rw [show gc σ = gc σ40 by rw [eσ40]; try rfl, show gs σ = gs σ40 by rw [eσ40]; try rfl]
  refine lv_aload_n B.1 B.2.1 dX6_next_101 rfl (lv_at hl 0 rfl) ?_
  refine f_getl B hH (hth.up xσ40) (by decide) rfl wu_X6 4 (by decide) wf_X6_73 rfl rfl dX6_next_102 ?_
  refine lv_ldc2 B.1 B.2.1 B.2.2.1 (B.2.2.2.1 _ (wk_X6_269)) dX6_next_105 ?_
  refine W.lcmp B.1 B.2.1 dX6_next_108 ?_
  refine lv_if_lt (tgt := 130) B.1 B.2.1 dX6_next_109 (by decide) (fun h9 => ?_) (fun h9 => ?_)
  · rw [if_pos ((lg_cmp_lt _ _).mp h9)] at h
    exact a_X6_next_130 K hQ hX hTh _ h hGσ40 hYσ40 (hE.trans xσ40) (hth.up xσ40) _ _ _ hH (lv_sub (l' := [(0, .ref th)]) hl [0] rfl) hc
  · rw [if_neg (fun q => h9 ((lg_cmp_lt _ _).mpr q))] at h
    exact a_X6_next_112 K hQ hX hTh _ h hGσ40 hYσ40 (hE.trans xσ40) (hth.up xσ40) _ _ _ hH (lv_sub (l' := [(0, .ref th)]) hl [0] rfl) hc
set_option maxRecDepth 20000 in
theorem a_X6_next_81 {Q : Sg → Unit → Prop} {X : Sg → String → Prop} {th : Nat} (K : MD l R p s m args c cX6_next 2 RX6 D cA tys A n0 s0 7 111 []) (hQ : CQV p l e R s m args below meth c cX6_next D cA A n0 s0 QM σi Q) (hX : CX p l e R s m args below meth c 2 D cA A n0 s0 QM σi X) (hTh : CT p l e R s m args below meth c cX6_next 2 D cA A n0 s0 QM σi RX6 X) : ∀ (σ : Sg), w_X6_next_81 th Q X σ → RG σ → TY σ → Ext σi σ → kO σ th 6 → JJ p l e R s m args below meth c 2 D cA A n0 s0 QM σ 81 [(0, .ref th)] [] := by
  intro σ h hGσ hYσ hE hth H locs ls hH hl hc
  have B := K.1
  have hl9 := K.2.2.2.2.2.2
  unfold w_X6_next_81 at h
  refine lv_aload_n B.1 B.2.1 dX6_next_81 rfl (lv_at hl 0 rfl) ?_
  refine lv_iconst (v := i32 0) B.1 B.2.1 dX6_next_82 (by decide) ?_
  obtain ⟨σ41, eσ41⟩ : ∃ z, z = pI σ th 3 0 := ⟨_, rfl⟩
  have h := h σ41 eσ41
  refine f_puti B hH hth (by decide) rfl wu_X6 tyX6 tyX6_ok nmX6 3 (by decide) wf_X6_43 rfl (ty := .int) rfl rfl rfl rfl rfl dX6_next_83 (fun H locs hH => ?_)
  have hH : Hd D cA A s (pI σ th 3 0) H locs := hH
  rw [← eσ41] at hH
  have hGσ41 : RG σ41 := by rw [eσ41]; exact hGσ.pI (by unfold rng; omega)
  have hYσ41 : TY σ41 := by rw [eσ41]; exact hYσ.pI
  have xσ41 : Ext σ σ41 := by rw [eσ41]; exact Ext.pI
  have hc : CB n0 s0 σ41 := by rw [eσ41]; exact hc
  rw [show gc σ = gc σ41 by rw [eσ41]; try rfl, show gs σ = gs σ41 by rw [eσ41]; try rfl]
  exact hQ _ _ _ _ _ dX6_next_86 hH hc h hGσ41 hYσ41 (hE.trans xσ41)
set_option maxRecDepth 20000 in
theorem a_X6_next_62 {Q : Sg → Unit → Prop} {X : Sg → String → Prop} {th : Nat} (K : MD l R p s m args c cX6_next 2 RX6 D cA tys A n0 s0 7 111 []) (hQ : CQV p l e R s m args below meth c cX6_next D cA A n0 s0 QM σi Q) (hX : CX p l e R s m args below meth c 2 D cA A n0 s0 QM σi X) (hTh : CT p l e R s m args below meth c cX6_next 2 D cA A n0 s0 QM σi RX6 X) : ∀ (σ : Sg), w_X6_next_62 th Q X σ → RG σ → TY σ → Ext σi σ → kO σ th 6 → JJ p l e R s m args below meth c 2 D cA A n0 s0 QM σ 62 [(0, .ref th)] [] := by
  intro σ h hGσ hYσ hE hth H locs ls hH hl hc
  have B := K.1
  have hl9 := K.2.2.2.2.2.2
  unfold w_X6_next_62 at h
  refine lv_aload_n B.1 B.2.1 dX6_next_62 rfl (lv_at hl 0 rfl) ?_
  refine lv_aload_n B.1 B.2.1 dX6_next_63 rfl (lv_at hl 0 rfl) ?_
  refine f_geti B hH hth (by decide) rfl wu_X6 2 (by decide) wf_X6_25 rfl rfl dX6_next_64 ?_
  obtain ⟨σ42, eσ42⟩ : ∃ z, z = pI σ th 5 (gI σ th 2) := ⟨_, rfl⟩
  have h := h σ42 eσ42
  refine f_puti B hH hth (by decide) rfl wu_X6 tyX6 tyX6_ok nmX6 5 (by decide) wf_X6_266 rfl (ty := .int) rfl rfl rfl rfl rfl dX6_next_67 (fun H locs hH => ?_)
  have hH : Hd D cA A s (pI σ th 5 (gI σ th 2)) H locs := hH
  rw [← eσ42] at hH
  have hGσ42 : RG σ42 := by rw [eσ42]; exact hGσ.pI (hGσ _ _)
  have hYσ42 : TY σ42 := by rw [eσ42]; exact hYσ.pI
  have xσ42 : Ext σ σ42 := by rw [eσ42]; exact Ext.pI
  have hc : CB n0 s0 σ42 := by rw [eσ42]; exact hc
  rw [show gc σ = gc σ42 by rw [eσ42]; try rfl, show gs σ = gs σ42 by rw [eσ42]; try rfl]
  refine lv_aload_n B.1 B.2.1 dX6_next_70 rfl (lv_at hl 0 rfl) ?_
  refine f_geti B hH (hth.up xσ42) (by decide) rfl wu_X6 2 (by decide) wf_X6_25 rfl rfl dX6_next_71 ?_
  refine lv_aload_n B.1 B.2.1 dX6_next_74 rfl (lv_at hl 0 rfl) ?_
  refine f_geti B hH (hth.up xσ42) (by decide) rfl wu_X6 1 (by decide) wf_X6_21 rfl rfl dX6_next_75 ?_
  refine lv_icmp_lt (tgt := 87) B.1 B.2.1 dX6_next_78 (by decide) (fun h9 => ?_) (fun h9 => ?_)
  · rw [if_pos ((i32_lt (hGσ42 _ _) (hGσ42 _ _)).mp h9)] at h
    exact a_X6_next_87 K hQ hX hTh _ h hGσ42 hYσ42 (hE.trans xσ42) (hth.up xσ42) _ _ _ hH (lv_sub (l' := [(0, .ref th)]) hl [0] rfl) hc
  · rw [if_neg (fun q => h9 ((i32_lt (hGσ42 _ _) (hGσ42 _ _)).mpr q))] at h
    exact a_X6_next_81 K hQ hX hTh _ h hGσ42 hYσ42 (hE.trans xσ42) (hth.up xσ42) _ _ _ hH (lv_sub (l' := [(0, .ref th)]) hl [0] rfl) hc
set_option maxRecDepth 20000 in
theorem a_X6_next_46 {Q : Sg → Unit → Prop} {X : Sg → String → Prop} {th : Nat} (K : MD l R p s m args c cX6_next 2 RX6 D cA tys A n0 s0 7 111 []) (hQ : CQV p l e R s m args below meth c cX6_next D cA A n0 s0 QM σi Q) (hX : CX p l e R s m args below meth c 2 D cA A n0 s0 QM σi X) (hTh : CT p l e R s m args below meth c cX6_next 2 D cA A n0 s0 QM σi RX6 X) {K2 : Sg → Int → Prop} (hK2 : ∀ (σ : Sg) (v1 : Int) (g1 : rng v1), K2 σ v1 → RG σ → TY σ → Ext σi σ → kO σ th 6 → JJ p l e R s m args below meth c 2 D cA A n0 s0 QM σ 2 [(0, .ref th), (1, .int (i32 v1))] []) : ∀ (σ : Sg) (v1 : Int) (g1 : rng v1), w_X6_next_46 th K2 Q X σ v1 → RG σ → TY σ → Ext σi σ → kO σ th 6 → JJ p l e R s m args below meth c 2 D cA A n0 s0 QM σ 46 [(0, .ref th), (1, .int (i32 v1))] [] := by
  intro σ v1 g1 h hGσ hYσ hE hth H locs ls hH hl hc
  have B := K.1
  have hl9 := K.2.2.2.2.2.2
  unfold w_X6_next_46 at h
  refine lv_aload_n B.1 B.2.1 dX6_next_46 rfl (lv_at hl 0 rfl) ?_
  refine lv_dup B.1 B.2.1 dX6_next_47 rfl ?_
  refine f_geti B hH hth (by decide) rfl wu_X6 2 (by decide) wf_X6_25 rfl rfl dX6_next_48 ?_
  refine lv_iconst (v := i32 1) B.1 B.2.1 dX6_next_51 (by decide) ?_
  obtain ⟨q1, h⟩ := h
  refine lv_iadd B.1 B.2.1 dX6_next_52 ?_
  rw [i32_add]
  obtain ⟨σ43, eσ43⟩ : ∃ z, z = pI σ th 2 (gI σ th 2 + 1) := ⟨_, rfl⟩
  have h := h σ43 eσ43
  refine f_puti B hH hth (by decide) rfl wu_X6 tyX6 tyX6_ok nmX6 2 (by decide) wf_X6_25 rfl (ty := .int) rfl rfl rfl rfl rfl dX6_next_53 (fun H locs hH => ?_)
  have hH : Hd D cA A s (pI σ th 2 (gI σ th 2 + 1)) H locs := hH
  rw [← eσ43] at hH
  have hGσ43 : RG σ43 := by rw [eσ43]; exact hGσ.pI q1
  have hYσ43 : TY σ43 := by rw [eσ43]; exact hYσ.pI
  have xσ43 : Ext σ σ43 := by rw [eσ43]; exact Ext.pI
  have hc : CB n0 s0 σ43 := by rw [eσ43]; exact hc
  rw [show gc σ = gc σ43 by rw [eσ43]; try rfl, show gs σ = gs σ43 by rw [eσ43]; try rfl]
  obtain ⟨q2, h⟩ := h
  refine lv_iinc (k := 1) (v := i32 (v1 + 1)) (lv' := [(1, .int (i32 (v1 + 1))), (0, .ref th)]) B.1 B.2.1 dX6_next_56 hl rfl (i32_add _ _) (by decide) rfl (fun ls hl => ?_)
  refine lv_goto (tgt := 2) B.1 B.2.1 dX6_next_59 (by decide) ?_
  exact hK2 _ _ q2 h hGσ43 hYσ43 (hE.trans xσ43) (hth.up xσ43) _ _ _ hH (lv_sub (l' := [(0, .ref th), (1, .int (i32 (v1 + 1)))]) hl [1, 0] rfl) hc
set_option maxRecDepth 20000 in
theorem a_X6_next_32 {Q : Sg → Unit → Prop} {X : Sg → String → Prop} {th : Nat} (K : MD l R p s m args c cX6_next 2 RX6 D cA tys A n0 s0 7 111 []) (hQ : CQV p l e R s m args below meth c cX6_next D cA A n0 s0 QM σi Q) (hX : CX p l e R s m args below meth c 2 D cA A n0 s0 QM σi X) (hTh : CT p l e R s m args below meth c cX6_next 2 D cA A n0 s0 QM σi RX6 X) {K2 : Sg → Int → Prop} (hK2 : ∀ (σ : Sg) (v1 : Int) (g1 : rng v1), K2 σ v1 → RG σ → TY σ → Ext σi σ → kO σ th 6 → JJ p l e R s m args below meth c 2 D cA A n0 s0 QM σ 2 [(0, .ref th), (1, .int (i32 v1))] []) : ∀ (σ : Sg) (v1 : Int) (g1 : rng v1), w_X6_next_32 th K2 Q X σ v1 → RG σ → TY σ → Ext σi σ → kO σ th 6 → JJ p l e R s m args below meth c 2 D cA A n0 s0 QM σ 32 [(0, .ref th), (1, .int (i32 v1))] [] := by
  intro σ v1 g1 h hGσ hYσ hE hth H locs ls hH hl hc
  have B := K.1
  have hl9 := K.2.2.2.2.2.2
  unfold w_X6_next_32 at h
  refine lv_aload_n B.1 B.2.1 dX6_next_32 rfl (lv_at hl 0 rfl) ?_
  refine f_getp B hH hth (by decide) rfl wu_X6 0 (by decide) wf_X6_9 rfl rfl dX6_next_33 ?_
  refine lv_aload_n B.1 B.2.1 dX6_next_36 rfl (lv_at hl 0 rfl) ?_
  refine f_geti B hH hth (by decide) rfl wu_X6 2 (by decide) wf_X6_25 rfl rfl dX6_next_37 ?_
  obtain ⟨a44, ea44, h⟩ := h
  have ka44 : kO σ a44 102 := (hYσ.get hth (by decide)) a44 ea44
  have h := h ka44
  obtain ⟨q1, h⟩ := h
  refine W.eq (g2 := F0 m 40 ls [.int (i32 (gI σ th 2)), .ref a44]) (by rw [ea44]; rfl) ?_
  refine y_bald B K.2.1 hH ka44 q1 dX6_next_40 (hYσ.2 _) ?_
  refine lv_bipush (v := i32 32) B.1 B.2.1 dX6_next_41 (by decide) ?_
  refine lv_icmp_gt (tgt := 62) B.1 B.2.1 dX6_next_43 (by decide) (fun h9 => ?_) (fun h9 => ?_)
  · rw [if_pos ((i32_lt (by unfold rng; omega) (hGσ _ _)).mp h9)] at h
    exact a_X6_next_62 K hQ hX hTh _ h hGσ hYσ hE hth _ _ _ hH (lv_sub (l' := [(0, .ref th)]) hl [0] rfl) hc
  · rw [if_neg (fun q => h9 ((i32_lt (by unfold rng; omega) (hGσ _ _)).mpr q))] at h
    exact a_X6_next_46 K hQ hX hTh hK2 _ _ g1 h hGσ hYσ hE hth _ _ _ hH (lv_sub (l' := [(0, .ref th), (1, .int (i32 v1))]) hl [0, 1] rfl) hc
set_option maxRecDepth 20000 in
theorem a_X6_next_20 {Q : Sg → Unit → Prop} {X : Sg → String → Prop} {th : Nat} (K : MD l R p s m args c cX6_next 2 RX6 D cA tys A n0 s0 7 111 []) (hQ : CQV p l e R s m args below meth c cX6_next D cA A n0 s0 QM σi Q) (hX : CX p l e R s m args below meth c 2 D cA A n0 s0 QM σi X) (hTh : CT p l e R s m args below meth c cX6_next 2 D cA A n0 s0 QM σi RX6 X) {K2 : Sg → Int → Prop} (hK2 : ∀ (σ : Sg) (v1 : Int) (g1 : rng v1), K2 σ v1 → RG σ → TY σ → Ext σi σ → kO σ th 6 → JJ p l e R s m args below meth c 2 D cA A n0 s0 QM σ 2 [(0, .ref th), (1, .int (i32 v1))] []) : ∀ (σ : Sg) (v1 : Int) (g1 : rng v1), w_X6_next_20 th K2 Q X σ v1 → RG σ → TY σ → Ext σi σ → kO σ th 6 → JJ p l e R s m args below meth c 2 D cA A n0 s0 QM σ 20 [(0, .ref th), (1, .int (i32 v1))] [] := by
  intro σ v1 g1 h hGσ hYσ hE hth H locs ls hH hl hc
  have B := K.1
  have hl9 := K.2.2.2.2.2.2
  unfold w_X6_next_20 at h
  refine lv_aload_n B.1 B.2.1 dX6_next_20 rfl (lv_at hl 0 rfl) ?_
  refine f_getp B hH hth (by decide) rfl wu_X6 0 (by decide) wf_X6_9 rfl rfl dX6_next_21 ?_
  refine lv_aload_n B.1 B.2.1 dX6_next_24 rfl (lv_at hl 0 rfl) ?_
  refine f_geti B hH hth (by decide) rfl wu_X6 2 (by decide) wf_X6_25 rfl rfl dX6_next_25 ?_
  obtain ⟨a45, ea45, h⟩ := h
  have ka45 : kO σ a45 102 := (hYσ.get hth (by decide)) a45 ea45
  have h := h ka45
  obtain ⟨q1, h⟩ := h
  refine W.eq (g2 := F0 m 28 ls [.int (i32 (gI σ th 2)), .ref a45]) (by rw [ea45]; rfl) ?_
  refine y_bald B K.2.1 hH ka45 q1 dX6_next_28 (hYσ.2 _) ?_
  refine lv_if_lt (tgt := 62) B.1 B.2.1 dX6_next_29 (by decide) (fun h9 => ?_) (fun h9 => ?_)
  · rw [if_pos ((z_lt (hGσ _ _)).mp h9)] at h
    exact a_X6_next_62 K hQ hX hTh _ h hGσ hYσ hE hth _ _ _ hH (lv_sub (l' := [(0, .ref th)]) hl [0] rfl) hc
  · rw [if_neg (fun q => h9 ((z_lt (hGσ _ _)).mpr q))] at h
    exact a_X6_next_32 K hQ hX hTh hK2 _ _ g1 h hGσ hYσ hE hth _ _ _ hH (lv_sub (l' := [(0, .ref th), (1, .int (i32 v1))]) hl [0, 1] rfl) hc
set_option maxRecDepth 20000 in
theorem a_X6_next_9 {Q : Sg → Unit → Prop} {X : Sg → String → Prop} {th : Nat} (K : MD l R p s m args c cX6_next 2 RX6 D cA tys A n0 s0 7 111 []) (hQ : CQV p l e R s m args below meth c cX6_next D cA A n0 s0 QM σi Q) (hX : CX p l e R s m args below meth c 2 D cA A n0 s0 QM σi X) (hTh : CT p l e R s m args below meth c cX6_next 2 D cA A n0 s0 QM σi RX6 X) {K2 : Sg → Int → Prop} (hK2 : ∀ (σ : Sg) (v1 : Int) (g1 : rng v1), K2 σ v1 → RG σ → TY σ → Ext σi σ → kO σ th 6 → JJ p l e R s m args below meth c 2 D cA A n0 s0 QM σ 2 [(0, .ref th), (1, .int (i32 v1))] []) : ∀ (σ : Sg) (v1 : Int) (g1 : rng v1), w_X6_next_9 th K2 Q X σ v1 → RG σ → TY σ → Ext σi σ → kO σ th 6 → JJ p l e R s m args below meth c 2 D cA A n0 s0 QM σ 9 [(0, .ref th), (1, .int (i32 v1))] [] := by
  intro σ v1 g1 h hGσ hYσ hE hth H locs ls hH hl hc
  have B := K.1
  have hl9 := K.2.2.2.2.2.2
  unfold w_X6_next_9 at h
  refine lv_aload_n B.1 B.2.1 dX6_next_9 rfl (lv_at hl 0 rfl) ?_
  refine f_geti B hH hth (by decide) rfl wu_X6 2 (by decide) wf_X6_25 rfl rfl dX6_next_10 ?_
  refine lv_aload_n B.1 B.2.1 dX6_next_13 rfl (lv_at hl 0 rfl) ?_
  refine f_geti B hH hth (by decide) rfl wu_X6 1 (by decide) wf_X6_21 rfl rfl dX6_next_14 ?_
  refine lv_icmp_ge (tgt := 62) B.1 B.2.1 dX6_next_17 (by decide) (fun h9 => ?_) (fun h9 => ?_)
  · rw [if_pos ((i32_le (hGσ _ _) (hGσ _ _)).mp h9)] at h
    exact a_X6_next_62 K hQ hX hTh _ h hGσ hYσ hE hth _ _ _ hH (lv_sub (l' := [(0, .ref th)]) hl [0] rfl) hc
  · rw [if_neg (fun q => h9 ((i32_le (hGσ _ _) (hGσ _ _)).mpr q))] at h
    exact a_X6_next_20 K hQ hX hTh hK2 _ _ g1 h hGσ hYσ hE hth _ _ _ hH (lv_sub (l' := [(0, .ref th), (1, .int (i32 v1))]) hl [0, 1] rfl) hc
set_option maxRecDepth 20000 in
theorem a_X6_next_2 {Q : Sg → Unit → Prop} {X : Sg → String → Prop} {th : Nat} (K : MD l R p s m args c cX6_next 2 RX6 D cA tys A n0 s0 7 111 []) (hQ : CQV p l e R s m args below meth c cX6_next D cA A n0 s0 QM σi Q) (hX : CX p l e R s m args below meth c 2 D cA A n0 s0 QM σi X) (hTh : CT p l e R s m args below meth c cX6_next 2 D cA A n0 s0 QM σi RX6 X) {K2 : Sg → Int → Prop} (hK2 : ∀ (σ : Sg) (v1 : Int) (g1 : rng v1), K2 σ v1 → RG σ → TY σ → Ext σi σ → kO σ th 6 → JJ p l e R s m args below meth c 2 D cA A n0 s0 QM σ 2 [(0, .ref th), (1, .int (i32 v1))] []) : ∀ (σ : Sg) (v1 : Int) (g1 : rng v1), w_X6_next_2 th K2 Q X σ v1 → RG σ → TY σ → Ext σi σ → kO σ th 6 → JJ p l e R s m args below meth c 2 D cA A n0 s0 QM σ 2 [(0, .ref th), (1, .int (i32 v1))] [] := by
  intro σ v1 g1 h hGσ hYσ hE hth H locs ls hH hl hc
  have B := K.1
  have hl9 := K.2.2.2.2.2.2
  unfold w_X6_next_2 at h
  refine lv_iload_n B.1 B.2.1 dX6_next_2 rfl (lv_at hl 1 rfl) ?_
  refine lv_sipush (v := i32 1500) B.1 B.2.1 dX6_next_3 (by decide) ?_
  refine lv_icmp_ge (tgt := 62) B.1 B.2.1 dX6_next_6 (by decide) (fun h9 => ?_) (fun h9 => ?_)
  · rw [if_pos ((i32_le (by unfold rng; omega) g1).mp h9)] at h
    exact a_X6_next_62 K hQ hX hTh _ h hGσ hYσ hE hth _ _ _ hH (lv_sub (l' := [(0, .ref th)]) hl [0] rfl) hc
  · rw [if_neg (fun q => h9 ((i32_le (by unfold rng; omega) g1).mpr q))] at h
    exact a_X6_next_9 K hQ hX hTh hK2 _ _ g1 h hGσ hYσ hE hth _ _ _ hH (lv_sub (l' := [(0, .ref th), (1, .int (i32 v1))]) hl [0, 1] rfl) hc
theorem al_X6_next_2 {Q : Sg → Unit → Prop} {X : Sg → String → Prop} {th : Nat} (K : MD l R p s m args c cX6_next 2 RX6 D cA tys A n0 s0 7 111 []) (hQ : CQV p l e R s m args below meth c cX6_next D cA A n0 s0 QM σi Q) (hX : CX p l e R s m args below meth c 2 D cA A n0 s0 QM σi X) (hTh : CT p l e R s m args below meth c cX6_next 2 D cA A n0 s0 QM σi RX6 X) : ∀ (n : Nat), ∀ (σ : Sg) (v1 : Int) (g1 : rng v1), wl_X6_next_2 th Q X n σ v1 → RG σ → TY σ → Ext σi σ → kO σ th 6 → JJ p l e R s m args below meth c 2 D cA A n0 s0 QM σ 2 [(0, .ref th), (1, .int (i32 v1))] [] := by
  intro n
  induction n with
  | zero => intro σ v1 g1 h; exact h.elim
  | succ n ih => exact fun σ v1 g1 h => a_X6_next_2 K hQ hX hTh ih σ v1 g1 h
set_option maxRecDepth 20000 in
theorem a_X6_next_0 {Q : Sg → Unit → Prop} {X : Sg → String → Prop} {th : Nat} (K : MD l R p s m args c cX6_next 2 RX6 D cA tys A n0 s0 7 111 []) (hQ : CQV p l e R s m args below meth c cX6_next D cA A n0 s0 QM σi Q) (hX : CX p l e R s m args below meth c 2 D cA A n0 s0 QM σi X) (hTh : CT p l e R s m args below meth c cX6_next 2 D cA A n0 s0 QM σi RX6 X) : ∀ (σ : Sg), w_X6_next_0 th Q X σ → RG σ → TY σ → Ext σi σ → kO σ th 6 → JJ p l e R s m args below meth c 2 D cA A n0 s0 QM σ 0 [(0, .ref th)] [] := by
  intro σ h hGσ hYσ hE hth H locs ls hH hl hc
  have B := K.1
  have hl9 := K.2.2.2.2.2.2
  unfold w_X6_next_0 at h
  refine lv_iconst (v := i32 0) B.1 B.2.1 dX6_next_0 (by decide) ?_
  refine lv_istore_n (lv' := [(1, .int (i32 0)), (0, .ref th)]) B.1 B.2.1 dX6_next_1 rfl hl (by decide) rfl (fun ls hl => ?_)
  obtain ⟨n9, h⟩ := h
  exact al_X6_next_2 K hQ hX hTh n9 _ _ (by unfold rng; omega) h hGσ hYσ hE hth _ _ _ hH (lv_sub (l' := [(0, .ref th), (1, .int (i32 0))]) hl [1, 0] rfl) hc
theorem ok_X6_next (hl0 : l.stackTraces = false) (hT : TyC cA tys) {Q : Sg → Unit → Prop} {X : Sg → String → Prop} (σ : Sg) (th : Nat) (hth : kO σ th 6) (hG : RG σ) (hY : TY σ) (h : wp_X6_next th σ Q X) : Ok l D cA tys A yX6_next (.code yX6_next cX6_next 2 none) 7 111 [.ref th] σ (QcV σ Q) (QxC σ X) := by
  unfold wp_X6_next at h
  exact oc_V hl0 (by decide) (by exact Nat.le_of_ble_eq_true rfl) hT (fun p e R s m args below meth c K hQ hX hTh hin9 H locs ls hH hl hc => a_X6_next_0 K hQ hX hTh σ h hG hY (Ext.rfl' σ) hth H locs ls hH (lv_sub (l' := [(0, .ref th)]) hl [0] rfl) hc)
theorem dX6_wantSign_0 : decode cX6_wantSign 0 = .ok (.aload_n 0, 1) := by decide +kernel
theorem dX6_wantSign_1 : decode cX6_wantSign 1 = .ok (.iload_n 1, 1) := by decide +kernel
theorem dX6_wantSign_2 : decode cX6_wantSign 2 = .ok (.invokevirtual 171, 3) := by decide +kernel
theorem dX6_wantSign_5 : decode cX6_wantSign 5 = .ok (.ifCond .ne 7, 3) := by decide +kernel
theorem dX6_wantSign_8 : decode cX6_wantSign 8 = .ok (.aload_n 0, 1) := by decide +kernel
theorem dX6_wantSign_9 : decode cX6_wantSign 9 = .ok (.invokevirtual 70, 3) := by decide +kernel
theorem dX6_wantSign_12 : decode cX6_wantSign 12 = .ok (.aload_n 0, 1) := by decide +kernel
theorem dX6_wantSign_13 : decode cX6_wantSign 13 = .ok (.invokevirtual 40, 3) := by decide +kernel
theorem dX6_wantSign_16 : decode cX6_wantSign 16 = .ok (.return_, 1) := by decide +kernel
set_option maxRecDepth 20000 in
theorem a_X6_wantSign_12 {Q : Sg → Unit → Prop} {X : Sg → String → Prop} {th : Nat} (K : MD l R p s m args c cX6_wantSign 2 RX6 D cA tys A n0 s0 8 132 []) (hQ : CQV p l e R s m args below meth c cX6_wantSign D cA A n0 s0 QM σi Q) (hX : CX p l e R s m args below meth c 2 D cA A n0 s0 QM σi X) (hTh : CT p l e R s m args below meth c cX6_wantSign 2 D cA A n0 s0 QM σi RX6 X) : ∀ (σ : Sg), w_X6_wantSign_12 th Q X σ → RG σ → TY σ → Ext σi σ → kO σ th 6 → JJ p l e R s m args below meth c 2 D cA A n0 s0 QM σ 12 [(0, .ref th)] [] := by
  intro σ h hGσ hYσ hE hth H locs ls hH hl hc
  have B := K.1
  have hl9 := K.2.2.2.2.2.2
  unfold w_X6_wantSign_12 at h
  refine lv_aload_n B.1 B.2.1 dX6_wantSign_12 rfl (lv_at hl 0 rfl) ?_
  refine W.eq (g2 := F0 m 13 ls [.ref th]) (rfl) ?_
  refine c_V B hH hl hc K.2.2.1 (C := RX6) (T := TX6) (N := 9) (ci := 6) (As := []) (ok_X6_next hl9 K.2.1 σ th hth hGσ hYσ h) wc_X6_40 0 hd_X6_next ⟨Nat.le_trans (Nat.le_of_ble_eq_true rfl) K.2.2.2.1, Nat.le_trans (Nat.le_of_ble_eq_true rfl) K.2.2.2.2.1⟩ hth.1 hth.2 (by decide) rfl rfl (rest := []) rfl (Nat.le_of_ble_eq_true rfl) dX6_wantSign_13 (fun σ9 w hq => ?_) (fun σ9 E9 hx9 => hX σ9 E9 _ _ _ (tb_out K.2.2.2.2.2.1 rfl) hx9.1 hx9.2.1 hx9.2.2.1 (hE.trans hx9.2.2.2))
  obtain ⟨rfl, h, hGσ9, hYσ9, xσ9⟩ := hq
  have h := h xσ9
  intro H locs ls hH hl hc
  refine W.eq (g2 := F0 m 16 ls []) (rfl) ?_
  try dsimp only at h
  exact hQ _ _ _ _ _ dX6_wantSign_16 hH hc h hGσ9 hYσ9 (hE.trans xσ9)
set_option maxRecDepth 20000 in
theorem a_X6_wantSign_8 {Q : Sg → Unit → Prop} {X : Sg → String → Prop} {th : Nat} (K : MD l R p s m args c cX6_wantSign 2 RX6 D cA tys A n0 s0 8 132 []) (hQ : CQV p l e R s m args below meth c cX6_wantSign D cA A n0 s0 QM σi Q) (hX : CX p l e R s m args below meth c 2 D cA A n0 s0 QM σi X) (hTh : CT p l e R s m args below meth c cX6_wantSign 2 D cA A n0 s0 QM σi RX6 X) : ∀ (σ : Sg), w_X6_wantSign_8 th Q X σ → RG σ → TY σ → Ext σi σ → kO σ th 6 → JJ p l e R s m args below meth c 2 D cA A n0 s0 QM σ 8 [(0, .ref th)] [] := by
  intro σ h hGσ hYσ hE hth H locs ls hH hl hc
  have B := K.1
  have hl9 := K.2.2.2.2.2.2
  unfold w_X6_wantSign_8 at h
  refine lv_aload_n B.1 B.2.1 dX6_wantSign_8 rfl (lv_at hl 0 rfl) ?_
  refine W.eq (g2 := F0 m 9 ls [.ref th]) (rfl) ?_
  refine c_V B hH hl hc K.2.2.1 (C := RX6) (T := TX6) (N := 9) (ci := 6) (As := []) (ok_X6_cannotStand hl9 K.2.1 σ th hth hGσ hYσ h) wc_X6_70 0 hd_X6_cannotStand ⟨Nat.le_trans (Nat.le_of_ble_eq_true rfl) K.2.2.2.1, Nat.le_trans (Nat.le_of_ble_eq_true rfl) K.2.2.2.2.1⟩ hth.1 hth.2 (by decide) rfl rfl (rest := []) rfl (Nat.le_of_ble_eq_true rfl) dX6_wantSign_9 (fun σ10 w hq => ?_) (fun σ9 E9 hx9 => hX σ9 E9 _ _ _ (tb_out K.2.2.2.2.2.1 rfl) hx9.1 hx9.2.1 hx9.2.2.1 (hE.trans hx9.2.2.2))
  obtain ⟨rfl, h, hGσ10, hYσ10, xσ10⟩ := hq
  have h := h xσ10
  intro H locs ls hH hl hc
  refine W.eq (g2 := F0 m 12 ls []) (rfl) ?_
  try dsimp only at h
  exact a_X6_wantSign_12 K hQ hX hTh _ h hGσ10 hYσ10 (hE.trans xσ10) (hth.up xσ10) _ _ _ hH (lv_sub (l' := [(0, .ref th)]) hl [0] rfl) hc
set_option maxRecDepth 20000 in
theorem a_X6_wantSign_0 {Q : Sg → Unit → Prop} {X : Sg → String → Prop} {th : Nat} (K : MD l R p s m args c cX6_wantSign 2 RX6 D cA tys A n0 s0 8 132 []) (hQ : CQV p l e R s m args below meth c cX6_wantSign D cA A n0 s0 QM σi Q) (hX : CX p l e R s m args below meth c 2 D cA A n0 s0 QM σi X) (hTh : CT p l e R s m args below meth c cX6_wantSign 2 D cA A n0 s0 QM σi RX6 X) : ∀ (σ : Sg) (v1 : Int) (g1 : rng v1), w_X6_wantSign_0 th Q X σ v1 → RG σ → TY σ → Ext σi σ → kO σ th 6 → JJ p l e R s m args below meth c 2 D cA A n0 s0 QM σ 0 [(0, .ref th), (1, .int (i32 v1))] [] := by
  intro σ v1 g1 h hGσ hYσ hE hth H locs ls hH hl hc
  have B := K.1
  have hl9 := K.2.2.2.2.2.2
  unfold w_X6_wantSign_0 at h
  refine lv_aload_n B.1 B.2.1 dX6_wantSign_0 rfl (lv_at hl 0 rfl) ?_
  refine lv_iload_n B.1 B.2.1 dX6_wantSign_1 rfl (lv_at hl 1 rfl) ?_
  refine W.eq (g2 := F0 m 2 ls [.int (i32 v1), .ref th]) (rfl) ?_
  refine c_V B hH hl hc K.2.2.1 (C := RX6) (T := TX6) (N := 9) (ci := 6) (As := [.int (i32 v1)]) (ok_X6_isSign hl9 K.2.1 σ th v1 g1 hth hGσ hYσ h) wc_X6_171 1 hd_X6_isSign ⟨Nat.le_trans (Nat.le_of_ble_eq_true rfl) K.2.2.2.1, Nat.le_trans (Nat.le_of_ble_eq_true rfl) K.2.2.2.2.1⟩ hth.1 hth.2 (by decide) rfl rfl (rest := []) rfl (Nat.le_of_ble_eq_true rfl) dX6_wantSign_2 (fun σ11 w hq => ?_) (fun σ9 E9 hx9 => hX σ9 E9 _ _ _ (tb_out K.2.2.2.2.2.1 rfl) hx9.1 hx9.2.1 hx9.2.2.1 (hE.trans hx9.2.2.2))
  obtain ⟨r12, rfl, ⟨gr12, gzr12⟩, h, hGσ11, hYσ11, xσ11⟩ := hq
  have h := h xσ11
  intro H locs ls hH hl hc
  refine W.eq (g2 := F0 m 5 ls [.int (i32 r12)]) (rfl) ?_
  try dsimp only at h
  refine lv_if_ne (tgt := 12) B.1 B.2.1 dX6_wantSign_5 (by decide) (fun h9 => ?_) (fun h9 => ?_)
  · rw [if_pos (fun q => h9 ((z_eq gr12).mpr q))] at h
    exact a_X6_wantSign_12 K hQ hX hTh _ h hGσ11 hYσ11 (hE.trans xσ11) (hth.up xσ11) _ _ _ hH (lv_sub (l' := [(0, .ref th)]) hl [0] rfl) hc
  · rw [if_neg (fun q => q ((z_eq gr12).mp h9))] at h
    exact a_X6_wantSign_8 K hQ hX hTh _ h hGσ11 hYσ11 (hE.trans xσ11) (hth.up xσ11) _ _ _ hH (lv_sub (l' := [(0, .ref th)]) hl [0] rfl) hc
theorem ok_X6_wantSign (hl0 : l.stackTraces = false) (hT : TyC cA tys) {Q : Sg → Unit → Prop} {X : Sg → String → Prop} (σ : Sg) (th : Nat) (v1 : Int) (g1 : rng v1) (hth : kO σ th 6) (hG : RG σ) (hY : TY σ) (h : wp_X6_wantSign th v1 σ Q X) : Ok l D cA tys A yX6_wantSign (.code yX6_wantSign cX6_wantSign 2 none) 8 132 [.ref th, .int (i32 v1)] σ (QcV σ Q) (QxC σ X) := by
  unfold wp_X6_wantSign at h
  exact oc_V hl0 (by decide) (by exact Nat.le_of_ble_eq_true rfl) hT (fun p e R s m args below meth c K hQ hX hTh hin9 H locs ls hH hl hc => a_X6_wantSign_0 K hQ hX hTh σ v1 g1 h hG hY (Ext.rfl' σ) hth H locs ls hH (lv_sub (l' := [(0, .ref th), (1, .int (i32 v1))]) hl [0, 1] rfl) hc)
def HRD (l : Launch) (D : va_G) (cA : Nat → ClassId) (tys : List (ClassId × FieldType)) (A : Nat → Prop) (th fr0 lw0 : Nat) (rc : Nat → Int → Int → Sg → (Sg → Unit → Prop) → (Sg → String → Prop) → Prop) : Prop := (∀ (σ : Sg) (v1 v2 : Int), rng v1 → rng v2 → kO σ th 6 → RG σ → TY σ → ∀ {Q : Sg → Unit → Prop} {X : Sg → String → Prop}, rc 0 v1 v2 σ Q X → Ok l D cA tys A yX6_value (.code yX6_value cX6_value 4 none) fr0 lw0 [.ref th, .int (i32 v1)] σ (QcV σ Q) (QxC σ X)) ∧ (∀ (σ : Sg) (v1 v2 : Int), rng v1 → rng v2 → kO σ th 6 → RG σ → TY σ → ∀ {Q : Sg → Unit → Prop} {X : Sg → String → Prop}, rc 1 v1 v2 σ Q X → Ok l D cA tys A yX6_binary (.code yX6_binary cX6_binary 6 none) fr0 lw0 [.ref th, .int (i32 v1), .int (i32 v2)] σ (QcV σ Q) (QxC σ X)) ∧ (∀ (σ : Sg) (v1 v2 : Int), rng v1 → rng v2 → kO σ th 6 → RG σ → TY σ → ∀ {Q : Sg → Unit → Prop} {X : Sg → String → Prop}, rc 2 v1 v2 σ Q X → Ok l D cA tys A yX6_prefixed (.code yX6_prefixed cX6_prefixed 3 none) fr0 lw0 [.ref th, .int (i32 v1)] σ (QcV σ Q) (QxC σ X)) ∧ (∀ (σ : Sg) (v1 v2 : Int), rng v1 → rng v2 → kO σ th 6 → RG σ → TY σ → ∀ {Q : Sg → Unit → Prop} {X : Sg → String → Prop}, rc 3 v1 v2 σ Q X → Ok l D cA tys A yX6_atom (.code yX6_atom cX6_atom 2 none) fr0 lw0 [.ref th, .int (i32 v1)] σ (QcV σ Q) (QxC σ X))
theorem dX6_value_0 : decode cX6_value 0 = .ok (.aload_n 0, 1) := by decide +kernel
theorem dX6_value_1 : decode cX6_value 1 = .ok (.iconst 0, 1) := by decide +kernel
theorem dX6_value_2 : decode cX6_value 2 = .ok (.iload_n 1, 1) := by decide +kernel
theorem dX6_value_3 : decode cX6_value 3 = .ok (.invokevirtual 243, 3) := by decide +kernel
theorem dX6_value_6 : decode cX6_value 6 = .ok (.aload_n 0, 1) := by decide +kernel
theorem dX6_value_7 : decode cX6_value 7 = .ok (.bipush 63, 2) := by decide +kernel
theorem dX6_value_9 : decode cX6_value 9 = .ok (.invokevirtual 171, 3) := by decide +kernel
theorem dX6_value_12 : decode cX6_value 12 = .ok (.ifCond .ne 4, 3) := by decide +kernel
theorem dX6_value_15 : decode cX6_value 15 = .ok (.return_, 1) := by decide +kernel
theorem dX6_value_16 : decode cX6_value 16 = .ok (.aload_n 0, 1) := by decide +kernel
theorem dX6_value_17 : decode cX6_value 17 = .ok (.iload_n 1, 1) := by decide +kernel
theorem dX6_value_18 : decode cX6_value 18 = .ok (.invokevirtual 247, 3) := by decide +kernel
theorem dX6_value_21 : decode cX6_value 21 = .ok (.aload_n 0, 1) := by decide +kernel
theorem dX6_value_22 : decode cX6_value 22 = .ok (.invokevirtual 40, 3) := by decide +kernel
theorem dX6_value_25 : decode cX6_value 25 = .ok (.aload_n 0, 1) := by decide +kernel
theorem dX6_value_26 : decode cX6_value 26 = .ok (.getfield 31, 3) := by decide +kernel
theorem dX6_value_29 : decode cX6_value 29 = .ok (.bipush 8, 2) := by decide +kernel
theorem dX6_value_31 : decode cX6_value 31 = .ok (.lconst 0, 1) := by decide +kernel
theorem dX6_value_32 : decode cX6_value 32 = .ok (.invokevirtual 167, 3) := by decide +kernel
theorem dX6_value_35 : decode cX6_value 35 = .ok (.istore_n 2, 1) := by decide +kernel
theorem dX6_value_36 : decode cX6_value 36 = .ok (.aload_n 0, 1) := by decide +kernel
theorem dX6_value_37 : decode cX6_value 37 = .ok (.iload_n 1, 1) := by decide +kernel
theorem dX6_value_38 : decode cX6_value 38 = .ok (.iconst 1, 1) := by decide +kernel
theorem dX6_value_39 : decode cX6_value 39 = .ok (.iadd, 1) := by decide +kernel
theorem dX6_value_40 : decode cX6_value 40 = .ok (.invokevirtual 165, 3) := by decide +kernel
theorem dX6_value_43 : decode cX6_value 43 = .ok (.aload_n 0, 1) := by decide +kernel
theorem dX6_value_44 : decode cX6_value 44 = .ok (.bipush 58, 2) := by decide +kernel
theorem dX6_value_46 : decode cX6_value 46 = .ok (.invokevirtual 57, 3) := by decide +kernel
theorem dX6_value_49 : decode cX6_value 49 = .ok (.aload_n 0, 1) := by decide +kernel
theorem dX6_value_50 : decode cX6_value 50 = .ok (.getfield 31, 3) := by decide +kernel
theorem dX6_value_53 : decode cX6_value 53 = .ok (.bipush 7, 2) := by decide +kernel
theorem dX6_value_55 : decode cX6_value 55 = .ok (.lconst 0, 1) := by decide +kernel
theorem dX6_value_56 : decode cX6_value 56 = .ok (.invokevirtual 167, 3) := by decide +kernel
theorem dX6_value_59 : decode cX6_value 59 = .ok (.istore_n 3, 1) := by decide +kernel
theorem dX6_value_60 : decode cX6_value 60 = .ok (.aload_n 0, 1) := by decide +kernel
theorem dX6_value_61 : decode cX6_value 61 = .ok (.getfield 31, 3) := by decide +kernel
theorem dX6_value_64 : decode cX6_value 64 = .ok (.iload_n 2, 1) := by decide +kernel
theorem dX6_value_65 : decode cX6_value 65 = .ok (.invokevirtual 250, 3) := by decide +kernel
theorem dX6_value_68 : decode cX6_value 68 = .ok (.aload_n 0, 1) := by decide +kernel
theorem dX6_value_69 : decode cX6_value 69 = .ok (.iload_n 1, 1) := by decide +kernel
theorem dX6_value_70 : decode cX6_value 70 = .ok (.iconst 1, 1) := by decide +kernel
theorem dX6_value_71 : decode cX6_value 71 = .ok (.iadd, 1) := by decide +kernel
theorem dX6_value_72 : decode cX6_value 72 = .ok (.invokevirtual 165, 3) := by decide +kernel
theorem dX6_value_75 : decode cX6_value 75 = .ok (.aload_n 0, 1) := by decide +kernel
theorem dX6_value_76 : decode cX6_value 76 = .ok (.getfield 31, 3) := by decide +kernel
theorem dX6_value_79 : decode cX6_value 79 = .ok (.iload_n 3, 1) := by decide +kernel
theorem dX6_value_80 : decode cX6_value 80 = .ok (.invokevirtual 250, 3) := by decide +kernel
theorem dX6_value_83 : decode cX6_value 83 = .ok (.return_, 1) := by decide +kernel
set_option maxRecDepth 20000 in
theorem a_X6_value_16 {Q : Sg → Unit → Prop} {X : Sg → String → Prop} {th : Nat} {fr0 lw0 : Nat} {rc : Nat → Int → Int → Sg → (Sg → Unit → Prop) → (Sg → String → Prop) → Prop} (K : MD l R p s m args c cX6_value 4 RX6 D cA tys A n0 s0 (fr0 + 1) (lw0 + 60) []) (hQ : CQV p l e R s m args below meth c cX6_value D cA A n0 s0 QM σi Q) (hX : CX p l e R s m args below meth c 4 D cA A n0 s0 QM σi X) (hTh : CT p l e R s m args below meth c cX6_value 4 D cA A n0 s0 QM σi RX6 X) (hRC : HRD l D cA tys A th fr0 lw0 rc) (hf0 : 40 ≤ fr0) (hl1 : 4000 ≤ lw0) : ∀ (σ : Sg) (v1 : Int) (g1 : rng v1), w_X6_value_16 th rc Q X σ v1 → RG σ → TY σ → Ext σi σ → kO σ th 6 → JJ p l e R s m args below meth c 4 D cA A n0 s0 QM σ 16 [(0, .ref th), (1, .int (i32 v1))] [] := by
  intro σ v1 g1 h hGσ hYσ hE hth H locs ls hH hl hc
  have B := K.1
  have hl9 := K.2.2.2.2.2.2
  unfold w_X6_value_16 at h
  refine lv_aload_n B.1 B.2.1 dX6_value_16 rfl (lv_at hl 0 rfl) ?_
  refine lv_iload_n B.1 B.2.1 dX6_value_17 rfl (lv_at hl 1 rfl) ?_
  refine W.eq (g2 := F0 m 18 ls [.int (i32 v1), .ref th]) (rfl) ?_
  refine c_V B hH hl hc K.2.2.1 (C := RX6) (T := TX6) (N := 9) (ci := 6) (As := [.int (i32 v1)]) (ok_X6_goDeeper hl9 K.2.1 σ th v1 g1 hth hGσ hYσ h) wc_X6_247 1 hd_X6_goDeeper ⟨by have := K.2.2.2.1; omega, by have := K.2.2.2.2.1; omega⟩ hth.1 hth.2 (by decide) rfl rfl (rest := []) rfl (Nat.le_of_ble_eq_true rfl) dX6_value_18 (fun σ37 w hq => ?_) (fun σ9 E9 hx9 => hX σ9 E9 _ _ _ (tb_out K.2.2.2.2.2.1 rfl) hx9.1 hx9.2.1 hx9.2.2.1 (hE.trans hx9.2.2.2))
  obtain ⟨rfl, h, hGσ37, hYσ37, xσ37⟩ := hq
  have h := h xσ37
  intro H locs ls hH hl hc
  refine W.eq (g2 := F0 m 21 ls []) (rfl) ?_
  try dsimp only at h
  refine lv_aload_n B.1 B.2.1 dX6_value_21 rfl (lv_at hl 0 rfl) ?_
  refine W.eq (g2 := F0 m 22 ls [.ref th]) (rfl) ?_
  refine c_V B hH hl hc K.2.2.1 (C := RX6) (T := TX6) (N := 9) (ci := 6) (As := []) (ok_X6_next hl9 K.2.1 σ37 th (hth.up xσ37) hGσ37 hYσ37 h) wc_X6_40 0 hd_X6_next ⟨by have := K.2.2.2.1; omega, by have := K.2.2.2.2.1; omega⟩ (hth.up xσ37).1 (hth.up xσ37).2 (by decide) rfl rfl (rest := []) rfl (Nat.le_of_ble_eq_true rfl) dX6_value_22 (fun σ38 w hq => ?_) (fun σ9 E9 hx9 => hX σ9 E9 _ _ _ (tb_out K.2.2.2.2.2.1 rfl) hx9.1 hx9.2.1 hx9.2.2.1 ((hE.trans xσ37).trans hx9.2.2.2))
  obtain ⟨rfl, h, hGσ38, hYσ38, xσ38⟩ := hq
  have h := h xσ38
  intro H locs ls hH hl hc
  refine W.eq (g2 := F0 m 25 ls []) (rfl) ?_
  try dsimp only at h
  refine lv_aload_n B.1 B.2.1 dX6_value_25 rfl (lv_at hl 0 rfl) ?_
  refine f_getp B hH (hth.up (xσ37.trans xσ38)) (by decide) rfl wu_X6 7 (by decide) wf_X6_31 rfl rfl dX6_value_26 ?_
  refine lv_bipush (v := i32 8) B.1 B.2.1 dX6_value_29 (by decide) ?_
  refine lv_lconst (v := 0) B.1 B.2.1 dX6_value_31 (by decide) ?_
  obtain ⟨a41, ea41, h⟩ := h
  have ka41 : kO σ38 a41 4 := (hYσ38.get (hth.up (xσ37.trans xσ38)) (by decide)) a41 ea41
  have h := h ka41
  refine W.eq (g2 := F0 m 32 ls [.long 0, .int (i32 8), .ref a41]) (by rw [ea41]; rfl) ?_
  refine c_V B hH hl hc K.2.2.1 (C := RX4) (T := TX4) (N := 14) (ci := 4) (As := [.int (i32 8), .long 0]) (ok_X4_emit hl9 K.2.1 σ38 a41 8 0 (by unfold rng; omega) ka41 hGσ38 hYσ38 h) wc_X6_167 2 hd_X4_emit ⟨by have := K.2.2.2.1; omega, by have := K.2.2.2.2.1; omega⟩ ka41.1 ka41.2 (by decide) rfl rfl (rest := []) rfl (Nat.le_of_ble_eq_true rfl) dX6_value_32 (fun σ39 w hq => ?_) (fun σ9 E9 hx9 => hX σ9 E9 _ _ _ (tb_out K.2.2.2.2.2.1 rfl) hx9.1 hx9.2.1 hx9.2.2.1 (((hE.trans xσ37).trans xσ38).trans hx9.2.2.2))
  obtain ⟨r40, rfl, gr40, h, hGσ39, hYσ39, xσ39⟩ := hq
  have h := h xσ39
  intro H locs ls hH hl hc
  refine W.eq (g2 := F0 m 35 ls [.int (i32 r40)]) (rfl) ?_
  try dsimp only at h
  refine lv_istore_n (lv' := [(2, .int (i32 r40)), (0, .ref th), (1, .int (i32 v1))]) B.1 B.2.1 dX6_value_35 rfl hl (by decide) rfl (fun ls hl => ?_)
  refine lv_aload_n B.1 B.2.1 dX6_value_36 rfl (lv_at hl 1 rfl) ?_
  refine lv_iload_n B.1 B.2.1 dX6_value_37 rfl (lv_at hl 2 rfl) ?_
  refine lv_iconst (v := i32 1) B.1 B.2.1 dX6_value_38 (by decide) ?_
  obtain ⟨q1, h⟩ := h
  refine lv_iadd B.1 B.2.1 dX6_value_39 ?_
  rw [i32_add]
  refine W.eq (g2 := F0 m 40 ls [.int (i32 (v1 + 1)), .ref th]) (rfl) ?_
  refine c_V B hH hl hc K.2.2.1 (C := RX6) (T := TX6) (N := 9) (ci := 6) (As := [.int (i32 (v1 + 1))]) (hRC.1 σ39 (v1 + 1) 0 q1 (by unfold rng; omega) (hth.up (xσ37.trans (xσ38.trans xσ39))) hGσ39 hYσ39 h) wc_X6_165 1 hd_X6_value ⟨by have := K.2.2.2.1; omega, by have := K.2.2.2.2.1; omega⟩ (hth.up (xσ37.trans (xσ38.trans xσ39))).1 (hth.up (xσ37.trans (xσ38.trans xσ39))).2 (by decide) rfl rfl (rest := []) rfl (Nat.le_of_ble_eq_true rfl) dX6_value_40 (fun σ42 w hq => ?_) (fun σ9 E9 hx9 => hX σ9 E9 _ _ _ (tb_out K.2.2.2.2.2.1 rfl) hx9.1 hx9.2.1 hx9.2.2.1 ((((hE.trans xσ37).trans xσ38).trans xσ39).trans hx9.2.2.2))
  obtain ⟨rfl, h, hGσ42, hYσ42, xσ42⟩ := hq
  have h := h xσ42
  intro H locs ls hH hl hc
  refine W.eq (g2 := F0 m 43 ls []) (rfl) ?_
  try dsimp only at h
  refine lv_aload_n B.1 B.2.1 dX6_value_43 rfl (lv_at hl 1 rfl) ?_
  refine lv_bipush (v := i32 58) B.1 B.2.1 dX6_value_44 (by decide) ?_
  refine W.eq (g2 := F0 m 46 ls [.int (i32 58), .ref th]) (rfl) ?_
  refine c_V B hH hl hc K.2.2.1 (C := RX6) (T := TX6) (N := 9) (ci := 6) (As := [.int (i32 58)]) (ok_X6_wantSign hl9 K.2.1 σ42 th 58 (by unfold rng; omega) (hth.up (xσ37.trans (xσ38.trans (xσ39.trans xσ42)))) hGσ42 hYσ42 h) wc_X6_57 1 hd_X6_wantSign ⟨by have := K.2.2.2.1; omega, by have := K.2.2.2.2.1; omega⟩ (hth.up (xσ37.trans (xσ38.trans (xσ39.trans xσ42)))).1 (hth.up (xσ37.trans (xσ38.trans (xσ39.trans xσ42)))).2 (by decide) rfl rfl (rest := []) rfl (Nat.le_of_ble_eq_true rfl) dX6_value_46 (fun σ43 w hq => ?_) (fun σ9 E9 hx9 => hX σ9 E9 _ _ _ (tb_out K.2.2.2.2.2.1 rfl) hx9.1 hx9.2.1 hx9.2.2.1 (((((hE.trans xσ37).trans xσ38).trans xσ39).trans xσ42).trans hx9.2.2.2))
  obtain ⟨rfl, h, hGσ43, hYσ43, xσ43⟩ := hq
  have h := h xσ43
  intro H locs ls hH hl hc
  refine W.eq (g2 := F0 m 49 ls []) (rfl) ?_
  try dsimp only at h
  refine lv_aload_n B.1 B.2.1 dX6_value_49 rfl (lv_at hl 1 rfl) ?_
  refine f_getp B hH (hth.up (xσ37.trans (xσ38.trans (xσ39.trans (xσ42.trans xσ43))))) (by decide) rfl wu_X6 7 (by decide) wf_X6_31 rfl rfl dX6_value_50 ?_
  refine lv_bipush (v := i32 7) B.1 B.2.1 dX6_value_53 (by decide) ?_
  refine lv_lconst (v := 0) B.1 B.2.1 dX6_value_55 (by decide) ?_
  obtain ⟨a46, ea46, h⟩ := h
  have ka46 : kO σ43 a46 4 := (hYσ43.get (hth.up (xσ37.trans (xσ38.trans (xσ39.trans (xσ42.trans xσ43))))) (by decide)) a46 ea46
  have h := h ka46
  refine W.eq (g2 := F0 m 56 ls [.long 0, .int (i32 7), .ref a46]) (by rw [ea46]; rfl) ?_
  refine c_V B hH hl hc K.2.2.1 (C := RX4) (T := TX4) (N := 14) (ci := 4) (As := [.int (i32 7), .long 0]) (ok_X4_emit hl9 K.2.1 σ43 a46 7 0 (by unfold rng; omega) ka46 hGσ43 hYσ43 h) wc_X6_167 2 hd_X4_emit ⟨by have := K.2.2.2.1; omega, by have := K.2.2.2.2.1; omega⟩ ka46.1 ka46.2 (by decide) rfl rfl (rest := []) rfl (Nat.le_of_ble_eq_true rfl) dX6_value_56 (fun σ44 w hq => ?_) (fun σ9 E9 hx9 => hX σ9 E9 _ _ _ (tb_out K.2.2.2.2.2.1 rfl) hx9.1 hx9.2.1 hx9.2.2.1 ((((((hE.trans xσ37).trans xσ38).trans xσ39).trans xσ42).trans xσ43).trans hx9.2.2.2))
  obtain ⟨r45, rfl, gr45, h, hGσ44, hYσ44, xσ44⟩ := hq
  have h := h xσ44
  intro H locs ls hH hl hc
  refine W.eq (g2 := F0 m 59 ls [.int (i32 r45)]) (rfl) ?_
  try dsimp only at h
  refine lv_istore_n (lv' := [(3, .int (i32 r45)), (2, .int (i32 r40)), (0, .ref th), (1, .int (i32 v1))]) B.1 B.2.1 dX6_value_59 rfl hl (by decide) rfl (fun ls hl => ?_)
  refine lv_aload_n B.1 B.2.1 dX6_value_60 rfl (lv_at hl 2 rfl) ?_
  refine f_getp B hH (hth.up (xσ37.trans (xσ38.trans (xσ39.trans (xσ42.trans (xσ43.trans xσ44)))))) (by decide) rfl wu_X6 7 (by decide) wf_X6_31 rfl rfl dX6_value_61 ?_
  refine lv_iload_n B.1 B.2.1 dX6_value_64 rfl (lv_at hl 1 rfl) ?_
  obtain ⟨a48, ea48, h⟩ := h
  have ka48 : kO σ44 a48 4 := (hYσ44.get (hth.up (xσ37.trans (xσ38.trans (xσ39.trans (xσ42.trans (xσ43.trans xσ44)))))) (by decide)) a48 ea48
  have h := h ka48
  refine W.eq (g2 := F0 m 65 ls [.int (i32 r40), .ref a48]) (by rw [ea48]; rfl) ?_
  refine c_V B hH hl hc K.2.2.1 (C := RX4) (T := TX4) (N := 14) (ci := 4) (As := [.int (i32 r40)]) (ok_X4_landHere hl9 K.2.1 σ44 a48 r40 gr40 ka48 hGσ44 hYσ44 h) wc_X6_250 1 hd_X4_landHere ⟨by have := K.2.2.2.1; omega, by have := K.2.2.2.2.1; omega⟩ ka48.1 ka48.2 (by decide) rfl rfl (rest := []) rfl (Nat.le_of_ble_eq_true rfl) dX6_value_65 (fun σ47 w hq => ?_) (fun σ9 E9 hx9 => hX σ9 E9 _ _ _ (tb_out K.2.2.2.2.2.1 rfl) hx9.1 hx9.2.1 hx9.2.2.1 (((((((hE.trans xσ37).trans xσ38).trans xσ39).trans xσ42).trans xσ43).trans xσ44).trans hx9.2.2.2))
  obtain ⟨rfl, h, hGσ47, hYσ47, xσ47⟩ := hq
  have h := h xσ47
  intro H locs ls hH hl hc
  refine W.eq (g2 := F0 m 68 ls []) (rfl) ?_
  try dsimp only at h
  refine lv_aload_n B.1 B.2.1 dX6_value_68 rfl (lv_at hl 2 rfl) ?_
  refine lv_iload_n B.1 B.2.1 dX6_value_69 rfl (lv_at hl 3 rfl) ?_
  refine lv_iconst (v := i32 1) B.1 B.2.1 dX6_value_70 (by decide) ?_
  obtain ⟨q2, h⟩ := h
  refine lv_iadd B.1 B.2.1 dX6_value_71 ?_
  rw [i32_add]
  refine W.eq (g2 := F0 m 72 ls [.int (i32 (v1 + 1)), .ref th]) (rfl) ?_
  refine c_V B hH hl hc K.2.2.1 (C := RX6) (T := TX6) (N := 9) (ci := 6) (As := [.int (i32 (v1 + 1))]) (hRC.1 σ47 (v1 + 1) 0 q2 (by unfold rng; omega) (hth.up (xσ37.trans (xσ38.trans (xσ39.trans (xσ42.trans (xσ43.trans (xσ44.trans xσ47))))))) hGσ47 hYσ47 h) wc_X6_165 1 hd_X6_value ⟨by have := K.2.2.2.1; omega, by have := K.2.2.2.2.1; omega⟩ (hth.up (xσ37.trans (xσ38.trans (xσ39.trans (xσ42.trans (xσ43.trans (xσ44.trans xσ47))))))).1 (hth.up (xσ37.trans (xσ38.trans (xσ39.trans (xσ42.trans (xσ43.trans (xσ44.trans xσ47))))))).2 (by decide) rfl rfl (rest := []) rfl (Nat.le_of_ble_eq_true rfl) dX6_value_72 (fun σ49 w hq => ?_) (fun σ9 E9 hx9 => hX σ9 E9 _ _ _ (tb_out K.2.2.2.2.2.1 rfl) hx9.1 hx9.2.1 hx9.2.2.1 ((((((((hE.trans xσ37).trans xσ38).trans xσ39).trans xσ42).trans xσ43).trans xσ44).trans xσ47).trans hx9.2.2.2))
  obtain ⟨rfl, h, hGσ49, hYσ49, xσ49⟩ := hq
  have h := h xσ49
  intro H locs ls hH hl hc
  refine W.eq (g2 := F0 m 75 ls []) (rfl) ?_
  try dsimp only at h
  refine lv_aload_n B.1 B.2.1 dX6_value_75 rfl (lv_at hl 2 rfl) ?_
  refine f_getp B hH (hth.up (xσ37.trans (xσ38.trans (xσ39.trans (xσ42.trans (xσ43.trans (xσ44.trans (xσ47.trans xσ49)))))))) (by decide) rfl wu_X6 7 (by decide) wf_X6_31 rfl rfl dX6_value_76 ?_
  refine lv_iload_n B.1 B.2.1 dX6_value_79 rfl (lv_at hl 0 rfl) ?_
  obtain ⟨a51, ea51, h⟩ := h
  have ka51 : kO σ49 a51 4 := (hYσ49.get (hth.up (xσ37.trans (xσ38.trans (xσ39.trans (xσ42.trans (xσ43.trans (xσ44.trans (xσ47.trans xσ49)))))))) (by decide)) a51 ea51
  have h := h ka51
  refine W.eq (g2 := F0 m 80 ls [.int (i32 r45), .ref a51]) (by rw [ea51]; rfl) ?_
  refine c_V B hH hl hc K.2.2.1 (C := RX4) (T := TX4) (N := 14) (ci := 4) (As := [.int (i32 r45)]) (ok_X4_landHere hl9 K.2.1 σ49 a51 r45 gr45 ka51 hGσ49 hYσ49 h) wc_X6_250 1 hd_X4_landHere ⟨by have := K.2.2.2.1; omega, by have := K.2.2.2.2.1; omega⟩ ka51.1 ka51.2 (by decide) rfl rfl (rest := []) rfl (Nat.le_of_ble_eq_true rfl) dX6_value_80 (fun σ50 w hq => ?_) (fun σ9 E9 hx9 => hX σ9 E9 _ _ _ (tb_out K.2.2.2.2.2.1 rfl) hx9.1 hx9.2.1 hx9.2.2.1 (((((((((hE.trans xσ37).trans xσ38).trans xσ39).trans xσ42).trans xσ43).trans xσ44).trans xσ47).trans xσ49).trans hx9.2.2.2))
  obtain ⟨rfl, h, hGσ50, hYσ50, xσ50⟩ := hq
  have h := h xσ50
  intro H locs ls hH hl hc
  refine W.eq (g2 := F0 m 83 ls []) (rfl) ?_
  try dsimp only at h
  exact hQ _ _ _ _ _ dX6_value_83 hH hc h hGσ50 hYσ50 (((((((((hE.trans xσ37).trans xσ38).trans xσ39).trans xσ42).trans xσ43).trans xσ44).trans xσ47).trans xσ49).trans xσ50)
set_option maxRecDepth 20000 in
theorem a_X6_value_15 {Q : Sg → Unit → Prop} {X : Sg → String → Prop} {th : Nat} {fr0 lw0 : Nat} {rc : Nat → Int → Int → Sg → (Sg → Unit → Prop) → (Sg → String → Prop) → Prop} (K : MD l R p s m args c cX6_value 4 RX6 D cA tys A n0 s0 (fr0 + 1) (lw0 + 60) []) (hQ : CQV p l e R s m args below meth c cX6_value D cA A n0 s0 QM σi Q) (hX : CX p l e R s m args below meth c 4 D cA A n0 s0 QM σi X) (hTh : CT p l e R s m args below meth c cX6_value 4 D cA A n0 s0 QM σi RX6 X) (hRC : HRD l D cA tys A th fr0 lw0 rc) (hf0 : 40 ≤ fr0) (hl1 : 4000 ≤ lw0) : ∀ (σ : Sg), w_X6_value_15 th rc Q X σ → RG σ → TY σ → Ext σi σ → kO σ th 6 → JJ p l e R s m args below meth c 4 D cA A n0 s0 QM σ 15 [(0, .ref th)] [] := by
  intro σ h hGσ hYσ hE hth H locs ls hH hl hc
  have B := K.1
  have hl9 := K.2.2.2.2.2.2
  unfold w_X6_value_15 at h
  exact hQ _ _ _ _ _ dX6_value_15 hH hc h hGσ hYσ hE
set_option maxRecDepth 20000 in
theorem a_X6_value_0 {Q : Sg → Unit → Prop} {X : Sg → String → Prop} {th : Nat} {fr0 lw0 : Nat} {rc : Nat → Int → Int → Sg → (Sg → Unit → Prop) → (Sg → String → Prop) → Prop} (K : MD l R p s m args c cX6_value 4 RX6 D cA tys A n0 s0 (fr0 + 1) (lw0 + 60) []) (hQ : CQV p l e R s m args below meth c cX6_value D cA A n0 s0 QM σi Q) (hX : CX p l e R s m args below meth c 4 D cA A n0 s0 QM σi X) (hTh : CT p l e R s m args below meth c cX6_value 4 D cA A n0 s0 QM σi RX6 X) (hRC : HRD l D cA tys A th fr0 lw0 rc) (hf0 : 40 ≤ fr0) (hl1 : 4000 ≤ lw0) : ∀ (σ : Sg) (v1 : Int) (g1 : rng v1), w_X6_value_0 th rc Q X σ v1 → RG σ → TY σ → Ext σi σ → kO σ th 6 → JJ p l e R s m args below meth c 4 D cA A n0 s0 QM σ 0 [(0, .ref th), (1, .int (i32 v1))] [] := by
  intro σ v1 g1 h hGσ hYσ hE hth H locs ls hH hl hc
  have B := K.1
  have hl9 := K.2.2.2.2.2.2
  unfold w_X6_value_0 at h
  refine lv_aload_n B.1 B.2.1 dX6_value_0 rfl (lv_at hl 0 rfl) ?_
  refine lv_iconst (v := i32 0) B.1 B.2.1 dX6_value_1 (by decide) ?_
  refine lv_iload_n B.1 B.2.1 dX6_value_2 rfl (lv_at hl 1 rfl) ?_
  refine W.eq (g2 := F0 m 3 ls [.int (i32 v1), .int (i32 0), .ref th]) (rfl) ?_
  refine c_V B hH hl hc K.2.2.1 (C := RX6) (T := TX6) (N := 9) (ci := 6) (As := [.int (i32 0), .int (i32 v1)]) (hRC.2.1 σ 0 v1 (by unfold rng; omega) g1 hth hGσ hYσ h) wc_X6_243 2 hd_X6_binary ⟨by have := K.2.2.2.1; omega, by have := K.2.2.2.2.1; omega⟩ hth.1 hth.2 (by decide) rfl rfl (rest := []) rfl (Nat.le_of_ble_eq_true rfl) dX6_value_3 (fun σ52 w hq => ?_) (fun σ9 E9 hx9 => hX σ9 E9 _ _ _ (tb_out K.2.2.2.2.2.1 rfl) hx9.1 hx9.2.1 hx9.2.2.1 (hE.trans hx9.2.2.2))
  obtain ⟨rfl, h, hGσ52, hYσ52, xσ52⟩ := hq
  have h := h xσ52
  intro H locs ls hH hl hc
  refine W.eq (g2 := F0 m 6 ls []) (rfl) ?_
  try dsimp only at h
  refine lv_aload_n B.1 B.2.1 dX6_value_6 rfl (lv_at hl 0 rfl) ?_
  refine lv_bipush (v := i32 63) B.1 B.2.1 dX6_value_7 (by decide) ?_
  refine W.eq (g2 := F0 m 9 ls [.int (i32 63), .ref th]) (rfl) ?_
  refine c_V B hH hl hc K.2.2.1 (C := RX6) (T := TX6) (N := 9) (ci := 6) (As := [.int (i32 63)]) (ok_X6_isSign hl9 K.2.1 σ52 th 63 (by unfold rng; omega) (hth.up xσ52) hGσ52 hYσ52 h) wc_X6_171 1 hd_X6_isSign ⟨by have := K.2.2.2.1; omega, by have := K.2.2.2.2.1; omega⟩ (hth.up xσ52).1 (hth.up xσ52).2 (by decide) rfl rfl (rest := []) rfl (Nat.le_of_ble_eq_true rfl) dX6_value_9 (fun σ53 w hq => ?_) (fun σ9 E9 hx9 => hX σ9 E9 _ _ _ (tb_out K.2.2.2.2.2.1 rfl) hx9.1 hx9.2.1 hx9.2.2.1 ((hE.trans xσ52).trans hx9.2.2.2))
  obtain ⟨r54, rfl, ⟨gr54, gzr54⟩, h, hGσ53, hYσ53, xσ53⟩ := hq
  have h := h xσ53
  intro H locs ls hH hl hc
  refine W.eq (g2 := F0 m 12 ls [.int (i32 r54)]) (rfl) ?_
  try dsimp only at h
  refine lv_if_ne (tgt := 16) B.1 B.2.1 dX6_value_12 (by decide) (fun h9 => ?_) (fun h9 => ?_)
  · rw [if_pos (fun q => h9 ((z_eq gr54).mpr q))] at h
    exact a_X6_value_16 K hQ hX hTh hRC hf0 hl1 _ _ g1 h hGσ53 hYσ53 ((hE.trans xσ52).trans xσ53) (hth.up (xσ52.trans xσ53)) _ _ _ hH (lv_sub (l' := [(0, .ref th), (1, .int (i32 v1))]) hl [0, 1] rfl) hc
  · rw [if_neg (fun q => q ((z_eq gr54).mp h9))] at h
    exact a_X6_value_15 K hQ hX hTh hRC hf0 hl1 _ h hGσ53 hYσ53 ((hE.trans xσ52).trans xσ53) (hth.up (xσ52.trans xσ53)) _ _ _ hH (lv_sub (l' := [(0, .ref th)]) hl [0] rfl) hc
theorem ok_X6_value_r {th fr0 lw0 : Nat} {rc : Nat → Int → Int → Sg → (Sg → Unit → Prop) → (Sg → String → Prop) → Prop} (hRC : HRD l D cA tys A th fr0 lw0 rc) (hf0 : 40 ≤ fr0) (hl1 : 4000 ≤ lw0) (hl0 : l.stackTraces = false) (hT : TyC cA tys) {Q : Sg → Unit → Prop} {X : Sg → String → Prop} (σ : Sg) (v1 : Int) (g1 : rng v1) (hth : kO σ th 6) (hG : RG σ) (hY : TY σ) (h : w_X6_value_0 th rc Q X σ v1) : Ok l D cA tys A yX6_value (.code yX6_value cX6_value 4 none) (fr0 + 1) (lw0 + 60) [.ref th, .int (i32 v1)] σ (QcV σ Q) (QxC σ X) := by
  exact oc_V hl0 (by decide) (by exact Nat.le_of_ble_eq_true rfl) hT (fun p e R s m args below meth c K hQ hX hTh _ H locs ls hH hl hc => a_X6_value_0 K hQ hX hTh hRC hf0 hl1 σ v1 g1 h hG hY (Ext.rfl' σ) hth H locs ls hH (lv_sub (l' := [(0, .ref th), (1, .int (i32 v1))]) hl [0, 1] rfl) hc)
theorem dX6_binary_0 : decode cX6_binary 0 = .ok (.iload_n 1, 1) := by decide +kernel
theorem dX6_binary_1 : decode cX6_binary 1 = .ok (.iconst 3, 1) := by decide +kernel
theorem dX6_binary_2 : decode cX6_binary 2 = .ok (.if_icmp .le 9, 3) := by decide +kernel
theorem dX6_binary_5 : decode cX6_binary 5 = .ok (.aload_n 0, 1) := by decide +kernel
theorem dX6_binary_6 : decode cX6_binary 6 = .ok (.iload_n 2, 1) := by decide +kernel
theorem dX6_binary_7 : decode cX6_binary 7 = .ok (.invokevirtual 253, 3) := by decide +kernel
theorem dX6_binary_10 : decode cX6_binary 10 = .ok (.return_, 1) := by decide +kernel
theorem dX6_binary_11 : decode cX6_binary 11 = .ok (.aload_n 0, 1) := by decide +kernel
theorem dX6_binary_12 : decode cX6_binary 12 = .ok (.iload_n 1, 1) := by decide +kernel
theorem dX6_binary_13 : decode cX6_binary 13 = .ok (.iconst 1, 1) := by decide +kernel
theorem dX6_binary_14 : decode cX6_binary 14 = .ok (.iadd, 1) := by decide +kernel
theorem dX6_binary_15 : decode cX6_binary 15 = .ok (.iload_n 2, 1) := by decide +kernel
theorem dX6_binary_16 : decode cX6_binary 16 = .ok (.invokevirtual 243, 3) := by decide +kernel
theorem dX6_binary_19 : decode cX6_binary 19 = .ok (.iconst 0, 1) := by decide +kernel
theorem dX6_binary_20 : decode cX6_binary 20 = .ok (.istore_n 3, 1) := by decide +kernel
theorem dX6_binary_21 : decode cX6_binary 21 = .ok (.iload_n 3, 1) := by decide +kernel
theorem dX6_binary_22 : decode cX6_binary 22 = .ok (.sipush 1500, 3) := by decide +kernel
theorem dX6_binary_25 : decode cX6_binary 25 = .ok (.if_icmp .ge 106, 3) := by decide +kernel
theorem dX6_binary_28 : decode cX6_binary 28 = .ok (.aload_n 0, 1) := by decide +kernel
theorem dX6_binary_29 : decode cX6_binary 29 = .ok (.invokevirtual 256, 3) := by decide +kernel
theorem dX6_binary_32 : decode cX6_binary 32 = .ok (.iload_n 1, 1) := by decide +kernel
theorem dX6_binary_33 : decode cX6_binary 33 = .ok (.if_icmp .ne 98, 3) := by decide +kernel
theorem dX6_binary_36 : decode cX6_binary 36 = .ok (.iload_n 1, 1) := by decide +kernel
theorem dX6_binary_37 : decode cX6_binary 37 = .ok (.iconst 1, 1) := by decide +kernel
theorem dX6_binary_38 : decode cX6_binary 38 = .ok (.if_icmp .ne 11, 3) := by decide +kernel
theorem dX6_binary_41 : decode cX6_binary 41 = .ok (.iload_n 3, 1) := by decide +kernel
theorem dX6_binary_42 : decode cX6_binary 42 = .ok (.ifCond .le 7, 3) := by decide +kernel
theorem dX6_binary_45 : decode cX6_binary 45 = .ok (.aload_n 0, 1) := by decide +kernel
theorem dX6_binary_46 : decode cX6_binary 46 = .ok (.invokevirtual 70, 3) := by decide +kernel
theorem dX6_binary_49 : decode cX6_binary 49 = .ok (.aload_n 0, 1) := by decide +kernel
theorem dX6_binary_50 : decode cX6_binary 50 = .ok (.invokevirtual 259, 3) := by decide +kernel
theorem dX6_binary_53 : decode cX6_binary 53 = .ok (.istore 4, 2) := by decide +kernel
theorem dX6_binary_55 : decode cX6_binary 55 = .ok (.aload_n 0, 1) := by decide +kernel
theorem dX6_binary_56 : decode cX6_binary 56 = .ok (.invokevirtual 40, 3) := by decide +kernel
theorem dX6_binary_59 : decode cX6_binary 59 = .ok (.iload_n 1, 1) := by decide +kernel
theorem dX6_binary_60 : decode cX6_binary 60 = .ok (.ifCond .ne 46, 3) := by decide +kernel
theorem dX6_binary_63 : decode cX6_binary 63 = .ok (.aload_n 0, 1) := by decide +kernel
theorem dX6_binary_64 : decode cX6_binary 64 = .ok (.getfield 31, 3) := by decide +kernel
theorem dX6_binary_67 : decode cX6_binary 67 = .ok (.iload 4, 2) := by decide +kernel
theorem dX6_binary_69 : decode cX6_binary 69 = .ok (.lconst 0, 1) := by decide +kernel
theorem dX6_binary_70 : decode cX6_binary 70 = .ok (.invokevirtual 167, 3) := by decide +kernel
theorem dX6_binary_73 : decode cX6_binary 73 = .ok (.istore 5, 2) := by decide +kernel
theorem dX6_binary_75 : decode cX6_binary 75 = .ok (.aload_n 0, 1) := by decide +kernel
theorem dX6_binary_76 : decode cX6_binary 76 = .ok (.iload_n 1, 1) := by decide +kernel
theorem dX6_binary_77 : decode cX6_binary 77 = .ok (.iconst 1, 1) := by decide +kernel
theorem dX6_binary_78 : decode cX6_binary 78 = .ok (.iadd, 1) := by decide +kernel
theorem dX6_binary_79 : decode cX6_binary 79 = .ok (.iload_n 2, 1) := by decide +kernel
theorem dX6_binary_80 : decode cX6_binary 80 = .ok (.invokevirtual 243, 3) := by decide +kernel
theorem dX6_binary_83 : decode cX6_binary 83 = .ok (.aload_n 0, 1) := by decide +kernel
theorem dX6_binary_84 : decode cX6_binary 84 = .ok (.getfield 31, 3) := by decide +kernel
theorem dX6_binary_87 : decode cX6_binary 87 = .ok (.bipush 6, 2) := by decide +kernel
theorem dX6_binary_89 : decode cX6_binary 89 = .ok (.lconst 0, 1) := by decide +kernel
theorem dX6_binary_90 : decode cX6_binary 90 = .ok (.invokevirtual 167, 3) := by decide +kernel
theorem dX6_binary_93 : decode cX6_binary 93 = .ok (.pop, 1) := by decide +kernel
theorem dX6_binary_94 : decode cX6_binary 94 = .ok (.aload_n 0, 1) := by decide +kernel
theorem dX6_binary_95 : decode cX6_binary 95 = .ok (.getfield 31, 3) := by decide +kernel
theorem dX6_binary_98 : decode cX6_binary 98 = .ok (.iload 5, 2) := by decide +kernel
theorem dX6_binary_100 : decode cX6_binary 100 = .ok (.invokevirtual 250, 3) := by decide +kernel
theorem dX6_binary_103 : decode cX6_binary 103 = .ok (.goto 22, 3) := by decide +kernel
theorem dX6_binary_106 : decode cX6_binary 106 = .ok (.aload_n 0, 1) := by decide +kernel
theorem dX6_binary_107 : decode cX6_binary 107 = .ok (.iload_n 1, 1) := by decide +kernel
theorem dX6_binary_108 : decode cX6_binary 108 = .ok (.iconst 1, 1) := by decide +kernel
theorem dX6_binary_109 : decode cX6_binary 109 = .ok (.iadd, 1) := by decide +kernel
theorem dX6_binary_110 : decode cX6_binary 110 = .ok (.iload_n 2, 1) := by decide +kernel
theorem dX6_binary_111 : decode cX6_binary 111 = .ok (.invokevirtual 243, 3) := by decide +kernel
theorem dX6_binary_114 : decode cX6_binary 114 = .ok (.aload_n 0, 1) := by decide +kernel
theorem dX6_binary_115 : decode cX6_binary 115 = .ok (.getfield 31, 3) := by decide +kernel
theorem dX6_binary_118 : decode cX6_binary 118 = .ok (.iload 4, 2) := by decide +kernel
theorem dX6_binary_120 : decode cX6_binary 120 = .ok (.lconst 0, 1) := by decide +kernel
theorem dX6_binary_121 : decode cX6_binary 121 = .ok (.invokevirtual 167, 3) := by decide +kernel
theorem dX6_binary_124 : decode cX6_binary 124 = .ok (.pop, 1) := by decide +kernel
theorem dX6_binary_125 : decode cX6_binary 125 = .ok (.iinc 3 1, 3) := by decide +kernel
theorem dX6_binary_128 : decode cX6_binary 128 = .ok (.goto (-107), 3) := by decide +kernel
theorem dX6_binary_131 : decode cX6_binary 131 = .ok (.return_, 1) := by decide +kernel
set_option maxRecDepth 20000 in
theorem a_X6_binary_131 {Q : Sg → Unit → Prop} {X : Sg → String → Prop} {th : Nat} {fr0 lw0 : Nat} {rc : Nat → Int → Int → Sg → (Sg → Unit → Prop) → (Sg → String → Prop) → Prop} (K : MD l R p s m args c cX6_binary 6 RX6 D cA tys A n0 s0 (fr0 + 1) (lw0 + 60) []) (hQ : CQV p l e R s m args below meth c cX6_binary D cA A n0 s0 QM σi Q) (hX : CX p l e R s m args below meth c 6 D cA A n0 s0 QM σi X) (hTh : CT p l e R s m args below meth c cX6_binary 6 D cA A n0 s0 QM σi RX6 X) (hRC : HRD l D cA tys A th fr0 lw0 rc) (hf0 : 40 ≤ fr0) (hl1 : 4000 ≤ lw0) : ∀ (σ : Sg), w_X6_binary_131 th rc Q X σ → RG σ → TY σ → Ext σi σ → kO σ th 6 → JJ p l e R s m args below meth c 6 D cA A n0 s0 QM σ 131 [(0, .ref th)] [] := by
  intro σ h hGσ hYσ hE hth H locs ls hH hl hc
  have B := K.1
  have hl9 := K.2.2.2.2.2.2
  unfold w_X6_binary_131 at h
  exact hQ _ _ _ _ _ dX6_binary_131 hH hc h hGσ hYσ hE
set_option maxRecDepth 20000 in
theorem a_X6_binary_125 {Q : Sg → Unit → Prop} {X : Sg → String → Prop} {th : Nat} {fr0 lw0 : Nat} {rc : Nat → Int → Int → Sg → (Sg → Unit → Prop) → (Sg → String → Prop) → Prop} (K : MD l R p s m args c cX6_binary 6 RX6 D cA tys A n0 s0 (fr0 + 1) (lw0 + 60) []) (hQ : CQV p l e R s m args below meth c cX6_binary D cA A n0 s0 QM σi Q) (hX : CX p l e R s m args below meth c 6 D cA A n0 s0 QM σi X) (hTh : CT p l e R s m args below meth c cX6_binary 6 D cA A n0 s0 QM σi RX6 X) (hRC : HRD l D cA tys A th fr0 lw0 rc) (hf0 : 40 ≤ fr0) (hl1 : 4000 ≤ lw0) {K21 : Sg → Int → Int → Int → Prop} (hK21 : ∀ (σ : Sg) (v1 : Int) (v2 : Int) (v3 : Int) (g1 : rng v1) (g2 : rng v2) (g3 : rng v3), K21 σ v1 v2 v3 → RG σ → TY σ → Ext σi σ → kO σ th 6 → JJ p l e R s m args below meth c 6 D cA A n0 s0 QM σ 21 [(0, .ref th), (1, .int (i32 v1)), (2, .int (i32 v2)), (3, .int (i32 v3))] []) : ∀ (σ : Sg) (v1 : Int) (v2 : Int) (v3 : Int) (g1 : rng v1) (g2 : rng v2) (g3 : rng v3), w_X6_binary_125 th rc K21 Q X σ v1 v2 v3 → RG σ → TY σ → Ext σi σ → kO σ th 6 → JJ p l e R s m args below meth c 6 D cA A n0 s0 QM σ 125 [(0, .ref th), (1, .int (i32 v1)), (2, .int (i32 v2)), (3, .int (i32 v3))] [] := by
  intro σ v1 v2 v3 g1 g2 g3 h hGσ hYσ hE hth H locs ls hH hl hc
  have B := K.1
  have hl9 := K.2.2.2.2.2.2
  unfold w_X6_binary_125 at h
  obtain ⟨q1, h⟩ := h
  refine lv_iinc (k := 3) (v := i32 (v3 + 1)) (lv' := [(3, .int (i32 (v3 + 1))), (0, .ref th), (1, .int (i32 v1)), (2, .int (i32 v2))]) B.1 B.2.1 dX6_binary_125 hl rfl (i32_add _ _) (by decide) rfl (fun ls hl => ?_)
  refine lv_goto (tgt := 21) B.1 B.2.1 dX6_binary_128 (by decide) ?_
  exact hK21 _ _ _ _ g1 g2 q1 h hGσ hYσ hE hth _ _ _ hH (lv_sub (l' := [(0, .ref th), (1, .int (i32 v1)), (2, .int (i32 v2)), (3, .int (i32 (v3 + 1)))]) hl [1, 2, 3, 0] rfl) hc
set_option maxRecDepth 20000 in
theorem a_X6_binary_106 {Q : Sg → Unit → Prop} {X : Sg → String → Prop} {th : Nat} {fr0 lw0 : Nat} {rc : Nat → Int → Int → Sg → (Sg → Unit → Prop) → (Sg → String → Prop) → Prop} (K : MD l R p s m args c cX6_binary 6 RX6 D cA tys A n0 s0 (fr0 + 1) (lw0 + 60) []) (hQ : CQV p l e R s m args below meth c cX6_binary D cA A n0 s0 QM σi Q) (hX : CX p l e R s m args below meth c 6 D cA A n0 s0 QM σi X) (hTh : CT p l e R s m args below meth c cX6_binary 6 D cA A n0 s0 QM σi RX6 X) (hRC : HRD l D cA tys A th fr0 lw0 rc) (hf0 : 40 ≤ fr0) (hl1 : 4000 ≤ lw0) {K21 : Sg → Int → Int → Int → Prop} (hK21 : ∀ (σ : Sg) (v1 : Int) (v2 : Int) (v3 : Int) (g1 : rng v1) (g2 : rng v2) (g3 : rng v3), K21 σ v1 v2 v3 → RG σ → TY σ → Ext σi σ → kO σ th 6 → JJ p l e R s m args below meth c 6 D cA A n0 s0 QM σ 21 [(0, .ref th), (1, .int (i32 v1)), (2, .int (i32 v2)), (3, .int (i32 v3))] []) : ∀ (σ : Sg) (v1 : Int) (v2 : Int) (v3 : Int) (v4 : Int) (g1 : rng v1) (g2 : rng v2) (g3 : rng v3) (g4 : rng v4), w_X6_binary_106 th rc K21 Q X σ v1 v2 v3 v4 → RG σ → TY σ → Ext σi σ → kO σ th 6 → JJ p l e R s m args below meth c 6 D cA A n0 s0 QM σ 106 [(0, .ref th), (1, .int (i32 v1)), (2, .int (i32 v2)), (3, .int (i32 v3)), (4, .int (i32 v4))] [] := by
  intro σ v1 v2 v3 v4 g1 g2 g3 g4 h hGσ hYσ hE hth H locs ls hH hl hc
  have B := K.1
  have hl9 := K.2.2.2.2.2.2
  unfold w_X6_binary_106 at h
  refine lv_aload_n B.1 B.2.1 dX6_binary_106 rfl (lv_at hl 0 rfl) ?_
  refine lv_iload_n B.1 B.2.1 dX6_binary_107 rfl (lv_at hl 1 rfl) ?_
  refine lv_iconst (v := i32 1) B.1 B.2.1 dX6_binary_108 (by decide) ?_
  obtain ⟨q1, h⟩ := h
  refine lv_iadd B.1 B.2.1 dX6_binary_109 ?_
  rw [i32_add]
  refine lv_iload_n B.1 B.2.1 dX6_binary_110 rfl (lv_at hl 2 rfl) ?_
  refine W.eq (g2 := F0 m 111 ls [.int (i32 v2), .int (i32 (v1 + 1)), .ref th]) (rfl) ?_
  refine c_V B hH hl hc K.2.2.1 (C := RX6) (T := TX6) (N := 9) (ci := 6) (As := [.int (i32 (v1 + 1)), .int (i32 v2)]) (hRC.2.1 σ (v1 + 1) v2 q1 g2 hth hGσ hYσ h) wc_X6_243 2 hd_X6_binary ⟨by have := K.2.2.2.1; omega, by have := K.2.2.2.2.1; omega⟩ hth.1 hth.2 (by decide) rfl rfl (rest := []) rfl (Nat.le_of_ble_eq_true rfl) dX6_binary_111 (fun σ43 w hq => ?_) (fun σ9 E9 hx9 => hX σ9 E9 _ _ _ (tb_out K.2.2.2.2.2.1 rfl) hx9.1 hx9.2.1 hx9.2.2.1 (hE.trans hx9.2.2.2))
  obtain ⟨rfl, h, hGσ43, hYσ43, xσ43⟩ := hq
  have h := h xσ43
  intro H locs ls hH hl hc
  refine W.eq (g2 := F0 m 114 ls []) (rfl) ?_
  try dsimp only at h
  refine lv_aload_n B.1 B.2.1 dX6_binary_114 rfl (lv_at hl 0 rfl) ?_
  refine f_getp B hH (hth.up xσ43) (by decide) rfl wu_X6 7 (by decide) wf_X6_31 rfl rfl dX6_binary_115 ?_
  refine lv_iload B.1 B.2.1 dX6_binary_118 (lv_at hl 4 rfl) ?_
  refine lv_lconst (v := 0) B.1 B.2.1 dX6_binary_120 (by decide) ?_
  obtain ⟨a46, ea46, h⟩ := h
  have ka46 : kO σ43 a46 4 := (hYσ43.get (hth.up xσ43) (by decide)) a46 ea46
  have h := h ka46
  refine W.eq (g2 := F0 m 121 ls [.long 0, .int (i32 v4), .ref a46]) (by rw [ea46]; rfl) ?_
  refine c_V B hH hl hc K.2.2.1 (C := RX4) (T := TX4) (N := 14) (ci := 4) (As := [.int (i32 v4), .long 0]) (ok_X4_emit hl9 K.2.1 σ43 a46 v4 0 g4 ka46 hGσ43 hYσ43 h) wc_X6_167 2 hd_X4_emit ⟨by have := K.2.2.2.1; omega, by have := K.2.2.2.2.1; omega⟩ ka46.1 ka46.2 (by decide) rfl rfl (rest := []) rfl (Nat.le_of_ble_eq_true rfl) dX6_binary_121 (fun σ44 w hq => ?_) (fun σ9 E9 hx9 => hX σ9 E9 _ _ _ (tb_out K.2.2.2.2.2.1 rfl) hx9.1 hx9.2.1 hx9.2.2.1 ((hE.trans xσ43).trans hx9.2.2.2))
  obtain ⟨r45, rfl, gr45, h, hGσ44, hYσ44, xσ44⟩ := hq
  have h := h xσ44
  intro H locs ls hH hl hc
  refine W.eq (g2 := F0 m 124 ls [.int (i32 r45)]) (rfl) ?_
  try dsimp only at h
  refine lv_pop B.1 B.2.1 dX6_binary_124 rfl ?_
  exact a_X6_binary_125 K hQ hX hTh hRC hf0 hl1 hK21 _ _ _ _ g1 g2 g3 h hGσ44 hYσ44 ((hE.trans xσ43).trans xσ44) (hth.up (xσ43.trans xσ44)) _ _ _ hH (lv_sub (l' := [(0, .ref th), (1, .int (i32 v1)), (2, .int (i32 v2)), (3, .int (i32 v3))]) hl [0, 1, 2, 3] rfl) hc
set_option maxRecDepth 20000 in
theorem a_X6_binary_63 {Q : Sg → Unit → Prop} {X : Sg → String → Prop} {th : Nat} {fr0 lw0 : Nat} {rc : Nat → Int → Int → Sg → (Sg → Unit → Prop) → (Sg → String → Prop) → Prop} (K : MD l R p s m args c cX6_binary 6 RX6 D cA tys A n0 s0 (fr0 + 1) (lw0 + 60) []) (hQ : CQV p l e R s m args below meth c cX6_binary D cA A n0 s0 QM σi Q) (hX : CX p l e R s m args below meth c 6 D cA A n0 s0 QM σi X) (hTh : CT p l e R s m args below meth c cX6_binary 6 D cA A n0 s0 QM σi RX6 X) (hRC : HRD l D cA tys A th fr0 lw0 rc) (hf0 : 40 ≤ fr0) (hl1 : 4000 ≤ lw0) {K21 : Sg → Int → Int → Int → Prop} (hK21 : ∀ (σ : Sg) (v1 : Int) (v2 : Int) (v3 : Int) (g1 : rng v1) (g2 : rng v2) (g3 : rng v3), K21 σ v1 v2 v3 → RG σ → TY σ → Ext σi σ → kO σ th 6 → JJ p l e R s m args below meth c 6 D cA A n0 s0 QM σ 21 [(0, .ref th), (1, .int (i32 v1)), (2, .int (i32 v2)), (3, .int (i32 v3))] []) : ∀ (σ : Sg) (v1 : Int) (v2 : Int) (v3 : Int) (v4 : Int) (g1 : rng v1) (g2 : rng v2) (g3 : rng v3) (g4 : rng v4), w_X6_binary_63 th rc K21 Q X σ v1 v2 v3 v4 → RG σ → TY σ → Ext σi σ → kO σ th 6 → JJ p l e R s m args below meth c 6 D cA A n0 s0 QM σ 63 [(0, .ref th), (1, .int (i32 v1)), (2, .int (i32 v2)), (3, .int (i32 v3)), (4, .int (i32 v4))] [] := by
  intro σ v1 v2 v3 v4 g1 g2 g3 g4 h hGσ hYσ hE hth H locs ls hH hl hc
  have B := K.1
  have hl9 := K.2.2.2.2.2.2
  unfold w_X6_binary_63 at h
  refine lv_aload_n B.1 B.2.1 dX6_binary_63 rfl (lv_at hl 0 rfl) ?_
  refine f_getp B hH hth (by decide) rfl wu_X6 7 (by decide) wf_X6_31 rfl rfl dX6_binary_64 ?_
  refine lv_iload B.1 B.2.1 dX6_binary_67 (lv_at hl 4 rfl) ?_
  refine lv_lconst (v := 0) B.1 B.2.1 dX6_binary_69 (by decide) ?_
  obtain ⟨a49, ea49, h⟩ := h
  have ka49 : kO σ a49 4 := (hYσ.get hth (by decide)) a49 ea49
  have h := h ka49
  refine W.eq (g2 := F0 m 70 ls [.long 0, .int (i32 v4), .ref a49]) (by rw [ea49]; rfl) ?_
  refine c_V B hH hl hc K.2.2.1 (C := RX4) (T := TX4) (N := 14) (ci := 4) (As := [.int (i32 v4), .long 0]) (ok_X4_emit hl9 K.2.1 σ a49 v4 0 g4 ka49 hGσ hYσ h) wc_X6_167 2 hd_X4_emit ⟨by have := K.2.2.2.1; omega, by have := K.2.2.2.2.1; omega⟩ ka49.1 ka49.2 (by decide) rfl rfl (rest := []) rfl (Nat.le_of_ble_eq_true rfl) dX6_binary_70 (fun σ47 w hq => ?_) (fun σ9 E9 hx9 => hX σ9 E9 _ _ _ (tb_out K.2.2.2.2.2.1 rfl) hx9.1 hx9.2.1 hx9.2.2.1 (hE.trans hx9.2.2.2))
  obtain ⟨r48, rfl, gr48, h, hGσ47, hYσ47, xσ47⟩ := hq
  have h := h xσ47
  intro H locs ls hH hl hc
  refine W.eq (g2 := F0 m 73 ls [.int (i32 r48)]) (rfl) ?_
  try dsimp only at h
  refine lv_istore (lv' := [(5, .int (i32 r48)), (0, .ref th), (1, .int (i32 v1)), (2, .int (i32 v2)), (3, .int (i32 v3)), (4, .int (i32 v4))]) B.1 B.2.1 dX6_binary_73 hl (by decide) rfl (fun ls hl => ?_)
  refine lv_aload_n B.1 B.2.1 dX6_binary_75 rfl (lv_at hl 1 rfl) ?_
  refine lv_iload_n B.1 B.2.1 dX6_binary_76 rfl (lv_at hl 2 rfl) ?_
  refine lv_iconst (v := i32 1) B.1 B.2.1 dX6_binary_77 (by decide) ?_
  obtain ⟨q1, h⟩ := h
  refine lv_iadd B.1 B.2.1 dX6_binary_78 ?_
  rw [i32_add]
  refine lv_iload_n B.1 B.2.1 dX6_binary_79 rfl (lv_at hl 3 rfl) ?_
  refine W.eq (g2 := F0 m 80 ls [.int (i32 v2), .int (i32 (v1 + 1)), .ref th]) (rfl) ?_
  refine c_V B hH hl hc K.2.2.1 (C := RX6) (T := TX6) (N := 9) (ci := 6) (As := [.int (i32 (v1 + 1)), .int (i32 v2)]) (hRC.2.1 σ47 (v1 + 1) v2 q1 g2 (hth.up xσ47) hGσ47 hYσ47 h) wc_X6_243 2 hd_X6_binary ⟨by have := K.2.2.2.1; omega, by have := K.2.2.2.2.1; omega⟩ (hth.up xσ47).1 (hth.up xσ47).2 (by decide) rfl rfl (rest := []) rfl (Nat.le_of_ble_eq_true rfl) dX6_binary_80 (fun σ50 w hq => ?_) (fun σ9 E9 hx9 => hX σ9 E9 _ _ _ (tb_out K.2.2.2.2.2.1 rfl) hx9.1 hx9.2.1 hx9.2.2.1 ((hE.trans xσ47).trans hx9.2.2.2))
  obtain ⟨rfl, h, hGσ50, hYσ50, xσ50⟩ := hq
  have h := h xσ50
  intro H locs ls hH hl hc
  refine W.eq (g2 := F0 m 83 ls []) (rfl) ?_
  try dsimp only at h
  refine lv_aload_n B.1 B.2.1 dX6_binary_83 rfl (lv_at hl 1 rfl) ?_
  refine f_getp B hH (hth.up (xσ47.trans xσ50)) (by decide) rfl wu_X6 7 (by decide) wf_X6_31 rfl rfl dX6_binary_84 ?_
  refine lv_bipush (v := i32 6) B.1 B.2.1 dX6_binary_87 (by decide) ?_
  refine lv_lconst (v := 0) B.1 B.2.1 dX6_binary_89 (by decide) ?_
  obtain ⟨a53, ea53, h⟩ := h
  have ka53 : kO σ50 a53 4 := (hYσ50.get (hth.up (xσ47.trans xσ50)) (by decide)) a53 ea53
  have h := h ka53
  refine W.eq (g2 := F0 m 90 ls [.long 0, .int (i32 6), .ref a53]) (by rw [ea53]; rfl) ?_
  refine c_V B hH hl hc K.2.2.1 (C := RX4) (T := TX4) (N := 14) (ci := 4) (As := [.int (i32 6), .long 0]) (ok_X4_emit hl9 K.2.1 σ50 a53 6 0 (by unfold rng; omega) ka53 hGσ50 hYσ50 h) wc_X6_167 2 hd_X4_emit ⟨by have := K.2.2.2.1; omega, by have := K.2.2.2.2.1; omega⟩ ka53.1 ka53.2 (by decide) rfl rfl (rest := []) rfl (Nat.le_of_ble_eq_true rfl) dX6_binary_90 (fun σ51 w hq => ?_) (fun σ9 E9 hx9 => hX σ9 E9 _ _ _ (tb_out K.2.2.2.2.2.1 rfl) hx9.1 hx9.2.1 hx9.2.2.1 (((hE.trans xσ47).trans xσ50).trans hx9.2.2.2))
  obtain ⟨r52, rfl, gr52, h, hGσ51, hYσ51, xσ51⟩ := hq
  have h := h xσ51
  intro H locs ls hH hl hc
  refine W.eq (g2 := F0 m 93 ls [.int (i32 r52)]) (rfl) ?_
  try dsimp only at h
  refine lv_pop B.1 B.2.1 dX6_binary_93 rfl ?_
  refine lv_aload_n B.1 B.2.1 dX6_binary_94 rfl (lv_at hl 1 rfl) ?_
  refine f_getp B hH (hth.up (xσ47.trans (xσ50.trans xσ51))) (by decide) rfl wu_X6 7 (by decide) wf_X6_31 rfl rfl dX6_binary_95 ?_
  refine lv_iload B.1 B.2.1 dX6_binary_98 (lv_at hl 0 rfl) ?_
  obtain ⟨a55, ea55, h⟩ := h
  have ka55 : kO σ51 a55 4 := (hYσ51.get (hth.up (xσ47.trans (xσ50.trans xσ51))) (by decide)) a55 ea55
  have h := h ka55
  refine W.eq (g2 := F0 m 100 ls [.int (i32 r48), .ref a55]) (by rw [ea55]; rfl) ?_
  refine c_V B hH hl hc K.2.2.1 (C := RX4) (T := TX4) (N := 14) (ci := 4) (As := [.int (i32 r48)]) (ok_X4_landHere hl9 K.2.1 σ51 a55 r48 gr48 ka55 hGσ51 hYσ51 h) wc_X6_250 1 hd_X4_landHere ⟨by have := K.2.2.2.1; omega, by have := K.2.2.2.2.1; omega⟩ ka55.1 ka55.2 (by decide) rfl rfl (rest := []) rfl (Nat.le_of_ble_eq_true rfl) dX6_binary_100 (fun σ54 w hq => ?_) (fun σ9 E9 hx9 => hX σ9 E9 _ _ _ (tb_out K.2.2.2.2.2.1 rfl) hx9.1 hx9.2.1 hx9.2.2.1 ((((hE.trans xσ47).trans xσ50).trans xσ51).trans hx9.2.2.2))
  obtain ⟨rfl, h, hGσ54, hYσ54, xσ54⟩ := hq
  have h := h xσ54
  intro H locs ls hH hl hc
  refine W.eq (g2 := F0 m 103 ls []) (rfl) ?_
  try dsimp only at h
  refine lv_goto (tgt := 125) B.1 B.2.1 dX6_binary_103 (by decide) ?_
  exact a_X6_binary_125 K hQ hX hTh hRC hf0 hl1 hK21 _ _ _ _ g1 g2 g3 h hGσ54 hYσ54 ((((hE.trans xσ47).trans xσ50).trans xσ51).trans xσ54) (hth.up (xσ47.trans (xσ50.trans (xσ51.trans xσ54)))) _ _ _ hH (lv_sub (l' := [(0, .ref th), (1, .int (i32 v1)), (2, .int (i32 v2)), (3, .int (i32 v3))]) hl [1, 2, 3, 4] rfl) hc
set_option maxRecDepth 20000 in
theorem a_X6_binary_49 {Q : Sg → Unit → Prop} {X : Sg → String → Prop} {th : Nat} {fr0 lw0 : Nat} {rc : Nat → Int → Int → Sg → (Sg → Unit → Prop) → (Sg → String → Prop) → Prop} (K : MD l R p s m args c cX6_binary 6 RX6 D cA tys A n0 s0 (fr0 + 1) (lw0 + 60) []) (hQ : CQV p l e R s m args below meth c cX6_binary D cA A n0 s0 QM σi Q) (hX : CX p l e R s m args below meth c 6 D cA A n0 s0 QM σi X) (hTh : CT p l e R s m args below meth c cX6_binary 6 D cA A n0 s0 QM σi RX6 X) (hRC : HRD l D cA tys A th fr0 lw0 rc) (hf0 : 40 ≤ fr0) (hl1 : 4000 ≤ lw0) {K21 : Sg → Int → Int → Int → Prop} (hK21 : ∀ (σ : Sg) (v1 : Int) (v2 : Int) (v3 : Int) (g1 : rng v1) (g2 : rng v2) (g3 : rng v3), K21 σ v1 v2 v3 → RG σ → TY σ → Ext σi σ → kO σ th 6 → JJ p l e R s m args below meth c 6 D cA A n0 s0 QM σ 21 [(0, .ref th), (1, .int (i32 v1)), (2, .int (i32 v2)), (3, .int (i32 v3))] []) : ∀ (σ : Sg) (v1 : Int) (v2 : Int) (v3 : Int) (g1 : rng v1) (g2 : rng v2) (g3 : rng v3), w_X6_binary_49 th rc K21 Q X σ v1 v2 v3 → RG σ → TY σ → Ext σi σ → kO σ th 6 → JJ p l e R s m args below meth c 6 D cA A n0 s0 QM σ 49 [(0, .ref th), (1, .int (i32 v1)), (2, .int (i32 v2)), (3, .int (i32 v3))] [] := by
  intro σ v1 v2 v3 g1 g2 g3 h hGσ hYσ hE hth H locs ls hH hl hc
  have B := K.1
  have hl9 := K.2.2.2.2.2.2
  unfold w_X6_binary_49 at h
  refine lv_aload_n B.1 B.2.1 dX6_binary_49 rfl (lv_at hl 0 rfl) ?_
  refine W.eq (g2 := F0 m 50 ls [.ref th]) (rfl) ?_
  refine c_V B hH hl hc K.2.2.1 (C := RX6) (T := TX6) (N := 9) (ci := 6) (As := []) (ok_X6_instructionOfToken hl9 K.2.1 σ th hth hGσ hYσ h) wc_X6_259 0 hd_X6_instructionOfToken ⟨by have := K.2.2.2.1; omega, by have := K.2.2.2.2.1; omega⟩ hth.1 hth.2 (by decide) rfl rfl (rest := []) rfl (Nat.le_of_ble_eq_true rfl) dX6_binary_50 (fun σ56 w hq => ?_) (fun σ9 E9 hx9 => hX σ9 E9 _ _ _ (tb_out K.2.2.2.2.2.1 rfl) hx9.1 hx9.2.1 hx9.2.2.1 (hE.trans hx9.2.2.2))
  obtain ⟨r57, rfl, gr57, h, hGσ56, hYσ56, xσ56⟩ := hq
  have h := h xσ56
  intro H locs ls hH hl hc
  refine W.eq (g2 := F0 m 53 ls [.int (i32 r57)]) (rfl) ?_
  try dsimp only at h
  refine lv_istore (lv' := [(4, .int (i32 r57)), (0, .ref th), (1, .int (i32 v1)), (2, .int (i32 v2)), (3, .int (i32 v3))]) B.1 B.2.1 dX6_binary_53 hl (by decide) rfl (fun ls hl => ?_)
  refine lv_aload_n B.1 B.2.1 dX6_binary_55 rfl (lv_at hl 1 rfl) ?_
  refine W.eq (g2 := F0 m 56 ls [.ref th]) (rfl) ?_
  refine c_V B hH hl hc K.2.2.1 (C := RX6) (T := TX6) (N := 9) (ci := 6) (As := []) (ok_X6_next hl9 K.2.1 σ56 th (hth.up xσ56) hGσ56 hYσ56 h) wc_X6_40 0 hd_X6_next ⟨by have := K.2.2.2.1; omega, by have := K.2.2.2.2.1; omega⟩ (hth.up xσ56).1 (hth.up xσ56).2 (by decide) rfl rfl (rest := []) rfl (Nat.le_of_ble_eq_true rfl) dX6_binary_56 (fun σ58 w hq => ?_) (fun σ9 E9 hx9 => hX σ9 E9 _ _ _ (tb_out K.2.2.2.2.2.1 rfl) hx9.1 hx9.2.1 hx9.2.2.1 ((hE.trans xσ56).trans hx9.2.2.2))
  obtain ⟨rfl, h, hGσ58, hYσ58, xσ58⟩ := hq
  have h := h xσ58
  intro H locs ls hH hl hc
  refine W.eq (g2 := F0 m 59 ls []) (rfl) ?_
  try dsimp only at h
  refine lv_iload_n B.1 B.2.1 dX6_binary_59 rfl (lv_at hl 2 rfl) ?_
  refine lv_if_ne (tgt := 106) B.1 B.2.1 dX6_binary_60 (by decide) (fun h9 => ?_) (fun h9 => ?_)
  · rw [if_pos (fun q => h9 ((z_eq g1).mpr q))] at h
    exact a_X6_binary_106 K hQ hX hTh hRC hf0 hl1 hK21 _ _ _ _ _ g1 g2 g3 gr57 h hGσ58 hYσ58 ((hE.trans xσ56).trans xσ58) (hth.up (xσ56.trans xσ58)) _ _ _ hH (lv_sub (l' := [(0, .ref th), (1, .int (i32 v1)), (2, .int (i32 v2)), (3, .int (i32 v3)), (4, .int (i32 r57))]) hl [1, 2, 3, 4, 0] rfl) hc
  · rw [if_neg (fun q => q ((z_eq g1).mp h9))] at h
    exact a_X6_binary_63 K hQ hX hTh hRC hf0 hl1 hK21 _ _ _ _ _ g1 g2 g3 gr57 h hGσ58 hYσ58 ((hE.trans xσ56).trans xσ58) (hth.up (xσ56.trans xσ58)) _ _ _ hH (lv_sub (l' := [(0, .ref th), (1, .int (i32 v1)), (2, .int (i32 v2)), (3, .int (i32 v3)), (4, .int (i32 r57))]) hl [1, 2, 3, 4, 0] rfl) hc
set_option maxRecDepth 20000 in
theorem a_X6_binary_45 {Q : Sg → Unit → Prop} {X : Sg → String → Prop} {th : Nat} {fr0 lw0 : Nat} {rc : Nat → Int → Int → Sg → (Sg → Unit → Prop) → (Sg → String → Prop) → Prop} (K : MD l R p s m args c cX6_binary 6 RX6 D cA tys A n0 s0 (fr0 + 1) (lw0 + 60) []) (hQ : CQV p l e R s m args below meth c cX6_binary D cA A n0 s0 QM σi Q) (hX : CX p l e R s m args below meth c 6 D cA A n0 s0 QM σi X) (hTh : CT p l e R s m args below meth c cX6_binary 6 D cA A n0 s0 QM σi RX6 X) (hRC : HRD l D cA tys A th fr0 lw0 rc) (hf0 : 40 ≤ fr0) (hl1 : 4000 ≤ lw0) {K21 : Sg → Int → Int → Int → Prop} (hK21 : ∀ (σ : Sg) (v1 : Int) (v2 : Int) (v3 : Int) (g1 : rng v1) (g2 : rng v2) (g3 : rng v3), K21 σ v1 v2 v3 → RG σ → TY σ → Ext σi σ → kO σ th 6 → JJ p l e R s m args below meth c 6 D cA A n0 s0 QM σ 21 [(0, .ref th), (1, .int (i32 v1)), (2, .int (i32 v2)), (3, .int (i32 v3))] []) : ∀ (σ : Sg) (v1 : Int) (v2 : Int) (v3 : Int) (g1 : rng v1) (g2 : rng v2) (g3 : rng v3), w_X6_binary_45 th rc K21 Q X σ v1 v2 v3 → RG σ → TY σ → Ext σi σ → kO σ th 6 → JJ p l e R s m args below meth c 6 D cA A n0 s0 QM σ 45 [(0, .ref th), (1, .int (i32 v1)), (2, .int (i32 v2)), (3, .int (i32 v3))] [] := by
  intro σ v1 v2 v3 g1 g2 g3 h hGσ hYσ hE hth H locs ls hH hl hc
  have B := K.1
  have hl9 := K.2.2.2.2.2.2
  unfold w_X6_binary_45 at h
  refine lv_aload_n B.1 B.2.1 dX6_binary_45 rfl (lv_at hl 0 rfl) ?_
  refine W.eq (g2 := F0 m 46 ls [.ref th]) (rfl) ?_
  refine c_V B hH hl hc K.2.2.1 (C := RX6) (T := TX6) (N := 9) (ci := 6) (As := []) (ok_X6_cannotStand hl9 K.2.1 σ th hth hGσ hYσ h) wc_X6_70 0 hd_X6_cannotStand ⟨by have := K.2.2.2.1; omega, by have := K.2.2.2.2.1; omega⟩ hth.1 hth.2 (by decide) rfl rfl (rest := []) rfl (Nat.le_of_ble_eq_true rfl) dX6_binary_46 (fun σ59 w hq => ?_) (fun σ9 E9 hx9 => hX σ9 E9 _ _ _ (tb_out K.2.2.2.2.2.1 rfl) hx9.1 hx9.2.1 hx9.2.2.1 (hE.trans hx9.2.2.2))
  obtain ⟨rfl, h, hGσ59, hYσ59, xσ59⟩ := hq
  have h := h xσ59
  intro H locs ls hH hl hc
  refine W.eq (g2 := F0 m 49 ls []) (rfl) ?_
  try dsimp only at h
  exact a_X6_binary_49 K hQ hX hTh hRC hf0 hl1 hK21 _ _ _ _ g1 g2 g3 h hGσ59 hYσ59 (hE.trans xσ59) (hth.up xσ59) _ _ _ hH (lv_sub (l' := [(0, .ref th), (1, .int (i32 v1)), (2, .int (i32 v2)), (3, .int (i32 v3))]) hl [0, 1, 2, 3] rfl) hc
set_option maxRecDepth 20000 in
theorem a_X6_binary_41 {Q : Sg → Unit → Prop} {X : Sg → String → Prop} {th : Nat} {fr0 lw0 : Nat} {rc : Nat → Int → Int → Sg → (Sg → Unit → Prop) → (Sg → String → Prop) → Prop} (K : MD l R p s m args c cX6_binary 6 RX6 D cA tys A n0 s0 (fr0 + 1) (lw0 + 60) []) (hQ : CQV p l e R s m args below meth c cX6_binary D cA A n0 s0 QM σi Q) (hX : CX p l e R s m args below meth c 6 D cA A n0 s0 QM σi X) (hTh : CT p l e R s m args below meth c cX6_binary 6 D cA A n0 s0 QM σi RX6 X) (hRC : HRD l D cA tys A th fr0 lw0 rc) (hf0 : 40 ≤ fr0) (hl1 : 4000 ≤ lw0) {K21 : Sg → Int → Int → Int → Prop} (hK21 : ∀ (σ : Sg) (v1 : Int) (v2 : Int) (v3 : Int) (g1 : rng v1) (g2 : rng v2) (g3 : rng v3), K21 σ v1 v2 v3 → RG σ → TY σ → Ext σi σ → kO σ th 6 → JJ p l e R s m args below meth c 6 D cA A n0 s0 QM σ 21 [(0, .ref th), (1, .int (i32 v1)), (2, .int (i32 v2)), (3, .int (i32 v3))] []) : ∀ (σ : Sg) (v1 : Int) (v2 : Int) (v3 : Int) (g1 : rng v1) (g2 : rng v2) (g3 : rng v3), w_X6_binary_41 th rc K21 Q X σ v1 v2 v3 → RG σ → TY σ → Ext σi σ → kO σ th 6 → JJ p l e R s m args below meth c 6 D cA A n0 s0 QM σ 41 [(0, .ref th), (1, .int (i32 v1)), (2, .int (i32 v2)), (3, .int (i32 v3))] [] := by
  intro σ v1 v2 v3 g1 g2 g3 h hGσ hYσ hE hth H locs ls hH hl hc
  have B := K.1
  have hl9 := K.2.2.2.2.2.2
  unfold w_X6_binary_41 at h
  refine lv_iload_n B.1 B.2.1 dX6_binary_41 rfl (lv_at hl 3 rfl) ?_
  refine lv_if_le (tgt := 49) B.1 B.2.1 dX6_binary_42 (by decide) (fun h9 => ?_) (fun h9 => ?_)
  · rw [if_pos ((z_le g3).mp h9)] at h
    exact a_X6_binary_49 K hQ hX hTh hRC hf0 hl1 hK21 _ _ _ _ g1 g2 g3 h hGσ hYσ hE hth _ _ _ hH (lv_sub (l' := [(0, .ref th), (1, .int (i32 v1)), (2, .int (i32 v2)), (3, .int (i32 v3))]) hl [0, 1, 2, 3] rfl) hc
  · rw [if_neg (fun q => h9 ((z_le g3).mpr q))] at h
    exact a_X6_binary_45 K hQ hX hTh hRC hf0 hl1 hK21 _ _ _ _ g1 g2 g3 h hGσ hYσ hE hth _ _ _ hH (lv_sub (l' := [(0, .ref th), (1, .int (i32 v1)), (2, .int (i32 v2)), (3, .int (i32 v3))]) hl [0, 1, 2, 3] rfl) hc
set_option maxRecDepth 20000 in
theorem a_X6_binary_36 {Q : Sg → Unit → Prop} {X : Sg → String → Prop} {th : Nat} {fr0 lw0 : Nat} {rc : Nat → Int → Int → Sg → (Sg → Unit → Prop) → (Sg → String → Prop) → Prop} (K : MD l R p s m args c cX6_binary 6 RX6 D cA tys A n0 s0 (fr0 + 1) (lw0 + 60) []) (hQ : CQV p l e R s m args below meth c cX6_binary D cA A n0 s0 QM σi Q) (hX : CX p l e R s m args below meth c 6 D cA A n0 s0 QM σi X) (hTh : CT p l e R s m args below meth c cX6_binary 6 D cA A n0 s0 QM σi RX6 X) (hRC : HRD l D cA tys A th fr0 lw0 rc) (hf0 : 40 ≤ fr0) (hl1 : 4000 ≤ lw0) {K21 : Sg → Int → Int → Int → Prop} (hK21 : ∀ (σ : Sg) (v1 : Int) (v2 : Int) (v3 : Int) (g1 : rng v1) (g2 : rng v2) (g3 : rng v3), K21 σ v1 v2 v3 → RG σ → TY σ → Ext σi σ → kO σ th 6 → JJ p l e R s m args below meth c 6 D cA A n0 s0 QM σ 21 [(0, .ref th), (1, .int (i32 v1)), (2, .int (i32 v2)), (3, .int (i32 v3))] []) : ∀ (σ : Sg) (v1 : Int) (v2 : Int) (v3 : Int) (g1 : rng v1) (g2 : rng v2) (g3 : rng v3), w_X6_binary_36 th rc K21 Q X σ v1 v2 v3 → RG σ → TY σ → Ext σi σ → kO σ th 6 → JJ p l e R s m args below meth c 6 D cA A n0 s0 QM σ 36 [(0, .ref th), (1, .int (i32 v1)), (2, .int (i32 v2)), (3, .int (i32 v3))] [] := by
  intro σ v1 v2 v3 g1 g2 g3 h hGσ hYσ hE hth H locs ls hH hl hc
  have B := K.1
  have hl9 := K.2.2.2.2.2.2
  unfold w_X6_binary_36 at h
  refine lv_iload_n B.1 B.2.1 dX6_binary_36 rfl (lv_at hl 1 rfl) ?_
  refine lv_iconst (v := i32 1) B.1 B.2.1 dX6_binary_37 (by decide) ?_
  refine lv_icmp_ne (tgt := 49) B.1 B.2.1 dX6_binary_38 (by decide) (fun h9 => ?_) (fun h9 => ?_)
  · rw [if_pos (fun q => h9 ((i32_eq g1 (by unfold rng; omega)).mpr q))] at h
    exact a_X6_binary_49 K hQ hX hTh hRC hf0 hl1 hK21 _ _ _ _ g1 g2 g3 h hGσ hYσ hE hth _ _ _ hH (lv_sub (l' := [(0, .ref th), (1, .int (i32 v1)), (2, .int (i32 v2)), (3, .int (i32 v3))]) hl [0, 1, 2, 3] rfl) hc
  · rw [if_neg (fun q => q ((i32_eq g1 (by unfold rng; omega)).mp h9))] at h
    exact a_X6_binary_41 K hQ hX hTh hRC hf0 hl1 hK21 _ _ _ _ g1 g2 g3 h hGσ hYσ hE hth _ _ _ hH (lv_sub (l' := [(0, .ref th), (1, .int (i32 v1)), (2, .int (i32 v2)), (3, .int (i32 v3))]) hl [0, 1, 2, 3] rfl) hc
set_option maxRecDepth 20000 in
theorem a_X6_binary_28 {Q : Sg → Unit → Prop} {X : Sg → String → Prop} {th : Nat} {fr0 lw0 : Nat} {rc : Nat → Int → Int → Sg → (Sg → Unit → Prop) → (Sg → String → Prop) → Prop} (K : MD l R p s m args c cX6_binary 6 RX6 D cA tys A n0 s0 (fr0 + 1) (lw0 + 60) []) (hQ : CQV p l e R s m args below meth c cX6_binary D cA A n0 s0 QM σi Q) (hX : CX p l e R s m args below meth c 6 D cA A n0 s0 QM σi X) (hTh : CT p l e R s m args below meth c cX6_binary 6 D cA A n0 s0 QM σi RX6 X) (hRC : HRD l D cA tys A th fr0 lw0 rc) (hf0 : 40 ≤ fr0) (hl1 : 4000 ≤ lw0) {K21 : Sg → Int → Int → Int → Prop} (hK21 : ∀ (σ : Sg) (v1 : Int) (v2 : Int) (v3 : Int) (g1 : rng v1) (g2 : rng v2) (g3 : rng v3), K21 σ v1 v2 v3 → RG σ → TY σ → Ext σi σ → kO σ th 6 → JJ p l e R s m args below meth c 6 D cA A n0 s0 QM σ 21 [(0, .ref th), (1, .int (i32 v1)), (2, .int (i32 v2)), (3, .int (i32 v3))] []) : ∀ (σ : Sg) (v1 : Int) (v2 : Int) (v3 : Int) (g1 : rng v1) (g2 : rng v2) (g3 : rng v3), w_X6_binary_28 th rc K21 Q X σ v1 v2 v3 → RG σ → TY σ → Ext σi σ → kO σ th 6 → JJ p l e R s m args below meth c 6 D cA A n0 s0 QM σ 28 [(0, .ref th), (1, .int (i32 v1)), (2, .int (i32 v2)), (3, .int (i32 v3))] [] := by
  intro σ v1 v2 v3 g1 g2 g3 h hGσ hYσ hE hth H locs ls hH hl hc
  have B := K.1
  have hl9 := K.2.2.2.2.2.2
  unfold w_X6_binary_28 at h
  refine lv_aload_n B.1 B.2.1 dX6_binary_28 rfl (lv_at hl 0 rfl) ?_
  refine W.eq (g2 := F0 m 29 ls [.ref th]) (rfl) ?_
  refine c_V B hH hl hc K.2.2.1 (C := RX6) (T := TX6) (N := 9) (ci := 6) (As := []) (ok_X6_levelOfToken hl9 K.2.1 σ th hth hGσ hYσ h) wc_X6_256 0 hd_X6_levelOfToken ⟨by have := K.2.2.2.1; omega, by have := K.2.2.2.2.1; omega⟩ hth.1 hth.2 (by decide) rfl rfl (rest := []) rfl (Nat.le_of_ble_eq_true rfl) dX6_binary_29 (fun σ60 w hq => ?_) (fun σ9 E9 hx9 => hX σ9 E9 _ _ _ (tb_out K.2.2.2.2.2.1 rfl) hx9.1 hx9.2.1 hx9.2.2.1 (hE.trans hx9.2.2.2))
  obtain ⟨r61, rfl, gr61, h, hGσ60, hYσ60, xσ60⟩ := hq
  have h := h xσ60
  intro H locs ls hH hl hc
  refine W.eq (g2 := F0 m 32 ls [.int (i32 r61)]) (rfl) ?_
  try dsimp only at h
  refine lv_iload_n B.1 B.2.1 dX6_binary_32 rfl (lv_at hl 1 rfl) ?_
  refine lv_icmp_ne (tgt := 131) B.1 B.2.1 dX6_binary_33 (by decide) (fun h9 => ?_) (fun h9 => ?_)
  · rw [if_pos (fun q => h9 ((i32_eq gr61 g1).mpr q))] at h
    exact a_X6_binary_131 K hQ hX hTh hRC hf0 hl1 _ h hGσ60 hYσ60 (hE.trans xσ60) (hth.up xσ60) _ _ _ hH (lv_sub (l' := [(0, .ref th)]) hl [0] rfl) hc
  · rw [if_neg (fun q => q ((i32_eq gr61 g1).mp h9))] at h
    exact a_X6_binary_36 K hQ hX hTh hRC hf0 hl1 hK21 _ _ _ _ g1 g2 g3 h hGσ60 hYσ60 (hE.trans xσ60) (hth.up xσ60) _ _ _ hH (lv_sub (l' := [(0, .ref th), (1, .int (i32 v1)), (2, .int (i32 v2)), (3, .int (i32 v3))]) hl [0, 1, 2, 3] rfl) hc
set_option maxRecDepth 20000 in
theorem a_X6_binary_21 {Q : Sg → Unit → Prop} {X : Sg → String → Prop} {th : Nat} {fr0 lw0 : Nat} {rc : Nat → Int → Int → Sg → (Sg → Unit → Prop) → (Sg → String → Prop) → Prop} (K : MD l R p s m args c cX6_binary 6 RX6 D cA tys A n0 s0 (fr0 + 1) (lw0 + 60) []) (hQ : CQV p l e R s m args below meth c cX6_binary D cA A n0 s0 QM σi Q) (hX : CX p l e R s m args below meth c 6 D cA A n0 s0 QM σi X) (hTh : CT p l e R s m args below meth c cX6_binary 6 D cA A n0 s0 QM σi RX6 X) (hRC : HRD l D cA tys A th fr0 lw0 rc) (hf0 : 40 ≤ fr0) (hl1 : 4000 ≤ lw0) {K21 : Sg → Int → Int → Int → Prop} (hK21 : ∀ (σ : Sg) (v1 : Int) (v2 : Int) (v3 : Int) (g1 : rng v1) (g2 : rng v2) (g3 : rng v3), K21 σ v1 v2 v3 → RG σ → TY σ → Ext σi σ → kO σ th 6 → JJ p l e R s m args below meth c 6 D cA A n0 s0 QM σ 21 [(0, .ref th), (1, .int (i32 v1)), (2, .int (i32 v2)), (3, .int (i32 v3))] []) : ∀ (σ : Sg) (v1 : Int) (v2 : Int) (v3 : Int) (g1 : rng v1) (g2 : rng v2) (g3 : rng v3), w_X6_binary_21 th rc K21 Q X σ v1 v2 v3 → RG σ → TY σ → Ext σi σ → kO σ th 6 → JJ p l e R s m args below meth c 6 D cA A n0 s0 QM σ 21 [(0, .ref th), (1, .int (i32 v1)), (2, .int (i32 v2)), (3, .int (i32 v3))] [] := by
  intro σ v1 v2 v3 g1 g2 g3 h hGσ hYσ hE hth H locs ls hH hl hc
  have B := K.1
  have hl9 := K.2.2.2.2.2.2
  unfold w_X6_binary_21 at h
  refine lv_iload_n B.1 B.2.1 dX6_binary_21 rfl (lv_at hl 3 rfl) ?_
  refine lv_sipush (v := i32 1500) B.1 B.2.1 dX6_binary_22 (by decide) ?_
  refine lv_icmp_ge (tgt := 131) B.1 B.2.1 dX6_binary_25 (by decide) (fun h9 => ?_) (fun h9 => ?_)
  · rw [if_pos ((i32_le (by unfold rng; omega) g3).mp h9)] at h
    exact a_X6_binary_131 K hQ hX hTh hRC hf0 hl1 _ h hGσ hYσ hE hth _ _ _ hH (lv_sub (l' := [(0, .ref th)]) hl [0] rfl) hc
  · rw [if_neg (fun q => h9 ((i32_le (by unfold rng; omega) g3).mpr q))] at h
    exact a_X6_binary_28 K hQ hX hTh hRC hf0 hl1 hK21 _ _ _ _ g1 g2 g3 h hGσ hYσ hE hth _ _ _ hH (lv_sub (l' := [(0, .ref th), (1, .int (i32 v1)), (2, .int (i32 v2)), (3, .int (i32 v3))]) hl [0, 1, 2, 3] rfl) hc
theorem al_X6_binary_21 {Q : Sg → Unit → Prop} {X : Sg → String → Prop} {th : Nat} {fr0 lw0 : Nat} {rc : Nat → Int → Int → Sg → (Sg → Unit → Prop) → (Sg → String → Prop) → Prop} (K : MD l R p s m args c cX6_binary 6 RX6 D cA tys A n0 s0 (fr0 + 1) (lw0 + 60) []) (hQ : CQV p l e R s m args below meth c cX6_binary D cA A n0 s0 QM σi Q) (hX : CX p l e R s m args below meth c 6 D cA A n0 s0 QM σi X) (hTh : CT p l e R s m args below meth c cX6_binary 6 D cA A n0 s0 QM σi RX6 X) (hRC : HRD l D cA tys A th fr0 lw0 rc) (hf0 : 40 ≤ fr0) (hl1 : 4000 ≤ lw0) : ∀ (n : Nat), ∀ (σ : Sg) (v1 : Int) (v2 : Int) (v3 : Int) (g1 : rng v1) (g2 : rng v2) (g3 : rng v3), wl_X6_binary_21 th rc Q X n σ v1 v2 v3 → RG σ → TY σ → Ext σi σ → kO σ th 6 → JJ p l e R s m args below meth c 6 D cA A n0 s0 QM σ 21 [(0, .ref th), (1, .int (i32 v1)), (2, .int (i32 v2)), (3, .int (i32 v3))] [] := by
  intro n
  induction n with
  | zero => intro σ v1 v2 v3 g1 g2 g3 h; exact h.elim
  | succ n ih => exact fun σ v1 v2 v3 g1 g2 g3 h => a_X6_binary_21 K hQ hX hTh hRC hf0 hl1 ih σ v1 v2 v3 g1 g2 g3 h
set_option maxRecDepth 20000 in
theorem a_X6_binary_11 {Q : Sg → Unit → Prop} {X : Sg → String → Prop} {th : Nat} {fr0 lw0 : Nat} {rc : Nat → Int → Int → Sg → (Sg → Unit → Prop) → (Sg → String → Prop) → Prop} (K : MD l R p s m args c cX6_binary 6 RX6 D cA tys A n0 s0 (fr0 + 1) (lw0 + 60) []) (hQ : CQV p l e R s m args below meth c cX6_binary D cA A n0 s0 QM σi Q) (hX : CX p l e R s m args below meth c 6 D cA A n0 s0 QM σi X) (hTh : CT p l e R s m args below meth c cX6_binary 6 D cA A n0 s0 QM σi RX6 X) (hRC : HRD l D cA tys A th fr0 lw0 rc) (hf0 : 40 ≤ fr0) (hl1 : 4000 ≤ lw0) : ∀ (σ : Sg) (v1 : Int) (v2 : Int) (g1 : rng v1) (g2 : rng v2), w_X6_binary_11 th rc Q X σ v1 v2 → RG σ → TY σ → Ext σi σ → kO σ th 6 → JJ p l e R s m args below meth c 6 D cA A n0 s0 QM σ 11 [(0, .ref th), (1, .int (i32 v1)), (2, .int (i32 v2))] [] := by
  intro σ v1 v2 g1 g2 h hGσ hYσ hE hth H locs ls hH hl hc
  have B := K.1
  have hl9 := K.2.2.2.2.2.2
  unfold w_X6_binary_11 at h
  refine lv_aload_n B.1 B.2.1 dX6_binary_11 rfl (lv_at hl 0 rfl) ?_
  refine lv_iload_n B.1 B.2.1 dX6_binary_12 rfl (lv_at hl 1 rfl) ?_
  refine lv_iconst (v := i32 1) B.1 B.2.1 dX6_binary_13 (by decide) ?_
  obtain ⟨q1, h⟩ := h
  refine lv_iadd B.1 B.2.1 dX6_binary_14 ?_
  rw [i32_add]
  refine lv_iload_n B.1 B.2.1 dX6_binary_15 rfl (lv_at hl 2 rfl) ?_
  refine W.eq (g2 := F0 m 16 ls [.int (i32 v2), .int (i32 (v1 + 1)), .ref th]) (rfl) ?_
  refine c_V B hH hl hc K.2.2.1 (C := RX6) (T := TX6) (N := 9) (ci := 6) (As := [.int (i32 (v1 + 1)), .int (i32 v2)]) (hRC.2.1 σ (v1 + 1) v2 q1 g2 hth hGσ hYσ h) wc_X6_243 2 hd_X6_binary ⟨by have := K.2.2.2.1; omega, by have := K.2.2.2.2.1; omega⟩ hth.1 hth.2 (by decide) rfl rfl (rest := []) rfl (Nat.le_of_ble_eq_true rfl) dX6_binary_16 (fun σ62 w hq => ?_) (fun σ9 E9 hx9 => hX σ9 E9 _ _ _ (tb_out K.2.2.2.2.2.1 rfl) hx9.1 hx9.2.1 hx9.2.2.1 (hE.trans hx9.2.2.2))
  obtain ⟨rfl, h, hGσ62, hYσ62, xσ62⟩ := hq
  have h := h xσ62
  intro H locs ls hH hl hc
  refine W.eq (g2 := F0 m 19 ls []) (rfl) ?_
  try dsimp only at h
  refine lv_iconst (v := i32 0) B.1 B.2.1 dX6_binary_19 (by decide) ?_
  refine lv_istore_n (lv' := [(3, .int (i32 0)), (0, .ref th), (1, .int (i32 v1)), (2, .int (i32 v2))]) B.1 B.2.1 dX6_binary_20 rfl hl (by decide) rfl (fun ls hl => ?_)
  obtain ⟨n9, h⟩ := h
  exact al_X6_binary_21 K hQ hX hTh hRC hf0 hl1 n9 _ _ _ _ g1 g2 (by unfold rng; omega) h hGσ62 hYσ62 (hE.trans xσ62) (hth.up xσ62) _ _ _ hH (lv_sub (l' := [(0, .ref th), (1, .int (i32 v1)), (2, .int (i32 v2)), (3, .int (i32 0))]) hl [1, 2, 3, 0] rfl) hc
set_option maxRecDepth 20000 in
theorem a_X6_binary_5 {Q : Sg → Unit → Prop} {X : Sg → String → Prop} {th : Nat} {fr0 lw0 : Nat} {rc : Nat → Int → Int → Sg → (Sg → Unit → Prop) → (Sg → String → Prop) → Prop} (K : MD l R p s m args c cX6_binary 6 RX6 D cA tys A n0 s0 (fr0 + 1) (lw0 + 60) []) (hQ : CQV p l e R s m args below meth c cX6_binary D cA A n0 s0 QM σi Q) (hX : CX p l e R s m args below meth c 6 D cA A n0 s0 QM σi X) (hTh : CT p l e R s m args below meth c cX6_binary 6 D cA A n0 s0 QM σi RX6 X) (hRC : HRD l D cA tys A th fr0 lw0 rc) (hf0 : 40 ≤ fr0) (hl1 : 4000 ≤ lw0) : ∀ (σ : Sg) (v2 : Int) (g2 : rng v2), w_X6_binary_5 th rc Q X σ v2 → RG σ → TY σ → Ext σi σ → kO σ th 6 → JJ p l e R s m args below meth c 6 D cA A n0 s0 QM σ 5 [(0, .ref th), (2, .int (i32 v2))] [] := by
  intro σ v2 g2 h hGσ hYσ hE hth H locs ls hH hl hc
  have B := K.1
  have hl9 := K.2.2.2.2.2.2
  unfold w_X6_binary_5 at h
  refine lv_aload_n B.1 B.2.1 dX6_binary_5 rfl (lv_at hl 0 rfl) ?_
  refine lv_iload_n B.1 B.2.1 dX6_binary_6 rfl (lv_at hl 1 rfl) ?_
  refine W.eq (g2 := F0 m 7 ls [.int (i32 v2), .ref th]) (rfl) ?_
  refine c_V B hH hl hc K.2.2.1 (C := RX6) (T := TX6) (N := 9) (ci := 6) (As := [.int (i32 v2)]) (hRC.2.2.1 σ v2 0 g2 (by unfold rng; omega) hth hGσ hYσ h) wc_X6_253 1 hd_X6_prefixed ⟨by have := K.2.2.2.1; omega, by have := K.2.2.2.2.1; omega⟩ hth.1 hth.2 (by decide) rfl rfl (rest := []) rfl (Nat.le_of_ble_eq_true rfl) dX6_binary_7 (fun σ63 w hq => ?_) (fun σ9 E9 hx9 => hX σ9 E9 _ _ _ (tb_out K.2.2.2.2.2.1 rfl) hx9.1 hx9.2.1 hx9.2.2.1 (hE.trans hx9.2.2.2))
  obtain ⟨rfl, h, hGσ63, hYσ63, xσ63⟩ := hq
  have h := h xσ63
  intro H locs ls hH hl hc
  refine W.eq (g2 := F0 m 10 ls []) (rfl) ?_
  try dsimp only at h
  exact hQ _ _ _ _ _ dX6_binary_10 hH hc h hGσ63 hYσ63 (hE.trans xσ63)
set_option maxRecDepth 20000 in
theorem a_X6_binary_0 {Q : Sg → Unit → Prop} {X : Sg → String → Prop} {th : Nat} {fr0 lw0 : Nat} {rc : Nat → Int → Int → Sg → (Sg → Unit → Prop) → (Sg → String → Prop) → Prop} (K : MD l R p s m args c cX6_binary 6 RX6 D cA tys A n0 s0 (fr0 + 1) (lw0 + 60) []) (hQ : CQV p l e R s m args below meth c cX6_binary D cA A n0 s0 QM σi Q) (hX : CX p l e R s m args below meth c 6 D cA A n0 s0 QM σi X) (hTh : CT p l e R s m args below meth c cX6_binary 6 D cA A n0 s0 QM σi RX6 X) (hRC : HRD l D cA tys A th fr0 lw0 rc) (hf0 : 40 ≤ fr0) (hl1 : 4000 ≤ lw0) : ∀ (σ : Sg) (v1 : Int) (v2 : Int) (g1 : rng v1) (g2 : rng v2), w_X6_binary_0 th rc Q X σ v1 v2 → RG σ → TY σ → Ext σi σ → kO σ th 6 → JJ p l e R s m args below meth c 6 D cA A n0 s0 QM σ 0 [(0, .ref th), (1, .int (i32 v1)), (2, .int (i32 v2))] [] := by
  intro σ v1 v2 g1 g2 h hGσ hYσ hE hth H locs ls hH hl hc
  have B := K.1
  have hl9 := K.2.2.2.2.2.2
  unfold w_X6_binary_0 at h
  refine lv_iload_n B.1 B.2.1 dX6_binary_0 rfl (lv_at hl 1 rfl) ?_
  refine lv_iconst (v := i32 3) B.1 B.2.1 dX6_binary_1 (by decide) ?_
  refine lv_icmp_le (tgt := 11) B.1 B.2.1 dX6_binary_2 (by decide) (fun h9 => ?_) (fun h9 => ?_)
  · rw [if_pos ((i32_le g1 (by unfold rng; omega)).mp h9)] at h
    exact a_X6_binary_11 K hQ hX hTh hRC hf0 hl1 _ _ _ g1 g2 h hGσ hYσ hE hth _ _ _ hH (lv_sub (l' := [(0, .ref th), (1, .int (i32 v1)), (2, .int (i32 v2))]) hl [0, 1, 2] rfl) hc
  · rw [if_neg (fun q => h9 ((i32_le g1 (by unfold rng; omega)).mpr q))] at h
    exact a_X6_binary_5 K hQ hX hTh hRC hf0 hl1 _ _ g2 h hGσ hYσ hE hth _ _ _ hH (lv_sub (l' := [(0, .ref th), (2, .int (i32 v2))]) hl [0, 2] rfl) hc
theorem ok_X6_binary_r {th fr0 lw0 : Nat} {rc : Nat → Int → Int → Sg → (Sg → Unit → Prop) → (Sg → String → Prop) → Prop} (hRC : HRD l D cA tys A th fr0 lw0 rc) (hf0 : 40 ≤ fr0) (hl1 : 4000 ≤ lw0) (hl0 : l.stackTraces = false) (hT : TyC cA tys) {Q : Sg → Unit → Prop} {X : Sg → String → Prop} (σ : Sg) (v1 : Int) (v2 : Int) (g1 : rng v1) (g2 : rng v2) (hth : kO σ th 6) (hG : RG σ) (hY : TY σ) (h : w_X6_binary_0 th rc Q X σ v1 v2) : Ok l D cA tys A yX6_binary (.code yX6_binary cX6_binary 6 none) (fr0 + 1) (lw0 + 60) [.ref th, .int (i32 v1), .int (i32 v2)] σ (QcV σ Q) (QxC σ X) := by
  exact oc_V hl0 (by decide) (by exact Nat.le_of_ble_eq_true rfl) hT (fun p e R s m args below meth c K hQ hX hTh _ H locs ls hH hl hc => a_X6_binary_0 K hQ hX hTh hRC hf0 hl1 σ v1 v2 g1 g2 h hG hY (Ext.rfl' σ) hth H locs ls hH (lv_sub (l' := [(0, .ref th), (1, .int (i32 v1)), (2, .int (i32 v2))]) hl [0, 1, 2] rfl) hc)
theorem dX6_prefixed_0 : decode cX6_prefixed 0 = .ok (.aload_n 0, 1) := by decide +kernel
theorem dX6_prefixed_1 : decode cX6_prefixed 1 = .ok (.bipush 45, 2) := by decide +kernel
theorem dX6_prefixed_3 : decode cX6_prefixed 3 = .ok (.invokevirtual 171, 3) := by decide +kernel
theorem dX6_prefixed_6 : decode cX6_prefixed 6 = .ok (.ifCond .ne 18, 3) := by decide +kernel
theorem dX6_prefixed_9 : decode cX6_prefixed 9 = .ok (.aload_n 0, 1) := by decide +kernel
theorem dX6_prefixed_10 : decode cX6_prefixed 10 = .ok (.bipush 33, 2) := by decide +kernel
theorem dX6_prefixed_12 : decode cX6_prefixed 12 = .ok (.invokevirtual 171, 3) := by decide +kernel
theorem dX6_prefixed_15 : decode cX6_prefixed 15 = .ok (.ifCond .ne 9, 3) := by decide +kernel
theorem dX6_prefixed_18 : decode cX6_prefixed 18 = .ok (.aload_n 0, 1) := by decide +kernel
theorem dX6_prefixed_19 : decode cX6_prefixed 19 = .ok (.iload_n 1, 1) := by decide +kernel
theorem dX6_prefixed_20 : decode cX6_prefixed 20 = .ok (.invokevirtual 262, 3) := by decide +kernel
theorem dX6_prefixed_23 : decode cX6_prefixed 23 = .ok (.return_, 1) := by decide +kernel
theorem dX6_prefixed_24 : decode cX6_prefixed 24 = .ok (.aload_n 0, 1) := by decide +kernel
theorem dX6_prefixed_25 : decode cX6_prefixed 25 = .ok (.iload_n 1, 1) := by decide +kernel
theorem dX6_prefixed_26 : decode cX6_prefixed 26 = .ok (.invokevirtual 247, 3) := by decide +kernel
theorem dX6_prefixed_29 : decode cX6_prefixed 29 = .ok (.aload_n 0, 1) := by decide +kernel
theorem dX6_prefixed_30 : decode cX6_prefixed 30 = .ok (.bipush 45, 2) := by decide +kernel
theorem dX6_prefixed_32 : decode cX6_prefixed 32 = .ok (.invokevirtual 171, 3) := by decide +kernel
theorem dX6_prefixed_35 : decode cX6_prefixed 35 = .ok (.ifCond .eq 7, 3) := by decide +kernel
theorem dX6_prefixed_38 : decode cX6_prefixed 38 = .ok (.iconst 4, 1) := by decide +kernel
theorem dX6_prefixed_39 : decode cX6_prefixed 39 = .ok (.goto 4, 3) := by decide +kernel
theorem dX6_prefixed_42 : decode cX6_prefixed 42 = .ok (.iconst 5, 1) := by decide +kernel
theorem dX6_prefixed_43 : decode cX6_prefixed 43 = .ok (.istore_n 2, 1) := by decide +kernel
theorem dX6_prefixed_44 : decode cX6_prefixed 44 = .ok (.aload_n 0, 1) := by decide +kernel
theorem dX6_prefixed_45 : decode cX6_prefixed 45 = .ok (.invokevirtual 40, 3) := by decide +kernel
theorem dX6_prefixed_48 : decode cX6_prefixed 48 = .ok (.aload_n 0, 1) := by decide +kernel
theorem dX6_prefixed_49 : decode cX6_prefixed 49 = .ok (.iload_n 1, 1) := by decide +kernel
theorem dX6_prefixed_50 : decode cX6_prefixed 50 = .ok (.iconst 1, 1) := by decide +kernel
theorem dX6_prefixed_51 : decode cX6_prefixed 51 = .ok (.iadd, 1) := by decide +kernel
theorem dX6_prefixed_52 : decode cX6_prefixed 52 = .ok (.invokevirtual 253, 3) := by decide +kernel
theorem dX6_prefixed_55 : decode cX6_prefixed 55 = .ok (.aload_n 0, 1) := by decide +kernel
theorem dX6_prefixed_56 : decode cX6_prefixed 56 = .ok (.getfield 31, 3) := by decide +kernel
theorem dX6_prefixed_59 : decode cX6_prefixed 59 = .ok (.iload_n 2, 1) := by decide +kernel
theorem dX6_prefixed_60 : decode cX6_prefixed 60 = .ok (.lconst 0, 1) := by decide +kernel
theorem dX6_prefixed_61 : decode cX6_prefixed 61 = .ok (.invokevirtual 167, 3) := by decide +kernel
theorem dX6_prefixed_64 : decode cX6_prefixed 64 = .ok (.pop, 1) := by decide +kernel
theorem dX6_prefixed_65 : decode cX6_prefixed 65 = .ok (.return_, 1) := by decide +kernel
set_option maxRecDepth 20000 in
theorem a_X6_prefixed_43 {Q : Sg → Unit → Prop} {X : Sg → String → Prop} {th : Nat} {fr0 lw0 : Nat} {rc : Nat → Int → Int → Sg → (Sg → Unit → Prop) → (Sg → String → Prop) → Prop} (K : MD l R p s m args c cX6_prefixed 3 RX6 D cA tys A n0 s0 (fr0 + 1) (lw0 + 60) []) (hQ : CQV p l e R s m args below meth c cX6_prefixed D cA A n0 s0 QM σi Q) (hX : CX p l e R s m args below meth c 3 D cA A n0 s0 QM σi X) (hTh : CT p l e R s m args below meth c cX6_prefixed 3 D cA A n0 s0 QM σi RX6 X) (hRC : HRD l D cA tys A th fr0 lw0 rc) (hf0 : 40 ≤ fr0) (hl1 : 4000 ≤ lw0) : ∀ (σ : Sg) (v1 : Int) (u0 : Int) (g1 : rng v1) (gu0 : rng u0), w_X6_prefixed_43 th rc Q X σ v1 u0 → RG σ → TY σ → Ext σi σ → kO σ th 6 → JJ p l e R s m args below meth c 3 D cA A n0 s0 QM σ 43 [(0, .ref th), (1, .int (i32 v1))] [.int (i32 u0)] := by
  intro σ v1 u0 g1 gu0 h hGσ hYσ hE hth H locs ls hH hl hc
  have B := K.1
  have hl9 := K.2.2.2.2.2.2
  unfold w_X6_prefixed_43 at h
  refine lv_istore_n (lv' := [(2, .int (i32 u0)), (0, .ref th), (1, .int (i32 v1))]) B.1 B.2.1 dX6_prefixed_43 rfl hl (by decide) rfl (fun ls hl => ?_)
  refine lv_aload_n B.1 B.2.1 dX6_prefixed_44 rfl (lv_at hl 1 rfl) ?_
  refine W.eq (g2 := F0 m 45 ls [.ref th]) (rfl) ?_
  refine c_V B hH hl hc K.2.2.1 (C := RX6) (T := TX6) (N := 9) (ci := 6) (As := []) (ok_X6_next hl9 K.2.1 σ th hth hGσ hYσ h) wc_X6_40 0 hd_X6_next ⟨by have := K.2.2.2.1; omega, by have := K.2.2.2.2.1; omega⟩ hth.1 hth.2 (by decide) rfl rfl (rest := []) rfl (Nat.le_of_ble_eq_true rfl) dX6_prefixed_45 (fun σ27 w hq => ?_) (fun σ9 E9 hx9 => hX σ9 E9 _ _ _ (tb_out K.2.2.2.2.2.1 rfl) hx9.1 hx9.2.1 hx9.2.2.1 (hE.trans hx9.2.2.2))
  obtain ⟨rfl, h, hGσ27, hYσ27, xσ27⟩ := hq
  have h := h xσ27
  intro H locs ls hH hl hc
  refine W.eq (g2 := F0 m 48 ls []) (rfl) ?_
  try dsimp only at h
  refine lv_aload_n B.1 B.2.1 dX6_prefixed_48 rfl (lv_at hl 1 rfl) ?_
  refine lv_iload_n B.1 B.2.1 dX6_prefixed_49 rfl (lv_at hl 2 rfl) ?_
  refine lv_iconst (v := i32 1) B.1 B.2.1 dX6_prefixed_50 (by decide) ?_
  obtain ⟨q1, h⟩ := h
  refine lv_iadd B.1 B.2.1 dX6_prefixed_51 ?_
  rw [i32_add]
  refine W.eq (g2 := F0 m 52 ls [.int (i32 (v1 + 1)), .ref th]) (rfl) ?_
  refine c_V B hH hl hc K.2.2.1 (C := RX6) (T := TX6) (N := 9) (ci := 6) (As := [.int (i32 (v1 + 1))]) (hRC.2.2.1 σ27 (v1 + 1) 0 q1 (by unfold rng; omega) (hth.up xσ27) hGσ27 hYσ27 h) wc_X6_253 1 hd_X6_prefixed ⟨by have := K.2.2.2.1; omega, by have := K.2.2.2.2.1; omega⟩ (hth.up xσ27).1 (hth.up xσ27).2 (by decide) rfl rfl (rest := []) rfl (Nat.le_of_ble_eq_true rfl) dX6_prefixed_52 (fun σ28 w hq => ?_) (fun σ9 E9 hx9 => hX σ9 E9 _ _ _ (tb_out K.2.2.2.2.2.1 rfl) hx9.1 hx9.2.1 hx9.2.2.1 ((hE.trans xσ27).trans hx9.2.2.2))
  obtain ⟨rfl, h, hGσ28, hYσ28, xσ28⟩ := hq
  have h := h xσ28
  intro H locs ls hH hl hc
  refine W.eq (g2 := F0 m 55 ls []) (rfl) ?_
  try dsimp only at h
  refine lv_aload_n B.1 B.2.1 dX6_prefixed_55 rfl (lv_at hl 1 rfl) ?_
  refine f_getp B hH (hth.up (xσ27.trans xσ28)) (by decide) rfl wu_X6 7 (by decide) wf_X6_31 rfl rfl dX6_prefixed_56 ?_
  refine lv_iload_n B.1 B.2.1 dX6_prefixed_59 rfl (lv_at hl 0 rfl) ?_
  refine lv_lconst (v := 0) B.1 B.2.1 dX6_prefixed_60 (by decide) ?_
  obtain ⟨a31, ea31, h⟩ := h
  have ka31 : kO σ28 a31 4 := (hYσ28.get (hth.up (xσ27.trans xσ28)) (by decide)) a31 ea31
  have h := h ka31
  refine W.eq (g2 := F0 m 61 ls [.long 0, .int (i32 u0), .ref a31]) (by rw [ea31]; rfl) ?_
  refine c_V B hH hl hc K.2.2.1 (C := RX4) (T := TX4) (N := 14) (ci := 4) (As := [.int (i32 u0), .long 0]) (ok_X4_emit hl9 K.2.1 σ28 a31 u0 0 gu0 ka31 hGσ28 hYσ28 h) wc_X6_167 2 hd_X4_emit ⟨by have := K.2.2.2.1; omega, by have := K.2.2.2.2.1; omega⟩ ka31.1 ka31.2 (by decide) rfl rfl (rest := []) rfl (Nat.le_of_ble_eq_true rfl) dX6_prefixed_61 (fun σ29 w hq => ?_) (fun σ9 E9 hx9 => hX σ9 E9 _ _ _ (tb_out K.2.2.2.2.2.1 rfl) hx9.1 hx9.2.1 hx9.2.2.1 (((hE.trans xσ27).trans xσ28).trans hx9.2.2.2))
  obtain ⟨r30, rfl, gr30, h, hGσ29, hYσ29, xσ29⟩ := hq
  have h := h xσ29
  intro H locs ls hH hl hc
  refine W.eq (g2 := F0 m 64 ls [.int (i32 r30)]) (rfl) ?_
  try dsimp only at h
  refine lv_pop B.1 B.2.1 dX6_prefixed_64 rfl ?_
  exact hQ _ _ _ _ _ dX6_prefixed_65 hH hc h hGσ29 hYσ29 (((hE.trans xσ27).trans xσ28).trans xσ29)
set_option maxRecDepth 20000 in
theorem a_X6_prefixed_42 {Q : Sg → Unit → Prop} {X : Sg → String → Prop} {th : Nat} {fr0 lw0 : Nat} {rc : Nat → Int → Int → Sg → (Sg → Unit → Prop) → (Sg → String → Prop) → Prop} (K : MD l R p s m args c cX6_prefixed 3 RX6 D cA tys A n0 s0 (fr0 + 1) (lw0 + 60) []) (hQ : CQV p l e R s m args below meth c cX6_prefixed D cA A n0 s0 QM σi Q) (hX : CX p l e R s m args below meth c 3 D cA A n0 s0 QM σi X) (hTh : CT p l e R s m args below meth c cX6_prefixed 3 D cA A n0 s0 QM σi RX6 X) (hRC : HRD l D cA tys A th fr0 lw0 rc) (hf0 : 40 ≤ fr0) (hl1 : 4000 ≤ lw0) : ∀ (σ : Sg) (v1 : Int) (g1 : rng v1), w_X6_prefixed_42 th rc Q X σ v1 → RG σ → TY σ → Ext σi σ → kO σ th 6 → JJ p l e R s m args below meth c 3 D cA A n0 s0 QM σ 42 [(0, .ref th), (1, .int (i32 v1))] [] := by
  intro σ v1 g1 h hGσ hYσ hE hth H locs ls hH hl hc
  have B := K.1
  have hl9 := K.2.2.2.2.2.2
  unfold w_X6_prefixed_42 at h
  refine lv_iconst (v := i32 5) B.1 B.2.1 dX6_prefixed_42 (by decide) ?_
  exact a_X6_prefixed_43 K hQ hX hTh hRC hf0 hl1 _ _ _ g1 (by unfold rng; omega) h hGσ hYσ hE hth _ _ _ hH (lv_sub (l' := [(0, .ref th), (1, .int (i32 v1))]) hl [0, 1] rfl) hc
set_option maxRecDepth 20000 in
theorem a_X6_prefixed_38 {Q : Sg → Unit → Prop} {X : Sg → String → Prop} {th : Nat} {fr0 lw0 : Nat} {rc : Nat → Int → Int → Sg → (Sg → Unit → Prop) → (Sg → String → Prop) → Prop} (K : MD l R p s m args c cX6_prefixed 3 RX6 D cA tys A n0 s0 (fr0 + 1) (lw0 + 60) []) (hQ : CQV p l e R s m args below meth c cX6_prefixed D cA A n0 s0 QM σi Q) (hX : CX p l e R s m args below meth c 3 D cA A n0 s0 QM σi X) (hTh : CT p l e R s m args below meth c cX6_prefixed 3 D cA A n0 s0 QM σi RX6 X) (hRC : HRD l D cA tys A th fr0 lw0 rc) (hf0 : 40 ≤ fr0) (hl1 : 4000 ≤ lw0) : ∀ (σ : Sg) (v1 : Int) (g1 : rng v1), w_X6_prefixed_38 th rc Q X σ v1 → RG σ → TY σ → Ext σi σ → kO σ th 6 → JJ p l e R s m args below meth c 3 D cA A n0 s0 QM σ 38 [(0, .ref th), (1, .int (i32 v1))] [] := by
  intro σ v1 g1 h hGσ hYσ hE hth H locs ls hH hl hc
  have B := K.1
  have hl9 := K.2.2.2.2.2.2
  unfold w_X6_prefixed_38 at h
  refine lv_iconst (v := i32 4) B.1 B.2.1 dX6_prefixed_38 (by decide) ?_
  refine lv_goto (tgt := 43) B.1 B.2.1 dX6_prefixed_39 (by decide) ?_
  exact a_X6_prefixed_43 K hQ hX hTh hRC hf0 hl1 _ _ _ g1 (by unfold rng; omega) h hGσ hYσ hE hth _ _ _ hH (lv_sub (l' := [(0, .ref th), (1, .int (i32 v1))]) hl [0, 1] rfl) hc
set_option maxRecDepth 20000 in
theorem a_X6_prefixed_24 {Q : Sg → Unit → Prop} {X : Sg → String → Prop} {th : Nat} {fr0 lw0 : Nat} {rc : Nat → Int → Int → Sg → (Sg → Unit → Prop) → (Sg → String → Prop) → Prop} (K : MD l R p s m args c cX6_prefixed 3 RX6 D cA tys A n0 s0 (fr0 + 1) (lw0 + 60) []) (hQ : CQV p l e R s m args below meth c cX6_prefixed D cA A n0 s0 QM σi Q) (hX : CX p l e R s m args below meth c 3 D cA A n0 s0 QM σi X) (hTh : CT p l e R s m args below meth c cX6_prefixed 3 D cA A n0 s0 QM σi RX6 X) (hRC : HRD l D cA tys A th fr0 lw0 rc) (hf0 : 40 ≤ fr0) (hl1 : 4000 ≤ lw0) : ∀ (σ : Sg) (v1 : Int) (g1 : rng v1), w_X6_prefixed_24 th rc Q X σ v1 → RG σ → TY σ → Ext σi σ → kO σ th 6 → JJ p l e R s m args below meth c 3 D cA A n0 s0 QM σ 24 [(0, .ref th), (1, .int (i32 v1))] [] := by
  intro σ v1 g1 h hGσ hYσ hE hth H locs ls hH hl hc
  have B := K.1
  have hl9 := K.2.2.2.2.2.2
  unfold w_X6_prefixed_24 at h
  refine lv_aload_n B.1 B.2.1 dX6_prefixed_24 rfl (lv_at hl 0 rfl) ?_
  refine lv_iload_n B.1 B.2.1 dX6_prefixed_25 rfl (lv_at hl 1 rfl) ?_
  refine W.eq (g2 := F0 m 26 ls [.int (i32 v1), .ref th]) (rfl) ?_
  refine c_V B hH hl hc K.2.2.1 (C := RX6) (T := TX6) (N := 9) (ci := 6) (As := [.int (i32 v1)]) (ok_X6_goDeeper hl9 K.2.1 σ th v1 g1 hth hGσ hYσ h) wc_X6_247 1 hd_X6_goDeeper ⟨by have := K.2.2.2.1; omega, by have := K.2.2.2.2.1; omega⟩ hth.1 hth.2 (by decide) rfl rfl (rest := []) rfl (Nat.le_of_ble_eq_true rfl) dX6_prefixed_26 (fun σ32 w hq => ?_) (fun σ9 E9 hx9 => hX σ9 E9 _ _ _ (tb_out K.2.2.2.2.2.1 rfl) hx9.1 hx9.2.1 hx9.2.2.1 (hE.trans hx9.2.2.2))
  obtain ⟨rfl, h, hGσ32, hYσ32, xσ32⟩ := hq
  have h := h xσ32
  intro H locs ls hH hl hc
  refine W.eq (g2 := F0 m 29 ls []) (rfl) ?_
  try dsimp only at h
  refine lv_aload_n B.1 B.2.1 dX6_prefixed_29 rfl (lv_at hl 0 rfl) ?_
  refine lv_bipush (v := i32 45) B.1 B.2.1 dX6_prefixed_30 (by decide) ?_
  refine W.eq (g2 := F0 m 32 ls [.int (i32 45), .ref th]) (rfl) ?_
  refine c_V B hH hl hc K.2.2.1 (C := RX6) (T := TX6) (N := 9) (ci := 6) (As := [.int (i32 45)]) (ok_X6_isSign hl9 K.2.1 σ32 th 45 (by unfold rng; omega) (hth.up xσ32) hGσ32 hYσ32 h) wc_X6_171 1 hd_X6_isSign ⟨by have := K.2.2.2.1; omega, by have := K.2.2.2.2.1; omega⟩ (hth.up xσ32).1 (hth.up xσ32).2 (by decide) rfl rfl (rest := []) rfl (Nat.le_of_ble_eq_true rfl) dX6_prefixed_32 (fun σ33 w hq => ?_) (fun σ9 E9 hx9 => hX σ9 E9 _ _ _ (tb_out K.2.2.2.2.2.1 rfl) hx9.1 hx9.2.1 hx9.2.2.1 ((hE.trans xσ32).trans hx9.2.2.2))
  obtain ⟨r34, rfl, ⟨gr34, gzr34⟩, h, hGσ33, hYσ33, xσ33⟩ := hq
  have h := h xσ33
  intro H locs ls hH hl hc
  refine W.eq (g2 := F0 m 35 ls [.int (i32 r34)]) (rfl) ?_
  try dsimp only at h
  refine lv_if_eq (tgt := 42) B.1 B.2.1 dX6_prefixed_35 (by decide) (fun h9 => ?_) (fun h9 => ?_)
  · rw [if_pos ((z_eq gr34).mp h9)] at h
    exact a_X6_prefixed_42 K hQ hX hTh hRC hf0 hl1 _ _ g1 h hGσ33 hYσ33 ((hE.trans xσ32).trans xσ33) (hth.up (xσ32.trans xσ33)) _ _ _ hH (lv_sub (l' := [(0, .ref th), (1, .int (i32 v1))]) hl [0, 1] rfl) hc
  · rw [if_neg (fun q => h9 ((z_eq gr34).mpr q))] at h
    exact a_X6_prefixed_38 K hQ hX hTh hRC hf0 hl1 _ _ g1 h hGσ33 hYσ33 ((hE.trans xσ32).trans xσ33) (hth.up (xσ32.trans xσ33)) _ _ _ hH (lv_sub (l' := [(0, .ref th), (1, .int (i32 v1))]) hl [0, 1] rfl) hc
set_option maxRecDepth 20000 in
theorem a_X6_prefixed_18 {Q : Sg → Unit → Prop} {X : Sg → String → Prop} {th : Nat} {fr0 lw0 : Nat} {rc : Nat → Int → Int → Sg → (Sg → Unit → Prop) → (Sg → String → Prop) → Prop} (K : MD l R p s m args c cX6_prefixed 3 RX6 D cA tys A n0 s0 (fr0 + 1) (lw0 + 60) []) (hQ : CQV p l e R s m args below meth c cX6_prefixed D cA A n0 s0 QM σi Q) (hX : CX p l e R s m args below meth c 3 D cA A n0 s0 QM σi X) (hTh : CT p l e R s m args below meth c cX6_prefixed 3 D cA A n0 s0 QM σi RX6 X) (hRC : HRD l D cA tys A th fr0 lw0 rc) (hf0 : 40 ≤ fr0) (hl1 : 4000 ≤ lw0) : ∀ (σ : Sg) (v1 : Int) (g1 : rng v1), w_X6_prefixed_18 th rc Q X σ v1 → RG σ → TY σ → Ext σi σ → kO σ th 6 → JJ p l e R s m args below meth c 3 D cA A n0 s0 QM σ 18 [(0, .ref th), (1, .int (i32 v1))] [] := by
  intro σ v1 g1 h hGσ hYσ hE hth H locs ls hH hl hc
  have B := K.1
  have hl9 := K.2.2.2.2.2.2
  unfold w_X6_prefixed_18 at h
  refine lv_aload_n B.1 B.2.1 dX6_prefixed_18 rfl (lv_at hl 0 rfl) ?_
  refine lv_iload_n B.1 B.2.1 dX6_prefixed_19 rfl (lv_at hl 1 rfl) ?_
  refine W.eq (g2 := F0 m 20 ls [.int (i32 v1), .ref th]) (rfl) ?_
  refine c_V B hH hl hc K.2.2.1 (C := RX6) (T := TX6) (N := 9) (ci := 6) (As := [.int (i32 v1)]) (hRC.2.2.2 σ v1 0 g1 (by unfold rng; omega) hth hGσ hYσ h) wc_X6_262 1 hd_X6_atom ⟨by have := K.2.2.2.1; omega, by have := K.2.2.2.2.1; omega⟩ hth.1 hth.2 (by decide) rfl rfl (rest := []) rfl (Nat.le_of_ble_eq_true rfl) dX6_prefixed_20 (fun σ35 w hq => ?_) (fun σ9 E9 hx9 => hX σ9 E9 _ _ _ (tb_out K.2.2.2.2.2.1 rfl) hx9.1 hx9.2.1 hx9.2.2.1 (hE.trans hx9.2.2.2))
  obtain ⟨rfl, h, hGσ35, hYσ35, xσ35⟩ := hq
  have h := h xσ35
  intro H locs ls hH hl hc
  refine W.eq (g2 := F0 m 23 ls []) (rfl) ?_
  try dsimp only at h
  exact hQ _ _ _ _ _ dX6_prefixed_23 hH hc h hGσ35 hYσ35 (hE.trans xσ35)
set_option maxRecDepth 20000 in
theorem a_X6_prefixed_9 {Q : Sg → Unit → Prop} {X : Sg → String → Prop} {th : Nat} {fr0 lw0 : Nat} {rc : Nat → Int → Int → Sg → (Sg → Unit → Prop) → (Sg → String → Prop) → Prop} (K : MD l R p s m args c cX6_prefixed 3 RX6 D cA tys A n0 s0 (fr0 + 1) (lw0 + 60) []) (hQ : CQV p l e R s m args below meth c cX6_prefixed D cA A n0 s0 QM σi Q) (hX : CX p l e R s m args below meth c 3 D cA A n0 s0 QM σi X) (hTh : CT p l e R s m args below meth c cX6_prefixed 3 D cA A n0 s0 QM σi RX6 X) (hRC : HRD l D cA tys A th fr0 lw0 rc) (hf0 : 40 ≤ fr0) (hl1 : 4000 ≤ lw0) : ∀ (σ : Sg) (v1 : Int) (g1 : rng v1), w_X6_prefixed_9 th rc Q X σ v1 → RG σ → TY σ → Ext σi σ → kO σ th 6 → JJ p l e R s m args below meth c 3 D cA A n0 s0 QM σ 9 [(0, .ref th), (1, .int (i32 v1))] [] := by
  intro σ v1 g1 h hGσ hYσ hE hth H locs ls hH hl hc
  have B := K.1
  have hl9 := K.2.2.2.2.2.2
  unfold w_X6_prefixed_9 at h
  refine lv_aload_n B.1 B.2.1 dX6_prefixed_9 rfl (lv_at hl 0 rfl) ?_
  refine lv_bipush (v := i32 33) B.1 B.2.1 dX6_prefixed_10 (by decide) ?_
  refine W.eq (g2 := F0 m 12 ls [.int (i32 33), .ref th]) (rfl) ?_
  refine c_V B hH hl hc K.2.2.1 (C := RX6) (T := TX6) (N := 9) (ci := 6) (As := [.int (i32 33)]) (ok_X6_isSign hl9 K.2.1 σ th 33 (by unfold rng; omega) hth hGσ hYσ h) wc_X6_171 1 hd_X6_isSign ⟨by have := K.2.2.2.1; omega, by have := K.2.2.2.2.1; omega⟩ hth.1 hth.2 (by decide) rfl rfl (rest := []) rfl (Nat.le_of_ble_eq_true rfl) dX6_prefixed_12 (fun σ36 w hq => ?_) (fun σ9 E9 hx9 => hX σ9 E9 _ _ _ (tb_out K.2.2.2.2.2.1 rfl) hx9.1 hx9.2.1 hx9.2.2.1 (hE.trans hx9.2.2.2))
  obtain ⟨r37, rfl, ⟨gr37, gzr37⟩, h, hGσ36, hYσ36, xσ36⟩ := hq
  have h := h xσ36
  intro H locs ls hH hl hc
  refine W.eq (g2 := F0 m 15 ls [.int (i32 r37)]) (rfl) ?_
  try dsimp only at h
  refine lv_if_ne (tgt := 24) B.1 B.2.1 dX6_prefixed_15 (by decide) (fun h9 => ?_) (fun h9 => ?_)
  · rw [if_pos (fun q => h9 ((z_eq gr37).mpr q))] at h
    exact a_X6_prefixed_24 K hQ hX hTh hRC hf0 hl1 _ _ g1 h hGσ36 hYσ36 (hE.trans xσ36) (hth.up xσ36) _ _ _ hH (lv_sub (l' := [(0, .ref th), (1, .int (i32 v1))]) hl [0, 1] rfl) hc
  · rw [if_neg (fun q => q ((z_eq gr37).mp h9))] at h
    exact a_X6_prefixed_18 K hQ hX hTh hRC hf0 hl1 _ _ g1 h hGσ36 hYσ36 (hE.trans xσ36) (hth.up xσ36) _ _ _ hH (lv_sub (l' := [(0, .ref th), (1, .int (i32 v1))]) hl [0, 1] rfl) hc
set_option maxRecDepth 20000 in
theorem a_X6_prefixed_0 {Q : Sg → Unit → Prop} {X : Sg → String → Prop} {th : Nat} {fr0 lw0 : Nat} {rc : Nat → Int → Int → Sg → (Sg → Unit → Prop) → (Sg → String → Prop) → Prop} (K : MD l R p s m args c cX6_prefixed 3 RX6 D cA tys A n0 s0 (fr0 + 1) (lw0 + 60) []) (hQ : CQV p l e R s m args below meth c cX6_prefixed D cA A n0 s0 QM σi Q) (hX : CX p l e R s m args below meth c 3 D cA A n0 s0 QM σi X) (hTh : CT p l e R s m args below meth c cX6_prefixed 3 D cA A n0 s0 QM σi RX6 X) (hRC : HRD l D cA tys A th fr0 lw0 rc) (hf0 : 40 ≤ fr0) (hl1 : 4000 ≤ lw0) : ∀ (σ : Sg) (v1 : Int) (g1 : rng v1), w_X6_prefixed_0 th rc Q X σ v1 → RG σ → TY σ → Ext σi σ → kO σ th 6 → JJ p l e R s m args below meth c 3 D cA A n0 s0 QM σ 0 [(0, .ref th), (1, .int (i32 v1))] [] := by
  intro σ v1 g1 h hGσ hYσ hE hth H locs ls hH hl hc
  have B := K.1
  have hl9 := K.2.2.2.2.2.2
  unfold w_X6_prefixed_0 at h
  refine lv_aload_n B.1 B.2.1 dX6_prefixed_0 rfl (lv_at hl 0 rfl) ?_
  refine lv_bipush (v := i32 45) B.1 B.2.1 dX6_prefixed_1 (by decide) ?_
  refine W.eq (g2 := F0 m 3 ls [.int (i32 45), .ref th]) (rfl) ?_
  refine c_V B hH hl hc K.2.2.1 (C := RX6) (T := TX6) (N := 9) (ci := 6) (As := [.int (i32 45)]) (ok_X6_isSign hl9 K.2.1 σ th 45 (by unfold rng; omega) hth hGσ hYσ h) wc_X6_171 1 hd_X6_isSign ⟨by have := K.2.2.2.1; omega, by have := K.2.2.2.2.1; omega⟩ hth.1 hth.2 (by decide) rfl rfl (rest := []) rfl (Nat.le_of_ble_eq_true rfl) dX6_prefixed_3 (fun σ38 w hq => ?_) (fun σ9 E9 hx9 => hX σ9 E9 _ _ _ (tb_out K.2.2.2.2.2.1 rfl) hx9.1 hx9.2.1 hx9.2.2.1 (hE.trans hx9.2.2.2))
  obtain ⟨r39, rfl, ⟨gr39, gzr39⟩, h, hGσ38, hYσ38, xσ38⟩ := hq
  have h := h xσ38
  intro H locs ls hH hl hc
  refine W.eq (g2 := F0 m 6 ls [.int (i32 r39)]) (rfl) ?_
  try dsimp only at h
  refine lv_if_ne (tgt := 24) B.1 B.2.1 dX6_prefixed_6 (by decide) (fun h9 => ?_) (fun h9 => ?_)
  · rw [if_pos (fun q => h9 ((z_eq gr39).mpr q))] at h
    exact a_X6_prefixed_24 K hQ hX hTh hRC hf0 hl1 _ _ g1 h hGσ38 hYσ38 (hE.trans xσ38) (hth.up xσ38) _ _ _ hH (lv_sub (l' := [(0, .ref th), (1, .int (i32 v1))]) hl [0, 1] rfl) hc
  · rw [if_neg (fun q => q ((z_eq gr39).mp h9))] at h
    exact a_X6_prefixed_9 K hQ hX hTh hRC hf0 hl1 _ _ g1 h hGσ38 hYσ38 (hE.trans xσ38) (hth.up xσ38) _ _ _ hH (lv_sub (l' := [(0, .ref th), (1, .int (i32 v1))]) hl [0, 1] rfl) hc
theorem ok_X6_prefixed_r {th fr0 lw0 : Nat} {rc : Nat → Int → Int → Sg → (Sg → Unit → Prop) → (Sg → String → Prop) → Prop} (hRC : HRD l D cA tys A th fr0 lw0 rc) (hf0 : 40 ≤ fr0) (hl1 : 4000 ≤ lw0) (hl0 : l.stackTraces = false) (hT : TyC cA tys) {Q : Sg → Unit → Prop} {X : Sg → String → Prop} (σ : Sg) (v1 : Int) (g1 : rng v1) (hth : kO σ th 6) (hG : RG σ) (hY : TY σ) (h : w_X6_prefixed_0 th rc Q X σ v1) : Ok l D cA tys A yX6_prefixed (.code yX6_prefixed cX6_prefixed 3 none) (fr0 + 1) (lw0 + 60) [.ref th, .int (i32 v1)] σ (QcV σ Q) (QxC σ X) := by
  exact oc_V hl0 (by decide) (by exact Nat.le_of_ble_eq_true rfl) hT (fun p e R s m args below meth c K hQ hX hTh _ H locs ls hH hl hc => a_X6_prefixed_0 K hQ hX hTh hRC hf0 hl1 σ v1 g1 h hG hY (Ext.rfl' σ) hth H locs ls hH (lv_sub (l' := [(0, .ref th), (1, .int (i32 v1))]) hl [0, 1] rfl) hc)
theorem dX6_atom_0 : decode cX6_atom 0 = .ok (.aload_n 0, 1) := by decide +kernel
theorem dX6_atom_1 : decode cX6_atom 1 = .ok (.bipush 40, 2) := by decide +kernel
theorem dX6_atom_3 : decode cX6_atom 3 = .ok (.invokevirtual 171, 3) := by decide +kernel
theorem dX6_atom_6 : decode cX6_atom 6 = .ok (.ifCond .eq 26, 3) := by decide +kernel
theorem dX6_atom_9 : decode cX6_atom 9 = .ok (.aload_n 0, 1) := by decide +kernel
theorem dX6_atom_10 : decode cX6_atom 10 = .ok (.iload_n 1, 1) := by decide +kernel
theorem dX6_atom_11 : decode cX6_atom 11 = .ok (.invokevirtual 247, 3) := by decide +kernel
theorem dX6_atom_14 : decode cX6_atom 14 = .ok (.aload_n 0, 1) := by decide +kernel
theorem dX6_atom_15 : decode cX6_atom 15 = .ok (.invokevirtual 40, 3) := by decide +kernel
theorem dX6_atom_18 : decode cX6_atom 18 = .ok (.aload_n 0, 1) := by decide +kernel
theorem dX6_atom_19 : decode cX6_atom 19 = .ok (.iload_n 1, 1) := by decide +kernel
theorem dX6_atom_20 : decode cX6_atom 20 = .ok (.iconst 1, 1) := by decide +kernel
theorem dX6_atom_21 : decode cX6_atom 21 = .ok (.iadd, 1) := by decide +kernel
theorem dX6_atom_22 : decode cX6_atom 22 = .ok (.invokevirtual 165, 3) := by decide +kernel
theorem dX6_atom_25 : decode cX6_atom 25 = .ok (.aload_n 0, 1) := by decide +kernel
theorem dX6_atom_26 : decode cX6_atom 26 = .ok (.bipush 41, 2) := by decide +kernel
theorem dX6_atom_28 : decode cX6_atom 28 = .ok (.invokevirtual 57, 3) := by decide +kernel
theorem dX6_atom_31 : decode cX6_atom 31 = .ok (.return_, 1) := by decide +kernel
theorem dX6_atom_32 : decode cX6_atom 32 = .ok (.aload_n 0, 1) := by decide +kernel
theorem dX6_atom_33 : decode cX6_atom 33 = .ok (.getfield 43, 3) := by decide +kernel
theorem dX6_atom_36 : decode cX6_atom 36 = .ok (.iconst 4, 1) := by decide +kernel
theorem dX6_atom_37 : decode cX6_atom 37 = .ok (.if_icmp .ne 19, 3) := by decide +kernel
theorem dX6_atom_40 : decode cX6_atom 40 = .ok (.aload_n 0, 1) := by decide +kernel
theorem dX6_atom_41 : decode cX6_atom 41 = .ok (.getfield 31, 3) := by decide +kernel
theorem dX6_atom_44 : decode cX6_atom 44 = .ok (.iconst 1, 1) := by decide +kernel
theorem dX6_atom_45 : decode cX6_atom 45 = .ok (.aload_n 0, 1) := by decide +kernel
theorem dX6_atom_46 : decode cX6_atom 46 = .ok (.getfield 73, 3) := by decide +kernel
theorem dX6_atom_49 : decode cX6_atom 49 = .ok (.invokevirtual 167, 3) := by decide +kernel
theorem dX6_atom_52 : decode cX6_atom 52 = .ok (.pop, 1) := by decide +kernel
theorem dX6_atom_53 : decode cX6_atom 53 = .ok (.goto 54, 3) := by decide +kernel
theorem dX6_atom_56 : decode cX6_atom 56 = .ok (.aload_n 0, 1) := by decide +kernel
theorem dX6_atom_57 : decode cX6_atom 57 = .ok (.bipush 22, 2) := by decide +kernel
theorem dX6_atom_59 : decode cX6_atom 59 = .ok (.invokevirtual 66, 3) := by decide +kernel
theorem dX6_atom_62 : decode cX6_atom 62 = .ok (.ifCond .eq 16, 3) := by decide +kernel
theorem dX6_atom_65 : decode cX6_atom 65 = .ok (.aload_n 0, 1) := by decide +kernel
theorem dX6_atom_66 : decode cX6_atom 66 = .ok (.getfield 31, 3) := by decide +kernel
theorem dX6_atom_69 : decode cX6_atom 69 = .ok (.iconst 3, 1) := by decide +kernel
theorem dX6_atom_70 : decode cX6_atom 70 = .ok (.lconst 0, 1) := by decide +kernel
theorem dX6_atom_71 : decode cX6_atom 71 = .ok (.invokevirtual 167, 3) := by decide +kernel
theorem dX6_atom_74 : decode cX6_atom 74 = .ok (.pop, 1) := by decide +kernel
theorem dX6_atom_75 : decode cX6_atom 75 = .ok (.goto 32, 3) := by decide +kernel
theorem dX6_atom_78 : decode cX6_atom 78 = .ok (.aload_n 0, 1) := by decide +kernel
theorem dX6_atom_79 : decode cX6_atom 79 = .ok (.getfield 31, 3) := by decide +kernel
theorem dX6_atom_82 : decode cX6_atom 82 = .ok (.iconst 2, 1) := by decide +kernel
theorem dX6_atom_83 : decode cX6_atom 83 = .ok (.aload_n 0, 1) := by decide +kernel
theorem dX6_atom_84 : decode cX6_atom 84 = .ok (.aload_n 0, 1) := by decide +kernel
theorem dX6_atom_85 : decode cX6_atom 85 = .ok (.getfield 31, 3) := by decide +kernel
theorem dX6_atom_88 : decode cX6_atom 88 = .ok (.getfield 84, 3) := by decide +kernel
theorem dX6_atom_91 : decode cX6_atom 91 = .ok (.aload_n 0, 1) := by decide +kernel
theorem dX6_atom_92 : decode cX6_atom 92 = .ok (.getfield 88, 3) := by decide +kernel
theorem dX6_atom_95 : decode cX6_atom 95 = .ok (.getfield 155, 3) := by decide +kernel
theorem dX6_atom_98 : decode cX6_atom 98 = .ok (.aaload, 1) := by decide +kernel
theorem dX6_atom_99 : decode cX6_atom 99 = .ok (.invokevirtual 185, 3) := by decide +kernel
theorem dX6_atom_102 : decode cX6_atom 102 = .ok (.i2l, 1) := by decide +kernel
theorem dX6_atom_103 : decode cX6_atom 103 = .ok (.invokevirtual 167, 3) := by decide +kernel
theorem dX6_atom_106 : decode cX6_atom 106 = .ok (.pop, 1) := by decide +kernel
theorem dX6_atom_107 : decode cX6_atom 107 = .ok (.aload_n 0, 1) := by decide +kernel
theorem dX6_atom_108 : decode cX6_atom 108 = .ok (.invokevirtual 40, 3) := by decide +kernel
theorem dX6_atom_111 : decode cX6_atom 111 = .ok (.return_, 1) := by decide +kernel
set_option maxRecDepth 20000 in
theorem a_X6_atom_107 {Q : Sg → Unit → Prop} {X : Sg → String → Prop} {th : Nat} {fr0 lw0 : Nat} {rc : Nat → Int → Int → Sg → (Sg → Unit → Prop) → (Sg → String → Prop) → Prop} (K : MD l R p s m args c cX6_atom 2 RX6 D cA tys A n0 s0 (fr0 + 1) (lw0 + 60) []) (hQ : CQV p l e R s m args below meth c cX6_atom D cA A n0 s0 QM σi Q) (hX : CX p l e R s m args below meth c 2 D cA A n0 s0 QM σi X) (hTh : CT p l e R s m args below meth c cX6_atom 2 D cA A n0 s0 QM σi RX6 X) (hRC : HRD l D cA tys A th fr0 lw0 rc) (hf0 : 40 ≤ fr0) (hl1 : 4000 ≤ lw0) : ∀ (σ : Sg), w_X6_atom_107 th rc Q X σ → RG σ → TY σ → Ext σi σ → kO σ th 6 → JJ p l e R s m args below meth c 2 D cA A n0 s0 QM σ 107 [(0, .ref th)] [] := by
  intro σ h hGσ hYσ hE hth H locs ls hH hl hc
  have B := K.1
  have hl9 := K.2.2.2.2.2.2
  unfold w_X6_atom_107 at h
  refine lv_aload_n B.1 B.2.1 dX6_atom_107 rfl (lv_at hl 0 rfl) ?_
  refine W.eq (g2 := F0 m 108 ls [.ref th]) (rfl) ?_
  refine c_V B hH hl hc K.2.2.1 (C := RX6) (T := TX6) (N := 9) (ci := 6) (As := []) (ok_X6_next hl9 K.2.1 σ th hth hGσ hYσ h) wc_X6_40 0 hd_X6_next ⟨by have := K.2.2.2.1; omega, by have := K.2.2.2.2.1; omega⟩ hth.1 hth.2 (by decide) rfl rfl (rest := []) rfl (Nat.le_of_ble_eq_true rfl) dX6_atom_108 (fun σ45 w hq => ?_) (fun σ9 E9 hx9 => hX σ9 E9 _ _ _ (tb_out K.2.2.2.2.2.1 rfl) hx9.1 hx9.2.1 hx9.2.2.1 (hE.trans hx9.2.2.2))
  obtain ⟨rfl, h, hGσ45, hYσ45, xσ45⟩ := hq
  have h := h xσ45
  intro H locs ls hH hl hc
  refine W.eq (g2 := F0 m 111 ls []) (rfl) ?_
  try dsimp only at h
  exact hQ _ _ _ _ _ dX6_atom_111 hH hc h hGσ45 hYσ45 (hE.trans xσ45)
set_option maxRecDepth 20000 in
theorem a_X6_atom_78 {Q : Sg → Unit → Prop} {X : Sg → String → Prop} {th : Nat} {fr0 lw0 : Nat} {rc : Nat → Int → Int → Sg → (Sg → Unit → Prop) → (Sg → String → Prop) → Prop} (K : MD l R p s m args c cX6_atom 2 RX6 D cA tys A n0 s0 (fr0 + 1) (lw0 + 60) []) (hQ : CQV p l e R s m args below meth c cX6_atom D cA A n0 s0 QM σi Q) (hX : CX p l e R s m args below meth c 2 D cA A n0 s0 QM σi X) (hTh : CT p l e R s m args below meth c cX6_atom 2 D cA A n0 s0 QM σi RX6 X) (hRC : HRD l D cA tys A th fr0 lw0 rc) (hf0 : 40 ≤ fr0) (hl1 : 4000 ≤ lw0) : ∀ (σ : Sg), w_X6_atom_78 th rc Q X σ → RG σ → TY σ → Ext σi σ → kO σ th 6 → JJ p l e R s m args below meth c 2 D cA A n0 s0 QM σ 78 [(0, .ref th)] [] := by
  intro σ h hGσ hYσ hE hth H locs ls hH hl hc
  have B := K.1
  have hl9 := K.2.2.2.2.2.2
  unfold w_X6_atom_78 at h
  refine lv_aload_n B.1 B.2.1 dX6_atom_78 rfl (lv_at hl 0 rfl) ?_
  refine f_getp B hH hth (by decide) rfl wu_X6 7 (by decide) wf_X6_31 rfl rfl dX6_atom_79 ?_
  refine lv_iconst (v := i32 2) B.1 B.2.1 dX6_atom_82 (by decide) ?_
  refine lv_aload_n B.1 B.2.1 dX6_atom_83 rfl (lv_at hl 0 rfl) ?_
  refine lv_aload_n B.1 B.2.1 dX6_atom_84 rfl (lv_at hl 0 rfl) ?_
  refine f_getp B hH hth (by decide) rfl wu_X6 7 (by decide) wf_X6_31 rfl rfl dX6_atom_85 ?_
  obtain ⟨a46, ea46, h⟩ := h
  have ka46 : kO σ a46 4 := (hYσ.get hth (by decide)) a46 ea46
  have h := h ka46
  refine W.eq (g2 := F0 m 88 ls [.ref a46, .ref th, .int (i32 2), va_rf (gP σ th 7)]) (by rw [ea46]; rfl) ?_
  refine f_getp B hH ka46 (by decide) rfl wu_X4 0 (by decide) wf_X6_84 rfl rfl dX6_atom_88 ?_
  refine lv_aload_n B.1 B.2.1 dX6_atom_91 rfl (lv_at hl 0 rfl) ?_
  refine f_getp B hH hth (by decide) rfl wu_X6 8 (by decide) wf_X6_88 rfl rfl dX6_atom_92 ?_
  obtain ⟨a47, ea47, h⟩ := h
  have ka47 : kO σ a47 5 := (hYσ.get hth (by decide)) a47 ea47
  have h := h ka47
  refine W.eq (g2 := F0 m 95 ls [.ref a47, va_rf (gP σ a46 0), .ref th, .int (i32 2), va_rf (gP σ th 7)]) (by rw [ea47]; rfl) ?_
  refine f_geti B hH ka47 (by decide) rfl wu_X5 7 (by decide) wf_X6_155 rfl rfl dX6_atom_95 ?_
  obtain ⟨a48, ea48, h⟩ := h
  have ka48 : kO σ a48 115 := (hYσ.get ka46 (by decide)) a48 ea48
  have h := h ka48
  obtain ⟨q1, h⟩ := h
  refine W.eq (g2 := F0 m 98 ls [.int (i32 (gI σ a47 7)), .ref a48, .ref th, .int (i32 2), va_rf (gP σ th 7)]) (by rw [ea48]; rfl) ?_
  refine y_aald B hH (t0 := 6) ka48 (by decide) K.2.1.2.2.2.1 q1 (hYσ.2 _) dX6_atom_98 ?_
  refine W.eq (g2 := F0 m 99 ls [va_rf (gP σ a48 (gI σ a47 7).toNat), .ref th, .int (i32 2), va_rf (gP σ th 7)]) (rfl) ?_
  refine c_V B hH hl hc K.2.2.1 (C := RX6) (T := TX6) (N := 9) (ci := 6) (As := [va_rf (gP σ a48 (gI σ a47 7).toNat)]) (ok_X6_column hl9 K.2.1 σ th (gP σ a48 (gI σ a47 7).toNat) (hYσ.get ka48 rfl) hth hGσ hYσ h) wc_X6_185 1 hd_X6_column ⟨by have := K.2.2.2.1; omega, by have := K.2.2.2.2.1; omega⟩ hth.1 hth.2 (by decide) rfl rfl (rest := [.int (i32 2), va_rf (gP σ th 7)]) rfl (by simp only [List.map_cons, List.map_nil, rf_cat]; exact Nat.le_of_ble_eq_true rfl) dX6_atom_99 (fun σ49 w hq => ?_) (fun σ9 E9 hx9 => hX σ9 E9 _ _ _ (tb_out K.2.2.2.2.2.1 rfl) hx9.1 hx9.2.1 hx9.2.2.1 (hE.trans hx9.2.2.2))
  obtain ⟨r50, rfl, gr50, h, hGσ49, hYσ49, xσ49⟩ := hq
  have h := h xσ49
  intro H locs ls hH hl hc
  refine W.eq (g2 := F0 m 102 ls [.int (i32 r50), .int (i32 2), va_rf (gP σ th 7)]) (rfl) ?_
  try dsimp only at h
  refine lv_i2l B.1 B.2.1 dX6_atom_102 (i32_i64 gr50) ?_
  refine W.eq (g2 := F0 m 103 ls [.long (Int64.ofInt r50), .int (i32 2), .ref a46]) (by rw [ea46]; rfl) ?_
  refine c_V B hH hl hc K.2.2.1 (C := RX4) (T := TX4) (N := 14) (ci := 4) (As := [.int (i32 2), .long (Int64.ofInt r50)]) (ok_X4_emit hl9 K.2.1 σ49 a46 2 (Int64.ofInt r50) (by unfold rng; omega) (ka46.up xσ49) hGσ49 hYσ49 h) wc_X6_167 2 hd_X4_emit ⟨by have := K.2.2.2.1; omega, by have := K.2.2.2.2.1; omega⟩ (ka46.up xσ49).1 (ka46.up xσ49).2 (by decide) rfl rfl (rest := []) rfl (Nat.le_of_ble_eq_true rfl) dX6_atom_103 (fun σ51 w hq => ?_) (fun σ9 E9 hx9 => hX σ9 E9 _ _ _ (tb_out K.2.2.2.2.2.1 rfl) hx9.1 hx9.2.1 hx9.2.2.1 ((hE.trans xσ49).trans hx9.2.2.2))
  obtain ⟨r52, rfl, gr52, h, hGσ51, hYσ51, xσ51⟩ := hq
  have h := h xσ51
  intro H locs ls hH hl hc
  refine W.eq (g2 := F0 m 106 ls [.int (i32 r52)]) (rfl) ?_
  try dsimp only at h
  refine lv_pop B.1 B.2.1 dX6_atom_106 rfl ?_
  exact a_X6_atom_107 K hQ hX hTh hRC hf0 hl1 _ h hGσ51 hYσ51 ((hE.trans xσ49).trans xσ51) (hth.up (xσ49.trans xσ51)) _ _ _ hH (lv_sub (l' := [(0, .ref th)]) hl [0] rfl) hc
set_option maxRecDepth 20000 in
theorem a_X6_atom_65 {Q : Sg → Unit → Prop} {X : Sg → String → Prop} {th : Nat} {fr0 lw0 : Nat} {rc : Nat → Int → Int → Sg → (Sg → Unit → Prop) → (Sg → String → Prop) → Prop} (K : MD l R p s m args c cX6_atom 2 RX6 D cA tys A n0 s0 (fr0 + 1) (lw0 + 60) []) (hQ : CQV p l e R s m args below meth c cX6_atom D cA A n0 s0 QM σi Q) (hX : CX p l e R s m args below meth c 2 D cA A n0 s0 QM σi X) (hTh : CT p l e R s m args below meth c cX6_atom 2 D cA A n0 s0 QM σi RX6 X) (hRC : HRD l D cA tys A th fr0 lw0 rc) (hf0 : 40 ≤ fr0) (hl1 : 4000 ≤ lw0) : ∀ (σ : Sg), w_X6_atom_65 th rc Q X σ → RG σ → TY σ → Ext σi σ → kO σ th 6 → JJ p l e R s m args below meth c 2 D cA A n0 s0 QM σ 65 [(0, .ref th)] [] := by
  intro σ h hGσ hYσ hE hth H locs ls hH hl hc
  have B := K.1
  have hl9 := K.2.2.2.2.2.2
  unfold w_X6_atom_65 at h
  refine lv_aload_n B.1 B.2.1 dX6_atom_65 rfl (lv_at hl 0 rfl) ?_
  refine f_getp B hH hth (by decide) rfl wu_X6 7 (by decide) wf_X6_31 rfl rfl dX6_atom_66 ?_
  refine lv_iconst (v := i32 3) B.1 B.2.1 dX6_atom_69 (by decide) ?_
  refine lv_lconst (v := 0) B.1 B.2.1 dX6_atom_70 (by decide) ?_
  obtain ⟨a55, ea55, h⟩ := h
  have ka55 : kO σ a55 4 := (hYσ.get hth (by decide)) a55 ea55
  have h := h ka55
  refine W.eq (g2 := F0 m 71 ls [.long 0, .int (i32 3), .ref a55]) (by rw [ea55]; rfl) ?_
  refine c_V B hH hl hc K.2.2.1 (C := RX4) (T := TX4) (N := 14) (ci := 4) (As := [.int (i32 3), .long 0]) (ok_X4_emit hl9 K.2.1 σ a55 3 0 (by unfold rng; omega) ka55 hGσ hYσ h) wc_X6_167 2 hd_X4_emit ⟨by have := K.2.2.2.1; omega, by have := K.2.2.2.2.1; omega⟩ ka55.1 ka55.2 (by decide) rfl rfl (rest := []) rfl (Nat.le_of_ble_eq_true rfl) dX6_atom_71 (fun σ53 w hq => ?_) (fun σ9 E9 hx9 => hX σ9 E9 _ _ _ (tb_out K.2.2.2.2.2.1 rfl) hx9.1 hx9.2.1 hx9.2.2.1 (hE.trans hx9.2.2.2))
  obtain ⟨r54, rfl, gr54, h, hGσ53, hYσ53, xσ53⟩ := hq
  have h := h xσ53
  intro H locs ls hH hl hc
  refine W.eq (g2 := F0 m 74 ls [.int (i32 r54)]) (rfl) ?_
  try dsimp only at h
  refine lv_pop B.1 B.2.1 dX6_atom_74 rfl ?_
  refine lv_goto (tgt := 107) B.1 B.2.1 dX6_atom_75 (by decide) ?_
  exact a_X6_atom_107 K hQ hX hTh hRC hf0 hl1 _ h hGσ53 hYσ53 (hE.trans xσ53) (hth.up xσ53) _ _ _ hH (lv_sub (l' := [(0, .ref th)]) hl [0] rfl) hc
set_option maxRecDepth 20000 in
theorem a_X6_atom_56 {Q : Sg → Unit → Prop} {X : Sg → String → Prop} {th : Nat} {fr0 lw0 : Nat} {rc : Nat → Int → Int → Sg → (Sg → Unit → Prop) → (Sg → String → Prop) → Prop} (K : MD l R p s m args c cX6_atom 2 RX6 D cA tys A n0 s0 (fr0 + 1) (lw0 + 60) []) (hQ : CQV p l e R s m args below meth c cX6_atom D cA A n0 s0 QM σi Q) (hX : CX p l e R s m args below meth c 2 D cA A n0 s0 QM σi X) (hTh : CT p l e R s m args below meth c cX6_atom 2 D cA A n0 s0 QM σi RX6 X) (hRC : HRD l D cA tys A th fr0 lw0 rc) (hf0 : 40 ≤ fr0) (hl1 : 4000 ≤ lw0) : ∀ (σ : Sg), w_X6_atom_56 th rc Q X σ → RG σ → TY σ → Ext σi σ → kO σ th 6 → JJ p l e R s m args below meth c 2 D cA A n0 s0 QM σ 56 [(0, .ref th)] [] := by
  intro σ h hGσ hYσ hE hth H locs ls hH hl hc
  have B := K.1
  have hl9 := K.2.2.2.2.2.2
  unfold w_X6_atom_56 at h
  refine lv_aload_n B.1 B.2.1 dX6_atom_56 rfl (lv_at hl 0 rfl) ?_
  refine lv_bipush (v := i32 22) B.1 B.2.1 dX6_atom_57 (by decide) ?_
  refine W.eq (g2 := F0 m 59 ls [.int (i32 22), .ref th]) (rfl) ?_
  refine c_V B hH hl hc K.2.2.1 (C := RX6) (T := TX6) (N := 9) (ci := 6) (As := [.int (i32 22)]) (ok_X6_isWord hl9 K.2.1 σ th 22 (by unfold rng; omega) hth hGσ hYσ h) wc_X6_66 1 hd_X6_isWord ⟨by have := K.2.2.2.1; omega, by have := K.2.2.2.2.1; omega⟩ hth.1 hth.2 (by decide) rfl rfl (rest := []) rfl (Nat.le_of_ble_eq_true rfl) dX6_atom_59 (fun σ56 w hq => ?_) (fun σ9 E9 hx9 => hX σ9 E9 _ _ _ (tb_out K.2.2.2.2.2.1 rfl) hx9.1 hx9.2.1 hx9.2.2.1 (hE.trans hx9.2.2.2))
  obtain ⟨r57, rfl, ⟨gr57, gzr57⟩, h, hGσ56, hYσ56, xσ56⟩ := hq
  have h := h xσ56
  intro H locs ls hH hl hc
  refine W.eq (g2 := F0 m 62 ls [.int (i32 r57)]) (rfl) ?_
  try dsimp only at h
  refine lv_if_eq (tgt := 78) B.1 B.2.1 dX6_atom_62 (by decide) (fun h9 => ?_) (fun h9 => ?_)
  · rw [if_pos ((z_eq gr57).mp h9)] at h
    exact a_X6_atom_78 K hQ hX hTh hRC hf0 hl1 _ h hGσ56 hYσ56 (hE.trans xσ56) (hth.up xσ56) _ _ _ hH (lv_sub (l' := [(0, .ref th)]) hl [0] rfl) hc
  · rw [if_neg (fun q => h9 ((z_eq gr57).mpr q))] at h
    exact a_X6_atom_65 K hQ hX hTh hRC hf0 hl1 _ h hGσ56 hYσ56 (hE.trans xσ56) (hth.up xσ56) _ _ _ hH (lv_sub (l' := [(0, .ref th)]) hl [0] rfl) hc
set_option maxRecDepth 20000 in
theorem a_X6_atom_40 {Q : Sg → Unit → Prop} {X : Sg → String → Prop} {th : Nat} {fr0 lw0 : Nat} {rc : Nat → Int → Int → Sg → (Sg → Unit → Prop) → (Sg → String → Prop) → Prop} (K : MD l R p s m args c cX6_atom 2 RX6 D cA tys A n0 s0 (fr0 + 1) (lw0 + 60) []) (hQ : CQV p l e R s m args below meth c cX6_atom D cA A n0 s0 QM σi Q) (hX : CX p l e R s m args below meth c 2 D cA A n0 s0 QM σi X) (hTh : CT p l e R s m args below meth c cX6_atom 2 D cA A n0 s0 QM σi RX6 X) (hRC : HRD l D cA tys A th fr0 lw0 rc) (hf0 : 40 ≤ fr0) (hl1 : 4000 ≤ lw0) : ∀ (σ : Sg), w_X6_atom_40 th rc Q X σ → RG σ → TY σ → Ext σi σ → kO σ th 6 → JJ p l e R s m args below meth c 2 D cA A n0 s0 QM σ 40 [(0, .ref th)] [] := by
  intro σ h hGσ hYσ hE hth H locs ls hH hl hc
  have B := K.1
  have hl9 := K.2.2.2.2.2.2
  unfold w_X6_atom_40 at h
  refine lv_aload_n B.1 B.2.1 dX6_atom_40 rfl (lv_at hl 0 rfl) ?_
  refine f_getp B hH hth (by decide) rfl wu_X6 7 (by decide) wf_X6_31 rfl rfl dX6_atom_41 ?_
  refine lv_iconst (v := i32 1) B.1 B.2.1 dX6_atom_44 (by decide) ?_
  refine lv_aload_n B.1 B.2.1 dX6_atom_45 rfl (lv_at hl 0 rfl) ?_
  refine f_getl B hH hth (by decide) rfl wu_X6 4 (by decide) wf_X6_73 rfl rfl dX6_atom_46 ?_
  obtain ⟨a60, ea60, h⟩ := h
  have ka60 : kO σ a60 4 := (hYσ.get hth (by decide)) a60 ea60
  have h := h ka60
  refine W.eq (g2 := F0 m 49 ls [.long (gJ σ th 4), .int (i32 1), .ref a60]) (by rw [ea60]; rfl) ?_
  refine c_V B hH hl hc K.2.2.1 (C := RX4) (T := TX4) (N := 14) (ci := 4) (As := [.int (i32 1), .long (gJ σ th 4)]) (ok_X4_emit hl9 K.2.1 σ a60 1 (gJ σ th 4) (by unfold rng; omega) ka60 hGσ hYσ h) wc_X6_167 2 hd_X4_emit ⟨by have := K.2.2.2.1; omega, by have := K.2.2.2.2.1; omega⟩ ka60.1 ka60.2 (by decide) rfl rfl (rest := []) rfl (Nat.le_of_ble_eq_true rfl) dX6_atom_49 (fun σ58 w hq => ?_) (fun σ9 E9 hx9 => hX σ9 E9 _ _ _ (tb_out K.2.2.2.2.2.1 rfl) hx9.1 hx9.2.1 hx9.2.2.1 (hE.trans hx9.2.2.2))
  obtain ⟨r59, rfl, gr59, h, hGσ58, hYσ58, xσ58⟩ := hq
  have h := h xσ58
  intro H locs ls hH hl hc
  refine W.eq (g2 := F0 m 52 ls [.int (i32 r59)]) (rfl) ?_
  try dsimp only at h
  refine lv_pop B.1 B.2.1 dX6_atom_52 rfl ?_
  refine lv_goto (tgt := 107) B.1 B.2.1 dX6_atom_53 (by decide) ?_
  exact a_X6_atom_107 K hQ hX hTh hRC hf0 hl1 _ h hGσ58 hYσ58 (hE.trans xσ58) (hth.up xσ58) _ _ _ hH (lv_sub (l' := [(0, .ref th)]) hl [0] rfl) hc
set_option maxRecDepth 20000 in
theorem a_X6_atom_32 {Q : Sg → Unit → Prop} {X : Sg → String → Prop} {th : Nat} {fr0 lw0 : Nat} {rc : Nat → Int → Int → Sg → (Sg → Unit → Prop) → (Sg → String → Prop) → Prop} (K : MD l R p s m args c cX6_atom 2 RX6 D cA tys A n0 s0 (fr0 + 1) (lw0 + 60) []) (hQ : CQV p l e R s m args below meth c cX6_atom D cA A n0 s0 QM σi Q) (hX : CX p l e R s m args below meth c 2 D cA A n0 s0 QM σi X) (hTh : CT p l e R s m args below meth c cX6_atom 2 D cA A n0 s0 QM σi RX6 X) (hRC : HRD l D cA tys A th fr0 lw0 rc) (hf0 : 40 ≤ fr0) (hl1 : 4000 ≤ lw0) : ∀ (σ : Sg), w_X6_atom_32 th rc Q X σ → RG σ → TY σ → Ext σi σ → kO σ th 6 → JJ p l e R s m args below meth c 2 D cA A n0 s0 QM σ 32 [(0, .ref th)] [] := by
  intro σ h hGσ hYσ hE hth H locs ls hH hl hc
  have B := K.1
  have hl9 := K.2.2.2.2.2.2
  unfold w_X6_atom_32 at h
  refine lv_aload_n B.1 B.2.1 dX6_atom_32 rfl (lv_at hl 0 rfl) ?_
  refine f_geti B hH hth (by decide) rfl wu_X6 3 (by decide) wf_X6_43 rfl rfl dX6_atom_33 ?_
  refine lv_iconst (v := i32 4) B.1 B.2.1 dX6_atom_36 (by decide) ?_
  refine lv_icmp_ne (tgt := 56) B.1 B.2.1 dX6_atom_37 (by decide) (fun h9 => ?_) (fun h9 => ?_)
  · rw [if_pos (fun q => h9 ((i32_eq (hGσ _ _) (by unfold rng; omega)).mpr q))] at h
    exact a_X6_atom_56 K hQ hX hTh hRC hf0 hl1 _ h hGσ hYσ hE hth _ _ _ hH (lv_sub (l' := [(0, .ref th)]) hl [0] rfl) hc
  · rw [if_neg (fun q => q ((i32_eq (hGσ _ _) (by unfold rng; omega)).mp h9))] at h
    exact a_X6_atom_40 K hQ hX hTh hRC hf0 hl1 _ h hGσ hYσ hE hth _ _ _ hH (lv_sub (l' := [(0, .ref th)]) hl [0] rfl) hc
set_option maxRecDepth 20000 in
theorem a_X6_atom_9 {Q : Sg → Unit → Prop} {X : Sg → String → Prop} {th : Nat} {fr0 lw0 : Nat} {rc : Nat → Int → Int → Sg → (Sg → Unit → Prop) → (Sg → String → Prop) → Prop} (K : MD l R p s m args c cX6_atom 2 RX6 D cA tys A n0 s0 (fr0 + 1) (lw0 + 60) []) (hQ : CQV p l e R s m args below meth c cX6_atom D cA A n0 s0 QM σi Q) (hX : CX p l e R s m args below meth c 2 D cA A n0 s0 QM σi X) (hTh : CT p l e R s m args below meth c cX6_atom 2 D cA A n0 s0 QM σi RX6 X) (hRC : HRD l D cA tys A th fr0 lw0 rc) (hf0 : 40 ≤ fr0) (hl1 : 4000 ≤ lw0) : ∀ (σ : Sg) (v1 : Int) (g1 : rng v1), w_X6_atom_9 th rc Q X σ v1 → RG σ → TY σ → Ext σi σ → kO σ th 6 → JJ p l e R s m args below meth c 2 D cA A n0 s0 QM σ 9 [(0, .ref th), (1, .int (i32 v1))] [] := by
  intro σ v1 g1 h hGσ hYσ hE hth H locs ls hH hl hc
  have B := K.1
  have hl9 := K.2.2.2.2.2.2
  unfold w_X6_atom_9 at h
  refine lv_aload_n B.1 B.2.1 dX6_atom_9 rfl (lv_at hl 0 rfl) ?_
  refine lv_iload_n B.1 B.2.1 dX6_atom_10 rfl (lv_at hl 1 rfl) ?_
  refine W.eq (g2 := F0 m 11 ls [.int (i32 v1), .ref th]) (rfl) ?_
  refine c_V B hH hl hc K.2.2.1 (C := RX6) (T := TX6) (N := 9) (ci := 6) (As := [.int (i32 v1)]) (ok_X6_goDeeper hl9 K.2.1 σ th v1 g1 hth hGσ hYσ h) wc_X6_247 1 hd_X6_goDeeper ⟨by have := K.2.2.2.1; omega, by have := K.2.2.2.2.1; omega⟩ hth.1 hth.2 (by decide) rfl rfl (rest := []) rfl (Nat.le_of_ble_eq_true rfl) dX6_atom_11 (fun σ61 w hq => ?_) (fun σ9 E9 hx9 => hX σ9 E9 _ _ _ (tb_out K.2.2.2.2.2.1 rfl) hx9.1 hx9.2.1 hx9.2.2.1 (hE.trans hx9.2.2.2))
  obtain ⟨rfl, h, hGσ61, hYσ61, xσ61⟩ := hq
  have h := h xσ61
  intro H locs ls hH hl hc
  refine W.eq (g2 := F0 m 14 ls []) (rfl) ?_
  try dsimp only at h
  refine lv_aload_n B.1 B.2.1 dX6_atom_14 rfl (lv_at hl 0 rfl) ?_
  refine W.eq (g2 := F0 m 15 ls [.ref th]) (rfl) ?_
  refine c_V B hH hl hc K.2.2.1 (C := RX6) (T := TX6) (N := 9) (ci := 6) (As := []) (ok_X6_next hl9 K.2.1 σ61 th (hth.up xσ61) hGσ61 hYσ61 h) wc_X6_40 0 hd_X6_next ⟨by have := K.2.2.2.1; omega, by have := K.2.2.2.2.1; omega⟩ (hth.up xσ61).1 (hth.up xσ61).2 (by decide) rfl rfl (rest := []) rfl (Nat.le_of_ble_eq_true rfl) dX6_atom_15 (fun σ62 w hq => ?_) (fun σ9 E9 hx9 => hX σ9 E9 _ _ _ (tb_out K.2.2.2.2.2.1 rfl) hx9.1 hx9.2.1 hx9.2.2.1 ((hE.trans xσ61).trans hx9.2.2.2))
  obtain ⟨rfl, h, hGσ62, hYσ62, xσ62⟩ := hq
  have h := h xσ62
  intro H locs ls hH hl hc
  refine W.eq (g2 := F0 m 18 ls []) (rfl) ?_
  try dsimp only at h
  refine lv_aload_n B.1 B.2.1 dX6_atom_18 rfl (lv_at hl 0 rfl) ?_
  refine lv_iload_n B.1 B.2.1 dX6_atom_19 rfl (lv_at hl 1 rfl) ?_
  refine lv_iconst (v := i32 1) B.1 B.2.1 dX6_atom_20 (by decide) ?_
  obtain ⟨q1, h⟩ := h
  refine lv_iadd B.1 B.2.1 dX6_atom_21 ?_
  rw [i32_add]
  refine W.eq (g2 := F0 m 22 ls [.int (i32 (v1 + 1)), .ref th]) (rfl) ?_
  refine c_V B hH hl hc K.2.2.1 (C := RX6) (T := TX6) (N := 9) (ci := 6) (As := [.int (i32 (v1 + 1))]) (hRC.1 σ62 (v1 + 1) 0 q1 (by unfold rng; omega) (hth.up (xσ61.trans xσ62)) hGσ62 hYσ62 h) wc_X6_165 1 hd_X6_value ⟨by have := K.2.2.2.1; omega, by have := K.2.2.2.2.1; omega⟩ (hth.up (xσ61.trans xσ62)).1 (hth.up (xσ61.trans xσ62)).2 (by decide) rfl rfl (rest := []) rfl (Nat.le_of_ble_eq_true rfl) dX6_atom_22 (fun σ63 w hq => ?_) (fun σ9 E9 hx9 => hX σ9 E9 _ _ _ (tb_out K.2.2.2.2.2.1 rfl) hx9.1 hx9.2.1 hx9.2.2.1 (((hE.trans xσ61).trans xσ62).trans hx9.2.2.2))
  obtain ⟨rfl, h, hGσ63, hYσ63, xσ63⟩ := hq
  have h := h xσ63
  intro H locs ls hH hl hc
  refine W.eq (g2 := F0 m 25 ls []) (rfl) ?_
  try dsimp only at h
  refine lv_aload_n B.1 B.2.1 dX6_atom_25 rfl (lv_at hl 0 rfl) ?_
  refine lv_bipush (v := i32 41) B.1 B.2.1 dX6_atom_26 (by decide) ?_
  refine W.eq (g2 := F0 m 28 ls [.int (i32 41), .ref th]) (rfl) ?_
  refine c_V B hH hl hc K.2.2.1 (C := RX6) (T := TX6) (N := 9) (ci := 6) (As := [.int (i32 41)]) (ok_X6_wantSign hl9 K.2.1 σ63 th 41 (by unfold rng; omega) (hth.up (xσ61.trans (xσ62.trans xσ63))) hGσ63 hYσ63 h) wc_X6_57 1 hd_X6_wantSign ⟨by have := K.2.2.2.1; omega, by have := K.2.2.2.2.1; omega⟩ (hth.up (xσ61.trans (xσ62.trans xσ63))).1 (hth.up (xσ61.trans (xσ62.trans xσ63))).2 (by decide) rfl rfl (rest := []) rfl (Nat.le_of_ble_eq_true rfl) dX6_atom_28 (fun σ64 w hq => ?_) (fun σ9 E9 hx9 => hX σ9 E9 _ _ _ (tb_out K.2.2.2.2.2.1 rfl) hx9.1 hx9.2.1 hx9.2.2.1 ((((hE.trans xσ61).trans xσ62).trans xσ63).trans hx9.2.2.2))
  obtain ⟨rfl, h, hGσ64, hYσ64, xσ64⟩ := hq
  have h := h xσ64
  intro H locs ls hH hl hc
  refine W.eq (g2 := F0 m 31 ls []) (rfl) ?_
  try dsimp only at h
  exact hQ _ _ _ _ _ dX6_atom_31 hH hc h hGσ64 hYσ64 ((((hE.trans xσ61).trans xσ62).trans xσ63).trans xσ64)
set_option maxRecDepth 20000 in
theorem a_X6_atom_0 {Q : Sg → Unit → Prop} {X : Sg → String → Prop} {th : Nat} {fr0 lw0 : Nat} {rc : Nat → Int → Int → Sg → (Sg → Unit → Prop) → (Sg → String → Prop) → Prop} (K : MD l R p s m args c cX6_atom 2 RX6 D cA tys A n0 s0 (fr0 + 1) (lw0 + 60) []) (hQ : CQV p l e R s m args below meth c cX6_atom D cA A n0 s0 QM σi Q) (hX : CX p l e R s m args below meth c 2 D cA A n0 s0 QM σi X) (hTh : CT p l e R s m args below meth c cX6_atom 2 D cA A n0 s0 QM σi RX6 X) (hRC : HRD l D cA tys A th fr0 lw0 rc) (hf0 : 40 ≤ fr0) (hl1 : 4000 ≤ lw0) : ∀ (σ : Sg) (v1 : Int) (g1 : rng v1), w_X6_atom_0 th rc Q X σ v1 → RG σ → TY σ → Ext σi σ → kO σ th 6 → JJ p l e R s m args below meth c 2 D cA A n0 s0 QM σ 0 [(0, .ref th), (1, .int (i32 v1))] [] := by
  intro σ v1 g1 h hGσ hYσ hE hth H locs ls hH hl hc
  have B := K.1
  have hl9 := K.2.2.2.2.2.2
  unfold w_X6_atom_0 at h
  refine lv_aload_n B.1 B.2.1 dX6_atom_0 rfl (lv_at hl 0 rfl) ?_
  refine lv_bipush (v := i32 40) B.1 B.2.1 dX6_atom_1 (by decide) ?_
  refine W.eq (g2 := F0 m 3 ls [.int (i32 40), .ref th]) (rfl) ?_
  refine c_V B hH hl hc K.2.2.1 (C := RX6) (T := TX6) (N := 9) (ci := 6) (As := [.int (i32 40)]) (ok_X6_isSign hl9 K.2.1 σ th 40 (by unfold rng; omega) hth hGσ hYσ h) wc_X6_171 1 hd_X6_isSign ⟨by have := K.2.2.2.1; omega, by have := K.2.2.2.2.1; omega⟩ hth.1 hth.2 (by decide) rfl rfl (rest := []) rfl (Nat.le_of_ble_eq_true rfl) dX6_atom_3 (fun σ65 w hq => ?_) (fun σ9 E9 hx9 => hX σ9 E9 _ _ _ (tb_out K.2.2.2.2.2.1 rfl) hx9.1 hx9.2.1 hx9.2.2.1 (hE.trans hx9.2.2.2))
  obtain ⟨r66, rfl, ⟨gr66, gzr66⟩, h, hGσ65, hYσ65, xσ65⟩ := hq
  have h := h xσ65
  intro H locs ls hH hl hc
  refine W.eq (g2 := F0 m 6 ls [.int (i32 r66)]) (rfl) ?_
  try dsimp only at h
  refine lv_if_eq (tgt := 32) B.1 B.2.1 dX6_atom_6 (by decide) (fun h9 => ?_) (fun h9 => ?_)
  · rw [if_pos ((z_eq gr66).mp h9)] at h
    exact a_X6_atom_32 K hQ hX hTh hRC hf0 hl1 _ h hGσ65 hYσ65 (hE.trans xσ65) (hth.up xσ65) _ _ _ hH (lv_sub (l' := [(0, .ref th)]) hl [0] rfl) hc
  · rw [if_neg (fun q => h9 ((z_eq gr66).mpr q))] at h
    exact a_X6_atom_9 K hQ hX hTh hRC hf0 hl1 _ _ g1 h hGσ65 hYσ65 (hE.trans xσ65) (hth.up xσ65) _ _ _ hH (lv_sub (l' := [(0, .ref th), (1, .int (i32 v1))]) hl [0, 1] rfl) hc
theorem ok_X6_atom_r {th fr0 lw0 : Nat} {rc : Nat → Int → Int → Sg → (Sg → Unit → Prop) → (Sg → String → Prop) → Prop} (hRC : HRD l D cA tys A th fr0 lw0 rc) (hf0 : 40 ≤ fr0) (hl1 : 4000 ≤ lw0) (hl0 : l.stackTraces = false) (hT : TyC cA tys) {Q : Sg → Unit → Prop} {X : Sg → String → Prop} (σ : Sg) (v1 : Int) (g1 : rng v1) (hth : kO σ th 6) (hG : RG σ) (hY : TY σ) (h : w_X6_atom_0 th rc Q X σ v1) : Ok l D cA tys A yX6_atom (.code yX6_atom cX6_atom 2 none) (fr0 + 1) (lw0 + 60) [.ref th, .int (i32 v1)] σ (QcV σ Q) (QxC σ X) := by
  exact oc_V hl0 (by decide) (by exact Nat.le_of_ble_eq_true rfl) hT (fun p e R s m args below meth c K hQ hX hTh _ H locs ls hH hl hc => a_X6_atom_0 K hQ hX hTh hRC hf0 hl1 σ v1 g1 h hG hY (Ext.rfl' σ) hth H locs ls hH (lv_sub (l' := [(0, .ref th), (1, .int (i32 v1))]) hl [0, 1] rfl) hc)
theorem recC_all {th : Nat} (hl0 : l.stackTraces = false) (hT : TyC cA tys) : ∀ n : Nat, HRD l D cA tys A th (40 + n) (4000 + 60 * n) (wrecC th n) := by
  intro n
  induction n with
  | zero => exact ⟨fun σ v1 v2 g1 g2 hth hG hY Q X h => h.elim, fun σ v1 v2 g1 g2 hth hG hY Q X h => h.elim, fun σ v1 v2 g1 g2 hth hG hY Q X h => h.elim, fun σ v1 v2 g1 g2 hth hG hY Q X h => h.elim⟩
  | succ n ih =>
    have e9 : 4000 + 60 * (n + 1) = (4000 + 60 * n) + 60 := by omega
    rw [e9]
    exact ⟨fun σ v1 v2 g1 g2 hth hG hY Q X h => ok_X6_value_r ih (by omega) (by omega) hl0 hT σ v1 g1 hth hG hY h, fun σ v1 v2 g1 g2 hth hG hY Q X h => ok_X6_binary_r ih (by omega) (by omega) hl0 hT σ v1 v2 g1 g2 hth hG hY h, fun σ v1 v2 g1 g2 hth hG hY Q X h => ok_X6_prefixed_r ih (by omega) (by omega) hl0 hT σ v1 g1 hth hG hY h, fun σ v1 v2 g1 g2 hth hG hY Q X h => ok_X6_atom_r ih (by omega) (by omega) hl0 hT σ v1 g1 hth hG hY h⟩
theorem ok_X6_value (hl0 : l.stackTraces = false) (hT : TyC cA tys) {Q : Sg → Unit → Prop} {X : Sg → String → Prop} (σ : Sg) (th : Nat) (v1 : Int) (g1 : rng v1) (hth : kO σ th 6) (hG : RG σ) (hY : TY σ) (h : wp_X6_value th v1 σ Q X) : Ok l D cA tys A yX6_value (.code yX6_value cX6_value 4 none) 160 11200 [.ref th, .int (i32 v1)] σ (QcV σ Q) (QxC σ X) := (recC_all hl0 hT 120).1 σ v1 0 g1 (by unfold rng; omega) hth hG hY h
theorem ok_X6_binary (hl0 : l.stackTraces = false) (hT : TyC cA tys) {Q : Sg → Unit → Prop} {X : Sg → String → Prop} (σ : Sg) (th : Nat) (v1 : Int) (v2 : Int) (g1 : rng v1) (g2 : rng v2) (hth : kO σ th 6) (hG : RG σ) (hY : TY σ) (h : wp_X6_binary th v1 v2 σ Q X) : Ok l D cA tys A yX6_binary (.code yX6_binary cX6_binary 6 none) 160 11200 [.ref th, .int (i32 v1), .int (i32 v2)] σ (QcV σ Q) (QxC σ X) := (recC_all hl0 hT 120).2.1 σ v1 v2 g1 g2 hth hG hY h
theorem ok_X6_prefixed (hl0 : l.stackTraces = false) (hT : TyC cA tys) {Q : Sg → Unit → Prop} {X : Sg → String → Prop} (σ : Sg) (th : Nat) (v1 : Int) (g1 : rng v1) (hth : kO σ th 6) (hG : RG σ) (hY : TY σ) (h : wp_X6_prefixed th v1 σ Q X) : Ok l D cA tys A yX6_prefixed (.code yX6_prefixed cX6_prefixed 3 none) 160 11200 [.ref th, .int (i32 v1)] σ (QcV σ Q) (QxC σ X) := (recC_all hl0 hT 120).2.2.1 σ v1 0 g1 (by unfold rng; omega) hth hG hY h
theorem ok_X6_atom (hl0 : l.stackTraces = false) (hT : TyC cA tys) {Q : Sg → Unit → Prop} {X : Sg → String → Prop} (σ : Sg) (th : Nat) (v1 : Int) (g1 : rng v1) (hth : kO σ th 6) (hG : RG σ) (hY : TY σ) (h : wp_X6_atom th v1 σ Q X) : Ok l D cA tys A yX6_atom (.code yX6_atom cX6_atom 2 none) 160 11200 [.ref th, .int (i32 v1)] σ (QcV σ Q) (QxC σ X) := (recC_all hl0 hT 120).2.2.2 σ v1 0 g1 (by unfold rng; omega) hth hG hY h
end C77

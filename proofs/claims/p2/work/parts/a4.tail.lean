theorem hd_X16_clear : yX16_clear.cls = RX16 ∧ yX16_clear.cls ≠ "java/lang/invoke/MethodHandle" ∧ yX16_clear.cls ≠ "java/lang/invoke/VarHandle" ∧ (parseMethodDescriptor yX16_clear.desc).map (fun d => d.parameters.length) = some 0 := by decide +kernel
def w_X16_init_799 (ra : Nat → Nat) (jx : Nat → Nat → Nat) (rm : Nat) (Q : Sg → Unit → Prop) (X : Sg → String → Prop) (σ : Sg) : Prop := (wp_X16_clear ra jx rm σ (fun σ12 (_ : Unit) => Q σ12 ()) X)
def w_X16_init_793 (ra : Nat → Nat) (jx : Nat → Nat → Nat) (rm : Nat) (K745 : Sg → Int → Int → Prop) (Q : Sg → Unit → Prop) (X : Sg → String → Prop) (σ : Sg) (v1 : Int) (v2 : Int) : Prop := rng (v2 + 1) ∧ K745 σ v1 (v2 + 1)
def w_X16_init_775 (ra : Nat → Nat) (jx : Nat → Nat → Nat) (rm : Nat) (K745 : Sg → Int → Int → Prop) (Q : Sg → Unit → Prop) (X : Sg → String → Prop) (σ : Sg) (v1 : Int) (v2 : Int) (v3 : Int) : Prop := (0 ≤ v1 ∧ v1 < 23) ∧ (0 ≤ v1 ∧ v1 < 23) ∧ ∀ σ11, σ11 = pJ σ (ra 14) v1.toNat (((gJ σ (ra 14) v1.toNat) <<< ((i32 8).toInt64 &&& 63)) ||| (Int64.ofInt v3)) → w_X16_init_793 ra jx rm K745 Q X σ11 v1 v2
def w_X16_init_769 (ra : Nat → Nat) (jx : Nat → Nat → Nat) (rm : Nat) (K745 : Sg → Int → Int → Prop) (Q : Sg → Unit → Prop) (X : Sg → String → Prop) (σ : Sg) (v1 : Int) (v2 : Int) : Prop := rng (v1 + 1) ∧ w_X16_init_793 ra jx rm K745 Q X σ (v1 + 1) v2
def w_X16_init_755 (ra : Nat → Nat) (jx : Nat → Nat → Nat) (rm : Nat) (K745 : Sg → Int → Int → Prop) (Q : Sg → Unit → Prop) (X : Sg → String → Prop) (σ : Sg) (v1 : Int) (v2 : Int) : Prop := (wp_J0_charAt_5068e ra jx rm 967 v2 σ (fun σ9 r10 => (if r10 ≠ 32 then w_X16_init_775 ra jx rm K745 Q X σ9 v1 v2 r10 else w_X16_init_769 ra jx rm K745 Q X σ9 v1 v2)) X)
def w_X16_init_745 (ra : Nat → Nat) (jx : Nat → Nat → Nat) (rm : Nat) (K745 : Sg → Int → Int → Prop) (Q : Sg → Unit → Prop) (X : Sg → String → Prop) (σ : Sg) (v1 : Int) (v2 : Int) : Prop := (wp_J0_length_8abf5 ra jx rm 967 σ (fun σ7 r8 => (if v2 ≥ r8 then w_X16_init_799 ra jx rm Q X σ7 else w_X16_init_755 ra jx rm K745 Q X σ7 v1 v2)) X)
def wl_X16_init_745 (ra : Nat → Nat) (jx : Nat → Nat → Nat) (rm : Nat) (Q : Sg → Unit → Prop) (X : Sg → String → Prop) : Nat → Sg → Int → Int → Prop
  | 0, _, _, _ => False
  | n + 1, σ, x0, x1 => w_X16_init_745 ra jx rm (wl_X16_init_745 ra jx rm Q X n) Q X σ x0 x1
def w_X16_init_741 (ra : Nat → Nat) (jx : Nat → Nat → Nat) (rm : Nat) (Q : Sg → Unit → Prop) (X : Sg → String → Prop) (σ : Sg) : Prop := (∃ n, wl_X16_init_745 ra jx rm Q X n σ 0 1)
section MIT
variable {p : Program} {l : Launch} {e : Env} {R : Room} {s : State} {m : MethodId} {args : Array Value} {below : List Frame} {meth : Method} {c : Code} {D : va_G} {cA : Nat → ClassId} {tys : List (ClassId × FieldType)} {A : Nat → Prop} {n0 s0 : Nat} {QM : State → Prop} {dm : List Nat × Nat × Nat} {ra : Nat → Nat} {jx : Nat → Nat → Nat} {rm : Nat}
theorem dX16_init_741 : decode cX16_init 741 = .ok (.iconst 0, 1) := by decide +kernel
theorem dX16_init_742 : decode cX16_init 742 = .ok (.istore_n 1, 1) := by decide +kernel
theorem dX16_init_743 : decode cX16_init 743 = .ok (.iconst 1, 1) := by decide +kernel
theorem dX16_init_744 : decode cX16_init 744 = .ok (.istore_n 2, 1) := by decide +kernel
theorem dX16_init_745 : decode cX16_init 745 = .ok (.iload_n 2, 1) := by decide +kernel
theorem dX16_init_746 : decode cX16_init 746 = .ok (.ldc_w 967, 3) := by decide +kernel
theorem dX16_init_749 : decode cX16_init 749 = .ok (.invokevirtual 87, 3) := by decide +kernel
theorem dX16_init_752 : decode cX16_init 752 = .ok (.if_icmp .ge 47, 3) := by decide +kernel
theorem dX16_init_755 : decode cX16_init 755 = .ok (.ldc_w 967, 3) := by decide +kernel
theorem dX16_init_758 : decode cX16_init 758 = .ok (.iload_n 2, 1) := by decide +kernel
theorem dX16_init_759 : decode cX16_init 759 = .ok (.invokevirtual 91, 3) := by decide +kernel
theorem dX16_init_762 : decode cX16_init 762 = .ok (.istore_n 3, 1) := by decide +kernel
theorem dX16_init_763 : decode cX16_init 763 = .ok (.iload_n 3, 1) := by decide +kernel
theorem dX16_init_764 : decode cX16_init 764 = .ok (.bipush 32, 2) := by decide +kernel
theorem dX16_init_766 : decode cX16_init 766 = .ok (.if_icmp .ne 9, 3) := by decide +kernel
theorem dX16_init_769 : decode cX16_init 769 = .ok (.iinc 1 1, 3) := by decide +kernel
theorem dX16_init_772 : decode cX16_init 772 = .ok (.goto 21, 3) := by decide +kernel
theorem dX16_init_775 : decode cX16_init 775 = .ok (.aload_n 0, 1) := by decide +kernel
theorem dX16_init_776 : decode cX16_init 776 = .ok (.getfield 95, 3) := by decide +kernel
theorem dX16_init_779 : decode cX16_init 779 = .ok (.iload_n 1, 1) := by decide +kernel
theorem dX16_init_780 : decode cX16_init 780 = .ok (.aload_n 0, 1) := by decide +kernel
theorem dX16_init_781 : decode cX16_init 781 = .ok (.getfield 95, 3) := by decide +kernel
theorem dX16_init_784 : decode cX16_init 784 = .ok (.iload_n 1, 1) := by decide +kernel
theorem dX16_init_785 : decode cX16_init 785 = .ok (.laload, 1) := by decide +kernel
theorem dX16_init_786 : decode cX16_init 786 = .ok (.bipush 8, 2) := by decide +kernel
theorem dX16_init_788 : decode cX16_init 788 = .ok (.lshl, 1) := by decide +kernel
theorem dX16_init_789 : decode cX16_init 789 = .ok (.iload_n 3, 1) := by decide +kernel
theorem dX16_init_790 : decode cX16_init 790 = .ok (.i2l, 1) := by decide +kernel
theorem dX16_init_791 : decode cX16_init 791 = .ok (.lor, 1) := by decide +kernel
theorem dX16_init_792 : decode cX16_init 792 = .ok (.lastore, 1) := by decide +kernel
theorem dX16_init_793 : decode cX16_init 793 = .ok (.iinc 2 1, 3) := by decide +kernel
theorem dX16_init_796 : decode cX16_init 796 = .ok (.goto (-51), 3) := by decide +kernel
theorem dX16_init_799 : decode cX16_init 799 = .ok (.aload_n 0, 1) := by decide +kernel
theorem dX16_init_800 : decode cX16_init 800 = .ok (.invokevirtual 969, 3) := by decide +kernel
theorem dX16_init_803 : decode cX16_init 803 = .ok (.return_, 1) := by decide +kernel
set_option maxRecDepth 20000 in
theorem a_X16_init_799 {Q : Sg → Unit → Prop} {X : Sg → String → Prop} (K : MC R p s m args c cX16_init 4 RX16 D cA tys A n0 s0 4 85 []) (hQ : HQV p l e R s m args below meth c cX16_init D cA A n0 s0 QM dm ra jx rm Q) (hX : HX p l e R s m args below meth c 4 D cA A n0 s0 QM dm ra jx rm X) : ∀ (σ : Sg), w_X16_init_799 ra jx rm Q X σ → RG σ → Shp dm ra jx rm σ → JJ p l e R s m args below meth c 4 D cA A n0 s0 QM σ 799 [(0, .ref rm)] [] := by
  intro σ h hGσ hS H locs ls hH hl hc
  have B := K.1
  unfold w_X16_init_799 at h
  refine lv_aload_n B.1 B.2.1 dX16_init_799 rfl (lv_at hl 0 rfl) ?_
  refine c_V B hH hl hc K.2.2.1 (C := RX16) (T := TX16) (N := 123) (ci := 16) (As := []) (ok_X16_clear K.2.1 σ hGσ hS h) wc_X16_969 0 hd_X16_clear ⟨Nat.le_trans (Nat.le_of_ble_eq_true rfl) K.2.2.2.1, Nat.le_trans (Nat.le_of_ble_eq_true rfl) K.2.2.2.2.1⟩ hS.1.1 hS.1.2 (by decide) rfl rfl (rest := []) rfl (Nat.le_of_ble_eq_true rfl) dX16_init_800 (fun σ13 w hq => ?_) (fun σ9 E9 hx9 => hX σ9 E9 _ _ _ (tb_out K.2.2.2.2.2 rfl) hx9.1 hx9.2.1 hx9.2.2)
  obtain ⟨rfl, h, hGσ13, hS⟩ := hq
  intro H locs ls hH hl hc
  refine W.eq (g2 := F0 m 803 ls []) (rfl) ?_
  try dsimp only at h
  exact hQ _ _ _ _ _ dX16_init_803 hH hc h hGσ13 hS
set_option maxRecDepth 20000 in
theorem a_X16_init_793 {Q : Sg → Unit → Prop} {X : Sg → String → Prop} (K : MC R p s m args c cX16_init 4 RX16 D cA tys A n0 s0 4 85 []) (hQ : HQV p l e R s m args below meth c cX16_init D cA A n0 s0 QM dm ra jx rm Q) (hX : HX p l e R s m args below meth c 4 D cA A n0 s0 QM dm ra jx rm X) {K745 : Sg → Int → Int → Prop} (hK745 : ∀ (σ : Sg) (v1 : Int) (v2 : Int) (g1 : rng v1) (g2 : rng v2), K745 σ v1 v2 → RG σ → Shp dm ra jx rm σ → JJ p l e R s m args below meth c 4 D cA A n0 s0 QM σ 745 [(0, .ref rm), (1, .int (i32 v1)), (2, .int (i32 v2))] []) : ∀ (σ : Sg) (v1 : Int) (v2 : Int) (g1 : rng v1) (g2 : rng v2), w_X16_init_793 ra jx rm K745 Q X σ v1 v2 → RG σ → Shp dm ra jx rm σ → JJ p l e R s m args below meth c 4 D cA A n0 s0 QM σ 793 [(0, .ref rm), (1, .int (i32 v1)), (2, .int (i32 v2))] [] := by
  intro σ v1 v2 g1 g2 h hGσ hS H locs ls hH hl hc
  have B := K.1
  unfold w_X16_init_793 at h
  obtain ⟨q1, h⟩ := h
  refine lv_iinc (k := 2) (v := i32 (v2 + 1)) (lv' := [(2, .int (i32 (v2 + 1))), (0, .ref rm), (1, .int (i32 v1))]) B.1 B.2.1 dX16_init_793 hl rfl (i32_add _ _) (by decide) rfl (fun ls hl => ?_)
  refine lv_goto (tgt := 745) B.1 B.2.1 dX16_init_796 (by decide) ?_
  exact hK745 _ _ _ g1 q1 h hGσ hS _ _ _ hH (lv_sub (l' := [(0, .ref rm), (1, .int (i32 v1)), (2, .int (i32 (v2 + 1)))]) hl [1, 2, 0] rfl) hc
set_option maxRecDepth 20000 in
theorem a_X16_init_775 {Q : Sg → Unit → Prop} {X : Sg → String → Prop} (K : MC R p s m args c cX16_init 4 RX16 D cA tys A n0 s0 4 85 []) (hQ : HQV p l e R s m args below meth c cX16_init D cA A n0 s0 QM dm ra jx rm Q) (hX : HX p l e R s m args below meth c 4 D cA A n0 s0 QM dm ra jx rm X) {K745 : Sg → Int → Int → Prop} (hK745 : ∀ (σ : Sg) (v1 : Int) (v2 : Int) (g1 : rng v1) (g2 : rng v2), K745 σ v1 v2 → RG σ → Shp dm ra jx rm σ → JJ p l e R s m args below meth c 4 D cA A n0 s0 QM σ 745 [(0, .ref rm), (1, .int (i32 v1)), (2, .int (i32 v2))] []) : ∀ (σ : Sg) (v1 : Int) (v2 : Int) (v3 : Int) (g1 : rng v1) (g2 : rng v2) (g3 : rng v3), w_X16_init_775 ra jx rm K745 Q X σ v1 v2 v3 → RG σ → Shp dm ra jx rm σ → JJ p l e R s m args below meth c 4 D cA A n0 s0 QM σ 775 [(0, .ref rm), (1, .int (i32 v1)), (2, .int (i32 v2)), (3, .int (i32 v3))] [] := by
  intro σ v1 v2 v3 g1 g2 g3 h hGσ hS H locs ls hH hl hc
  have B := K.1
  unfold w_X16_init_775 at h
  refine lv_aload_n B.1 B.2.1 dX16_init_775 rfl (lv_at hl 0 rfl) ?_
  refine r_arr B hH hS 14 (kd := 101) (n := 23) (by decide) (by decide) wf_X16_95 rfl rfl dX16_init_776 ?_
  refine lv_iload_n B.1 B.2.1 dX16_init_779 rfl (lv_at hl 1 rfl) ?_
  refine lv_aload_n B.1 B.2.1 dX16_init_780 rfl (lv_at hl 0 rfl) ?_
  refine r_arr B hH hS 14 (kd := 101) (n := 23) (by decide) (by decide) wf_X16_95 rfl rfl dX16_init_781 ?_
  refine lv_iload_n B.1 B.2.1 dX16_init_784 rfl (lv_at hl 1 rfl) ?_
  obtain ⟨q1, h⟩ := h
  refine x_lald B K.2.1 hH (hS.ar (k := 14) (kd := 101) (n := 23) (by decide)) (by decide) q1 dX16_init_785 ?_
  refine lv_bipush (v := i32 8) B.1 B.2.1 dX16_init_786 (by decide) ?_
  refine lv_lshl B.1 B.2.1 dX16_init_788 rfl ?_
  refine lv_iload_n B.1 B.2.1 dX16_init_789 rfl (lv_at hl 3 rfl) ?_
  refine lv_i2l B.1 B.2.1 dX16_init_790 (i32_i64 g3) ?_
  refine lv_lor B.1 B.2.1 dX16_init_791 ?_
  obtain ⟨q2, h⟩ := h
  obtain ⟨σ14, eσ14⟩ : ∃ z, z = pJ σ (ra 14) v1.toNat (((gJ σ (ra 14) v1.toNat) <<< ((i32 8).toInt64 &&& 63)) ||| (Int64.ofInt v3)) := ⟨_, rfl⟩
  have h := h σ14 eσ14
  refine x_last B K.2.1 hH (hS.ar (k := 14) (kd := 101) (n := 23) (by decide)) (by decide) q2 dX16_init_792 (fun H locs hH => ?_)
  have hH : Hd D cA A s (pJ σ (ra 14) v1.toNat (((gJ σ (ra 14) v1.toNat) <<< ((i32 8).toInt64 &&& 63)) ||| (Int64.ofInt v3))) H locs := hH
  rw [← eσ14] at hH
  have hGσ14 : RG σ14 := by rw [eσ14]; exact hGσ.pJ
  have hS : Shp dm ra jx rm σ14 := by rw [eσ14]; exact hS
  have hc : CB n0 s0 σ14 := by rw [eσ14]; exact hc
  rw [show gc σ = gc σ14 by rw [eσ14], show gs σ = gs σ14 by rw [eσ14]]
  exact a_X16_init_793 K hQ hX hK745 _ _ _ g1 g2 h hGσ14 hS _ _ _ hH (lv_sub (l' := [(0, .ref rm), (1, .int (i32 v1)), (2, .int (i32 v2))]) hl [0, 1, 2] rfl) hc
set_option maxRecDepth 20000 in
theorem a_X16_init_769 {Q : Sg → Unit → Prop} {X : Sg → String → Prop} (K : MC R p s m args c cX16_init 4 RX16 D cA tys A n0 s0 4 85 []) (hQ : HQV p l e R s m args below meth c cX16_init D cA A n0 s0 QM dm ra jx rm Q) (hX : HX p l e R s m args below meth c 4 D cA A n0 s0 QM dm ra jx rm X) {K745 : Sg → Int → Int → Prop} (hK745 : ∀ (σ : Sg) (v1 : Int) (v2 : Int) (g1 : rng v1) (g2 : rng v2), K745 σ v1 v2 → RG σ → Shp dm ra jx rm σ → JJ p l e R s m args below meth c 4 D cA A n0 s0 QM σ 745 [(0, .ref rm), (1, .int (i32 v1)), (2, .int (i32 v2))] []) : ∀ (σ : Sg) (v1 : Int) (v2 : Int) (g1 : rng v1) (g2 : rng v2), w_X16_init_769 ra jx rm K745 Q X σ v1 v2 → RG σ → Shp dm ra jx rm σ → JJ p l e R s m args below meth c 4 D cA A n0 s0 QM σ 769 [(0, .ref rm), (1, .int (i32 v1)), (2, .int (i32 v2))] [] := by
  intro σ v1 v2 g1 g2 h hGσ hS H locs ls hH hl hc
  have B := K.1
  unfold w_X16_init_769 at h
  obtain ⟨q1, h⟩ := h
  refine lv_iinc (k := 1) (v := i32 (v1 + 1)) (lv' := [(1, .int (i32 (v1 + 1))), (0, .ref rm), (2, .int (i32 v2))]) B.1 B.2.1 dX16_init_769 hl rfl (i32_add _ _) (by decide) rfl (fun ls hl => ?_)
  refine lv_goto (tgt := 793) B.1 B.2.1 dX16_init_772 (by decide) ?_
  exact a_X16_init_793 K hQ hX hK745 _ _ _ q1 g2 h hGσ hS _ _ _ hH (lv_sub (l' := [(0, .ref rm), (1, .int (i32 (v1 + 1))), (2, .int (i32 v2))]) hl [1, 0, 2] rfl) hc
set_option maxRecDepth 20000 in
theorem a_X16_init_755 {Q : Sg → Unit → Prop} {X : Sg → String → Prop} (K : MC R p s m args c cX16_init 4 RX16 D cA tys A n0 s0 4 85 []) (hQ : HQV p l e R s m args below meth c cX16_init D cA A n0 s0 QM dm ra jx rm Q) (hX : HX p l e R s m args below meth c 4 D cA A n0 s0 QM dm ra jx rm X) {K745 : Sg → Int → Int → Prop} (hK745 : ∀ (σ : Sg) (v1 : Int) (v2 : Int) (g1 : rng v1) (g2 : rng v2), K745 σ v1 v2 → RG σ → Shp dm ra jx rm σ → JJ p l e R s m args below meth c 4 D cA A n0 s0 QM σ 745 [(0, .ref rm), (1, .int (i32 v1)), (2, .int (i32 v2))] []) : ∀ (σ : Sg) (v1 : Int) (v2 : Int) (g1 : rng v1) (g2 : rng v2), w_X16_init_755 ra jx rm K745 Q X σ v1 v2 → RG σ → Shp dm ra jx rm σ → JJ p l e R s m args below meth c 4 D cA A n0 s0 QM σ 755 [(0, .ref rm), (1, .int (i32 v1)), (2, .int (i32 v2))] [] := by
  intro σ v1 v2 g1 g2 h hGσ hS H locs ls hH hl hc
  have B := K.1
  unfold w_X16_init_755 at h
  refine xs_ldcw B.1 B.2.1 B.2.2.1 (B.2.2.2.2.2.2.2.2.2.2.1 _ (List.mem_of_getElem? (l := stL) (i := 27) rfl)).1 dX16_init_755 ?_
  refine lv_iload_n B.1 B.2.1 dX16_init_758 rfl (lv_at hl 2 rfl) ?_
  refine c_VS B hH hl hc K.2.2.1 (C := RJ0) (As := [.int (i32 v2)]) (ok_J0_charAt_5068e (dm := dm) (ra := ra) (jx := jx) (rm := rm) K.2.1 σ 967 v2 st_967.1 g2 hGσ hS h) wc_X16_91 1 hd_J0_charAt_5068e ⟨Nat.le_trans (Nat.le_of_ble_eq_true rfl) K.2.2.2.1, Nat.le_trans (Nat.le_of_ble_eq_true rfl) K.2.2.2.2.1⟩ (xs_recv B hH st_967.1) rfl (rest := []) rfl (Nat.le_of_ble_eq_true rfl) dX16_init_759 (fun σ15 w hq => ?_) (fun σ9 E9 hx9 => hX σ9 E9 _ _ _ (tb_out K.2.2.2.2.2 rfl) hx9.1 hx9.2.1 hx9.2.2)
  obtain ⟨r16, rfl, ⟨gr16, gzr16⟩, h, hGσ15, hS⟩ := hq
  intro H locs ls hH hl hc
  refine W.eq (g2 := F0 m 762 ls [.int (i32 r16)]) (rfl) ?_
  try dsimp only at h
  refine lv_istore_n (lv' := [(3, .int (i32 r16)), (0, .ref rm), (1, .int (i32 v1)), (2, .int (i32 v2))]) B.1 B.2.1 dX16_init_762 rfl hl (by decide) rfl (fun ls hl => ?_)
  refine lv_iload_n B.1 B.2.1 dX16_init_763 rfl (lv_at hl 0 rfl) ?_
  refine lv_bipush (v := i32 32) B.1 B.2.1 dX16_init_764 (by decide) ?_
  refine lv_icmp_ne (tgt := 775) B.1 B.2.1 dX16_init_766 (by decide) (fun h9 => ?_) (fun h9 => ?_)
  · rw [if_pos (fun q => h9 ((i32_eq gr16 (by unfold rng; omega)).mpr q))] at h
    exact a_X16_init_775 K hQ hX hK745 _ _ _ _ g1 g2 gr16 h hGσ15 hS _ _ _ hH (lv_sub (l' := [(0, .ref rm), (1, .int (i32 v1)), (2, .int (i32 v2)), (3, .int (i32 r16))]) hl [1, 2, 3, 0] rfl) hc
  · rw [if_neg (fun q => q ((i32_eq gr16 (by unfold rng; omega)).mp h9))] at h
    exact a_X16_init_769 K hQ hX hK745 _ _ _ g1 g2 h hGσ15 hS _ _ _ hH (lv_sub (l' := [(0, .ref rm), (1, .int (i32 v1)), (2, .int (i32 v2))]) hl [1, 2, 3] rfl) hc
set_option maxRecDepth 20000 in
theorem a_X16_init_745 {Q : Sg → Unit → Prop} {X : Sg → String → Prop} (K : MC R p s m args c cX16_init 4 RX16 D cA tys A n0 s0 4 85 []) (hQ : HQV p l e R s m args below meth c cX16_init D cA A n0 s0 QM dm ra jx rm Q) (hX : HX p l e R s m args below meth c 4 D cA A n0 s0 QM dm ra jx rm X) {K745 : Sg → Int → Int → Prop} (hK745 : ∀ (σ : Sg) (v1 : Int) (v2 : Int) (g1 : rng v1) (g2 : rng v2), K745 σ v1 v2 → RG σ → Shp dm ra jx rm σ → JJ p l e R s m args below meth c 4 D cA A n0 s0 QM σ 745 [(0, .ref rm), (1, .int (i32 v1)), (2, .int (i32 v2))] []) : ∀ (σ : Sg) (v1 : Int) (v2 : Int) (g1 : rng v1) (g2 : rng v2), w_X16_init_745 ra jx rm K745 Q X σ v1 v2 → RG σ → Shp dm ra jx rm σ → JJ p l e R s m args below meth c 4 D cA A n0 s0 QM σ 745 [(0, .ref rm), (1, .int (i32 v1)), (2, .int (i32 v2))] [] := by
  intro σ v1 v2 g1 g2 h hGσ hS H locs ls hH hl hc
  have B := K.1
  unfold w_X16_init_745 at h
  refine lv_iload_n B.1 B.2.1 dX16_init_745 rfl (lv_at hl 2 rfl) ?_
  refine xs_ldcw B.1 B.2.1 B.2.2.1 (B.2.2.2.2.2.2.2.2.2.2.1 _ (List.mem_of_getElem? (l := stL) (i := 27) rfl)).1 dX16_init_746 ?_
  refine c_VS B hH hl hc K.2.2.1 (C := RJ0) (As := []) (ok_J0_length_8abf5 (dm := dm) (ra := ra) (jx := jx) (rm := rm) K.2.1 σ 967 st_967.1 hGσ hS h) wc_X16_87 0 hd_J0_length_8abf5 ⟨Nat.le_trans (Nat.le_of_ble_eq_true rfl) K.2.2.2.1, Nat.le_trans (Nat.le_of_ble_eq_true rfl) K.2.2.2.2.1⟩ (xs_recv B hH st_967.1) rfl (rest := [.int (i32 v2)]) rfl (Nat.le_of_ble_eq_true rfl) dX16_init_749 (fun σ17 w hq => ?_) (fun σ9 E9 hx9 => hX σ9 E9 _ _ _ (tb_out K.2.2.2.2.2 rfl) hx9.1 hx9.2.1 hx9.2.2)
  obtain ⟨r18, rfl, gr18, h, hGσ17, hS⟩ := hq
  intro H locs ls hH hl hc
  refine W.eq (g2 := F0 m 752 ls [.int (i32 r18), .int (i32 v2)]) (rfl) ?_
  try dsimp only at h
  refine lv_icmp_ge (tgt := 799) B.1 B.2.1 dX16_init_752 (by decide) (fun h9 => ?_) (fun h9 => ?_)
  · rw [if_pos ((i32_le gr18 g2).mp h9)] at h
    exact a_X16_init_799 K hQ hX _ h hGσ17 hS _ _ _ hH (lv_sub (l' := [(0, .ref rm)]) hl [0] rfl) hc
  · rw [if_neg (fun q => h9 ((i32_le gr18 g2).mpr q))] at h
    exact a_X16_init_755 K hQ hX hK745 _ _ _ g1 g2 h hGσ17 hS _ _ _ hH (lv_sub (l' := [(0, .ref rm), (1, .int (i32 v1)), (2, .int (i32 v2))]) hl [0, 1, 2] rfl) hc
theorem al_X16_init_745 {Q : Sg → Unit → Prop} {X : Sg → String → Prop} (K : MC R p s m args c cX16_init 4 RX16 D cA tys A n0 s0 4 85 []) (hQ : HQV p l e R s m args below meth c cX16_init D cA A n0 s0 QM dm ra jx rm Q) (hX : HX p l e R s m args below meth c 4 D cA A n0 s0 QM dm ra jx rm X) : ∀ (n : Nat), ∀ (σ : Sg) (v1 : Int) (v2 : Int) (g1 : rng v1) (g2 : rng v2), wl_X16_init_745 ra jx rm Q X n σ v1 v2 → RG σ → Shp dm ra jx rm σ → JJ p l e R s m args below meth c 4 D cA A n0 s0 QM σ 745 [(0, .ref rm), (1, .int (i32 v1)), (2, .int (i32 v2))] [] := by
  intro n
  induction n with
  | zero => intro σ v1 v2 g1 g2 h; exact h.elim
  | succ n ih => exact fun σ v1 v2 g1 g2 h => a_X16_init_745 K hQ hX ih σ v1 v2 g1 g2 h
set_option maxRecDepth 20000 in
theorem a_X16_init_741 {Q : Sg → Unit → Prop} {X : Sg → String → Prop} (K : MC R p s m args c cX16_init 4 RX16 D cA tys A n0 s0 4 85 []) (hQ : HQV p l e R s m args below meth c cX16_init D cA A n0 s0 QM dm ra jx rm Q) (hX : HX p l e R s m args below meth c 4 D cA A n0 s0 QM dm ra jx rm X) : ∀ (σ : Sg), w_X16_init_741 ra jx rm Q X σ → RG σ → Shp dm ra jx rm σ → JJ p l e R s m args below meth c 4 D cA A n0 s0 QM σ 741 [(0, .ref rm)] [] := by
  intro σ h hGσ hS H locs ls hH hl hc
  have B := K.1
  unfold w_X16_init_741 at h
  refine lv_iconst (v := i32 0) B.1 B.2.1 dX16_init_741 (by decide) ?_
  refine lv_istore_n (lv' := [(1, .int (i32 0)), (0, .ref rm)]) B.1 B.2.1 dX16_init_742 rfl hl (by decide) rfl (fun ls hl => ?_)
  refine lv_iconst (v := i32 1) B.1 B.2.1 dX16_init_743 (by decide) ?_
  refine lv_istore_n (lv' := [(2, .int (i32 1)), (1, .int (i32 0)), (0, .ref rm)]) B.1 B.2.1 dX16_init_744 rfl hl (by decide) rfl (fun ls hl => ?_)
  obtain ⟨n9, h⟩ := h
  exact al_X16_init_745 K hQ hX n9 _ _ _ (by unfold rng; omega) (by unfold rng; omega) h hGσ hS _ _ _ hH (lv_sub (l' := [(0, .ref rm), (1, .int (i32 0)), (2, .int (i32 1))]) hl [2, 1, 0] rfl) hc
end MIT
section MIE
variable {p : Program} {l : Launch} {e : Env} {R : Room} {s : State} {m : MethodId} {args : Array Value} {below : List Frame} {meth : Method} {c : Code} {cc : ByteArray} {nL : Nat} {own : String} {D : va_G} {cA : Nat → ClassId} {tys : List (ClassId × FieldType)} {A : Nat → Prop} {n0 s0 : Nat} {Q : State → Prop} {σ : Sg} {pc : Nat} {lo : List (Nat × Value)} {ls : Array Slot} {H : Heap} {locs : List Loc} {rest : List Value} {Qn : Sg → Option Value → Prop} {Qx : Sg → String → Prop} {y : MethodName} {bytes : ByteArray} {maxL fr lw index : Nat} {ret : Option FieldType}
variable {c9 s9 rm : Nat}
theorem ok_X16_init (hT : TyC cA tys) {Q9 : (Nat → Nat) → (Nat → Nat → Nat) → Sg → Unit → Prop} (X0 : ST σ mr_0 c9 s9 0 rm 16) (hz : c9 + 200 ≤ BC ∧ s9 + 600000 ≤ BS) (hp : ∀ ra jx σ, Geo ra jx rm → (∀ a k, gI σ a k = if a = rm ∧ k = 96 then -1 else 0) → (∀ a k, gJ σ a k = 0) → w_X16_init_741 ra jx rm (Q9 ra jx) (fun _ _ => False) σ) : Ok l D cA tys A yX16_init (.code yX16_init cX16_init 4 none) 8 200 [.ref rm] σ (fun σ' v => v = none ∧ ∃ dm ra jx, Geo ra jx rm ∧ Q9 ra jx σ' () ∧ RG σ' ∧ Shp dm ra jx rm σ' ∧ dm.2.1 = c9 + 115 ∧ dm.2.2 = s9 + 593156) (fun _ _ => False) := by
  refine ok_of (ret := none) (by decide) (Nat.le_of_ble_eq_true rfl) ?_
  intro p e R s m args below meth c hRR B hr hlocks htab hin9
  have hRm : Rm R (gc σ) (gs σ) := by rw [hRR]; exact ⟨rfl, rfl⟩
  have hfr : 8 ≤ R.frames := by rw [hRR]; exact Nat.le_refl _
  have hlw : 200 ≤ R.locals := by rw [hRR]; exact Nat.le_refl _
  refine mi_all B hT hRm (hin9 rfl) hfr hlw hz (fun σ1 X => ?_) σ X0
  obtain ⟨ra, jx, g, sh, z1, z2⟩ := mk_shape X
  exact a_X16_init_741 (dm := σ1.1) ⟨B, hT.1, hRm, by omega, by omega, List.eq_nil_iff_forall_not_mem.mpr (fun x hx => htab x hx)⟩ (fun pc ls σ9 H locs hd hH hc hq hG hS => e_vret B hH hc hr hlocks ⟨rfl, _, ra, jx, g, hq, hG, hS, by rw [← ml_84.1]; exact X.1.2.2.1.1, by rw [← ml_84.2]; exact X.1.2.2.1.2⟩ hd) (fun σ9 E pc lo st hcov hx hG hS => False.elim hx) σ1 (hp ra jx σ1 g z1 z2) X.2.2.1 sh
end MIE

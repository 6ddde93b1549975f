abbrev ar_X12_feed_1 (dC : Nat → ClassId) (dI : Nat → Nat → Nat) (A : Nat → Prop) (h0 h1 : Nat) (g1 : Int64) (cB : ClassId) (f1 : Nat → Int32) (a2 a3 a4 a5 a6 a7 a8 : Value) (_ : Unit) (t : State) : Prop := va_P (dC, dI) vwCl [(h0, .inr (12, [.ref h1, .int 1, a2, a3, a4, a5, a6, a7, a8]))] t.heap ∧ va_K (dC, dI) vwCl [] t ∧ va_D A [(h0, .inr (12, [.ref h1, .int 1, a2, a3, a4, a5, a6, a7, a8]))]
theorem dX12_feed_1_0 : decode cX12_feed 0 = .ok (.iload_n 3, 1) := by decide +kernel
theorem dX12_feed_1_1 : decode cX12_feed 1 = .ok (.iconst 1, 1) := by decide +kernel
theorem dX12_feed_1_2 : decode cX12_feed 2 = .ok (.if_icmp .lt 9, 3) := by decide +kernel
theorem dX12_feed_1_5 : decode cX12_feed 5 = .ok (.iload_n 3, 1) := by decide +kernel
theorem dX12_feed_1_6 : decode cX12_feed 6 = .ok (.bipush 8, 2) := by decide +kernel
theorem dX12_feed_1_8 : decode cX12_feed 8 = .ok (.if_icmp .le 11, 3) := by decide +kernel
theorem dX12_feed_1_19 : decode cX12_feed 19 = .ok (.aload_n 0, 1) := by decide +kernel
theorem dX12_feed_1_20 : decode cX12_feed 20 = .ok (.getfield 13, 3) := by decide +kernel
theorem dX12_feed_1_23 : decode cX12_feed 23 = .ok (.iload_n 3, 1) := by decide +kernel
theorem dX12_feed_1_24 : decode cX12_feed 24 = .ok (.iadd, 1) := by decide +kernel
theorem dX12_feed_1_25 : decode cX12_feed 25 = .ok (.sipush 1500, 3) := by decide +kernel
theorem dX12_feed_1_28 : decode cX12_feed 28 = .ok (.if_icmp .le 11, 3) := by decide +kernel
theorem dX12_feed_1_39 : decode cX12_feed 39 = .ok (.iload_n 3, 1) := by decide +kernel
theorem dX12_feed_1_40 : decode cX12_feed 40 = .ok (.iconst 1, 1) := by decide +kernel
theorem dX12_feed_1_41 : decode cX12_feed 41 = .ok (.isub, 1) := by decide +kernel
theorem dX12_feed_1_42 : decode cX12_feed 42 = .ok (.istore 4, 2) := by decide +kernel
theorem dX12_feed_1_44 : decode cX12_feed 44 = .ok (.iload 4, 2) := by decide +kernel
theorem dX12_feed_1_46 : decode cX12_feed 46 = .ok (.ifCond .lt 37, 3) := by decide +kernel
theorem dX12_feed_1_49 : decode cX12_feed 49 = .ok (.aload_n 0, 1) := by decide +kernel
theorem dX12_feed_1_50 : decode cX12_feed 50 = .ok (.getfield 9, 3) := by decide +kernel
theorem dX12_feed_1_53 : decode cX12_feed 53 = .ok (.aload_n 0, 1) := by decide +kernel
theorem dX12_feed_1_54 : decode cX12_feed 54 = .ok (.getfield 13, 3) := by decide +kernel
theorem dX12_feed_1_57 : decode cX12_feed 57 = .ok (.lload_n 1, 1) := by decide +kernel
theorem dX12_feed_1_58 : decode cX12_feed 58 = .ok (.bipush 8, 2) := by decide +kernel
theorem dX12_feed_1_60 : decode cX12_feed 60 = .ok (.iload 4, 2) := by decide +kernel
theorem dX12_feed_1_62 : decode cX12_feed 62 = .ok (.imul, 1) := by decide +kernel
theorem dX12_feed_1_63 : decode cX12_feed 63 = .ok (.lushr, 1) := by decide +kernel
theorem dX12_feed_1_64 : decode cX12_feed 64 = .ok (.l2i, 1) := by decide +kernel
theorem dX12_feed_1_65 : decode cX12_feed 65 = .ok (.i2b, 1) := by decide +kernel
theorem dX12_feed_1_66 : decode cX12_feed 66 = .ok (.bastore, 1) := by decide +kernel
theorem dX12_feed_1_67 : decode cX12_feed 67 = .ok (.aload_n 0, 1) := by decide +kernel
theorem dX12_feed_1_68 : decode cX12_feed 68 = .ok (.dup, 1) := by decide +kernel
theorem dX12_feed_1_69 : decode cX12_feed 69 = .ok (.getfield 13, 3) := by decide +kernel
theorem dX12_feed_1_72 : decode cX12_feed 72 = .ok (.iconst 1, 1) := by decide +kernel
theorem dX12_feed_1_73 : decode cX12_feed 73 = .ok (.iadd, 1) := by decide +kernel
theorem dX12_feed_1_74 : decode cX12_feed 74 = .ok (.putfield 13, 3) := by decide +kernel
theorem dX12_feed_1_77 : decode cX12_feed 77 = .ok (.iinc 4 (-1), 3) := by decide +kernel
theorem dX12_feed_1_80 : decode cX12_feed 80 = .ok (.goto (-36), 3) := by decide +kernel
theorem dX12_feed_1_83 : decode cX12_feed 83 = .ok (.aload_n 0, 1) := by decide +kernel
theorem dX12_feed_1_84 : decode cX12_feed 84 = .ok (.getfield 13, 3) := by decide +kernel
theorem dX12_feed_1_87 : decode cX12_feed 87 = .ok (.ireturn, 1) := by decide +kernel
def ww_X12_feed_1 : List Cond := [.fieldLink RX12 13 "StreamHouse" "tapeLength" "I", .fieldLink RX12 9 "StreamHouse" "tape" "[B"]
def wv_X12_feed_1 : List Cond := .code yX12_feed cX12_feed 5 (some .int) :: (ww_X12_feed_1 ++ (u_ws RX12 TX12 9 ++ []))
theorem wm_X12_feed_1 {w : Cond} (i : Nat) (h : ww_X12_feed_1[i]? = some w) : w ∈ wv_X12_feed_1 := List.mem_cons_of_mem _ (List.mem_append_left _ (List.mem_of_getElem? h))
set_option maxRecDepth 100000 in
theorem gw_X12_feed_1 : wv_X12_feed_1.all goodWord = true := by decide +kernel
theorem wh_X12_feed_1_X12 : ∀ w ∈ u_ws RX12 TX12 9, w ∈ wv_X12_feed_1 := fun w h => List.mem_cons_of_mem _ (List.mem_append_right _ (List.mem_append_left _ h))
set_option maxHeartbeats 4000000 in
set_option maxRecDepth 100000 in
/-- feed(g, 1) of a fresh house: 1 -/
theorem r_X12_feed_1 (l : Launch) (dC : Nat → ClassId) (dI : Nat → Nat → Nat) (h0 h1 : Nat) (g1 : Int64) (cB : ClassId) (f1 : Nat → Int32) (a2 a3 a4 a5 a6 a7 a8 : Value) (sz : Nat) : Met l yX12_feed wv_X12_feed_1 ({ frames := 0, cells := 0, slots := 0, locals := 0 }) (va_Pc [.ref h0, .long g1, .int 1] (fun U => U.heap.size = sz ∧ va_P (dC, dI) vwCl [(h0, .inr (12, [.ref h1, .int 0, a2, a3, a4, a5, a6, a7, a8])), (h1, .inl (cB, 1500, .inl f1))] U.heap ∧ va_K (dC, dI) vwCl [(cB, .byte)] U ∧ va_D (fun _ => True) [(h0, .inr (12, [.ref h1, .int 0, a2, a3, a4, a5, a6, a7, a8])), (h1, .inl (cB, 1500, .inl f1))])) (va_Qi (fun r (_ : Unit) => r = 1) (ar_X12_feed_1 dC dI (va_A [(h0, .inr (12, [.ref h1, .int 0, a2, a3, a4, a5, a6, a7, a8])), (h1, .inl (cB, 1500, .inl f1))] sz) h0 h1 g1 cB f1 a2 a3 a4 a5 a6 a7 a8) (va_A [(h0, .inr (12, [.ref h1, .int 0, a2, a3, a4, a5, a6, a7, a8])), (h1, .inl (cB, 1500, .inl f1))] sz)) 0 0 (va_A [(h0, .inr (12, [.ref h1, .int 0, a2, a3, a4, a5, a6, a7, a8])), (h1, .inl (cB, 1500, .inl f1))] sz) := by
  refine Met.ofW (cc := cX12_feed) (maxL := 5) (ret := (some .int)) (by decide) rfl ?_
  intro p e s m args below meth c s₁ B hml hv
  obtain ⟨rfl, hsz, hP, hK, hD0⟩ := hv
  have hx := B.exec
  have hb := B.bytes
  have hr := B.returns
  have hts := atoms_spec (ws := wv_X12_feed_1) B.pre
  have hown : s.vm.findClass RX12 = some m.cls := findClass_of_methodNamed B.named
  have hlocks := B.notSynchronized
  subst hsz
  have hD := hD0.self (sz := s.heap.size)
  generalize hAe : va_A [(h0, .inr (12, [.ref h1, .int 0, a2, a3, a4, a5, a6, a7, a8])), (h1, .inl (cB, 1500, .inl f1))] s.heap.size = A at hD ⊢
  have hA : ∀ q : Nat, s.heap.size ≤ q → A q := fun q h => by rw [← hAe]; exact Or.inr h
  have hS : va_S A s.heap s.heap [] := va_S.rf
  have hP : va_P (dC, dI) vwCl [(h0, .inr (12, [.ref h1, .int 0, a2, a3, a4, a5, a6, a7, a8])), (h1, .inl (cB, 1500, .inl f1))] s.heap := hP
  have hl := lv_entry ([.ref h0, .long g1, .int 1]) (n := 5) (Nat.le_of_ble_eq_true rfl)
  rw [lg_entry_eq]
  generalize (lg_sl ([.ref h0, .long g1, .int 1]) ++ List.replicate (5 - (lg_sl ([.ref h0, .long g1, .int 1])).length) Slot.unset).toArray = ls at hl ⊢
  have hl : lv_has ls 5 [(0, .ref h0), (1, .long g1), (3, .int 1)] := hl
  refine lv_iload_n hx hb dX12_feed_1_0 rfl (lv_at hl 2 rfl) ?_
  refine lv_iconst (v := 1) hx hb dX12_feed_1_1 (by decide) ?_
  refine lv_icmp_lt (tgt := 11) hx hb dX12_feed_1_2 (by decide) (fun h9 => absurd h9 (by decide)) (fun _ => ?_)
  refine lv_iload_n hx hb dX12_feed_1_5 rfl (lv_at hl 2 rfl) ?_
  refine lv_bipush (v := 8) hx hb dX12_feed_1_6 (by decide) ?_
  refine lv_icmp_le (tgt := 19) hx hb dX12_feed_1_8 (by decide) (fun _ => ?_) (fun h9 => absurd (by decide) h9)
  refine lv_aload_n hx hb dX12_feed_1_19 rfl (lv_at hl 0 rfl) ?_
  refine va_get (D := (dC, dI)) (ci := 12) (v := .int 0) (C := RX12) (T := TX12) (N := 9) hx hb hts wh_X12_feed_1_X12 hown hK hP 0 rfl rfl 1 (by decide) (hts (.fieldLink RX12 13 "StreamHouse" "tapeLength" "I") (wm_X12_feed_1 0 rfl)) (fun _ h9 => h9) rfl dX12_feed_1_20 ?_
  refine lv_iload_n hx hb dX12_feed_1_23 rfl (lv_at hl 2 rfl) ?_
  refine lv_iadd hx hb dX12_feed_1_24 ?_
  refine W.eq (g2 := F0 m 25 ls [.int 1]) rfl ?_
  refine lv_sipush (v := 1500) hx hb dX12_feed_1_25 (by decide) ?_
  refine lv_icmp_le (tgt := 39) hx hb dX12_feed_1_28 (by decide) (fun _ => ?_) (fun h9 => absurd (by decide) h9)
  refine lv_iload_n hx hb dX12_feed_1_39 rfl (lv_at hl 2 rfl) ?_
  refine lv_iconst (v := 1) hx hb dX12_feed_1_40 (by decide) ?_
  refine lv_isub hx hb dX12_feed_1_41 ?_
  refine W.eq (g2 := F0 m 42 ls [.int 0]) rfl ?_
  refine lv_istore (lv' := [(4, .int 0), (0, .ref h0), (1, .long g1), (3, .int 1)]) hx hb dX12_feed_1_42 hl (by decide) rfl (fun ls hl => ?_)
  refine lv_iload hx hb dX12_feed_1_44 (lv_at hl 0 rfl) ?_
  refine lv_if_lt (tgt := 83) hx hb dX12_feed_1_46 (by decide) (fun h9 => absurd h9 (by decide)) (fun _ => ?_)
  refine lv_aload_n hx hb dX12_feed_1_49 rfl (lv_at hl 1 rfl) ?_
  refine va_get (D := (dC, dI)) (ci := 12) (v := .ref h1) (C := RX12) (T := TX12) (N := 9) hx hb hts wh_X12_feed_1_X12 hown hK hP 0 rfl rfl 0 (by decide) (hts (.fieldLink RX12 9 "StreamHouse" "tape" "[B") (wm_X12_feed_1 1 rfl)) (fun _ h9 => h9) rfl dX12_feed_1_50 ?_
  refine lv_aload_n hx hb dX12_feed_1_53 rfl (lv_at hl 1 rfl) ?_
  refine va_get (D := (dC, dI)) (ci := 12) (v := .int 0) (C := RX12) (T := TX12) (N := 9) hx hb hts wh_X12_feed_1_X12 hown hK hP 0 rfl rfl 1 (by decide) (hts (.fieldLink RX12 13 "StreamHouse" "tapeLength" "I") (wm_X12_feed_1 0 rfl)) (fun _ h9 => h9) rfl dX12_feed_1_54 ?_
  refine lv_lload_n hx hb dX12_feed_1_57 rfl (lv_at hl 2 rfl) ?_
  refine lv_bipush (v := 8) hx hb dX12_feed_1_58 (by decide) ?_
  refine lv_iload hx hb dX12_feed_1_60 (lv_at hl 0 rfl) ?_
  refine lv_imul hx hb dX12_feed_1_62 ?_
  refine W.eq (g2 := F0 m 63 ls [.int 0, .long g1, .int 0, .ref h1]) rfl ?_
  refine lv_lushr (v := _) hx hb dX12_feed_1_63 rfl ?_
  refine lv_topl (fun y1 _ => ?_)
  refine lv_l2i (v := _) hx hb dX12_feed_1_64 rfl ?_
  refine lv_topi (fun y2 _ => ?_)
  refine lv_i2b (v := _) hx hb dX12_feed_1_65 rfl ?_
  refine lv_topi (fun y3 _ => ?_)
  refine va_bast hx hb hK hP hD hS 1 0 rfl rfl (by unfold vp_in; decide) dX12_feed_1_66 (fun H locs hP hD hS => ?_)
  have hP : va_P (dC, dI) vwCl [(h0, .inr (12, [.ref h1, .int 0, a2, a3, a4, a5, a6, a7, a8])), (h1, .inl (cB, 1500, .inl (upd f1 0 (vp_nar .byte y3))))] H := hP
  have hD : va_D A [(h0, .inr (12, [.ref h1, .int 0, a2, a3, a4, a5, a6, a7, a8])), (h1, .inl (cB, 1500, .inl (upd f1 0 (vp_nar .byte y3))))] := hD
  refine lv_aload_n hx hb dX12_feed_1_67 rfl (lv_at hl 1 rfl) ?_
  refine lv_dup hx hb dX12_feed_1_68 rfl ?_
  refine va_get (D := (dC, dI)) (ci := 12) (v := .int 0) (C := RX12) (T := TX12) (N := 9) hx hb hts wh_X12_feed_1_X12 hown hK hP 0 rfl rfl 1 (by decide) (hts (.fieldLink RX12 13 "StreamHouse" "tapeLength" "I") (wm_X12_feed_1 0 rfl)) (fun _ h9 => h9) rfl dX12_feed_1_69 ?_
  refine lv_iconst (v := 1) hx hb dX12_feed_1_72 (by decide) ?_
  refine lv_iadd hx hb dX12_feed_1_73 ?_
  refine W.eq (g2 := F0 m 74 ls [.int 1, .ref h0]) rfl ?_
  refine va_put (D := (dC, dI)) (ci := 12) (v := .int 1) (ty := .int) (C := RX12) (T := TX12) (N := 9) hx hb hts wh_X12_feed_1_X12 tyX12 tyX12_ok nmX12 hown hK hP hD hS 0 rfl rfl 1 (by decide) (hts (.fieldLink RX12 13 "StreamHouse" "tapeLength" "I") (wm_X12_feed_1 0 rfl)) (fun _ h9 => h9) rfl (by decide +kernel) rfl rfl (Nat.le_of_ble_eq_true rfl) dX12_feed_1_74 (fun H locs hP hD hS => ?_)
  have hP : va_P (dC, dI) vwCl [(h0, .inr (12, [.ref h1, .int 1, a2, a3, a4, a5, a6, a7, a8])), (h1, .inl (cB, 1500, .inl (upd f1 0 (vp_nar .byte y3))))] H := hP
  have hD : va_D A [(h0, .inr (12, [.ref h1, .int 1, a2, a3, a4, a5, a6, a7, a8])), (h1, .inl (cB, 1500, .inl (upd f1 0 (vp_nar .byte y3))))] := hD
  refine lv_iinc (k := 0) (v := (-1)) (lv' := [(4, .int ((-1))), (0, .ref h0), (1, .long g1), (3, .int 1)]) hx hb dX12_feed_1_77 hl rfl (by decide) (by decide) rfl (fun ls hl => ?_)
  refine lv_goto (tgt := 44) hx hb dX12_feed_1_80 (by decide) ?_
  refine lv_iload hx hb dX12_feed_1_44 (lv_at hl 0 rfl) ?_
  refine lv_if_lt (tgt := 83) hx hb dX12_feed_1_46 (by decide) (fun _ => ?_) (fun h9 => absurd (by decide) h9)
  refine lv_aload_n hx hb dX12_feed_1_83 rfl (lv_at hl 1 rfl) ?_
  refine va_get (D := (dC, dI)) (ci := 12) (v := .int 1) (C := RX12) (T := TX12) (N := 9) hx hb hts wh_X12_feed_1_X12 hown hK hP 0 rfl rfl 1 (by decide) (hts (.fieldLink RX12 13 "StreamHouse" "tapeLength" "I") (wm_X12_feed_1 0 rfl)) (fun _ h9 => h9) rfl dX12_feed_1_84 ?_
  have hP9 := hP.sub (ws' := [(h0, .inr (12, [.ref h1, .int 1, a2, a3, a4, a5, a6, a7, a8]))]) [0] rfl
  have hD9 := hD.sub (ws' := [(h0, .inr (12, [.ref h1, .int 1, a2, a3, a4, a5, a6, a7, a8]))]) [0] (by decide) rfl
  have hK9 := hK.sub (tys' := []) [] rfl
  refine W.widen (k := 0) (n := 0) (by decide) (by decide) ?_
  exact W.iret (v := 1) hx hb hr (fun t ht hW => ⟨⟨1, (), rfl, rfl, by rw [ht]; exact hP9, va_K.moved hW.alike hK9, hD9⟩, hS.F ht⟩) hS.2.2 dX12_feed_1_87

abbrev ar_X12_feed_2 (dC : Nat → ClassId) (dI : Nat → Nat → Nat) (A : Nat → Prop) (h0 h1 : Nat) (g1 : Int64) (cB : ClassId) (f1 : Nat → Int32) (a2 a3 a4 a5 a6 a7 a8 : Value) (_ : Unit) (t : State) : Prop := va_P (dC, dI) vwCl [(h0, .inr (12, [.ref h1, .int 2, a2, a3, a4, a5, a6, a7, a8]))] t.heap ∧ va_K (dC, dI) vwCl [] t ∧ va_D A [(h0, .inr (12, [.ref h1, .int 2, a2, a3, a4, a5, a6, a7, a8]))]
theorem dX12_feed_2_0 : decode cX12_feed 0 = .ok (.iload_n 3, 1) := by decide +kernel
theorem dX12_feed_2_1 : decode cX12_feed 1 = .ok (.iconst 1, 1) := by decide +kernel
theorem dX12_feed_2_2 : decode cX12_feed 2 = .ok (.if_icmp .lt 9, 3) := by decide +kernel
theorem dX12_feed_2_5 : decode cX12_feed 5 = .ok (.iload_n 3, 1) := by decide +kernel
theorem dX12_feed_2_6 : decode cX12_feed 6 = .ok (.bipush 8, 2) := by decide +kernel
theorem dX12_feed_2_8 : decode cX12_feed 8 = .ok (.if_icmp .le 11, 3) := by decide +kernel
theorem dX12_feed_2_19 : decode cX12_feed 19 = .ok (.aload_n 0, 1) := by decide +kernel
theorem dX12_feed_2_20 : decode cX12_feed 20 = .ok (.getfield 13, 3) := by decide +kernel
theorem dX12_feed_2_23 : decode cX12_feed 23 = .ok (.iload_n 3, 1) := by decide +kernel
theorem dX12_feed_2_24 : decode cX12_feed 24 = .ok (.iadd, 1) := by decide +kernel
theorem dX12_feed_2_25 : decode cX12_feed 25 = .ok (.sipush 1500, 3) := by decide +kernel
theorem dX12_feed_2_28 : decode cX12_feed 28 = .ok (.if_icmp .le 11, 3) := by decide +kernel
theorem dX12_feed_2_39 : decode cX12_feed 39 = .ok (.iload_n 3, 1) := by decide +kernel
theorem dX12_feed_2_40 : decode cX12_feed 40 = .ok (.iconst 1, 1) := by decide +kernel
theorem dX12_feed_2_41 : decode cX12_feed 41 = .ok (.isub, 1) := by decide +kernel
theorem dX12_feed_2_42 : decode cX12_feed 42 = .ok (.istore 4, 2) := by decide +kernel
theorem dX12_feed_2_44 : decode cX12_feed 44 = .ok (.iload 4, 2) := by decide +kernel
theorem dX12_feed_2_46 : decode cX12_feed 46 = .ok (.ifCond .lt 37, 3) := by decide +kernel
theorem dX12_feed_2_49 : decode cX12_feed 49 = .ok (.aload_n 0, 1) := by decide +kernel
theorem dX12_feed_2_50 : decode cX12_feed 50 = .ok (.getfield 9, 3) := by decide +kernel
theorem dX12_feed_2_53 : decode cX12_feed 53 = .ok (.aload_n 0, 1) := by decide +kernel
theorem dX12_feed_2_54 : decode cX12_feed 54 = .ok (.getfield 13, 3) := by decide +kernel
theorem dX12_feed_2_57 : decode cX12_feed 57 = .ok (.lload_n 1, 1) := by decide +kernel
theorem dX12_feed_2_58 : decode cX12_feed 58 = .ok (.bipush 8, 2) := by decide +kernel
theorem dX12_feed_2_60 : decode cX12_feed 60 = .ok (.iload 4, 2) := by decide +kernel
theorem dX12_feed_2_62 : decode cX12_feed 62 = .ok (.imul, 1) := by decide +kernel
theorem dX12_feed_2_63 : decode cX12_feed 63 = .ok (.lushr, 1) := by decide +kernel
theorem dX12_feed_2_64 : decode cX12_feed 64 = .ok (.l2i, 1) := by decide +kernel
theorem dX12_feed_2_65 : decode cX12_feed 65 = .ok (.i2b, 1) := by decide +kernel
theorem dX12_feed_2_66 : decode cX12_feed 66 = .ok (.bastore, 1) := by decide +kernel
theorem dX12_feed_2_67 : decode cX12_feed 67 = .ok (.aload_n 0, 1) := by decide +kernel
theorem dX12_feed_2_68 : decode cX12_feed 68 = .ok (.dup, 1) := by decide +kernel
theorem dX12_feed_2_69 : decode cX12_feed 69 = .ok (.getfield 13, 3) := by decide +kernel
theorem dX12_feed_2_72 : decode cX12_feed 72 = .ok (.iconst 1, 1) := by decide +kernel
theorem dX12_feed_2_73 : decode cX12_feed 73 = .ok (.iadd, 1) := by decide +kernel
theorem dX12_feed_2_74 : decode cX12_feed 74 = .ok (.putfield 13, 3) := by decide +kernel
theorem dX12_feed_2_77 : decode cX12_feed 77 = .ok (.iinc 4 (-1), 3) := by decide +kernel
theorem dX12_feed_2_80 : decode cX12_feed 80 = .ok (.goto (-36), 3) := by decide +kernel
theorem dX12_feed_2_83 : decode cX12_feed 83 = .ok (.aload_n 0, 1) := by decide +kernel
theorem dX12_feed_2_84 : decode cX12_feed 84 = .ok (.getfield 13, 3) := by decide +kernel
theorem dX12_feed_2_87 : decode cX12_feed 87 = .ok (.ireturn, 1) := by decide +kernel
def ww_X12_feed_2 : List Cond := [.fieldLink RX12 13 "StreamHouse" "tapeLength" "I", .fieldLink RX12 9 "StreamHouse" "tape" "[B"]
def wv_X12_feed_2 : List Cond := .code yX12_feed cX12_feed 5 (some .int) :: (ww_X12_feed_2 ++ (u_ws RX12 TX12 9 ++ []))
theorem wm_X12_feed_2 {w : Cond} (i : Nat) (h : ww_X12_feed_2[i]? = some w) : w ∈ wv_X12_feed_2 := List.mem_cons_of_mem _ (List.mem_append_left _ (List.mem_of_getElem? h))
set_option maxRecDepth 100000 in
theorem gw_X12_feed_2 : wv_X12_feed_2.all goodWord = true := by decide +kernel
theorem wh_X12_feed_2_X12 : ∀ w ∈ u_ws RX12 TX12 9, w ∈ wv_X12_feed_2 := fun w h => List.mem_cons_of_mem _ (List.mem_append_right _ (List.mem_append_left _ h))
set_option maxHeartbeats 4000000 in
set_option maxRecDepth 100000 in
/-- feed(g, 2) of a fresh house: 2 -/
theorem r_X12_feed_2 (l : Launch) (dC : Nat → ClassId) (dI : Nat → Nat → Nat) (h0 h1 : Nat) (g1 : Int64) (cB : ClassId) (f1 : Nat → Int32) (a2 a3 a4 a5 a6 a7 a8 : Value) (sz : Nat) : Met l yX12_feed wv_X12_feed_2 ({ frames := 0, cells := 0, slots := 0, locals := 0 }) (va_Pc [.ref h0, .long g1, .int 2] (fun U => U.heap.size = sz ∧ va_P (dC, dI) vwCl [(h0, .inr (12, [.ref h1, .int 0, a2, a3, a4, a5, a6, a7, a8])), (h1, .inl (cB, 1500, .inl f1))] U.heap ∧ va_K (dC, dI) vwCl [(cB, .byte)] U ∧ va_D (fun _ => True) [(h0, .inr (12, [.ref h1, .int 0, a2, a3, a4, a5, a6, a7, a8])), (h1, .inl (cB, 1500, .inl f1))])) (va_Qi (fun r (_ : Unit) => r = 2) (ar_X12_feed_2 dC dI (va_A [(h0, .inr (12, [.ref h1, .int 0, a2, a3, a4, a5, a6, a7, a8])), (h1, .inl (cB, 1500, .inl f1))] sz) h0 h1 g1 cB f1 a2 a3 a4 a5 a6 a7 a8) (va_A [(h0, .inr (12, [.ref h1, .int 0, a2, a3, a4, a5, a6, a7, a8])), (h1, .inl (cB, 1500, .inl f1))] sz)) 0 0 (va_A [(h0, .inr (12, [.ref h1, .int 0, a2, a3, a4, a5, a6, a7, a8])), (h1, .inl (cB, 1500, .inl f1))] sz) := by
  refine Met.ofW (cc := cX12_feed) (maxL := 5) (ret := (some .int)) (by decide) rfl ?_
  intro p e s m args below meth c s₁ B hml hv
  obtain ⟨rfl, hsz, hP, hK, hD0⟩ := hv
  have hx := B.exec
  have hb := B.bytes
  have hr := B.returns
  have hts := atoms_spec (ws := wv_X12_feed_2) B.pre
  have hown : s.vm.findClass RX12 = some m.cls := findClass_of_methodNamed B.named
  have hlocks := B.notSynchronized
  subst hsz
  have hD := hD0.self (sz := s.heap.size)
  generalize hAe : va_A [(h0, .inr (12, [.ref h1, .int 0, a2, a3, a4, a5, a6, a7, a8])), (h1, .inl (cB, 1500, .inl f1))] s.heap.size = A at hD ⊢
  have hA : ∀ q : Nat, s.heap.size ≤ q → A q := fun q h => by rw [← hAe]; exact Or.inr h
  have hS : va_S A s.heap s.heap [] := va_S.rf
  have hP : va_P (dC, dI) vwCl [(h0, .inr (12, [.ref h1, .int 0, a2, a3, a4, a5, a6, a7, a8])), (h1, .inl (cB, 1500, .inl f1))] s.heap := hP
  have hl := lv_entry ([.ref h0, .long g1, .int 2]) (n := 5) (Nat.le_of_ble_eq_true rfl)
  rw [lg_entry_eq]
  generalize (lg_sl ([.ref h0, .long g1, .int 2]) ++ List.replicate (5 - (lg_sl ([.ref h0, .long g1, .int 2])).length) Slot.unset).toArray = ls at hl ⊢
  have hl : lv_has ls 5 [(0, .ref h0), (1, .long g1), (3, .int 2)] := hl
  refine lv_iload_n hx hb dX12_feed_2_0 rfl (lv_at hl 2 rfl) ?_
  refine lv_iconst (v := 1) hx hb dX12_feed_2_1 (by decide) ?_
  refine lv_icmp_lt (tgt := 11) hx hb dX12_feed_2_2 (by decide) (fun h9 => absurd h9 (by decide)) (fun _ => ?_)
  refine lv_iload_n hx hb dX12_feed_2_5 rfl (lv_at hl 2 rfl) ?_
  refine lv_bipush (v := 8) hx hb dX12_feed_2_6 (by decide) ?_
  refine lv_icmp_le (tgt := 19) hx hb dX12_feed_2_8 (by decide) (fun _ => ?_) (fun h9 => absurd (by decide) h9)
  refine lv_aload_n hx hb dX12_feed_2_19 rfl (lv_at hl 0 rfl) ?_
  refine va_get (D := (dC, dI)) (ci := 12) (v := .int 0) (C := RX12) (T := TX12) (N := 9) hx hb hts wh_X12_feed_2_X12 hown hK hP 0 rfl rfl 1 (by decide) (hts (.fieldLink RX12 13 "StreamHouse" "tapeLength" "I") (wm_X12_feed_2 0 rfl)) (fun _ h9 => h9) rfl dX12_feed_2_20 ?_
  refine lv_iload_n hx hb dX12_feed_2_23 rfl (lv_at hl 2 rfl) ?_
  refine lv_iadd hx hb dX12_feed_2_24 ?_
  refine W.eq (g2 := F0 m 25 ls [.int 2]) rfl ?_
  refine lv_sipush (v := 1500) hx hb dX12_feed_2_25 (by decide) ?_
  refine lv_icmp_le (tgt := 39) hx hb dX12_feed_2_28 (by decide) (fun _ => ?_) (fun h9 => absurd (by decide) h9)
  refine lv_iload_n hx hb dX12_feed_2_39 rfl (lv_at hl 2 rfl) ?_
  refine lv_iconst (v := 1) hx hb dX12_feed_2_40 (by decide) ?_
  refine lv_isub hx hb dX12_feed_2_41 ?_
  refine W.eq (g2 := F0 m 42 ls [.int 1]) rfl ?_
  refine lv_istore (lv' := [(4, .int 1), (0, .ref h0), (1, .long g1), (3, .int 2)]) hx hb dX12_feed_2_42 hl (by decide) rfl (fun ls hl => ?_)
  refine lv_iload hx hb dX12_feed_2_44 (lv_at hl 0 rfl) ?_
  refine lv_if_lt (tgt := 83) hx hb dX12_feed_2_46 (by decide) (fun h9 => absurd h9 (by decide)) (fun _ => ?_)
  refine lv_aload_n hx hb dX12_feed_2_49 rfl (lv_at hl 1 rfl) ?_
  refine va_get (D := (dC, dI)) (ci := 12) (v := .ref h1) (C := RX12) (T := TX12) (N := 9) hx hb hts wh_X12_feed_2_X12 hown hK hP 0 rfl rfl 0 (by decide) (hts (.fieldLink RX12 9 "StreamHouse" "tape" "[B") (wm_X12_feed_2 1 rfl)) (fun _ h9 => h9) rfl dX12_feed_2_50 ?_
  refine lv_aload_n hx hb dX12_feed_2_53 rfl (lv_at hl 1 rfl) ?_
  refine va_get (D := (dC, dI)) (ci := 12) (v := .int 0) (C := RX12) (T := TX12) (N := 9) hx hb hts wh_X12_feed_2_X12 hown hK hP 0 rfl rfl 1 (by decide) (hts (.fieldLink RX12 13 "StreamHouse" "tapeLength" "I") (wm_X12_feed_2 0 rfl)) (fun _ h9 => h9) rfl dX12_feed_2_54 ?_
  refine lv_lload_n hx hb dX12_feed_2_57 rfl (lv_at hl 2 rfl) ?_
  refine lv_bipush (v := 8) hx hb dX12_feed_2_58 (by decide) ?_
  refine lv_iload hx hb dX12_feed_2_60 (lv_at hl 0 rfl) ?_
  refine lv_imul hx hb dX12_feed_2_62 ?_
  refine W.eq (g2 := F0 m 63 ls [.int 8, .long g1, .int 0, .ref h1]) rfl ?_
  refine lv_lushr (v := _) hx hb dX12_feed_2_63 rfl ?_
  refine lv_topl (fun y1 _ => ?_)
  refine lv_l2i (v := _) hx hb dX12_feed_2_64 rfl ?_
  refine lv_topi (fun y2 _ => ?_)
  refine lv_i2b (v := _) hx hb dX12_feed_2_65 rfl ?_
  refine lv_topi (fun y3 _ => ?_)
  refine va_bast hx hb hK hP hD hS 1 0 rfl rfl (by unfold vp_in; decide) dX12_feed_2_66 (fun H locs hP hD hS => ?_)
  have hP : va_P (dC, dI) vwCl [(h0, .inr (12, [.ref h1, .int 0, a2, a3, a4, a5, a6, a7, a8])), (h1, .inl (cB, 1500, .inl (upd f1 0 (vp_nar .byte y3))))] H := hP
  have hD : va_D A [(h0, .inr (12, [.ref h1, .int 0, a2, a3, a4, a5, a6, a7, a8])), (h1, .inl (cB, 1500, .inl (upd f1 0 (vp_nar .byte y3))))] := hD
  refine lv_aload_n hx hb dX12_feed_2_67 rfl (lv_at hl 1 rfl) ?_
  refine lv_dup hx hb dX12_feed_2_68 rfl ?_
  refine va_get (D := (dC, dI)) (ci := 12) (v := .int 0) (C := RX12) (T := TX12) (N := 9) hx hb hts wh_X12_feed_2_X12 hown hK hP 0 rfl rfl 1 (by decide) (hts (.fieldLink RX12 13 "StreamHouse" "tapeLength" "I") (wm_X12_feed_2 0 rfl)) (fun _ h9 => h9) rfl dX12_feed_2_69 ?_
  refine lv_iconst (v := 1) hx hb dX12_feed_2_72 (by decide) ?_
  refine lv_iadd hx hb dX12_feed_2_73 ?_
  refine W.eq (g2 := F0 m 74 ls [.int 1, .ref h0]) rfl ?_
  refine va_put (D := (dC, dI)) (ci := 12) (v := .int 1) (ty := .int) (C := RX12) (T := TX12) (N := 9) hx hb hts wh_X12_feed_2_X12 tyX12 tyX12_ok nmX12 hown hK hP hD hS 0 rfl rfl 1 (by decide) (hts (.fieldLink RX12 13 "StreamHouse" "tapeLength" "I") (wm_X12_feed_2 0 rfl)) (fun _ h9 => h9) rfl (by decide +kernel) rfl rfl (Nat.le_of_ble_eq_true rfl) dX12_feed_2_74 (fun H locs hP hD hS => ?_)
  have hP : va_P (dC, dI) vwCl [(h0, .inr (12, [.ref h1, .int 1, a2, a3, a4, a5, a6, a7, a8])), (h1, .inl (cB, 1500, .inl (upd f1 0 (vp_nar .byte y3))))] H := hP
  have hD : va_D A [(h0, .inr (12, [.ref h1, .int 1, a2, a3, a4, a5, a6, a7, a8])), (h1, .inl (cB, 1500, .inl (upd f1 0 (vp_nar .byte y3))))] := hD
  refine lv_iinc (k := 0) (v := 0) (lv' := [(4, .int 0), (0, .ref h0), (1, .long g1), (3, .int 2)]) hx hb dX12_feed_2_77 hl rfl (by decide) (by decide) rfl (fun ls hl => ?_)
  refine lv_goto (tgt := 44) hx hb dX12_feed_2_80 (by decide) ?_
  refine lv_iload hx hb dX12_feed_2_44 (lv_at hl 0 rfl) ?_
  refine lv_if_lt (tgt := 83) hx hb dX12_feed_2_46 (by decide) (fun h9 => absurd h9 (by decide)) (fun _ => ?_)
  refine lv_aload_n hx hb dX12_feed_2_49 rfl (lv_at hl 1 rfl) ?_
  refine va_get (D := (dC, dI)) (ci := 12) (v := .ref h1) (C := RX12) (T := TX12) (N := 9) hx hb hts wh_X12_feed_2_X12 hown hK hP 0 rfl rfl 0 (by decide) (hts (.fieldLink RX12 9 "StreamHouse" "tape" "[B") (wm_X12_feed_2 1 rfl)) (fun _ h9 => h9) rfl dX12_feed_2_50 ?_
  refine lv_aload_n hx hb dX12_feed_2_53 rfl (lv_at hl 1 rfl) ?_
  refine va_get (D := (dC, dI)) (ci := 12) (v := .int 1) (C := RX12) (T := TX12) (N := 9) hx hb hts wh_X12_feed_2_X12 hown hK hP 0 rfl rfl 1 (by decide) (hts (.fieldLink RX12 13 "StreamHouse" "tapeLength" "I") (wm_X12_feed_2 0 rfl)) (fun _ h9 => h9) rfl dX12_feed_2_54 ?_
  refine lv_lload_n hx hb dX12_feed_2_57 rfl (lv_at hl 2 rfl) ?_
  refine lv_bipush (v := 8) hx hb dX12_feed_2_58 (by decide) ?_
  refine lv_iload hx hb dX12_feed_2_60 (lv_at hl 0 rfl) ?_
  refine lv_imul hx hb dX12_feed_2_62 ?_
  refine W.eq (g2 := F0 m 63 ls [.int 0, .long g1, .int 1, .ref h1]) rfl ?_
  refine lv_lushr (v := _) hx hb dX12_feed_2_63 rfl ?_
  refine lv_topl (fun y4 _ => ?_)
  refine lv_l2i (v := _) hx hb dX12_feed_2_64 rfl ?_
  refine lv_topi (fun y5 _ => ?_)
  refine lv_i2b (v := _) hx hb dX12_feed_2_65 rfl ?_
  refine lv_topi (fun y6 _ => ?_)
  refine va_bast hx hb hK hP hD hS 1 0 rfl rfl (by unfold vp_in; decide) dX12_feed_2_66 (fun H locs hP hD hS => ?_)
  have hP : va_P (dC, dI) vwCl [(h0, .inr (12, [.ref h1, .int 1, a2, a3, a4, a5, a6, a7, a8])), (h1, .inl (cB, 1500, .inl (upd (upd f1 0 (vp_nar .byte y3)) 1 (vp_nar .byte y6))))] H := hP
  have hD : va_D A [(h0, .inr (12, [.ref h1, .int 1, a2, a3, a4, a5, a6, a7, a8])), (h1, .inl (cB, 1500, .inl (upd (upd f1 0 (vp_nar .byte y3)) 1 (vp_nar .byte y6))))] := hD
  refine lv_aload_n hx hb dX12_feed_2_67 rfl (lv_at hl 1 rfl) ?_
  refine lv_dup hx hb dX12_feed_2_68 rfl ?_
  refine va_get (D := (dC, dI)) (ci := 12) (v := .int 1) (C := RX12) (T := TX12) (N := 9) hx hb hts wh_X12_feed_2_X12 hown hK hP 0 rfl rfl 1 (by decide) (hts (.fieldLink RX12 13 "StreamHouse" "tapeLength" "I") (wm_X12_feed_2 0 rfl)) (fun _ h9 => h9) rfl dX12_feed_2_69 ?_
  refine lv_iconst (v := 1) hx hb dX12_feed_2_72 (by decide) ?_
  refine lv_iadd hx hb dX12_feed_2_73 ?_
  refine W.eq (g2 := F0 m 74 ls [.int 2, .ref h0]) rfl ?_
  refine va_put (D := (dC, dI)) (ci := 12) (v := .int 2) (ty := .int) (C := RX12) (T := TX12) (N := 9) hx hb hts wh_X12_feed_2_X12 tyX12 tyX12_ok nmX12 hown hK hP hD hS 0 rfl rfl 1 (by decide) (hts (.fieldLink RX12 13 "StreamHouse" "tapeLength" "I") (wm_X12_feed_2 0 rfl)) (fun _ h9 => h9) rfl (by decide +kernel) rfl rfl (Nat.le_of_ble_eq_true rfl) dX12_feed_2_74 (fun H locs hP hD hS => ?_)
  have hP : va_P (dC, dI) vwCl [(h0, .inr (12, [.ref h1, .int 2, a2, a3, a4, a5, a6, a7, a8])), (h1, .inl (cB, 1500, .inl (upd (upd f1 0 (vp_nar .byte y3)) 1 (vp_nar .byte y6))))] H := hP
  have hD : va_D A [(h0, .inr (12, [.ref h1, .int 2, a2, a3, a4, a5, a6, a7, a8])), (h1, .inl (cB, 1500, .inl (upd (upd f1 0 (vp_nar .byte y3)) 1 (vp_nar .byte y6))))] := hD
  refine lv_iinc (k := 0) (v := (-1)) (lv' := [(4, .int ((-1))), (0, .ref h0), (1, .long g1), (3, .int 2)]) hx hb dX12_feed_2_77 hl rfl (by decide) (by decide) rfl (fun ls hl => ?_)
  refine lv_goto (tgt := 44) hx hb dX12_feed_2_80 (by decide) ?_
  refine lv_iload hx hb dX12_feed_2_44 (lv_at hl 0 rfl) ?_
  refine lv_if_lt (tgt := 83) hx hb dX12_feed_2_46 (by decide) (fun _ => ?_) (fun h9 => absurd (by decide) h9)
  refine lv_aload_n hx hb dX12_feed_2_83 rfl (lv_at hl 1 rfl) ?_
  refine va_get (D := (dC, dI)) (ci := 12) (v := .int 2) (C := RX12) (T := TX12) (N := 9) hx hb hts wh_X12_feed_2_X12 hown hK hP 0 rfl rfl 1 (by decide) (hts (.fieldLink RX12 13 "StreamHouse" "tapeLength" "I") (wm_X12_feed_2 0 rfl)) (fun _ h9 => h9) rfl dX12_feed_2_84 ?_
  have hP9 := hP.sub (ws' := [(h0, .inr (12, [.ref h1, .int 2, a2, a3, a4, a5, a6, a7, a8]))]) [0] rfl
  have hD9 := hD.sub (ws' := [(h0, .inr (12, [.ref h1, .int 2, a2, a3, a4, a5, a6, a7, a8]))]) [0] (by decide) rfl
  have hK9 := hK.sub (tys' := []) [] rfl
  refine W.widen (k := 0) (n := 0) (by decide) (by decide) ?_
  exact W.iret (v := 2) hx hb hr (fun t ht hW => ⟨⟨2, (), rfl, rfl, by rw [ht]; exact hP9, va_K.moved hW.alike hK9, hD9⟩, hS.F ht⟩) hS.2.2 dX12_feed_2_87

abbrev ar_X12_feed_3 (dC : Nat → ClassId) (dI : Nat → Nat → Nat) (A : Nat → Prop) (h0 h1 : Nat) (g1 : Int64) (cB : ClassId) (f1 : Nat → Int32) (a2 a3 a4 a5 a6 a7 a8 : Value) (_ : Unit) (t : State) : Prop := va_P (dC, dI) vwCl [(h0, .inr (12, [.ref h1, .int 3, a2, a3, a4, a5, a6, a7, a8]))] t.heap ∧ va_K (dC, dI) vwCl [] t ∧ va_D A [(h0, .inr (12, [.ref h1, .int 3, a2, a3, a4, a5, a6, a7, a8]))]
theorem dX12_feed_3_0 : decode cX12_feed 0 = .ok (.iload_n 3, 1) := by decide +kernel
theorem dX12_feed_3_1 : decode cX12_feed 1 = .ok (.iconst 1, 1) := by decide +kernel
theorem dX12_feed_3_2 : decode cX12_feed 2 = .ok (.if_icmp .lt 9, 3) := by decide +kernel
theorem dX12_feed_3_5 : decode cX12_feed 5 = .ok (.iload_n 3, 1) := by decide +kernel
theorem dX12_feed_3_6 : decode cX12_feed 6 = .ok (.bipush 8, 2) := by decide +kernel
theorem dX12_feed_3_8 : decode cX12_feed 8 = .ok (.if_icmp .le 11, 3) := by decide +kernel
theorem dX12_feed_3_19 : decode cX12_feed 19 = .ok (.aload_n 0, 1) := by decide +kernel
theorem dX12_feed_3_20 : decode cX12_feed 20 = .ok (.getfield 13, 3) := by decide +kernel
theorem dX12_feed_3_23 : decode cX12_feed 23 = .ok (.iload_n 3, 1) := by decide +kernel
theorem dX12_feed_3_24 : decode cX12_feed 24 = .ok (.iadd, 1) := by decide +kernel
theorem dX12_feed_3_25 : decode cX12_feed 25 = .ok (.sipush 1500, 3) := by decide +kernel
theorem dX12_feed_3_28 : decode cX12_feed 28 = .ok (.if_icmp .le 11, 3) := by decide +kernel
theorem dX12_feed_3_39 : decode cX12_feed 39 = .ok (.iload_n 3, 1) := by decide +kernel
theorem dX12_feed_3_40 : decode cX12_feed 40 = .ok (.iconst 1, 1) := by decide +kernel
theorem dX12_feed_3_41 : decode cX12_feed 41 = .ok (.isub, 1) := by decide +kernel
theorem dX12_feed_3_42 : decode cX12_feed 42 = .ok (.istore 4, 2) := by decide +kernel
theorem dX12_feed_3_44 : decode cX12_feed 44 = .ok (.iload 4, 2) := by decide +kernel
theorem dX12_feed_3_46 : decode cX12_feed 46 = .ok (.ifCond .lt 37, 3) := by decide +kernel
theorem dX12_feed_3_49 : decode cX12_feed 49 = .ok (.aload_n 0, 1) := by decide +kernel
theorem dX12_feed_3_50 : decode cX12_feed 50 = .ok (.getfield 9, 3) := by decide +kernel
theorem dX12_feed_3_53 : decode cX12_feed 53 = .ok (.aload_n 0, 1) := by decide +kernel
theorem dX12_feed_3_54 : decode cX12_feed 54 = .ok (.getfield 13, 3) := by decide +kernel
theorem dX12_feed_3_57 : decode cX12_feed 57 = .ok (.lload_n 1, 1) := by decide +kernel
theorem dX12_feed_3_58 : decode cX12_feed 58 = .ok (.bipush 8, 2) := by decide +kernel
theorem dX12_feed_3_60 : decode cX12_feed 60 = .ok (.iload 4, 2) := by decide +kernel
theorem dX12_feed_3_62 : decode cX12_feed 62 = .ok (.imul, 1) := by decide +kernel
theorem dX12_feed_3_63 : decode cX12_feed 63 = .ok (.lushr, 1) := by decide +kernel
theorem dX12_feed_3_64 : decode cX12_feed 64 = .ok (.l2i, 1) := by decide +kernel
theorem dX12_feed_3_65 : decode cX12_feed 65 = .ok (.i2b, 1) := by decide +kernel
theorem dX12_feed_3_66 : decode cX12_feed 66 = .ok (.bastore, 1) := by decide +kernel
theorem dX12_feed_3_67 : decode cX12_feed 67 = .ok (.aload_n 0, 1) := by decide +kernel
theorem dX12_feed_3_68 : decode cX12_feed 68 = .ok (.dup, 1) := by decide +kernel
theorem dX12_feed_3_69 : decode cX12_feed 69 = .ok (.getfield 13, 3) := by decide +kernel
theorem dX12_feed_3_72 : decode cX12_feed 72 = .ok (.iconst 1, 1) := by decide +kernel
theorem dX12_feed_3_73 : decode cX12_feed 73 = .ok (.iadd, 1) := by decide +kernel
theorem dX12_feed_3_74 : decode cX12_feed 74 = .ok (.putfield 13, 3) := by decide +kernel
theorem dX12_feed_3_77 : decode cX12_feed 77 = .ok (.iinc 4 (-1), 3) := by decide +kernel
theorem dX12_feed_3_80 : decode cX12_feed 80 = .ok (.goto (-36), 3) := by decide +kernel
theorem dX12_feed_3_83 : decode cX12_feed 83 = .ok (.aload_n 0, 1) := by decide +kernel
theorem dX12_feed_3_84 : decode cX12_feed 84 = .ok (.getfield 13, 3) := by decide +kernel
theorem dX12_feed_3_87 : decode cX12_feed 87 = .ok (.ireturn, 1) := by decide +kernel
def ww_X12_feed_3 : List Cond := [.fieldLink RX12 13 "StreamHouse" "tapeLength" "I", .fieldLink RX12 9 "StreamHouse" "tape" "[B"]
def wv_X12_feed_3 : List Cond := .code yX12_feed cX12_feed 5 (some .int) :: (ww_X12_feed_3 ++ (u_ws RX12 TX12 9 ++ []))
theorem wm_X12_feed_3 {w : Cond} (i : Nat) (h : ww_X12_feed_3[i]? = some w) : w ∈ wv_X12_feed_3 := List.mem_cons_of_mem _ (List.mem_append_left _ (List.mem_of_getElem? h))
set_option maxRecDepth 100000 in
theorem gw_X12_feed_3 : wv_X12_feed_3.all goodWord = true := by decide +kernel
theorem wh_X12_feed_3_X12 : ∀ w ∈ u_ws RX12 TX12 9, w ∈ wv_X12_feed_3 := fun w h => List.mem_cons_of_mem _ (List.mem_append_right _ (List.mem_append_left _ h))
set_option maxHeartbeats 4000000 in
set_option maxRecDepth 100000 in
/-- feed(g, 3) of a fresh house: 3 -/
theorem r_X12_feed_3 (l : Launch) (dC : Nat → ClassId) (dI : Nat → Nat → Nat) (h0 h1 : Nat) (g1 : Int64) (cB : ClassId) (f1 : Nat → Int32) (a2 a3 a4 a5 a6 a7 a8 : Value) (sz : Nat) : Met l yX12_feed wv_X12_feed_3 ({ frames := 0, cells := 0, slots := 0, locals := 0 }) (va_Pc [.ref h0, .long g1, .int 3] (fun U => U.heap.size = sz ∧ va_P (dC, dI) vwCl [(h0, .inr (12, [.ref h1, .int 0, a2, a3, a4, a5, a6, a7, a8])), (h1, .inl (cB, 1500, .inl f1))] U.heap ∧ va_K (dC, dI) vwCl [(cB, .byte)] U ∧ va_D (fun _ => True) [(h0, .inr (12, [.ref h1, .int 0, a2, a3, a4, a5, a6, a7, a8])), (h1, .inl (cB, 1500, .inl f1))])) (va_Qi (fun r (_ : Unit) => r = 3) (ar_X12_feed_3 dC dI (va_A [(h0, .inr (12, [.ref h1, .int 0, a2, a3, a4, a5, a6, a7, a8])), (h1, .inl (cB, 1500, .inl f1))] sz) h0 h1 g1 cB f1 a2 a3 a4 a5 a6 a7 a8) (va_A [(h0, .inr (12, [.ref h1, .int 0, a2, a3, a4, a5, a6, a7, a8])), (h1, .inl (cB, 1500, .inl f1))] sz)) 0 0 (va_A [(h0, .inr (12, [.ref h1, .int 0, a2, a3, a4, a5, a6, a7, a8])), (h1, .inl (cB, 1500, .inl f1))] sz) := by
  refine Met.ofW (cc := cX12_feed) (maxL := 5) (ret := (some .int)) (by decide) rfl ?_
  intro p e s m args below meth c s₁ B hml hv
  obtain ⟨rfl, hsz, hP, hK, hD0⟩ := hv
  have hx := B.exec
  have hb := B.bytes
  have hr := B.returns
  have hts := atoms_spec (ws := wv_X12_feed_3) B.pre
  have hown : s.vm.findClass RX12 = some m.cls := findClass_of_methodNamed B.named
  have hlocks := B.notSynchronized
  subst hsz
  have hD := hD0.self (sz := s.heap.size)
  generalize hAe : va_A [(h0, .inr (12, [.ref h1, .int 0, a2, a3, a4, a5, a6, a7, a8])), (h1, .inl (cB, 1500, .inl f1))] s.heap.size = A at hD ⊢
  have hA : ∀ q : Nat, s.heap.size ≤ q → A q := fun q h => by rw [← hAe]; exact Or.inr h
  have hS : va_S A s.heap s.heap [] := va_S.rf
  have hP : va_P (dC, dI) vwCl [(h0, .inr (12, [.ref h1, .int 0, a2, a3, a4, a5, a6, a7, a8])), (h1, .inl (cB, 1500, .inl f1))] s.heap := hP
  have hl := lv_entry ([.ref h0, .long g1, .int 3]) (n := 5) (Nat.le_of_ble_eq_true rfl)
  rw [lg_entry_eq]
  generalize (lg_sl ([.ref h0, .long g1, .int 3]) ++ List.replicate (5 - (lg_sl ([.ref h0, .long g1, .int 3])).length) Slot.unset).toArray = ls at hl ⊢
  have hl : lv_has ls 5 [(0, .ref h0), (1, .long g1), (3, .int 3)] := hl
  refine lv_iload_n hx hb dX12_feed_3_0 rfl (lv_at hl 2 rfl) ?_
  refine lv_iconst (v := 1) hx hb dX12_feed_3_1 (by decide) ?_
  refine lv_icmp_lt (tgt := 11) hx hb dX12_feed_3_2 (by decide) (fun h9 => absurd h9 (by decide)) (fun _ => ?_)
  refine lv_iload_n hx hb dX12_feed_3_5 rfl (lv_at hl 2 rfl) ?_
  refine lv_bipush (v := 8) hx hb dX12_feed_3_6 (by decide) ?_
  refine lv_icmp_le (tgt := 19) hx hb dX12_feed_3_8 (by decide) (fun _ => ?_) (fun h9 => absurd (by decide) h9)
  refine lv_aload_n hx hb dX12_feed_3_19 rfl (lv_at hl 0 rfl) ?_
  refine va_get (D := (dC, dI)) (ci := 12) (v := .int 0) (C := RX12) (T := TX12) (N := 9) hx hb hts wh_X12_feed_3_X12 hown hK hP 0 rfl rfl 1 (by decide) (hts (.fieldLink RX12 13 "StreamHouse" "tapeLength" "I") (wm_X12_feed_3 0 rfl)) (fun _ h9 => h9) rfl dX12_feed_3_20 ?_
  refine lv_iload_n hx hb dX12_feed_3_23 rfl (lv_at hl 2 rfl) ?_
  refine lv_iadd hx hb dX12_feed_3_24 ?_
  refine W.eq (g2 := F0 m 25 ls [.int 3]) rfl ?_
  refine lv_sipush (v := 1500) hx hb dX12_feed_3_25 (by decide) ?_
  refine lv_icmp_le (tgt := 39) hx hb dX12_feed_3_28 (by decide) (fun _ => ?_) (fun h9 => absurd (by decide) h9)
  refine lv_iload_n hx hb dX12_feed_3_39 rfl (lv_at hl 2 rfl) ?_
  refine lv_iconst (v := 1) hx hb dX12_feed_3_40 (by decide) ?_
  refine lv_isub hx hb dX12_feed_3_41 ?_
  refine W.eq (g2 := F0 m 42 ls [.int 2]) rfl ?_
  refine lv_istore (lv' := [(4, .int 2), (0, .ref h0), (1, .long g1), (3, .int 3)]) hx hb dX12_feed_3_42 hl (by decide) rfl (fun ls hl => ?_)
  refine lv_iload hx hb dX12_feed_3_44 (lv_at hl 0 rfl) ?_
  refine lv_if_lt (tgt := 83) hx hb dX12_feed_3_46 (by decide) (fun h9 => absurd h9 (by decide)) (fun _ => ?_)
  refine lv_aload_n hx hb dX12_feed_3_49 rfl (lv_at hl 1 rfl) ?_
  refine va_get (D := (dC, dI)) (ci := 12) (v := .ref h1) (C := RX12) (T := TX12) (N := 9) hx hb hts wh_X12_feed_3_X12 hown hK hP 0 rfl rfl 0 (by decide) (hts (.fieldLink RX12 9 "StreamHouse" "tape" "[B") (wm_X12_feed_3 1 rfl)) (fun _ h9 => h9) rfl dX12_feed_3_50 ?_
  refine lv_aload_n hx hb dX12_feed_3_53 rfl (lv_at hl 1 rfl) ?_
  refine va_get (D := (dC, dI)) (ci := 12) (v := .int 0) (C := RX12) (T := TX12) (N := 9) hx hb hts wh_X12_feed_3_X12 hown hK hP 0 rfl rfl 1 (by decide) (hts (.fieldLink RX12 13 "StreamHouse" "tapeLength" "I") (wm_X12_feed_3 0 rfl)) (fun _ h9 => h9) rfl dX12_feed_3_54 ?_
  refine lv_lload_n hx hb dX12_feed_3_57 rfl (lv_at hl 2 rfl) ?_
  refine lv_bipush (v := 8) hx hb dX12_feed_3_58 (by decide) ?_
  refine lv_iload hx hb dX12_feed_3_60 (lv_at hl 0 rfl) ?_
  refine lv_imul hx hb dX12_feed_3_62 ?_
  refine W.eq (g2 := F0 m 63 ls [.int 16, .long g1, .int 0, .ref h1]) rfl ?_
  refine lv_lushr (v := _) hx hb dX12_feed_3_63 rfl ?_
  refine lv_topl (fun y1 _ => ?_)
  refine lv_l2i (v := _) hx hb dX12_feed_3_64 rfl ?_
  refine lv_topi (fun y2 _ => ?_)
  refine lv_i2b (v := _) hx hb dX12_feed_3_65 rfl ?_
  refine lv_topi (fun y3 _ => ?_)
  refine va_bast hx hb hK hP hD hS 1 0 rfl rfl (by unfold vp_in; decide) dX12_feed_3_66 (fun H locs hP hD hS => ?_)
  have hP : va_P (dC, dI) vwCl [(h0, .inr (12, [.ref h1, .int 0, a2, a3, a4, a5, a6, a7, a8])), (h1, .inl (cB, 1500, .inl (upd f1 0 (vp_nar .byte y3))))] H := hP
  have hD : va_D A [(h0, .inr (12, [.ref h1, .int 0, a2, a3, a4, a5, a6, a7, a8])), (h1, .inl (cB, 1500, .inl (upd f1 0 (vp_nar .byte y3))))] := hD
  refine lv_aload_n hx hb dX12_feed_3_67 rfl (lv_at hl 1 rfl) ?_
  refine lv_dup hx hb dX12_feed_3_68 rfl ?_
  refine va_get (D := (dC, dI)) (ci := 12) (v := .int 0) (C := RX12) (T := TX12) (N := 9) hx hb hts wh_X12_feed_3_X12 hown hK hP 0 rfl rfl 1 (by decide) (hts (.fieldLink RX12 13 "StreamHouse" "tapeLength" "I") (wm_X12_feed_3 0 rfl)) (fun _ h9 => h9) rfl dX12_feed_3_69 ?_
  refine lv_iconst (v := 1) hx hb dX12_feed_3_72 (by decide) ?_
  refine lv_iadd hx hb dX12_feed_3_73 ?_
  refine W.eq (g2 := F0 m 74 ls [.int 1, .ref h0]) rfl ?_
  refine va_put (D := (dC, dI)) (ci := 12) (v := .int 1) (ty := .int) (C := RX12) (T := TX12) (N := 9) hx hb hts wh_X12_feed_3_X12 tyX12 tyX12_ok nmX12 hown hK hP hD hS 0 rfl rfl 1 (by decide) (hts (.fieldLink RX12 13 "StreamHouse" "tapeLength" "I") (wm_X12_feed_3 0 rfl)) (fun _ h9 => h9) rfl (by decide +kernel) rfl rfl (Nat.le_of_ble_eq_true rfl) dX12_feed_3_74 (fun H locs hP hD hS => ?_)
  have hP : va_P (dC, dI) vwCl [(h0, .inr (12, [.ref h1, .int 1, a2, a3, a4, a5, a6, a7, a8])), (h1, .inl (cB, 1500, .inl (upd f1 0 (vp_nar .byte y3))))] H := hP
  have hD : va_D A [(h0, .inr (12, [.ref h1, .int 1, a2, a3, a4, a5, a6, a7, a8])), (h1, .inl (cB, 1500, .inl (upd f1 0 (vp_nar .byte y3))))] := hD
  refine lv_iinc (k := 0) (v := 1) (lv' := [(4, .int 1), (0, .ref h0), (1, .long g1), (3, .int 3)]) hx hb dX12_feed_3_77 hl rfl (by decide) (by decide) rfl (fun ls hl => ?_)
  refine lv_goto (tgt := 44) hx hb dX12_feed_3_80 (by decide) ?_
  refine lv_iload hx hb dX12_feed_3_44 (lv_at hl 0 rfl) ?_
  refine lv_if_lt (tgt := 83) hx hb dX12_feed_3_46 (by decide) (fun h9 => absurd h9 (by decide)) (fun _ => ?_)
  refine lv_aload_n hx hb dX12_feed_3_49 rfl (lv_at hl 1 rfl) ?_
  refine va_get (D := (dC, dI)) (ci := 12) (v := .ref h1) (C := RX12) (T := TX12) (N := 9) hx hb hts wh_X12_feed_3_X12 hown hK hP 0 rfl rfl 0 (by decide) (hts (.fieldLink RX12 9 "StreamHouse" "tape" "[B") (wm_X12_feed_3 1 rfl)) (fun _ h9 => h9) rfl dX12_feed_3_50 ?_
  refine lv_aload_n hx hb dX12_feed_3_53 rfl (lv_at hl 1 rfl) ?_
  refine va_get (D := (dC, dI)) (ci := 12) (v := .int 1) (C := RX12) (T := TX12) (N := 9) hx hb hts wh_X12_feed_3_X12 hown hK hP 0 rfl rfl 1 (by decide) (hts (.fieldLink RX12 13 "StreamHouse" "tapeLength" "I") (wm_X12_feed_3 0 rfl)) (fun _ h9 => h9) rfl dX12_feed_3_54 ?_
  refine lv_lload_n hx hb dX12_feed_3_57 rfl (lv_at hl 2 rfl) ?_
  refine lv_bipush (v := 8) hx hb dX12_feed_3_58 (by decide) ?_
  refine lv_iload hx hb dX12_feed_3_60 (lv_at hl 0 rfl) ?_
  refine lv_imul hx hb dX12_feed_3_62 ?_
  refine W.eq (g2 := F0 m 63 ls [.int 8, .long g1, .int 1, .ref h1]) rfl ?_
  refine lv_lushr (v := _) hx hb dX12_feed_3_63 rfl ?_
  refine lv_topl (fun y4 _ => ?_)
  refine lv_l2i (v := _) hx hb dX12_feed_3_64 rfl ?_
  refine lv_topi (fun y5 _ => ?_)
  refine lv_i2b (v := _) hx hb dX12_feed_3_65 rfl ?_
  refine lv_topi (fun y6 _ => ?_)
  refine va_bast hx hb hK hP hD hS 1 0 rfl rfl (by unfold vp_in; decide) dX12_feed_3_66 (fun H locs hP hD hS => ?_)
  have hP : va_P (dC, dI) vwCl [(h0, .inr (12, [.ref h1, .int 1, a2, a3, a4, a5, a6, a7, a8])), (h1, .inl (cB, 1500, .inl (upd (upd f1 0 (vp_nar .byte y3)) 1 (vp_nar .byte y6))))] H := hP
  have hD : va_D A [(h0, .inr (12, [.ref h1, .int 1, a2, a3, a4, a5, a6, a7, a8])), (h1, .inl (cB, 1500, .inl (upd (upd f1 0 (vp_nar .byte y3)) 1 (vp_nar .byte y6))))] := hD
  refine lv_aload_n hx hb dX12_feed_3_67 rfl (lv_at hl 1 rfl) ?_
  refine lv_dup hx hb dX12_feed_3_68 rfl ?_
  refine va_get (D := (dC, dI)) (ci := 12) (v := .int 1) (C := RX12) (T := TX12) (N := 9) hx hb hts wh_X12_feed_3_X12 hown hK hP 0 rfl rfl 1 (by decide) (hts (.fieldLink RX12 13 "StreamHouse" "tapeLength" "I") (wm_X12_feed_3 0 rfl)) (fun _ h9 => h9) rfl dX12_feed_3_69 ?_
  refine lv_iconst (v := 1) hx hb dX12_feed_3_72 (by decide) ?_
  refine lv_iadd hx hb dX12_feed_3_73 ?_
  refine W.eq (g2 := F0 m 74 ls [.int 2, .ref h0]) rfl ?_
  refine va_put (D := (dC, dI)) (ci := 12) (v := .int 2) (ty := .int) (C := RX12) (T := TX12) (N := 9) hx hb hts wh_X12_feed_3_X12 tyX12 tyX12_ok nmX12 hown hK hP hD hS 0 rfl rfl 1 (by decide) (hts (.fieldLink RX12 13 "StreamHouse" "tapeLength" "I") (wm_X12_feed_3 0 rfl)) (fun _ h9 => h9) rfl (by decide +kernel) rfl rfl (Nat.le_of_ble_eq_true rfl) dX12_feed_3_74 (fun H locs hP hD hS => ?_)
  have hP : va_P (dC, dI) vwCl [(h0, .inr (12, [.ref h1, .int 2, a2, a3, a4, a5, a6, a7, a8])), (h1, .inl (cB, 1500, .inl (upd (upd f1 0 (vp_nar .byte y3)) 1 (vp_nar .byte y6))))] H := hP
  have hD : va_D A [(h0, .inr (12, [.ref h1, .int 2, a2, a3, a4, a5, a6, a7, a8])), (h1, .inl (cB, 1500, .inl (upd (upd f1 0 (vp_nar .byte y3)) 1 (vp_nar .byte y6))))] := hD
  refine lv_iinc (k := 0) (v := 0) (lv' := [(4, .int 0), (0, .ref h0), (1, .long g1), (3, .int 3)]) hx hb dX12_feed_3_77 hl rfl (by decide) (by decide) rfl (fun ls hl => ?_)
  refine lv_goto (tgt := 44) hx hb dX12_feed_3_80 (by decide) ?_
  refine lv_iload hx hb dX12_feed_3_44 (lv_at hl 0 rfl) ?_
  refine lv_if_lt (tgt := 83) hx hb dX12_feed_3_46 (by decide) (fun h9 => absurd h9 (by decide)) (fun _ => ?_)
  refine lv_aload_n hx hb dX12_feed_3_49 rfl (lv_at hl 1 rfl) ?_
  refine va_get (D := (dC, dI)) (ci := 12) (v := .ref h1) (C := RX12) (T := TX12) (N := 9) hx hb hts wh_X12_feed_3_X12 hown hK hP 0 rfl rfl 0 (by decide) (hts (.fieldLink RX12 9 "StreamHouse" "tape" "[B") (wm_X12_feed_3 1 rfl)) (fun _ h9 => h9) rfl dX12_feed_3_50 ?_
  refine lv_aload_n hx hb dX12_feed_3_53 rfl (lv_at hl 1 rfl) ?_
  refine va_get (D := (dC, dI)) (ci := 12) (v := .int 2) (C := RX12) (T := TX12) (N := 9) hx hb hts wh_X12_feed_3_X12 hown hK hP 0 rfl rfl 1 (by decide) (hts (.fieldLink RX12 13 "StreamHouse" "tapeLength" "I") (wm_X12_feed_3 0 rfl)) (fun _ h9 => h9) rfl dX12_feed_3_54 ?_
  refine lv_lload_n hx hb dX12_feed_3_57 rfl (lv_at hl 2 rfl) ?_
  refine lv_bipush (v := 8) hx hb dX12_feed_3_58 (by decide) ?_
  refine lv_iload hx hb dX12_feed_3_60 (lv_at hl 0 rfl) ?_
  refine lv_imul hx hb dX12_feed_3_62 ?_
  refine W.eq (g2 := F0 m 63 ls [.int 0, .long g1, .int 2, .ref h1]) rfl ?_
  refine lv_lushr (v := _) hx hb dX12_feed_3_63 rfl ?_
  refine lv_topl (fun y7 _ => ?_)
  refine lv_l2i (v := _) hx hb dX12_feed_3_64 rfl ?_
  refine lv_topi (fun y8 _ => ?_)
  refine lv_i2b (v := _) hx hb dX12_feed_3_65 rfl ?_
  refine lv_topi (fun y9 _ => ?_)
  refine va_bast hx hb hK hP hD hS 1 0 rfl rfl (by unfold vp_in; decide) dX12_feed_3_66 (fun H locs hP hD hS => ?_)
  have hP : va_P (dC, dI) vwCl [(h0, .inr (12, [.ref h1, .int 2, a2, a3, a4, a5, a6, a7, a8])), (h1, .inl (cB, 1500, .inl (upd (upd (upd f1 0 (vp_nar .byte y3)) 1 (vp_nar .byte y6)) 2 (vp_nar .byte y9))))] H := hP
  have hD : va_D A [(h0, .inr (12, [.ref h1, .int 2, a2, a3, a4, a5, a6, a7, a8])), (h1, .inl (cB, 1500, .inl (upd (upd (upd f1 0 (vp_nar .byte y3)) 1 (vp_nar .byte y6)) 2 (vp_nar .byte y9))))] := hD
  refine lv_aload_n hx hb dX12_feed_3_67 rfl (lv_at hl 1 rfl) ?_
  refine lv_dup hx hb dX12_feed_3_68 rfl ?_
  refine va_get (D := (dC, dI)) (ci := 12) (v := .int 2) (C := RX12) (T := TX12) (N := 9) hx hb hts wh_X12_feed_3_X12 hown hK hP 0 rfl rfl 1 (by decide) (hts (.fieldLink RX12 13 "StreamHouse" "tapeLength" "I") (wm_X12_feed_3 0 rfl)) (fun _ h9 => h9) rfl dX12_feed_3_69 ?_
  refine lv_iconst (v := 1) hx hb dX12_feed_3_72 (by decide) ?_
  refine lv_iadd hx hb dX12_feed_3_73 ?_
  refine W.eq (g2 := F0 m 74 ls [.int 3, .ref h0]) rfl ?_
  refine va_put (D := (dC, dI)) (ci := 12) (v := .int 3) (ty := .int) (C := RX12) (T := TX12) (N := 9) hx hb hts wh_X12_feed_3_X12 tyX12 tyX12_ok nmX12 hown hK hP hD hS 0 rfl rfl 1 (by decide) (hts (.fieldLink RX12 13 "StreamHouse" "tapeLength" "I") (wm_X12_feed_3 0 rfl)) (fun _ h9 => h9) rfl (by decide +kernel) rfl rfl (Nat.le_of_ble_eq_true rfl) dX12_feed_3_74 (fun H locs hP hD hS => ?_)
  have hP : va_P (dC, dI) vwCl [(h0, .inr (12, [.ref h1, .int 3, a2, a3, a4, a5, a6, a7, a8])), (h1, .inl (cB, 1500, .inl (upd (upd (upd f1 0 (vp_nar .byte y3)) 1 (vp_nar .byte y6)) 2 (vp_nar .byte y9))))] H := hP
  have hD : va_D A [(h0, .inr (12, [.ref h1, .int 3, a2, a3, a4, a5, a6, a7, a8])), (h1, .inl (cB, 1500, .inl (upd (upd (upd f1 0 (vp_nar .byte y3)) 1 (vp_nar .byte y6)) 2 (vp_nar .byte y9))))] := hD
  refine lv_iinc (k := 0) (v := (-1)) (lv' := [(4, .int ((-1))), (0, .ref h0), (1, .long g1), (3, .int 3)]) hx hb dX12_feed_3_77 hl rfl (by decide) (by decide) rfl (fun ls hl => ?_)
  refine lv_goto (tgt := 44) hx hb dX12_feed_3_80 (by decide) ?_
  refine lv_iload hx hb dX12_feed_3_44 (lv_at hl 0 rfl) ?_
  refine lv_if_lt (tgt := 83) hx hb dX12_feed_3_46 (by decide) (fun _ => ?_) (fun h9 => absurd (by decide) h9)
  refine lv_aload_n hx hb dX12_feed_3_83 rfl (lv_at hl 1 rfl) ?_
  refine va_get (D := (dC, dI)) (ci := 12) (v := .int 3) (C := RX12) (T := TX12) (N := 9) hx hb hts wh_X12_feed_3_X12 hown hK hP 0 rfl rfl 1 (by decide) (hts (.fieldLink RX12 13 "StreamHouse" "tapeLength" "I") (wm_X12_feed_3 0 rfl)) (fun _ h9 => h9) rfl dX12_feed_3_84 ?_
  have hP9 := hP.sub (ws' := [(h0, .inr (12, [.ref h1, .int 3, a2, a3, a4, a5, a6, a7, a8]))]) [0] rfl
  have hD9 := hD.sub (ws' := [(h0, .inr (12, [.ref h1, .int 3, a2, a3, a4, a5, a6, a7, a8]))]) [0] (by decide) rfl
  have hK9 := hK.sub (tys' := []) [] rfl
  refine W.widen (k := 0) (n := 0) (by decide) (by decide) ?_
  exact W.iret (v := 3) hx hb hr (fun t ht hW => ⟨⟨3, (), rfl, rfl, by rw [ht]; exact hP9, va_K.moved hW.alike hK9, hD9⟩, hS.F ht⟩) hS.2.2 dX12_feed_3_87

abbrev ar_X12_feed_4 (dC : Nat → ClassId) (dI : Nat → Nat → Nat) (A : Nat → Prop) (h0 h1 : Nat) (g1 : Int64) (cB : ClassId) (f1 : Nat → Int32) (a2 a3 a4 a5 a6 a7 a8 : Value) (_ : Unit) (t : State) : Prop := va_P (dC, dI) vwCl [(h0, .inr (12, [.ref h1, .int 4, a2, a3, a4, a5, a6, a7, a8]))] t.heap ∧ va_K (dC, dI) vwCl [] t ∧ va_D A [(h0, .inr (12, [.ref h1, .int 4, a2, a3, a4, a5, a6, a7, a8]))]
theorem dX12_feed_4_0 : decode cX12_feed 0 = .ok (.iload_n 3, 1) := by decide +kernel
theorem dX12_feed_4_1 : decode cX12_feed 1 = .ok (.iconst 1, 1) := by decide +kernel
theorem dX12_feed_4_2 : decode cX12_feed 2 = .ok (.if_icmp .lt 9, 3) := by decide +kernel
theorem dX12_feed_4_5 : decode cX12_feed 5 = .ok (.iload_n 3, 1) := by decide +kernel
theorem dX12_feed_4_6 : decode cX12_feed 6 = .ok (.bipush 8, 2) := by decide +kernel
theorem dX12_feed_4_8 : decode cX12_feed 8 = .ok (.if_icmp .le 11, 3) := by decide +kernel
theorem dX12_feed_4_19 : decode cX12_feed 19 = .ok (.aload_n 0, 1) := by decide +kernel
theorem dX12_feed_4_20 : decode cX12_feed 20 = .ok (.getfield 13, 3) := by decide +kernel
theorem dX12_feed_4_23 : decode cX12_feed 23 = .ok (.iload_n 3, 1) := by decide +kernel
theorem dX12_feed_4_24 : decode cX12_feed 24 = .ok (.iadd, 1) := by decide +kernel
theorem dX12_feed_4_25 : decode cX12_feed 25 = .ok (.sipush 1500, 3) := by decide +kernel
theorem dX12_feed_4_28 : decode cX12_feed 28 = .ok (.if_icmp .le 11, 3) := by decide +kernel
theorem dX12_feed_4_39 : decode cX12_feed 39 = .ok (.iload_n 3, 1) := by decide +kernel
theorem dX12_feed_4_40 : decode cX12_feed 40 = .ok (.iconst 1, 1) := by decide +kernel
theorem dX12_feed_4_41 : decode cX12_feed 41 = .ok (.isub, 1) := by decide +kernel
theorem dX12_feed_4_42 : decode cX12_feed 42 = .ok (.istore 4, 2) := by decide +kernel
theorem dX12_feed_4_44 : decode cX12_feed 44 = .ok (.iload 4, 2) := by decide +kernel
theorem dX12_feed_4_46 : decode cX12_feed 46 = .ok (.ifCond .lt 37, 3) := by decide +kernel
theorem dX12_feed_4_49 : decode cX12_feed 49 = .ok (.aload_n 0, 1) := by decide +kernel
theorem dX12_feed_4_50 : decode cX12_feed 50 = .ok (.getfield 9, 3) := by decide +kernel
theorem dX12_feed_4_53 : decode cX12_feed 53 = .ok (.aload_n 0, 1) := by decide +kernel
theorem dX12_feed_4_54 : decode cX12_feed 54 = .ok (.getfield 13, 3) := by decide +kernel
theorem dX12_feed_4_57 : decode cX12_feed 57 = .ok (.lload_n 1, 1) := by decide +kernel
theorem dX12_feed_4_58 : decode cX12_feed 58 = .ok (.bipush 8, 2) := by decide +kernel
theorem dX12_feed_4_60 : decode cX12_feed 60 = .ok (.iload 4, 2) := by decide +kernel
theorem dX12_feed_4_62 : decode cX12_feed 62 = .ok (.imul, 1) := by decide +kernel
theorem dX12_feed_4_63 : decode cX12_feed 63 = .ok (.lushr, 1) := by decide +kernel
theorem dX12_feed_4_64 : decode cX12_feed 64 = .ok (.l2i, 1) := by decide +kernel
theorem dX12_feed_4_65 : decode cX12_feed 65 = .ok (.i2b, 1) := by decide +kernel
theorem dX12_feed_4_66 : decode cX12_feed 66 = .ok (.bastore, 1) := by decide +kernel
theorem dX12_feed_4_67 : decode cX12_feed 67 = .ok (.aload_n 0, 1) := by decide +kernel
theorem dX12_feed_4_68 : decode cX12_feed 68 = .ok (.dup, 1) := by decide +kernel
theorem dX12_feed_4_69 : decode cX12_feed 69 = .ok (.getfield 13, 3) := by decide +kernel
theorem dX12_feed_4_72 : decode cX12_feed 72 = .ok (.iconst 1, 1) := by decide +kernel
theorem dX12_feed_4_73 : decode cX12_feed 73 = .ok (.iadd, 1) := by decide +kernel
theorem dX12_feed_4_74 : decode cX12_feed 74 = .ok (.putfield 13, 3) := by decide +kernel
theorem dX12_feed_4_77 : decode cX12_feed 77 = .ok (.iinc 4 (-1), 3) := by decide +kernel
theorem dX12_feed_4_80 : decode cX12_feed 80 = .ok (.goto (-36), 3) := by decide +kernel
theorem dX12_feed_4_83 : decode cX12_feed 83 = .ok (.aload_n 0, 1) := by decide +kernel
theorem dX12_feed_4_84 : decode cX12_feed 84 = .ok (.getfield 13, 3) := by decide +kernel
theorem dX12_feed_4_87 : decode cX12_feed 87 = .ok (.ireturn, 1) := by decide +kernel
def ww_X12_feed_4 : List Cond := [.fieldLink RX12 13 "StreamHouse" "tapeLength" "I", .fieldLink RX12 9 "StreamHouse" "tape" "[B"]
def wv_X12_feed_4 : List Cond := .code yX12_feed cX12_feed 5 (some .int) :: (ww_X12_feed_4 ++ (u_ws RX12 TX12 9 ++ []))
theorem wm_X12_feed_4 {w : Cond} (i : Nat) (h : ww_X12_feed_4[i]? = some w) : w ∈ wv_X12_feed_4 := List.mem_cons_of_mem _ (List.mem_append_left _ (List.mem_of_getElem? h))
set_option maxRecDepth 100000 in
theorem gw_X12_feed_4 : wv_X12_feed_4.all goodWord = true := by decide +kernel
theorem wh_X12_feed_4_X12 : ∀ w ∈ u_ws RX12 TX12 9, w ∈ wv_X12_feed_4 := fun w h => List.mem_cons_of_mem _ (List.mem_append_right _ (List.mem_append_left _ h))
set_option maxHeartbeats 4000000 in
set_option maxRecDepth 100000 in
/-- feed(g, 4) of a fresh house: 4 -/
theorem r_X12_feed_4 (l : Launch) (dC : Nat → ClassId) (dI : Nat → Nat → Nat) (h0 h1 : Nat) (g1 : Int64) (cB : ClassId) (f1 : Nat → Int32) (a2 a3 a4 a5 a6 a7 a8 : Value) (sz : Nat) : Met l yX12_feed wv_X12_feed_4 ({ frames := 0, cells := 0, slots := 0, locals := 0 }) (va_Pc [.ref h0, .long g1, .int 4] (fun U => U.heap.size = sz ∧ va_P (dC, dI) vwCl [(h0, .inr (12, [.ref h1, .int 0, a2, a3, a4, a5, a6, a7, a8])), (h1, .inl (cB, 1500, .inl f1))] U.heap ∧ va_K (dC, dI) vwCl [(cB, .byte)] U ∧ va_D (fun _ => True) [(h0, .inr (12, [.ref h1, .int 0, a2, a3, a4, a5, a6, a7, a8])), (h1, .inl (cB, 1500, .inl f1))])) (va_Qi (fun r (_ : Unit) => r = 4) (ar_X12_feed_4 dC dI (va_A [(h0, .inr (12, [.ref h1, .int 0, a2, a3, a4, a5, a6, a7, a8])), (h1, .inl (cB, 1500, .inl f1))] sz) h0 h1 g1 cB f1 a2 a3 a4 a5 a6 a7 a8) (va_A [(h0, .inr (12, [.ref h1, .int 0, a2, a3, a4, a5, a6, a7, a8])), (h1, .inl (cB, 1500, .inl f1))] sz)) 0 0 (va_A [(h0, .inr (12, [.ref h1, .int 0, a2, a3, a4, a5, a6, a7, a8])), (h1, .inl (cB, 1500, .inl f1))] sz) := by
  refine Met.ofW (cc := cX12_feed) (maxL := 5) (ret := (some .int)) (by decide) rfl ?_
  intro p e s m args below meth c s₁ B hml hv
  obtain ⟨rfl, hsz, hP, hK, hD0⟩ := hv
  have hx := B.exec
  have hb := B.bytes
  have hr := B.returns
  have hts := atoms_spec (ws := wv_X12_feed_4) B.pre
  have hown : s.vm.findClass RX12 = some m.cls := findClass_of_methodNamed B.named
  have hlocks := B.notSynchronized
  subst hsz
  have hD := hD0.self (sz := s.heap.size)
  generalize hAe : va_A [(h0, .inr (12, [.ref h1, .int 0, a2, a3, a4, a5, a6, a7, a8])), (h1, .inl (cB, 1500, .inl f1))] s.heap.size = A at hD ⊢
  have hA : ∀ q : Nat, s.heap.size ≤ q → A q := fun q h => by rw [← hAe]; exact Or.inr h
  have hS : va_S A s.heap s.heap [] := va_S.rf
  have hP : va_P (dC, dI) vwCl [(h0, .inr (12, [.ref h1, .int 0, a2, a3, a4, a5, a6, a7, a8])), (h1, .inl (cB, 1500, .inl f1))] s.heap := hP
  have hl := lv_entry ([.ref h0, .long g1, .int 4]) (n := 5) (Nat.le_of_ble_eq_true rfl)
  rw [lg_entry_eq]
  generalize (lg_sl ([.ref h0, .long g1, .int 4]) ++ List.replicate (5 - (lg_sl ([.ref h0, .long g1, .int 4])).length) Slot.unset).toArray = ls at hl ⊢
  have hl : lv_has ls 5 [(0, .ref h0), (1, .long g1), (3, .int 4)] := hl
  refine lv_iload_n hx hb dX12_feed_4_0 rfl (lv_at hl 2 rfl) ?_
  refine lv_iconst (v := 1) hx hb dX12_feed_4_1 (by decide) ?_
  refine lv_icmp_lt (tgt := 11) hx hb dX12_feed_4_2 (by decide) (fun h9 => absurd h9 (by decide)) (fun _ => ?_)
  refine lv_iload_n hx hb dX12_feed_4_5 rfl (lv_at hl 2 rfl) ?_
  refine lv_bipush (v := 8) hx hb dX12_feed_4_6 (by decide) ?_
  refine lv_icmp_le (tgt := 19) hx hb dX12_feed_4_8 (by decide) (fun _ => ?_) (fun h9 => absurd (by decide) h9)
  refine lv_aload_n hx hb dX12_feed_4_19 rfl (lv_at hl 0 rfl) ?_
  refine va_get (D := (dC, dI)) (ci := 12) (v := .int 0) (C := RX12) (T := TX12) (N := 9) hx hb hts wh_X12_feed_4_X12 hown hK hP 0 rfl rfl 1 (by decide) (hts (.fieldLink RX12 13 "StreamHouse" "tapeLength" "I") (wm_X12_feed_4 0 rfl)) (fun _ h9 => h9) rfl dX12_feed_4_20 ?_
  refine lv_iload_n hx hb dX12_feed_4_23 rfl (lv_at hl 2 rfl) ?_
  refine lv_iadd hx hb dX12_feed_4_24 ?_
  refine W.eq (g2 := F0 m 25 ls [.int 4]) rfl ?_
  refine lv_sipush (v := 1500) hx hb dX12_feed_4_25 (by decide) ?_
  refine lv_icmp_le (tgt := 39) hx hb dX12_feed_4_28 (by decide) (fun _ => ?_) (fun h9 => absurd (by decide) h9)
  refine lv_iload_n hx hb dX12_feed_4_39 rfl (lv_at hl 2 rfl) ?_
  refine lv_iconst (v := 1) hx hb dX12_feed_4_40 (by decide) ?_
  refine lv_isub hx hb dX12_feed_4_41 ?_
  refine W.eq (g2 := F0 m 42 ls [.int 3]) rfl ?_
  refine lv_istore (lv' := [(4, .int 3), (0, .ref h0), (1, .long g1), (3, .int 4)]) hx hb dX12_feed_4_42 hl (by decide) rfl (fun ls hl => ?_)
  refine lv_iload hx hb dX12_feed_4_44 (lv_at hl 0 rfl) ?_
  refine lv_if_lt (tgt := 83) hx hb dX12_feed_4_46 (by decide) (fun h9 => absurd h9 (by decide)) (fun _ => ?_)
  refine lv_aload_n hx hb dX12_feed_4_49 rfl (lv_at hl 1 rfl) ?_
  refine va_get (D := (dC, dI)) (ci := 12) (v := .ref h1) (C := RX12) (T := TX12) (N := 9) hx hb hts wh_X12_feed_4_X12 hown hK hP 0 rfl rfl 0 (by decide) (hts (.fieldLink RX12 9 "StreamHouse" "tape" "[B") (wm_X12_feed_4 1 rfl)) (fun _ h9 => h9) rfl dX12_feed_4_50 ?_
  refine lv_aload_n hx hb dX12_feed_4_53 rfl (lv_at hl 1 rfl) ?_
  refine va_get (D := (dC, dI)) (ci := 12) (v := .int 0) (C := RX12) (T := TX12) (N := 9) hx hb hts wh_X12_feed_4_X12 hown hK hP 0 rfl rfl 1 (by decide) (hts (.fieldLink RX12 13 "StreamHouse" "tapeLength" "I") (wm_X12_feed_4 0 rfl)) (fun _ h9 => h9) rfl dX12_feed_4_54 ?_
  refine lv_lload_n hx hb dX12_feed_4_57 rfl (lv_at hl 2 rfl) ?_
  refine lv_bipush (v := 8) hx hb dX12_feed_4_58 (by decide) ?_
  refine lv_iload hx hb dX12_feed_4_60 (lv_at hl 0 rfl) ?_
  refine lv_imul hx hb dX12_feed_4_62 ?_
  refine W.eq (g2 := F0 m 63 ls [.int 24, .long g1, .int 0, .ref h1]) rfl ?_
  refine lv_lushr (v := _) hx hb dX12_feed_4_63 rfl ?_
  refine lv_topl (fun y1 _ => ?_)
  refine lv_l2i (v := _) hx hb dX12_feed_4_64 rfl ?_
  refine lv_topi (fun y2 _ => ?_)
  refine lv_i2b (v := _) hx hb dX12_feed_4_65 rfl ?_
  refine lv_topi (fun y3 _ => ?_)
  refine va_bast hx hb hK hP hD hS 1 0 rfl rfl (by unfold vp_in; decide) dX12_feed_4_66 (fun H locs hP hD hS => ?_)
  have hP : va_P (dC, dI) vwCl [(h0, .inr (12, [.ref h1, .int 0, a2, a3, a4, a5, a6, a7, a8])), (h1, .inl (cB, 1500, .inl (upd f1 0 (vp_nar .byte y3))))] H := hP
  have hD : va_D A [(h0, .inr (12, [.ref h1, .int 0, a2, a3, a4, a5, a6, a7, a8])), (h1, .inl (cB, 1500, .inl (upd f1 0 (vp_nar .byte y3))))] := hD
  refine lv_aload_n hx hb dX12_feed_4_67 rfl (lv_at hl 1 rfl) ?_
  refine lv_dup hx hb dX12_feed_4_68 rfl ?_
  refine va_get (D := (dC, dI)) (ci := 12) (v := .int 0) (C := RX12) (T := TX12) (N := 9) hx hb hts wh_X12_feed_4_X12 hown hK hP 0 rfl rfl 1 (by decide) (hts (.fieldLink RX12 13 "StreamHouse" "tapeLength" "I") (wm_X12_feed_4 0 rfl)) (fun _ h9 => h9) rfl dX12_feed_4_69 ?_
  refine lv_iconst (v := 1) hx hb dX12_feed_4_72 (by decide) ?_
  refine lv_iadd hx hb dX12_feed_4_73 ?_
  refine W.eq (g2 := F0 m 74 ls [.int 1, .ref h0]) rfl ?_
  refine va_put (D := (dC, dI)) (ci := 12) (v := .int 1) (ty := .int) (C := RX12) (T := TX12) (N := 9) hx hb hts wh_X12_feed_4_X12 tyX12 tyX12_ok nmX12 hown hK hP hD hS 0 rfl rfl 1 (by decide) (hts (.fieldLink RX12 13 "StreamHouse" "tapeLength" "I") (wm_X12_feed_4 0 rfl)) (fun _ h9 => h9) rfl (by decide +kernel) rfl rfl (Nat.le_of_ble_eq_true rfl) dX12_feed_4_74 (fun H locs hP hD hS => ?_)
  have hP : va_P (dC, dI) vwCl [(h0, .inr (12, [.ref h1, .int 1, a2, a3, a4, a5, a6, a7, a8])), (h1, .inl (cB, 1500, .inl (upd f1 0 (vp_nar .byte y3))))] H := hP
  have hD : va_D A [(h0, .inr (12, [.ref h1, .int 1, a2, a3, a4, a5, a6, a7, a8])), (h1, .inl (cB, 1500, .inl (upd f1 0 (vp_nar .byte y3))))] := hD
  refine lv_iinc (k := 0) (v := 2) (lv' := [(4, .int 2), (0, .ref h0), (1, .long g1), (3, .int 4)]) hx hb dX12_feed_4_77 hl rfl (by decide) (by decide) rfl (fun ls hl => ?_)
  refine lv_goto (tgt := 44) hx hb dX12_feed_4_80 (by decide) ?_
  refine lv_iload hx hb dX12_feed_4_44 (lv_at hl 0 rfl) ?_
  refine lv_if_lt (tgt := 83) hx hb dX12_feed_4_46 (by decide) (fun h9 => absurd h9 (by decide)) (fun _ => ?_)
  refine lv_aload_n hx hb dX12_feed_4_49 rfl (lv_at hl 1 rfl) ?_
  refine va_get (D := (dC, dI)) (ci := 12) (v := .ref h1) (C := RX12) (T := TX12) (N := 9) hx hb hts wh_X12_feed_4_X12 hown hK hP 0 rfl rfl 0 (by decide) (hts (.fieldLink RX12 9 "StreamHouse" "tape" "[B") (wm_X12_feed_4 1 rfl)) (fun _ h9 => h9) rfl dX12_feed_4_50 ?_
  refine lv_aload_n hx hb dX12_feed_4_53 rfl (lv_at hl 1 rfl) ?_
  refine va_get (D := (dC, dI)) (ci := 12) (v := .int 1) (C := RX12) (T := TX12) (N := 9) hx hb hts wh_X12_feed_4_X12 hown hK hP 0 rfl rfl 1 (by decide) (hts (.fieldLink RX12 13 "StreamHouse" "tapeLength" "I") (wm_X12_feed_4 0 rfl)) (fun _ h9 => h9) rfl dX12_feed_4_54 ?_
  refine lv_lload_n hx hb dX12_feed_4_57 rfl (lv_at hl 2 rfl) ?_
  refine lv_bipush (v := 8) hx hb dX12_feed_4_58 (by decide) ?_
  refine lv_iload hx hb dX12_feed_4_60 (lv_at hl 0 rfl) ?_
  refine lv_imul hx hb dX12_feed_4_62 ?_
  refine W.eq (g2 := F0 m 63 ls [.int 16, .long g1, .int 1, .ref h1]) rfl ?_
  refine lv_lushr (v := _) hx hb dX12_feed_4_63 rfl ?_
  refine lv_topl (fun y4 _ => ?_)
  refine lv_l2i (v := _) hx hb dX12_feed_4_64 rfl ?_
  refine lv_topi (fun y5 _ => ?_)
  refine lv_i2b (v := _) hx hb dX12_feed_4_65 rfl ?_
  refine lv_topi (fun y6 _ => ?_)
  refine va_bast hx hb hK hP hD hS 1 0 rfl rfl (by unfold vp_in; decide) dX12_feed_4_66 (fun H locs hP hD hS => ?_)
  have hP : va_P (dC, dI) vwCl [(h0, .inr (12, [.ref h1, .int 1, a2, a3, a4, a5, a6, a7, a8])), (h1, .inl (cB, 1500, .inl (upd (upd f1 0 (vp_nar .byte y3)) 1 (vp_nar .byte y6))))] H := hP
  have hD : va_D A [(h0, .inr (12, [.ref h1, .int 1, a2, a3, a4, a5, a6, a7, a8])), (h1, .inl (cB, 1500, .inl (upd (upd f1 0 (vp_nar .byte y3)) 1 (vp_nar .byte y6))))] := hD
  refine lv_aload_n hx hb dX12_feed_4_67 rfl (lv_at hl 1 rfl) ?_
  refine lv_dup hx hb dX12_feed_4_68 rfl ?_
  refine va_get (D := (dC, dI)) (ci := 12) (v := .int 1) (C := RX12) (T := TX12) (N := 9) hx hb hts wh_X12_feed_4_X12 hown hK hP 0 rfl rfl 1 (by decide) (hts (.fieldLink RX12 13 "StreamHouse" "tapeLength" "I") (wm_X12_feed_4 0 rfl)) (fun _ h9 => h9) rfl dX12_feed_4_69 ?_
  refine lv_iconst (v := 1) hx hb dX12_feed_4_72 (by decide) ?_
  refine lv_iadd hx hb dX12_feed_4_73 ?_
  refine W.eq (g2 := F0 m 74 ls [.int 2, .ref h0]) rfl ?_
  refine va_put (D := (dC, dI)) (ci := 12) (v := .int 2) (ty := .int) (C := RX12) (T := TX12) (N := 9) hx hb hts wh_X12_feed_4_X12 tyX12 tyX12_ok nmX12 hown hK hP hD hS 0 rfl rfl 1 (by decide) (hts (.fieldLink RX12 13 "StreamHouse" "tapeLength" "I") (wm_X12_feed_4 0 rfl)) (fun _ h9 => h9) rfl (by decide +kernel) rfl rfl (Nat.le_of_ble_eq_true rfl) dX12_feed_4_74 (fun H locs hP hD hS => ?_)
  have hP : va_P (dC, dI) vwCl [(h0, .inr (12, [.ref h1, .int 2, a2, a3, a4, a5, a6, a7, a8])), (h1, .inl (cB, 1500, .inl (upd (upd f1 0 (vp_nar .byte y3)) 1 (vp_nar .byte y6))))] H := hP
  have hD : va_D A [(h0, .inr (12, [.ref h1, .int 2, a2, a3, a4, a5, a6, a7, a8])), (h1, .inl (cB, 1500, .inl (upd (upd f1 0 (vp_nar .byte y3)) 1 (vp_nar .byte y6))))] := hD
  refine lv_iinc (k := 0) (v := 1) (lv' := [(4, .int 1), (0, .ref h0), (1, .long g1), (3, .int 4)]) hx hb dX12_feed_4_77 hl rfl (by decide) (by decide) rfl (fun ls hl => ?_)
  refine lv_goto (tgt := 44) hx hb dX12_feed_4_80 (by decide) ?_
  refine lv_iload hx hb dX12_feed_4_44 (lv_at hl 0 rfl) ?_
  refine lv_if_lt (tgt := 83) hx hb dX12_feed_4_46 (by decide) (fun h9 => absurd h9 (by decide)) (fun _ => ?_)
  refine lv_aload_n hx hb dX12_feed_4_49 rfl (lv_at hl 1 rfl) ?_
  refine va_get (D := (dC, dI)) (ci := 12) (v := .ref h1) (C := RX12) (T := TX12) (N := 9) hx hb hts wh_X12_feed_4_X12 hown hK hP 0 rfl rfl 0 (by decide) (hts (.fieldLink RX12 9 "StreamHouse" "tape" "[B") (wm_X12_feed_4 1 rfl)) (fun _ h9 => h9) rfl dX12_feed_4_50 ?_
  refine lv_aload_n hx hb dX12_feed_4_53 rfl (lv_at hl 1 rfl) ?_
  refine va_get (D := (dC, dI)) (ci := 12) (v := .int 2) (C := RX12) (T := TX12) (N := 9) hx hb hts wh_X12_feed_4_X12 hown hK hP 0 rfl rfl 1 (by decide) (hts (.fieldLink RX12 13 "StreamHouse" "tapeLength" "I") (wm_X12_feed_4 0 rfl)) (fun _ h9 => h9) rfl dX12_feed_4_54 ?_
  refine lv_lload_n hx hb dX12_feed_4_57 rfl (lv_at hl 2 rfl) ?_
  refine lv_bipush (v := 8) hx hb dX12_feed_4_58 (by decide) ?_
  refine lv_iload hx hb dX12_feed_4_60 (lv_at hl 0 rfl) ?_
  refine lv_imul hx hb dX12_feed_4_62 ?_
  refine W.eq (g2 := F0 m 63 ls [.int 8, .long g1, .int 2, .ref h1]) rfl ?_
  refine lv_lushr (v := _) hx hb dX12_feed_4_63 rfl ?_
  refine lv_topl (fun y7 _ => ?_)
  refine lv_l2i (v := _) hx hb dX12_feed_4_64 rfl ?_
  refine lv_topi (fun y8 _ => ?_)
  refine lv_i2b (v := _) hx hb dX12_feed_4_65 rfl ?_
  refine lv_topi (fun y9 _ => ?_)
  refine va_bast hx hb hK hP hD hS 1 0 rfl rfl (by unfold vp_in; decide) dX12_feed_4_66 (fun H locs hP hD hS => ?_)
  have hP : va_P (dC, dI) vwCl [(h0, .inr (12, [.ref h1, .int 2, a2, a3, a4, a5, a6, a7, a8])), (h1, .inl (cB, 1500, .inl (upd (upd (upd f1 0 (vp_nar .byte y3)) 1 (vp_nar .byte y6)) 2 (vp_nar .byte y9))))] H := hP
  have hD : va_D A [(h0, .inr (12, [.ref h1, .int 2, a2, a3, a4, a5, a6, a7, a8])), (h1, .inl (cB, 1500, .inl (upd (upd (upd f1 0 (vp_nar .byte y3)) 1 (vp_nar .byte y6)) 2 (vp_nar .byte y9))))] := hD
  refine lv_aload_n hx hb dX12_feed_4_67 rfl (lv_at hl 1 rfl) ?_
  refine lv_dup hx hb dX12_feed_4_68 rfl ?_
  refine va_get (D := (dC, dI)) (ci := 12) (v := .int 2) (C := RX12) (T := TX12) (N := 9) hx hb hts wh_X12_feed_4_X12 hown hK hP 0 rfl rfl 1 (by decide) (hts (.fieldLink RX12 13 "StreamHouse" "tapeLength" "I") (wm_X12_feed_4 0 rfl)) (fun _ h9 => h9) rfl dX12_feed_4_69 ?_
  refine lv_iconst (v := 1) hx hb dX12_feed_4_72 (by decide) ?_
  refine lv_iadd hx hb dX12_feed_4_73 ?_
  refine W.eq (g2 := F0 m 74 ls [.int 3, .ref h0]) rfl ?_
  refine va_put (D := (dC, dI)) (ci := 12) (v := .int 3) (ty := .int) (C := RX12) (T := TX12) (N := 9) hx hb hts wh_X12_feed_4_X12 tyX12 tyX12_ok nmX12 hown hK hP hD hS 0 rfl rfl 1 (by decide) (hts (.fieldLink RX12 13 "StreamHouse" "tapeLength" "I") (wm_X12_feed_4 0 rfl)) (fun _ h9 => h9) rfl (by decide +kernel) rfl rfl (Nat.le_of_ble_eq_true rfl) dX12_feed_4_74 (fun H locs hP hD hS => ?_)
  have hP : va_P (dC, dI) vwCl [(h0, .inr (12, [.ref h1, .int 3, a2, a3, a4, a5, a6, a7, a8])), (h1, .inl (cB, 1500, .inl (upd (upd (upd f1 0 (vp_nar .byte y3)) 1 (vp_nar .byte y6)) 2 (vp_nar .byte y9))))] H := hP
  have hD : va_D A [(h0, .inr (12, [.ref h1, .int 3, a2, a3, a4, a5, a6, a7, a8])), (h1, .inl (cB, 1500, .inl (upd (upd (upd f1 0 (vp_nar .byte y3)) 1 (vp_nar .byte y6)) 2 (vp_nar .byte y9))))] := hD
  refine lv_iinc (k := 0) (v := 0) (lv' := [(4, .int 0), (0, .ref h0), (1, .long g1), (3, .int 4)]) hx hb dX12_feed_4_77 hl rfl (by decide) (by decide) rfl (fun ls hl => ?_)
  refine lv_goto (tgt := 44) hx hb dX12_feed_4_80 (by decide) ?_
  refine lv_iload hx hb dX12_feed_4_44 (lv_at hl 0 rfl) ?_
  refine lv_if_lt (tgt := 83) hx hb dX12_feed_4_46 (by decide) (fun h9 => absurd h9 (by decide)) (fun _ => ?_)
  refine lv_aload_n hx hb dX12_feed_4_49 rfl (lv_at hl 1 rfl) ?_
  refine va_get (D := (dC, dI)) (ci := 12) (v := .ref h1) (C := RX12) (T := TX12) (N := 9) hx hb hts wh_X12_feed_4_X12 hown hK hP 0 rfl rfl 0 (by decide) (hts (.fieldLink RX12 9 "StreamHouse" "tape" "[B") (wm_X12_feed_4 1 rfl)) (fun _ h9 => h9) rfl dX12_feed_4_50 ?_
  refine lv_aload_n hx hb dX12_feed_4_53 rfl (lv_at hl 1 rfl) ?_
  refine va_get (D := (dC, dI)) (ci := 12) (v := .int 3) (C := RX12) (T := TX12) (N := 9) hx hb hts wh_X12_feed_4_X12 hown hK hP 0 rfl rfl 1 (by decide) (hts (.fieldLink RX12 13 "StreamHouse" "tapeLength" "I") (wm_X12_feed_4 0 rfl)) (fun _ h9 => h9) rfl dX12_feed_4_54 ?_
  refine lv_lload_n hx hb dX12_feed_4_57 rfl (lv_at hl 2 rfl) ?_
  refine lv_bipush (v := 8) hx hb dX12_feed_4_58 (by decide) ?_
  refine lv_iload hx hb dX12_feed_4_60 (lv_at hl 0 rfl) ?_
  refine lv_imul hx hb dX12_feed_4_62 ?_
  refine W.eq (g2 := F0 m 63 ls [.int 0, .long g1, .int 3, .ref h1]) rfl ?_
  refine lv_lushr (v := _) hx hb dX12_feed_4_63 rfl ?_
  refine lv_topl (fun y10 _ => ?_)
  refine lv_l2i (v := _) hx hb dX12_feed_4_64 rfl ?_
  refine lv_topi (fun y11 _ => ?_)
  refine lv_i2b (v := _) hx hb dX12_feed_4_65 rfl ?_
  refine lv_topi (fun y12 _ => ?_)
  refine va_bast hx hb hK hP hD hS 1 0 rfl rfl (by unfold vp_in; decide) dX12_feed_4_66 (fun H locs hP hD hS => ?_)
  have hP : va_P (dC, dI) vwCl [(h0, .inr (12, [.ref h1, .int 3, a2, a3, a4, a5, a6, a7, a8])), (h1, .inl (cB, 1500, .inl (upd (upd (upd (upd f1 0 (vp_nar .byte y3)) 1 (vp_nar .byte y6)) 2 (vp_nar .byte y9)) 3 (vp_nar .byte y12))))] H := hP
  have hD : va_D A [(h0, .inr (12, [.ref h1, .int 3, a2, a3, a4, a5, a6, a7, a8])), (h1, .inl (cB, 1500, .inl (upd (upd (upd (upd f1 0 (vp_nar .byte y3)) 1 (vp_nar .byte y6)) 2 (vp_nar .byte y9)) 3 (vp_nar .byte y12))))] := hD
  refine lv_aload_n hx hb dX12_feed_4_67 rfl (lv_at hl 1 rfl) ?_
  refine lv_dup hx hb dX12_feed_4_68 rfl ?_
  refine va_get (D := (dC, dI)) (ci := 12) (v := .int 3) (C := RX12) (T := TX12) (N := 9) hx hb hts wh_X12_feed_4_X12 hown hK hP 0 rfl rfl 1 (by decide) (hts (.fieldLink RX12 13 "StreamHouse" "tapeLength" "I") (wm_X12_feed_4 0 rfl)) (fun _ h9 => h9) rfl dX12_feed_4_69 ?_
  refine lv_iconst (v := 1) hx hb dX12_feed_4_72 (by decide) ?_
  refine lv_iadd hx hb dX12_feed_4_73 ?_
  refine W.eq (g2 := F0 m 74 ls [.int 4, .ref h0]) rfl ?_
  refine va_put (D := (dC, dI)) (ci := 12) (v := .int 4) (ty := .int) (C := RX12) (T := TX12) (N := 9) hx hb hts wh_X12_feed_4_X12 tyX12 tyX12_ok nmX12 hown hK hP hD hS 0 rfl rfl 1 (by decide) (hts (.fieldLink RX12 13 "StreamHouse" "tapeLength" "I") (wm_X12_feed_4 0 rfl)) (fun _ h9 => h9) rfl (by decide +kernel) rfl rfl (Nat.le_of_ble_eq_true rfl) dX12_feed_4_74 (fun H locs hP hD hS => ?_)
  have hP : va_P (dC, dI) vwCl [(h0, .inr (12, [.ref h1, .int 4, a2, a3, a4, a5, a6, a7, a8])), (h1, .inl (cB, 1500, .inl (upd (upd (upd (upd f1 0 (vp_nar .byte y3)) 1 (vp_nar .byte y6)) 2 (vp_nar .byte y9)) 3 (vp_nar .byte y12))))] H := hP
  have hD : va_D A [(h0, .inr (12, [.ref h1, .int 4, a2, a3, a4, a5, a6, a7, a8])), (h1, .inl (cB, 1500, .inl (upd (upd (upd (upd f1 0 (vp_nar .byte y3)) 1 (vp_nar .byte y6)) 2 (vp_nar .byte y9)) 3 (vp_nar .byte y12))))] := hD
  refine lv_iinc (k := 0) (v := (-1)) (lv' := [(4, .int ((-1))), (0, .ref h0), (1, .long g1), (3, .int 4)]) hx hb dX12_feed_4_77 hl rfl (by decide) (by decide) rfl (fun ls hl => ?_)
  refine lv_goto (tgt := 44) hx hb dX12_feed_4_80 (by decide) ?_
  refine lv_iload hx hb dX12_feed_4_44 (lv_at hl 0 rfl) ?_
  refine lv_if_lt (tgt := 83) hx hb dX12_feed_4_46 (by decide) (fun _ => ?_) (fun h9 => absurd (by decide) h9)
  refine lv_aload_n hx hb dX12_feed_4_83 rfl (lv_at hl 1 rfl) ?_
  refine va_get (D := (dC, dI)) (ci := 12) (v := .int 4) (C := RX12) (T := TX12) (N := 9) hx hb hts wh_X12_feed_4_X12 hown hK hP 0 rfl rfl 1 (by decide) (hts (.fieldLink RX12 13 "StreamHouse" "tapeLength" "I") (wm_X12_feed_4 0 rfl)) (fun _ h9 => h9) rfl dX12_feed_4_84 ?_
  have hP9 := hP.sub (ws' := [(h0, .inr (12, [.ref h1, .int 4, a2, a3, a4, a5, a6, a7, a8]))]) [0] rfl
  have hD9 := hD.sub (ws' := [(h0, .inr (12, [.ref h1, .int 4, a2, a3, a4, a5, a6, a7, a8]))]) [0] (by decide) rfl
  have hK9 := hK.sub (tys' := []) [] rfl
  refine W.widen (k := 0) (n := 0) (by decide) (by decide) ?_
  exact W.iret (v := 4) hx hb hr (fun t ht hW => ⟨⟨4, (), rfl, rfl, by rw [ht]; exact hP9, va_K.moved hW.alike hK9, hD9⟩, hS.F ht⟩) hS.2.2 dX12_feed_4_87

abbrev ar_X12_feed_5 (dC : Nat → ClassId) (dI : Nat → Nat → Nat) (A : Nat → Prop) (h0 h1 : Nat) (g1 : Int64) (cB : ClassId) (f1 : Nat → Int32) (a2 a3 a4 a5 a6 a7 a8 : Value) (_ : Unit) (t : State) : Prop := va_P (dC, dI) vwCl [(h0, .inr (12, [.ref h1, .int 5, a2, a3, a4, a5, a6, a7, a8]))] t.heap ∧ va_K (dC, dI) vwCl [] t ∧ va_D A [(h0, .inr (12, [.ref h1, .int 5, a2, a3, a4, a5, a6, a7, a8]))]
theorem dX12_feed_5_0 : decode cX12_feed 0 = .ok (.iload_n 3, 1) := by decide +kernel
theorem dX12_feed_5_1 : decode cX12_feed 1 = .ok (.iconst 1, 1) := by decide +kernel
theorem dX12_feed_5_2 : decode cX12_feed 2 = .ok (.if_icmp .lt 9, 3) := by decide +kernel
theorem dX12_feed_5_5 : decode cX12_feed 5 = .ok (.iload_n 3, 1) := by decide +kernel
theorem dX12_feed_5_6 : decode cX12_feed 6 = .ok (.bipush 8, 2) := by decide +kernel
theorem dX12_feed_5_8 : decode cX12_feed 8 = .ok (.if_icmp .le 11, 3) := by decide +kernel
theorem dX12_feed_5_19 : decode cX12_feed 19 = .ok (.aload_n 0, 1) := by decide +kernel
theorem dX12_feed_5_20 : decode cX12_feed 20 = .ok (.getfield 13, 3) := by decide +kernel
theorem dX12_feed_5_23 : decode cX12_feed 23 = .ok (.iload_n 3, 1) := by decide +kernel
theorem dX12_feed_5_24 : decode cX12_feed 24 = .ok (.iadd, 1) := by decide +kernel
theorem dX12_feed_5_25 : decode cX12_feed 25 = .ok (.sipush 1500, 3) := by decide +kernel
theorem dX12_feed_5_28 : decode cX12_feed 28 = .ok (.if_icmp .le 11, 3) := by decide +kernel
theorem dX12_feed_5_39 : decode cX12_feed 39 = .ok (.iload_n 3, 1) := by decide +kernel
theorem dX12_feed_5_40 : decode cX12_feed 40 = .ok (.iconst 1, 1) := by decide +kernel
theorem dX12_feed_5_41 : decode cX12_feed 41 = .ok (.isub, 1) := by decide +kernel
theorem dX12_feed_5_42 : decode cX12_feed 42 = .ok (.istore 4, 2) := by decide +kernel
theorem dX12_feed_5_44 : decode cX12_feed 44 = .ok (.iload 4, 2) := by decide +kernel
theorem dX12_feed_5_46 : decode cX12_feed 46 = .ok (.ifCond .lt 37, 3) := by decide +kernel
theorem dX12_feed_5_49 : decode cX12_feed 49 = .ok (.aload_n 0, 1) := by decide +kernel
theorem dX12_feed_5_50 : decode cX12_feed 50 = .ok (.getfield 9, 3) := by decide +kernel
theorem dX12_feed_5_53 : decode cX12_feed 53 = .ok (.aload_n 0, 1) := by decide +kernel
theorem dX12_feed_5_54 : decode cX12_feed 54 = .ok (.getfield 13, 3) := by decide +kernel
theorem dX12_feed_5_57 : decode cX12_feed 57 = .ok (.lload_n 1, 1) := by decide +kernel
theorem dX12_feed_5_58 : decode cX12_feed 58 = .ok (.bipush 8, 2) := by decide +kernel
theorem dX12_feed_5_60 : decode cX12_feed 60 = .ok (.iload 4, 2) := by decide +kernel
theorem dX12_feed_5_62 : decode cX12_feed 62 = .ok (.imul, 1) := by decide +kernel
theorem dX12_feed_5_63 : decode cX12_feed 63 = .ok (.lushr, 1) := by decide +kernel
theorem dX12_feed_5_64 : decode cX12_feed 64 = .ok (.l2i, 1) := by decide +kernel
theorem dX12_feed_5_65 : decode cX12_feed 65 = .ok (.i2b, 1) := by decide +kernel
theorem dX12_feed_5_66 : decode cX12_feed 66 = .ok (.bastore, 1) := by decide +kernel
theorem dX12_feed_5_67 : decode cX12_feed 67 = .ok (.aload_n 0, 1) := by decide +kernel
theorem dX12_feed_5_68 : decode cX12_feed 68 = .ok (.dup, 1) := by decide +kernel
theorem dX12_feed_5_69 : decode cX12_feed 69 = .ok (.getfield 13, 3) := by decide +kernel
theorem dX12_feed_5_72 : decode cX12_feed 72 = .ok (.iconst 1, 1) := by decide +kernel
theorem dX12_feed_5_73 : decode cX12_feed 73 = .ok (.iadd, 1) := by decide +kernel
theorem dX12_feed_5_74 : decode cX12_feed 74 = .ok (.putfield 13, 3) := by decide +kernel
theorem dX12_feed_5_77 : decode cX12_feed 77 = .ok (.iinc 4 (-1), 3) := by decide +kernel
theorem dX12_feed_5_80 : decode cX12_feed 80 = .ok (.goto (-36), 3) := by decide +kernel
theorem dX12_feed_5_83 : decode cX12_feed 83 = .ok (.aload_n 0, 1) := by decide +kernel
theorem dX12_feed_5_84 : decode cX12_feed 84 = .ok (.getfield 13, 3) := by decide +kernel
theorem dX12_feed_5_87 : decode cX12_feed 87 = .ok (.ireturn, 1) := by decide +kernel
def ww_X12_feed_5 : List Cond := [.fieldLink RX12 13 "StreamHouse" "tapeLength" "I", .fieldLink RX12 9 "StreamHouse" "tape" "[B"]
def wv_X12_feed_5 : List Cond := .code yX12_feed cX12_feed 5 (some .int) :: (ww_X12_feed_5 ++ (u_ws RX12 TX12 9 ++ []))
theorem wm_X12_feed_5 {w : Cond} (i : Nat) (h : ww_X12_feed_5[i]? = some w) : w ∈ wv_X12_feed_5 := List.mem_cons_of_mem _ (List.mem_append_left _ (List.mem_of_getElem? h))
set_option maxRecDepth 100000 in
theorem gw_X12_feed_5 : wv_X12_feed_5.all goodWord = true := by decide +kernel
theorem wh_X12_feed_5_X12 : ∀ w ∈ u_ws RX12 TX12 9, w ∈ wv_X12_feed_5 := fun w h => List.mem_cons_of_mem _ (List.mem_append_right _ (List.mem_append_left _ h))
set_option maxHeartbeats 4000000 in
set_option maxRecDepth 100000 in
/-- feed(g, 5) of a fresh house: 5 -/
theorem r_X12_feed_5 (l : Launch) (dC : Nat → ClassId) (dI : Nat → Nat → Nat) (h0 h1 : Nat) (g1 : Int64) (cB : ClassId) (f1 : Nat → Int32) (a2 a3 a4 a5 a6 a7 a8 : Value) (sz : Nat) : Met l yX12_feed wv_X12_feed_5 ({ frames := 0, cells := 0, slots := 0, locals := 0 }) (va_Pc [.ref h0, .long g1, .int 5] (fun U => U.heap.size = sz ∧ va_P (dC, dI) vwCl [(h0, .inr (12, [.ref h1, .int 0, a2, a3, a4, a5, a6, a7, a8])), (h1, .inl (cB, 1500, .inl f1))] U.heap ∧ va_K (dC, dI) vwCl [(cB, .byte)] U ∧ va_D (fun _ => True) [(h0, .inr (12, [.ref h1, .int 0, a2, a3, a4, a5, a6, a7, a8])), (h1, .inl (cB, 1500, .inl f1))])) (va_Qi (fun r (_ : Unit) => r = 5) (ar_X12_feed_5 dC dI (va_A [(h0, .inr (12, [.ref h1, .int 0, a2, a3, a4, a5, a6, a7, a8])), (h1, .inl (cB, 1500, .inl f1))] sz) h0 h1 g1 cB f1 a2 a3 a4 a5 a6 a7 a8) (va_A [(h0, .inr (12, [.ref h1, .int 0, a2, a3, a4, a5, a6, a7, a8])), (h1, .inl (cB, 1500, .inl f1))] sz)) 0 0 (va_A [(h0, .inr (12, [.ref h1, .int 0, a2, a3, a4, a5, a6, a7, a8])), (h1, .inl (cB, 1500, .inl f1))] sz) := by
  refine Met.ofW (cc := cX12_feed) (maxL := 5) (ret := (some .int)) (by decide) rfl ?_
  intro p e s m args below meth c s₁ B hml hv
  obtain ⟨rfl, hsz, hP, hK, hD0⟩ := hv
  have hx := B.exec
  have hb := B.bytes
  have hr := B.returns
  have hts := atoms_spec (ws := wv_X12_feed_5) B.pre
  have hown : s.vm.findClass RX12 = some m.cls := findClass_of_methodNamed B.named
  have hlocks := B.notSynchronized
  subst hsz
  have hD := hD0.self (sz := s.heap.size)
  generalize hAe : va_A [(h0, .inr (12, [.ref h1, .int 0, a2, a3, a4, a5, a6, a7, a8])), (h1, .inl (cB, 1500, .inl f1))] s.heap.size = A at hD ⊢
  have hA : ∀ q : Nat, s.heap.size ≤ q → A q := fun q h => by rw [← hAe]; exact Or.inr h
  have hS : va_S A s.heap s.heap [] := va_S.rf
  have hP : va_P (dC, dI) vwCl [(h0, .inr (12, [.ref h1, .int 0, a2, a3, a4, a5, a6, a7, a8])), (h1, .inl (cB, 1500, .inl f1))] s.heap := hP
  have hl := lv_entry ([.ref h0, .long g1, .int 5]) (n := 5) (Nat.le_of_ble_eq_true rfl)
  rw [lg_entry_eq]
  generalize (lg_sl ([.ref h0, .long g1, .int 5]) ++ List.replicate (5 - (lg_sl ([.ref h0, .long g1, .int 5])).length) Slot.unset).toArray = ls at hl ⊢
  have hl : lv_has ls 5 [(0, .ref h0), (1, .long g1), (3, .int 5)] := hl
  refine lv_iload_n hx hb dX12_feed_5_0 rfl (lv_at hl 2 rfl) ?_
  refine lv_iconst (v := 1) hx hb dX12_feed_5_1 (by decide) ?_
  refine lv_icmp_lt (tgt := 11) hx hb dX12_feed_5_2 (by decide) (fun h9 => absurd h9 (by decide)) (fun _ => ?_)
  refine lv_iload_n hx hb dX12_feed_5_5 rfl (lv_at hl 2 rfl) ?_
  refine lv_bipush (v := 8) hx hb dX12_feed_5_6 (by decide) ?_
  refine lv_icmp_le (tgt := 19) hx hb dX12_feed_5_8 (by decide) (fun _ => ?_) (fun h9 => absurd (by decide) h9)
  refine lv_aload_n hx hb dX12_feed_5_19 rfl (lv_at hl 0 rfl) ?_
  refine va_get (D := (dC, dI)) (ci := 12) (v := .int 0) (C := RX12) (T := TX12) (N := 9) hx hb hts wh_X12_feed_5_X12 hown hK hP 0 rfl rfl 1 (by decide) (hts (.fieldLink RX12 13 "StreamHouse" "tapeLength" "I") (wm_X12_feed_5 0 rfl)) (fun _ h9 => h9) rfl dX12_feed_5_20 ?_
  refine lv_iload_n hx hb dX12_feed_5_23 rfl (lv_at hl 2 rfl) ?_
  refine lv_iadd hx hb dX12_feed_5_24 ?_
  refine W.eq (g2 := F0 m 25 ls [.int 5]) rfl ?_
  refine lv_sipush (v := 1500) hx hb dX12_feed_5_25 (by decide) ?_
  refine lv_icmp_le (tgt := 39) hx hb dX12_feed_5_28 (by decide) (fun _ => ?_) (fun h9 => absurd (by decide) h9)
  refine lv_iload_n hx hb dX12_feed_5_39 rfl (lv_at hl 2 rfl) ?_
  refine lv_iconst (v := 1) hx hb dX12_feed_5_40 (by decide) ?_
  refine lv_isub hx hb dX12_feed_5_41 ?_
  refine W.eq (g2 := F0 m 42 ls [.int 4]) rfl ?_
  refine lv_istore (lv' := [(4, .int 4), (0, .ref h0), (1, .long g1), (3, .int 5)]) hx hb dX12_feed_5_42 hl (by decide) rfl (fun ls hl => ?_)
  refine lv_iload hx hb dX12_feed_5_44 (lv_at hl 0 rfl) ?_
  refine lv_if_lt (tgt := 83) hx hb dX12_feed_5_46 (by decide) (fun h9 => absurd h9 (by decide)) (fun _ => ?_)
  refine lv_aload_n hx hb dX12_feed_5_49 rfl (lv_at hl 1 rfl) ?_
  refine va_get (D := (dC, dI)) (ci := 12) (v := .ref h1) (C := RX12) (T := TX12) (N := 9) hx hb hts wh_X12_feed_5_X12 hown hK hP 0 rfl rfl 0 (by decide) (hts (.fieldLink RX12 9 "StreamHouse" "tape" "[B") (wm_X12_feed_5 1 rfl)) (fun _ h9 => h9) rfl dX12_feed_5_50 ?_
  refine lv_aload_n hx hb dX12_feed_5_53 rfl (lv_at hl 1 rfl) ?_
  refine va_get (D := (dC, dI)) (ci := 12) (v := .int 0) (C := RX12) (T := TX12) (N := 9) hx hb hts wh_X12_feed_5_X12 hown hK hP 0 rfl rfl 1 (by decide) (hts (.fieldLink RX12 13 "StreamHouse" "tapeLength" "I") (wm_X12_feed_5 0 rfl)) (fun _ h9 => h9) rfl dX12_feed_5_54 ?_
  refine lv_lload_n hx hb dX12_feed_5_57 rfl (lv_at hl 2 rfl) ?_
  refine lv_bipush (v := 8) hx hb dX12_feed_5_58 (by decide) ?_
  refine lv_iload hx hb dX12_feed_5_60 (lv_at hl 0 rfl) ?_
  refine lv_imul hx hb dX12_feed_5_62 ?_
  refine W.eq (g2 := F0 m 63 ls [.int 32, .long g1, .int 0, .ref h1]) rfl ?_
  refine lv_lushr (v := _) hx hb dX12_feed_5_63 rfl ?_
  refine lv_topl (fun y1 _ => ?_)
  refine lv_l2i (v := _) hx hb dX12_feed_5_64 rfl ?_
  refine lv_topi (fun y2 _ => ?_)
  refine lv_i2b (v := _) hx hb dX12_feed_5_65 rfl ?_
  refine lv_topi (fun y3 _ => ?_)
  refine va_bast hx hb hK hP hD hS 1 0 rfl rfl (by unfold vp_in; decide) dX12_feed_5_66 (fun H locs hP hD hS => ?_)
  have hP : va_P (dC, dI) vwCl [(h0, .inr (12, [.ref h1, .int 0, a2, a3, a4, a5, a6, a7, a8])), (h1, .inl (cB, 1500, .inl (upd f1 0 (vp_nar .byte y3))))] H := hP
  have hD : va_D A [(h0, .inr (12, [.ref h1, .int 0, a2, a3, a4, a5, a6, a7, a8])), (h1, .inl (cB, 1500, .inl (upd f1 0 (vp_nar .byte y3))))] := hD
  refine lv_aload_n hx hb dX12_feed_5_67 rfl (lv_at hl 1 rfl) ?_
  refine lv_dup hx hb dX12_feed_5_68 rfl ?_
  refine va_get (D := (dC, dI)) (ci := 12) (v := .int 0) (C := RX12) (T := TX12) (N := 9) hx hb hts wh_X12_feed_5_X12 hown hK hP 0 rfl rfl 1 (by decide) (hts (.fieldLink RX12 13 "StreamHouse" "tapeLength" "I") (wm_X12_feed_5 0 rfl)) (fun _ h9 => h9) rfl dX12_feed_5_69 ?_
  refine lv_iconst (v := 1) hx hb dX12_feed_5_72 (by decide) ?_
  refine lv_iadd hx hb dX12_feed_5_73 ?_
  refine W.eq (g2 := F0 m 74 ls [.int 1, .ref h0]) rfl ?_
  refine va_put (D := (dC, dI)) (ci := 12) (v := .int 1) (ty := .int) (C := RX12) (T := TX12) (N := 9) hx hb hts wh_X12_feed_5_X12 tyX12 tyX12_ok nmX12 hown hK hP hD hS 0 rfl rfl 1 (by decide) (hts (.fieldLink RX12 13 "StreamHouse" "tapeLength" "I") (wm_X12_feed_5 0 rfl)) (fun _ h9 => h9) rfl (by decide +kernel) rfl rfl (Nat.le_of_ble_eq_true rfl) dX12_feed_5_74 (fun H locs hP hD hS => ?_)
  have hP : va_P (dC, dI) vwCl [(h0, .inr (12, [.ref h1, .int 1, a2, a3, a4, a5, a6, a7, a8])), (h1, .inl (cB, 1500, .inl (upd f1 0 (vp_nar .byte y3))))] H := hP
  have hD : va_D A [(h0, .inr (12, [.ref h1, .int 1, a2, a3, a4, a5, a6, a7, a8])), (h1, .inl (cB, 1500, .inl (upd f1 0 (vp_nar .byte y3))))] := hD
  refine lv_iinc (k := 0) (v := 3) (lv' := [(4, .int 3), (0, .ref h0), (1, .long g1), (3, .int 5)]) hx hb dX12_feed_5_77 hl rfl (by decide) (by decide) rfl (fun ls hl => ?_)
  refine lv_goto (tgt := 44) hx hb dX12_feed_5_80 (by decide) ?_
  refine lv_iload hx hb dX12_feed_5_44 (lv_at hl 0 rfl) ?_
  refine lv_if_lt (tgt := 83) hx hb dX12_feed_5_46 (by decide) (fun h9 => absurd h9 (by decide)) (fun _ => ?_)
  refine lv_aload_n hx hb dX12_feed_5_49 rfl (lv_at hl 1 rfl) ?_
  refine va_get (D := (dC, dI)) (ci := 12) (v := .ref h1) (C := RX12) (T := TX12) (N := 9) hx hb hts wh_X12_feed_5_X12 hown hK hP 0 rfl rfl 0 (by decide) (hts (.fieldLink RX12 9 "StreamHouse" "tape" "[B") (wm_X12_feed_5 1 rfl)) (fun _ h9 => h9) rfl dX12_feed_5_50 ?_
  refine lv_aload_n hx hb dX12_feed_5_53 rfl (lv_at hl 1 rfl) ?_
  refine va_get (D := (dC, dI)) (ci := 12) (v := .int 1) (C := RX12) (T := TX12) (N := 9) hx hb hts wh_X12_feed_5_X12 hown hK hP 0 rfl rfl 1 (by decide) (hts (.fieldLink RX12 13 "StreamHouse" "tapeLength" "I") (wm_X12_feed_5 0 rfl)) (fun _ h9 => h9) rfl dX12_feed_5_54 ?_
  refine lv_lload_n hx hb dX12_feed_5_57 rfl (lv_at hl 2 rfl) ?_
  refine lv_bipush (v := 8) hx hb dX12_feed_5_58 (by decide) ?_
  refine lv_iload hx hb dX12_feed_5_60 (lv_at hl 0 rfl) ?_
  refine lv_imul hx hb dX12_feed_5_62 ?_
  refine W.eq (g2 := F0 m 63 ls [.int 24, .long g1, .int 1, .ref h1]) rfl ?_
  refine lv_lushr (v := _) hx hb dX12_feed_5_63 rfl ?_
  refine lv_topl (fun y4 _ => ?_)
  refine lv_l2i (v := _) hx hb dX12_feed_5_64 rfl ?_
  refine lv_topi (fun y5 _ => ?_)
  refine lv_i2b (v := _) hx hb dX12_feed_5_65 rfl ?_
  refine lv_topi (fun y6 _ => ?_)
  refine va_bast hx hb hK hP hD hS 1 0 rfl rfl (by unfold vp_in; decide) dX12_feed_5_66 (fun H locs hP hD hS => ?_)
  have hP : va_P (dC, dI) vwCl [(h0, .inr (12, [.ref h1, .int 1, a2, a3, a4, a5, a6, a7, a8])), (h1, .inl (cB, 1500, .inl (upd (upd f1 0 (vp_nar .byte y3)) 1 (vp_nar .byte y6))))] H := hP
  have hD : va_D A [(h0, .inr (12, [.ref h1, .int 1, a2, a3, a4, a5, a6, a7, a8])), (h1, .inl (cB, 1500, .inl (upd (upd f1 0 (vp_nar .byte y3)) 1 (vp_nar .byte y6))))] := hD
  refine lv_aload_n hx hb dX12_feed_5_67 rfl (lv_at hl 1 rfl) ?_
  refine lv_dup hx hb dX12_feed_5_68 rfl ?_
  refine va_get (D := (dC, dI)) (ci := 12) (v := .int 1) (C := RX12) (T := TX12) (N := 9) hx hb hts wh_X12_feed_5_X12 hown hK hP 0 rfl rfl 1 (by decide) (hts (.fieldLink RX12 13 "StreamHouse" "tapeLength" "I") (wm_X12_feed_5 0 rfl)) (fun _ h9 => h9) rfl dX12_feed_5_69 ?_
  refine lv_iconst (v := 1) hx hb dX12_feed_5_72 (by decide) ?_
  refine lv_iadd hx hb dX12_feed_5_73 ?_
  refine W.eq (g2 := F0 m 74 ls [.int 2, .ref h0]) rfl ?_
  refine va_put (D := (dC, dI)) (ci := 12) (v := .int 2) (ty := .int) (C := RX12) (T := TX12) (N := 9) hx hb hts wh_X12_feed_5_X12 tyX12 tyX12_ok nmX12 hown hK hP hD hS 0 rfl rfl 1 (by decide) (hts (.fieldLink RX12 13 "StreamHouse" "tapeLength" "I") (wm_X12_feed_5 0 rfl)) (fun _ h9 => h9) rfl (by decide +kernel) rfl rfl (Nat.le_of_ble_eq_true rfl) dX12_feed_5_74 (fun H locs hP hD hS => ?_)
  have hP : va_P (dC, dI) vwCl [(h0, .inr (12, [.ref h1, .int 2, a2, a3, a4, a5, a6, a7, a8])), (h1, .inl (cB, 1500, .inl (upd (upd f1 0 (vp_nar .byte y3)) 1 (vp_nar .byte y6))))] H := hP
  have hD : va_D A [(h0, .inr (12, [.ref h1, .int 2, a2, a3, a4, a5, a6, a7, a8])), (h1, .inl (cB, 1500, .inl (upd (upd f1 0 (vp_nar .byte y3)) 1 (vp_nar .byte y6))))] := hD
  refine lv_iinc (k := 0) (v := 2) (lv' := [(4, .int 2), (0, .ref h0), (1, .long g1), (3, .int 5)]) hx hb dX12_feed_5_77 hl rfl (by decide) (by decide) rfl (fun ls hl => ?_)
  refine lv_goto (tgt := 44) hx hb dX12_feed_5_80 (by decide) ?_
  refine lv_iload hx hb dX12_feed_5_44 (lv_at hl 0 rfl) ?_
  refine lv_if_lt (tgt := 83) hx hb dX12_feed_5_46 (by decide) (fun h9 => absurd h9 (by decide)) (fun _ => ?_)
  refine lv_aload_n hx hb dX12_feed_5_49 rfl (lv_at hl 1 rfl) ?_
  refine va_get (D := (dC, dI)) (ci := 12) (v := .ref h1) (C := RX12) (T := TX12) (N := 9) hx hb hts wh_X12_feed_5_X12 hown hK hP 0 rfl rfl 0 (by decide) (hts (.fieldLink RX12 9 "StreamHouse" "tape" "[B") (wm_X12_feed_5 1 rfl)) (fun _ h9 => h9) rfl dX12_feed_5_50 ?_
  refine lv_aload_n hx hb dX12_feed_5_53 rfl (lv_at hl 1 rfl) ?_
  refine va_get (D := (dC, dI)) (ci := 12) (v := .int 2) (C := RX12) (T := TX12) (N := 9) hx hb hts wh_X12_feed_5_X12 hown hK hP 0 rfl rfl 1 (by decide) (hts (.fieldLink RX12 13 "StreamHouse" "tapeLength" "I") (wm_X12_feed_5 0 rfl)) (fun _ h9 => h9) rfl dX12_feed_5_54 ?_
  refine lv_lload_n hx hb dX12_feed_5_57 rfl (lv_at hl 2 rfl) ?_
  refine lv_bipush (v := 8) hx hb dX12_feed_5_58 (by decide) ?_
  refine lv_iload hx hb dX12_feed_5_60 (lv_at hl 0 rfl) ?_
  refine lv_imul hx hb dX12_feed_5_62 ?_
  refine W.eq (g2 := F0 m 63 ls [.int 16, .long g1, .int 2, .ref h1]) rfl ?_
  refine lv_lushr (v := _) hx hb dX12_feed_5_63 rfl ?_
  refine lv_topl (fun y7 _ => ?_)
  refine lv_l2i (v := _) hx hb dX12_feed_5_64 rfl ?_
  refine lv_topi (fun y8 _ => ?_)
  refine lv_i2b (v := _) hx hb dX12_feed_5_65 rfl ?_
  refine lv_topi (fun y9 _ => ?_)
  refine va_bast hx hb hK hP hD hS 1 0 rfl rfl (by unfold vp_in; decide) dX12_feed_5_66 (fun H locs hP hD hS => ?_)
  have hP : va_P (dC, dI) vwCl [(h0, .inr (12, [.ref h1, .int 2, a2, a3, a4, a5, a6, a7, a8])), (h1, .inl (cB, 1500, .inl (upd (upd (upd f1 0 (vp_nar .byte y3)) 1 (vp_nar .byte y6)) 2 (vp_nar .byte y9))))] H := hP
  have hD : va_D A [(h0, .inr (12, [.ref h1, .int 2, a2, a3, a4, a5, a6, a7, a8])), (h1, .inl (cB, 1500, .inl (upd (upd (upd f1 0 (vp_nar .byte y3)) 1 (vp_nar .byte y6)) 2 (vp_nar .byte y9))))] := hD
  refine lv_aload_n hx hb dX12_feed_5_67 rfl (lv_at hl 1 rfl) ?_
  refine lv_dup hx hb dX12_feed_5_68 rfl ?_
  refine va_get (D := (dC, dI)) (ci := 12) (v := .int 2) (C := RX12) (T := TX12) (N := 9) hx hb hts wh_X12_feed_5_X12 hown hK hP 0 rfl rfl 1 (by decide) (hts (.fieldLink RX12 13 "StreamHouse" "tapeLength" "I") (wm_X12_feed_5 0 rfl)) (fun _ h9 => h9) rfl dX12_feed_5_69 ?_
  refine lv_iconst (v := 1) hx hb dX12_feed_5_72 (by decide) ?_
  refine lv_iadd hx hb dX12_feed_5_73 ?_
  refine W.eq (g2 := F0 m 74 ls [.int 3, .ref h0]) rfl ?_
  refine va_put (D := (dC, dI)) (ci := 12) (v := .int 3) (ty := .int) (C := RX12) (T := TX12) (N := 9) hx hb hts wh_X12_feed_5_X12 tyX12 tyX12_ok nmX12 hown hK hP hD hS 0 rfl rfl 1 (by decide) (hts (.fieldLink RX12 13 "StreamHouse" "tapeLength" "I") (wm_X12_feed_5 0 rfl)) (fun _ h9 => h9) rfl (by decide +kernel) rfl rfl (Nat.le_of_ble_eq_true rfl) dX12_feed_5_74 (fun H locs hP hD hS => ?_)
  have hP : va_P (dC, dI) vwCl [(h0, .inr (12, [.ref h1, .int 3, a2, a3, a4, a5, a6, a7, a8])), (h1, .inl (cB, 1500, .inl (upd (upd (upd f1 0 (vp_nar .byte y3)) 1 (vp_nar .byte y6)) 2 (vp_nar .byte y9))))] H := hP
  have hD : va_D A [(h0, .inr (12, [.ref h1, .int 3, a2, a3, a4, a5, a6, a7, a8])), (h1, .inl (cB, 1500, .inl (upd (upd (upd f1 0 (vp_nar .byte y3)) 1 (vp_nar .byte y6)) 2 (vp_nar .byte y9))))] := hD
  refine lv_iinc (k := 0) (v := 1) (lv' := [(4, .int 1), (0, .ref h0), (1, .long g1), (3, .int 5)]) hx hb dX12_feed_5_77 hl rfl (by decide) (by decide) rfl (fun ls hl => ?_)
  refine lv_goto (tgt := 44) hx hb dX12_feed_5_80 (by decide) ?_
  refine lv_iload hx hb dX12_feed_5_44 (lv_at hl 0 rfl) ?_
  refine lv_if_lt (tgt := 83) hx hb dX12_feed_5_46 (by decide) (fun h9 => absurd h9 (by decide)) (fun _ => ?_)
  refine lv_aload_n hx hb dX12_feed_5_49 rfl (lv_at hl 1 rfl) ?_
  refine va_get (D := (dC, dI)) (ci := 12) (v := .ref h1) (C := RX12) (T := TX12) (N := 9) hx hb hts wh_X12_feed_5_X12 hown hK hP 0 rfl rfl 0 (by decide) (hts (.fieldLink RX12 9 "StreamHouse" "tape" "[B") (wm_X12_feed_5 1 rfl)) (fun _ h9 => h9) rfl dX12_feed_5_50 ?_
  refine lv_aload_n hx hb dX12_feed_5_53 rfl (lv_at hl 1 rfl) ?_
  refine va_get (D := (dC, dI)) (ci := 12) (v := .int 3) (C := RX12) (T := TX12) (N := 9) hx hb hts wh_X12_feed_5_X12 hown hK hP 0 rfl rfl 1 (by decide) (hts (.fieldLink RX12 13 "StreamHouse" "tapeLength" "I") (wm_X12_feed_5 0 rfl)) (fun _ h9 => h9) rfl dX12_feed_5_54 ?_
  refine lv_lload_n hx hb dX12_feed_5_57 rfl (lv_at hl 2 rfl) ?_
  refine lv_bipush (v := 8) hx hb dX12_feed_5_58 (by decide) ?_
  refine lv_iload hx hb dX12_feed_5_60 (lv_at hl 0 rfl) ?_
  refine lv_imul hx hb dX12_feed_5_62 ?_
  refine W.eq (g2 := F0 m 63 ls [.int 8, .long g1, .int 3, .ref h1]) rfl ?_
  refine lv_lushr (v := _) hx hb dX12_feed_5_63 rfl ?_
  refine lv_topl (fun y10 _ => ?_)
  refine lv_l2i (v := _) hx hb dX12_feed_5_64 rfl ?_
  refine lv_topi (fun y11 _ => ?_)
  refine lv_i2b (v := _) hx hb dX12_feed_5_65 rfl ?_
  refine lv_topi (fun y12 _ => ?_)
  refine va_bast hx hb hK hP hD hS 1 0 rfl rfl (by unfold vp_in; decide) dX12_feed_5_66 (fun H locs hP hD hS => ?_)
  have hP : va_P (dC, dI) vwCl [(h0, .inr (12, [.ref h1, .int 3, a2, a3, a4, a5, a6, a7, a8])), (h1, .inl (cB, 1500, .inl (upd (upd (upd (upd f1 0 (vp_nar .byte y3)) 1 (vp_nar .byte y6)) 2 (vp_nar .byte y9)) 3 (vp_nar .byte y12))))] H := hP
  have hD : va_D A [(h0, .inr (12, [.ref h1, .int 3, a2, a3, a4, a5, a6, a7, a8])), (h1, .inl (cB, 1500, .inl (upd (upd (upd (upd f1 0 (vp_nar .byte y3)) 1 (vp_nar .byte y6)) 2 (vp_nar .byte y9)) 3 (vp_nar .byte y12))))] := hD
  refine lv_aload_n hx hb dX12_feed_5_67 rfl (lv_at hl 1 rfl) ?_
  refine lv_dup hx hb dX12_feed_5_68 rfl ?_
  refine va_get (D := (dC, dI)) (ci := 12) (v := .int 3) (C := RX12) (T := TX12) (N := 9) hx hb hts wh_X12_feed_5_X12 hown hK hP 0 rfl rfl 1 (by decide) (hts (.fieldLink RX12 13 "StreamHouse" "tapeLength" "I") (wm_X12_feed_5 0 rfl)) (fun _ h9 => h9) rfl dX12_feed_5_69 ?_
  refine lv_iconst (v := 1) hx hb dX12_feed_5_72 (by decide) ?_
  refine lv_iadd hx hb dX12_feed_5_73 ?_
  refine W.eq (g2 := F0 m 74 ls [.int 4, .ref h0]) rfl ?_
  refine va_put (D := (dC, dI)) (ci := 12) (v := .int 4) (ty := .int) (C := RX12) (T := TX12) (N := 9) hx hb hts wh_X12_feed_5_X12 tyX12 tyX12_ok nmX12 hown hK hP hD hS 0 rfl rfl 1 (by decide) (hts (.fieldLink RX12 13 "StreamHouse" "tapeLength" "I") (wm_X12_feed_5 0 rfl)) (fun _ h9 => h9) rfl (by decide +kernel) rfl rfl (Nat.le_of_ble_eq_true rfl) dX12_feed_5_74 (fun H locs hP hD hS => ?_)
  have hP : va_P (dC, dI) vwCl [(h0, .inr (12, [.ref h1, .int 4, a2, a3, a4, a5, a6, a7, a8])), (h1, .inl (cB, 1500, .inl (upd (upd (upd (upd f1 0 (vp_nar .byte y3)) 1 (vp_nar .byte y6)) 2 (vp_nar .byte y9)) 3 (vp_nar .byte y12))))] H := hP
  have hD : va_D A [(h0, .inr (12, [.ref h1, .int 4, a2, a3, a4, a5, a6, a7, a8])), (h1, .inl (cB, 1500, .inl (upd (upd (upd (upd f1 0 (vp_nar .byte y3)) 1 (vp_nar .byte y6)) 2 (vp_nar .byte y9)) 3 (vp_nar .byte y12))))] := hD
  refine lv_iinc (k := 0) (v := 0) (lv' := [(4, .int 0), (0, .ref h0), (1, .long g1), (3, .int 5)]) hx hb dX12_feed_5_77 hl rfl (by decide) (by decide) rfl (fun ls hl => ?_)
  refine lv_goto (tgt := 44) hx hb dX12_feed_5_80 (by decide) ?_
  refine lv_iload hx hb dX12_feed_5_44 (lv_at hl 0 rfl) ?_
  refine lv_if_lt (tgt := 83) hx hb dX12_feed_5_46 (by decide) (fun h9 => absurd h9 (by decide)) (fun _ => ?_)
  refine lv_aload_n hx hb dX12_feed_5_49 rfl (lv_at hl 1 rfl) ?_
  refine va_get (D := (dC, dI)) (ci := 12) (v := .ref h1) (C := RX12) (T := TX12) (N := 9) hx hb hts wh_X12_feed_5_X12 hown hK hP 0 rfl rfl 0 (by decide) (hts (.fieldLink RX12 9 "StreamHouse" "tape" "[B") (wm_X12_feed_5 1 rfl)) (fun _ h9 => h9) rfl dX12_feed_5_50 ?_
  refine lv_aload_n hx hb dX12_feed_5_53 rfl (lv_at hl 1 rfl) ?_
  refine va_get (D := (dC, dI)) (ci := 12) (v := .int 4) (C := RX12) (T := TX12) (N := 9) hx hb hts wh_X12_feed_5_X12 hown hK hP 0 rfl rfl 1 (by decide) (hts (.fieldLink RX12 13 "StreamHouse" "tapeLength" "I") (wm_X12_feed_5 0 rfl)) (fun _ h9 => h9) rfl dX12_feed_5_54 ?_
  refine lv_lload_n hx hb dX12_feed_5_57 rfl (lv_at hl 2 rfl) ?_
  refine lv_bipush (v := 8) hx hb dX12_feed_5_58 (by decide) ?_
  refine lv_iload hx hb dX12_feed_5_60 (lv_at hl 0 rfl) ?_
  refine lv_imul hx hb dX12_feed_5_62 ?_
  refine W.eq (g2 := F0 m 63 ls [.int 0, .long g1, .int 4, .ref h1]) rfl ?_
  refine lv_lushr (v := _) hx hb dX12_feed_5_63 rfl ?_
  refine lv_topl (fun y13 _ => ?_)
  refine lv_l2i (v := _) hx hb dX12_feed_5_64 rfl ?_
  refine lv_topi (fun y14 _ => ?_)
  refine lv_i2b (v := _) hx hb dX12_feed_5_65 rfl ?_
  refine lv_topi (fun y15 _ => ?_)
  refine va_bast hx hb hK hP hD hS 1 0 rfl rfl (by unfold vp_in; decide) dX12_feed_5_66 (fun H locs hP hD hS => ?_)
  have hP : va_P (dC, dI) vwCl [(h0, .inr (12, [.ref h1, .int 4, a2, a3, a4, a5, a6, a7, a8])), (h1, .inl (cB, 1500, .inl (upd (upd (upd (upd (upd f1 0 (vp_nar .byte y3)) 1 (vp_nar .byte y6)) 2 (vp_nar .byte y9)) 3 (vp_nar .byte y12)) 4 (vp_nar .byte y15))))] H := hP
  have hD : va_D A [(h0, .inr (12, [.ref h1, .int 4, a2, a3, a4, a5, a6, a7, a8])), (h1, .inl (cB, 1500, .inl (upd (upd (upd (upd (upd f1 0 (vp_nar .byte y3)) 1 (vp_nar .byte y6)) 2 (vp_nar .byte y9)) 3 (vp_nar .byte y12)) 4 (vp_nar .byte y15))))] := hD
  refine lv_aload_n hx hb dX12_feed_5_67 rfl (lv_at hl 1 rfl) ?_
  refine lv_dup hx hb dX12_feed_5_68 rfl ?_
  refine va_get (D := (dC, dI)) (ci := 12) (v := .int 4) (C := RX12) (T := TX12) (N := 9) hx hb hts wh_X12_feed_5_X12 hown hK hP 0 rfl rfl 1 (by decide) (hts (.fieldLink RX12 13 "StreamHouse" "tapeLength" "I") (wm_X12_feed_5 0 rfl)) (fun _ h9 => h9) rfl dX12_feed_5_69 ?_
  refine lv_iconst (v := 1) hx hb dX12_feed_5_72 (by decide) ?_
  refine lv_iadd hx hb dX12_feed_5_73 ?_
  refine W.eq (g2 := F0 m 74 ls [.int 5, .ref h0]) rfl ?_
  refine va_put (D := (dC, dI)) (ci := 12) (v := .int 5) (ty := .int) (C := RX12) (T := TX12) (N := 9) hx hb hts wh_X12_feed_5_X12 tyX12 tyX12_ok nmX12 hown hK hP hD hS 0 rfl rfl 1 (by decide) (hts (.fieldLink RX12 13 "StreamHouse" "tapeLength" "I") (wm_X12_feed_5 0 rfl)) (fun _ h9 => h9) rfl (by decide +kernel) rfl rfl (Nat.le_of_ble_eq_true rfl) dX12_feed_5_74 (fun H locs hP hD hS => ?_)
  have hP : va_P (dC, dI) vwCl [(h0, .inr (12, [.ref h1, .int 5, a2, a3, a4, a5, a6, a7, a8])), (h1, .inl (cB, 1500, .inl (upd (upd (upd (upd (upd f1 0 (vp_nar .byte y3)) 1 (vp_nar .byte y6)) 2 (vp_nar .byte y9)) 3 (vp_nar .byte y12)) 4 (vp_nar .byte y15))))] H := hP
  have hD : va_D A [(h0, .inr (12, [.ref h1, .int 5, a2, a3, a4, a5, a6, a7, a8])), (h1, .inl (cB, 1500, .inl (upd (upd (upd (upd (upd f1 0 (vp_nar .byte y3)) 1 (vp_nar .byte y6)) 2 (vp_nar .byte y9)) 3 (vp_nar .byte y12)) 4 (vp_nar .byte y15))))] := hD
  refine lv_iinc (k := 0) (v := (-1)) (lv' := [(4, .int ((-1))), (0, .ref h0), (1, .long g1), (3, .int 5)]) hx hb dX12_feed_5_77 hl rfl (by decide) (by decide) rfl (fun ls hl => ?_)
  refine lv_goto (tgt := 44) hx hb dX12_feed_5_80 (by decide) ?_
  refine lv_iload hx hb dX12_feed_5_44 (lv_at hl 0 rfl) ?_
  refine lv_if_lt (tgt := 83) hx hb dX12_feed_5_46 (by decide) (fun _ => ?_) (fun h9 => absurd (by decide) h9)
  refine lv_aload_n hx hb dX12_feed_5_83 rfl (lv_at hl 1 rfl) ?_
  refine va_get (D := (dC, dI)) (ci := 12) (v := .int 5) (C := RX12) (T := TX12) (N := 9) hx hb hts wh_X12_feed_5_X12 hown hK hP 0 rfl rfl 1 (by decide) (hts (.fieldLink RX12 13 "StreamHouse" "tapeLength" "I") (wm_X12_feed_5 0 rfl)) (fun _ h9 => h9) rfl dX12_feed_5_84 ?_
  have hP9 := hP.sub (ws' := [(h0, .inr (12, [.ref h1, .int 5, a2, a3, a4, a5, a6, a7, a8]))]) [0] rfl
  have hD9 := hD.sub (ws' := [(h0, .inr (12, [.ref h1, .int 5, a2, a3, a4, a5, a6, a7, a8]))]) [0] (by decide) rfl
  have hK9 := hK.sub (tys' := []) [] rfl
  refine W.widen (k := 0) (n := 0) (by decide) (by decide) ?_
  exact W.iret (v := 5) hx hb hr (fun t ht hW => ⟨⟨5, (), rfl, rfl, by rw [ht]; exact hP9, va_K.moved hW.alike hK9, hD9⟩, hS.F ht⟩) hS.2.2 dX12_feed_5_87

abbrev ar_X12_feed_6 (dC : Nat → ClassId) (dI : Nat → Nat → Nat) (A : Nat → Prop) (h0 h1 : Nat) (g1 : Int64) (cB : ClassId) (f1 : Nat → Int32) (a2 a3 a4 a5 a6 a7 a8 : Value) (_ : Unit) (t : State) : Prop := va_P (dC, dI) vwCl [(h0, .inr (12, [.ref h1, .int 6, a2, a3, a4, a5, a6, a7, a8]))] t.heap ∧ va_K (dC, dI) vwCl [] t ∧ va_D A [(h0, .inr (12, [.ref h1, .int 6, a2, a3, a4, a5, a6, a7, a8]))]
theorem dX12_feed_6_0 : decode cX12_feed 0 = .ok (.iload_n 3, 1) := by decide +kernel
theorem dX12_feed_6_1 : decode cX12_feed 1 = .ok (.iconst 1, 1) := by decide +kernel
theorem dX12_feed_6_2 : decode cX12_feed 2 = .ok (.if_icmp .lt 9, 3) := by decide +kernel
theorem dX12_feed_6_5 : decode cX12_feed 5 = .ok (.iload_n 3, 1) := by decide +kernel
theorem dX12_feed_6_6 : decode cX12_feed 6 = .ok (.bipush 8, 2) := by decide +kernel
theorem dX12_feed_6_8 : decode cX12_feed 8 = .ok (.if_icmp .le 11, 3) := by decide +kernel
theorem dX12_feed_6_19 : decode cX12_feed 19 = .ok (.aload_n 0, 1) := by decide +kernel
theorem dX12_feed_6_20 : decode cX12_feed 20 = .ok (.getfield 13, 3) := by decide +kernel
theorem dX12_feed_6_23 : decode cX12_feed 23 = .ok (.iload_n 3, 1) := by decide +kernel
theorem dX12_feed_6_24 : decode cX12_feed 24 = .ok (.iadd, 1) := by decide +kernel
theorem dX12_feed_6_25 : decode cX12_feed 25 = .ok (.sipush 1500, 3) := by decide +kernel
theorem dX12_feed_6_28 : decode cX12_feed 28 = .ok (.if_icmp .le 11, 3) := by decide +kernel
theorem dX12_feed_6_39 : decode cX12_feed 39 = .ok (.iload_n 3, 1) := by decide +kernel
theorem dX12_feed_6_40 : decode cX12_feed 40 = .ok (.iconst 1, 1) := by decide +kernel
theorem dX12_feed_6_41 : decode cX12_feed 41 = .ok (.isub, 1) := by decide +kernel
theorem dX12_feed_6_42 : decode cX12_feed 42 = .ok (.istore 4, 2) := by decide +kernel
theorem dX12_feed_6_44 : decode cX12_feed 44 = .ok (.iload 4, 2) := by decide +kernel
theorem dX12_feed_6_46 : decode cX12_feed 46 = .ok (.ifCond .lt 37, 3) := by decide +kernel
theorem dX12_feed_6_49 : decode cX12_feed 49 = .ok (.aload_n 0, 1) := by decide +kernel
theorem dX12_feed_6_50 : decode cX12_feed 50 = .ok (.getfield 9, 3) := by decide +kernel
theorem dX12_feed_6_53 : decode cX12_feed 53 = .ok (.aload_n 0, 1) := by decide +kernel
theorem dX12_feed_6_54 : decode cX12_feed 54 = .ok (.getfield 13, 3) := by decide +kernel
theorem dX12_feed_6_57 : decode cX12_feed 57 = .ok (.lload_n 1, 1) := by decide +kernel
theorem dX12_feed_6_58 : decode cX12_feed 58 = .ok (.bipush 8, 2) := by decide +kernel
theorem dX12_feed_6_60 : decode cX12_feed 60 = .ok (.iload 4, 2) := by decide +kernel
theorem dX12_feed_6_62 : decode cX12_feed 62 = .ok (.imul, 1) := by decide +kernel
theorem dX12_feed_6_63 : decode cX12_feed 63 = .ok (.lushr, 1) := by decide +kernel
theorem dX12_feed_6_64 : decode cX12_feed 64 = .ok (.l2i, 1) := by decide +kernel
theorem dX12_feed_6_65 : decode cX12_feed 65 = .ok (.i2b, 1) := by decide +kernel
theorem dX12_feed_6_66 : decode cX12_feed 66 = .ok (.bastore, 1) := by decide +kernel
theorem dX12_feed_6_67 : decode cX12_feed 67 = .ok (.aload_n 0, 1) := by decide +kernel
theorem dX12_feed_6_68 : decode cX12_feed 68 = .ok (.dup, 1) := by decide +kernel
theorem dX12_feed_6_69 : decode cX12_feed 69 = .ok (.getfield 13, 3) := by decide +kernel
theorem dX12_feed_6_72 : decode cX12_feed 72 = .ok (.iconst 1, 1) := by decide +kernel
theorem dX12_feed_6_73 : decode cX12_feed 73 = .ok (.iadd, 1) := by decide +kernel
theorem dX12_feed_6_74 : decode cX12_feed 74 = .ok (.putfield 13, 3) := by decide +kernel
theorem dX12_feed_6_77 : decode cX12_feed 77 = .ok (.iinc 4 (-1), 3) := by decide +kernel
theorem dX12_feed_6_80 : decode cX12_feed 80 = .ok (.goto (-36), 3) := by decide +kernel
theorem dX12_feed_6_83 : decode cX12_feed 83 = .ok (.aload_n 0, 1) := by decide +kernel
theorem dX12_feed_6_84 : decode cX12_feed 84 = .ok (.getfield 13, 3) := by decide +kernel
theorem dX12_feed_6_87 : decode cX12_feed 87 = .ok (.ireturn, 1) := by decide +kernel
def ww_X12_feed_6 : List Cond := [.fieldLink RX12 13 "StreamHouse" "tapeLength" "I", .fieldLink RX12 9 "StreamHouse" "tape" "[B"]
def wv_X12_feed_6 : List Cond := .code yX12_feed cX12_feed 5 (some .int) :: (ww_X12_feed_6 ++ (u_ws RX12 TX12 9 ++ []))
theorem wm_X12_feed_6 {w : Cond} (i : Nat) (h : ww_X12_feed_6[i]? = some w) : w ∈ wv_X12_feed_6 := List.mem_cons_of_mem _ (List.mem_append_left _ (List.mem_of_getElem? h))
set_option maxRecDepth 100000 in
theorem gw_X12_feed_6 : wv_X12_feed_6.all goodWord = true := by decide +kernel
theorem wh_X12_feed_6_X12 : ∀ w ∈ u_ws RX12 TX12 9, w ∈ wv_X12_feed_6 := fun w h => List.mem_cons_of_mem _ (List.mem_append_right _ (List.mem_append_left _ h))
set_option maxHeartbeats 4000000 in
set_option maxRecDepth 100000 in
/-- feed(g, 6) of a fresh house: 6 -/
theorem r_X12_feed_6 (l : Launch) (dC : Nat → ClassId) (dI : Nat → Nat → Nat) (h0 h1 : Nat) (g1 : Int64) (cB : ClassId) (f1 : Nat → Int32) (a2 a3 a4 a5 a6 a7 a8 : Value) (sz : Nat) : Met l yX12_feed wv_X12_feed_6 ({ frames := 0, cells := 0, slots := 0, locals := 0 }) (va_Pc [.ref h0, .long g1, .int 6] (fun U => U.heap.size = sz ∧ va_P (dC, dI) vwCl [(h0, .inr (12, [.ref h1, .int 0, a2, a3, a4, a5, a6, a7, a8])), (h1, .inl (cB, 1500, .inl f1))] U.heap ∧ va_K (dC, dI) vwCl [(cB, .byte)] U ∧ va_D (fun _ => True) [(h0, .inr (12, [.ref h1, .int 0, a2, a3, a4, a5, a6, a7, a8])), (h1, .inl (cB, 1500, .inl f1))])) (va_Qi (fun r (_ : Unit) => r = 6) (ar_X12_feed_6 dC dI (va_A [(h0, .inr (12, [.ref h1, .int 0, a2, a3, a4, a5, a6, a7, a8])), (h1, .inl (cB, 1500, .inl f1))] sz) h0 h1 g1 cB f1 a2 a3 a4 a5 a6 a7 a8) (va_A [(h0, .inr (12, [.ref h1, .int 0, a2, a3, a4, a5, a6, a7, a8])), (h1, .inl (cB, 1500, .inl f1))] sz)) 0 0 (va_A [(h0, .inr (12, [.ref h1, .int 0, a2, a3, a4, a5, a6, a7, a8])), (h1, .inl (cB, 1500, .inl f1))] sz) := by
  refine Met.ofW (cc := cX12_feed) (maxL := 5) (ret := (some .int)) (by decide) rfl ?_
  intro p e s m args below meth c s₁ B hml hv
  obtain ⟨rfl, hsz, hP, hK, hD0⟩ := hv
  have hx := B.exec
  have hb := B.bytes
  have hr := B.returns
  have hts := atoms_spec (ws := wv_X12_feed_6) B.pre
  have hown : s.vm.findClass RX12 = some m.cls := findClass_of_methodNamed B.named
  have hlocks := B.notSynchronized
  subst hsz
  have hD := hD0.self (sz := s.heap.size)
  generalize hAe : va_A [(h0, .inr (12, [.ref h1, .int 0, a2, a3, a4, a5, a6, a7, a8])), (h1, .inl (cB, 1500, .inl f1))] s.heap.size = A at hD ⊢
  have hA : ∀ q : Nat, s.heap.size ≤ q → A q := fun q h => by rw [← hAe]; exact Or.inr h
  have hS : va_S A s.heap s.heap [] := va_S.rf
  have hP : va_P (dC, dI) vwCl [(h0, .inr (12, [.ref h1, .int 0, a2, a3, a4, a5, a6, a7, a8])), (h1, .inl (cB, 1500, .inl f1))] s.heap := hP
  have hl := lv_entry ([.ref h0, .long g1, .int 6]) (n := 5) (Nat.le_of_ble_eq_true rfl)
  rw [lg_entry_eq]
  generalize (lg_sl ([.ref h0, .long g1, .int 6]) ++ List.replicate (5 - (lg_sl ([.ref h0, .long g1, .int 6])).length) Slot.unset).toArray = ls at hl ⊢
  have hl : lv_has ls 5 [(0, .ref h0), (1, .long g1), (3, .int 6)] := hl
  refine lv_iload_n hx hb dX12_feed_6_0 rfl (lv_at hl 2 rfl) ?_
  refine lv_iconst (v := 1) hx hb dX12_feed_6_1 (by decide) ?_
  refine lv_icmp_lt (tgt := 11) hx hb dX12_feed_6_2 (by decide) (fun h9 => absurd h9 (by decide)) (fun _ => ?_)
  refine lv_iload_n hx hb dX12_feed_6_5 rfl (lv_at hl 2 rfl) ?_
  refine lv_bipush (v := 8) hx hb dX12_feed_6_6 (by decide) ?_
  refine lv_icmp_le (tgt := 19) hx hb dX12_feed_6_8 (by decide) (fun _ => ?_) (fun h9 => absurd (by decide) h9)
  refine lv_aload_n hx hb dX12_feed_6_19 rfl (lv_at hl 0 rfl) ?_
  refine va_get (D := (dC, dI)) (ci := 12) (v := .int 0) (C := RX12) (T := TX12) (N := 9) hx hb hts wh_X12_feed_6_X12 hown hK hP 0 rfl rfl 1 (by decide) (hts (.fieldLink RX12 13 "StreamHouse" "tapeLength" "I") (wm_X12_feed_6 0 rfl)) (fun _ h9 => h9) rfl dX12_feed_6_20 ?_
  refine lv_iload_n hx hb dX12_feed_6_23 rfl (lv_at hl 2 rfl) ?_
  refine lv_iadd hx hb dX12_feed_6_24 ?_
  refine W.eq (g2 := F0 m 25 ls [.int 6]) rfl ?_
  refine lv_sipush (v := 1500) hx hb dX12_feed_6_25 (by decide) ?_
  refine lv_icmp_le (tgt := 39) hx hb dX12_feed_6_28 (by decide) (fun _ => ?_) (fun h9 => absurd (by decide) h9)
  refine lv_iload_n hx hb dX12_feed_6_39 rfl (lv_at hl 2 rfl) ?_
  refine lv_iconst (v := 1) hx hb dX12_feed_6_40 (by decide) ?_
  refine lv_isub hx hb dX12_feed_6_41 ?_
  refine W.eq (g2 := F0 m 42 ls [.int 5]) rfl ?_
  refine lv_istore (lv' := [(4, .int 5), (0, .ref h0), (1, .long g1), (3, .int 6)]) hx hb dX12_feed_6_42 hl (by decide) rfl (fun ls hl => ?_)
  refine lv_iload hx hb dX12_feed_6_44 (lv_at hl 0 rfl) ?_
  refine lv_if_lt (tgt := 83) hx hb dX12_feed_6_46 (by decide) (fun h9 => absurd h9 (by decide)) (fun _ => ?_)
  refine lv_aload_n hx hb dX12_feed_6_49 rfl (lv_at hl 1 rfl) ?_
  refine va_get (D := (dC, dI)) (ci := 12) (v := .ref h1) (C := RX12) (T := TX12) (N := 9) hx hb hts wh_X12_feed_6_X12 hown hK hP 0 rfl rfl 0 (by decide) (hts (.fieldLink RX12 9 "StreamHouse" "tape" "[B") (wm_X12_feed_6 1 rfl)) (fun _ h9 => h9) rfl dX12_feed_6_50 ?_
  refine lv_aload_n hx hb dX12_feed_6_53 rfl (lv_at hl 1 rfl) ?_
  refine va_get (D := (dC, dI)) (ci := 12) (v := .int 0) (C := RX12) (T := TX12) (N := 9) hx hb hts wh_X12_feed_6_X12 hown hK hP 0 rfl rfl 1 (by decide) (hts (.fieldLink RX12 13 "StreamHouse" "tapeLength" "I") (wm_X12_feed_6 0 rfl)) (fun _ h9 => h9) rfl dX12_feed_6_54 ?_
  refine lv_lload_n hx hb dX12_feed_6_57 rfl (lv_at hl 2 rfl) ?_
  refine lv_bipush (v := 8) hx hb dX12_feed_6_58 (by decide) ?_
  refine lv_iload hx hb dX12_feed_6_60 (lv_at hl 0 rfl) ?_
  refine lv_imul hx hb dX12_feed_6_62 ?_
  refine W.eq (g2 := F0 m 63 ls [.int 40, .long g1, .int 0, .ref h1]) rfl ?_
  refine lv_lushr (v := _) hx hb dX12_feed_6_63 rfl ?_
  refine lv_topl (fun y1 _ => ?_)
  refine lv_l2i (v := _) hx hb dX12_feed_6_64 rfl ?_
  refine lv_topi (fun y2 _ => ?_)
  refine lv_i2b (v := _) hx hb dX12_feed_6_65 rfl ?_
  refine lv_topi (fun y3 _ => ?_)
  refine va_bast hx hb hK hP hD hS 1 0 rfl rfl (by unfold vp_in; decide) dX12_feed_6_66 (fun H locs hP hD hS => ?_)
  have hP : va_P (dC, dI) vwCl [(h0, .inr (12, [.ref h1, .int 0, a2, a3, a4, a5, a6, a7, a8])), (h1, .inl (cB, 1500, .inl (upd f1 0 (vp_nar .byte y3))))] H := hP
  have hD : va_D A [(h0, .inr (12, [.ref h1, .int 0, a2, a3, a4, a5, a6, a7, a8])), (h1, .inl (cB, 1500, .inl (upd f1 0 (vp_nar .byte y3))))] := hD
  refine lv_aload_n hx hb dX12_feed_6_67 rfl (lv_at hl 1 rfl) ?_
  refine lv_dup hx hb dX12_feed_6_68 rfl ?_
  refine va_get (D := (dC, dI)) (ci := 12) (v := .int 0) (C := RX12) (T := TX12) (N := 9) hx hb hts wh_X12_feed_6_X12 hown hK hP 0 rfl rfl 1 (by decide) (hts (.fieldLink RX12 13 "StreamHouse" "tapeLength" "I") (wm_X12_feed_6 0 rfl)) (fun _ h9 => h9) rfl dX12_feed_6_69 ?_
  refine lv_iconst (v := 1) hx hb dX12_feed_6_72 (by decide) ?_
  refine lv_iadd hx hb dX12_feed_6_73 ?_
  refine W.eq (g2 := F0 m 74 ls [.int 1, .ref h0]) rfl ?_
  refine va_put (D := (dC, dI)) (ci := 12) (v := .int 1) (ty := .int) (C := RX12) (T := TX12) (N := 9) hx hb hts wh_X12_feed_6_X12 tyX12 tyX12_ok nmX12 hown hK hP hD hS 0 rfl rfl 1 (by decide) (hts (.fieldLink RX12 13 "StreamHouse" "tapeLength" "I") (wm_X12_feed_6 0 rfl)) (fun _ h9 => h9) rfl (by decide +kernel) rfl rfl (Nat.le_of_ble_eq_true rfl) dX12_feed_6_74 (fun H locs hP hD hS => ?_)
  have hP : va_P (dC, dI) vwCl [(h0, .inr (12, [.ref h1, .int 1, a2, a3, a4, a5, a6, a7, a8])), (h1, .inl (cB, 1500, .inl (upd f1 0 (vp_nar .byte y3))))] H := hP
  have hD : va_D A [(h0, .inr (12, [.ref h1, .int 1, a2, a3, a4, a5, a6, a7, a8])), (h1, .inl (cB, 1500, .inl (upd f1 0 (vp_nar .byte y3))))] := hD
  refine lv_iinc (k := 0) (v := 4) (lv' := [(4, .int 4), (0, .ref h0), (1, .long g1), (3, .int 6)]) hx hb dX12_feed_6_77 hl rfl (by decide) (by decide) rfl (fun ls hl => ?_)
  refine lv_goto (tgt := 44) hx hb dX12_feed_6_80 (by decide) ?_
  refine lv_iload hx hb dX12_feed_6_44 (lv_at hl 0 rfl) ?_
  refine lv_if_lt (tgt := 83) hx hb dX12_feed_6_46 (by decide) (fun h9 => absurd h9 (by decide)) (fun _ => ?_)
  refine lv_aload_n hx hb dX12_feed_6_49 rfl (lv_at hl 1 rfl) ?_
  refine va_get (D := (dC, dI)) (ci := 12) (v := .ref h1) (C := RX12) (T := TX12) (N := 9) hx hb hts wh_X12_feed_6_X12 hown hK hP 0 rfl rfl 0 (by decide) (hts (.fieldLink RX12 9 "StreamHouse" "tape" "[B") (wm_X12_feed_6 1 rfl)) (fun _ h9 => h9) rfl dX12_feed_6_50 ?_
  refine lv_aload_n hx hb dX12_feed_6_53 rfl (lv_at hl 1 rfl) ?_
  refine va_get (D := (dC, dI)) (ci := 12) (v := .int 1) (C := RX12) (T := TX12) (N := 9) hx hb hts wh_X12_feed_6_X12 hown hK hP 0 rfl rfl 1 (by decide) (hts (.fieldLink RX12 13 "StreamHouse" "tapeLength" "I") (wm_X12_feed_6 0 rfl)) (fun _ h9 => h9) rfl dX12_feed_6_54 ?_
  refine lv_lload_n hx hb dX12_feed_6_57 rfl (lv_at hl 2 rfl) ?_
  refine lv_bipush (v := 8) hx hb dX12_feed_6_58 (by decide) ?_
  refine lv_iload hx hb dX12_feed_6_60 (lv_at hl 0 rfl) ?_
  refine lv_imul hx hb dX12_feed_6_62 ?_
  refine W.eq (g2 := F0 m 63 ls [.int 32, .long g1, .int 1, .ref h1]) rfl ?_
  refine lv_lushr (v := _) hx hb dX12_feed_6_63 rfl ?_
  refine lv_topl (fun y4 _ => ?_)
  refine lv_l2i (v := _) hx hb dX12_feed_6_64 rfl ?_
  refine lv_topi (fun y5 _ => ?_)
  refine lv_i2b (v := _) hx hb dX12_feed_6_65 rfl ?_
  refine lv_topi (fun y6 _ => ?_)
  refine va_bast hx hb hK hP hD hS 1 0 rfl rfl (by unfold vp_in; decide) dX12_feed_6_66 (fun H locs hP hD hS => ?_)
  have hP : va_P (dC, dI) vwCl [(h0, .inr (12, [.ref h1, .int 1, a2, a3, a4, a5, a6, a7, a8])), (h1, .inl (cB, 1500, .inl (upd (upd f1 0 (vp_nar .byte y3)) 1 (vp_nar .byte y6))))] H := hP
  have hD : va_D A [(h0, .inr (12, [.ref h1, .int 1, a2, a3, a4, a5, a6, a7, a8])), (h1, .inl (cB, 1500, .inl (upd (upd f1 0 (vp_nar .byte y3)) 1 (vp_nar .byte y6))))] := hD
  refine lv_aload_n hx hb dX12_feed_6_67 rfl (lv_at hl 1 rfl) ?_
  refine lv_dup hx hb dX12_feed_6_68 rfl ?_
  refine va_get (D := (dC, dI)) (ci := 12) (v := .int 1) (C := RX12) (T := TX12) (N := 9) hx hb hts wh_X12_feed_6_X12 hown hK hP 0 rfl rfl 1 (by decide) (hts (.fieldLink RX12 13 "StreamHouse" "tapeLength" "I") (wm_X12_feed_6 0 rfl)) (fun _ h9 => h9) rfl dX12_feed_6_69 ?_
  refine lv_iconst (v := 1) hx hb dX12_feed_6_72 (by decide) ?_
  refine lv_iadd hx hb dX12_feed_6_73 ?_
  refine W.eq (g2 := F0 m 74 ls [.int 2, .ref h0]) rfl ?_
  refine va_put (D := (dC, dI)) (ci := 12) (v := .int 2) (ty := .int) (C := RX12) (T := TX12) (N := 9) hx hb hts wh_X12_feed_6_X12 tyX12 tyX12_ok nmX12 hown hK hP hD hS 0 rfl rfl 1 (by decide) (hts (.fieldLink RX12 13 "StreamHouse" "tapeLength" "I") (wm_X12_feed_6 0 rfl)) (fun _ h9 => h9) rfl (by decide +kernel) rfl rfl (Nat.le_of_ble_eq_true rfl) dX12_feed_6_74 (fun H locs hP hD hS => ?_)
  have hP : va_P (dC, dI) vwCl [(h0, .inr (12, [.ref h1, .int 2, a2, a3, a4, a5, a6, a7, a8])), (h1, .inl (cB, 1500, .inl (upd (upd f1 0 (vp_nar .byte y3)) 1 (vp_nar .byte y6))))] H := hP
  have hD : va_D A [(h0, .inr (12, [.ref h1, .int 2, a2, a3, a4, a5, a6, a7, a8])), (h1, .inl (cB, 1500, .inl (upd (upd f1 0 (vp_nar .byte y3)) 1 (vp_nar .byte y6))))] := hD
  refine lv_iinc (k := 0) (v := 3) (lv' := [(4, .int 3), (0, .ref h0), (1, .long g1), (3, .int 6)]) hx hb dX12_feed_6_77 hl rfl (by decide) (by decide) rfl (fun ls hl => ?_)
  refine lv_goto (tgt := 44) hx hb dX12_feed_6_80 (by decide) ?_
  refine lv_iload hx hb dX12_feed_6_44 (lv_at hl 0 rfl) ?_
  refine lv_if_lt (tgt := 83) hx hb dX12_feed_6_46 (by decide) (fun h9 => absurd h9 (by decide)) (fun _ => ?_)
  refine lv_aload_n hx hb dX12_feed_6_49 rfl (lv_at hl 1 rfl) ?_
  refine va_get (D := (dC, dI)) (ci := 12) (v := .ref h1) (C := RX12) (T := TX12) (N := 9) hx hb hts wh_X12_feed_6_X12 hown hK hP 0 rfl rfl 0 (by decide) (hts (.fieldLink RX12 9 "StreamHouse" "tape" "[B") (wm_X12_feed_6 1 rfl)) (fun _ h9 => h9) rfl dX12_feed_6_50 ?_
  refine lv_aload_n hx hb dX12_feed_6_53 rfl (lv_at hl 1 rfl) ?_
  refine va_get (D := (dC, dI)) (ci := 12) (v := .int 2) (C := RX12) (T := TX12) (N := 9) hx hb hts wh_X12_feed_6_X12 hown hK hP 0 rfl rfl 1 (by decide) (hts (.fieldLink RX12 13 "StreamHouse" "tapeLength" "I") (wm_X12_feed_6 0 rfl)) (fun _ h9 => h9) rfl dX12_feed_6_54 ?_
  refine lv_lload_n hx hb dX12_feed_6_57 rfl (lv_at hl 2 rfl) ?_
  refine lv_bipush (v := 8) hx hb dX12_feed_6_58 (by decide) ?_
  refine lv_iload hx hb dX12_feed_6_60 (lv_at hl 0 rfl) ?_
  refine lv_imul hx hb dX12_feed_6_62 ?_
  refine W.eq (g2 := F0 m 63 ls [.int 24, .long g1, .int 2, .ref h1]) rfl ?_
  refine lv_lushr (v := _) hx hb dX12_feed_6_63 rfl ?_
  refine lv_topl (fun y7 _ => ?_)
  refine lv_l2i (v := _) hx hb dX12_feed_6_64 rfl ?_
  refine lv_topi (fun y8 _ => ?_)
  refine lv_i2b (v := _) hx hb dX12_feed_6_65 rfl ?_
  refine lv_topi (fun y9 _ => ?_)
  refine va_bast hx hb hK hP hD hS 1 0 rfl rfl (by unfold vp_in; decide) dX12_feed_6_66 (fun H locs hP hD hS => ?_)
  have hP : va_P (dC, dI) vwCl [(h0, .inr (12, [.ref h1, .int 2, a2, a3, a4, a5, a6, a7, a8])), (h1, .inl (cB, 1500, .inl (upd (upd (upd f1 0 (vp_nar .byte y3)) 1 (vp_nar .byte y6)) 2 (vp_nar .byte y9))))] H := hP
  have hD : va_D A [(h0, .inr (12, [.ref h1, .int 2, a2, a3, a4, a5, a6, a7, a8])), (h1, .inl (cB, 1500, .inl (upd (upd (upd f1 0 (vp_nar .byte y3)) 1 (vp_nar .byte y6)) 2 (vp_nar .byte y9))))] := hD
  refine lv_aload_n hx hb dX12_feed_6_67 rfl (lv_at hl 1 rfl) ?_
  refine lv_dup hx hb dX12_feed_6_68 rfl ?_
  refine va_get (D := (dC, dI)) (ci := 12) (v := .int 2) (C := RX12) (T := TX12) (N := 9) hx hb hts wh_X12_feed_6_X12 hown hK hP 0 rfl rfl 1 (by decide) (hts (.fieldLink RX12 13 "StreamHouse" "tapeLength" "I") (wm_X12_feed_6 0 rfl)) (fun _ h9 => h9) rfl dX12_feed_6_69 ?_
  refine lv_iconst (v := 1) hx hb dX12_feed_6_72 (by decide) ?_
  refine lv_iadd hx hb dX12_feed_6_73 ?_
  refine W.eq (g2 := F0 m 74 ls [.int 3, .ref h0]) rfl ?_
  refine va_put (D := (dC, dI)) (ci := 12) (v := .int 3) (ty := .int) (C := RX12) (T := TX12) (N := 9) hx hb hts wh_X12_feed_6_X12 tyX12 tyX12_ok nmX12 hown hK hP hD hS 0 rfl rfl 1 (by decide) (hts (.fieldLink RX12 13 "StreamHouse" "tapeLength" "I") (wm_X12_feed_6 0 rfl)) (fun _ h9 => h9) rfl (by decide +kernel) rfl rfl (Nat.le_of_ble_eq_true rfl) dX12_feed_6_74 (fun H locs hP hD hS => ?_)
  have hP : va_P (dC, dI) vwCl [(h0, .inr (12, [.ref h1, .int 3, a2, a3, a4, a5, a6, a7, a8])), (h1, .inl (cB, 1500, .inl (upd (upd (upd f1 0 (vp_nar .byte y3)) 1 (vp_nar .byte y6)) 2 (vp_nar .byte y9))))] H := hP
  have hD : va_D A [(h0, .inr (12, [.ref h1, .int 3, a2, a3, a4, a5, a6, a7, a8])), (h1, .inl (cB, 1500, .inl (upd (upd (upd f1 0 (vp_nar .byte y3)) 1 (vp_nar .byte y6)) 2 (vp_nar .byte y9))))] := hD
  refine lv_iinc (k := 0) (v := 2) (lv' := [(4, .int 2), (0, .ref h0), (1, .long g1), (3, .int 6)]) hx hb dX12_feed_6_77 hl rfl (by decide) (by decide) rfl (fun ls hl => ?_)
  refine lv_goto (tgt := 44) hx hb dX12_feed_6_80 (by decide) ?_
  refine lv_iload hx hb dX12_feed_6_44 (lv_at hl 0 rfl) ?_
  refine lv_if_lt (tgt := 83) hx hb dX12_feed_6_46 (by decide) (fun h9 => absurd h9 (by decide)) (fun _ => ?_)
  refine lv_aload_n hx hb dX12_feed_6_49 rfl (lv_at hl 1 rfl) ?_
  refine va_get (D := (dC, dI)) (ci := 12) (v := .ref h1) (C := RX12) (T := TX12) (N := 9) hx hb hts wh_X12_feed_6_X12 hown hK hP 0 rfl rfl 0 (by decide) (hts (.fieldLink RX12 9 "StreamHouse" "tape" "[B") (wm_X12_feed_6 1 rfl)) (fun _ h9 => h9) rfl dX12_feed_6_50 ?_
  refine lv_aload_n hx hb dX12_feed_6_53 rfl (lv_at hl 1 rfl) ?_
  refine va_get (D := (dC, dI)) (ci := 12) (v := .int 3) (C := RX12) (T := TX12) (N := 9) hx hb hts wh_X12_feed_6_X12 hown hK hP 0 rfl rfl 1 (by decide) (hts (.fieldLink RX12 13 "StreamHouse" "tapeLength" "I") (wm_X12_feed_6 0 rfl)) (fun _ h9 => h9) rfl dX12_feed_6_54 ?_
  refine lv_lload_n hx hb dX12_feed_6_57 rfl (lv_at hl 2 rfl) ?_
  refine lv_bipush (v := 8) hx hb dX12_feed_6_58 (by decide) ?_
  refine lv_iload hx hb dX12_feed_6_60 (lv_at hl 0 rfl) ?_
  refine lv_imul hx hb dX12_feed_6_62 ?_
  refine W.eq (g2 := F0 m 63 ls [.int 16, .long g1, .int 3, .ref h1]) rfl ?_
  refine lv_lushr (v := _) hx hb dX12_feed_6_63 rfl ?_
  refine lv_topl (fun y10 _ => ?_)
  refine lv_l2i (v := _) hx hb dX12_feed_6_64 rfl ?_
  refine lv_topi (fun y11 _ => ?_)
  refine lv_i2b (v := _) hx hb dX12_feed_6_65 rfl ?_
  refine lv_topi (fun y12 _ => ?_)
  refine va_bast hx hb hK hP hD hS 1 0 rfl rfl (by unfold vp_in; decide) dX12_feed_6_66 (fun H locs hP hD hS => ?_)
  have hP : va_P (dC, dI) vwCl [(h0, .inr (12, [.ref h1, .int 3, a2, a3, a4, a5, a6, a7, a8])), (h1, .inl (cB, 1500, .inl (upd (upd (upd (upd f1 0 (vp_nar .byte y3)) 1 (vp_nar .byte y6)) 2 (vp_nar .byte y9)) 3 (vp_nar .byte y12))))] H := hP
  have hD : va_D A [(h0, .inr (12, [.ref h1, .int 3, a2, a3, a4, a5, a6, a7, a8])), (h1, .inl (cB, 1500, .inl (upd (upd (upd (upd f1 0 (vp_nar .byte y3)) 1 (vp_nar .byte y6)) 2 (vp_nar .byte y9)) 3 (vp_nar .byte y12))))] := hD
  refine lv_aload_n hx hb dX12_feed_6_67 rfl (lv_at hl 1 rfl) ?_
  refine lv_dup hx hb dX12_feed_6_68 rfl ?_
  refine va_get (D := (dC, dI)) (ci := 12) (v := .int 3) (C := RX12) (T := TX12) (N := 9) hx hb hts wh_X12_feed_6_X12 hown hK hP 0 rfl rfl 1 (by decide) (hts (.fieldLink RX12 13 "StreamHouse" "tapeLength" "I") (wm_X12_feed_6 0 rfl)) (fun _ h9 => h9) rfl dX12_feed_6_69 ?_
  refine lv_iconst (v := 1) hx hb dX12_feed_6_72 (by decide) ?_
  refine lv_iadd hx hb dX12_feed_6_73 ?_
  refine W.eq (g2 := F0 m 74 ls [.int 4, .ref h0]) rfl ?_
  refine va_put (D := (dC, dI)) (ci := 12) (v := .int 4) (ty := .int) (C := RX12) (T := TX12) (N := 9) hx hb hts wh_X12_feed_6_X12 tyX12 tyX12_ok nmX12 hown hK hP hD hS 0 rfl rfl 1 (by decide) (hts (.fieldLink RX12 13 "StreamHouse" "tapeLength" "I") (wm_X12_feed_6 0 rfl)) (fun _ h9 => h9) rfl (by decide +kernel) rfl rfl (Nat.le_of_ble_eq_true rfl) dX12_feed_6_74 (fun H locs hP hD hS => ?_)
  have hP : va_P (dC, dI) vwCl [(h0, .inr (12, [.ref h1, .int 4, a2, a3, a4, a5, a6, a7, a8])), (h1, .inl (cB, 1500, .inl (upd (upd (upd (upd f1 0 (vp_nar .byte y3)) 1 (vp_nar .byte y6)) 2 (vp_nar .byte y9)) 3 (vp_nar .byte y12))))] H := hP
  have hD : va_D A [(h0, .inr (12, [.ref h1, .int 4, a2, a3, a4, a5, a6, a7, a8])), (h1, .inl (cB, 1500, .inl (upd (upd (upd (upd f1 0 (vp_nar .byte y3)) 1 (vp_nar .byte y6)) 2 (vp_nar .byte y9)) 3 (vp_nar .byte y12))))] := hD
  refine lv_iinc (k := 0) (v := 1) (lv' := [(4, .int 1), (0, .ref h0), (1, .long g1), (3, .int 6)]) hx hb dX12_feed_6_77 hl rfl (by decide) (by decide) rfl (fun ls hl => ?_)
  refine lv_goto (tgt := 44) hx hb dX12_feed_6_80 (by decide) ?_
  refine lv_iload hx hb dX12_feed_6_44 (lv_at hl 0 rfl) ?_
  refine lv_if_lt (tgt := 83) hx hb dX12_feed_6_46 (by decide) (fun h9 => absurd h9 (by decide)) (fun _ => ?_)
  refine lv_aload_n hx hb dX12_feed_6_49 rfl (lv_at hl 1 rfl) ?_
  refine va_get (D := (dC, dI)) (ci := 12) (v := .ref h1) (C := RX12) (T := TX12) (N := 9) hx hb hts wh_X12_feed_6_X12 hown hK hP 0 rfl rfl 0 (by decide) (hts (.fieldLink RX12 9 "StreamHouse" "tape" "[B") (wm_X12_feed_6 1 rfl)) (fun _ h9 => h9) rfl dX12_feed_6_50 ?_
  refine lv_aload_n hx hb dX12_feed_6_53 rfl (lv_at hl 1 rfl) ?_
  refine va_get (D := (dC, dI)) (ci := 12) (v := .int 4) (C := RX12) (T := TX12) (N := 9) hx hb hts wh_X12_feed_6_X12 hown hK hP 0 rfl rfl 1 (by decide) (hts (.fieldLink RX12 13 "StreamHouse" "tapeLength" "I") (wm_X12_feed_6 0 rfl)) (fun _ h9 => h9) rfl dX12_feed_6_54 ?_
  refine lv_lload_n hx hb dX12_feed_6_57 rfl (lv_at hl 2 rfl) ?_
  refine lv_bipush (v := 8) hx hb dX12_feed_6_58 (by decide) ?_
  refine lv_iload hx hb dX12_feed_6_60 (lv_at hl 0 rfl) ?_
  refine lv_imul hx hb dX12_feed_6_62 ?_
  refine W.eq (g2 := F0 m 63 ls [.int 8, .long g1, .int 4, .ref h1]) rfl ?_
  refine lv_lushr (v := _) hx hb dX12_feed_6_63 rfl ?_
  refine lv_topl (fun y13 _ => ?_)
  refine lv_l2i (v := _) hx hb dX12_feed_6_64 rfl ?_
  refine lv_topi (fun y14 _ => ?_)
  refine lv_i2b (v := _) hx hb dX12_feed_6_65 rfl ?_
  refine lv_topi (fun y15 _ => ?_)
  refine va_bast hx hb hK hP hD hS 1 0 rfl rfl (by unfold vp_in; decide) dX12_feed_6_66 (fun H locs hP hD hS => ?_)
  have hP : va_P (dC, dI) vwCl [(h0, .inr (12, [.ref h1, .int 4, a2, a3, a4, a5, a6, a7, a8])), (h1, .inl (cB, 1500, .inl (upd (upd (upd (upd (upd f1 0 (vp_nar .byte y3)) 1 (vp_nar .byte y6)) 2 (vp_nar .byte y9)) 3 (vp_nar .byte y12)) 4 (vp_nar .byte y15))))] H := hP
  have hD : va_D A [(h0, .inr (12, [.ref h1, .int 4, a2, a3, a4, a5, a6, a7, a8])), (h1, .inl (cB, 1500, .inl (upd (upd (upd (upd (upd f1 0 (vp_nar .byte y3)) 1 (vp_nar .byte y6)) 2 (vp_nar .byte y9)) 3 (vp_nar .byte y12)) 4 (vp_nar .byte y15))))] := hD
  refine lv_aload_n hx hb dX12_feed_6_67 rfl (lv_at hl 1 rfl) ?_
  refine lv_dup hx hb dX12_feed_6_68 rfl ?_
  refine va_get (D := (dC, dI)) (ci := 12) (v := .int 4) (C := RX12) (T := TX12) (N := 9) hx hb hts wh_X12_feed_6_X12 hown hK hP 0 rfl rfl 1 (by decide) (hts (.fieldLink RX12 13 "StreamHouse" "tapeLength" "I") (wm_X12_feed_6 0 rfl)) (fun _ h9 => h9) rfl dX12_feed_6_69 ?_
  refine lv_iconst (v := 1) hx hb dX12_feed_6_72 (by decide) ?_
  refine lv_iadd hx hb dX12_feed_6_73 ?_
  refine W.eq (g2 := F0 m 74 ls [.int 5, .ref h0]) rfl ?_
  refine va_put (D := (dC, dI)) (ci := 12) (v := .int 5) (ty := .int) (C := RX12) (T := TX12) (N := 9) hx hb hts wh_X12_feed_6_X12 tyX12 tyX12_ok nmX12 hown hK hP hD hS 0 rfl rfl 1 (by decide) (hts (.fieldLink RX12 13 "StreamHouse" "tapeLength" "I") (wm_X12_feed_6 0 rfl)) (fun _ h9 => h9) rfl (by decide +kernel) rfl rfl (Nat.le_of_ble_eq_true rfl) dX12_feed_6_74 (fun H locs hP hD hS => ?_)
  have hP : va_P (dC, dI) vwCl [(h0, .inr (12, [.ref h1, .int 5, a2, a3, a4, a5, a6, a7, a8])), (h1, .inl (cB, 1500, .inl (upd (upd (upd (upd (upd f1 0 (vp_nar .byte y3)) 1 (vp_nar .byte y6)) 2 (vp_nar .byte y9)) 3 (vp_nar .byte y12)) 4 (vp_nar .byte y15))))] H := hP
  have hD : va_D A [(h0, .inr (12, [.ref h1, .int 5, a2, a3, a4, a5, a6, a7, a8])), (h1, .inl (cB, 1500, .inl (upd (upd (upd (upd (upd f1 0 (vp_nar .byte y3)) 1 (vp_nar .byte y6)) 2 (vp_nar .byte y9)) 3 (vp_nar .byte y12)) 4 (vp_nar .byte y15))))] := hD
  refine lv_iinc (k := 0) (v := 0) (lv' := [(4, .int 0), (0, .ref h0), (1, .long g1), (3, .int 6)]) hx hb dX12_feed_6_77 hl rfl (by decide) (by decide) rfl (fun ls hl => ?_)
  refine lv_goto (tgt := 44) hx hb dX12_feed_6_80 (by decide) ?_
  refine lv_iload hx hb dX12_feed_6_44 (lv_at hl 0 rfl) ?_
  refine lv_if_lt (tgt := 83) hx hb dX12_feed_6_46 (by decide) (fun h9 => absurd h9 (by decide)) (fun _ => ?_)
  refine lv_aload_n hx hb dX12_feed_6_49 rfl (lv_at hl 1 rfl) ?_
  refine va_get (D := (dC, dI)) (ci := 12) (v := .ref h1) (C := RX12) (T := TX12) (N := 9) hx hb hts wh_X12_feed_6_X12 hown hK hP 0 rfl rfl 0 (by decide) (hts (.fieldLink RX12 9 "StreamHouse" "tape" "[B") (wm_X12_feed_6 1 rfl)) (fun _ h9 => h9) rfl dX12_feed_6_50 ?_
  refine lv_aload_n hx hb dX12_feed_6_53 rfl (lv_at hl 1 rfl) ?_
  refine va_get (D := (dC, dI)) (ci := 12) (v := .int 5) (C := RX12) (T := TX12) (N := 9) hx hb hts wh_X12_feed_6_X12 hown hK hP 0 rfl rfl 1 (by decide) (hts (.fieldLink RX12 13 "StreamHouse" "tapeLength" "I") (wm_X12_feed_6 0 rfl)) (fun _ h9 => h9) rfl dX12_feed_6_54 ?_
  refine lv_lload_n hx hb dX12_feed_6_57 rfl (lv_at hl 2 rfl) ?_
  refine lv_bipush (v := 8) hx hb dX12_feed_6_58 (by decide) ?_
  refine lv_iload hx hb dX12_feed_6_60 (lv_at hl 0 rfl) ?_
  refine lv_imul hx hb dX12_feed_6_62 ?_
  refine W.eq (g2 := F0 m 63 ls [.int 0, .long g1, .int 5, .ref h1]) rfl ?_
  refine lv_lushr (v := _) hx hb dX12_feed_6_63 rfl ?_
  refine lv_topl (fun y16 _ => ?_)
  refine lv_l2i (v := _) hx hb dX12_feed_6_64 rfl ?_
  refine lv_topi (fun y17 _ => ?_)
  refine lv_i2b (v := _) hx hb dX12_feed_6_65 rfl ?_
  refine lv_topi (fun y18 _ => ?_)
  refine va_bast hx hb hK hP hD hS 1 0 rfl rfl (by unfold vp_in; decide) dX12_feed_6_66 (fun H locs hP hD hS => ?_)
  have hP : va_P (dC, dI) vwCl [(h0, .inr (12, [.ref h1, .int 5, a2, a3, a4, a5, a6, a7, a8])), (h1, .inl (cB, 1500, .inl (upd (upd (upd (upd (upd (upd f1 0 (vp_nar .byte y3)) 1 (vp_nar .byte y6)) 2 (vp_nar .byte y9)) 3 (vp_nar .byte y12)) 4 (vp_nar .byte y15)) 5 (vp_nar .byte y18))))] H := hP
  have hD : va_D A [(h0, .inr (12, [.ref h1, .int 5, a2, a3, a4, a5, a6, a7, a8])), (h1, .inl (cB, 1500, .inl (upd (upd (upd (upd (upd (upd f1 0 (vp_nar .byte y3)) 1 (vp_nar .byte y6)) 2 (vp_nar .byte y9)) 3 (vp_nar .byte y12)) 4 (vp_nar .byte y15)) 5 (vp_nar .byte y18))))] := hD
  refine lv_aload_n hx hb dX12_feed_6_67 rfl (lv_at hl 1 rfl) ?_
  refine lv_dup hx hb dX12_feed_6_68 rfl ?_
  refine va_get (D := (dC, dI)) (ci := 12) (v := .int 5) (C := RX12) (T := TX12) (N := 9) hx hb hts wh_X12_feed_6_X12 hown hK hP 0 rfl rfl 1 (by decide) (hts (.fieldLink RX12 13 "StreamHouse" "tapeLength" "I") (wm_X12_feed_6 0 rfl)) (fun _ h9 => h9) rfl dX12_feed_6_69 ?_
  refine lv_iconst (v := 1) hx hb dX12_feed_6_72 (by decide) ?_
  refine lv_iadd hx hb dX12_feed_6_73 ?_
  refine W.eq (g2 := F0 m 74 ls [.int 6, .ref h0]) rfl ?_
  refine va_put (D := (dC, dI)) (ci := 12) (v := .int 6) (ty := .int) (C := RX12) (T := TX12) (N := 9) hx hb hts wh_X12_feed_6_X12 tyX12 tyX12_ok nmX12 hown hK hP hD hS 0 rfl rfl 1 (by decide) (hts (.fieldLink RX12 13 "StreamHouse" "tapeLength" "I") (wm_X12_feed_6 0 rfl)) (fun _ h9 => h9) rfl (by decide +kernel) rfl rfl (Nat.le_of_ble_eq_true rfl) dX12_feed_6_74 (fun H locs hP hD hS => ?_)
  have hP : va_P (dC, dI) vwCl [(h0, .inr (12, [.ref h1, .int 6, a2, a3, a4, a5, a6, a7, a8])), (h1, .inl (cB, 1500, .inl (upd (upd (upd (upd (upd (upd f1 0 (vp_nar .byte y3)) 1 (vp_nar .byte y6)) 2 (vp_nar .byte y9)) 3 (vp_nar .byte y12)) 4 (vp_nar .byte y15)) 5 (vp_nar .byte y18))))] H := hP
  have hD : va_D A [(h0, .inr (12, [.ref h1, .int 6, a2, a3, a4, a5, a6, a7, a8])), (h1, .inl (cB, 1500, .inl (upd (upd (upd (upd (upd (upd f1 0 (vp_nar .byte y3)) 1 (vp_nar .byte y6)) 2 (vp_nar .byte y9)) 3 (vp_nar .byte y12)) 4 (vp_nar .byte y15)) 5 (vp_nar .byte y18))))] := hD
  refine lv_iinc (k := 0) (v := (-1)) (lv' := [(4, .int ((-1))), (0, .ref h0), (1, .long g1), (3, .int 6)]) hx hb dX12_feed_6_77 hl rfl (by decide) (by decide) rfl (fun ls hl => ?_)
  refine lv_goto (tgt := 44) hx hb dX12_feed_6_80 (by decide) ?_
  refine lv_iload hx hb dX12_feed_6_44 (lv_at hl 0 rfl) ?_
  refine lv_if_lt (tgt := 83) hx hb dX12_feed_6_46 (by decide) (fun _ => ?_) (fun h9 => absurd (by decide) h9)
  refine lv_aload_n hx hb dX12_feed_6_83 rfl (lv_at hl 1 rfl) ?_
  refine va_get (D := (dC, dI)) (ci := 12) (v := .int 6) (C := RX12) (T := TX12) (N := 9) hx hb hts wh_X12_feed_6_X12 hown hK hP 0 rfl rfl 1 (by decide) (hts (.fieldLink RX12 13 "StreamHouse" "tapeLength" "I") (wm_X12_feed_6 0 rfl)) (fun _ h9 => h9) rfl dX12_feed_6_84 ?_
  have hP9 := hP.sub (ws' := [(h0, .inr (12, [.ref h1, .int 6, a2, a3, a4, a5, a6, a7, a8]))]) [0] rfl
  have hD9 := hD.sub (ws' := [(h0, .inr (12, [.ref h1, .int 6, a2, a3, a4, a5, a6, a7, a8]))]) [0] (by decide) rfl
  have hK9 := hK.sub (tys' := []) [] rfl
  refine W.widen (k := 0) (n := 0) (by decide) (by decide) ?_
  exact W.iret (v := 6) hx hb hr (fun t ht hW => ⟨⟨6, (), rfl, rfl, by rw [ht]; exact hP9, va_K.moved hW.alike hK9, hD9⟩, hS.F ht⟩) hS.2.2 dX12_feed_6_87

abbrev ar_X12_feed_7 (dC : Nat → ClassId) (dI : Nat → Nat → Nat) (A : Nat → Prop) (h0 h1 : Nat) (g1 : Int64) (cB : ClassId) (f1 : Nat → Int32) (a2 a3 a4 a5 a6 a7 a8 : Value) (_ : Unit) (t : State) : Prop := va_P (dC, dI) vwCl [(h0, .inr (12, [.ref h1, .int 7, a2, a3, a4, a5, a6, a7, a8]))] t.heap ∧ va_K (dC, dI) vwCl [] t ∧ va_D A [(h0, .inr (12, [.ref h1, .int 7, a2, a3, a4, a5, a6, a7, a8]))]
theorem dX12_feed_7_0 : decode cX12_feed 0 = .ok (.iload_n 3, 1) := by decide +kernel
theorem dX12_feed_7_1 : decode cX12_feed 1 = .ok (.iconst 1, 1) := by decide +kernel
theorem dX12_feed_7_2 : decode cX12_feed 2 = .ok (.if_icmp .lt 9, 3) := by decide +kernel
theorem dX12_feed_7_5 : decode cX12_feed 5 = .ok (.iload_n 3, 1) := by decide +kernel
theorem dX12_feed_7_6 : decode cX12_feed 6 = .ok (.bipush 8, 2) := by decide +kernel
theorem dX12_feed_7_8 : decode cX12_feed 8 = .ok (.if_icmp .le 11, 3) := by decide +kernel
theorem dX12_feed_7_19 : decode cX12_feed 19 = .ok (.aload_n 0, 1) := by decide +kernel
theorem dX12_feed_7_20 : decode cX12_feed 20 = .ok (.getfield 13, 3) := by decide +kernel
theorem dX12_feed_7_23 : decode cX12_feed 23 = .ok (.iload_n 3, 1) := by decide +kernel
theorem dX12_feed_7_24 : decode cX12_feed 24 = .ok (.iadd, 1) := by decide +kernel
theorem dX12_feed_7_25 : decode cX12_feed 25 = .ok (.sipush 1500, 3) := by decide +kernel
theorem dX12_feed_7_28 : decode cX12_feed 28 = .ok (.if_icmp .le 11, 3) := by decide +kernel
theorem dX12_feed_7_39 : decode cX12_feed 39 = .ok (.iload_n 3, 1) := by decide +kernel
theorem dX12_feed_7_40 : decode cX12_feed 40 = .ok (.iconst 1, 1) := by decide +kernel
theorem dX12_feed_7_41 : decode cX12_feed 41 = .ok (.isub, 1) := by decide +kernel
theorem dX12_feed_7_42 : decode cX12_feed 42 = .ok (.istore 4, 2) := by decide +kernel
theorem dX12_feed_7_44 : decode cX12_feed 44 = .ok (.iload 4, 2) := by decide +kernel
theorem dX12_feed_7_46 : decode cX12_feed 46 = .ok (.ifCond .lt 37, 3) := by decide +kernel
theorem dX12_feed_7_49 : decode cX12_feed 49 = .ok (.aload_n 0, 1) := by decide +kernel
theorem dX12_feed_7_50 : decode cX12_feed 50 = .ok (.getfield 9, 3) := by decide +kernel
theorem dX12_feed_7_53 : decode cX12_feed 53 = .ok (.aload_n 0, 1) := by decide +kernel
theorem dX12_feed_7_54 : decode cX12_feed 54 = .ok (.getfield 13, 3) := by decide +kernel
theorem dX12_feed_7_57 : decode cX12_feed 57 = .ok (.lload_n 1, 1) := by decide +kernel
theorem dX12_feed_7_58 : decode cX12_feed 58 = .ok (.bipush 8, 2) := by decide +kernel
theorem dX12_feed_7_60 : decode cX12_feed 60 = .ok (.iload 4, 2) := by decide +kernel
theorem dX12_feed_7_62 : decode cX12_feed 62 = .ok (.imul, 1) := by decide +kernel
theorem dX12_feed_7_63 : decode cX12_feed 63 = .ok (.lushr, 1) := by decide +kernel
theorem dX12_feed_7_64 : decode cX12_feed 64 = .ok (.l2i, 1) := by decide +kernel
theorem dX12_feed_7_65 : decode cX12_feed 65 = .ok (.i2b, 1) := by decide +kernel
theorem dX12_feed_7_66 : decode cX12_feed 66 = .ok (.bastore, 1) := by decide +kernel
theorem dX12_feed_7_67 : decode cX12_feed 67 = .ok (.aload_n 0, 1) := by decide +kernel
theorem dX12_feed_7_68 : decode cX12_feed 68 = .ok (.dup, 1) := by decide +kernel
theorem dX12_feed_7_69 : decode cX12_feed 69 = .ok (.getfield 13, 3) := by decide +kernel
theorem dX12_feed_7_72 : decode cX12_feed 72 = .ok (.iconst 1, 1) := by decide +kernel
theorem dX12_feed_7_73 : decode cX12_feed 73 = .ok (.iadd, 1) := by decide +kernel
theorem dX12_feed_7_74 : decode cX12_feed 74 = .ok (.putfield 13, 3) := by decide +kernel
theorem dX12_feed_7_77 : decode cX12_feed 77 = .ok (.iinc 4 (-1), 3) := by decide +kernel
theorem dX12_feed_7_80 : decode cX12_feed 80 = .ok (.goto (-36), 3) := by decide +kernel
theorem dX12_feed_7_83 : decode cX12_feed 83 = .ok (.aload_n 0, 1) := by decide +kernel
theorem dX12_feed_7_84 : decode cX12_feed 84 = .ok (.getfield 13, 3) := by decide +kernel
theorem dX12_feed_7_87 : decode cX12_feed 87 = .ok (.ireturn, 1) := by decide +kernel
def ww_X12_feed_7 : List Cond := [.fieldLink RX12 13 "StreamHouse" "tapeLength" "I", .fieldLink RX12 9 "StreamHouse" "tape" "[B"]
def wv_X12_feed_7 : List Cond := .code yX12_feed cX12_feed 5 (some .int) :: (ww_X12_feed_7 ++ (u_ws RX12 TX12 9 ++ []))
theorem wm_X12_feed_7 {w : Cond} (i : Nat) (h : ww_X12_feed_7[i]? = some w) : w ∈ wv_X12_feed_7 := List.mem_cons_of_mem _ (List.mem_append_left _ (List.mem_of_getElem? h))
set_option maxRecDepth 100000 in
theorem gw_X12_feed_7 : wv_X12_feed_7.all goodWord = true := by decide +kernel
theorem wh_X12_feed_7_X12 : ∀ w ∈ u_ws RX12 TX12 9, w ∈ wv_X12_feed_7 := fun w h => List.mem_cons_of_mem _ (List.mem_append_right _ (List.mem_append_left _ h))
set_option maxHeartbeats 4000000 in
set_option maxRecDepth 100000 in
/-- feed(g, 7) of a fresh house: 7 -/
theorem r_X12_feed_7 (l : Launch) (dC : Nat → ClassId) (dI : Nat → Nat → Nat) (h0 h1 : Nat) (g1 : Int64) (cB : ClassId) (f1 : Nat → Int32) (a2 a3 a4 a5 a6 a7 a8 : Value) (sz : Nat) : Met l yX12_feed wv_X12_feed_7 ({ frames := 0, cells := 0, slots := 0, locals := 0 }) (va_Pc [.ref h0, .long g1, .int 7] (fun U => U.heap.size = sz ∧ va_P (dC, dI) vwCl [(h0, .inr (12, [.ref h1, .int 0, a2, a3, a4, a5, a6, a7, a8])), (h1, .inl (cB, 1500, .inl f1))] U.heap ∧ va_K (dC, dI) vwCl [(cB, .byte)] U ∧ va_D (fun _ => True) [(h0, .inr (12, [.ref h1, .int 0, a2, a3, a4, a5, a6, a7, a8])), (h1, .inl (cB, 1500, .inl f1))])) (va_Qi (fun r (_ : Unit) => r = 7) (ar_X12_feed_7 dC dI (va_A [(h0, .inr (12, [.ref h1, .int 0, a2, a3, a4, a5, a6, a7, a8])), (h1, .inl (cB, 1500, .inl f1))] sz) h0 h1 g1 cB f1 a2 a3 a4 a5 a6 a7 a8) (va_A [(h0, .inr (12, [.ref h1, .int 0, a2, a3, a4, a5, a6, a7, a8])), (h1, .inl (cB, 1500, .inl f1))] sz)) 0 0 (va_A [(h0, .inr (12, [.ref h1, .int 0, a2, a3, a4, a5, a6, a7, a8])), (h1, .inl (cB, 1500, .inl f1))] sz) := by
  refine Met.ofW (cc := cX12_feed) (maxL := 5) (ret := (some .int)) (by decide) rfl ?_
  intro p e s m args below meth c s₁ B hml hv
  obtain ⟨rfl, hsz, hP, hK, hD0⟩ := hv
  have hx := B.exec
  have hb := B.bytes
  have hr := B.returns
  have hts := atoms_spec (ws := wv_X12_feed_7) B.pre
  have hown : s.vm.findClass RX12 = some m.cls := findClass_of_methodNamed B.named
  have hlocks := B.notSynchronized
  subst hsz
  have hD := hD0.self (sz := s.heap.size)
  generalize hAe : va_A [(h0, .inr (12, [.ref h1, .int 0, a2, a3, a4, a5, a6, a7, a8])), (h1, .inl (cB, 1500, .inl f1))] s.heap.size = A at hD ⊢
  have hA : ∀ q : Nat, s.heap.size ≤ q → A q := fun q h => by rw [← hAe]; exact Or.inr h
  have hS : va_S A s.heap s.heap [] := va_S.rf
  have hP : va_P (dC, dI) vwCl [(h0, .inr (12, [.ref h1, .int 0, a2, a3, a4, a5, a6, a7, a8])), (h1, .inl (cB, 1500, .inl f1))] s.heap := hP
  have hl := lv_entry ([.ref h0, .long g1, .int 7]) (n := 5) (Nat.le_of_ble_eq_true rfl)
  rw [lg_entry_eq]
  generalize (lg_sl ([.ref h0, .long g1, .int 7]) ++ List.replicate (5 - (lg_sl ([.ref h0, .long g1, .int 7])).length) Slot.unset).toArray = ls at hl ⊢
  have hl : lv_has ls 5 [(0, .ref h0), (1, .long g1), (3, .int 7)] := hl
  refine lv_iload_n hx hb dX12_feed_7_0 rfl (lv_at hl 2 rfl) ?_
  refine lv_iconst (v := 1) hx hb dX12_feed_7_1 (by decide) ?_
  refine lv_icmp_lt (tgt := 11) hx hb dX12_feed_7_2 (by decide) (fun h9 => absurd h9 (by decide)) (fun _ => ?_)
  refine lv_iload_n hx hb dX12_feed_7_5 rfl (lv_at hl 2 rfl) ?_
  refine lv_bipush (v := 8) hx hb dX12_feed_7_6 (by decide) ?_
  refine lv_icmp_le (tgt := 19) hx hb dX12_feed_7_8 (by decide) (fun _ => ?_) (fun h9 => absurd (by decide) h9)
  refine lv_aload_n hx hb dX12_feed_7_19 rfl (lv_at hl 0 rfl) ?_
  refine va_get (D := (dC, dI)) (ci := 12) (v := .int 0) (C := RX12) (T := TX12) (N := 9) hx hb hts wh_X12_feed_7_X12 hown hK hP 0 rfl rfl 1 (by decide) (hts (.fieldLink RX12 13 "StreamHouse" "tapeLength" "I") (wm_X12_feed_7 0 rfl)) (fun _ h9 => h9) rfl dX12_feed_7_20 ?_
  refine lv_iload_n hx hb dX12_feed_7_23 rfl (lv_at hl 2 rfl) ?_
  refine lv_iadd hx hb dX12_feed_7_24 ?_
  refine W.eq (g2 := F0 m 25 ls [.int 7]) rfl ?_
  refine lv_sipush (v := 1500) hx hb dX12_feed_7_25 (by decide) ?_
  refine lv_icmp_le (tgt := 39) hx hb dX12_feed_7_28 (by decide) (fun _ => ?_) (fun h9 => absurd (by decide) h9)
  refine lv_iload_n hx hb dX12_feed_7_39 rfl (lv_at hl 2 rfl) ?_
  refine lv_iconst (v := 1) hx hb dX12_feed_7_40 (by decide) ?_
  refine lv_isub hx hb dX12_feed_7_41 ?_
  refine W.eq (g2 := F0 m 42 ls [.int 6]) rfl ?_
  refine lv_istore (lv' := [(4, .int 6), (0, .ref h0), (1, .long g1), (3, .int 7)]) hx hb dX12_feed_7_42 hl (by decide) rfl (fun ls hl => ?_)
  refine lv_iload hx hb dX12_feed_7_44 (lv_at hl 0 rfl) ?_
  refine lv_if_lt (tgt := 83) hx hb dX12_feed_7_46 (by decide) (fun h9 => absurd h9 (by decide)) (fun _ => ?_)
  refine lv_aload_n hx hb dX12_feed_7_49 rfl (lv_at hl 1 rfl) ?_
  refine va_get (D := (dC, dI)) (ci := 12) (v := .ref h1) (C := RX12) (T := TX12) (N := 9) hx hb hts wh_X12_feed_7_X12 hown hK hP 0 rfl rfl 0 (by decide) (hts (.fieldLink RX12 9 "StreamHouse" "tape" "[B") (wm_X12_feed_7 1 rfl)) (fun _ h9 => h9) rfl dX12_feed_7_50 ?_
  refine lv_aload_n hx hb dX12_feed_7_53 rfl (lv_at hl 1 rfl) ?_
  refine va_get (D := (dC, dI)) (ci := 12) (v := .int 0) (C := RX12) (T := TX12) (N := 9) hx hb hts wh_X12_feed_7_X12 hown hK hP 0 rfl rfl 1 (by decide) (hts (.fieldLink RX12 13 "StreamHouse" "tapeLength" "I") (wm_X12_feed_7 0 rfl)) (fun _ h9 => h9) rfl dX12_feed_7_54 ?_
  refine lv_lload_n hx hb dX12_feed_7_57 rfl (lv_at hl 2 rfl) ?_
  refine lv_bipush (v := 8) hx hb dX12_feed_7_58 (by decide) ?_
  refine lv_iload hx hb dX12_feed_7_60 (lv_at hl 0 rfl) ?_
  refine lv_imul hx hb dX12_feed_7_62 ?_
  refine W.eq (g2 := F0 m 63 ls [.int 48, .long g1, .int 0, .ref h1]) rfl ?_
  refine lv_lushr (v := _) hx hb dX12_feed_7_63 rfl ?_
  refine lv_topl (fun y1 _ => ?_)
  refine lv_l2i (v := _) hx hb dX12_feed_7_64 rfl ?_
  refine lv_topi (fun y2 _ => ?_)
  refine lv_i2b (v := _) hx hb dX12_feed_7_65 rfl ?_
  refine lv_topi (fun y3 _ => ?_)
  refine va_bast hx hb hK hP hD hS 1 0 rfl rfl (by unfold vp_in; decide) dX12_feed_7_66 (fun H locs hP hD hS => ?_)
  have hP : va_P (dC, dI) vwCl [(h0, .inr (12, [.ref h1, .int 0, a2, a3, a4, a5, a6, a7, a8])), (h1, .inl (cB, 1500, .inl (upd f1 0 (vp_nar .byte y3))))] H := hP
  have hD : va_D A [(h0, .inr (12, [.ref h1, .int 0, a2, a3, a4, a5, a6, a7, a8])), (h1, .inl (cB, 1500, .inl (upd f1 0 (vp_nar .byte y3))))] := hD
  refine lv_aload_n hx hb dX12_feed_7_67 rfl (lv_at hl 1 rfl) ?_
  refine lv_dup hx hb dX12_feed_7_68 rfl ?_
  refine va_get (D := (dC, dI)) (ci := 12) (v := .int 0) (C := RX12) (T := TX12) (N := 9) hx hb hts wh_X12_feed_7_X12 hown hK hP 0 rfl rfl 1 (by decide) (hts (.fieldLink RX12 13 "StreamHouse" "tapeLength" "I") (wm_X12_feed_7 0 rfl)) (fun _ h9 => h9) rfl dX12_feed_7_69 ?_
  refine lv_iconst (v := 1) hx hb dX12_feed_7_72 (by decide) ?_
  refine lv_iadd hx hb dX12_feed_7_73 ?_
  refine W.eq (g2 := F0 m 74 ls [.int 1, .ref h0]) rfl ?_
  refine va_put (D := (dC, dI)) (ci := 12) (v := .int 1) (ty := .int) (C := RX12) (T := TX12) (N := 9) hx hb hts wh_X12_feed_7_X12 tyX12 tyX12_ok nmX12 hown hK hP hD hS 0 rfl rfl 1 (by decide) (hts (.fieldLink RX12 13 "StreamHouse" "tapeLength" "I") (wm_X12_feed_7 0 rfl)) (fun _ h9 => h9) rfl (by decide +kernel) rfl rfl (Nat.le_of_ble_eq_true rfl) dX12_feed_7_74 (fun H locs hP hD hS => ?_)
  have hP : va_P (dC, dI) vwCl [(h0, .inr (12, [.ref h1, .int 1, a2, a3, a4, a5, a6, a7, a8])), (h1, .inl (cB, 1500, .inl (upd f1 0 (vp_nar .byte y3))))] H := hP
  have hD : va_D A [(h0, .inr (12, [.ref h1, .int 1, a2, a3, a4, a5, a6, a7, a8])), (h1, .inl (cB, 1500, .inl (upd f1 0 (vp_nar .byte y3))))] := hD
  refine lv_iinc (k := 0) (v := 5) (lv' := [(4, .int 5), (0, .ref h0), (1, .long g1), (3, .int 7)]) hx hb dX12_feed_7_77 hl rfl (by decide) (by decide) rfl (fun ls hl => ?_)
  refine lv_goto (tgt := 44) hx hb dX12_feed_7_80 (by decide) ?_
  refine lv_iload hx hb dX12_feed_7_44 (lv_at hl 0 rfl) ?_
  refine lv_if_lt (tgt := 83) hx hb dX12_feed_7_46 (by decide) (fun h9 => absurd h9 (by decide)) (fun _ => ?_)
  refine lv_aload_n hx hb dX12_feed_7_49 rfl (lv_at hl 1 rfl) ?_
  refine va_get (D := (dC, dI)) (ci := 12) (v := .ref h1) (C := RX12) (T := TX12) (N := 9) hx hb hts wh_X12_feed_7_X12 hown hK hP 0 rfl rfl 0 (by decide) (hts (.fieldLink RX12 9 "StreamHouse" "tape" "[B") (wm_X12_feed_7 1 rfl)) (fun _ h9 => h9) rfl dX12_feed_7_50 ?_
  refine lv_aload_n hx hb dX12_feed_7_53 rfl (lv_at hl 1 rfl) ?_
  refine va_get (D := (dC, dI)) (ci := 12) (v := .int 1) (C := RX12) (T := TX12) (N := 9) hx hb hts wh_X12_feed_7_X12 hown hK hP 0 rfl rfl 1 (by decide) (hts (.fieldLink RX12 13 "StreamHouse" "tapeLength" "I") (wm_X12_feed_7 0 rfl)) (fun _ h9 => h9) rfl dX12_feed_7_54 ?_
  refine lv_lload_n hx hb dX12_feed_7_57 rfl (lv_at hl 2 rfl) ?_
  refine lv_bipush (v := 8) hx hb dX12_feed_7_58 (by decide) ?_
  refine lv_iload hx hb dX12_feed_7_60 (lv_at hl 0 rfl) ?_
  refine lv_imul hx hb dX12_feed_7_62 ?_
  refine W.eq (g2 := F0 m 63 ls [.int 40, .long g1, .int 1, .ref h1]) rfl ?_
  refine lv_lushr (v := _) hx hb dX12_feed_7_63 rfl ?_
  refine lv_topl (fun y4 _ => ?_)
  refine lv_l2i (v := _) hx hb dX12_feed_7_64 rfl ?_
  refine lv_topi (fun y5 _ => ?_)
  refine lv_i2b (v := _) hx hb dX12_feed_7_65 rfl ?_
  refine lv_topi (fun y6 _ => ?_)
  refine va_bast hx hb hK hP hD hS 1 0 rfl rfl (by unfold vp_in; decide) dX12_feed_7_66 (fun H locs hP hD hS => ?_)
  have hP : va_P (dC, dI) vwCl [(h0, .inr (12, [.ref h1, .int 1, a2, a3, a4, a5, a6, a7, a8])), (h1, .inl (cB, 1500, .inl (upd (upd f1 0 (vp_nar .byte y3)) 1 (vp_nar .byte y6))))] H := hP
  have hD : va_D A [(h0, .inr (12, [.ref h1, .int 1, a2, a3, a4, a5, a6, a7, a8])), (h1, .inl (cB, 1500, .inl (upd (upd f1 0 (vp_nar .byte y3)) 1 (vp_nar .byte y6))))] := hD
  refine lv_aload_n hx hb dX12_feed_7_67 rfl (lv_at hl 1 rfl) ?_
  refine lv_dup hx hb dX12_feed_7_68 rfl ?_
  refine va_get (D := (dC, dI)) (ci := 12) (v := .int 1) (C := RX12) (T := TX12) (N := 9) hx hb hts wh_X12_feed_7_X12 hown hK hP 0 rfl rfl 1 (by decide) (hts (.fieldLink RX12 13 "StreamHouse" "tapeLength" "I") (wm_X12_feed_7 0 rfl)) (fun _ h9 => h9) rfl dX12_feed_7_69 ?_
  refine lv_iconst (v := 1) hx hb dX12_feed_7_72 (by decide) ?_
  refine lv_iadd hx hb dX12_feed_7_73 ?_
  refine W.eq (g2 := F0 m 74 ls [.int 2, .ref h0]) rfl ?_
  refine va_put (D := (dC, dI)) (ci := 12) (v := .int 2) (ty := .int) (C := RX12) (T := TX12) (N := 9) hx hb hts wh_X12_feed_7_X12 tyX12 tyX12_ok nmX12 hown hK hP hD hS 0 rfl rfl 1 (by decide) (hts (.fieldLink RX12 13 "StreamHouse" "tapeLength" "I") (wm_X12_feed_7 0 rfl)) (fun _ h9 => h9) rfl (by decide +kernel) rfl rfl (Nat.le_of_ble_eq_true rfl) dX12_feed_7_74 (fun H locs hP hD hS => ?_)
  have hP : va_P (dC, dI) vwCl [(h0, .inr (12, [.ref h1, .int 2, a2, a3, a4, a5, a6, a7, a8])), (h1, .inl (cB, 1500, .inl (upd (upd f1 0 (vp_nar .byte y3)) 1 (vp_nar .byte y6))))] H := hP
  have hD : va_D A [(h0, .inr (12, [.ref h1, .int 2, a2, a3, a4, a5, a6, a7, a8])), (h1, .inl (cB, 1500, .inl (upd (upd f1 0 (vp_nar .byte y3)) 1 (vp_nar .byte y6))))] := hD
  refine lv_iinc (k := 0) (v := 4) (lv' := [(4, .int 4), (0, .ref h0), (1, .long g1), (3, .int 7)]) hx hb dX12_feed_7_77 hl rfl (by decide) (by decide) rfl (fun ls hl => ?_)
  refine lv_goto (tgt := 44) hx hb dX12_feed_7_80 (by decide) ?_
  refine lv_iload hx hb dX12_feed_7_44 (lv_at hl 0 rfl) ?_
  refine lv_if_lt (tgt := 83) hx hb dX12_feed_7_46 (by decide) (fun h9 => absurd h9 (by decide)) (fun _ => ?_)
  refine lv_aload_n hx hb dX12_feed_7_49 rfl (lv_at hl 1 rfl) ?_
  refine va_get (D := (dC, dI)) (ci := 12) (v := .ref h1) (C := RX12) (T := TX12) (N := 9) hx hb hts wh_X12_feed_7_X12 hown hK hP 0 rfl rfl 0 (by decide) (hts (.fieldLink RX12 9 "StreamHouse" "tape" "[B") (wm_X12_feed_7 1 rfl)) (fun _ h9 => h9) rfl dX12_feed_7_50 ?_
  refine lv_aload_n hx hb dX12_feed_7_53 rfl (lv_at hl 1 rfl) ?_
  refine va_get (D := (dC, dI)) (ci := 12) (v := .int 2) (C := RX12) (T := TX12) (N := 9) hx hb hts wh_X12_feed_7_X12 hown hK hP 0 rfl rfl 1 (by decide) (hts (.fieldLink RX12 13 "StreamHouse" "tapeLength" "I") (wm_X12_feed_7 0 rfl)) (fun _ h9 => h9) rfl dX12_feed_7_54 ?_
  refine lv_lload_n hx hb dX12_feed_7_57 rfl (lv_at hl 2 rfl) ?_
  refine lv_bipush (v := 8) hx hb dX12_feed_7_58 (by decide) ?_
  refine lv_iload hx hb dX12_feed_7_60 (lv_at hl 0 rfl) ?_
  refine lv_imul hx hb dX12_feed_7_62 ?_
  refine W.eq (g2 := F0 m 63 ls [.int 32, .long g1, .int 2, .ref h1]) rfl ?_
  refine lv_lushr (v := _) hx hb dX12_feed_7_63 rfl ?_
  refine lv_topl (fun y7 _ => ?_)
  refine lv_l2i (v := _) hx hb dX12_feed_7_64 rfl ?_
  refine lv_topi (fun y8 _ => ?_)
  refine lv_i2b (v := _) hx hb dX12_feed_7_65 rfl ?_
  refine lv_topi (fun y9 _ => ?_)
  refine va_bast hx hb hK hP hD hS 1 0 rfl rfl (by unfold vp_in; decide) dX12_feed_7_66 (fun H locs hP hD hS => ?_)
  have hP : va_P (dC, dI) vwCl [(h0, .inr (12, [.ref h1, .int 2, a2, a3, a4, a5, a6, a7, a8])), (h1, .inl (cB, 1500, .inl (upd (upd (upd f1 0 (vp_nar .byte y3)) 1 (vp_nar .byte y6)) 2 (vp_nar .byte y9))))] H := hP
  have hD : va_D A [(h0, .inr (12, [.ref h1, .int 2, a2, a3, a4, a5, a6, a7, a8])), (h1, .inl (cB, 1500, .inl (upd (upd (upd f1 0 (vp_nar .byte y3)) 1 (vp_nar .byte y6)) 2 (vp_nar .byte y9))))] := hD
  refine lv_aload_n hx hb dX12_feed_7_67 rfl (lv_at hl 1 rfl) ?_
  refine lv_dup hx hb dX12_feed_7_68 rfl ?_
  refine va_get (D := (dC, dI)) (ci := 12) (v := .int 2) (C := RX12) (T := TX12) (N := 9) hx hb hts wh_X12_feed_7_X12 hown hK hP 0 rfl rfl 1 (by decide) (hts (.fieldLink RX12 13 "StreamHouse" "tapeLength" "I") (wm_X12_feed_7 0 rfl)) (fun _ h9 => h9) rfl dX12_feed_7_69 ?_
  refine lv_iconst (v := 1) hx hb dX12_feed_7_72 (by decide) ?_
  refine lv_iadd hx hb dX12_feed_7_73 ?_
  refine W.eq (g2 := F0 m 74 ls [.int 3, .ref h0]) rfl ?_
  refine va_put (D := (dC, dI)) (ci := 12) (v := .int 3) (ty := .int) (C := RX12) (T := TX12) (N := 9) hx hb hts wh_X12_feed_7_X12 tyX12 tyX12_ok nmX12 hown hK hP hD hS 0 rfl rfl 1 (by decide) (hts (.fieldLink RX12 13 "StreamHouse" "tapeLength" "I") (wm_X12_feed_7 0 rfl)) (fun _ h9 => h9) rfl (by decide +kernel) rfl rfl (Nat.le_of_ble_eq_true rfl) dX12_feed_7_74 (fun H locs hP hD hS => ?_)
  have hP : va_P (dC, dI) vwCl [(h0, .inr (12, [.ref h1, .int 3, a2, a3, a4, a5, a6, a7, a8])), (h1, .inl (cB, 1500, .inl (upd (upd (upd f1 0 (vp_nar .byte y3)) 1 (vp_nar .byte y6)) 2 (vp_nar .byte y9))))] H := hP
  have hD : va_D A [(h0, .inr (12, [.ref h1, .int 3, a2, a3, a4, a5, a6, a7, a8])), (h1, .inl (cB, 1500, .inl (upd (upd (upd f1 0 (vp_nar .byte y3)) 1 (vp_nar .byte y6)) 2 (vp_nar .byte y9))))] := hD
  refine lv_iinc (k := 0) (v := 3) (lv' := [(4, .int 3), (0, .ref h0), (1, .long g1), (3, .int 7)]) hx hb dX12_feed_7_77 hl rfl (by decide) (by decide) rfl (fun ls hl => ?_)
  refine lv_goto (tgt := 44) hx hb dX12_feed_7_80 (by decide) ?_
  refine lv_iload hx hb dX12_feed_7_44 (lv_at hl 0 rfl) ?_
  refine lv_if_lt (tgt := 83) hx hb dX12_feed_7_46 (by decide) (fun h9 => absurd h9 (by decide)) (fun _ => ?_)
  refine lv_aload_n hx hb dX12_feed_7_49 rfl (lv_at hl 1 rfl) ?_
  refine va_get (D := (dC, dI)) (ci := 12) (v := .ref h1) (C := RX12) (T := TX12) (N := 9) hx hb hts wh_X12_feed_7_X12 hown hK hP 0 rfl rfl 0 (by decide) (hts (.fieldLink RX12 9 "StreamHouse" "tape" "[B") (wm_X12_feed_7 1 rfl)) (fun _ h9 => h9) rfl dX12_feed_7_50 ?_
  refine lv_aload_n hx hb dX12_feed_7_53 rfl (lv_at hl 1 rfl) ?_
  refine va_get (D := (dC, dI)) (ci := 12) (v := .int 3) (C := RX12) (T := TX12) (N := 9) hx hb hts wh_X12_feed_7_X12 hown hK hP 0 rfl rfl 1 (by decide) (hts (.fieldLink RX12 13 "StreamHouse" "tapeLength" "I") (wm_X12_feed_7 0 rfl)) (fun _ h9 => h9) rfl dX12_feed_7_54 ?_
  refine lv_lload_n hx hb dX12_feed_7_57 rfl (lv_at hl 2 rfl) ?_
  refine lv_bipush (v := 8) hx hb dX12_feed_7_58 (by decide) ?_
  refine lv_iload hx hb dX12_feed_7_60 (lv_at hl 0 rfl) ?_
  refine lv_imul hx hb dX12_feed_7_62 ?_
  refine W.eq (g2 := F0 m 63 ls [.int 24, .long g1, .int 3, .ref h1]) rfl ?_
  refine lv_lushr (v := _) hx hb dX12_feed_7_63 rfl ?_
  refine lv_topl (fun y10 _ => ?_)
  refine lv_l2i (v := _) hx hb dX12_feed_7_64 rfl ?_
  refine lv_topi (fun y11 _ => ?_)
  refine lv_i2b (v := _) hx hb dX12_feed_7_65 rfl ?_
  refine lv_topi (fun y12 _ => ?_)
  refine va_bast hx hb hK hP hD hS 1 0 rfl rfl (by unfold vp_in; decide) dX12_feed_7_66 (fun H locs hP hD hS => ?_)
  have hP : va_P (dC, dI) vwCl [(h0, .inr (12, [.ref h1, .int 3, a2, a3, a4, a5, a6, a7, a8])), (h1, .inl (cB, 1500, .inl (upd (upd (upd (upd f1 0 (vp_nar .byte y3)) 1 (vp_nar .byte y6)) 2 (vp_nar .byte y9)) 3 (vp_nar .byte y12))))] H := hP
  have hD : va_D A [(h0, .inr (12, [.ref h1, .int 3, a2, a3, a4, a5, a6, a7, a8])), (h1, .inl (cB, 1500, .inl (upd (upd (upd (upd f1 0 (vp_nar .byte y3)) 1 (vp_nar .byte y6)) 2 (vp_nar .byte y9)) 3 (vp_nar .byte y12))))] := hD
  refine lv_aload_n hx hb dX12_feed_7_67 rfl (lv_at hl 1 rfl) ?_
  refine lv_dup hx hb dX12_feed_7_68 rfl ?_
  refine va_get (D := (dC, dI)) (ci := 12) (v := .int 3) (C := RX12) (T := TX12) (N := 9) hx hb hts wh_X12_feed_7_X12 hown hK hP 0 rfl rfl 1 (by decide) (hts (.fieldLink RX12 13 "StreamHouse" "tapeLength" "I") (wm_X12_feed_7 0 rfl)) (fun _ h9 => h9) rfl dX12_feed_7_69 ?_
  refine lv_iconst (v := 1) hx hb dX12_feed_7_72 (by decide) ?_
  refine lv_iadd hx hb dX12_feed_7_73 ?_
  refine W.eq (g2 := F0 m 74 ls [.int 4, .ref h0]) rfl ?_
  refine va_put (D := (dC, dI)) (ci := 12) (v := .int 4) (ty := .int) (C := RX12) (T := TX12) (N := 9) hx hb hts wh_X12_feed_7_X12 tyX12 tyX12_ok nmX12 hown hK hP hD hS 0 rfl rfl 1 (by decide) (hts (.fieldLink RX12 13 "StreamHouse" "tapeLength" "I") (wm_X12_feed_7 0 rfl)) (fun _ h9 => h9) rfl (by decide +kernel) rfl rfl (Nat.le_of_ble_eq_true rfl) dX12_feed_7_74 (fun H locs hP hD hS => ?_)
  have hP : va_P (dC, dI) vwCl [(h0, .inr (12, [.ref h1, .int 4, a2, a3, a4, a5, a6, a7, a8])), (h1, .inl (cB, 1500, .inl (upd (upd (upd (upd f1 0 (vp_nar .byte y3)) 1 (vp_nar .byte y6)) 2 (vp_nar .byte y9)) 3 (vp_nar .byte y12))))] H := hP
  have hD : va_D A [(h0, .inr (12, [.ref h1, .int 4, a2, a3, a4, a5, a6, a7, a8])), (h1, .inl (cB, 1500, .inl (upd (upd (upd (upd f1 0 (vp_nar .byte y3)) 1 (vp_nar .byte y6)) 2 (vp_nar .byte y9)) 3 (vp_nar .byte y12))))] := hD
  refine lv_iinc (k := 0) (v := 2) (lv' := [(4, .int 2), (0, .ref h0), (1, .long g1), (3, .int 7)]) hx hb dX12_feed_7_77 hl rfl (by decide) (by decide) rfl (fun ls hl => ?_)
  refine lv_goto (tgt := 44) hx hb dX12_feed_7_80 (by decide) ?_
  refine lv_iload hx hb dX12_feed_7_44 (lv_at hl 0 rfl) ?_
  refine lv_if_lt (tgt := 83) hx hb dX12_feed_7_46 (by decide) (fun h9 => absurd h9 (by decide)) (fun _ => ?_)
  refine lv_aload_n hx hb dX12_feed_7_49 rfl (lv_at hl 1 rfl) ?_
  refine va_get (D := (dC, dI)) (ci := 12) (v := .ref h1) (C := RX12) (T := TX12) (N := 9) hx hb hts wh_X12_feed_7_X12 hown hK hP 0 rfl rfl 0 (by decide) (hts (.fieldLink RX12 9 "StreamHouse" "tape" "[B") (wm_X12_feed_7 1 rfl)) (fun _ h9 => h9) rfl dX12_feed_7_50 ?_
  refine lv_aload_n hx hb dX12_feed_7_53 rfl (lv_at hl 1 rfl) ?_
  refine va_get (D := (dC, dI)) (ci := 12) (v := .int 4) (C := RX12) (T := TX12) (N := 9) hx hb hts wh_X12_feed_7_X12 hown hK hP 0 rfl rfl 1 (by decide) (hts (.fieldLink RX12 13 "StreamHouse" "tapeLength" "I") (wm_X12_feed_7 0 rfl)) (fun _ h9 => h9) rfl dX12_feed_7_54 ?_
  refine lv_lload_n hx hb dX12_feed_7_57 rfl (lv_at hl 2 rfl) ?_
  refine lv_bipush (v := 8) hx hb dX12_feed_7_58 (by decide) ?_
  refine lv_iload hx hb dX12_feed_7_60 (lv_at hl 0 rfl) ?_
  refine lv_imul hx hb dX12_feed_7_62 ?_
  refine W.eq (g2 := F0 m 63 ls [.int 16, .long g1, .int 4, .ref h1]) rfl ?_
  refine lv_lushr (v := _) hx hb dX12_feed_7_63 rfl ?_
  refine lv_topl (fun y13 _ => ?_)
  refine lv_l2i (v := _) hx hb dX12_feed_7_64 rfl ?_
  refine lv_topi (fun y14 _ => ?_)
  refine lv_i2b (v := _) hx hb dX12_feed_7_65 rfl ?_
  refine lv_topi (fun y15 _ => ?_)
  refine va_bast hx hb hK hP hD hS 1 0 rfl rfl (by unfold vp_in; decide) dX12_feed_7_66 (fun H locs hP hD hS => ?_)
  have hP : va_P (dC, dI) vwCl [(h0, .inr (12, [.ref h1, .int 4, a2, a3, a4, a5, a6, a7, a8])), (h1, .inl (cB, 1500, .inl (upd (upd (upd (upd (upd f1 0 (vp_nar .byte y3)) 1 (vp_nar .byte y6)) 2 (vp_nar .byte y9)) 3 (vp_nar .byte y12)) 4 (vp_nar .byte y15))))] H := hP
  have hD : va_D A [(h0, .inr (12, [.ref h1, .int 4, a2, a3, a4, a5, a6, a7, a8])), (h1, .inl (cB, 1500, .inl (upd (upd (upd (upd (upd f1 0 (vp_nar .byte y3)) 1 (vp_nar .byte y6)) 2 (vp_nar .byte y9)) 3 (vp_nar .byte y12)) 4 (vp_nar .byte y15))))] := hD
  refine lv_aload_n hx hb dX12_feed_7_67 rfl (lv_at hl 1 rfl) ?_
  refine lv_dup hx hb dX12_feed_7_68 rfl ?_
  refine va_get (D := (dC, dI)) (ci := 12) (v := .int 4) (C := RX12) (T := TX12) (N := 9) hx hb hts wh_X12_feed_7_X12 hown hK hP 0 rfl rfl 1 (by decide) (hts (.fieldLink RX12 13 "StreamHouse" "tapeLength" "I") (wm_X12_feed_7 0 rfl)) (fun _ h9 => h9) rfl dX12_feed_7_69 ?_
  refine lv_iconst (v := 1) hx hb dX12_feed_7_72 (by decide) ?_
  refine lv_iadd hx hb dX12_feed_7_73 ?_
  refine W.eq (g2 := F0 m 74 ls [.int 5, .ref h0]) rfl ?_
  refine va_put (D := (dC, dI)) (ci := 12) (v := .int 5) (ty := .int) (C := RX12) (T := TX12) (N := 9) hx hb hts wh_X12_feed_7_X12 tyX12 tyX12_ok nmX12 hown hK hP hD hS 0 rfl rfl 1 (by decide) (hts (.fieldLink RX12 13 "StreamHouse" "tapeLength" "I") (wm_X12_feed_7 0 rfl)) (fun _ h9 => h9) rfl (by decide +kernel) rfl rfl (Nat.le_of_ble_eq_true rfl) dX12_feed_7_74 (fun H locs hP hD hS => ?_)
  have hP : va_P (dC, dI) vwCl [(h0, .inr (12, [.ref h1, .int 5, a2, a3, a4, a5, a6, a7, a8])), (h1, .inl (cB, 1500, .inl (upd (upd (upd (upd (upd f1 0 (vp_nar .byte y3)) 1 (vp_nar .byte y6)) 2 (vp_nar .byte y9)) 3 (vp_nar .byte y12)) 4 (vp_nar .byte y15))))] H := hP
  have hD : va_D A [(h0, .inr (12, [.ref h1, .int 5, a2, a3, a4, a5, a6, a7, a8])), (h1, .inl (cB, 1500, .inl (upd (upd (upd (upd (upd f1 0 (vp_nar .byte y3)) 1 (vp_nar .byte y6)) 2 (vp_nar .byte y9)) 3 (vp_nar .byte y12)) 4 (vp_nar .byte y15))))] := hD
  refine lv_iinc (k := 0) (v := 1) (lv' := [(4, .int 1), (0, .ref h0), (1, .long g1), (3, .int 7)]) hx hb dX12_feed_7_77 hl rfl (by decide) (by decide) rfl (fun ls hl => ?_)
  refine lv_goto (tgt := 44) hx hb dX12_feed_7_80 (by decide) ?_
  refine lv_iload hx hb dX12_feed_7_44 (lv_at hl 0 rfl) ?_
  refine lv_if_lt (tgt := 83) hx hb dX12_feed_7_46 (by decide) (fun h9 => absurd h9 (by decide)) (fun _ => ?_)
  refine lv_aload_n hx hb dX12_feed_7_49 rfl (lv_at hl 1 rfl) ?_
  refine va_get (D := (dC, dI)) (ci := 12) (v := .ref h1) (C := RX12) (T := TX12) (N := 9) hx hb hts wh_X12_feed_7_X12 hown hK hP 0 rfl rfl 0 (by decide) (hts (.fieldLink RX12 9 "StreamHouse" "tape" "[B") (wm_X12_feed_7 1 rfl)) (fun _ h9 => h9) rfl dX12_feed_7_50 ?_
  refine lv_aload_n hx hb dX12_feed_7_53 rfl (lv_at hl 1 rfl) ?_
  refine va_get (D := (dC, dI)) (ci := 12) (v := .int 5) (C := RX12) (T := TX12) (N := 9) hx hb hts wh_X12_feed_7_X12 hown hK hP 0 rfl rfl 1 (by decide) (hts (.fieldLink RX12 13 "StreamHouse" "tapeLength" "I") (wm_X12_feed_7 0 rfl)) (fun _ h9 => h9) rfl dX12_feed_7_54 ?_
  refine lv_lload_n hx hb dX12_feed_7_57 rfl (lv_at hl 2 rfl) ?_
  refine lv_bipush (v := 8) hx hb dX12_feed_7_58 (by decide) ?_
  refine lv_iload hx hb dX12_feed_7_60 (lv_at hl 0 rfl) ?_
  refine lv_imul hx hb dX12_feed_7_62 ?_
  refine W.eq (g2 := F0 m 63 ls [.int 8, .long g1, .int 5, .ref h1]) rfl ?_
  refine lv_lushr (v := _) hx hb dX12_feed_7_63 rfl ?_
  refine lv_topl (fun y16 _ => ?_)
  refine lv_l2i (v := _) hx hb dX12_feed_7_64 rfl ?_
  refine lv_topi (fun y17 _ => ?_)
  refine lv_i2b (v := _) hx hb dX12_feed_7_65 rfl ?_
  refine lv_topi (fun y18 _ => ?_)
  refine va_bast hx hb hK hP hD hS 1 0 rfl rfl (by unfold vp_in; decide) dX12_feed_7_66 (fun H locs hP hD hS => ?_)
  have hP : va_P (dC, dI) vwCl [(h0, .inr (12, [.ref h1, .int 5, a2, a3, a4, a5, a6, a7, a8])), (h1, .inl (cB, 1500, .inl (upd (upd (upd (upd (upd (upd f1 0 (vp_nar .byte y3)) 1 (vp_nar .byte y6)) 2 (vp_nar .byte y9)) 3 (vp_nar .byte y12)) 4 (vp_nar .byte y15)) 5 (vp_nar .byte y18))))] H := hP
  have hD : va_D A [(h0, .inr (12, [.ref h1, .int 5, a2, a3, a4, a5, a6, a7, a8])), (h1, .inl (cB, 1500, .inl (upd (upd (upd (upd (upd (upd f1 0 (vp_nar .byte y3)) 1 (vp_nar .byte y6)) 2 (vp_nar .byte y9)) 3 (vp_nar .byte y12)) 4 (vp_nar .byte y15)) 5 (vp_nar .byte y18))))] := hD
  refine lv_aload_n hx hb dX12_feed_7_67 rfl (lv_at hl 1 rfl) ?_
  refine lv_dup hx hb dX12_feed_7_68 rfl ?_
  refine va_get (D := (dC, dI)) (ci := 12) (v := .int 5) (C := RX12) (T := TX12) (N := 9) hx hb hts wh_X12_feed_7_X12 hown hK hP 0 rfl rfl 1 (by decide) (hts (.fieldLink RX12 13 "StreamHouse" "tapeLength" "I") (wm_X12_feed_7 0 rfl)) (fun _ h9 => h9) rfl dX12_feed_7_69 ?_
  refine lv_iconst (v := 1) hx hb dX12_feed_7_72 (by decide) ?_
  refine lv_iadd hx hb dX12_feed_7_73 ?_
  refine W.eq (g2 := F0 m 74 ls [.int 6, .ref h0]) rfl ?_
  refine va_put (D := (dC, dI)) (ci := 12) (v := .int 6) (ty := .int) (C := RX12) (T := TX12) (N := 9) hx hb hts wh_X12_feed_7_X12 tyX12 tyX12_ok nmX12 hown hK hP hD hS 0 rfl rfl 1 (by decide) (hts (.fieldLink RX12 13 "StreamHouse" "tapeLength" "I") (wm_X12_feed_7 0 rfl)) (fun _ h9 => h9) rfl (by decide +kernel) rfl rfl (Nat.le_of_ble_eq_true rfl) dX12_feed_7_74 (fun H locs hP hD hS => ?_)
  have hP : va_P (dC, dI) vwCl [(h0, .inr (12, [.ref h1, .int 6, a2, a3, a4, a5, a6, a7, a8])), (h1, .inl (cB, 1500, .inl (upd (upd (upd (upd (upd (upd f1 0 (vp_nar .byte y3)) 1 (vp_nar .byte y6)) 2 (vp_nar .byte y9)) 3 (vp_nar .byte y12)) 4 (vp_nar .byte y15)) 5 (vp_nar .byte y18))))] H := hP
  have hD : va_D A [(h0, .inr (12, [.ref h1, .int 6, a2, a3, a4, a5, a6, a7, a8])), (h1, .inl (cB, 1500, .inl (upd (upd (upd (upd (upd (upd f1 0 (vp_nar .byte y3)) 1 (vp_nar .byte y6)) 2 (vp_nar .byte y9)) 3 (vp_nar .byte y12)) 4 (vp_nar .byte y15)) 5 (vp_nar .byte y18))))] := hD
  refine lv_iinc (k := 0) (v := 0) (lv' := [(4, .int 0), (0, .ref h0), (1, .long g1), (3, .int 7)]) hx hb dX12_feed_7_77 hl rfl (by decide) (by decide) rfl (fun ls hl => ?_)
  refine lv_goto (tgt := 44) hx hb dX12_feed_7_80 (by decide) ?_
  refine lv_iload hx hb dX12_feed_7_44 (lv_at hl 0 rfl) ?_
  refine lv_if_lt (tgt := 83) hx hb dX12_feed_7_46 (by decide) (fun h9 => absurd h9 (by decide)) (fun _ => ?_)
  refine lv_aload_n hx hb dX12_feed_7_49 rfl (lv_at hl 1 rfl) ?_
  refine va_get (D := (dC, dI)) (ci := 12) (v := .ref h1) (C := RX12) (T := TX12) (N := 9) hx hb hts wh_X12_feed_7_X12 hown hK hP 0 rfl rfl 0 (by decide) (hts (.fieldLink RX12 9 "StreamHouse" "tape" "[B") (wm_X12_feed_7 1 rfl)) (fun _ h9 => h9) rfl dX12_feed_7_50 ?_
  refine lv_aload_n hx hb dX12_feed_7_53 rfl (lv_at hl 1 rfl) ?_
  refine va_get (D := (dC, dI)) (ci := 12) (v := .int 6) (C := RX12) (T := TX12) (N := 9) hx hb hts wh_X12_feed_7_X12 hown hK hP 0 rfl rfl 1 (by decide) (hts (.fieldLink RX12 13 "StreamHouse" "tapeLength" "I") (wm_X12_feed_7 0 rfl)) (fun _ h9 => h9) rfl dX12_feed_7_54 ?_
  refine lv_lload_n hx hb dX12_feed_7_57 rfl (lv_at hl 2 rfl) ?_
  refine lv_bipush (v := 8) hx hb dX12_feed_7_58 (by decide) ?_
  refine lv_iload hx hb dX12_feed_7_60 (lv_at hl 0 rfl) ?_
  refine lv_imul hx hb dX12_feed_7_62 ?_
  refine W.eq (g2 := F0 m 63 ls [.int 0, .long g1, .int 6, .ref h1]) rfl ?_
  refine lv_lushr (v := _) hx hb dX12_feed_7_63 rfl ?_
  refine lv_topl (fun y19 _ => ?_)
  refine lv_l2i (v := _) hx hb dX12_feed_7_64 rfl ?_
  refine lv_topi (fun y20 _ => ?_)
  refine lv_i2b (v := _) hx hb dX12_feed_7_65 rfl ?_
  refine lv_topi (fun y21 _ => ?_)
  refine va_bast hx hb hK hP hD hS 1 0 rfl rfl (by unfold vp_in; decide) dX12_feed_7_66 (fun H locs hP hD hS => ?_)
  have hP : va_P (dC, dI) vwCl [(h0, .inr (12, [.ref h1, .int 6, a2, a3, a4, a5, a6, a7, a8])), (h1, .inl (cB, 1500, .inl (upd (upd (upd (upd (upd (upd (upd f1 0 (vp_nar .byte y3)) 1 (vp_nar .byte y6)) 2 (vp_nar .byte y9)) 3 (vp_nar .byte y12)) 4 (vp_nar .byte y15)) 5 (vp_nar .byte y18)) 6 (vp_nar .byte y21))))] H := hP
  have hD : va_D A [(h0, .inr (12, [.ref h1, .int 6, a2, a3, a4, a5, a6, a7, a8])), (h1, .inl (cB, 1500, .inl (upd (upd (upd (upd (upd (upd (upd f1 0 (vp_nar .byte y3)) 1 (vp_nar .byte y6)) 2 (vp_nar .byte y9)) 3 (vp_nar .byte y12)) 4 (vp_nar .byte y15)) 5 (vp_nar .byte y18)) 6 (vp_nar .byte y21))))] := hD
  refine lv_aload_n hx hb dX12_feed_7_67 rfl (lv_at hl 1 rfl) ?_
  refine lv_dup hx hb dX12_feed_7_68 rfl ?_
  refine va_get (D := (dC, dI)) (ci := 12) (v := .int 6) (C := RX12) (T := TX12) (N := 9) hx hb hts wh_X12_feed_7_X12 hown hK hP 0 rfl rfl 1 (by decide) (hts (.fieldLink RX12 13 "StreamHouse" "tapeLength" "I") (wm_X12_feed_7 0 rfl)) (fun _ h9 => h9) rfl dX12_feed_7_69 ?_
  refine lv_iconst (v := 1) hx hb dX12_feed_7_72 (by decide) ?_
  refine lv_iadd hx hb dX12_feed_7_73 ?_
  refine W.eq (g2 := F0 m 74 ls [.int 7, .ref h0]) rfl ?_
  refine va_put (D := (dC, dI)) (ci := 12) (v := .int 7) (ty := .int) (C := RX12) (T := TX12) (N := 9) hx hb hts wh_X12_feed_7_X12 tyX12 tyX12_ok nmX12 hown hK hP hD hS 0 rfl rfl 1 (by decide) (hts (.fieldLink RX12 13 "StreamHouse" "tapeLength" "I") (wm_X12_feed_7 0 rfl)) (fun _ h9 => h9) rfl (by decide +kernel) rfl rfl (Nat.le_of_ble_eq_true rfl) dX12_feed_7_74 (fun H locs hP hD hS => ?_)
  have hP : va_P (dC, dI) vwCl [(h0, .inr (12, [.ref h1, .int 7, a2, a3, a4, a5, a6, a7, a8])), (h1, .inl (cB, 1500, .inl (upd (upd (upd (upd (upd (upd (upd f1 0 (vp_nar .byte y3)) 1 (vp_nar .byte y6)) 2 (vp_nar .byte y9)) 3 (vp_nar .byte y12)) 4 (vp_nar .byte y15)) 5 (vp_nar .byte y18)) 6 (vp_nar .byte y21))))] H := hP
  have hD : va_D A [(h0, .inr (12, [.ref h1, .int 7, a2, a3, a4, a5, a6, a7, a8])), (h1, .inl (cB, 1500, .inl (upd (upd (upd (upd (upd (upd (upd f1 0 (vp_nar .byte y3)) 1 (vp_nar .byte y6)) 2 (vp_nar .byte y9)) 3 (vp_nar .byte y12)) 4 (vp_nar .byte y15)) 5 (vp_nar .byte y18)) 6 (vp_nar .byte y21))))] := hD
  refine lv_iinc (k := 0) (v := (-1)) (lv' := [(4, .int ((-1))), (0, .ref h0), (1, .long g1), (3, .int 7)]) hx hb dX12_feed_7_77 hl rfl (by decide) (by decide) rfl (fun ls hl => ?_)
  refine lv_goto (tgt := 44) hx hb dX12_feed_7_80 (by decide) ?_
  refine lv_iload hx hb dX12_feed_7_44 (lv_at hl 0 rfl) ?_
  refine lv_if_lt (tgt := 83) hx hb dX12_feed_7_46 (by decide) (fun _ => ?_) (fun h9 => absurd (by decide) h9)
  refine lv_aload_n hx hb dX12_feed_7_83 rfl (lv_at hl 1 rfl) ?_
  refine va_get (D := (dC, dI)) (ci := 12) (v := .int 7) (C := RX12) (T := TX12) (N := 9) hx hb hts wh_X12_feed_7_X12 hown hK hP 0 rfl rfl 1 (by decide) (hts (.fieldLink RX12 13 "StreamHouse" "tapeLength" "I") (wm_X12_feed_7 0 rfl)) (fun _ h9 => h9) rfl dX12_feed_7_84 ?_
  have hP9 := hP.sub (ws' := [(h0, .inr (12, [.ref h1, .int 7, a2, a3, a4, a5, a6, a7, a8]))]) [0] rfl
  have hD9 := hD.sub (ws' := [(h0, .inr (12, [.ref h1, .int 7, a2, a3, a4, a5, a6, a7, a8]))]) [0] (by decide) rfl
  have hK9 := hK.sub (tys' := []) [] rfl
  refine W.widen (k := 0) (n := 0) (by decide) (by decide) ?_
  exact W.iret (v := 7) hx hb hr (fun t ht hW => ⟨⟨7, (), rfl, rfl, by rw [ht]; exact hP9, va_K.moved hW.alike hK9, hD9⟩, hS.F ht⟩) hS.2.2 dX12_feed_7_87

abbrev ar_X12_feed_8 (dC : Nat → ClassId) (dI : Nat → Nat → Nat) (A : Nat → Prop) (h0 h1 : Nat) (g1 : Int64) (cB : ClassId) (f1 : Nat → Int32) (a2 a3 a4 a5 a6 a7 a8 : Value) (_ : Unit) (t : State) : Prop := va_P (dC, dI) vwCl [(h0, .inr (12, [.ref h1, .int 8, a2, a3, a4, a5, a6, a7, a8]))] t.heap ∧ va_K (dC, dI) vwCl [] t ∧ va_D A [(h0, .inr (12, [.ref h1, .int 8, a2, a3, a4, a5, a6, a7, a8]))]
theorem dX12_feed_8_0 : decode cX12_feed 0 = .ok (.iload_n 3, 1) := by decide +kernel
theorem dX12_feed_8_1 : decode cX12_feed 1 = .ok (.iconst 1, 1) := by decide +kernel
theorem dX12_feed_8_2 : decode cX12_feed 2 = .ok (.if_icmp .lt 9, 3) := by decide +kernel
theorem dX12_feed_8_5 : decode cX12_feed 5 = .ok (.iload_n 3, 1) := by decide +kernel
theorem dX12_feed_8_6 : decode cX12_feed 6 = .ok (.bipush 8, 2) := by decide +kernel
theorem dX12_feed_8_8 : decode cX12_feed 8 = .ok (.if_icmp .le 11, 3) := by decide +kernel
theorem dX12_feed_8_19 : decode cX12_feed 19 = .ok (.aload_n 0, 1) := by decide +kernel
theorem dX12_feed_8_20 : decode cX12_feed 20 = .ok (.getfield 13, 3) := by decide +kernel
theorem dX12_feed_8_23 : decode cX12_feed 23 = .ok (.iload_n 3, 1) := by decide +kernel
theorem dX12_feed_8_24 : decode cX12_feed 24 = .ok (.iadd, 1) := by decide +kernel
theorem dX12_feed_8_25 : decode cX12_feed 25 = .ok (.sipush 1500, 3) := by decide +kernel
theorem dX12_feed_8_28 : decode cX12_feed 28 = .ok (.if_icmp .le 11, 3) := by decide +kernel
theorem dX12_feed_8_39 : decode cX12_feed 39 = .ok (.iload_n 3, 1) := by decide +kernel
theorem dX12_feed_8_40 : decode cX12_feed 40 = .ok (.iconst 1, 1) := by decide +kernel
theorem dX12_feed_8_41 : decode cX12_feed 41 = .ok (.isub, 1) := by decide +kernel
theorem dX12_feed_8_42 : decode cX12_feed 42 = .ok (.istore 4, 2) := by decide +kernel
theorem dX12_feed_8_44 : decode cX12_feed 44 = .ok (.iload 4, 2) := by decide +kernel
theorem dX12_feed_8_46 : decode cX12_feed 46 = .ok (.ifCond .lt 37, 3) := by decide +kernel
theorem dX12_feed_8_49 : decode cX12_feed 49 = .ok (.aload_n 0, 1) := by decide +kernel
theorem dX12_feed_8_50 : decode cX12_feed 50 = .ok (.getfield 9, 3) := by decide +kernel
theorem dX12_feed_8_53 : decode cX12_feed 53 = .ok (.aload_n 0, 1) := by decide +kernel
theorem dX12_feed_8_54 : decode cX12_feed 54 = .ok (.getfield 13, 3) := by decide +kernel
theorem dX12_feed_8_57 : decode cX12_feed 57 = .ok (.lload_n 1, 1) := by decide +kernel
theorem dX12_feed_8_58 : decode cX12_feed 58 = .ok (.bipush 8, 2) := by decide +kernel
theorem dX12_feed_8_60 : decode cX12_feed 60 = .ok (.iload 4, 2) := by decide +kernel
theorem dX12_feed_8_62 : decode cX12_feed 62 = .ok (.imul, 1) := by decide +kernel
theorem dX12_feed_8_63 : decode cX12_feed 63 = .ok (.lushr, 1) := by decide +kernel
theorem dX12_feed_8_64 : decode cX12_feed 64 = .ok (.l2i, 1) := by decide +kernel
theorem dX12_feed_8_65 : decode cX12_feed 65 = .ok (.i2b, 1) := by decide +kernel
theorem dX12_feed_8_66 : decode cX12_feed 66 = .ok (.bastore, 1) := by decide +kernel
theorem dX12_feed_8_67 : decode cX12_feed 67 = .ok (.aload_n 0, 1) := by decide +kernel
theorem dX12_feed_8_68 : decode cX12_feed 68 = .ok (.dup, 1) := by decide +kernel
theorem dX12_feed_8_69 : decode cX12_feed 69 = .ok (.getfield 13, 3) := by decide +kernel
theorem dX12_feed_8_72 : decode cX12_feed 72 = .ok (.iconst 1, 1) := by decide +kernel
theorem dX12_feed_8_73 : decode cX12_feed 73 = .ok (.iadd, 1) := by decide +kernel
theorem dX12_feed_8_74 : decode cX12_feed 74 = .ok (.putfield 13, 3) := by decide +kernel
theorem dX12_feed_8_77 : decode cX12_feed 77 = .ok (.iinc 4 (-1), 3) := by decide +kernel
theorem dX12_feed_8_80 : decode cX12_feed 80 = .ok (.goto (-36), 3) := by decide +kernel
theorem dX12_feed_8_83 : decode cX12_feed 83 = .ok (.aload_n 0, 1) := by decide +kernel
theorem dX12_feed_8_84 : decode cX12_feed 84 = .ok (.getfield 13, 3) := by decide +kernel
theorem dX12_feed_8_87 : decode cX12_feed 87 = .ok (.ireturn, 1) := by decide +kernel
def ww_X12_feed_8 : List Cond := [.fieldLink RX12 13 "StreamHouse" "tapeLength" "I", .fieldLink RX12 9 "StreamHouse" "tape" "[B"]
def wv_X12_feed_8 : List Cond := .code yX12_feed cX12_feed 5 (some .int) :: (ww_X12_feed_8 ++ (u_ws RX12 TX12 9 ++ []))
theorem wm_X12_feed_8 {w : Cond} (i : Nat) (h : ww_X12_feed_8[i]? = some w) : w ∈ wv_X12_feed_8 := List.mem_cons_of_mem _ (List.mem_append_left _ (List.mem_of_getElem? h))
set_option maxRecDepth 100000 in
theorem gw_X12_feed_8 : wv_X12_feed_8.all goodWord = true := by decide +kernel
theorem wh_X12_feed_8_X12 : ∀ w ∈ u_ws RX12 TX12 9, w ∈ wv_X12_feed_8 := fun w h => List.mem_cons_of_mem _ (List.mem_append_right _ (List.mem_append_left _ h))
set_option maxHeartbeats 4000000 in
set_option maxRecDepth 100000 in
/-- feed(g, 8) of a fresh house: 8 -/
theorem r_X12_feed_8 (l : Launch) (dC : Nat → ClassId) (dI : Nat → Nat → Nat) (h0 h1 : Nat) (g1 : Int64) (cB : ClassId) (f1 : Nat → Int32) (a2 a3 a4 a5 a6 a7 a8 : Value) (sz : Nat) : Met l yX12_feed wv_X12_feed_8 ({ frames := 0, cells := 0, slots := 0, locals := 0 }) (va_Pc [.ref h0, .long g1, .int 8] (fun U => U.heap.size = sz ∧ va_P (dC, dI) vwCl [(h0, .inr (12, [.ref h1, .int 0, a2, a3, a4, a5, a6, a7, a8])), (h1, .inl (cB, 1500, .inl f1))] U.heap ∧ va_K (dC, dI) vwCl [(cB, .byte)] U ∧ va_D (fun _ => True) [(h0, .inr (12, [.ref h1, .int 0, a2, a3, a4, a5, a6, a7, a8])), (h1, .inl (cB, 1500, .inl f1))])) (va_Qi (fun r (_ : Unit) => r = 8) (ar_X12_feed_8 dC dI (va_A [(h0, .inr (12, [.ref h1, .int 0, a2, a3, a4, a5, a6, a7, a8])), (h1, .inl (cB, 1500, .inl f1))] sz) h0 h1 g1 cB f1 a2 a3 a4 a5 a6 a7 a8) (va_A [(h0, .inr (12, [.ref h1, .int 0, a2, a3, a4, a5, a6, a7, a8])), (h1, .inl (cB, 1500, .inl f1))] sz)) 0 0 (va_A [(h0, .inr (12, [.ref h1, .int 0, a2, a3, a4, a5, a6, a7, a8])), (h1, .inl (cB, 1500, .inl f1))] sz) := by
  refine Met.ofW (cc := cX12_feed) (maxL := 5) (ret := (some .int)) (by decide) rfl ?_
  intro p e s m args below meth c s₁ B hml hv
  obtain ⟨rfl, hsz, hP, hK, hD0⟩ := hv
  have hx := B.exec
  have hb := B.bytes
  have hr := B.returns
  have hts := atoms_spec (ws := wv_X12_feed_8) B.pre
  have hown : s.vm.findClass RX12 = some m.cls := findClass_of_methodNamed B.named
  have hlocks := B.notSynchronized
  subst hsz
  have hD := hD0.self (sz := s.heap.size)
  generalize hAe : va_A [(h0, .inr (12, [.ref h1, .int 0, a2, a3, a4, a5, a6, a7, a8])), (h1, .inl (cB, 1500, .inl f1))] s.heap.size = A at hD ⊢
  have hA : ∀ q : Nat, s.heap.size ≤ q → A q := fun q h => by rw [← hAe]; exact Or.inr h
  have hS : va_S A s.heap s.heap [] := va_S.rf
  have hP : va_P (dC, dI) vwCl [(h0, .inr (12, [.ref h1, .int 0, a2, a3, a4, a5, a6, a7, a8])), (h1, .inl (cB, 1500, .inl f1))] s.heap := hP
  have hl := lv_entry ([.ref h0, .long g1, .int 8]) (n := 5) (Nat.le_of_ble_eq_true rfl)
  rw [lg_entry_eq]
  generalize (lg_sl ([.ref h0, .long g1, .int 8]) ++ List.replicate (5 - (lg_sl ([.ref h0, .long g1, .int 8])).length) Slot.unset).toArray = ls at hl ⊢
  have hl : lv_has ls 5 [(0, .ref h0), (1, .long g1), (3, .int 8)] := hl
  refine lv_iload_n hx hb dX12_feed_8_0 rfl (lv_at hl 2 rfl) ?_
  refine lv_iconst (v := 1) hx hb dX12_feed_8_1 (by decide) ?_
  refine lv_icmp_lt (tgt := 11) hx hb dX12_feed_8_2 (by decide) (fun h9 => absurd h9 (by decide)) (fun _ => ?_)
  refine lv_iload_n hx hb dX12_feed_8_5 rfl (lv_at hl 2 rfl) ?_
  refine lv_bipush (v := 8) hx hb dX12_feed_8_6 (by decide) ?_
  refine lv_icmp_le (tgt := 19) hx hb dX12_feed_8_8 (by decide) (fun _ => ?_) (fun h9 => absurd (by decide) h9)
  refine lv_aload_n hx hb dX12_feed_8_19 rfl (lv_at hl 0 rfl) ?_
  refine va_get (D := (dC, dI)) (ci := 12) (v := .int 0) (C := RX12) (T := TX12) (N := 9) hx hb hts wh_X12_feed_8_X12 hown hK hP 0 rfl rfl 1 (by decide) (hts (.fieldLink RX12 13 "StreamHouse" "tapeLength" "I") (wm_X12_feed_8 0 rfl)) (fun _ h9 => h9) rfl dX12_feed_8_20 ?_
  refine lv_iload_n hx hb dX12_feed_8_23 rfl (lv_at hl 2 rfl) ?_
  refine lv_iadd hx hb dX12_feed_8_24 ?_
  refine W.eq (g2 := F0 m 25 ls [.int 8]) rfl ?_
  refine lv_sipush (v := 1500) hx hb dX12_feed_8_25 (by decide) ?_
  refine lv_icmp_le (tgt := 39) hx hb dX12_feed_8_28 (by decide) (fun _ => ?_) (fun h9 => absurd (by decide) h9)
  refine lv_iload_n hx hb dX12_feed_8_39 rfl (lv_at hl 2 rfl) ?_
  refine lv_iconst (v := 1) hx hb dX12_feed_8_40 (by decide) ?_
  refine lv_isub hx hb dX12_feed_8_41 ?_
  refine W.eq (g2 := F0 m 42 ls [.int 7]) rfl ?_
  refine lv_istore (lv' := [(4, .int 7), (0, .ref h0), (1, .long g1), (3, .int 8)]) hx hb dX12_feed_8_42 hl (by decide) rfl (fun ls hl => ?_)
  refine lv_iload hx hb dX12_feed_8_44 (lv_at hl 0 rfl) ?_
  refine lv_if_lt (tgt := 83) hx hb dX12_feed_8_46 (by decide) (fun h9 => absurd h9 (by decide)) (fun _ => ?_)
  refine lv_aload_n hx hb dX12_feed_8_49 rfl (lv_at hl 1 rfl) ?_
  refine va_get (D := (dC, dI)) (ci := 12) (v := .ref h1) (C := RX12) (T := TX12) (N := 9) hx hb hts wh_X12_feed_8_X12 hown hK hP 0 rfl rfl 0 (by decide) (hts (.fieldLink RX12 9 "StreamHouse" "tape" "[B") (wm_X12_feed_8 1 rfl)) (fun _ h9 => h9) rfl dX12_feed_8_50 ?_
  refine lv_aload_n hx hb dX12_feed_8_53 rfl (lv_at hl 1 rfl) ?_
  refine va_get (D := (dC, dI)) (ci := 12) (v := .int 0) (C := RX12) (T := TX12) (N := 9) hx hb hts wh_X12_feed_8_X12 hown hK hP 0 rfl rfl 1 (by decide) (hts (.fieldLink RX12 13 "StreamHouse" "tapeLength" "I") (wm_X12_feed_8 0 rfl)) (fun _ h9 => h9) rfl dX12_feed_8_54 ?_
  refine lv_lload_n hx hb dX12_feed_8_57 rfl (lv_at hl 2 rfl) ?_
  refine lv_bipush (v := 8) hx hb dX12_feed_8_58 (by decide) ?_
  refine lv_iload hx hb dX12_feed_8_60 (lv_at hl 0 rfl) ?_
  refine lv_imul hx hb dX12_feed_8_62 ?_
  refine W.eq (g2 := F0 m 63 ls [.int 56, .long g1, .int 0, .ref h1]) rfl ?_
  refine lv_lushr (v := _) hx hb dX12_feed_8_63 rfl ?_
  refine lv_topl (fun y1 _ => ?_)
  refine lv_l2i (v := _) hx hb dX12_feed_8_64 rfl ?_
  refine lv_topi (fun y2 _ => ?_)
  refine lv_i2b (v := _) hx hb dX12_feed_8_65 rfl ?_
  refine lv_topi (fun y3 _ => ?_)
  refine va_bast hx hb hK hP hD hS 1 0 rfl rfl (by unfold vp_in; decide) dX12_feed_8_66 (fun H locs hP hD hS => ?_)
  have hP : va_P (dC, dI) vwCl [(h0, .inr (12, [.ref h1, .int 0, a2, a3, a4, a5, a6, a7, a8])), (h1, .inl (cB, 1500, .inl (upd f1 0 (vp_nar .byte y3))))] H := hP
  have hD : va_D A [(h0, .inr (12, [.ref h1, .int 0, a2, a3, a4, a5, a6, a7, a8])), (h1, .inl (cB, 1500, .inl (upd f1 0 (vp_nar .byte y3))))] := hD
  refine lv_aload_n hx hb dX12_feed_8_67 rfl (lv_at hl 1 rfl) ?_
  refine lv_dup hx hb dX12_feed_8_68 rfl ?_
  refine va_get (D := (dC, dI)) (ci := 12) (v := .int 0) (C := RX12) (T := TX12) (N := 9) hx hb hts wh_X12_feed_8_X12 hown hK hP 0 rfl rfl 1 (by decide) (hts (.fieldLink RX12 13 "StreamHouse" "tapeLength" "I") (wm_X12_feed_8 0 rfl)) (fun _ h9 => h9) rfl dX12_feed_8_69 ?_
  refine lv_iconst (v := 1) hx hb dX12_feed_8_72 (by decide) ?_
  refine lv_iadd hx hb dX12_feed_8_73 ?_
  refine W.eq (g2 := F0 m 74 ls [.int 1, .ref h0]) rfl ?_
  refine va_put (D := (dC, dI)) (ci := 12) (v := .int 1) (ty := .int) (C := RX12) (T := TX12) (N := 9) hx hb hts wh_X12_feed_8_X12 tyX12 tyX12_ok nmX12 hown hK hP hD hS 0 rfl rfl 1 (by decide) (hts (.fieldLink RX12 13 "StreamHouse" "tapeLength" "I") (wm_X12_feed_8 0 rfl)) (fun _ h9 => h9) rfl (by decide +kernel) rfl rfl (Nat.le_of_ble_eq_true rfl) dX12_feed_8_74 (fun H locs hP hD hS => ?_)
  have hP : va_P (dC, dI) vwCl [(h0, .inr (12, [.ref h1, .int 1, a2, a3, a4, a5, a6, a7, a8])), (h1, .inl (cB, 1500, .inl (upd f1 0 (vp_nar .byte y3))))] H := hP
  have hD : va_D A [(h0, .inr (12, [.ref h1, .int 1, a2, a3, a4, a5, a6, a7, a8])), (h1, .inl (cB, 1500, .inl (upd f1 0 (vp_nar .byte y3))))] := hD
  refine lv_iinc (k := 0) (v := 6) (lv' := [(4, .int 6), (0, .ref h0), (1, .long g1), (3, .int 8)]) hx hb dX12_feed_8_77 hl rfl (by decide) (by decide) rfl (fun ls hl => ?_)
  refine lv_goto (tgt := 44) hx hb dX12_feed_8_80 (by decide) ?_
  refine lv_iload hx hb dX12_feed_8_44 (lv_at hl 0 rfl) ?_
  refine lv_if_lt (tgt := 83) hx hb dX12_feed_8_46 (by decide) (fun h9 => absurd h9 (by decide)) (fun _ => ?_)
  refine lv_aload_n hx hb dX12_feed_8_49 rfl (lv_at hl 1 rfl) ?_
  refine va_get (D := (dC, dI)) (ci := 12) (v := .ref h1) (C := RX12) (T := TX12) (N := 9) hx hb hts wh_X12_feed_8_X12 hown hK hP 0 rfl rfl 0 (by decide) (hts (.fieldLink RX12 9 "StreamHouse" "tape" "[B") (wm_X12_feed_8 1 rfl)) (fun _ h9 => h9) rfl dX12_feed_8_50 ?_
  refine lv_aload_n hx hb dX12_feed_8_53 rfl (lv_at hl 1 rfl) ?_
  refine va_get (D := (dC, dI)) (ci := 12) (v := .int 1) (C := RX12) (T := TX12) (N := 9) hx hb hts wh_X12_feed_8_X12 hown hK hP 0 rfl rfl 1 (by decide) (hts (.fieldLink RX12 13 "StreamHouse" "tapeLength" "I") (wm_X12_feed_8 0 rfl)) (fun _ h9 => h9) rfl dX12_feed_8_54 ?_
  refine lv_lload_n hx hb dX12_feed_8_57 rfl (lv_at hl 2 rfl) ?_
  refine lv_bipush (v := 8) hx hb dX12_feed_8_58 (by decide) ?_
  refine lv_iload hx hb dX12_feed_8_60 (lv_at hl 0 rfl) ?_
  refine lv_imul hx hb dX12_feed_8_62 ?_
  refine W.eq (g2 := F0 m 63 ls [.int 48, .long g1, .int 1, .ref h1]) rfl ?_
  refine lv_lushr (v := _) hx hb dX12_feed_8_63 rfl ?_
  refine lv_topl (fun y4 _ => ?_)
  refine lv_l2i (v := _) hx hb dX12_feed_8_64 rfl ?_
  refine lv_topi (fun y5 _ => ?_)
  refine lv_i2b (v := _) hx hb dX12_feed_8_65 rfl ?_
  refine lv_topi (fun y6 _ => ?_)
  refine va_bast hx hb hK hP hD hS 1 0 rfl rfl (by unfold vp_in; decide) dX12_feed_8_66 (fun H locs hP hD hS => ?_)
  have hP : va_P (dC, dI) vwCl [(h0, .inr (12, [.ref h1, .int 1, a2, a3, a4, a5, a6, a7, a8])), (h1, .inl (cB, 1500, .inl (upd (upd f1 0 (vp_nar .byte y3)) 1 (vp_nar .byte y6))))] H := hP
  have hD : va_D A [(h0, .inr (12, [.ref h1, .int 1, a2, a3, a4, a5, a6, a7, a8])), (h1, .inl (cB, 1500, .inl (upd (upd f1 0 (vp_nar .byte y3)) 1 (vp_nar .byte y6))))] := hD
  refine lv_aload_n hx hb dX12_feed_8_67 rfl (lv_at hl 1 rfl) ?_
  refine lv_dup hx hb dX12_feed_8_68 rfl ?_
  refine va_get (D := (dC, dI)) (ci := 12) (v := .int 1) (C := RX12) (T := TX12) (N := 9) hx hb hts wh_X12_feed_8_X12 hown hK hP 0 rfl rfl 1 (by decide) (hts (.fieldLink RX12 13 "StreamHouse" "tapeLength" "I") (wm_X12_feed_8 0 rfl)) (fun _ h9 => h9) rfl dX12_feed_8_69 ?_
  refine lv_iconst (v := 1) hx hb dX12_feed_8_72 (by decide) ?_
  refine lv_iadd hx hb dX12_feed_8_73 ?_
  refine W.eq (g2 := F0 m 74 ls [.int 2, .ref h0]) rfl ?_
  refine va_put (D := (dC, dI)) (ci := 12) (v := .int 2) (ty := .int) (C := RX12) (T := TX12) (N := 9) hx hb hts wh_X12_feed_8_X12 tyX12 tyX12_ok nmX12 hown hK hP hD hS 0 rfl rfl 1 (by decide) (hts (.fieldLink RX12 13 "StreamHouse" "tapeLength" "I") (wm_X12_feed_8 0 rfl)) (fun _ h9 => h9) rfl (by decide +kernel) rfl rfl (Nat.le_of_ble_eq_true rfl) dX12_feed_8_74 (fun H locs hP hD hS => ?_)
  have hP : va_P (dC, dI) vwCl [(h0, .inr (12, [.ref h1, .int 2, a2, a3, a4, a5, a6, a7, a8])), (h1, .inl (cB, 1500, .inl (upd (upd f1 0 (vp_nar .byte y3)) 1 (vp_nar .byte y6))))] H := hP
  have hD : va_D A [(h0, .inr (12, [.ref h1, .int 2, a2, a3, a4, a5, a6, a7, a8])), (h1, .inl (cB, 1500, .inl (upd (upd f1 0 (vp_nar .byte y3)) 1 (vp_nar .byte y6))))] := hD
  refine lv_iinc (k := 0) (v := 5) (lv' := [(4, .int 5), (0, .ref h0), (1, .long g1), (3, .int 8)]) hx hb dX12_feed_8_77 hl rfl (by decide) (by decide) rfl (fun ls hl => ?_)
  refine lv_goto (tgt := 44) hx hb dX12_feed_8_80 (by decide) ?_
  refine lv_iload hx hb dX12_feed_8_44 (lv_at hl 0 rfl) ?_
  refine lv_if_lt (tgt := 83) hx hb dX12_feed_8_46 (by decide) (fun h9 => absurd h9 (by decide)) (fun _ => ?_)
  refine lv_aload_n hx hb dX12_feed_8_49 rfl (lv_at hl 1 rfl) ?_
  refine va_get (D := (dC, dI)) (ci := 12) (v := .ref h1) (C := RX12) (T := TX12) (N := 9) hx hb hts wh_X12_feed_8_X12 hown hK hP 0 rfl rfl 0 (by decide) (hts (.fieldLink RX12 9 "StreamHouse" "tape" "[B") (wm_X12_feed_8 1 rfl)) (fun _ h9 => h9) rfl dX12_feed_8_50 ?_
  refine lv_aload_n hx hb dX12_feed_8_53 rfl (lv_at hl 1 rfl) ?_
  refine va_get (D := (dC, dI)) (ci := 12) (v := .int 2) (C := RX12) (T := TX12) (N := 9) hx hb hts wh_X12_feed_8_X12 hown hK hP 0 rfl rfl 1 (by decide) (hts (.fieldLink RX12 13 "StreamHouse" "tapeLength" "I") (wm_X12_feed_8 0 rfl)) (fun _ h9 => h9) rfl dX12_feed_8_54 ?_
  refine lv_lload_n hx hb dX12_feed_8_57 rfl (lv_at hl 2 rfl) ?_
  refine lv_bipush (v := 8) hx hb dX12_feed_8_58 (by decide) ?_
  refine lv_iload hx hb dX12_feed_8_60 (lv_at hl 0 rfl) ?_
  refine lv_imul hx hb dX12_feed_8_62 ?_
  refine W.eq (g2 := F0 m 63 ls [.int 40, .long g1, .int 2, .ref h1]) rfl ?_
  refine lv_lushr (v := _) hx hb dX12_feed_8_63 rfl ?_
  refine lv_topl (fun y7 _ => ?_)
  refine lv_l2i (v := _) hx hb dX12_feed_8_64 rfl ?_
  refine lv_topi (fun y8 _ => ?_)
  refine lv_i2b (v := _) hx hb dX12_feed_8_65 rfl ?_
  refine lv_topi (fun y9 _ => ?_)
  refine va_bast hx hb hK hP hD hS 1 0 rfl rfl (by unfold vp_in; decide) dX12_feed_8_66 (fun H locs hP hD hS => ?_)
  have hP : va_P (dC, dI) vwCl [(h0, .inr (12, [.ref h1, .int 2, a2, a3, a4, a5, a6, a7, a8])), (h1, .inl (cB, 1500, .inl (upd (upd (upd f1 0 (vp_nar .byte y3)) 1 (vp_nar .byte y6)) 2 (vp_nar .byte y9))))] H := hP
  have hD : va_D A [(h0, .inr (12, [.ref h1, .int 2, a2, a3, a4, a5, a6, a7, a8])), (h1, .inl (cB, 1500, .inl (upd (upd (upd f1 0 (vp_nar .byte y3)) 1 (vp_nar .byte y6)) 2 (vp_nar .byte y9))))] := hD
  refine lv_aload_n hx hb dX12_feed_8_67 rfl (lv_at hl 1 rfl) ?_
  refine lv_dup hx hb dX12_feed_8_68 rfl ?_
  refine va_get (D := (dC, dI)) (ci := 12) (v := .int 2) (C := RX12) (T := TX12) (N := 9) hx hb hts wh_X12_feed_8_X12 hown hK hP 0 rfl rfl 1 (by decide) (hts (.fieldLink RX12 13 "StreamHouse" "tapeLength" "I") (wm_X12_feed_8 0 rfl)) (fun _ h9 => h9) rfl dX12_feed_8_69 ?_
  refine lv_iconst (v := 1) hx hb dX12_feed_8_72 (by decide) ?_
  refine lv_iadd hx hb dX12_feed_8_73 ?_
  refine W.eq (g2 := F0 m 74 ls [.int 3, .ref h0]) rfl ?_
  refine va_put (D := (dC, dI)) (ci := 12) (v := .int 3) (ty := .int) (C := RX12) (T := TX12) (N := 9) hx hb hts wh_X12_feed_8_X12 tyX12 tyX12_ok nmX12 hown hK hP hD hS 0 rfl rfl 1 (by decide) (hts (.fieldLink RX12 13 "StreamHouse" "tapeLength" "I") (wm_X12_feed_8 0 rfl)) (fun _ h9 => h9) rfl (by decide +kernel) rfl rfl (Nat.le_of_ble_eq_true rfl) dX12_feed_8_74 (fun H locs hP hD hS => ?_)
  have hP : va_P (dC, dI) vwCl [(h0, .inr (12, [.ref h1, .int 3, a2, a3, a4, a5, a6, a7, a8])), (h1, .inl (cB, 1500, .inl (upd (upd (upd f1 0 (vp_nar .byte y3)) 1 (vp_nar .byte y6)) 2 (vp_nar .byte y9))))] H := hP
  have hD : va_D A [(h0, .inr (12, [.ref h1, .int 3, a2, a3, a4, a5, a6, a7, a8])), (h1, .inl (cB, 1500, .inl (upd (upd (upd f1 0 (vp_nar .byte y3)) 1 (vp_nar .byte y6)) 2 (vp_nar .byte y9))))] := hD
  refine lv_iinc (k := 0) (v := 4) (lv' := [(4, .int 4), (0, .ref h0), (1, .long g1), (3, .int 8)]) hx hb dX12_feed_8_77 hl rfl (by decide) (by decide) rfl (fun ls hl => ?_)
  refine lv_goto (tgt := 44) hx hb dX12_feed_8_80 (by decide) ?_
  refine lv_iload hx hb dX12_feed_8_44 (lv_at hl 0 rfl) ?_
  refine lv_if_lt (tgt := 83) hx hb dX12_feed_8_46 (by decide) (fun h9 => absurd h9 (by decide)) (fun _ => ?_)
  refine lv_aload_n hx hb dX12_feed_8_49 rfl (lv_at hl 1 rfl) ?_
  refine va_get (D := (dC, dI)) (ci := 12) (v := .ref h1) (C := RX12) (T := TX12) (N := 9) hx hb hts wh_X12_feed_8_X12 hown hK hP 0 rfl rfl 0 (by decide) (hts (.fieldLink RX12 9 "StreamHouse" "tape" "[B") (wm_X12_feed_8 1 rfl)) (fun _ h9 => h9) rfl dX12_feed_8_50 ?_
  refine lv_aload_n hx hb dX12_feed_8_53 rfl (lv_at hl 1 rfl) ?_
  refine va_get (D := (dC, dI)) (ci := 12) (v := .int 3) (C := RX12) (T := TX12) (N := 9) hx hb hts wh_X12_feed_8_X12 hown hK hP 0 rfl rfl 1 (by decide) (hts (.fieldLink RX12 13 "StreamHouse" "tapeLength" "I") (wm_X12_feed_8 0 rfl)) (fun _ h9 => h9) rfl dX12_feed_8_54 ?_
  refine lv_lload_n hx hb dX12_feed_8_57 rfl (lv_at hl 2 rfl) ?_
  refine lv_bipush (v := 8) hx hb dX12_feed_8_58 (by decide) ?_
  refine lv_iload hx hb dX12_feed_8_60 (lv_at hl 0 rfl) ?_
  refine lv_imul hx hb dX12_feed_8_62 ?_
  refine W.eq (g2 := F0 m 63 ls [.int 32, .long g1, .int 3, .ref h1]) rfl ?_
  refine lv_lushr (v := _) hx hb dX12_feed_8_63 rfl ?_
  refine lv_topl (fun y10 _ => ?_)
  refine lv_l2i (v := _) hx hb dX12_feed_8_64 rfl ?_
  refine lv_topi (fun y11 _ => ?_)
  refine lv_i2b (v := _) hx hb dX12_feed_8_65 rfl ?_
  refine lv_topi (fun y12 _ => ?_)
  refine va_bast hx hb hK hP hD hS 1 0 rfl rfl (by unfold vp_in; decide) dX12_feed_8_66 (fun H locs hP hD hS => ?_)
  have hP : va_P (dC, dI) vwCl [(h0, .inr (12, [.ref h1, .int 3, a2, a3, a4, a5, a6, a7, a8])), (h1, .inl (cB, 1500, .inl (upd (upd (upd (upd f1 0 (vp_nar .byte y3)) 1 (vp_nar .byte y6)) 2 (vp_nar .byte y9)) 3 (vp_nar .byte y12))))] H := hP
  have hD : va_D A [(h0, .inr (12, [.ref h1, .int 3, a2, a3, a4, a5, a6, a7, a8])), (h1, .inl (cB, 1500, .inl (upd (upd (upd (upd f1 0 (vp_nar .byte y3)) 1 (vp_nar .byte y6)) 2 (vp_nar .byte y9)) 3 (vp_nar .byte y12))))] := hD
  refine lv_aload_n hx hb dX12_feed_8_67 rfl (lv_at hl 1 rfl) ?_
  refine lv_dup hx hb dX12_feed_8_68 rfl ?_
  refine va_get (D := (dC, dI)) (ci := 12) (v := .int 3) (C := RX12) (T := TX12) (N := 9) hx hb hts wh_X12_feed_8_X12 hown hK hP 0 rfl rfl 1 (by decide) (hts (.fieldLink RX12 13 "StreamHouse" "tapeLength" "I") (wm_X12_feed_8 0 rfl)) (fun _ h9 => h9) rfl dX12_feed_8_69 ?_
  refine lv_iconst (v := 1) hx hb dX12_feed_8_72 (by decide) ?_
  refine lv_iadd hx hb dX12_feed_8_73 ?_
  refine W.eq (g2 := F0 m 74 ls [.int 4, .ref h0]) rfl ?_
  refine va_put (D := (dC, dI)) (ci := 12) (v := .int 4) (ty := .int) (C := RX12) (T := TX12) (N := 9) hx hb hts wh_X12_feed_8_X12 tyX12 tyX12_ok nmX12 hown hK hP hD hS 0 rfl rfl 1 (by decide) (hts (.fieldLink RX12 13 "StreamHouse" "tapeLength" "I") (wm_X12_feed_8 0 rfl)) (fun _ h9 => h9) rfl (by decide +kernel) rfl rfl (Nat.le_of_ble_eq_true rfl) dX12_feed_8_74 (fun H locs hP hD hS => ?_)
  have hP : va_P (dC, dI) vwCl [(h0, .inr (12, [.ref h1, .int 4, a2, a3, a4, a5, a6, a7, a8])), (h1, .inl (cB, 1500, .inl (upd (upd (upd (upd f1 0 (vp_nar .byte y3)) 1 (vp_nar .byte y6)) 2 (vp_nar .byte y9)) 3 (vp_nar .byte y12))))] H := hP
  have hD : va_D A [(h0, .inr (12, [.ref h1, .int 4, a2, a3, a4, a5, a6, a7, a8])), (h1, .inl (cB, 1500, .inl (upd (upd (upd (upd f1 0 (vp_nar .byte y3)) 1 (vp_nar .byte y6)) 2 (vp_nar .byte y9)) 3 (vp_nar .byte y12))))] := hD
  refine lv_iinc (k := 0) (v := 3) (lv' := [(4, .int 3), (0, .ref h0), (1, .long g1), (3, .int 8)]) hx hb dX12_feed_8_77 hl rfl (by decide) (by decide) rfl (fun ls hl => ?_)
  refine lv_goto (tgt := 44) hx hb dX12_feed_8_80 (by decide) ?_
  refine lv_iload hx hb dX12_feed_8_44 (lv_at hl 0 rfl) ?_
  refine lv_if_lt (tgt := 83) hx hb dX12_feed_8_46 (by decide) (fun h9 => absurd h9 (by decide)) (fun _ => ?_)
  refine lv_aload_n hx hb dX12_feed_8_49 rfl (lv_at hl 1 rfl) ?_
  refine va_get (D := (dC, dI)) (ci := 12) (v := .ref h1) (C := RX12) (T := TX12) (N := 9) hx hb hts wh_X12_feed_8_X12 hown hK hP 0 rfl rfl 0 (by decide) (hts (.fieldLink RX12 9 "StreamHouse" "tape" "[B") (wm_X12_feed_8 1 rfl)) (fun _ h9 => h9) rfl dX12_feed_8_50 ?_
  refine lv_aload_n hx hb dX12_feed_8_53 rfl (lv_at hl 1 rfl) ?_
  refine va_get (D := (dC, dI)) (ci := 12) (v := .int 4) (C := RX12) (T := TX12) (N := 9) hx hb hts wh_X12_feed_8_X12 hown hK hP 0 rfl rfl 1 (by decide) (hts (.fieldLink RX12 13 "StreamHouse" "tapeLength" "I") (wm_X12_feed_8 0 rfl)) (fun _ h9 => h9) rfl dX12_feed_8_54 ?_
  refine lv_lload_n hx hb dX12_feed_8_57 rfl (lv_at hl 2 rfl) ?_
  refine lv_bipush (v := 8) hx hb dX12_feed_8_58 (by decide) ?_
  refine lv_iload hx hb dX12_feed_8_60 (lv_at hl 0 rfl) ?_
  refine lv_imul hx hb dX12_feed_8_62 ?_
  refine W.eq (g2 := F0 m 63 ls [.int 24, .long g1, .int 4, .ref h1]) rfl ?_
  refine lv_lushr (v := _) hx hb dX12_feed_8_63 rfl ?_
  refine lv_topl (fun y13 _ => ?_)
  refine lv_l2i (v := _) hx hb dX12_feed_8_64 rfl ?_
  refine lv_topi (fun y14 _ => ?_)
  refine lv_i2b (v := _) hx hb dX12_feed_8_65 rfl ?_
  refine lv_topi (fun y15 _ => ?_)
  refine va_bast hx hb hK hP hD hS 1 0 rfl rfl (by unfold vp_in; decide) dX12_feed_8_66 (fun H locs hP hD hS => ?_)
  have hP : va_P (dC, dI) vwCl [(h0, .inr (12, [.ref h1, .int 4, a2, a3, a4, a5, a6, a7, a8])), (h1, .inl (cB, 1500, .inl (upd (upd (upd (upd (upd f1 0 (vp_nar .byte y3)) 1 (vp_nar .byte y6)) 2 (vp_nar .byte y9)) 3 (vp_nar .byte y12)) 4 (vp_nar .byte y15))))] H := hP
  have hD : va_D A [(h0, .inr (12, [.ref h1, .int 4, a2, a3, a4, a5, a6, a7, a8])), (h1, .inl (cB, 1500, .inl (upd (upd (upd (upd (upd f1 0 (vp_nar .byte y3)) 1 (vp_nar .byte y6)) 2 (vp_nar .byte y9)) 3 (vp_nar .byte y12)) 4 (vp_nar .byte y15))))] := hD
  refine lv_aload_n hx hb dX12_feed_8_67 rfl (lv_at hl 1 rfl) ?_
  refine lv_dup hx hb dX12_feed_8_68 rfl ?_
  refine va_get (D := (dC, dI)) (ci := 12) (v := .int 4) (C := RX12) (T := TX12) (N := 9) hx hb hts wh_X12_feed_8_X12 hown hK hP 0 rfl rfl 1 (by decide) (hts (.fieldLink RX12 13 "StreamHouse" "tapeLength" "I") (wm_X12_feed_8 0 rfl)) (fun _ h9 => h9) rfl dX12_feed_8_69 ?_
  refine lv_iconst (v := 1) hx hb dX12_feed_8_72 (by decide) ?_
  refine lv_iadd hx hb dX12_feed_8_73 ?_
  refine W.eq (g2 := F0 m 74 ls [.int 5, .ref h0]) rfl ?_
  refine va_put (D := (dC, dI)) (ci := 12) (v := .int 5) (ty := .int) (C := RX12) (T := TX12) (N := 9) hx hb hts wh_X12_feed_8_X12 tyX12 tyX12_ok nmX12 hown hK hP hD hS 0 rfl rfl 1 (by decide) (hts (.fieldLink RX12 13 "StreamHouse" "tapeLength" "I") (wm_X12_feed_8 0 rfl)) (fun _ h9 => h9) rfl (by decide +kernel) rfl rfl (Nat.le_of_ble_eq_true rfl) dX12_feed_8_74 (fun H locs hP hD hS => ?_)
  have hP : va_P (dC, dI) vwCl [(h0, .inr (12, [.ref h1, .int 5, a2, a3, a4, a5, a6, a7, a8])), (h1, .inl (cB, 1500, .inl (upd (upd (upd (upd (upd f1 0 (vp_nar .byte y3)) 1 (vp_nar .byte y6)) 2 (vp_nar .byte y9)) 3 (vp_nar .byte y12)) 4 (vp_nar .byte y15))))] H := hP
  have hD : va_D A [(h0, .inr (12, [.ref h1, .int 5, a2, a3, a4, a5, a6, a7, a8])), (h1, .inl (cB, 1500, .inl (upd (upd (upd (upd (upd f1 0 (vp_nar .byte y3)) 1 (vp_nar .byte y6)) 2 (vp_nar .byte y9)) 3 (vp_nar .byte y12)) 4 (vp_nar .byte y15))))] := hD
  refine lv_iinc (k := 0) (v := 2) (lv' := [(4, .int 2), (0, .ref h0), (1, .long g1), (3, .int 8)]) hx hb dX12_feed_8_77 hl rfl (by decide) (by decide) rfl (fun ls hl => ?_)
  refine lv_goto (tgt := 44) hx hb dX12_feed_8_80 (by decide) ?_
  refine lv_iload hx hb dX12_feed_8_44 (lv_at hl 0 rfl) ?_
  refine lv_if_lt (tgt := 83) hx hb dX12_feed_8_46 (by decide) (fun h9 => absurd h9 (by decide)) (fun _ => ?_)
  refine lv_aload_n hx hb dX12_feed_8_49 rfl (lv_at hl 1 rfl) ?_
  refine va_get (D := (dC, dI)) (ci := 12) (v := .ref h1) (C := RX12) (T := TX12) (N := 9) hx hb hts wh_X12_feed_8_X12 hown hK hP 0 rfl rfl 0 (by decide) (hts (.fieldLink RX12 9 "StreamHouse" "tape" "[B") (wm_X12_feed_8 1 rfl)) (fun _ h9 => h9) rfl dX12_feed_8_50 ?_
  refine lv_aload_n hx hb dX12_feed_8_53 rfl (lv_at hl 1 rfl) ?_
  refine va_get (D := (dC, dI)) (ci := 12) (v := .int 5) (C := RX12) (T := TX12) (N := 9) hx hb hts wh_X12_feed_8_X12 hown hK hP 0 rfl rfl 1 (by decide) (hts (.fieldLink RX12 13 "StreamHouse" "tapeLength" "I") (wm_X12_feed_8 0 rfl)) (fun _ h9 => h9) rfl dX12_feed_8_54 ?_
  refine lv_lload_n hx hb dX12_feed_8_57 rfl (lv_at hl 2 rfl) ?_
  refine lv_bipush (v := 8) hx hb dX12_feed_8_58 (by decide) ?_
  refine lv_iload hx hb dX12_feed_8_60 (lv_at hl 0 rfl) ?_
  refine lv_imul hx hb dX12_feed_8_62 ?_
  refine W.eq (g2 := F0 m 63 ls [.int 16, .long g1, .int 5, .ref h1]) rfl ?_
  refine lv_lushr (v := _) hx hb dX12_feed_8_63 rfl ?_
  refine lv_topl (fun y16 _ => ?_)
  refine lv_l2i (v := _) hx hb dX12_feed_8_64 rfl ?_
  refine lv_topi (fun y17 _ => ?_)
  refine lv_i2b (v := _) hx hb dX12_feed_8_65 rfl ?_
  refine lv_topi (fun y18 _ => ?_)
  refine va_bast hx hb hK hP hD hS 1 0 rfl rfl (by unfold vp_in; decide) dX12_feed_8_66 (fun H locs hP hD hS => ?_)
  have hP : va_P (dC, dI) vwCl [(h0, .inr (12, [.ref h1, .int 5, a2, a3, a4, a5, a6, a7, a8])), (h1, .inl (cB, 1500, .inl (upd (upd (upd (upd (upd (upd f1 0 (vp_nar .byte y3)) 1 (vp_nar .byte y6)) 2 (vp_nar .byte y9)) 3 (vp_nar .byte y12)) 4 (vp_nar .byte y15)) 5 (vp_nar .byte y18))))] H := hP
  have hD : va_D A [(h0, .inr (12, [.ref h1, .int 5, a2, a3, a4, a5, a6, a7, a8])), (h1, .inl (cB, 1500, .inl (upd (upd (upd (upd (upd (upd f1 0 (vp_nar .byte y3)) 1 (vp_nar .byte y6)) 2 (vp_nar .byte y9)) 3 (vp_nar .byte y12)) 4 (vp_nar .byte y15)) 5 (vp_nar .byte y18))))] := hD
  refine lv_aload_n hx hb dX12_feed_8_67 rfl (lv_at hl 1 rfl) ?_
  refine lv_dup hx hb dX12_feed_8_68 rfl ?_
  refine va_get (D := (dC, dI)) (ci := 12) (v := .int 5) (C := RX12) (T := TX12) (N := 9) hx hb hts wh_X12_feed_8_X12 hown hK hP 0 rfl rfl 1 (by decide) (hts (.fieldLink RX12 13 "StreamHouse" "tapeLength" "I") (wm_X12_feed_8 0 rfl)) (fun _ h9 => h9) rfl dX12_feed_8_69 ?_
  refine lv_iconst (v := 1) hx hb dX12_feed_8_72 (by decide) ?_
  refine lv_iadd hx hb dX12_feed_8_73 ?_
  refine W.eq (g2 := F0 m 74 ls [.int 6, .ref h0]) rfl ?_
  refine va_put (D := (dC, dI)) (ci := 12) (v := .int 6) (ty := .int) (C := RX12) (T := TX12) (N := 9) hx hb hts wh_X12_feed_8_X12 tyX12 tyX12_ok nmX12 hown hK hP hD hS 0 rfl rfl 1 (by decide) (hts (.fieldLink RX12 13 "StreamHouse" "tapeLength" "I") (wm_X12_feed_8 0 rfl)) (fun _ h9 => h9) rfl (by decide +kernel) rfl rfl (Nat.le_of_ble_eq_true rfl) dX12_feed_8_74 (fun H locs hP hD hS => ?_)
  have hP : va_P (dC, dI) vwCl [(h0, .inr (12, [.ref h1, .int 6, a2, a3, a4, a5, a6, a7, a8])), (h1, .inl (cB, 1500, .inl (upd (upd (upd (upd (upd (upd f1 0 (vp_nar .byte y3)) 1 (vp_nar .byte y6)) 2 (vp_nar .byte y9)) 3 (vp_nar .byte y12)) 4 (vp_nar .byte y15)) 5 (vp_nar .byte y18))))] H := hP
  have hD : va_D A [(h0, .inr (12, [.ref h1, .int 6, a2, a3, a4, a5, a6, a7, a8])), (h1, .inl (cB, 1500, .inl (upd (upd (upd (upd (upd (upd f1 0 (vp_nar .byte y3)) 1 (vp_nar .byte y6)) 2 (vp_nar .byte y9)) 3 (vp_nar .byte y12)) 4 (vp_nar .byte y15)) 5 (vp_nar .byte y18))))] := hD
  refine lv_iinc (k := 0) (v := 1) (lv' := [(4, .int 1), (0, .ref h0), (1, .long g1), (3, .int 8)]) hx hb dX12_feed_8_77 hl rfl (by decide) (by decide) rfl (fun ls hl => ?_)
  refine lv_goto (tgt := 44) hx hb dX12_feed_8_80 (by decide) ?_
  refine lv_iload hx hb dX12_feed_8_44 (lv_at hl 0 rfl) ?_
  refine lv_if_lt (tgt := 83) hx hb dX12_feed_8_46 (by decide) (fun h9 => absurd h9 (by decide)) (fun _ => ?_)
  refine lv_aload_n hx hb dX12_feed_8_49 rfl (lv_at hl 1 rfl) ?_
  refine va_get (D := (dC, dI)) (ci := 12) (v := .ref h1) (C := RX12) (T := TX12) (N := 9) hx hb hts wh_X12_feed_8_X12 hown hK hP 0 rfl rfl 0 (by decide) (hts (.fieldLink RX12 9 "StreamHouse" "tape" "[B") (wm_X12_feed_8 1 rfl)) (fun _ h9 => h9) rfl dX12_feed_8_50 ?_
  refine lv_aload_n hx hb dX12_feed_8_53 rfl (lv_at hl 1 rfl) ?_
  refine va_get (D := (dC, dI)) (ci := 12) (v := .int 6) (C := RX12) (T := TX12) (N := 9) hx hb hts wh_X12_feed_8_X12 hown hK hP 0 rfl rfl 1 (by decide) (hts (.fieldLink RX12 13 "StreamHouse" "tapeLength" "I") (wm_X12_feed_8 0 rfl)) (fun _ h9 => h9) rfl dX12_feed_8_54 ?_
  refine lv_lload_n hx hb dX12_feed_8_57 rfl (lv_at hl 2 rfl) ?_
  refine lv_bipush (v := 8) hx hb dX12_feed_8_58 (by decide) ?_
  refine lv_iload hx hb dX12_feed_8_60 (lv_at hl 0 rfl) ?_
  refine lv_imul hx hb dX12_feed_8_62 ?_
  refine W.eq (g2 := F0 m 63 ls [.int 8, .long g1, .int 6, .ref h1]) rfl ?_
  refine lv_lushr (v := _) hx hb dX12_feed_8_63 rfl ?_
  refine lv_topl (fun y19 _ => ?_)
  refine lv_l2i (v := _) hx hb dX12_feed_8_64 rfl ?_
  refine lv_topi (fun y20 _ => ?_)
  refine lv_i2b (v := _) hx hb dX12_feed_8_65 rfl ?_
  refine lv_topi (fun y21 _ => ?_)
  refine va_bast hx hb hK hP hD hS 1 0 rfl rfl (by unfold vp_in; decide) dX12_feed_8_66 (fun H locs hP hD hS => ?_)
  have hP : va_P (dC, dI) vwCl [(h0, .inr (12, [.ref h1, .int 6, a2, a3, a4, a5, a6, a7, a8])), (h1, .inl (cB, 1500, .inl (upd (upd (upd (upd (upd (upd (upd f1 0 (vp_nar .byte y3)) 1 (vp_nar .byte y6)) 2 (vp_nar .byte y9)) 3 (vp_nar .byte y12)) 4 (vp_nar .byte y15)) 5 (vp_nar .byte y18)) 6 (vp_nar .byte y21))))] H := hP
  have hD : va_D A [(h0, .inr (12, [.ref h1, .int 6, a2, a3, a4, a5, a6, a7, a8])), (h1, .inl (cB, 1500, .inl (upd (upd (upd (upd (upd (upd (upd f1 0 (vp_nar .byte y3)) 1 (vp_nar .byte y6)) 2 (vp_nar .byte y9)) 3 (vp_nar .byte y12)) 4 (vp_nar .byte y15)) 5 (vp_nar .byte y18)) 6 (vp_nar .byte y21))))] := hD
  refine lv_aload_n hx hb dX12_feed_8_67 rfl (lv_at hl 1 rfl) ?_
  refine lv_dup hx hb dX12_feed_8_68 rfl ?_
  refine va_get (D := (dC, dI)) (ci := 12) (v := .int 6) (C := RX12) (T := TX12) (N := 9) hx hb hts wh_X12_feed_8_X12 hown hK hP 0 rfl rfl 1 (by decide) (hts (.fieldLink RX12 13 "StreamHouse" "tapeLength" "I") (wm_X12_feed_8 0 rfl)) (fun _ h9 => h9) rfl dX12_feed_8_69 ?_
  refine lv_iconst (v := 1) hx hb dX12_feed_8_72 (by decide) ?_
  refine lv_iadd hx hb dX12_feed_8_73 ?_
  refine W.eq (g2 := F0 m 74 ls [.int 7, .ref h0]) rfl ?_
  refine va_put (D := (dC, dI)) (ci := 12) (v := .int 7) (ty := .int) (C := RX12) (T := TX12) (N := 9) hx hb hts wh_X12_feed_8_X12 tyX12 tyX12_ok nmX12 hown hK hP hD hS 0 rfl rfl 1 (by decide) (hts (.fieldLink RX12 13 "StreamHouse" "tapeLength" "I") (wm_X12_feed_8 0 rfl)) (fun _ h9 => h9) rfl (by decide +kernel) rfl rfl (Nat.le_of_ble_eq_true rfl) dX12_feed_8_74 (fun H locs hP hD hS => ?_)
  have hP : va_P (dC, dI) vwCl [(h0, .inr (12, [.ref h1, .int 7, a2, a3, a4, a5, a6, a7, a8])), (h1, .inl (cB, 1500, .inl (upd (upd (upd (upd (upd (upd (upd f1 0 (vp_nar .byte y3)) 1 (vp_nar .byte y6)) 2 (vp_nar .byte y9)) 3 (vp_nar .byte y12)) 4 (vp_nar .byte y15)) 5 (vp_nar .byte y18)) 6 (vp_nar .byte y21))))] H := hP
  have hD : va_D A [(h0, .inr (12, [.ref h1, .int 7, a2, a3, a4, a5, a6, a7, a8])), (h1, .inl (cB, 1500, .inl (upd (upd (upd (upd (upd (upd (upd f1 0 (vp_nar .byte y3)) 1 (vp_nar .byte y6)) 2 (vp_nar .byte y9)) 3 (vp_nar .byte y12)) 4 (vp_nar .byte y15)) 5 (vp_nar .byte y18)) 6 (vp_nar .byte y21))))] := hD
  refine lv_iinc (k := 0) (v := 0) (lv' := [(4, .int 0), (0, .ref h0), (1, .long g1), (3, .int 8)]) hx hb dX12_feed_8_77 hl rfl (by decide) (by decide) rfl (fun ls hl => ?_)
  refine lv_goto (tgt := 44) hx hb dX12_feed_8_80 (by decide) ?_
  refine lv_iload hx hb dX12_feed_8_44 (lv_at hl 0 rfl) ?_
  refine lv_if_lt (tgt := 83) hx hb dX12_feed_8_46 (by decide) (fun h9 => absurd h9 (by decide)) (fun _ => ?_)
  refine lv_aload_n hx hb dX12_feed_8_49 rfl (lv_at hl 1 rfl) ?_
  refine va_get (D := (dC, dI)) (ci := 12) (v := .ref h1) (C := RX12) (T := TX12) (N := 9) hx hb hts wh_X12_feed_8_X12 hown hK hP 0 rfl rfl 0 (by decide) (hts (.fieldLink RX12 9 "StreamHouse" "tape" "[B") (wm_X12_feed_8 1 rfl)) (fun _ h9 => h9) rfl dX12_feed_8_50 ?_
  refine lv_aload_n hx hb dX12_feed_8_53 rfl (lv_at hl 1 rfl) ?_
  refine va_get (D := (dC, dI)) (ci := 12) (v := .int 7) (C := RX12) (T := TX12) (N := 9) hx hb hts wh_X12_feed_8_X12 hown hK hP 0 rfl rfl 1 (by decide) (hts (.fieldLink RX12 13 "StreamHouse" "tapeLength" "I") (wm_X12_feed_8 0 rfl)) (fun _ h9 => h9) rfl dX12_feed_8_54 ?_
  refine lv_lload_n hx hb dX12_feed_8_57 rfl (lv_at hl 2 rfl) ?_
  refine lv_bipush (v := 8) hx hb dX12_feed_8_58 (by decide) ?_
  refine lv_iload hx hb dX12_feed_8_60 (lv_at hl 0 rfl) ?_
  refine lv_imul hx hb dX12_feed_8_62 ?_
  refine W.eq (g2 := F0 m 63 ls [.int 0, .long g1, .int 7, .ref h1]) rfl ?_
  refine lv_lushr (v := _) hx hb dX12_feed_8_63 rfl ?_
  refine lv_topl (fun y22 _ => ?_)
  refine lv_l2i (v := _) hx hb dX12_feed_8_64 rfl ?_
  refine lv_topi (fun y23 _ => ?_)
  refine lv_i2b (v := _) hx hb dX12_feed_8_65 rfl ?_
  refine lv_topi (fun y24 _ => ?_)
  refine va_bast hx hb hK hP hD hS 1 0 rfl rfl (by unfold vp_in; decide) dX12_feed_8_66 (fun H locs hP hD hS => ?_)
  have hP : va_P (dC, dI) vwCl [(h0, .inr (12, [.ref h1, .int 7, a2, a3, a4, a5, a6, a7, a8])), (h1, .inl (cB, 1500, .inl (upd (upd (upd (upd (upd (upd (upd (upd f1 0 (vp_nar .byte y3)) 1 (vp_nar .byte y6)) 2 (vp_nar .byte y9)) 3 (vp_nar .byte y12)) 4 (vp_nar .byte y15)) 5 (vp_nar .byte y18)) 6 (vp_nar .byte y21)) 7 (vp_nar .byte y24))))] H := hP
  have hD : va_D A [(h0, .inr (12, [.ref h1, .int 7, a2, a3, a4, a5, a6, a7, a8])), (h1, .inl (cB, 1500, .inl (upd (upd (upd (upd (upd (upd (upd (upd f1 0 (vp_nar .byte y3)) 1 (vp_nar .byte y6)) 2 (vp_nar .byte y9)) 3 (vp_nar .byte y12)) 4 (vp_nar .byte y15)) 5 (vp_nar .byte y18)) 6 (vp_nar .byte y21)) 7 (vp_nar .byte y24))))] := hD
  refine lv_aload_n hx hb dX12_feed_8_67 rfl (lv_at hl 1 rfl) ?_
  refine lv_dup hx hb dX12_feed_8_68 rfl ?_
  refine va_get (D := (dC, dI)) (ci := 12) (v := .int 7) (C := RX12) (T := TX12) (N := 9) hx hb hts wh_X12_feed_8_X12 hown hK hP 0 rfl rfl 1 (by decide) (hts (.fieldLink RX12 13 "StreamHouse" "tapeLength" "I") (wm_X12_feed_8 0 rfl)) (fun _ h9 => h9) rfl dX12_feed_8_69 ?_
  refine lv_iconst (v := 1) hx hb dX12_feed_8_72 (by decide) ?_
  refine lv_iadd hx hb dX12_feed_8_73 ?_
  refine W.eq (g2 := F0 m 74 ls [.int 8, .ref h0]) rfl ?_
  refine va_put (D := (dC, dI)) (ci := 12) (v := .int 8) (ty := .int) (C := RX12) (T := TX12) (N := 9) hx hb hts wh_X12_feed_8_X12 tyX12 tyX12_ok nmX12 hown hK hP hD hS 0 rfl rfl 1 (by decide) (hts (.fieldLink RX12 13 "StreamHouse" "tapeLength" "I") (wm_X12_feed_8 0 rfl)) (fun _ h9 => h9) rfl (by decide +kernel) rfl rfl (Nat.le_of_ble_eq_true rfl) dX12_feed_8_74 (fun H locs hP hD hS => ?_)
  have hP : va_P (dC, dI) vwCl [(h0, .inr (12, [.ref h1, .int 8, a2, a3, a4, a5, a6, a7, a8])), (h1, .inl (cB, 1500, .inl (upd (upd (upd (upd (upd (upd (upd (upd f1 0 (vp_nar .byte y3)) 1 (vp_nar .byte y6)) 2 (vp_nar .byte y9)) 3 (vp_nar .byte y12)) 4 (vp_nar .byte y15)) 5 (vp_nar .byte y18)) 6 (vp_nar .byte y21)) 7 (vp_nar .byte y24))))] H := hP
  have hD : va_D A [(h0, .inr (12, [.ref h1, .int 8, a2, a3, a4, a5, a6, a7, a8])), (h1, .inl (cB, 1500, .inl (upd (upd (upd (upd (upd (upd (upd (upd f1 0 (vp_nar .byte y3)) 1 (vp_nar .byte y6)) 2 (vp_nar .byte y9)) 3 (vp_nar .byte y12)) 4 (vp_nar .byte y15)) 5 (vp_nar .byte y18)) 6 (vp_nar .byte y21)) 7 (vp_nar .byte y24))))] := hD
  refine lv_iinc (k := 0) (v := (-1)) (lv' := [(4, .int ((-1))), (0, .ref h0), (1, .long g1), (3, .int 8)]) hx hb dX12_feed_8_77 hl rfl (by decide) (by decide) rfl (fun ls hl => ?_)
  refine lv_goto (tgt := 44) hx hb dX12_feed_8_80 (by decide) ?_
  refine lv_iload hx hb dX12_feed_8_44 (lv_at hl 0 rfl) ?_
  refine lv_if_lt (tgt := 83) hx hb dX12_feed_8_46 (by decide) (fun _ => ?_) (fun h9 => absurd (by decide) h9)
  refine lv_aload_n hx hb dX12_feed_8_83 rfl (lv_at hl 1 rfl) ?_
  refine va_get (D := (dC, dI)) (ci := 12) (v := .int 8) (C := RX12) (T := TX12) (N := 9) hx hb hts wh_X12_feed_8_X12 hown hK hP 0 rfl rfl 1 (by decide) (hts (.fieldLink RX12 13 "StreamHouse" "tapeLength" "I") (wm_X12_feed_8 0 rfl)) (fun _ h9 => h9) rfl dX12_feed_8_84 ?_
  have hP9 := hP.sub (ws' := [(h0, .inr (12, [.ref h1, .int 8, a2, a3, a4, a5, a6, a7, a8]))]) [0] rfl
  have hD9 := hD.sub (ws' := [(h0, .inr (12, [.ref h1, .int 8, a2, a3, a4, a5, a6, a7, a8]))]) [0] (by decide) rfl
  have hK9 := hK.sub (tys' := []) [] rfl
  refine W.widen (k := 0) (n := 0) (by decide) (by decide) ?_
  exact W.iret (v := 8) hx hb hr (fun t ht hW => ⟨⟨8, (), rfl, rfl, by rw [ht]; exact hP9, va_K.moved hW.alike hK9, hD9⟩, hS.F ht⟩) hS.2.2 dX12_feed_8_87


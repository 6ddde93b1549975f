def xz_Z (A : Nat → Prop) (U : State) (H : Heap) : Prop := vx_Zq Bundle.tN "UNASSIGNED_STACK" Bundle.steD A U H ∧ vx_Zq Bundle.tN "SUPPRESSED_SENTINEL" Bundle.listD A U H
theorem xz_Z.to {A B : Nat → Prop} {s U : State} {H : Heap} {locs : List Loc} (h : xz_Z A s s.heap) (hS : va_S A s.heap H locs) (hAB : ∀ q, B q → A q) (hvm : s.vm.Alike U.vm) (hU : U.heap = H) : xz_Z B U U.heap := by
  rw [hU]
  exact ⟨vx_Zq.moved hvm ((h.1.kept hS.2.1).narrow hAB), vx_Zq.moved hvm ((h.2.kept hS.2.1).narrow hAB)⟩
theorem xz_Z.same {A : Nat → Prop} {u U : State} (e : u.vm.Alike U.vm) (eh : u.heap = U.heap) (h : xz_Z A u u.heap) : xz_Z A U U.heap := by
  rw [← eh]
  exact ⟨vx_Zq.moved e h.1, vx_Zq.moved e h.2⟩
/-- what a static field holds: a reference or null, and it fits -/
theorem xz_val {C n d : String} {A : Nat → Prop} {s : State} {ty : FieldType} (hty : (∃ x, ty = .object x) ∨ ∃ x, ty = .array x) (h : va_Zq C n d A s s.heap) : ∃ v : Value, va_Z C n d v A s s.heap ∧ narrow ty v = v ∧ fits ty v = true := by
  rcases h with h | ⟨t, h⟩
  · exact ⟨_, h, by rcases hty with ⟨x, rfl⟩ | ⟨x, rfl⟩ <;> rfl, by rcases hty with ⟨x, rfl⟩ | ⟨x, rfl⟩ <;> rfl⟩
  · exact ⟨_, h, by rcases hty with ⟨x, rfl⟩ | ⟨x, rfl⟩ <;> rfl, by rcases hty with ⟨x, rfl⟩ | ⟨x, rfl⟩ <;> rfl⟩
def RJR : String := "java/lang/RuntimeException"
def RJE : String := "java/lang/Exception"
def RJT : String := "java/lang/Throwable"
abbrev cJR_init : ByteArray := prog_27_method_5_code
abbrev cJE_init : ByteArray := prog_21_method_5_code
abbrev cJT_init : ByteArray := prog_32_method_5_code
def yJR_init : MethodName := ⟨RJR, "<init>", "(Ljava/lang/String;Ljava/lang/Throwable;ZZ)V"⟩
def yJE_init : MethodName := ⟨RJE, "<init>", "(Ljava/lang/String;Ljava/lang/Throwable;ZZ)V"⟩
def yJT_init : MethodName := ⟨RJT, "<init>", "(Ljava/lang/String;Ljava/lang/Throwable;ZZ)V"⟩
abbrev at_JT_init_13 (dC : Nat → ClassId) (dI : Nat → Nat → Nat) (A : Nat → Prop) (h0 : Nat) (u : Unit) (t : State) : Prop := match u with
  | _ => va_P (dC, dI) vwCl [(h0, .inr (13, [.null, .null, .null, .null, .null, .int 0]))] t.heap ∧ va_K (dC, dI) vwCl [] t ∧ va_D A [(h0, .inr (13, [.null, .null, .null, .null, .null, .int 0]))]
theorem dJT_init_13_0 : decode cJT_init 0 = .ok (.aload_n 0, 1) := by decide +kernel
theorem dJT_init_13_1 : decode cJT_init 1 = .ok (.invokespecial 1, 3) := by decide +kernel
theorem dJT_init_13_4 : decode cJT_init 4 = .ok (.aload_n 0, 1) := by decide +kernel
theorem dJT_init_13_5 : decode cJT_init 5 = .ok (.aload_n 0, 1) := by decide +kernel
theorem dJT_init_13_6 : decode cJT_init 6 = .ok (.putfield 7, 3) := by decide +kernel
theorem dJT_init_13_9 : decode cJT_init 9 = .ok (.aload_n 0, 1) := by decide +kernel
theorem dJT_init_13_10 : decode cJT_init 10 = .ok (.getstatic 13, 3) := by decide +kernel
theorem dJT_init_13_13 : decode cJT_init 13 = .ok (.putfield 17, 3) := by decide +kernel
theorem dJT_init_13_16 : decode cJT_init 16 = .ok (.aload_n 0, 1) := by decide +kernel
theorem dJT_init_13_17 : decode cJT_init 17 = .ok (.getstatic 20, 3) := by decide +kernel
theorem dJT_init_13_20 : decode cJT_init 20 = .ok (.putfield 24, 3) := by decide +kernel
theorem dJT_init_13_23 : decode cJT_init 23 = .ok (.iload 4, 2) := by decide +kernel
theorem dJT_init_13_25 : decode cJT_init 25 = .ok (.ifCond .eq 11, 3) := by decide +kernel
theorem dJT_init_13_36 : decode cJT_init 36 = .ok (.aload_n 0, 1) := by decide +kernel
theorem dJT_init_13_37 : decode cJT_init 37 = .ok (.aconst_null, 1) := by decide +kernel
theorem dJT_init_13_38 : decode cJT_init 38 = .ok (.putfield 17, 3) := by decide +kernel
theorem dJT_init_13_41 : decode cJT_init 41 = .ok (.aload_n 0, 1) := by decide +kernel
theorem dJT_init_13_42 : decode cJT_init 42 = .ok (.aload_n 1, 1) := by decide +kernel
theorem dJT_init_13_43 : decode cJT_init 43 = .ok (.putfield 31, 3) := by decide +kernel
theorem dJT_init_13_46 : decode cJT_init 46 = .ok (.aload_n 0, 1) := by decide +kernel
theorem dJT_init_13_47 : decode cJT_init 47 = .ok (.aload_n 2, 1) := by decide +kernel
theorem dJT_init_13_48 : decode cJT_init 48 = .ok (.putfield 7, 3) := by decide +kernel
theorem dJT_init_13_51 : decode cJT_init 51 = .ok (.iload_n 3, 1) := by decide +kernel
theorem dJT_init_13_52 : decode cJT_init 52 = .ok (.ifCond .ne 8, 3) := by decide +kernel
theorem dJT_init_13_55 : decode cJT_init 55 = .ok (.aload_n 0, 1) := by decide +kernel
theorem dJT_init_13_56 : decode cJT_init 56 = .ok (.aconst_null, 1) := by decide +kernel
theorem dJT_init_13_57 : decode cJT_init 57 = .ok (.putfield 24, 3) := by decide +kernel
theorem dJT_init_13_60 : decode cJT_init 60 = .ok (.return_, 1) := by decide +kernel
def ww_JT_init_13 : List Cond := [.methodLink RJT 1 objectInit, .instanceMethod objectInit, .code objectInit ⟨#[0xb1]⟩ 1 none, .fieldLink RJT 7 "java/lang/Throwable" "cause" "Ljava/lang/Throwable;", .fieldLink RJT 13 "java/lang/Throwable" "UNASSIGNED_STACK" "[Ljava/lang/StackTraceElement;", .fieldLink RJT 17 "java/lang/Throwable" "stackTrace" "[Ljava/lang/StackTraceElement;", .fieldLink RJT 20 "java/lang/Throwable" "SUPPRESSED_SENTINEL" "Ljava/util/List;", .fieldLink RJT 24 "java/lang/Throwable" "suppressedExceptions" "Ljava/util/List;", .fieldLink RJT 31 "java/lang/Throwable" "detailMessage" "Ljava/lang/String;"]
def wv_JT_init_13 : List Cond := .code yJT_init cJT_init 5 none :: (ww_JT_init_13 ++ (u_ws RX13 TX13 6 ++ []))
theorem wm_JT_init_13 {w : Cond} (i : Nat) (h : ww_JT_init_13[i]? = some w) : w ∈ wv_JT_init_13 := List.mem_cons_of_mem _ (List.mem_append_left _ (List.mem_of_getElem? h))
theorem gw_JT_init_13 : wv_JT_init_13.all goodWord = true := by decide +kernel
theorem wh_JT_init_13_X13 : ∀ w ∈ u_ws RX13 TX13 6, w ∈ wv_JT_init_13 := fun w h => List.mem_cons_of_mem _ (List.mem_append_right _ (List.mem_append_left _ h))
set_option maxHeartbeats 4000000 in
set_option maxRecDepth 100000 in
/-- JT.<init> of four, for kind 13 -/
theorem c_JT_init_13 (l : Launch) (dC : Nat → ClassId) (dI : Nat → Nat → Nat) (h0 : Nat) (sz : Nat) : Met l yJT_init wv_JT_init_13 ({ frames := 1, cells := 0, slots := 0, locals := 12 }) (va_Pc [.ref h0, .null, .null, .int 0, .int 0] (fun U => U.heap.size = sz ∧ va_P (dC, dI) vwCl [(h0, .inr (13, [.null, .null, .null, .null, .null, .int 0]))] U.heap ∧ va_K (dC, dI) vwCl [] U ∧ va_D (fun _ => True) [(h0, .inr (13, [.null, .null, .null, .null, .null, .int 0]))] ∧ xz_Z (va_A [(h0, .inr (13, [.null, .null, .null, .null, .null, .int 0]))] sz) U U.heap)) (va_Qv (fun _ : Unit => True) (at_JT_init_13 dC dI (va_A [(h0, .inr (13, [.null, .null, .null, .null, .null, .int 0]))] sz) h0) (va_A [(h0, .inr (13, [.null, .null, .null, .null, .null, .int 0]))] sz)) 0 0 (va_A [(h0, .inr (13, [.null, .null, .null, .null, .null, .int 0]))] sz) := by
  refine Met.ofW (cc := cJT_init) (maxL := 5) (ret := none) (by decide) rfl ?_
  intro p e s m args below meth c s₁ B hml hv
  obtain ⟨rfl, hsz, hP, hK, hD0, hZ9⟩ := hv
  have hx := B.exec
  have hb := B.bytes
  have hr := B.returns
  have hts := atoms_spec (ws := wv_JT_init_13) B.pre
  have hown : s.vm.findClass RJT = some m.cls := findClass_of_methodNamed B.named
  have hlocks := B.notSynchronized
  have hin0 : meth.name = "<init>" := (name_of_methodNamed B.named B.method).1
  subst hsz
  have hD := hD0.self (sz := s.heap.size)
  generalize hAe : va_A [(h0, .inr (13, [.null, .null, .null, .null, .null, .int 0]))] s.heap.size = A at hD hZ9 ⊢
  have hA : ∀ q : Nat, s.heap.size ≤ q → A q := fun q h => by rw [← hAe]; exact Or.inr h
  have hS : va_S A s.heap s.heap [] := va_S.rf
  have hP : va_P (dC, dI) vwCl [(h0, .inr (13, [.null, .null, .null, .null, .null, .int 0]))] s.heap := hP
  have hl := lv_entry ([.ref h0, .null, .null, .int 0, .int 0]) (n := 5) (Nat.le_of_ble_eq_true rfl)
  rw [lg_entry_eq]
  generalize (lg_sl ([.ref h0, .null, .null, .int 0, .int 0]) ++ List.replicate (5 - (lg_sl ([.ref h0, .null, .null, .int 0, .int 0])).length) Slot.unset).toArray = ls at hl ⊢
  have hl : lv_has ls 5 [(0, .ref h0), (1, .null), (2, .null), (3, .int 0), (4, .int 0)] := hl
  refine lv_aload_n hx hb dJT_init_13_0 rfl (lv_at hl 0 rfl) ?_
  refine W.objInit hx hb hown (hts (.methodLink RJT 1 objectInit) (wm_JT_init_13 0 rfl)) (hts (.instanceMethod objectInit) (wm_JT_init_13 1 rfl)) (hts (.code objectInit ⟨#[0xb1]⟩ 1 none) (wm_JT_init_13 2 rfl)) rfl (by rw [hml]; exact hl.1) rfl dJT_init_13_1 (Nat.le_of_ble_eq_true rfl) (Nat.le_of_ble_eq_true rfl) ?_
  refine W.eq (g2 := F0 m 4 ls []) rfl ?_
  refine lv_aload_n hx hb dJT_init_13_4 rfl (lv_at hl 0 rfl) ?_
  refine lv_aload_n hx hb dJT_init_13_5 rfl (lv_at hl 0 rfl) ?_
  refine va_put (D := (dC, dI)) (ci := 13) (v := .ref h0) (ty := .object "java/lang/Throwable") (C := RX13) (T := TX13) (N := 6) hx hb hts wh_JT_init_13_X13 tyX13 tyX13_ok nmX13 hown hK hP hD hS 0 rfl rfl 0 (by decide) (hts (.fieldLink RJT 7 "java/lang/Throwable" "cause" "Ljava/lang/Throwable;") (wm_JT_init_13 3 rfl)) (fun _ h9 => h9) rfl (by decide +kernel) rfl rfl (Nat.le_of_ble_eq_true rfl) dJT_init_13_6 (fun H locs hP hD hS => ?_)
  have hP : va_P (dC, dI) vwCl [(h0, .inr (13, [.ref h0, .null, .null, .null, .null, .int 0]))] H := hP
  have hD : va_D A [(h0, .inr (13, [.ref h0, .null, .null, .null, .null, .int 0]))] := hD
  refine lv_aload_n hx hb dJT_init_13_9 rfl (lv_at hl 0 rfl) ?_
  obtain ⟨vU9, hz_vU9, hn_vU9, hf_vU9⟩ := xz_val (ty := .array (.object "java/lang/StackTraceElement")) (by first | exact Or.inl ⟨_, rfl⟩ | exact Or.inr ⟨_, rfl⟩) hZ9.1.1
  refine va_gets (v := vU9) hx hb hz_vU9 hS hown (hts (.fieldLink RJT 13 "java/lang/Throwable" "UNASSIGNED_STACK" "[Ljava/lang/StackTraceElement;") (wm_JT_init_13 4 rfl)) (fun _ h9 => h9) dJT_init_13_10 ?_
  refine va_put (D := (dC, dI)) (ci := 13) (v := vU9) (ty := .array (.object "java/lang/StackTraceElement")) (C := RX13) (T := TX13) (N := 6) hx hb hts wh_JT_init_13_X13 tyX13 tyX13_ok nmX13 hown hK hP hD hS 0 rfl rfl 1 (by decide) (hts (.fieldLink RJT 17 "java/lang/Throwable" "stackTrace" "[Ljava/lang/StackTraceElement;") (wm_JT_init_13 5 rfl)) (fun _ h9 => h9) rfl (by decide +kernel) hn_vU9 hf_vU9 (Nat.le_of_ble_eq_true rfl) dJT_init_13_13 (fun H locs hP hD hS => ?_)
  have hP : va_P (dC, dI) vwCl [(h0, .inr (13, [.ref h0, vU9, .null, .null, .null, .int 0]))] H := hP
  have hD : va_D A [(h0, .inr (13, [.ref h0, vU9, .null, .null, .null, .int 0]))] := hD
  refine lv_aload_n hx hb dJT_init_13_16 rfl (lv_at hl 0 rfl) ?_
  obtain ⟨vN9, hz_vN9, hn_vN9, hf_vN9⟩ := xz_val (ty := .object "java/util/List") (by first | exact Or.inl ⟨_, rfl⟩ | exact Or.inr ⟨_, rfl⟩) hZ9.2.1
  refine va_gets (v := vN9) hx hb hz_vN9 hS hown (hts (.fieldLink RJT 20 "java/lang/Throwable" "SUPPRESSED_SENTINEL" "Ljava/util/List;") (wm_JT_init_13 6 rfl)) (fun _ h9 => h9) dJT_init_13_17 ?_
  refine va_put (D := (dC, dI)) (ci := 13) (v := vN9) (ty := .object "java/util/List") (C := RX13) (T := TX13) (N := 6) hx hb hts wh_JT_init_13_X13 tyX13 tyX13_ok nmX13 hown hK hP hD hS 0 rfl rfl 2 (by decide) (hts (.fieldLink RJT 24 "java/lang/Throwable" "suppressedExceptions" "Ljava/util/List;") (wm_JT_init_13 7 rfl)) (fun _ h9 => h9) rfl (by decide +kernel) hn_vN9 hf_vN9 (Nat.le_of_ble_eq_true rfl) dJT_init_13_20 (fun H locs hP hD hS => ?_)
  have hP : va_P (dC, dI) vwCl [(h0, .inr (13, [.ref h0, vU9, vN9, .null, .null, .int 0]))] H := hP
  have hD : va_D A [(h0, .inr (13, [.ref h0, vU9, vN9, .null, .null, .int 0]))] := hD
  refine lv_iload hx hb dJT_init_13_23 (lv_at hl 4 rfl) ?_
  refine lv_if_eq (tgt := 36) hx hb dJT_init_13_25 (by decide) (fun _ => ?_) (fun h9 => absurd (by decide) h9)
  refine lv_aload_n hx hb dJT_init_13_36 rfl (lv_at hl 0 rfl) ?_
  refine lv_null hx hb dJT_init_13_37 ?_
  refine va_put (D := (dC, dI)) (ci := 13) (v := .null) (ty := .array (.object "java/lang/StackTraceElement")) (C := RX13) (T := TX13) (N := 6) hx hb hts wh_JT_init_13_X13 tyX13 tyX13_ok nmX13 hown hK hP hD hS 0 rfl rfl 1 (by decide) (hts (.fieldLink RJT 17 "java/lang/Throwable" "stackTrace" "[Ljava/lang/StackTraceElement;") (wm_JT_init_13 5 rfl)) (fun _ h9 => h9) rfl (by decide +kernel) rfl rfl (Nat.le_of_ble_eq_true rfl) dJT_init_13_38 (fun H locs hP hD hS => ?_)
  have hP : va_P (dC, dI) vwCl [(h0, .inr (13, [.ref h0, .null, vN9, .null, .null, .int 0]))] H := hP
  have hD : va_D A [(h0, .inr (13, [.ref h0, .null, vN9, .null, .null, .int 0]))] := hD
  refine lv_aload_n hx hb dJT_init_13_41 rfl (lv_at hl 0 rfl) ?_
  refine lv_aload_nN hx hb dJT_init_13_42 rfl (lv_at hl 1 rfl) ?_
  refine va_put (D := (dC, dI)) (ci := 13) (v := .null) (ty := .object "java/lang/String") (C := RX13) (T := TX13) (N := 6) hx hb hts wh_JT_init_13_X13 tyX13 tyX13_ok nmX13 hown hK hP hD hS 0 rfl rfl 3 (by decide) (hts (.fieldLink RJT 31 "java/lang/Throwable" "detailMessage" "Ljava/lang/String;") (wm_JT_init_13 8 rfl)) (fun _ h9 => h9) rfl (by decide +kernel) rfl rfl (Nat.le_of_ble_eq_true rfl) dJT_init_13_43 (fun H locs hP hD hS => ?_)
  have hP : va_P (dC, dI) vwCl [(h0, .inr (13, [.ref h0, .null, vN9, .null, .null, .int 0]))] H := hP
  have hD : va_D A [(h0, .inr (13, [.ref h0, .null, vN9, .null, .null, .int 0]))] := hD
  refine lv_aload_n hx hb dJT_init_13_46 rfl (lv_at hl 0 rfl) ?_
  refine lv_aload_nN hx hb dJT_init_13_47 rfl (lv_at hl 2 rfl) ?_
  refine va_put (D := (dC, dI)) (ci := 13) (v := .null) (ty := .object "java/lang/Throwable") (C := RX13) (T := TX13) (N := 6) hx hb hts wh_JT_init_13_X13 tyX13 tyX13_ok nmX13 hown hK hP hD hS 0 rfl rfl 0 (by decide) (hts (.fieldLink RJT 7 "java/lang/Throwable" "cause" "Ljava/lang/Throwable;") (wm_JT_init_13 3 rfl)) (fun _ h9 => h9) rfl (by decide +kernel) rfl rfl (Nat.le_of_ble_eq_true rfl) dJT_init_13_48 (fun H locs hP hD hS => ?_)
  have hP : va_P (dC, dI) vwCl [(h0, .inr (13, [.null, .null, vN9, .null, .null, .int 0]))] H := hP
  have hD : va_D A [(h0, .inr (13, [.null, .null, vN9, .null, .null, .int 0]))] := hD
  refine lv_iload_n hx hb dJT_init_13_51 rfl (lv_at hl 3 rfl) ?_
  refine lv_if_ne (tgt := 60) hx hb dJT_init_13_52 (by decide) (fun h9 => absurd (by decide) h9) (fun _ => ?_)
  refine lv_aload_n hx hb dJT_init_13_55 rfl (lv_at hl 0 rfl) ?_
  refine lv_null hx hb dJT_init_13_56 ?_
  refine va_put (D := (dC, dI)) (ci := 13) (v := .null) (ty := .object "java/util/List") (C := RX13) (T := TX13) (N := 6) hx hb hts wh_JT_init_13_X13 tyX13 tyX13_ok nmX13 hown hK hP hD hS 0 rfl rfl 2 (by decide) (hts (.fieldLink RJT 24 "java/lang/Throwable" "suppressedExceptions" "Ljava/util/List;") (wm_JT_init_13 7 rfl)) (fun _ h9 => h9) rfl (by decide +kernel) rfl rfl (Nat.le_of_ble_eq_true rfl) dJT_init_13_57 (fun H locs hP hD hS => ?_)
  have hP : va_P (dC, dI) vwCl [(h0, .inr (13, [.null, .null, .null, .null, .null, .int 0]))] H := hP
  have hD : va_D A [(h0, .inr (13, [.null, .null, .null, .null, .null, .int 0]))] := hD
  have hP9 := hP.sub (ws' := [(h0, .inr (13, [.null, .null, .null, .null, .null, .int 0]))]) [0] rfl
  have hD9 := hD.sub (ws' := [(h0, .inr (13, [.null, .null, .null, .null, .null, .int 0]))]) [0] (by decide) rfl
  have hK9 := hK.sub (tys' := []) [] rfl
  exact W.vret hx hb hr (fun t ht hW => ⟨⟨(), rfl, trivial, by rw [ht]; exact hP9, va_K.moved hW.alike hK9, hD9⟩, hS.F ht⟩) hS.2.2 dJT_init_13_60

abbrev at_JE_init_13 (dC : Nat → ClassId) (dI : Nat → Nat → Nat) (A : Nat → Prop) (h0 : Nat) (u : Unit) (t : State) : Prop := match u with
  | _ => va_P (dC, dI) vwCl [(h0, .inr (13, [.null, .null, .null, .null, .null, .int 0]))] t.heap ∧ va_K (dC, dI) vwCl [] t ∧ va_D A [(h0, .inr (13, [.null, .null, .null, .null, .null, .int 0]))]
theorem dJE_init_13_0 : decode cJE_init 0 = .ok (.aload_n 0, 1) := by decide +kernel
theorem dJE_init_13_1 : decode cJE_init 1 = .ok (.aload_n 1, 1) := by decide +kernel
theorem dJE_init_13_2 : decode cJE_init 2 = .ok (.aload_n 2, 1) := by decide +kernel
theorem dJE_init_13_3 : decode cJE_init 3 = .ok (.iload_n 3, 1) := by decide +kernel
theorem dJE_init_13_4 : decode cJE_init 4 = .ok (.iload 4, 2) := by decide +kernel
theorem dJE_init_13_6 : decode cJE_init 6 = .ok (.invokespecial 16, 3) := by decide +kernel
theorem dJE_init_13_9 : decode cJE_init 9 = .ok (.return_, 1) := by decide +kernel
def ww_JE_init_13 : List Cond := [.initialized RJT, .methodLink RJE 16 yJT_init, .instanceMethod yJT_init]
def wv_JE_init_13 : List Cond := .code yJE_init cJE_init 5 none :: (ww_JE_init_13 ++ (wv_JT_init_13 ++ []))
theorem wm_JE_init_13 {w : Cond} (i : Nat) (h : ww_JE_init_13[i]? = some w) : w ∈ wv_JE_init_13 := List.mem_cons_of_mem _ (List.mem_append_left _ (List.mem_of_getElem? h))
theorem gw_JE_init_13 : wv_JE_init_13.all goodWord = true := by decide +kernel
theorem wg_JE_init_13_JT_init_13 : GoodIn wv_JE_init_13 wv_JT_init_13 := goodIn_sub (fun w h => List.mem_cons_of_mem _ (List.mem_append_right _ (List.mem_append_left _ h))) gw_JT_init_13
set_option maxHeartbeats 4000000 in
set_option maxRecDepth 100000 in
/-- JE.<init> of four, for kind 13 -/
theorem c_JE_init_13 (l : Launch) (dC : Nat → ClassId) (dI : Nat → Nat → Nat) (h0 : Nat) (sz : Nat) : Met l yJE_init wv_JE_init_13 ({ frames := 2, cells := 0, slots := 0, locals := 36 }) (va_Pc [.ref h0, .null, .null, .int 0, .int 0] (fun U => U.heap.size = sz ∧ va_P (dC, dI) vwCl [(h0, .inr (13, [.null, .null, .null, .null, .null, .int 0]))] U.heap ∧ va_K (dC, dI) vwCl [] U ∧ va_D (fun _ => True) [(h0, .inr (13, [.null, .null, .null, .null, .null, .int 0]))] ∧ xz_Z (va_A [(h0, .inr (13, [.null, .null, .null, .null, .null, .int 0]))] sz) U U.heap)) (va_Qv (fun _ : Unit => True) (at_JE_init_13 dC dI (va_A [(h0, .inr (13, [.null, .null, .null, .null, .null, .int 0]))] sz) h0) (va_A [(h0, .inr (13, [.null, .null, .null, .null, .null, .int 0]))] sz)) 0 0 (va_A [(h0, .inr (13, [.null, .null, .null, .null, .null, .int 0]))] sz) := by
  refine Met.ofW (cc := cJE_init) (maxL := 5) (ret := none) (by decide) rfl ?_
  intro p e s m args below meth c s₁ B hml hv
  obtain ⟨rfl, hsz, hP, hK, hD0, hZ9⟩ := hv
  have hx := B.exec
  have hb := B.bytes
  have hr := B.returns
  have hts := atoms_spec (ws := wv_JE_init_13) B.pre
  have hown : s.vm.findClass RJE = some m.cls := findClass_of_methodNamed B.named
  have hlocks := B.notSynchronized
  have hin0 : meth.name = "<init>" := (name_of_methodNamed B.named B.method).1
  subst hsz
  have hD := hD0.self (sz := s.heap.size)
  generalize hAe : va_A [(h0, .inr (13, [.null, .null, .null, .null, .null, .int 0]))] s.heap.size = A at hD hZ9 ⊢
  have hA : ∀ q : Nat, s.heap.size ≤ q → A q := fun q h => by rw [← hAe]; exact Or.inr h
  have hS : va_S A s.heap s.heap [] := va_S.rf
  have hP : va_P (dC, dI) vwCl [(h0, .inr (13, [.null, .null, .null, .null, .null, .int 0]))] s.heap := hP
  have hl := lv_entry ([.ref h0, .null, .null, .int 0, .int 0]) (n := 5) (Nat.le_of_ble_eq_true rfl)
  rw [lg_entry_eq]
  generalize (lg_sl ([.ref h0, .null, .null, .int 0, .int 0]) ++ List.replicate (5 - (lg_sl ([.ref h0, .null, .null, .int 0, .int 0])).length) Slot.unset).toArray = ls at hl ⊢
  have hl : lv_has ls 5 [(0, .ref h0), (1, .null), (2, .null), (3, .int 0), (4, .int 0)] := hl
  refine lv_aload_n hx hb dJE_init_13_0 rfl (lv_at hl 0 rfl) ?_
  refine lv_aload_nN hx hb dJE_init_13_1 rfl (lv_at hl 1 rfl) ?_
  refine lv_aload_nN hx hb dJE_init_13_2 rfl (lv_at hl 2 rfl) ?_
  refine lv_iload_n hx hb dJE_init_13_3 rfl (lv_at hl 3 rfl) ?_
  refine lv_iload hx hb dJE_init_13_4 (lv_at hl 4 rfl) ?_
  have hPc := hP.sub (ws' := [(h0, .inr (13, [.null, .null, .null, .null, .null, .int 0]))]) [0] rfl
  have hDc := hD.sub (ws' := [(h0, .inr (13, [.null, .null, .null, .null, .null, .int 0]))]) [0] (by decide) rfl
  have hKc := hK.sub (tys' := []) [] rfl
  have hFc := va_free (wc := [(h0, .inr (13, [.null, .null, .null, .null, .null, .int 0]))]) hD hS hA [0] rfl
  have h_1 : 0 ≤ 0 := by decide
  have h_2 : 0 ≤ 0 := by decide
  refine va_callv (va_runI (As := [.null, .null, .int 0, .int 0]) (rest := []) ⟨hx, hb, hml, hown, hts⟩ (c_JT_init_13 l dC dI h0 _) (cwI 4 hts wg_JE_init_13_JT_init_13 rfl rfl rfl (hts (.initialized RJT) (wm_JE_init_13 0 rfl)) (hts (.methodLink RJE 16 yJT_init) (wm_JE_init_13 1 rfl)) (hts (.instanceMethod yJT_init) (wm_JE_init_13 2 rfl)) rfl (by decide +kernel) ⟨Nat.le_of_ble_eq_true rfl, Nat.le_of_ble_eq_true rfl⟩) ⟨fun a U g mk q => by obtain ⟨q0, q1, qP, qK, qD, qf0⟩ := q; exact ⟨q0, q1, qP, va_K.moved (u := U) (U := U.calling g mk a) (Vm.Alike.refl U.vm) qK, qD, xz_Z.same (Vm.Alike.refl _) rfl qf0⟩, fun U hU hW => ⟨rfl, by rw [hU], by rw [hU]; exact hPc, va_K.moved hW.alike hKc, hDc.weaken (fun _ _ _ _ => trivial), (hZ9.to hS hFc hW.alike hU)⟩⟩ rfl rfl hl.1 rfl (lv_room (Nat.le_of_ble_eq_true rfl)) dJE_init_13_6 ⟨h_1, h_2⟩) hS (fun q _ h => hFc q h) hFc (fun u3 t H1 locs ht hvm hw hB hz1 hk1 hS => ?_)
  obtain ⟨hP1, hK1, hD1⟩ := hB
  rw [ht] at hP1
  have hK1 := va_K.moved hvm.symm hK1
  obtain ⟨hP, hD⟩ := va_join (wr := []) (w1 := [(h0, .inr (13, [.null, .null, .null, .null, .null, .int 0]))]) hP hD [0] [] rfl rfl (by decide) (by decide) hk1 hFc hP1 hD1
  have hK := (hK.sub (tys' := []) [] rfl).app hK1
  generalize H1 = H at hP hS ⊢
  have hP : va_P (dC, dI) vwCl [(h0, .inr (13, [.null, .null, .null, .null, .null, .int 0]))] H := hP
  have hD : va_D A [(h0, .inr (13, [.null, .null, .null, .null, .null, .int 0]))] := hD
  have hK : va_K (dC, dI) vwCl [] s := hK
  refine W.widen (k := 0) (n := 0) (by decide) (by decide) ?_
  have hP9 := hP.sub (ws' := [(h0, .inr (13, [.null, .null, .null, .null, .null, .int 0]))]) [0] rfl
  have hD9 := hD.sub (ws' := [(h0, .inr (13, [.null, .null, .null, .null, .null, .int 0]))]) [0] (by decide) rfl
  have hK9 := hK.sub (tys' := []) [] rfl
  exact W.vret hx hb hr (fun t ht hW => ⟨⟨(), rfl, trivial, by rw [ht]; exact hP9, va_K.moved hW.alike hK9, hD9⟩, hS.F ht⟩) hS.2.2 dJE_init_13_9

abbrev at_JR_init_13 (dC : Nat → ClassId) (dI : Nat → Nat → Nat) (A : Nat → Prop) (h0 : Nat) (u : Unit) (t : State) : Prop := match u with
  | _ => va_P (dC, dI) vwCl [(h0, .inr (13, [.null, .null, .null, .null, .null, .int 0]))] t.heap ∧ va_K (dC, dI) vwCl [] t ∧ va_D A [(h0, .inr (13, [.null, .null, .null, .null, .null, .int 0]))]
theorem dJR_init_13_0 : decode cJR_init 0 = .ok (.aload_n 0, 1) := by decide +kernel
theorem dJR_init_13_1 : decode cJR_init 1 = .ok (.aload_n 1, 1) := by decide +kernel
theorem dJR_init_13_2 : decode cJR_init 2 = .ok (.aload_n 2, 1) := by decide +kernel
theorem dJR_init_13_3 : decode cJR_init 3 = .ok (.iload_n 3, 1) := by decide +kernel
theorem dJR_init_13_4 : decode cJR_init 4 = .ok (.iload 4, 2) := by decide +kernel
theorem dJR_init_13_6 : decode cJR_init 6 = .ok (.invokespecial 16, 3) := by decide +kernel
theorem dJR_init_13_9 : decode cJR_init 9 = .ok (.return_, 1) := by decide +kernel
def ww_JR_init_13 : List Cond := [.initialized RJE, .methodLink RJR 16 yJE_init, .instanceMethod yJE_init]
def wv_JR_init_13 : List Cond := .code yJR_init cJR_init 5 none :: (ww_JR_init_13 ++ (wv_JE_init_13 ++ []))
theorem wm_JR_init_13 {w : Cond} (i : Nat) (h : ww_JR_init_13[i]? = some w) : w ∈ wv_JR_init_13 := List.mem_cons_of_mem _ (List.mem_append_left _ (List.mem_of_getElem? h))
theorem gw_JR_init_13 : wv_JR_init_13.all goodWord = true := by decide +kernel
theorem wg_JR_init_13_JE_init_13 : GoodIn wv_JR_init_13 wv_JE_init_13 := goodIn_sub (fun w h => List.mem_cons_of_mem _ (List.mem_append_right _ (List.mem_append_left _ h))) gw_JE_init_13
set_option maxHeartbeats 4000000 in
set_option maxRecDepth 100000 in
/-- JR.<init> of four, for kind 13 -/
theorem c_JR_init_13 (l : Launch) (dC : Nat → ClassId) (dI : Nat → Nat → Nat) (h0 : Nat) (sz : Nat) : Met l yJR_init wv_JR_init_13 ({ frames := 3, cells := 0, slots := 0, locals := 60 }) (va_Pc [.ref h0, .null, .null, .int 0, .int 0] (fun U => U.heap.size = sz ∧ va_P (dC, dI) vwCl [(h0, .inr (13, [.null, .null, .null, .null, .null, .int 0]))] U.heap ∧ va_K (dC, dI) vwCl [] U ∧ va_D (fun _ => True) [(h0, .inr (13, [.null, .null, .null, .null, .null, .int 0]))] ∧ xz_Z (va_A [(h0, .inr (13, [.null, .null, .null, .null, .null, .int 0]))] sz) U U.heap)) (va_Qv (fun _ : Unit => True) (at_JR_init_13 dC dI (va_A [(h0, .inr (13, [.null, .null, .null, .null, .null, .int 0]))] sz) h0) (va_A [(h0, .inr (13, [.null, .null, .null, .null, .null, .int 0]))] sz)) 0 0 (va_A [(h0, .inr (13, [.null, .null, .null, .null, .null, .int 0]))] sz) := by
  refine Met.ofW (cc := cJR_init) (maxL := 5) (ret := none) (by decide) rfl ?_
  intro p e s m args below meth c s₁ B hml hv
  obtain ⟨rfl, hsz, hP, hK, hD0, hZ9⟩ := hv
  have hx := B.exec
  have hb := B.bytes
  have hr := B.returns
  have hts := atoms_spec (ws := wv_JR_init_13) B.pre
  have hown : s.vm.findClass RJR = some m.cls := findClass_of_methodNamed B.named
  have hlocks := B.notSynchronized
  have hin0 : meth.name = "<init>" := (name_of_methodNamed B.named B.method).1
  subst hsz
  have hD := hD0.self (sz := s.heap.size)
  generalize hAe : va_A [(h0, .inr (13, [.null, .null, .null, .null, .null, .int 0]))] s.heap.size = A at hD hZ9 ⊢
  have hA : ∀ q : Nat, s.heap.size ≤ q → A q := fun q h => by rw [← hAe]; exact Or.inr h
  have hS : va_S A s.heap s.heap [] := va_S.rf
  have hP : va_P (dC, dI) vwCl [(h0, .inr (13, [.null, .null, .null, .null, .null, .int 0]))] s.heap := hP
  have hl := lv_entry ([.ref h0, .null, .null, .int 0, .int 0]) (n := 5) (Nat.le_of_ble_eq_true rfl)
  rw [lg_entry_eq]
  generalize (lg_sl ([.ref h0, .null, .null, .int 0, .int 0]) ++ List.replicate (5 - (lg_sl ([.ref h0, .null, .null, .int 0, .int 0])).length) Slot.unset).toArray = ls at hl ⊢
  have hl : lv_has ls 5 [(0, .ref h0), (1, .null), (2, .null), (3, .int 0), (4, .int 0)] := hl
  refine lv_aload_n hx hb dJR_init_13_0 rfl (lv_at hl 0 rfl) ?_
  refine lv_aload_nN hx hb dJR_init_13_1 rfl (lv_at hl 1 rfl) ?_
  refine lv_aload_nN hx hb dJR_init_13_2 rfl (lv_at hl 2 rfl) ?_
  refine lv_iload_n hx hb dJR_init_13_3 rfl (lv_at hl 3 rfl) ?_
  refine lv_iload hx hb dJR_init_13_4 (lv_at hl 4 rfl) ?_
  have hPc := hP.sub (ws' := [(h0, .inr (13, [.null, .null, .null, .null, .null, .int 0]))]) [0] rfl
  have hDc := hD.sub (ws' := [(h0, .inr (13, [.null, .null, .null, .null, .null, .int 0]))]) [0] (by decide) rfl
  have hKc := hK.sub (tys' := []) [] rfl
  have hFc := va_free (wc := [(h0, .inr (13, [.null, .null, .null, .null, .null, .int 0]))]) hD hS hA [0] rfl
  have h_1 : 0 ≤ 0 := by decide
  have h_2 : 0 ≤ 0 := by decide
  refine va_callv (va_runI (As := [.null, .null, .int 0, .int 0]) (rest := []) ⟨hx, hb, hml, hown, hts⟩ (c_JE_init_13 l dC dI h0 _) (cwI 4 hts wg_JR_init_13_JE_init_13 rfl rfl rfl (hts (.initialized RJE) (wm_JR_init_13 0 rfl)) (hts (.methodLink RJR 16 yJE_init) (wm_JR_init_13 1 rfl)) (hts (.instanceMethod yJE_init) (wm_JR_init_13 2 rfl)) rfl (by decide +kernel) ⟨Nat.le_of_ble_eq_true rfl, Nat.le_of_ble_eq_true rfl⟩) ⟨fun a U g mk q => by obtain ⟨q0, q1, qP, qK, qD, qf0⟩ := q; exact ⟨q0, q1, qP, va_K.moved (u := U) (U := U.calling g mk a) (Vm.Alike.refl U.vm) qK, qD, xz_Z.same (Vm.Alike.refl _) rfl qf0⟩, fun U hU hW => ⟨rfl, by rw [hU], by rw [hU]; exact hPc, va_K.moved hW.alike hKc, hDc.weaken (fun _ _ _ _ => trivial), (hZ9.to hS hFc hW.alike hU)⟩⟩ rfl rfl hl.1 rfl (lv_room (Nat.le_of_ble_eq_true rfl)) dJR_init_13_6 ⟨h_1, h_2⟩) hS (fun q _ h => hFc q h) hFc (fun u3 t H1 locs ht hvm hw hB hz1 hk1 hS => ?_)
  obtain ⟨hP1, hK1, hD1⟩ := hB
  rw [ht] at hP1
  have hK1 := va_K.moved hvm.symm hK1
  obtain ⟨hP, hD⟩ := va_join (wr := []) (w1 := [(h0, .inr (13, [.null, .null, .null, .null, .null, .int 0]))]) hP hD [0] [] rfl rfl (by decide) (by decide) hk1 hFc hP1 hD1
  have hK := (hK.sub (tys' := []) [] rfl).app hK1
  generalize H1 = H at hP hS ⊢
  have hP : va_P (dC, dI) vwCl [(h0, .inr (13, [.null, .null, .null, .null, .null, .int 0]))] H := hP
  have hD : va_D A [(h0, .inr (13, [.null, .null, .null, .null, .null, .int 0]))] := hD
  have hK : va_K (dC, dI) vwCl [] s := hK
  refine W.widen (k := 0) (n := 0) (by decide) (by decide) ?_
  have hP9 := hP.sub (ws' := [(h0, .inr (13, [.null, .null, .null, .null, .null, .int 0]))]) [0] rfl
  have hD9 := hD.sub (ws' := [(h0, .inr (13, [.null, .null, .null, .null, .null, .int 0]))]) [0] (by decide) rfl
  have hK9 := hK.sub (tys' := []) [] rfl
  exact W.vret hx hb hr (fun t ht hW => ⟨⟨(), rfl, trivial, by rw [ht]; exact hP9, va_K.moved hW.alike hK9, hD9⟩, hS.F ht⟩) hS.2.2 dJR_init_13_9

abbrev at_X13_init (dC : Nat → ClassId) (dI : Nat → Nat → Nat) (A : Nat → Prop) (h0 : Nat) (u : Unit) (t : State) : Prop := match u with
  | _ => va_P (dC, dI) vwCl [(h0, .inr (13, [.null, .null, .null, .null, .null, .int 0]))] t.heap ∧ va_K (dC, dI) vwCl [] t ∧ va_D A [(h0, .inr (13, [.null, .null, .null, .null, .null, .int 0]))]
theorem dX13_init_0 : decode cX13_init 0 = .ok (.aload_n 0, 1) := by decide +kernel
theorem dX13_init_1 : decode cX13_init 1 = .ok (.aconst_null, 1) := by decide +kernel
theorem dX13_init_2 : decode cX13_init 2 = .ok (.aconst_null, 1) := by decide +kernel
theorem dX13_init_3 : decode cX13_init 3 = .ok (.iconst 0, 1) := by decide +kernel
theorem dX13_init_4 : decode cX13_init 4 = .ok (.iconst 0, 1) := by decide +kernel
theorem dX13_init_5 : decode cX13_init 5 = .ok (.invokespecial 1, 3) := by decide +kernel
theorem dX13_init_8 : decode cX13_init 8 = .ok (.return_, 1) := by decide +kernel
def ww_X13_init : List Cond := [.initialized RJR, .methodLink RX13 1 yJR_init, .instanceMethod yJR_init]
def wv_X13_init : List Cond := .code yX13_init cX13_init 1 none :: (ww_X13_init ++ (wv_JR_init_13 ++ []))
theorem wm_X13_init {w : Cond} (i : Nat) (h : ww_X13_init[i]? = some w) : w ∈ wv_X13_init := List.mem_cons_of_mem _ (List.mem_append_left _ (List.mem_of_getElem? h))
theorem gw_X13_init : wv_X13_init.all goodWord = true := by decide +kernel
theorem wg_X13_init_JR_init_13 : GoodIn wv_X13_init wv_JR_init_13 := goodIn_sub (fun w h => List.mem_cons_of_mem _ (List.mem_append_right _ (List.mem_append_left _ h))) gw_JR_init_13
set_option maxHeartbeats 4000000 in
set_option maxRecDepth 100000 in
/-- a throwable of the reference, kind 13 -/
theorem c_X13_init (l : Launch) (dC : Nat → ClassId) (dI : Nat → Nat → Nat) (h0 : Nat) (sz : Nat) : Met l yX13_init wv_X13_init ({ frames := 4, cells := 0, slots := 0, locals := 84 }) (va_Pc [.ref h0] (fun U => U.heap.size = sz ∧ va_P (dC, dI) vwCl [(h0, .inr (13, [.null, .null, .null, .null, .null, .int 0]))] U.heap ∧ va_K (dC, dI) vwCl [] U ∧ va_D (fun _ => True) [(h0, .inr (13, [.null, .null, .null, .null, .null, .int 0]))] ∧ xz_Z (va_A [(h0, .inr (13, [.null, .null, .null, .null, .null, .int 0]))] sz) U U.heap)) (va_Qv (fun _ : Unit => True) (at_X13_init dC dI (va_A [(h0, .inr (13, [.null, .null, .null, .null, .null, .int 0]))] sz) h0) (va_A [(h0, .inr (13, [.null, .null, .null, .null, .null, .int 0]))] sz)) 0 0 (va_A [(h0, .inr (13, [.null, .null, .null, .null, .null, .int 0]))] sz) := by
  refine Met.ofW (cc := cX13_init) (maxL := 1) (ret := none) (by decide) rfl ?_
  intro p e s m args below meth c s₁ B hml hv
  obtain ⟨rfl, hsz, hP, hK, hD0, hZ9⟩ := hv
  have hx := B.exec
  have hb := B.bytes
  have hr := B.returns
  have hts := atoms_spec (ws := wv_X13_init) B.pre
  have hown : s.vm.findClass RX13 = some m.cls := findClass_of_methodNamed B.named
  have hlocks := B.notSynchronized
  have hin0 : meth.name = "<init>" := (name_of_methodNamed B.named B.method).1
  subst hsz
  have hD := hD0.self (sz := s.heap.size)
  generalize hAe : va_A [(h0, .inr (13, [.null, .null, .null, .null, .null, .int 0]))] s.heap.size = A at hD hZ9 ⊢
  have hA : ∀ q : Nat, s.heap.size ≤ q → A q := fun q h => by rw [← hAe]; exact Or.inr h
  have hS : va_S A s.heap s.heap [] := va_S.rf
  have hP : va_P (dC, dI) vwCl [(h0, .inr (13, [.null, .null, .null, .null, .null, .int 0]))] s.heap := hP
  have hl := lv_entry ([.ref h0]) (n := 1) (Nat.le_of_ble_eq_true rfl)
  rw [lg_entry_eq]
  generalize (lg_sl ([.ref h0]) ++ List.replicate (1 - (lg_sl ([.ref h0])).length) Slot.unset).toArray = ls at hl ⊢
  have hl : lv_has ls 1 [(0, .ref h0)] := hl
  refine lv_aload_n hx hb dX13_init_0 rfl (lv_at hl 0 rfl) ?_
  refine lv_null hx hb dX13_init_1 ?_
  refine lv_null hx hb dX13_init_2 ?_
  refine lv_iconst (v := 0) hx hb dX13_init_3 (by decide) ?_
  refine lv_iconst (v := 0) hx hb dX13_init_4 (by decide) ?_
  have hPc := hP.sub (ws' := [(h0, .inr (13, [.null, .null, .null, .null, .null, .int 0]))]) [0] rfl
  have hDc := hD.sub (ws' := [(h0, .inr (13, [.null, .null, .null, .null, .null, .int 0]))]) [0] (by decide) rfl
  have hKc := hK.sub (tys' := []) [] rfl
  have hFc := va_free (wc := [(h0, .inr (13, [.null, .null, .null, .null, .null, .int 0]))]) hD hS hA [0] rfl
  have h_1 : 0 ≤ 0 := by decide
  have h_2 : 0 ≤ 0 := by decide
  refine va_callv (va_runI (As := [.null, .null, .int 0, .int 0]) (rest := []) ⟨hx, hb, hml, hown, hts⟩ (c_JR_init_13 l dC dI h0 _) (cwI 4 hts wg_X13_init_JR_init_13 rfl rfl rfl (hts (.initialized RJR) (wm_X13_init 0 rfl)) (hts (.methodLink RX13 1 yJR_init) (wm_X13_init 1 rfl)) (hts (.instanceMethod yJR_init) (wm_X13_init 2 rfl)) rfl (by decide +kernel) ⟨Nat.le_of_ble_eq_true rfl, Nat.le_of_ble_eq_true rfl⟩) ⟨fun a U g mk q => by obtain ⟨q0, q1, qP, qK, qD, qf0⟩ := q; exact ⟨q0, q1, qP, va_K.moved (u := U) (U := U.calling g mk a) (Vm.Alike.refl U.vm) qK, qD, xz_Z.same (Vm.Alike.refl _) rfl qf0⟩, fun U hU hW => ⟨rfl, by rw [hU], by rw [hU]; exact hPc, va_K.moved hW.alike hKc, hDc.weaken (fun _ _ _ _ => trivial), (hZ9.to hS hFc hW.alike hU)⟩⟩ rfl rfl hl.1 rfl (lv_room (Nat.le_of_ble_eq_true rfl)) dX13_init_5 ⟨h_1, h_2⟩) hS (fun q _ h => hFc q h) hFc (fun u3 t H1 locs ht hvm hw hB hz1 hk1 hS => ?_)
  obtain ⟨hP1, hK1, hD1⟩ := hB
  rw [ht] at hP1
  have hK1 := va_K.moved hvm.symm hK1
  obtain ⟨hP, hD⟩ := va_join (wr := []) (w1 := [(h0, .inr (13, [.null, .null, .null, .null, .null, .int 0]))]) hP hD [0] [] rfl rfl (by decide) (by decide) hk1 hFc hP1 hD1
  have hK := (hK.sub (tys' := []) [] rfl).app hK1
  generalize H1 = H at hP hS ⊢
  have hP : va_P (dC, dI) vwCl [(h0, .inr (13, [.null, .null, .null, .null, .null, .int 0]))] H := hP
  have hD : va_D A [(h0, .inr (13, [.null, .null, .null, .null, .null, .int 0]))] := hD
  have hK : va_K (dC, dI) vwCl [] s := hK
  refine W.widen (k := 0) (n := 0) (by decide) (by decide) ?_
  have hP9 := hP.sub (ws' := [(h0, .inr (13, [.null, .null, .null, .null, .null, .int 0]))]) [0] rfl
  have hD9 := hD.sub (ws' := [(h0, .inr (13, [.null, .null, .null, .null, .null, .int 0]))]) [0] (by decide) rfl
  have hK9 := hK.sub (tys' := []) [] rfl
  exact W.vret hx hb hr (fun t ht hW => ⟨⟨(), rfl, trivial, by rw [ht]; exact hP9, va_K.moved hW.alike hK9, hD9⟩, hS.F ht⟩) hS.2.2 dX13_init_8

abbrev at_JT_init_14 (dC : Nat → ClassId) (dI : Nat → Nat → Nat) (A : Nat → Prop) (h0 : Nat) (u : Unit) (t : State) : Prop := match u with
  | _ => va_P (dC, dI) vwCl [(h0, .inr (14, [.null, .null, .null, .null, .null, .int 0]))] t.heap ∧ va_K (dC, dI) vwCl [] t ∧ va_D A [(h0, .inr (14, [.null, .null, .null, .null, .null, .int 0]))]
theorem dJT_init_14_0 : decode cJT_init 0 = .ok (.aload_n 0, 1) := by decide +kernel
theorem dJT_init_14_1 : decode cJT_init 1 = .ok (.invokespecial 1, 3) := by decide +kernel
theorem dJT_init_14_4 : decode cJT_init 4 = .ok (.aload_n 0, 1) := by decide +kernel
theorem dJT_init_14_5 : decode cJT_init 5 = .ok (.aload_n 0, 1) := by decide +kernel
theorem dJT_init_14_6 : decode cJT_init 6 = .ok (.putfield 7, 3) := by decide +kernel
theorem dJT_init_14_9 : decode cJT_init 9 = .ok (.aload_n 0, 1) := by decide +kernel
theorem dJT_init_14_10 : decode cJT_init 10 = .ok (.getstatic 13, 3) := by decide +kernel
theorem dJT_init_14_13 : decode cJT_init 13 = .ok (.putfield 17, 3) := by decide +kernel
theorem dJT_init_14_16 : decode cJT_init 16 = .ok (.aload_n 0, 1) := by decide +kernel
theorem dJT_init_14_17 : decode cJT_init 17 = .ok (.getstatic 20, 3) := by decide +kernel
theorem dJT_init_14_20 : decode cJT_init 20 = .ok (.putfield 24, 3) := by decide +kernel
theorem dJT_init_14_23 : decode cJT_init 23 = .ok (.iload 4, 2) := by decide +kernel
theorem dJT_init_14_25 : decode cJT_init 25 = .ok (.ifCond .eq 11, 3) := by decide +kernel
theorem dJT_init_14_36 : decode cJT_init 36 = .ok (.aload_n 0, 1) := by decide +kernel
theorem dJT_init_14_37 : decode cJT_init 37 = .ok (.aconst_null, 1) := by decide +kernel
theorem dJT_init_14_38 : decode cJT_init 38 = .ok (.putfield 17, 3) := by decide +kernel
theorem dJT_init_14_41 : decode cJT_init 41 = .ok (.aload_n 0, 1) := by decide +kernel
theorem dJT_init_14_42 : decode cJT_init 42 = .ok (.aload_n 1, 1) := by decide +kernel
theorem dJT_init_14_43 : decode cJT_init 43 = .ok (.putfield 31, 3) := by decide +kernel
theorem dJT_init_14_46 : decode cJT_init 46 = .ok (.aload_n 0, 1) := by decide +kernel
theorem dJT_init_14_47 : decode cJT_init 47 = .ok (.aload_n 2, 1) := by decide +kernel
theorem dJT_init_14_48 : decode cJT_init 48 = .ok (.putfield 7, 3) := by decide +kernel
theorem dJT_init_14_51 : decode cJT_init 51 = .ok (.iload_n 3, 1) := by decide +kernel
theorem dJT_init_14_52 : decode cJT_init 52 = .ok (.ifCond .ne 8, 3) := by decide +kernel
theorem dJT_init_14_55 : decode cJT_init 55 = .ok (.aload_n 0, 1) := by decide +kernel
theorem dJT_init_14_56 : decode cJT_init 56 = .ok (.aconst_null, 1) := by decide +kernel
theorem dJT_init_14_57 : decode cJT_init 57 = .ok (.putfield 24, 3) := by decide +kernel
theorem dJT_init_14_60 : decode cJT_init 60 = .ok (.return_, 1) := by decide +kernel
def ww_JT_init_14 : List Cond := [.methodLink RJT 1 objectInit, .instanceMethod objectInit, .code objectInit ⟨#[0xb1]⟩ 1 none, .fieldLink RJT 7 "java/lang/Throwable" "cause" "Ljava/lang/Throwable;", .fieldLink RJT 13 "java/lang/Throwable" "UNASSIGNED_STACK" "[Ljava/lang/StackTraceElement;", .fieldLink RJT 17 "java/lang/Throwable" "stackTrace" "[Ljava/lang/StackTraceElement;", .fieldLink RJT 20 "java/lang/Throwable" "SUPPRESSED_SENTINEL" "Ljava/util/List;", .fieldLink RJT 24 "java/lang/Throwable" "suppressedExceptions" "Ljava/util/List;", .fieldLink RJT 31 "java/lang/Throwable" "detailMessage" "Ljava/lang/String;"]
def wv_JT_init_14 : List Cond := .code yJT_init cJT_init 5 none :: (ww_JT_init_14 ++ (u_ws RX14 TX14 6 ++ []))
theorem wm_JT_init_14 {w : Cond} (i : Nat) (h : ww_JT_init_14[i]? = some w) : w ∈ wv_JT_init_14 := List.mem_cons_of_mem _ (List.mem_append_left _ (List.mem_of_getElem? h))
theorem gw_JT_init_14 : wv_JT_init_14.all goodWord = true := by decide +kernel
theorem wh_JT_init_14_X14 : ∀ w ∈ u_ws RX14 TX14 6, w ∈ wv_JT_init_14 := fun w h => List.mem_cons_of_mem _ (List.mem_append_right _ (List.mem_append_left _ h))
set_option maxHeartbeats 4000000 in
set_option maxRecDepth 100000 in
/-- JT.<init> of four, for kind 14 -/
theorem c_JT_init_14 (l : Launch) (dC : Nat → ClassId) (dI : Nat → Nat → Nat) (h0 : Nat) (sz : Nat) : Met l yJT_init wv_JT_init_14 ({ frames := 1, cells := 0, slots := 0, locals := 12 }) (va_Pc [.ref h0, .null, .null, .int 0, .int 0] (fun U => U.heap.size = sz ∧ va_P (dC, dI) vwCl [(h0, .inr (14, [.null, .null, .null, .null, .null, .int 0]))] U.heap ∧ va_K (dC, dI) vwCl [] U ∧ va_D (fun _ => True) [(h0, .inr (14, [.null, .null, .null, .null, .null, .int 0]))] ∧ xz_Z (va_A [(h0, .inr (14, [.null, .null, .null, .null, .null, .int 0]))] sz) U U.heap)) (va_Qv (fun _ : Unit => True) (at_JT_init_14 dC dI (va_A [(h0, .inr (14, [.null, .null, .null, .null, .null, .int 0]))] sz) h0) (va_A [(h0, .inr (14, [.null, .null, .null, .null, .null, .int 0]))] sz)) 0 0 (va_A [(h0, .inr (14, [.null, .null, .null, .null, .null, .int 0]))] sz) := by
  refine Met.ofW (cc := cJT_init) (maxL := 5) (ret := none) (by decide) rfl ?_
  intro p e s m args below meth c s₁ B hml hv
  obtain ⟨rfl, hsz, hP, hK, hD0, hZ9⟩ := hv
  have hx := B.exec
  have hb := B.bytes
  have hr := B.returns
  have hts := atoms_spec (ws := wv_JT_init_14) B.pre
  have hown : s.vm.findClass RJT = some m.cls := findClass_of_methodNamed B.named
  have hlocks := B.notSynchronized
  have hin0 : meth.name = "<init>" := (name_of_methodNamed B.named B.method).1
  subst hsz
  have hD := hD0.self (sz := s.heap.size)
  generalize hAe : va_A [(h0, .inr (14, [.null, .null, .null, .null, .null, .int 0]))] s.heap.size = A at hD hZ9 ⊢
  have hA : ∀ q : Nat, s.heap.size ≤ q → A q := fun q h => by rw [← hAe]; exact Or.inr h
  have hS : va_S A s.heap s.heap [] := va_S.rf
  have hP : va_P (dC, dI) vwCl [(h0, .inr (14, [.null, .null, .null, .null, .null, .int 0]))] s.heap := hP
  have hl := lv_entry ([.ref h0, .null, .null, .int 0, .int 0]) (n := 5) (Nat.le_of_ble_eq_true rfl)
  rw [lg_entry_eq]
  generalize (lg_sl ([.ref h0, .null, .null, .int 0, .int 0]) ++ List.replicate (5 - (lg_sl ([.ref h0, .null, .null, .int 0, .int 0])).length) Slot.unset).toArray = ls at hl ⊢
  have hl : lv_has ls 5 [(0, .ref h0), (1, .null), (2, .null), (3, .int 0), (4, .int 0)] := hl
  refine lv_aload_n hx hb dJT_init_14_0 rfl (lv_at hl 0 rfl) ?_
  refine W.objInit hx hb hown (hts (.methodLink RJT 1 objectInit) (wm_JT_init_14 0 rfl)) (hts (.instanceMethod objectInit) (wm_JT_init_14 1 rfl)) (hts (.code objectInit ⟨#[0xb1]⟩ 1 none) (wm_JT_init_14 2 rfl)) rfl (by rw [hml]; exact hl.1) rfl dJT_init_14_1 (Nat.le_of_ble_eq_true rfl) (Nat.le_of_ble_eq_true rfl) ?_
  refine W.eq (g2 := F0 m 4 ls []) rfl ?_
  refine lv_aload_n hx hb dJT_init_14_4 rfl (lv_at hl 0 rfl) ?_
  refine lv_aload_n hx hb dJT_init_14_5 rfl (lv_at hl 0 rfl) ?_
  refine va_put (D := (dC, dI)) (ci := 14) (v := .ref h0) (ty := .object "java/lang/Throwable") (C := RX14) (T := TX14) (N := 6) hx hb hts wh_JT_init_14_X14 tyX14 tyX14_ok nmX14 hown hK hP hD hS 0 rfl rfl 0 (by decide) (hts (.fieldLink RJT 7 "java/lang/Throwable" "cause" "Ljava/lang/Throwable;") (wm_JT_init_14 3 rfl)) (fun _ h9 => h9) rfl (by decide +kernel) rfl rfl (Nat.le_of_ble_eq_true rfl) dJT_init_14_6 (fun H locs hP hD hS => ?_)
  have hP : va_P (dC, dI) vwCl [(h0, .inr (14, [.ref h0, .null, .null, .null, .null, .int 0]))] H := hP
  have hD : va_D A [(h0, .inr (14, [.ref h0, .null, .null, .null, .null, .int 0]))] := hD
  refine lv_aload_n hx hb dJT_init_14_9 rfl (lv_at hl 0 rfl) ?_
  obtain ⟨vU9, hz_vU9, hn_vU9, hf_vU9⟩ := xz_val (ty := .array (.object "java/lang/StackTraceElement")) (by first | exact Or.inl ⟨_, rfl⟩ | exact Or.inr ⟨_, rfl⟩) hZ9.1.1
  refine va_gets (v := vU9) hx hb hz_vU9 hS hown (hts (.fieldLink RJT 13 "java/lang/Throwable" "UNASSIGNED_STACK" "[Ljava/lang/StackTraceElement;") (wm_JT_init_14 4 rfl)) (fun _ h9 => h9) dJT_init_14_10 ?_
  refine va_put (D := (dC, dI)) (ci := 14) (v := vU9) (ty := .array (.object "java/lang/StackTraceElement")) (C := RX14) (T := TX14) (N := 6) hx hb hts wh_JT_init_14_X14 tyX14 tyX14_ok nmX14 hown hK hP hD hS 0 rfl rfl 1 (by decide) (hts (.fieldLink RJT 17 "java/lang/Throwable" "stackTrace" "[Ljava/lang/StackTraceElement;") (wm_JT_init_14 5 rfl)) (fun _ h9 => h9) rfl (by decide +kernel) hn_vU9 hf_vU9 (Nat.le_of_ble_eq_true rfl) dJT_init_14_13 (fun H locs hP hD hS => ?_)
  have hP : va_P (dC, dI) vwCl [(h0, .inr (14, [.ref h0, vU9, .null, .null, .null, .int 0]))] H := hP
  have hD : va_D A [(h0, .inr (14, [.ref h0, vU9, .null, .null, .null, .int 0]))] := hD
  refine lv_aload_n hx hb dJT_init_14_16 rfl (lv_at hl 0 rfl) ?_
  obtain ⟨vN9, hz_vN9, hn_vN9, hf_vN9⟩ := xz_val (ty := .object "java/util/List") (by first | exact Or.inl ⟨_, rfl⟩ | exact Or.inr ⟨_, rfl⟩) hZ9.2.1
  refine va_gets (v := vN9) hx hb hz_vN9 hS hown (hts (.fieldLink RJT 20 "java/lang/Throwable" "SUPPRESSED_SENTINEL" "Ljava/util/List;") (wm_JT_init_14 6 rfl)) (fun _ h9 => h9) dJT_init_14_17 ?_
  refine va_put (D := (dC, dI)) (ci := 14) (v := vN9) (ty := .object "java/util/List") (C := RX14) (T := TX14) (N := 6) hx hb hts wh_JT_init_14_X14 tyX14 tyX14_ok nmX14 hown hK hP hD hS 0 rfl rfl 2 (by decide) (hts (.fieldLink RJT 24 "java/lang/Throwable" "suppressedExceptions" "Ljava/util/List;") (wm_JT_init_14 7 rfl)) (fun _ h9 => h9) rfl (by decide +kernel) hn_vN9 hf_vN9 (Nat.le_of_ble_eq_true rfl) dJT_init_14_20 (fun H locs hP hD hS => ?_)
  have hP : va_P (dC, dI) vwCl [(h0, .inr (14, [.ref h0, vU9, vN9, .null, .null, .int 0]))] H := hP
  have hD : va_D A [(h0, .inr (14, [.ref h0, vU9, vN9, .null, .null, .int 0]))] := hD
  refine lv_iload hx hb dJT_init_14_23 (lv_at hl 4 rfl) ?_
  refine lv_if_eq (tgt := 36) hx hb dJT_init_14_25 (by decide) (fun _ => ?_) (fun h9 => absurd (by decide) h9)
  refine lv_aload_n hx hb dJT_init_14_36 rfl (lv_at hl 0 rfl) ?_
  refine lv_null hx hb dJT_init_14_37 ?_
  refine va_put (D := (dC, dI)) (ci := 14) (v := .null) (ty := .array (.object "java/lang/StackTraceElement")) (C := RX14) (T := TX14) (N := 6) hx hb hts wh_JT_init_14_X14 tyX14 tyX14_ok nmX14 hown hK hP hD hS 0 rfl rfl 1 (by decide) (hts (.fieldLink RJT 17 "java/lang/Throwable" "stackTrace" "[Ljava/lang/StackTraceElement;") (wm_JT_init_14 5 rfl)) (fun _ h9 => h9) rfl (by decide +kernel) rfl rfl (Nat.le_of_ble_eq_true rfl) dJT_init_14_38 (fun H locs hP hD hS => ?_)
  have hP : va_P (dC, dI) vwCl [(h0, .inr (14, [.ref h0, .null, vN9, .null, .null, .int 0]))] H := hP
  have hD : va_D A [(h0, .inr (14, [.ref h0, .null, vN9, .null, .null, .int 0]))] := hD
  refine lv_aload_n hx hb dJT_init_14_41 rfl (lv_at hl 0 rfl) ?_
  refine lv_aload_nN hx hb dJT_init_14_42 rfl (lv_at hl 1 rfl) ?_
  refine va_put (D := (dC, dI)) (ci := 14) (v := .null) (ty := .object "java/lang/String") (C := RX14) (T := TX14) (N := 6) hx hb hts wh_JT_init_14_X14 tyX14 tyX14_ok nmX14 hown hK hP hD hS 0 rfl rfl 3 (by decide) (hts (.fieldLink RJT 31 "java/lang/Throwable" "detailMessage" "Ljava/lang/String;") (wm_JT_init_14 8 rfl)) (fun _ h9 => h9) rfl (by decide +kernel) rfl rfl (Nat.le_of_ble_eq_true rfl) dJT_init_14_43 (fun H locs hP hD hS => ?_)
  have hP : va_P (dC, dI) vwCl [(h0, .inr (14, [.ref h0, .null, vN9, .null, .null, .int 0]))] H := hP
  have hD : va_D A [(h0, .inr (14, [.ref h0, .null, vN9, .null, .null, .int 0]))] := hD
  refine lv_aload_n hx hb dJT_init_14_46 rfl (lv_at hl 0 rfl) ?_
  refine lv_aload_nN hx hb dJT_init_14_47 rfl (lv_at hl 2 rfl) ?_
  refine va_put (D := (dC, dI)) (ci := 14) (v := .null) (ty := .object "java/lang/Throwable") (C := RX14) (T := TX14) (N := 6) hx hb hts wh_JT_init_14_X14 tyX14 tyX14_ok nmX14 hown hK hP hD hS 0 rfl rfl 0 (by decide) (hts (.fieldLink RJT 7 "java/lang/Throwable" "cause" "Ljava/lang/Throwable;") (wm_JT_init_14 3 rfl)) (fun _ h9 => h9) rfl (by decide +kernel) rfl rfl (Nat.le_of_ble_eq_true rfl) dJT_init_14_48 (fun H locs hP hD hS => ?_)
  have hP : va_P (dC, dI) vwCl [(h0, .inr (14, [.null, .null, vN9, .null, .null, .int 0]))] H := hP
  have hD : va_D A [(h0, .inr (14, [.null, .null, vN9, .null, .null, .int 0]))] := hD
  refine lv_iload_n hx hb dJT_init_14_51 rfl (lv_at hl 3 rfl) ?_
  refine lv_if_ne (tgt := 60) hx hb dJT_init_14_52 (by decide) (fun h9 => absurd (by decide) h9) (fun _ => ?_)
  refine lv_aload_n hx hb dJT_init_14_55 rfl (lv_at hl 0 rfl) ?_
  refine lv_null hx hb dJT_init_14_56 ?_
  refine va_put (D := (dC, dI)) (ci := 14) (v := .null) (ty := .object "java/util/List") (C := RX14) (T := TX14) (N := 6) hx hb hts wh_JT_init_14_X14 tyX14 tyX14_ok nmX14 hown hK hP hD hS 0 rfl rfl 2 (by decide) (hts (.fieldLink RJT 24 "java/lang/Throwable" "suppressedExceptions" "Ljava/util/List;") (wm_JT_init_14 7 rfl)) (fun _ h9 => h9) rfl (by decide +kernel) rfl rfl (Nat.le_of_ble_eq_true rfl) dJT_init_14_57 (fun H locs hP hD hS => ?_)
  have hP : va_P (dC, dI) vwCl [(h0, .inr (14, [.null, .null, .null, .null, .null, .int 0]))] H := hP
  have hD : va_D A [(h0, .inr (14, [.null, .null, .null, .null, .null, .int 0]))] := hD
  have hP9 := hP.sub (ws' := [(h0, .inr (14, [.null, .null, .null, .null, .null, .int 0]))]) [0] rfl
  have hD9 := hD.sub (ws' := [(h0, .inr (14, [.null, .null, .null, .null, .null, .int 0]))]) [0] (by decide) rfl
  have hK9 := hK.sub (tys' := []) [] rfl
  exact W.vret hx hb hr (fun t ht hW => ⟨⟨(), rfl, trivial, by rw [ht]; exact hP9, va_K.moved hW.alike hK9, hD9⟩, hS.F ht⟩) hS.2.2 dJT_init_14_60

abbrev at_JE_init_14 (dC : Nat → ClassId) (dI : Nat → Nat → Nat) (A : Nat → Prop) (h0 : Nat) (u : Unit) (t : State) : Prop := match u with
  | _ => va_P (dC, dI) vwCl [(h0, .inr (14, [.null, .null, .null, .null, .null, .int 0]))] t.heap ∧ va_K (dC, dI) vwCl [] t ∧ va_D A [(h0, .inr (14, [.null, .null, .null, .null, .null, .int 0]))]
theorem dJE_init_14_0 : decode cJE_init 0 = .ok (.aload_n 0, 1) := by decide +kernel
theorem dJE_init_14_1 : decode cJE_init 1 = .ok (.aload_n 1, 1) := by decide +kernel
theorem dJE_init_14_2 : decode cJE_init 2 = .ok (.aload_n 2, 1) := by decide +kernel
theorem dJE_init_14_3 : decode cJE_init 3 = .ok (.iload_n 3, 1) := by decide +kernel
theorem dJE_init_14_4 : decode cJE_init 4 = .ok (.iload 4, 2) := by decide +kernel
theorem dJE_init_14_6 : decode cJE_init 6 = .ok (.invokespecial 16, 3) := by decide +kernel
theorem dJE_init_14_9 : decode cJE_init 9 = .ok (.return_, 1) := by decide +kernel
def ww_JE_init_14 : List Cond := [.initialized RJT, .methodLink RJE 16 yJT_init, .instanceMethod yJT_init]
def wv_JE_init_14 : List Cond := .code yJE_init cJE_init 5 none :: (ww_JE_init_14 ++ (wv_JT_init_14 ++ []))
theorem wm_JE_init_14 {w : Cond} (i : Nat) (h : ww_JE_init_14[i]? = some w) : w ∈ wv_JE_init_14 := List.mem_cons_of_mem _ (List.mem_append_left _ (List.mem_of_getElem? h))
theorem gw_JE_init_14 : wv_JE_init_14.all goodWord = true := by decide +kernel
theorem wg_JE_init_14_JT_init_14 : GoodIn wv_JE_init_14 wv_JT_init_14 := goodIn_sub (fun w h => List.mem_cons_of_mem _ (List.mem_append_right _ (List.mem_append_left _ h))) gw_JT_init_14
set_option maxHeartbeats 4000000 in
set_option maxRecDepth 100000 in
/-- JE.<init> of four, for kind 14 -/
theorem c_JE_init_14 (l : Launch) (dC : Nat → ClassId) (dI : Nat → Nat → Nat) (h0 : Nat) (sz : Nat) : Met l yJE_init wv_JE_init_14 ({ frames := 2, cells := 0, slots := 0, locals := 36 }) (va_Pc [.ref h0, .null, .null, .int 0, .int 0] (fun U => U.heap.size = sz ∧ va_P (dC, dI) vwCl [(h0, .inr (14, [.null, .null, .null, .null, .null, .int 0]))] U.heap ∧ va_K (dC, dI) vwCl [] U ∧ va_D (fun _ => True) [(h0, .inr (14, [.null, .null, .null, .null, .null, .int 0]))] ∧ xz_Z (va_A [(h0, .inr (14, [.null, .null, .null, .null, .null, .int 0]))] sz) U U.heap)) (va_Qv (fun _ : Unit => True) (at_JE_init_14 dC dI (va_A [(h0, .inr (14, [.null, .null, .null, .null, .null, .int 0]))] sz) h0) (va_A [(h0, .inr (14, [.null, .null, .null, .null, .null, .int 0]))] sz)) 0 0 (va_A [(h0, .inr (14, [.null, .null, .null, .null, .null, .int 0]))] sz) := by
  refine Met.ofW (cc := cJE_init) (maxL := 5) (ret := none) (by decide) rfl ?_
  intro p e s m args below meth c s₁ B hml hv
  obtain ⟨rfl, hsz, hP, hK, hD0, hZ9⟩ := hv
  have hx := B.exec
  have hb := B.bytes
  have hr := B.returns
  have hts := atoms_spec (ws := wv_JE_init_14) B.pre
  have hown : s.vm.findClass RJE = some m.cls := findClass_of_methodNamed B.named
  have hlocks := B.notSynchronized
  have hin0 : meth.name = "<init>" := (name_of_methodNamed B.named B.method).1
  subst hsz
  have hD := hD0.self (sz := s.heap.size)
  generalize hAe : va_A [(h0, .inr (14, [.null, .null, .null, .null, .null, .int 0]))] s.heap.size = A at hD hZ9 ⊢
  have hA : ∀ q : Nat, s.heap.size ≤ q → A q := fun q h => by rw [← hAe]; exact Or.inr h
  have hS : va_S A s.heap s.heap [] := va_S.rf
  have hP : va_P (dC, dI) vwCl [(h0, .inr (14, [.null, .null, .null, .null, .null, .int 0]))] s.heap := hP
  have hl := lv_entry ([.ref h0, .null, .null, .int 0, .int 0]) (n := 5) (Nat.le_of_ble_eq_true rfl)
  rw [lg_entry_eq]
  generalize (lg_sl ([.ref h0, .null, .null, .int 0, .int 0]) ++ List.replicate (5 - (lg_sl ([.ref h0, .null, .null, .int 0, .int 0])).length) Slot.unset).toArray = ls at hl ⊢
  have hl : lv_has ls 5 [(0, .ref h0), (1, .null), (2, .null), (3, .int 0), (4, .int 0)] := hl
  refine lv_aload_n hx hb dJE_init_14_0 rfl (lv_at hl 0 rfl) ?_
  refine lv_aload_nN hx hb dJE_init_14_1 rfl (lv_at hl 1 rfl) ?_
  refine lv_aload_nN hx hb dJE_init_14_2 rfl (lv_at hl 2 rfl) ?_
  refine lv_iload_n hx hb dJE_init_14_3 rfl (lv_at hl 3 rfl) ?_
  refine lv_iload hx hb dJE_init_14_4 (lv_at hl 4 rfl) ?_
  have hPc := hP.sub (ws' := [(h0, .inr (14, [.null, .null, .null, .null, .null, .int 0]))]) [0] rfl
  have hDc := hD.sub (ws' := [(h0, .inr (14, [.null, .null, .null, .null, .null, .int 0]))]) [0] (by decide) rfl
  have hKc := hK.sub (tys' := []) [] rfl
  have hFc := va_free (wc := [(h0, .inr (14, [.null, .null, .null, .null, .null, .int 0]))]) hD hS hA [0] rfl
  have h_1 : 0 ≤ 0 := by decide
  have h_2 : 0 ≤ 0 := by decide
  refine va_callv (va_runI (As := [.null, .null, .int 0, .int 0]) (rest := []) ⟨hx, hb, hml, hown, hts⟩ (c_JT_init_14 l dC dI h0 _) (cwI 4 hts wg_JE_init_14_JT_init_14 rfl rfl rfl (hts (.initialized RJT) (wm_JE_init_14 0 rfl)) (hts (.methodLink RJE 16 yJT_init) (wm_JE_init_14 1 rfl)) (hts (.instanceMethod yJT_init) (wm_JE_init_14 2 rfl)) rfl (by decide +kernel) ⟨Nat.le_of_ble_eq_true rfl, Nat.le_of_ble_eq_true rfl⟩) ⟨fun a U g mk q => by obtain ⟨q0, q1, qP, qK, qD, qf0⟩ := q; exact ⟨q0, q1, qP, va_K.moved (u := U) (U := U.calling g mk a) (Vm.Alike.refl U.vm) qK, qD, xz_Z.same (Vm.Alike.refl _) rfl qf0⟩, fun U hU hW => ⟨rfl, by rw [hU], by rw [hU]; exact hPc, va_K.moved hW.alike hKc, hDc.weaken (fun _ _ _ _ => trivial), (hZ9.to hS hFc hW.alike hU)⟩⟩ rfl rfl hl.1 rfl (lv_room (Nat.le_of_ble_eq_true rfl)) dJE_init_14_6 ⟨h_1, h_2⟩) hS (fun q _ h => hFc q h) hFc (fun u3 t H1 locs ht hvm hw hB hz1 hk1 hS => ?_)
  obtain ⟨hP1, hK1, hD1⟩ := hB
  rw [ht] at hP1
  have hK1 := va_K.moved hvm.symm hK1
  obtain ⟨hP, hD⟩ := va_join (wr := []) (w1 := [(h0, .inr (14, [.null, .null, .null, .null, .null, .int 0]))]) hP hD [0] [] rfl rfl (by decide) (by decide) hk1 hFc hP1 hD1
  have hK := (hK.sub (tys' := []) [] rfl).app hK1
  generalize H1 = H at hP hS ⊢
  have hP : va_P (dC, dI) vwCl [(h0, .inr (14, [.null, .null, .null, .null, .null, .int 0]))] H := hP
  have hD : va_D A [(h0, .inr (14, [.null, .null, .null, .null, .null, .int 0]))] := hD
  have hK : va_K (dC, dI) vwCl [] s := hK
  refine W.widen (k := 0) (n := 0) (by decide) (by decide) ?_
  have hP9 := hP.sub (ws' := [(h0, .inr (14, [.null, .null, .null, .null, .null, .int 0]))]) [0] rfl
  have hD9 := hD.sub (ws' := [(h0, .inr (14, [.null, .null, .null, .null, .null, .int 0]))]) [0] (by decide) rfl
  have hK9 := hK.sub (tys' := []) [] rfl
  exact W.vret hx hb hr (fun t ht hW => ⟨⟨(), rfl, trivial, by rw [ht]; exact hP9, va_K.moved hW.alike hK9, hD9⟩, hS.F ht⟩) hS.2.2 dJE_init_14_9

abbrev at_JR_init_14 (dC : Nat → ClassId) (dI : Nat → Nat → Nat) (A : Nat → Prop) (h0 : Nat) (u : Unit) (t : State) : Prop := match u with
  | _ => va_P (dC, dI) vwCl [(h0, .inr (14, [.null, .null, .null, .null, .null, .int 0]))] t.heap ∧ va_K (dC, dI) vwCl [] t ∧ va_D A [(h0, .inr (14, [.null, .null, .null, .null, .null, .int 0]))]
theorem dJR_init_14_0 : decode cJR_init 0 = .ok (.aload_n 0, 1) := by decide +kernel
theorem dJR_init_14_1 : decode cJR_init 1 = .ok (.aload_n 1, 1) := by decide +kernel
theorem dJR_init_14_2 : decode cJR_init 2 = .ok (.aload_n 2, 1) := by decide +kernel
theorem dJR_init_14_3 : decode cJR_init 3 = .ok (.iload_n 3, 1) := by decide +kernel
theorem dJR_init_14_4 : decode cJR_init 4 = .ok (.iload 4, 2) := by decide +kernel
theorem dJR_init_14_6 : decode cJR_init 6 = .ok (.invokespecial 16, 3) := by decide +kernel
theorem dJR_init_14_9 : decode cJR_init 9 = .ok (.return_, 1) := by decide +kernel
def ww_JR_init_14 : List Cond := [.initialized RJE, .methodLink RJR 16 yJE_init, .instanceMethod yJE_init]
def wv_JR_init_14 : List Cond := .code yJR_init cJR_init 5 none :: (ww_JR_init_14 ++ (wv_JE_init_14 ++ []))
theorem wm_JR_init_14 {w : Cond} (i : Nat) (h : ww_JR_init_14[i]? = some w) : w ∈ wv_JR_init_14 := List.mem_cons_of_mem _ (List.mem_append_left _ (List.mem_of_getElem? h))
theorem gw_JR_init_14 : wv_JR_init_14.all goodWord = true := by decide +kernel
theorem wg_JR_init_14_JE_init_14 : GoodIn wv_JR_init_14 wv_JE_init_14 := goodIn_sub (fun w h => List.mem_cons_of_mem _ (List.mem_append_right _ (List.mem_append_left _ h))) gw_JE_init_14
set_option maxHeartbeats 4000000 in
set_option maxRecDepth 100000 in
/-- JR.<init> of four, for kind 14 -/
theorem c_JR_init_14 (l : Launch) (dC : Nat → ClassId) (dI : Nat → Nat → Nat) (h0 : Nat) (sz : Nat) : Met l yJR_init wv_JR_init_14 ({ frames := 3, cells := 0, slots := 0, locals := 60 }) (va_Pc [.ref h0, .null, .null, .int 0, .int 0] (fun U => U.heap.size = sz ∧ va_P (dC, dI) vwCl [(h0, .inr (14, [.null, .null, .null, .null, .null, .int 0]))] U.heap ∧ va_K (dC, dI) vwCl [] U ∧ va_D (fun _ => True) [(h0, .inr (14, [.null, .null, .null, .null, .null, .int 0]))] ∧ xz_Z (va_A [(h0, .inr (14, [.null, .null, .null, .null, .null, .int 0]))] sz) U U.heap)) (va_Qv (fun _ : Unit => True) (at_JR_init_14 dC dI (va_A [(h0, .inr (14, [.null, .null, .null, .null, .null, .int 0]))] sz) h0) (va_A [(h0, .inr (14, [.null, .null, .null, .null, .null, .int 0]))] sz)) 0 0 (va_A [(h0, .inr (14, [.null, .null, .null, .null, .null, .int 0]))] sz) := by
  refine Met.ofW (cc := cJR_init) (maxL := 5) (ret := none) (by decide) rfl ?_
  intro p e s m args below meth c s₁ B hml hv
  obtain ⟨rfl, hsz, hP, hK, hD0, hZ9⟩ := hv
  have hx := B.exec
  have hb := B.bytes
  have hr := B.returns
  have hts := atoms_spec (ws := wv_JR_init_14) B.pre
  have hown : s.vm.findClass RJR = some m.cls := findClass_of_methodNamed B.named
  have hlocks := B.notSynchronized
  have hin0 : meth.name = "<init>" := (name_of_methodNamed B.named B.method).1
  subst hsz
  have hD := hD0.self (sz := s.heap.size)
  generalize hAe : va_A [(h0, .inr (14, [.null, .null, .null, .null, .null, .int 0]))] s.heap.size = A at hD hZ9 ⊢
  have hA : ∀ q : Nat, s.heap.size ≤ q → A q := fun q h => by rw [← hAe]; exact Or.inr h
  have hS : va_S A s.heap s.heap [] := va_S.rf
  have hP : va_P (dC, dI) vwCl [(h0, .inr (14, [.null, .null, .null, .null, .null, .int 0]))] s.heap := hP
  have hl := lv_entry ([.ref h0, .null, .null, .int 0, .int 0]) (n := 5) (Nat.le_of_ble_eq_true rfl)
  rw [lg_entry_eq]
  generalize (lg_sl ([.ref h0, .null, .null, .int 0, .int 0]) ++ List.replicate (5 - (lg_sl ([.ref h0, .null, .null, .int 0, .int 0])).length) Slot.unset).toArray = ls at hl ⊢
  have hl : lv_has ls 5 [(0, .ref h0), (1, .null), (2, .null), (3, .int 0), (4, .int 0)] := hl
  refine lv_aload_n hx hb dJR_init_14_0 rfl (lv_at hl 0 rfl) ?_
  refine lv_aload_nN hx hb dJR_init_14_1 rfl (lv_at hl 1 rfl) ?_
  refine lv_aload_nN hx hb dJR_init_14_2 rfl (lv_at hl 2 rfl) ?_
  refine lv_iload_n hx hb dJR_init_14_3 rfl (lv_at hl 3 rfl) ?_
  refine lv_iload hx hb dJR_init_14_4 (lv_at hl 4 rfl) ?_
  have hPc := hP.sub (ws' := [(h0, .inr (14, [.null, .null, .null, .null, .null, .int 0]))]) [0] rfl
  have hDc := hD.sub (ws' := [(h0, .inr (14, [.null, .null, .null, .null, .null, .int 0]))]) [0] (by decide) rfl
  have hKc := hK.sub (tys' := []) [] rfl
  have hFc := va_free (wc := [(h0, .inr (14, [.null, .null, .null, .null, .null, .int 0]))]) hD hS hA [0] rfl
  have h_1 : 0 ≤ 0 := by decide
  have h_2 : 0 ≤ 0 := by decide
  refine va_callv (va_runI (As := [.null, .null, .int 0, .int 0]) (rest := []) ⟨hx, hb, hml, hown, hts⟩ (c_JE_init_14 l dC dI h0 _) (cwI 4 hts wg_JR_init_14_JE_init_14 rfl rfl rfl (hts (.initialized RJE) (wm_JR_init_14 0 rfl)) (hts (.methodLink RJR 16 yJE_init) (wm_JR_init_14 1 rfl)) (hts (.instanceMethod yJE_init) (wm_JR_init_14 2 rfl)) rfl (by decide +kernel) ⟨Nat.le_of_ble_eq_true rfl, Nat.le_of_ble_eq_true rfl⟩) ⟨fun a U g mk q => by obtain ⟨q0, q1, qP, qK, qD, qf0⟩ := q; exact ⟨q0, q1, qP, va_K.moved (u := U) (U := U.calling g mk a) (Vm.Alike.refl U.vm) qK, qD, xz_Z.same (Vm.Alike.refl _) rfl qf0⟩, fun U hU hW => ⟨rfl, by rw [hU], by rw [hU]; exact hPc, va_K.moved hW.alike hKc, hDc.weaken (fun _ _ _ _ => trivial), (hZ9.to hS hFc hW.alike hU)⟩⟩ rfl rfl hl.1 rfl (lv_room (Nat.le_of_ble_eq_true rfl)) dJR_init_14_6 ⟨h_1, h_2⟩) hS (fun q _ h => hFc q h) hFc (fun u3 t H1 locs ht hvm hw hB hz1 hk1 hS => ?_)
  obtain ⟨hP1, hK1, hD1⟩ := hB
  rw [ht] at hP1
  have hK1 := va_K.moved hvm.symm hK1
  obtain ⟨hP, hD⟩ := va_join (wr := []) (w1 := [(h0, .inr (14, [.null, .null, .null, .null, .null, .int 0]))]) hP hD [0] [] rfl rfl (by decide) (by decide) hk1 hFc hP1 hD1
  have hK := (hK.sub (tys' := []) [] rfl).app hK1
  generalize H1 = H at hP hS ⊢
  have hP : va_P (dC, dI) vwCl [(h0, .inr (14, [.null, .null, .null, .null, .null, .int 0]))] H := hP
  have hD : va_D A [(h0, .inr (14, [.null, .null, .null, .null, .null, .int 0]))] := hD
  have hK : va_K (dC, dI) vwCl [] s := hK
  refine W.widen (k := 0) (n := 0) (by decide) (by decide) ?_
  have hP9 := hP.sub (ws' := [(h0, .inr (14, [.null, .null, .null, .null, .null, .int 0]))]) [0] rfl
  have hD9 := hD.sub (ws' := [(h0, .inr (14, [.null, .null, .null, .null, .null, .int 0]))]) [0] (by decide) rfl
  have hK9 := hK.sub (tys' := []) [] rfl
  exact W.vret hx hb hr (fun t ht hW => ⟨⟨(), rfl, trivial, by rw [ht]; exact hP9, va_K.moved hW.alike hK9, hD9⟩, hS.F ht⟩) hS.2.2 dJR_init_14_9

abbrev at_X14_init (dC : Nat → ClassId) (dI : Nat → Nat → Nat) (A : Nat → Prop) (h0 : Nat) (u : Unit) (t : State) : Prop := match u with
  | _ => va_P (dC, dI) vwCl [(h0, .inr (14, [.null, .null, .null, .null, .null, .int 0]))] t.heap ∧ va_K (dC, dI) vwCl [] t ∧ va_D A [(h0, .inr (14, [.null, .null, .null, .null, .null, .int 0]))]
theorem dX14_init_0 : decode cX14_init 0 = .ok (.aload_n 0, 1) := by decide +kernel
theorem dX14_init_1 : decode cX14_init 1 = .ok (.aconst_null, 1) := by decide +kernel
theorem dX14_init_2 : decode cX14_init 2 = .ok (.aconst_null, 1) := by decide +kernel
theorem dX14_init_3 : decode cX14_init 3 = .ok (.iconst 0, 1) := by decide +kernel
theorem dX14_init_4 : decode cX14_init 4 = .ok (.iconst 0, 1) := by decide +kernel
theorem dX14_init_5 : decode cX14_init 5 = .ok (.invokespecial 1, 3) := by decide +kernel
theorem dX14_init_8 : decode cX14_init 8 = .ok (.return_, 1) := by decide +kernel
def ww_X14_init : List Cond := [.initialized RJR, .methodLink RX14 1 yJR_init, .instanceMethod yJR_init]
def wv_X14_init : List Cond := .code yX14_init cX14_init 1 none :: (ww_X14_init ++ (wv_JR_init_14 ++ []))
theorem wm_X14_init {w : Cond} (i : Nat) (h : ww_X14_init[i]? = some w) : w ∈ wv_X14_init := List.mem_cons_of_mem _ (List.mem_append_left _ (List.mem_of_getElem? h))
theorem gw_X14_init : wv_X14_init.all goodWord = true := by decide +kernel
theorem wg_X14_init_JR_init_14 : GoodIn wv_X14_init wv_JR_init_14 := goodIn_sub (fun w h => List.mem_cons_of_mem _ (List.mem_append_right _ (List.mem_append_left _ h))) gw_JR_init_14
set_option maxHeartbeats 4000000 in
set_option maxRecDepth 100000 in
/-- a throwable of the reference, kind 14 -/
theorem c_X14_init (l : Launch) (dC : Nat → ClassId) (dI : Nat → Nat → Nat) (h0 : Nat) (sz : Nat) : Met l yX14_init wv_X14_init ({ frames := 4, cells := 0, slots := 0, locals := 84 }) (va_Pc [.ref h0] (fun U => U.heap.size = sz ∧ va_P (dC, dI) vwCl [(h0, .inr (14, [.null, .null, .null, .null, .null, .int 0]))] U.heap ∧ va_K (dC, dI) vwCl [] U ∧ va_D (fun _ => True) [(h0, .inr (14, [.null, .null, .null, .null, .null, .int 0]))] ∧ xz_Z (va_A [(h0, .inr (14, [.null, .null, .null, .null, .null, .int 0]))] sz) U U.heap)) (va_Qv (fun _ : Unit => True) (at_X14_init dC dI (va_A [(h0, .inr (14, [.null, .null, .null, .null, .null, .int 0]))] sz) h0) (va_A [(h0, .inr (14, [.null, .null, .null, .null, .null, .int 0]))] sz)) 0 0 (va_A [(h0, .inr (14, [.null, .null, .null, .null, .null, .int 0]))] sz) := by
  refine Met.ofW (cc := cX14_init) (maxL := 1) (ret := none) (by decide) rfl ?_
  intro p e s m args below meth c s₁ B hml hv
  obtain ⟨rfl, hsz, hP, hK, hD0, hZ9⟩ := hv
  have hx := B.exec
  have hb := B.bytes
  have hr := B.returns
  have hts := atoms_spec (ws := wv_X14_init) B.pre
  have hown : s.vm.findClass RX14 = some m.cls := findClass_of_methodNamed B.named
  have hlocks := B.notSynchronized
  have hin0 : meth.name = "<init>" := (name_of_methodNamed B.named B.method).1
  subst hsz
  have hD := hD0.self (sz := s.heap.size)
  generalize hAe : va_A [(h0, .inr (14, [.null, .null, .null, .null, .null, .int 0]))] s.heap.size = A at hD hZ9 ⊢
  have hA : ∀ q : Nat, s.heap.size ≤ q → A q := fun q h => by rw [← hAe]; exact Or.inr h
  have hS : va_S A s.heap s.heap [] := va_S.rf
  have hP : va_P (dC, dI) vwCl [(h0, .inr (14, [.null, .null, .null, .null, .null, .int 0]))] s.heap := hP
  have hl := lv_entry ([.ref h0]) (n := 1) (Nat.le_of_ble_eq_true rfl)
  rw [lg_entry_eq]
  generalize (lg_sl ([.ref h0]) ++ List.replicate (1 - (lg_sl ([.ref h0])).length) Slot.unset).toArray = ls at hl ⊢
  have hl : lv_has ls 1 [(0, .ref h0)] := hl
  refine lv_aload_n hx hb dX14_init_0 rfl (lv_at hl 0 rfl) ?_
  refine lv_null hx hb dX14_init_1 ?_
  refine lv_null hx hb dX14_init_2 ?_
  refine lv_iconst (v := 0) hx hb dX14_init_3 (by decide) ?_
  refine lv_iconst (v := 0) hx hb dX14_init_4 (by decide) ?_
  have hPc := hP.sub (ws' := [(h0, .inr (14, [.null, .null, .null, .null, .null, .int 0]))]) [0] rfl
  have hDc := hD.sub (ws' := [(h0, .inr (14, [.null, .null, .null, .null, .null, .int 0]))]) [0] (by decide) rfl
  have hKc := hK.sub (tys' := []) [] rfl
  have hFc := va_free (wc := [(h0, .inr (14, [.null, .null, .null, .null, .null, .int 0]))]) hD hS hA [0] rfl
  have h_1 : 0 ≤ 0 := by decide
  have h_2 : 0 ≤ 0 := by decide
  refine va_callv (va_runI (As := [.null, .null, .int 0, .int 0]) (rest := []) ⟨hx, hb, hml, hown, hts⟩ (c_JR_init_14 l dC dI h0 _) (cwI 4 hts wg_X14_init_JR_init_14 rfl rfl rfl (hts (.initialized RJR) (wm_X14_init 0 rfl)) (hts (.methodLink RX14 1 yJR_init) (wm_X14_init 1 rfl)) (hts (.instanceMethod yJR_init) (wm_X14_init 2 rfl)) rfl (by decide +kernel) ⟨Nat.le_of_ble_eq_true rfl, Nat.le_of_ble_eq_true rfl⟩) ⟨fun a U g mk q => by obtain ⟨q0, q1, qP, qK, qD, qf0⟩ := q; exact ⟨q0, q1, qP, va_K.moved (u := U) (U := U.calling g mk a) (Vm.Alike.refl U.vm) qK, qD, xz_Z.same (Vm.Alike.refl _) rfl qf0⟩, fun U hU hW => ⟨rfl, by rw [hU], by rw [hU]; exact hPc, va_K.moved hW.alike hKc, hDc.weaken (fun _ _ _ _ => trivial), (hZ9.to hS hFc hW.alike hU)⟩⟩ rfl rfl hl.1 rfl (lv_room (Nat.le_of_ble_eq_true rfl)) dX14_init_5 ⟨h_1, h_2⟩) hS (fun q _ h => hFc q h) hFc (fun u3 t H1 locs ht hvm hw hB hz1 hk1 hS => ?_)
  obtain ⟨hP1, hK1, hD1⟩ := hB
  rw [ht] at hP1
  have hK1 := va_K.moved hvm.symm hK1
  obtain ⟨hP, hD⟩ := va_join (wr := []) (w1 := [(h0, .inr (14, [.null, .null, .null, .null, .null, .int 0]))]) hP hD [0] [] rfl rfl (by decide) (by decide) hk1 hFc hP1 hD1
  have hK := (hK.sub (tys' := []) [] rfl).app hK1
  generalize H1 = H at hP hS ⊢
  have hP : va_P (dC, dI) vwCl [(h0, .inr (14, [.null, .null, .null, .null, .null, .int 0]))] H := hP
  have hD : va_D A [(h0, .inr (14, [.null, .null, .null, .null, .null, .int 0]))] := hD
  have hK : va_K (dC, dI) vwCl [] s := hK
  refine W.widen (k := 0) (n := 0) (by decide) (by decide) ?_
  have hP9 := hP.sub (ws' := [(h0, .inr (14, [.null, .null, .null, .null, .null, .int 0]))]) [0] rfl
  have hD9 := hD.sub (ws' := [(h0, .inr (14, [.null, .null, .null, .null, .null, .int 0]))]) [0] (by decide) rfl
  have hK9 := hK.sub (tys' := []) [] rfl
  exact W.vret hx hb hr (fun t ht hW => ⟨⟨(), rfl, trivial, by rw [ht]; exact hP9, va_K.moved hW.alike hK9, hD9⟩, hS.F ht⟩) hS.2.2 dX14_init_8

set_option maxRecDepth 100000 in
theorem wz_X13 : ∀ w ∈ wv_X13_init, w ∈ lw_tbl := by decide +kernel
set_option maxRecDepth 100000 in
theorem wy_X13 : ∀ w ∈ wv_X13_init, w ∈ WAL := fun w hw => List.mem_filter.mpr ⟨wz_X13 w hw, List.all_eq_true.mp gw_X13_init w hw⟩
set_option maxRecDepth 100000 in
theorem wz_X14 : ∀ w ∈ wv_X14_init, w ∈ lw_tbl := by decide +kernel
set_option maxRecDepth 100000 in
theorem wy_X14 : ∀ w ∈ wv_X14_init, w ∈ WAL := fun w hw => List.mem_filter.mpr ⟨wz_X14 w hw, List.all_eq_true.mp gw_X14_init w hw⟩

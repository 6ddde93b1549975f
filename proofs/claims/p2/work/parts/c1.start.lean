theorem dLw_0 : decode code 0 = .ok (.new 8, 3) := by decide +kernel
theorem dLw_3 : decode code 3 = .ok (.dup, 1) := by decide +kernel
theorem dLw_4 : decode code 4 = .ok (.invokespecial 86, 3) := by decide +kernel
theorem dLw_7 : decode code 7 = .ok (.astore_n 1, 1) := by decide +kernel
theorem dLw_8 : decode code 8 = .ok (.new 87, 3) := by decide +kernel
theorem dLw_11 : decode code 11 = .ok (.dup, 1) := by decide +kernel
theorem dLw_12 : decode code 12 = .ok (.invokespecial 89, 3) := by decide +kernel
theorem dLw_15 : decode code 15 = .ok (.astore_n 2, 1) := by decide +kernel
theorem dLw_16 : decode code 16 = .ok (.iconst 1, 1) := by decide +kernel
theorem dLw_17 : decode code 17 = .ok (.newarray .long, 2) := by decide +kernel
theorem dLw_19 : decode code 19 = .ok (.astore_n 3, 1) := by decide +kernel
theorem dLw_20 : decode code 20 = .ok (.iconst 0, 1) := by decide +kernel
theorem dLw_21 : decode code 21 = .ok (.istore 4, 2) := by decide +kernel
theorem wnL_8 : ∀ w ∈ [Cond.classLink RL 8 RX12, .instantiable RX12 9, .initialized RX12], w ∈ WAL := List.forall_mem_cons.mpr ⟨List.mem_filter.mpr ⟨tb_1 _ (List.mem_of_getElem? (i := 34) rfl), rfl⟩, List.forall_mem_cons.mpr ⟨List.mem_filter.mpr ⟨tb_1 _ (List.mem_of_getElem? (i := 35) rfl), rfl⟩, List.forall_mem_cons.mpr ⟨List.mem_filter.mpr ⟨tb_1 _ (List.mem_of_getElem? (i := 1) rfl), rfl⟩, (fun _ h => nomatch h)⟩⟩⟩
theorem wnL_87 : ∀ w ∈ [Cond.classLink RL 87 RX16, .instantiable RX16 123, .initialized RX16], w ∈ WAL := List.forall_mem_cons.mpr ⟨List.mem_filter.mpr ⟨tb_8 _ (List.mem_of_getElem? (i := 51) rfl), rfl⟩, List.forall_mem_cons.mpr ⟨List.mem_filter.mpr ⟨tb_8 _ (List.mem_of_getElem? (i := 52) rfl), rfl⟩, List.forall_mem_cons.mpr ⟨List.mem_filter.mpr ⟨tb_1 _ (List.mem_of_getElem? (i := 14) rfl), rfl⟩, (fun _ h => nomatch h)⟩⟩⟩
theorem wcL_86 : ∀ w ∈ [Cond.methodLink RL 86 yX12_init, .instanceMethod yX12_init, .initialized yX12_init.cls, .code yX12_init cX12_init 1 none], w ∈ WAL := List.forall_mem_cons.mpr ⟨List.mem_filter.mpr ⟨tb_1 _ (List.mem_of_getElem? (i := 36) rfl), rfl⟩, List.forall_mem_cons.mpr ⟨List.mem_filter.mpr ⟨tb_1 _ (List.mem_of_getElem? (i := 37) rfl), rfl⟩, List.forall_mem_cons.mpr ⟨List.mem_filter.mpr ⟨tb_1 _ (List.mem_of_getElem? (i := 1) rfl), rfl⟩, List.forall_mem_cons.mpr ⟨List.mem_filter.mpr ⟨tb_1 _ (List.mem_of_getElem? (i := 38) rfl), rfl⟩, (fun _ h => nomatch h)⟩⟩⟩⟩
theorem hdL_X12_init : yX12_init.cls ≠ "java/lang/invoke/MethodHandle" ∧ yX12_init.cls ≠ "java/lang/invoke/VarHandle" ∧ (parseMethodDescriptor yX12_init.desc).map (fun d => d.parameters.length) = some 0 := by decide +kernel
theorem wcL_89 : ∀ w ∈ [Cond.methodLink RL 89 yX16_init, .instanceMethod yX16_init, .initialized yX16_init.cls, .code yX16_init cX16_init 4 none], w ∈ WAL := List.forall_mem_cons.mpr ⟨List.mem_filter.mpr ⟨tb_8 _ (List.mem_of_getElem? (i := 53) rfl), rfl⟩, List.forall_mem_cons.mpr ⟨List.mem_filter.mpr ⟨tb_8 _ (List.mem_of_getElem? (i := 54) rfl), rfl⟩, List.forall_mem_cons.mpr ⟨List.mem_filter.mpr ⟨tb_1 _ (List.mem_of_getElem? (i := 14) rfl), rfl⟩, List.forall_mem_cons.mpr ⟨List.mem_filter.mpr ⟨tb_8 _ (List.mem_of_getElem? (i := 55) rfl), rfl⟩, (fun _ h => nomatch h)⟩⟩⟩⟩
theorem hdL_X16_init : yX16_init.cls ≠ "java/lang/invoke/MethodHandle" ∧ yX16_init.cls ≠ "java/lang/invoke/VarHandle" ∧ (parseMethodDescriptor yX16_init.desc).map (fun d => d.parameters.length) = some 0 := by decide +kernel
theorem waL_long : Cond.arrayClass .long ∈ WAL := List.mem_filter.mpr ⟨tb_1 _ (List.mem_of_getElem? (i := 197) rfl), rfl⟩
section LST
variable {p : Program} {l : Launch} {e : Env} {s : State} {m : MethodId} {args : Array Value} {below : List Frame} {meth : Method} {c : Code} {D : va_G} {cA : Nat → ClassId} {tys : List (ClassId × FieldType)} {Q : State → Prop} {H : Heap} {locs : List Loc} {ls : Array Slot} {pc : Nat} {lo : List (Nat × Value)} {rest : List Value}
/-- a constructor, called by the law -/
theorem l_I {A : Nat → Prop} {σ : Sg} {cells slots b index fr lw maxL : Nat} {y : MethodName} {bytes : ByteArray} {Qn : Sg → Option Value → Prop} {Qx : Sg → String → Prop} (B : Cx p s m args c code 8 RL D cA tys (A0 s)) (hO : Ok l D cA tys A y (.code y bytes maxL none) fr lw [.ref b] σ Qn Qx) (hnx : ∀ σ' E, ¬ Qx σ' E) (hAA : ∀ q, A q → A0 s q) (hPw : ∀ U : State, U.heap = H → s.WarmedH U.vm → Pw D cA tys A σ U) (hS : va_S (A0 s) s.heap H locs) (hy1 : y.name = "<init>") (hw : ∀ w ∈ [Cond.methodLink RL index y, .instanceMethod y, .initialized y.cls, .code y bytes maxL none], w ∈ WAL) (hd0 : y.cls ≠ "java/lang/invoke/MethodHandle" ∧ y.cls ≠ "java/lang/invoke/VarHandle" ∧ (parseMethodDescriptor y.desc).map (fun d => d.parameters.length) = some 0) (hrm : fr + 1 ≤ 2048 ∧ 8 + (maxL + 11) + lw ≤ 84000) (hl : lv_has ls 8 lo) (hW : (rest.map fun v => v.category).sum ≤ 8) (hz : cells + (BC - gc σ) ≤ 601024 ∧ slots + (BS - gs σ) ≤ 7293033) (hd : decode code pc = .ok (.invokespecial index, 3))
    (k : ∀ (σ' : Sg) (w : Option Value) (H' : Heap) (locs' : List Loc), Qn σ' w → va_P D vwCl (wd cA σ') H' → va_D A (wd cA σ') → (gc σ ≤ gc σ' ∧ gs σ ≤ gs σ' ∧ gc σ' ≤ BC ∧ gs σ' ≤ BS) → H'.size ≤ H.size + (gc σ' - gc σ) → tot H' ≤ tot H + (gs σ' - gs σ) → H.size ≤ H'.size → (∀ q, q < H.size → ¬ A q → H'[q]? = H[q]?) → va_S (A0 s) s.heap H' locs' → ∃ k n, H'.size ≤ s.heap.size + k ∧ tot H' ≤ tot s.heap + n ∧ W p l e room_1 s m args below meth c H' locs' k n Q (F0 m (pc + 3) ls (w.toList ++ rest))) : W p l e room_1 s m args below meth c H locs cells slots Q (F0 m pc ls (.ref b :: rest)) := by
  refine l_run (A9 := A) (rest := rest) (run_x (XC := fun _ _ _ => False) (va_runI (As := []) (rest := rest) (b := b) ⟨B.1, B.2.1, B.2.2.2.2.2.1, B.2.2.1, B.2.2.2.1⟩ (met_of hO (fun E st t h => by obtain ⟨σ', h1, -⟩ := h; exact hnx σ' E h1)) (cwI 0 B.2.2.2.1 (wal_good (wal_self (hw _ (by simp)))) rfl rfl rfl (B.2.2.2.1 _ (hw _ (by simp))) (B.2.2.2.1 _ (hw _ (by simp))) (B.2.2.2.1 _ (hw _ (by simp))) hy1 hd0 hrm) ⟨pw_blind _, fun U hU hW => ⟨rfl, hPw U hU hW⟩⟩ rfl rfl hl.1 rfl (lv_room hW) hd hz)) (fun E st t h => h) hAA (fun st w t h => by obtain ⟨σ', v', -, -, hT⟩ := h; exact hT.2.2.2.2.2) hAA hS (fun w st t locs' e0 h z1 z2 hS => ?_)
  obtain ⟨σ', v', ev, hq9, tP, tD, hcn, s1, s2, hF⟩ := h
  rw [e0] at s1 s2
  have ew : w = v' := by cases ev; rfl
  subst ew
  exact k σ' w t.heap locs' hq9 tP tD hcn s1 s2 z1 z2 hS
abbrev sg0 (c9 s9 : Nat) : Sg := (([], c9, s9), fun _ => 0, fun _ => 0, fun _ _ => 0, fun _ _ => 0, fun _ _ => none)
theorem rep0 (c9 s9 : Nat) : Rep (sg0 c9 s9) [] c9 s9 := ⟨rfl, List.nodup_nil, ⟨rfl, rfl⟩, fun i r h => by simp at h⟩
theorem rg0 (c9 s9 : Nat) : RG (sg0 c9 s9) := fun a k => by show rng 0; unfold rng; omega
theorem ty0_ (c9 s9 : Nat) : TY (sg0 c9 s9) := ⟨fun a ha => (nomatch ha), fun a => by show 0 < 2147483648; omega⟩
theorem zo0 (c9 s9 : Nat) : Zo (sg0 c9 s9) := fun a ha k => ⟨rfl, rfl⟩
theorem ent_cong {σ σ' : Sg} {a : Nat} (k1 : gk σ a = gk σ' a) (k2 : gn σ a = gn σ' a) (k3 : gI σ a = gI σ' a) (k4 : gJ σ a = gJ σ' a) (k5 : gP σ a = gP σ' a) : ent cA σ a = ent cA σ' a := by
  have k6 : ∀ r, flds σ a r = flds σ' a r := fun r => List.map_congr_left (fun j _ => by unfold fval; rw [k3, k4, k5])
  unfold ent
  rw [k1, k2, k3, k4, k5, k6]
theorem ent_old {σ : Sg} {a q ci N : Nat} (h : a ≠ q) : ent cA (new1 σ q ci N) a = ent cA σ a := by
  refine ent_cong (va_up_ne _ _ h) rfl ?_ ?_ ?_
  · funext j; show (if a = q then (0 : Int) else gI σ a j) = _; rw [if_neg h]
  · funext j; show (if a = q then (0 : Int64) else gJ σ a j) = _; rw [if_neg h]
  · funext j; show (if a = q then none else gP σ a j) = _; rw [if_neg h]
theorem ent_new {σ τ : Sg} {q ci N M : Nat} {r : vw_C} (hc : vwCl[ci]? = some r) (hci : ci < 100) : ent cA (new1 σ q ci N) q = ent cA (new1 τ q ci M) q := by
  rw [ent_obj (σ := new1 σ q ci N) (a := q) (ci := ci) (va_up_self _ _ _) hc hci, ent_obj (σ := new1 τ q ci M) (a := q) (ci := ci) (va_up_self _ _ _) hc hci]
  congr 2
  refine List.map_congr_left (fun j _ => ?_)
  have a1 : ∀ (ρ : Sg) (K : Nat), gI (new1 ρ q ci K) q j = 0 := fun ρ K => if_pos rfl
  have a2 : ∀ (ρ : Sg) (K : Nat), gJ (new1 ρ q ci K) q j = 0 := fun ρ K => if_pos rfl
  have a3 : ∀ (ρ : Sg) (K : Nat), gP (new1 ρ q ci K) q j = none := fun ρ K => if_pos rfl
  unfold fval
  rw [a1, a1, a2, a2, a3, a3]
set_option maxHeartbeats 4000000 in
set_option maxRecDepth 20000 in
/-- from the law's first instruction to its loop -/
theorem wh_start {b : Nat} {VH : Sg → Nat → Nat → Int → Prop} {VR : (Nat → Nat) → (Nat → Nat → Nat) → Nat → Sg → Prop} (B : Cx p s m args c code 8 RL D cA tys (A0 s)) (hl0 : l.stackTraces = false) (hT : TyC cA tys)
    (hN : ∀ (σ : Sg) (th : Nat), Rep σ [rN 12 9] 200 600000 → (gD σ)[0]? = some th → wp_X12_init th σ (fun σ' _ => RG σ' → VH σ' th 0 0) (fun _ _ => False))
    (hM : ∀ (ra : Nat → Nat) (jx : Nat → Nat → Nat) (rm : Nat) (σ : Sg), Geo ra jx rm → (∀ a k, gI σ a k = if a = rm ∧ k = 96 then -1 else 0) → (∀ a k, gJ σ a k = 0) → w_X16_init_741 ra jx rm (fun σ' _ => VR ra jx rm σ' ∧ gI σ' rm 3 = 0) (fun _ _ => False) σ)
    (hK : ∀ (th rm o : Nat) (dm : List Nat × Nat × Nat) (ra : Nat → Nat) (jx : Nat → Nat → Nat), Geo ra jx rm → ∀ (σc σr : Sg) (v : Int64), LIv VH (VR ra jx rm) dm ra jx th rm 0 0 σc σr → JLw p l e s m args below meth c D cA o Q σc σr v 23 [(0, .ref b), (1, .ref th), (2, .ref rm), (3, .ref o), (4, .int (i32 (11 * ((0 : Nat) : Int))))] [])
    (hl : lv_has ls 8 [(0, .ref b)]) : W p l e room_1 s m args below meth c s.heap [] 0 0 Q (F0 m 0 ls []) := by
  have hH0 : Hd D cA (A0 s) s (sg0 200 600000) s.heap [] := ⟨wdP.mpr (fun a ha => nomatch ha), wdD.mpr ⟨List.nodup_nil, fun a ha => nomatch ha⟩, va_S.rf⟩
  refine h_new B hH0 (ci := 12) (N := 9) rfl (by decide) wu_X12 tyX12 tyX12_ok (by decide) wnL_8 ⟨Nat.le_of_ble_eq_true rfl, Nat.le_of_ble_eq_true rfl⟩ dLw_0 (fun th H1 hq1 hH1 => ?_)
  refine w_sizes (fun y1 y2 => ?_)
  refine lv_dup B.1 B.2.1 dLw_3 rfl ?_
  have R1 : Rep (new1 (sg0 200 600000) th 12 9) [rN 12 9] 200 600000 := (rep0 200 600000).new1 hq1 (by decide) rfl
  refine l_I (σ := new1 (sg0 200 600000) th 12 9) (b := th) (A := A0 s) B (ok_X12_init hl0 hT (X := fun _ _ => False) (fun _ _ h => h) (new1 (sg0 200 600000) th 12 9) th kO.new1 (rg0 _ _).new1 ((ty0_ _ _).new1 hq1) (hN _ th R1 rfl)) (fun _ _ h => h.1) (fun q h => h) (fun U hU hW => (pw_here B hH1 (n0 := 0) (s0 := 0) ⟨Nat.zero_le _, Nat.zero_le _, by show 200 + 1 ≤ 590000; omega, by show 600000 + 9 ≤ 7000000; omega⟩ [] U hU hW).2) hH1.2.2 rfl wcL_86 hdL_X12_init ⟨Nat.le_of_ble_eq_true rfl, Nat.le_of_ble_eq_true rfl⟩ hl (Nat.le_of_ble_eq_true rfl) ⟨by show 0 + 1 + (590000 - (200 + 1)) ≤ 601024; omega, by show 0 + 9 + (7000000 - (600000 + 9)) ≤ 7293033; omega⟩ dLw_4 (fun σc w H2 locs2 hq tP tD hcn s1 s2 z1 z2 hS2 => ?_)
  obtain ⟨rfl, hV, hGc, hYc, hEc⟩ := hq
  have hkc : kO σc th 12 := kO.new1.up hEc
  obtain ⟨g1, g2, g3, g4⟩ := hcn
  have g1' : 201 ≤ gc σc := g1
  have g2' : 600009 ≤ gs σc := g2
  have s1' : H2.size ≤ H1.size + (gc σc - 201) := s1
  have s2' : tot H2 ≤ tot H1 + (gs σc - 600009) := s2
  refine ⟨gc σc - 200, gs σc - 600000, by omega, by omega, ?_⟩
  refine W.eq (g2 := F0 m 7 ls [.ref th]) rfl ?_
  refine lv_astore_n (lv' := [(1, .ref th), (0, .ref b)]) B.1 B.2.1 dLw_7 rfl hl (by decide) rfl (fun ls hl => ?_)
  -- the reference
  refine h_new B (σ := σc) ⟨tP, tD, hS2⟩ (ci := 16) (N := 123) rfl (by decide) wu_X16 tyX16 tyX16_ok (by decide +kernel) wnL_87 ⟨by show gc σc - 200 + 1 ≤ 601024; have : gc σc ≤ 590000 := g3; omega, by show gs σc - 600000 + 123 ≤ 7293033; have : gs σc ≤ 7000000 := g4; omega⟩ dLw_8 (fun rm H3 hq3 hH3 => ?_)
  refine w_sizes (fun y3 y4 => ?_)
  refine lv_dup B.1 B.2.1 dLw_11 rfl ?_
  obtain ⟨hP3, hD3, hS3⟩ := hH3
  have hP3 := wdP.mp hP3
  obtain ⟨nd3, in3⟩ := wdD.mp hD3
  have cP : va_P D vwCl (wd cA σc) H3 := wdP.mpr (fun a ha => by
    have h9 := hP3 a (List.mem_append_left _ ha)
    have ne : a ≠ rm := fun e => hq3 (e ▸ ha)
    rw [ent_old ne] at h9
    exact h9)
  have cD := wdD.mp tD
  have R3 : Rep (new1 (sg0 589000 6390000) rm 16 123) mr_0 589000 6390000 := (rep0 589000 6390000).new1 (fun h => nomatch h) (by decide) rfl
  have rP : va_P D vwCl (wd cA (new1 (sg0 589000 6390000) rm 16 123)) H3 := wdP.mpr (fun a ha => by
    have e : a = rm := List.mem_singleton.mp ha
    subst e
    have h9 := hP3 a (List.mem_append_right _ List.mem_cons_self)
    rw [ent_new (τ := sg0 589000 6390000) (M := 123) (ci := 16) rfl (by decide)] at h9
    exact h9)
  have rmA : s.heap.size ≤ rm := in3 rm (List.mem_append_right _ List.mem_cons_self)
  refine l_I (σ := new1 (sg0 589000 6390000) rm 16 123) (b := rm) (A := fun q => s.heap.size ≤ q ∧ q ∉ gD σc) B (ok_X16_init (Q9 := fun ra jx σ' _ => VR ra jx rm σ' ∧ gI σ' rm 3 = 0) hT (c9 := 589000) (s9 := 6390000) ⟨R3, (zo0 _ _).new1, (rg0 _ _).new1, rfl, kO.new1⟩ ⟨by decide, by decide⟩ (fun ra jx σ g h1 h2 => hM ra jx rm σ g h1 h2)) (fun _ _ h => h) (fun q h => h.1) (fun U hU hW => ?_) hS3 rfl wcL_89 hdL_X16_init ⟨Nat.le_of_ble_eq_true rfl, Nat.le_of_ble_eq_true rfl⟩ hl (Nat.le_of_ble_eq_true rfl) ⟨by show gc σc - 200 + 1 + (590000 - (589000 + 1)) ≤ 601024; have : gc σc ≤ 590000 := g3; omega, by show gs σc - 600000 + 123 + (7000000 - (6390000 + 123)) ≤ 7293033; have : gs σc ≤ 7000000 := g4; omega⟩ dLw_12 (fun σr w H4 locs4 hq tP4 tD4 hcn4 s5 s6 z5 z6 hS4 => ?_)
  · refine ⟨by rw [hU]; exact rP, wdD.mpr ⟨by show ([rm] : List Nat).Nodup; simp, fun a ha => by have e : a = rm := List.mem_singleton.mp ha; rw [e]; exact ⟨rmA, hq3⟩⟩, va_K.moved hW.alike B.2.2.2.2.1, fun q hq => ?_, FX.warm hW B.2.2.2.2.2.2.2.1, (ZX.to B.2.2.2.2.2.2.2.2 hS3 hW hU).narrow (fun q w => w.1), by show 589000 + 1 ≤ 590000; omega, by show 6390000 + 123 ≤ 7000000; omega⟩
    rw [hU] at hq
    have z := hS3.1
    exact ⟨by omega, fun w => by have := (wdP.mp cP q w).lt; omega⟩
  obtain ⟨rfl, dm, ra, jx, hg, ⟨hVR, hf3⟩, hGr, hSh, n1, n2⟩ := hq
  have edm : σr.1 = dm := hSh.2.2.2.2
  have n1' : gc σr = 589115 := by show σr.1.2.1 = _; rw [edm]; exact n1
  have n2' : gs σr = 6983156 := by show σr.1.2.2 = _; rw [edm]; exact n2
  have s5' : H4.size ≤ H3.size + (gc σr - 589001) := s5
  have s6' : tot H4 ≤ tot H3 + (gs σr - 6390123) := s6
  have rD := wdD.mp tD4
  have cP4 : va_P D vwCl (wd cA σc) H4 := wd_kept cP (fun a ha => z6 a (wdP.mp cP a ha).lt (fun w => w.2 ha))
  refine ⟨gc σc - 200 + 1 + 114, gs σc - 600000 + 123 + 593033, by omega, by omega, ?_⟩
  refine W.eq (g2 := F0 m 15 ls [.ref rm]) rfl ?_
  refine lv_astore_n (lv' := [(2, .ref rm), (1, .ref th), (0, .ref b)]) B.1 B.2.1 dLw_15 rfl hl (by decide) rfl (fun ls hl => ?_)
  refine lv_iconst (v := 1) B.1 B.2.1 dLw_16 (by decide) ?_
  refine va_newaK (N := 1) B.1 B.2.1 (atype := .long) (B.2.2.2.1 _ waL_long) rfl dLw_17 rfl (by decide) (by decide) (by decide) (by show gc σc - 200 + 1 + 114 + 1 ≤ 601024; have : gc σc ≤ 590000 := g3; omega) (by show gs σc - 600000 + 123 + 593033 + 1 ≤ 7293033; have : gs σc ≤ 7000000 := g4; omega) rfl (fun H5 c1 e1 y5 o5 hAr hNm => ?_)
  have ec : c1 = cA 101 := by
    have h9 : s.vm.findClass ("[" ++ FieldType.long.toString) = some (cA 101) := (B.2.2.2.2.1.2 1 _ hT.1.2.1).2
    have h8 : s.vm.findClass ("[" ++ FieldType.long.toString) = some c1 := hNm
    exact Option.some.inj (h8.symm.trans h9)
  subst ec
  refine w_sizes (fun y6 y7 => ?_)
  refine W.eq (g2 := F0 m 19 ls [.ref H4.size]) rfl ?_
  refine lv_astore_n (lv' := [(3, .ref H4.size), (2, .ref rm), (1, .ref th), (0, .ref b)]) B.1 B.2.1 dLw_19 rfl hl (by decide) rfl (fun ls hl => ?_)
  refine lv_iconst (v := i32 (11 * ((0 : Nat) : Int))) B.1 B.2.1 dLw_20 (by decide) ?_
  refine lv_istore (lv' := [(4, .int (i32 (11 * ((0 : Nat) : Int)))), (3, .ref H4.size), (2, .ref rm), (1, .ref th), (0, .ref b)]) B.1 B.2.1 dLw_21 hl (by decide) rfl (fun ls hl => ?_)
  have kc : ∀ a ∈ gD σc, H5[a]? = H4[a]? := fun a ha => o5 a (wdP.mp cP4 a ha).lt
  have kr : ∀ a ∈ gD σr, H5[a]? = H4[a]? := fun a ha => o5 a (wdP.mp tP4 a ha).lt
  have hsz : s.heap.size ≤ H4.size := hS4.1
  refine w_re (k := gc σc) (n := gs σc) (by omega) (by omega) ?_
  refine hK th rm H4.size dm ra jx hg σc σr 0 ⟨⟨hV hGc, hGc, hYc, hkc⟩, hVR, hGr, hSh, hf3⟩ H5 locs4 ls ?_ (lv_sub (l' := [(0, .ref b), (1, .ref th), (2, .ref rm), (3, .ref H4.size), (4, .int (i32 (11 * ((0 : Nat) : Int))))]) hl [4, 3, 2, 1, 0] rfl)
  refine ⟨⟨wd_kept cP4 kc, wd_kept tP4 kr, fun _ => 0, rfl, e1⟩, ⟨cD.1, rD.1, fun a ha => ⟨cD.2 a ha, fun w => (rD.2 a w).2 ha, fun w => by have := (wdP.mp cP4 a ha).lt; omega⟩, fun a ha => ⟨(rD.2 a ha).1, fun w => by have := (wdP.mp tP4 a ha).lt; omega⟩, hsz⟩, ⟨by omega, fun q h1 h2 => (o5 q (Nat.lt_of_lt_of_le h1 hsz)).trans (hS4.2.1 q h1 h2), hS4.2.2⟩, ⟨by omega, by omega⟩, ⟨g3, g4⟩, by rw [n1', n2']; exact ⟨by omega, by decide, by omega, by decide⟩⟩
end LST

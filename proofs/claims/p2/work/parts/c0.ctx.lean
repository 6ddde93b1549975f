/-! the law's entry: what the Statement gives of the start -/
def R_law : String := "StreamHouseLaw"
theorem fl_L {a b w : Cond} (h : w ∈ flatC a) : w ∈ flatC (.and a b) := List.mem_append_left _ h
theorem fl_R {a b w : Cond} (h : w ∈ flatC b) : w ∈ flatC (.and a b) := List.mem_append_right _ h
theorem fl_0 {w : Cond} (h : flatC w = [w]) : w ∈ flatC w := by rw [h]; exact List.mem_singleton.mpr rfl
theorem arr_prim {args : Array Value} {s : State} {ty : FieldType} (h : (Cond.arrayClass ty).before args s = true) : ∃ c : ClassId, ArrOfT s c ty ∧ s.vm.findClass ("[" ++ ty.toString) = some c := by
  obtain ⟨c, kA, comp, h1, h2, h3⟩ := Cond.arrayClass_spec h
  exact ⟨c, fun n z => ⟨fun k h => (by cases h), kA, h2, comp, h3⟩, h1⟩
theorem arr_obj {args : Array Value} {s : State} {C : String} (h : (Cond.arrayOver (.object C)).before args s = true) : ∃ c : ClassId, ArrOfT s c (.object C) ∧ va_RA s c (.object C) := by
  obtain ⟨comp, c, k, h1, h2, h3, h4, h5⟩ := Cond.arrayOver_spec h
  exact ⟨c, fun n z => ⟨fun k h => (by cases h), k, h3, comp, h4⟩, k, comp, h3, h4, h1, h5⟩
theorem arr_over {args : Array Value} {s : State} {t : FieldType} (h : (Cond.arrayOver (.array t)).before args s = true) : ∃ (comp c : ClassId) (k : Class), s.vm.classes[c]? = some k ∧ k.kind = .array comp (.array t) ∧ s.vm.findClass ("[" ++ (FieldType.array t).toString) = some c := by
  simp only [Cond.before, Cond.holds, Cond.value, beq_iff_eq] at h
  cases hc : s.vm.findClass (FieldType.array t).toString with
  | none => simp [hc] at h
  | some comp =>
    simp only [hc, Option.bind_some, Option.bind_eq_some_iff, Option.map_eq_some_iff] at h
    obtain ⟨c, hi, k, hk, hb⟩ := h
    obtain ⟨hlt, hp, -⟩ := Array.findIdx?_eq_some_iff_getElem.mp hi
    have hkk : s.vm.classes[c] = k := (Array.getElem?_eq_some_iff.mp hk).2
    rw [hkk] at hp
    cases hkind : k.kind with
    | array c2 ty =>
      rw [hkind] at hp hb
      simp at hp hb
      exact ⟨c2, c, k, hk, by rw [hkind, hb.1], hb.2⟩
    | _ => rw [hkind] at hp; simp at hp
theorem arr_arr {args : Array Value} {s : State} (h : (Cond.arrayOver (.array .long)).before args s = true) : ∃ c : ClassId, ArrOfT s c (.array .long) ∧ s.vm.findClass ("[" ++ (FieldType.array .long).toString) = some c := by
  obtain ⟨comp, c, k, h3, h4, h5⟩ := arr_over h
  exact ⟨c, fun n z => ⟨fun k h => (by cases h), k, h3, comp, h4⟩, h5⟩
theorem sq_of {args : Array Value} {s : State} {A : Nat → Prop} {n : Nat} {tx : String} {bs : List Int32} (hN : bs.length < 2 ^ 31) (h1 : (Cond.stringRef RX16 n tx).before args s = true) (hex : (Cond.exactly (.string "StreamHouseModel" n) "java/lang/String").before args s = true) (hco : (Cond.eq (.field (.string "StreamHouseModel" n) "java/lang/String" "coder" "B") (.int 0)).before args s = true) (har : (Cond.arrayOf (.field (.string "StreamHouseModel" n) "java/lang/String" "value" "[B") .byte).before args s = true) (hle : (Cond.eq (.length (.field (.string "StreamHouseModel" n) "java/lang/String" "value" "[B")) (.int (Int32.ofNat bs.length))).before args s = true)
    (hel : ∀ j : Nat, j < bs.length → (Cond.eq (.elem (.field (.string "StreamHouseModel" n) "java/lang/String" "value" "[B") (.int (Int32.ofNat j))) (.int (bs.getD j 0))).before args s = true) (hA : ∀ a : Nat, a < s.heap.size → ¬ A a) : ∃ k v : Nat, vk_R RX16 n tx k s ∧ SF k v (n, tx, bs) A s s.heap := by
  have z : ∀ i : Nat, i < 1 → i = 0 := fun i h => by omega
  obtain ⟨adK, adV, hv, he⟩ := vk_Sof (args := args) (s := s) (N := 1) (tm := fun _ => .string "StreamHouseModel" n) (len := [bs.length]) (byt := [bs]) (A := A) (fun i hi => by have e := z i hi; subst e; exact hN) (fun i hi => hex) (fun i hi => hco) (fun i hi => har) (fun i hi => by have e := z i hi; subst e; exact hle) (fun i hi j hj => by have e := z i hi; subst e; exact hel j hj) (fun i j hi hj hij => absurd ((z i hi).trans (z j hj).symm) hij) hA
  exact ⟨adK 0, adV 0, vk_R.of h1 (he 0 (by decide)), (hv.1 0 (by decide)).1, (hv.1 0 (by decide)).2.1, (hv.1 0 (by decide)).2.2.1, (hv.1 0 (by decide)).2.2.2⟩
theorem pick_sv {Pq : (Nat × String × List Int32) → Nat → Nat → Prop} : ∀ L : List (Nat × String × List Int32), (L.map (fun q => q.1)).Nodup → (∀ q ∈ L, ∃ k v : Nat, Pq q k v) → ∃ f g : Nat → Nat, ∀ q ∈ L, Pq q (f q.1) (g q.1) := by
  intro L
  induction L with
  | nil => exact fun _ _ => ⟨fun _ => 0, fun _ => 0, fun q h => nomatch h⟩
  | cons r L ih =>
    intro hn h
    rw [List.map_cons, List.nodup_cons] at hn
    obtain ⟨f, g, hf⟩ := ih hn.2 (fun q hq => h q (List.mem_cons_of_mem _ hq))
    obtain ⟨k, v, hk⟩ := h r List.mem_cons_self
    refine ⟨fun n => if n = r.1 then k else f n, fun n => if n = r.1 then v else g n, fun q hq => ?_⟩
    rcases List.mem_cons.mp hq with e | hq
    · subst e; dsimp only; rw [if_pos rfl, if_pos rfl]; exact hk
    · have e : q.1 ≠ r.1 := fun e => hn.1 (e ▸ List.mem_map.mpr ⟨q, hq, rfl⟩)
      dsimp only; rw [if_neg e, if_neg e]; exact hf q hq
abbrev eC (n : Nat) (bs : List Int32) (j : Nat) : Cond := Cond.eq (.elem (.field (.string "StreamHouseModel" n) "java/lang/String" "value" "[B") (.int (Int32.ofNat j))) (.int (bs.getD j 0))
abbrev GV : List Cond := flatC (Jvm.Cond.and given_1 narrow_1)
set_option maxRecDepth 100000 in
theorem er_2 : List.range 2 = [0, 1] := by decide
set_option maxRecDepth 100000 in
theorem er_3 : List.range 3 = [0, 1, 2] := by decide
set_option maxRecDepth 100000 in
theorem er_4 : List.range 4 = [0, 1, 2, 3] := by decide
set_option maxRecDepth 100000 in
theorem er_5 : List.range 5 = [0, 1, 2, 3, 4] := by decide
set_option maxRecDepth 100000 in
theorem er_6 : List.range 6 = [0, 1, 2, 3, 4, 5] := by decide
set_option maxRecDepth 100000 in
theorem er_17 : List.range 17 = [0, 1, 2, 3, 4, 5, 6, 7, 8, 9, 10, 11, 12, 13, 14, 15, 16] := by decide
set_option maxRecDepth 100000 in
theorem er_123 : List.range 123 = [0, 1, 2, 3, 4, 5, 6, 7, 8, 9, 10, 11, 12, 13, 14, 15, 16, 17, 18, 19, 20, 21, 22, 23, 24, 25, 26, 27, 28, 29, 30, 31, 32, 33, 34, 35, 36, 37, 38, 39, 40, 41, 42, 43, 44, 45, 46, 47, 48, 49, 50, 51, 52, 53, 54, 55, 56, 57, 58, 59, 60, 61, 62, 63, 64, 65, 66, 67, 68, 69, 70, 71, 72, 73, 74, 75, 76, 77, 78, 79, 80, 81, 82, 83, 84, 85, 86, 87, 88, 89, 90, 91, 92, 93, 94, 95, 96, 97, 98, 99, 100, 101, 102, 103, 104, 105, 106, 107, 108, 109, 110, 111, 112, 113, 114, 115, 116, 117, 118, 119, 120, 121, 122] := by decide
def bs_69 : List Int32 := [40, 41, 44, 59, 58, 61, 60, 62, 43, 45, 42, 47, 37, 38, 124, 33, 63]
theorem se_69_0 : eC 69 bs_69 0 ∈ GV := fl_R (fl_R (fl_L (fl_L (fl_L (fl_R (fl_R (fl_R (fl_L (fl_L (fl_0 rfl))))))))))
theorem se_69_1 : eC 69 bs_69 1 ∈ GV := fl_R (fl_R (fl_L (fl_L (fl_L (fl_R (fl_R (fl_R (fl_L (fl_R (fl_0 rfl))))))))))
theorem se_69_2 : eC 69 bs_69 2 ∈ GV := fl_R (fl_R (fl_L (fl_L (fl_L (fl_R (fl_R (fl_R (fl_R (fl_L (fl_0 rfl))))))))))
theorem se_69_3 : eC 69 bs_69 3 ∈ GV := fl_R (fl_R (fl_L (fl_L (fl_L (fl_R (fl_R (fl_R (fl_R (fl_R (fl_0 rfl))))))))))
theorem se_69_4 : eC 69 bs_69 4 ∈ GV := fl_R (fl_R (fl_L (fl_L (fl_R (fl_L (fl_L (fl_L (fl_L (fl_L (fl_0 rfl))))))))))
theorem se_69_5 : eC 69 bs_69 5 ∈ GV := fl_R (fl_R (fl_L (fl_L (fl_R (fl_L (fl_L (fl_L (fl_L (fl_R (fl_0 rfl))))))))))
theorem se_69_6 : eC 69 bs_69 6 ∈ GV := fl_R (fl_R (fl_L (fl_L (fl_R (fl_L (fl_L (fl_L (fl_R (fl_L (fl_0 rfl))))))))))
theorem se_69_7 : eC 69 bs_69 7 ∈ GV := fl_R (fl_R (fl_L (fl_L (fl_R (fl_L (fl_L (fl_L (fl_R (fl_R (fl_0 rfl))))))))))
theorem se_69_8 : eC 69 bs_69 8 ∈ GV := fl_R (fl_R (fl_L (fl_L (fl_R (fl_L (fl_L (fl_R (fl_L (fl_L (fl_0 rfl))))))))))
theorem se_69_9 : eC 69 bs_69 9 ∈ GV := fl_R (fl_R (fl_L (fl_L (fl_R (fl_L (fl_L (fl_R (fl_L (fl_R (fl_0 rfl))))))))))
theorem se_69_10 : eC 69 bs_69 10 ∈ GV := fl_R (fl_R (fl_L (fl_L (fl_R (fl_L (fl_L (fl_R (fl_R (fl_L (fl_0 rfl))))))))))
theorem se_69_11 : eC 69 bs_69 11 ∈ GV := fl_R (fl_R (fl_L (fl_L (fl_R (fl_L (fl_L (fl_R (fl_R (fl_R (fl_0 rfl))))))))))
theorem se_69_12 : eC 69 bs_69 12 ∈ GV := fl_R (fl_R (fl_L (fl_L (fl_R (fl_L (fl_R (fl_L (fl_L (fl_L (fl_0 rfl))))))))))
theorem se_69_13 : eC 69 bs_69 13 ∈ GV := fl_R (fl_R (fl_L (fl_L (fl_R (fl_L (fl_R (fl_L (fl_L (fl_R (fl_0 rfl))))))))))
theorem se_69_14 : eC 69 bs_69 14 ∈ GV := fl_R (fl_R (fl_L (fl_L (fl_R (fl_L (fl_R (fl_L (fl_R (fl_L (fl_0 rfl))))))))))
theorem se_69_15 : eC 69 bs_69 15 ∈ GV := fl_R (fl_R (fl_L (fl_L (fl_R (fl_L (fl_R (fl_L (fl_R (fl_R (fl_0 rfl))))))))))
theorem se_69_16 : eC 69 bs_69 16 ∈ GV := fl_R (fl_R (fl_L (fl_L (fl_R (fl_L (fl_R (fl_R (fl_L (fl_L (fl_0 rfl))))))))))
set_option maxRecDepth 100000 in
theorem sa_69 : ∀ j ∈ [0, 1, 2, 3, 4, 5, 6, 7, 8, 9, 10, 11, 12, 13, 14, 15, 16], eC 69 bs_69 j ∈ GV := List.forall_mem_cons.mpr ⟨se_69_0, List.forall_mem_cons.mpr ⟨se_69_1, List.forall_mem_cons.mpr ⟨se_69_2, List.forall_mem_cons.mpr ⟨se_69_3, List.forall_mem_cons.mpr ⟨se_69_4, List.forall_mem_cons.mpr ⟨se_69_5, List.forall_mem_cons.mpr ⟨se_69_6, List.forall_mem_cons.mpr ⟨se_69_7, List.forall_mem_cons.mpr ⟨se_69_8, List.forall_mem_cons.mpr ⟨se_69_9, List.forall_mem_cons.mpr ⟨se_69_10, List.forall_mem_cons.mpr ⟨se_69_11, List.forall_mem_cons.mpr ⟨se_69_12, List.forall_mem_cons.mpr ⟨se_69_13, List.forall_mem_cons.mpr ⟨se_69_14, List.forall_mem_cons.mpr ⟨se_69_15, List.forall_mem_cons.mpr ⟨se_69_16, (fun _ h => nomatch h)⟩⟩⟩⟩⟩⟩⟩⟩⟩⟩⟩⟩⟩⟩⟩⟩⟩
theorem sq_69 {b : Addr} {s : State} {A : Nat → Prop} (htsT : ∀ w ∈ lw_tbl, w.before #[Value.ref b] s = true) (hg : ∀ w ∈ GV, w.before #[Value.ref b] s = true) (hA : ∀ a : Nat, a < s.heap.size → ¬ A a) : ∃ k v : Nat, vk_R RX16 69 "(),;:=<>+-*/%&|!?" k s ∧ SF k v (69, "(),;:=<>+-*/%&|!?", bs_69) A s s.heap :=
  sq_of (bs := bs_69) (by decide) (htsT (.stringRef RX16 69 "(),;:=<>+-*/%&|!?") (tb_10 _ (List.mem_of_getElem? (i := 176) rfl))) (hg (Cond.exactly (.string "StreamHouseModel" 69) "java/lang/String") (fl_R (fl_R (fl_L (fl_L (fl_L (fl_R (fl_R (fl_L (fl_L (fl_L (fl_0 rfl)))))))))))) (hg (Cond.eq (.field (.string "StreamHouseModel" 69) "java/lang/String" "coder" "B") (.int 0)) (fl_R (fl_R (fl_L (fl_L (fl_L (fl_R (fl_R (fl_L (fl_L (fl_R (fl_0 rfl)))))))))))) (hg (Cond.arrayOf (.field (.string "StreamHouseModel" 69) "java/lang/String" "value" "[B") .byte) (fl_R (fl_R (fl_L (fl_L (fl_L (fl_R (fl_R (fl_L (fl_R (fl_L (fl_0 rfl)))))))))))) (hg (Cond.eq (.length (.field (.string "StreamHouseModel" 69) "java/lang/String" "value" "[B")) (.int 17)) (fl_R (fl_R (fl_L (fl_L (fl_L (fl_R (fl_R (fl_L (fl_R (fl_R (fl_0 rfl)))))))))))) (fun j hj => hg _ (sa_69 j (by rw [← er_17]; exact List.mem_range.mpr hj))) hA
def bs_162 : List Int32 := [116, 105, 109, 101]
theorem se_162_0 : eC 162 bs_162 0 ∈ GV := fl_R (fl_R (fl_L (fl_R (fl_L (fl_R (fl_L (fl_R (fl_R (fl_L (fl_0 rfl))))))))))
theorem se_162_1 : eC 162 bs_162 1 ∈ GV := fl_R (fl_R (fl_L (fl_R (fl_L (fl_R (fl_L (fl_R (fl_R (fl_R (fl_0 rfl))))))))))
theorem se_162_2 : eC 162 bs_162 2 ∈ GV := fl_R (fl_R (fl_L (fl_R (fl_L (fl_R (fl_R (fl_L (fl_L (fl_L (fl_0 rfl))))))))))
theorem se_162_3 : eC 162 bs_162 3 ∈ GV := fl_R (fl_R (fl_L (fl_R (fl_L (fl_R (fl_R (fl_L (fl_L (fl_R (fl_0 rfl))))))))))
set_option maxRecDepth 100000 in
theorem sa_162 : ∀ j ∈ [0, 1, 2, 3], eC 162 bs_162 j ∈ GV := List.forall_mem_cons.mpr ⟨se_162_0, List.forall_mem_cons.mpr ⟨se_162_1, List.forall_mem_cons.mpr ⟨se_162_2, List.forall_mem_cons.mpr ⟨se_162_3, (fun _ h => nomatch h)⟩⟩⟩⟩
theorem sq_162 {b : Addr} {s : State} {A : Nat → Prop} (htsT : ∀ w ∈ lw_tbl, w.before #[Value.ref b] s = true) (hg : ∀ w ∈ GV, w.before #[Value.ref b] s = true) (hA : ∀ a : Nat, a < s.heap.size → ¬ A a) : ∃ k v : Nat, vk_R RX16 162 "time" k s ∧ SF k v (162, "time", bs_162) A s s.heap :=
  sq_of (bs := bs_162) (by decide) (htsT (.stringRef RX16 162 "time") (tb_11 _ (List.mem_of_getElem? (i := 118) rfl))) (hg (Cond.exactly (.string "StreamHouseModel" 162) "java/lang/String") (fl_R (fl_R (fl_L (fl_R (fl_L (fl_R (fl_L (fl_L (fl_R (fl_L (fl_0 rfl)))))))))))) (hg (Cond.eq (.field (.string "StreamHouseModel" 162) "java/lang/String" "coder" "B") (.int 0)) (fl_R (fl_R (fl_L (fl_R (fl_L (fl_R (fl_L (fl_L (fl_R (fl_R (fl_0 rfl)))))))))))) (hg (Cond.arrayOf (.field (.string "StreamHouseModel" 162) "java/lang/String" "value" "[B") .byte) (fl_R (fl_R (fl_L (fl_R (fl_L (fl_R (fl_L (fl_R (fl_L (fl_L (fl_0 rfl)))))))))))) (hg (Cond.eq (.length (.field (.string "StreamHouseModel" 162) "java/lang/String" "value" "[B")) (.int 4)) (fl_R (fl_R (fl_L (fl_R (fl_L (fl_R (fl_L (fl_R (fl_L (fl_R (fl_0 rfl)))))))))))) (fun j hj => hg _ (sa_162 j (by rw [← er_4]; exact List.mem_range.mpr hj))) hA
def bs_198 : List Int32 := [108, 97, 103]
theorem se_198_0 : eC 198 bs_198 0 ∈ GV := fl_R (fl_R (fl_L (fl_R (fl_L (fl_L (fl_L (fl_R (fl_L (fl_R (fl_0 rfl))))))))))
theorem se_198_1 : eC 198 bs_198 1 ∈ GV := fl_R (fl_R (fl_L (fl_R (fl_L (fl_L (fl_L (fl_R (fl_R (fl_L (fl_0 rfl))))))))))
theorem se_198_2 : eC 198 bs_198 2 ∈ GV := fl_R (fl_R (fl_L (fl_R (fl_L (fl_L (fl_L (fl_R (fl_R (fl_R (fl_0 rfl))))))))))
set_option maxRecDepth 100000 in
theorem sa_198 : ∀ j ∈ [0, 1, 2], eC 198 bs_198 j ∈ GV := List.forall_mem_cons.mpr ⟨se_198_0, List.forall_mem_cons.mpr ⟨se_198_1, List.forall_mem_cons.mpr ⟨se_198_2, (fun _ h => nomatch h)⟩⟩⟩
theorem sq_198 {b : Addr} {s : State} {A : Nat → Prop} (htsT : ∀ w ∈ lw_tbl, w.before #[Value.ref b] s = true) (hg : ∀ w ∈ GV, w.before #[Value.ref b] s = true) (hA : ∀ a : Nat, a < s.heap.size → ¬ A a) : ∃ k v : Nat, vk_R RX16 198 "lag" k s ∧ SF k v (198, "lag", bs_198) A s s.heap :=
  sq_of (bs := bs_198) (by decide) (htsT (.stringRef RX16 198 "lag") (tb_11 _ (List.mem_of_getElem? (i := 67) rfl))) (hg (Cond.exactly (.string "StreamHouseModel" 198) "java/lang/String") (fl_R (fl_R (fl_L (fl_R (fl_L (fl_L (fl_L (fl_L (fl_L (fl_R (fl_0 rfl)))))))))))) (hg (Cond.eq (.field (.string "StreamHouseModel" 198) "java/lang/String" "coder" "B") (.int 0)) (fl_R (fl_R (fl_L (fl_R (fl_L (fl_L (fl_L (fl_L (fl_R (fl_L (fl_0 rfl)))))))))))) (hg (Cond.arrayOf (.field (.string "StreamHouseModel" 198) "java/lang/String" "value" "[B") .byte) (fl_R (fl_R (fl_L (fl_R (fl_L (fl_L (fl_L (fl_L (fl_R (fl_R (fl_0 rfl)))))))))))) (hg (Cond.eq (.length (.field (.string "StreamHouseModel" 198) "java/lang/String" "value" "[B")) (.int 3)) (fl_R (fl_R (fl_L (fl_R (fl_L (fl_L (fl_L (fl_R (fl_L (fl_L (fl_0 rfl)))))))))))) (fun j hj => hg _ (sa_198 j (by rw [← er_3]; exact List.mem_range.mpr hj))) hA
def bs_237 : List Int32 := [98, 121]
theorem se_237_0 : eC 237 bs_237 0 ∈ GV := fl_R (fl_R (fl_L (fl_R (fl_R (fl_R (fl_L (fl_R (fl_R (fl_L (fl_0 rfl))))))))))
theorem se_237_1 : eC 237 bs_237 1 ∈ GV := fl_R (fl_R (fl_L (fl_R (fl_R (fl_R (fl_L (fl_R (fl_R (fl_R (fl_0 rfl))))))))))
set_option maxRecDepth 100000 in
theorem sa_237 : ∀ j ∈ [0, 1], eC 237 bs_237 j ∈ GV := List.forall_mem_cons.mpr ⟨se_237_0, List.forall_mem_cons.mpr ⟨se_237_1, (fun _ h => nomatch h)⟩⟩
theorem sq_237 {b : Addr} {s : State} {A : Nat → Prop} (htsT : ∀ w ∈ lw_tbl, w.before #[Value.ref b] s = true) (hg : ∀ w ∈ GV, w.before #[Value.ref b] s = true) (hA : ∀ a : Nat, a < s.heap.size → ¬ A a) : ∃ k v : Nat, vk_R RX16 237 "by" k s ∧ SF k v (237, "by", bs_237) A s s.heap :=
  sq_of (bs := bs_237) (by decide) (htsT (.stringRef RX16 237 "by") (tb_11 _ (List.mem_of_getElem? (i := 134) rfl))) (hg (Cond.exactly (.string "StreamHouseModel" 237) "java/lang/String") (fl_R (fl_R (fl_L (fl_R (fl_R (fl_R (fl_L (fl_L (fl_R (fl_L (fl_0 rfl)))))))))))) (hg (Cond.eq (.field (.string "StreamHouseModel" 237) "java/lang/String" "coder" "B") (.int 0)) (fl_R (fl_R (fl_L (fl_R (fl_R (fl_R (fl_L (fl_L (fl_R (fl_R (fl_0 rfl)))))))))))) (hg (Cond.arrayOf (.field (.string "StreamHouseModel" 237) "java/lang/String" "value" "[B") .byte) (fl_R (fl_R (fl_L (fl_R (fl_R (fl_R (fl_L (fl_R (fl_L (fl_L (fl_0 rfl)))))))))))) (hg (Cond.eq (.length (.field (.string "StreamHouseModel" 237) "java/lang/String" "value" "[B")) (.int 2)) (fl_R (fl_R (fl_L (fl_R (fl_R (fl_R (fl_L (fl_R (fl_L (fl_R (fl_0 rfl)))))))))))) (fun j hj => hg _ (sa_237 j (by rw [← er_2]; exact List.mem_range.mpr hj))) hA
def bs_244 : List Int32 := [115, 112, 97, 110]
theorem se_244_0 : eC 244 bs_244 0 ∈ GV := fl_R (fl_R (fl_L (fl_R (fl_R (fl_R (fl_R (fl_R (fl_L (fl_L (fl_0 rfl))))))))))
theorem se_244_1 : eC 244 bs_244 1 ∈ GV := fl_R (fl_R (fl_L (fl_R (fl_R (fl_R (fl_R (fl_R (fl_L (fl_R (fl_0 rfl))))))))))
theorem se_244_2 : eC 244 bs_244 2 ∈ GV := fl_R (fl_R (fl_L (fl_R (fl_R (fl_R (fl_R (fl_R (fl_R (fl_L (fl_0 rfl))))))))))
theorem se_244_3 : eC 244 bs_244 3 ∈ GV := fl_R (fl_R (fl_L (fl_R (fl_R (fl_R (fl_R (fl_R (fl_R (fl_R (fl_L (fl_0 rfl)))))))))))
set_option maxRecDepth 100000 in
theorem sa_244 : ∀ j ∈ [0, 1, 2, 3], eC 244 bs_244 j ∈ GV := List.forall_mem_cons.mpr ⟨se_244_0, List.forall_mem_cons.mpr ⟨se_244_1, List.forall_mem_cons.mpr ⟨se_244_2, List.forall_mem_cons.mpr ⟨se_244_3, (fun _ h => nomatch h)⟩⟩⟩⟩
theorem sq_244 {b : Addr} {s : State} {A : Nat → Prop} (htsT : ∀ w ∈ lw_tbl, w.before #[Value.ref b] s = true) (hg : ∀ w ∈ GV, w.before #[Value.ref b] s = true) (hA : ∀ a : Nat, a < s.heap.size → ¬ A a) : ∃ k v : Nat, vk_R RX16 244 "span" k s ∧ SF k v (244, "span", bs_244) A s s.heap :=
  sq_of (bs := bs_244) (by decide) (htsT (.stringRef RX16 244 "span") (tb_11 _ (List.mem_of_getElem? (i := 139) rfl))) (hg (Cond.exactly (.string "StreamHouseModel" 244) "java/lang/String") (fl_R (fl_R (fl_L (fl_R (fl_R (fl_R (fl_R (fl_L (fl_L (fl_L (fl_0 rfl)))))))))))) (hg (Cond.eq (.field (.string "StreamHouseModel" 244) "java/lang/String" "coder" "B") (.int 0)) (fl_R (fl_R (fl_L (fl_R (fl_R (fl_R (fl_R (fl_L (fl_L (fl_R (fl_0 rfl)))))))))))) (hg (Cond.arrayOf (.field (.string "StreamHouseModel" 244) "java/lang/String" "value" "[B") .byte) (fl_R (fl_R (fl_L (fl_R (fl_R (fl_R (fl_R (fl_L (fl_R (fl_L (fl_0 rfl)))))))))))) (hg (Cond.eq (.length (.field (.string "StreamHouseModel" 244) "java/lang/String" "value" "[B")) (.int 4)) (fl_R (fl_R (fl_L (fl_R (fl_R (fl_R (fl_R (fl_L (fl_R (fl_R (fl_0 rfl)))))))))))) (fun j hj => hg _ (sa_244 j (by rw [← er_4]; exact List.mem_range.mpr hj))) hA
def bs_249 : List Int32 := [115, 116, 101, 112]
theorem se_249_0 : eC 249 bs_249 0 ∈ GV := fl_R (fl_R (fl_R (fl_L (fl_L (fl_L (fl_L (fl_L (fl_R (fl_R (fl_0 rfl))))))))))
theorem se_249_1 : eC 249 bs_249 1 ∈ GV := fl_R (fl_R (fl_R (fl_L (fl_L (fl_L (fl_L (fl_R (fl_L (fl_L (fl_0 rfl))))))))))
theorem se_249_2 : eC 249 bs_249 2 ∈ GV := fl_R (fl_R (fl_R (fl_L (fl_L (fl_L (fl_L (fl_R (fl_L (fl_R (fl_0 rfl))))))))))
theorem se_249_3 : eC 249 bs_249 3 ∈ GV := fl_R (fl_R (fl_R (fl_L (fl_L (fl_L (fl_L (fl_R (fl_R (fl_L (fl_0 rfl))))))))))
set_option maxRecDepth 100000 in
theorem sa_249 : ∀ j ∈ [0, 1, 2, 3], eC 249 bs_249 j ∈ GV := List.forall_mem_cons.mpr ⟨se_249_0, List.forall_mem_cons.mpr ⟨se_249_1, List.forall_mem_cons.mpr ⟨se_249_2, List.forall_mem_cons.mpr ⟨se_249_3, (fun _ h => nomatch h)⟩⟩⟩⟩
theorem sq_249 {b : Addr} {s : State} {A : Nat → Prop} (htsT : ∀ w ∈ lw_tbl, w.before #[Value.ref b] s = true) (hg : ∀ w ∈ GV, w.before #[Value.ref b] s = true) (hA : ∀ a : Nat, a < s.heap.size → ¬ A a) : ∃ k v : Nat, vk_R RX16 249 "step" k s ∧ SF k v (249, "step", bs_249) A s s.heap :=
  sq_of (bs := bs_249) (by decide) (htsT (.stringRef RX16 249 "step") (tb_11 _ (List.mem_of_getElem? (i := 140) rfl))) (hg (Cond.exactly (.string "StreamHouseModel" 249) "java/lang/String") (fl_R (fl_R (fl_L (fl_R (fl_R (fl_R (fl_R (fl_R (fl_R (fl_R (fl_R (fl_0 rfl))))))))))))) (hg (Cond.eq (.field (.string "StreamHouseModel" 249) "java/lang/String" "coder" "B") (.int 0)) (fl_R (fl_R (fl_R (fl_L (fl_L (fl_L (fl_L (fl_L (fl_L (fl_L (fl_0 rfl)))))))))))) (hg (Cond.arrayOf (.field (.string "StreamHouseModel" 249) "java/lang/String" "value" "[B") .byte) (fl_R (fl_R (fl_R (fl_L (fl_L (fl_L (fl_L (fl_L (fl_L (fl_R (fl_0 rfl)))))))))))) (hg (Cond.eq (.length (.field (.string "StreamHouseModel" 249) "java/lang/String" "value" "[B")) (.int 4)) (fl_R (fl_R (fl_R (fl_L (fl_L (fl_L (fl_L (fl_L (fl_R (fl_L (fl_0 rfl)))))))))))) (fun j hj => hg _ (sa_249 j (by rw [← er_4]; exact List.mem_range.mpr hj))) hA
def bs_252 : List Int32 := [103, 97, 112]
theorem se_252_0 : eC 252 bs_252 0 ∈ GV := fl_R (fl_R (fl_R (fl_L (fl_L (fl_L (fl_R (fl_L (fl_R (fl_R (fl_0 rfl))))))))))
theorem se_252_1 : eC 252 bs_252 1 ∈ GV := fl_R (fl_R (fl_R (fl_L (fl_L (fl_L (fl_R (fl_R (fl_L (fl_L (fl_0 rfl))))))))))
theorem se_252_2 : eC 252 bs_252 2 ∈ GV := fl_R (fl_R (fl_R (fl_L (fl_L (fl_L (fl_R (fl_R (fl_L (fl_R (fl_0 rfl))))))))))
set_option maxRecDepth 100000 in
theorem sa_252 : ∀ j ∈ [0, 1, 2], eC 252 bs_252 j ∈ GV := List.forall_mem_cons.mpr ⟨se_252_0, List.forall_mem_cons.mpr ⟨se_252_1, List.forall_mem_cons.mpr ⟨se_252_2, (fun _ h => nomatch h)⟩⟩⟩
theorem sq_252 {b : Addr} {s : State} {A : Nat → Prop} (htsT : ∀ w ∈ lw_tbl, w.before #[Value.ref b] s = true) (hg : ∀ w ∈ GV, w.before #[Value.ref b] s = true) (hA : ∀ a : Nat, a < s.heap.size → ¬ A a) : ∃ k v : Nat, vk_R RX16 252 "gap" k s ∧ SF k v (252, "gap", bs_252) A s s.heap :=
  sq_of (bs := bs_252) (by decide) (htsT (.stringRef RX16 252 "gap") (tb_11 _ (List.mem_of_getElem? (i := 141) rfl))) (hg (Cond.exactly (.string "StreamHouseModel" 252) "java/lang/String") (fl_R (fl_R (fl_R (fl_L (fl_L (fl_L (fl_L (fl_R (fl_R (fl_R (fl_0 rfl)))))))))))) (hg (Cond.eq (.field (.string "StreamHouseModel" 252) "java/lang/String" "coder" "B") (.int 0)) (fl_R (fl_R (fl_R (fl_L (fl_L (fl_L (fl_R (fl_L (fl_L (fl_L (fl_0 rfl)))))))))))) (hg (Cond.arrayOf (.field (.string "StreamHouseModel" 252) "java/lang/String" "value" "[B") .byte) (fl_R (fl_R (fl_R (fl_L (fl_L (fl_L (fl_R (fl_L (fl_L (fl_R (fl_0 rfl)))))))))))) (hg (Cond.eq (.length (.field (.string "StreamHouseModel" 252) "java/lang/String" "value" "[B")) (.int 3)) (fl_R (fl_R (fl_R (fl_L (fl_L (fl_L (fl_R (fl_L (fl_R (fl_L (fl_0 rfl)))))))))))) (fun j hj => hg _ (sa_252 j (by rw [← er_3]; exact List.mem_range.mpr hj))) hA
def bs_254 : List Int32 := [99, 111, 117, 110, 116]
theorem se_254_0 : eC 254 bs_254 0 ∈ GV := fl_R (fl_R (fl_R (fl_L (fl_L (fl_R (fl_L (fl_L (fl_R (fl_L (fl_0 rfl))))))))))
theorem se_254_1 : eC 254 bs_254 1 ∈ GV := fl_R (fl_R (fl_R (fl_L (fl_L (fl_R (fl_L (fl_L (fl_R (fl_R (fl_0 rfl))))))))))
theorem se_254_2 : eC 254 bs_254 2 ∈ GV := fl_R (fl_R (fl_R (fl_L (fl_L (fl_R (fl_L (fl_R (fl_L (fl_L (fl_0 rfl))))))))))
theorem se_254_3 : eC 254 bs_254 3 ∈ GV := fl_R (fl_R (fl_R (fl_L (fl_L (fl_R (fl_L (fl_R (fl_L (fl_R (fl_0 rfl))))))))))
theorem se_254_4 : eC 254 bs_254 4 ∈ GV := fl_R (fl_R (fl_R (fl_L (fl_L (fl_R (fl_L (fl_R (fl_R (fl_L (fl_0 rfl))))))))))
set_option maxRecDepth 100000 in
theorem sa_254 : ∀ j ∈ [0, 1, 2, 3, 4], eC 254 bs_254 j ∈ GV := List.forall_mem_cons.mpr ⟨se_254_0, List.forall_mem_cons.mpr ⟨se_254_1, List.forall_mem_cons.mpr ⟨se_254_2, List.forall_mem_cons.mpr ⟨se_254_3, List.forall_mem_cons.mpr ⟨se_254_4, (fun _ h => nomatch h)⟩⟩⟩⟩⟩
theorem sq_254 {b : Addr} {s : State} {A : Nat → Prop} (htsT : ∀ w ∈ lw_tbl, w.before #[Value.ref b] s = true) (hg : ∀ w ∈ GV, w.before #[Value.ref b] s = true) (hA : ∀ a : Nat, a < s.heap.size → ¬ A a) : ∃ k v : Nat, vk_R RX16 254 "count" k s ∧ SF k v (254, "count", bs_254) A s s.heap :=
  sq_of (bs := bs_254) (by decide) (htsT (.stringRef RX16 254 "count") (tb_11 _ (List.mem_of_getElem? (i := 142) rfl))) (hg (Cond.exactly (.string "StreamHouseModel" 254) "java/lang/String") (fl_R (fl_R (fl_R (fl_L (fl_L (fl_L (fl_R (fl_R (fl_R (fl_L (fl_0 rfl)))))))))))) (hg (Cond.eq (.field (.string "StreamHouseModel" 254) "java/lang/String" "coder" "B") (.int 0)) (fl_R (fl_R (fl_R (fl_L (fl_L (fl_L (fl_R (fl_R (fl_R (fl_R (fl_0 rfl)))))))))))) (hg (Cond.arrayOf (.field (.string "StreamHouseModel" 254) "java/lang/String" "value" "[B") .byte) (fl_R (fl_R (fl_R (fl_L (fl_L (fl_R (fl_L (fl_L (fl_L (fl_L (fl_0 rfl)))))))))))) (hg (Cond.eq (.length (.field (.string "StreamHouseModel" 254) "java/lang/String" "value" "[B")) (.int 5)) (fl_R (fl_R (fl_R (fl_L (fl_L (fl_R (fl_L (fl_L (fl_L (fl_R (fl_0 rfl)))))))))))) (fun j hj => hg _ (sa_254 j (by rw [← er_5]; exact List.mem_range.mpr hj))) hA
def bs_256 : List Int32 := [115, 117, 109]
theorem se_256_0 : eC 256 bs_256 0 ∈ GV := fl_R (fl_R (fl_R (fl_L (fl_L (fl_R (fl_R (fl_L (fl_R (fl_R (fl_0 rfl))))))))))
theorem se_256_1 : eC 256 bs_256 1 ∈ GV := fl_R (fl_R (fl_R (fl_L (fl_L (fl_R (fl_R (fl_R (fl_L (fl_L (fl_0 rfl))))))))))
theorem se_256_2 : eC 256 bs_256 2 ∈ GV := fl_R (fl_R (fl_R (fl_L (fl_L (fl_R (fl_R (fl_R (fl_L (fl_R (fl_0 rfl))))))))))
set_option maxRecDepth 100000 in
theorem sa_256 : ∀ j ∈ [0, 1, 2], eC 256 bs_256 j ∈ GV := List.forall_mem_cons.mpr ⟨se_256_0, List.forall_mem_cons.mpr ⟨se_256_1, List.forall_mem_cons.mpr ⟨se_256_2, (fun _ h => nomatch h)⟩⟩⟩
theorem sq_256 {b : Addr} {s : State} {A : Nat → Prop} (htsT : ∀ w ∈ lw_tbl, w.before #[Value.ref b] s = true) (hg : ∀ w ∈ GV, w.before #[Value.ref b] s = true) (hA : ∀ a : Nat, a < s.heap.size → ¬ A a) : ∃ k v : Nat, vk_R RX16 256 "sum" k s ∧ SF k v (256, "sum", bs_256) A s s.heap :=
  sq_of (bs := bs_256) (by decide) (htsT (.stringRef RX16 256 "sum") (tb_11 _ (List.mem_of_getElem? (i := 143) rfl))) (hg (Cond.exactly (.string "StreamHouseModel" 256) "java/lang/String") (fl_R (fl_R (fl_R (fl_L (fl_L (fl_R (fl_L (fl_R (fl_R (fl_R (fl_0 rfl)))))))))))) (hg (Cond.eq (.field (.string "StreamHouseModel" 256) "java/lang/String" "coder" "B") (.int 0)) (fl_R (fl_R (fl_R (fl_L (fl_L (fl_R (fl_R (fl_L (fl_L (fl_L (fl_0 rfl)))))))))))) (hg (Cond.arrayOf (.field (.string "StreamHouseModel" 256) "java/lang/String" "value" "[B") .byte) (fl_R (fl_R (fl_R (fl_L (fl_L (fl_R (fl_R (fl_L (fl_L (fl_R (fl_0 rfl)))))))))))) (hg (Cond.eq (.length (.field (.string "StreamHouseModel" 256) "java/lang/String" "value" "[B")) (.int 3)) (fl_R (fl_R (fl_R (fl_L (fl_L (fl_R (fl_R (fl_L (fl_R (fl_L (fl_0 rfl)))))))))))) (fun j hj => hg _ (sa_256 j (by rw [← er_3]; exact List.mem_range.mpr hj))) hA
def bs_257 : List Int32 := [108, 101, 97, 115, 116]
theorem se_257_0 : eC 257 bs_257 0 ∈ GV := fl_R (fl_R (fl_R (fl_L (fl_R (fl_L (fl_L (fl_L (fl_R (fl_L (fl_0 rfl))))))))))
theorem se_257_1 : eC 257 bs_257 1 ∈ GV := fl_R (fl_R (fl_R (fl_L (fl_R (fl_L (fl_L (fl_L (fl_R (fl_R (fl_0 rfl))))))))))
theorem se_257_2 : eC 257 bs_257 2 ∈ GV := fl_R (fl_R (fl_R (fl_L (fl_R (fl_L (fl_L (fl_R (fl_L (fl_L (fl_0 rfl))))))))))
theorem se_257_3 : eC 257 bs_257 3 ∈ GV := fl_R (fl_R (fl_R (fl_L (fl_R (fl_L (fl_L (fl_R (fl_L (fl_R (fl_0 rfl))))))))))
theorem se_257_4 : eC 257 bs_257 4 ∈ GV := fl_R (fl_R (fl_R (fl_L (fl_R (fl_L (fl_L (fl_R (fl_R (fl_L (fl_0 rfl))))))))))
set_option maxRecDepth 100000 in
theorem sa_257 : ∀ j ∈ [0, 1, 2, 3, 4], eC 257 bs_257 j ∈ GV := List.forall_mem_cons.mpr ⟨se_257_0, List.forall_mem_cons.mpr ⟨se_257_1, List.forall_mem_cons.mpr ⟨se_257_2, List.forall_mem_cons.mpr ⟨se_257_3, List.forall_mem_cons.mpr ⟨se_257_4, (fun _ h => nomatch h)⟩⟩⟩⟩⟩
theorem sq_257 {b : Addr} {s : State} {A : Nat → Prop} (htsT : ∀ w ∈ lw_tbl, w.before #[Value.ref b] s = true) (hg : ∀ w ∈ GV, w.before #[Value.ref b] s = true) (hA : ∀ a : Nat, a < s.heap.size → ¬ A a) : ∃ k v : Nat, vk_R RX16 257 "least" k s ∧ SF k v (257, "least", bs_257) A s s.heap :=
  sq_of (bs := bs_257) (by decide) (htsT (.stringRef RX16 257 "least") (tb_11 _ (List.mem_of_getElem? (i := 144) rfl))) (hg (Cond.exactly (.string "StreamHouseModel" 257) "java/lang/String") (fl_R (fl_R (fl_R (fl_L (fl_L (fl_R (fl_R (fl_R (fl_R (fl_L (fl_0 rfl)))))))))))) (hg (Cond.eq (.field (.string "StreamHouseModel" 257) "java/lang/String" "coder" "B") (.int 0)) (fl_R (fl_R (fl_R (fl_L (fl_L (fl_R (fl_R (fl_R (fl_R (fl_R (fl_0 rfl)))))))))))) (hg (Cond.arrayOf (.field (.string "StreamHouseModel" 257) "java/lang/String" "value" "[B") .byte) (fl_R (fl_R (fl_R (fl_L (fl_R (fl_L (fl_L (fl_L (fl_L (fl_L (fl_0 rfl)))))))))))) (hg (Cond.eq (.length (.field (.string "StreamHouseModel" 257) "java/lang/String" "value" "[B")) (.int 5)) (fl_R (fl_R (fl_R (fl_L (fl_R (fl_L (fl_L (fl_L (fl_L (fl_R (fl_0 rfl)))))))))))) (fun j hj => hg _ (sa_257 j (by rw [← er_5]; exact List.mem_range.mpr hj))) hA
def bs_259 : List Int32 := [109, 111, 115, 116]
theorem se_259_0 : eC 259 bs_259 0 ∈ GV := fl_R (fl_R (fl_R (fl_L (fl_R (fl_L (fl_R (fl_L (fl_R (fl_R (fl_0 rfl))))))))))
theorem se_259_1 : eC 259 bs_259 1 ∈ GV := fl_R (fl_R (fl_R (fl_L (fl_R (fl_L (fl_R (fl_R (fl_L (fl_L (fl_0 rfl))))))))))
theorem se_259_2 : eC 259 bs_259 2 ∈ GV := fl_R (fl_R (fl_R (fl_L (fl_R (fl_L (fl_R (fl_R (fl_L (fl_R (fl_0 rfl))))))))))
theorem se_259_3 : eC 259 bs_259 3 ∈ GV := fl_R (fl_R (fl_R (fl_L (fl_R (fl_L (fl_R (fl_R (fl_R (fl_L (fl_0 rfl))))))))))
set_option maxRecDepth 100000 in
theorem sa_259 : ∀ j ∈ [0, 1, 2, 3], eC 259 bs_259 j ∈ GV := List.forall_mem_cons.mpr ⟨se_259_0, List.forall_mem_cons.mpr ⟨se_259_1, List.forall_mem_cons.mpr ⟨se_259_2, List.forall_mem_cons.mpr ⟨se_259_3, (fun _ h => nomatch h)⟩⟩⟩⟩
theorem sq_259 {b : Addr} {s : State} {A : Nat → Prop} (htsT : ∀ w ∈ lw_tbl, w.before #[Value.ref b] s = true) (hg : ∀ w ∈ GV, w.before #[Value.ref b] s = true) (hA : ∀ a : Nat, a < s.heap.size → ¬ A a) : ∃ k v : Nat, vk_R RX16 259 "most" k s ∧ SF k v (259, "most", bs_259) A s s.heap :=
  sq_of (bs := bs_259) (by decide) (htsT (.stringRef RX16 259 "most") (tb_11 _ (List.mem_of_getElem? (i := 145) rfl))) (hg (Cond.exactly (.string "StreamHouseModel" 259) "java/lang/String") (fl_R (fl_R (fl_R (fl_L (fl_R (fl_L (fl_L (fl_R (fl_R (fl_R (fl_0 rfl)))))))))))) (hg (Cond.eq (.field (.string "StreamHouseModel" 259) "java/lang/String" "coder" "B") (.int 0)) (fl_R (fl_R (fl_R (fl_L (fl_R (fl_L (fl_R (fl_L (fl_L (fl_L (fl_0 rfl)))))))))))) (hg (Cond.arrayOf (.field (.string "StreamHouseModel" 259) "java/lang/String" "value" "[B") .byte) (fl_R (fl_R (fl_R (fl_L (fl_R (fl_L (fl_R (fl_L (fl_L (fl_R (fl_0 rfl)))))))))))) (hg (Cond.eq (.length (.field (.string "StreamHouseModel" 259) "java/lang/String" "value" "[B")) (.int 4)) (fl_R (fl_R (fl_R (fl_L (fl_R (fl_L (fl_R (fl_L (fl_R (fl_L (fl_0 rfl)))))))))))) (fun j hj => hg _ (sa_259 j (by rw [← er_4]; exact List.mem_range.mpr hj))) hA
def bs_267 : List Int32 := [102, 114, 111, 109]
theorem se_267_0 : eC 267 bs_267 0 ∈ GV := fl_R (fl_R (fl_R (fl_R (fl_L (fl_R (fl_L (fl_R (fl_R (fl_L (fl_0 rfl))))))))))
theorem se_267_1 : eC 267 bs_267 1 ∈ GV := fl_R (fl_R (fl_R (fl_R (fl_L (fl_R (fl_L (fl_R (fl_R (fl_R (fl_0 rfl))))))))))
theorem se_267_2 : eC 267 bs_267 2 ∈ GV := fl_R (fl_R (fl_R (fl_R (fl_L (fl_R (fl_R (fl_L (fl_L (fl_L (fl_0 rfl))))))))))
theorem se_267_3 : eC 267 bs_267 3 ∈ GV := fl_R (fl_R (fl_R (fl_R (fl_L (fl_R (fl_R (fl_L (fl_L (fl_R (fl_0 rfl))))))))))
set_option maxRecDepth 100000 in
theorem sa_267 : ∀ j ∈ [0, 1, 2, 3], eC 267 bs_267 j ∈ GV := List.forall_mem_cons.mpr ⟨se_267_0, List.forall_mem_cons.mpr ⟨se_267_1, List.forall_mem_cons.mpr ⟨se_267_2, List.forall_mem_cons.mpr ⟨se_267_3, (fun _ h => nomatch h)⟩⟩⟩⟩
theorem sq_267 {b : Addr} {s : State} {A : Nat → Prop} (htsT : ∀ w ∈ lw_tbl, w.before #[Value.ref b] s = true) (hg : ∀ w ∈ GV, w.before #[Value.ref b] s = true) (hA : ∀ a : Nat, a < s.heap.size → ¬ A a) : ∃ k v : Nat, vk_R RX16 267 "from" k s ∧ SF k v (267, "from", bs_267) A s s.heap :=
  sq_of (bs := bs_267) (by decide) (htsT (.stringRef RX16 267 "from") (tb_11 _ (List.mem_of_getElem? (i := 162) rfl))) (hg (Cond.exactly (.string "StreamHouseModel" 267) "java/lang/String") (fl_R (fl_R (fl_R (fl_R (fl_L (fl_R (fl_L (fl_L (fl_R (fl_L (fl_0 rfl)))))))))))) (hg (Cond.eq (.field (.string "StreamHouseModel" 267) "java/lang/String" "coder" "B") (.int 0)) (fl_R (fl_R (fl_R (fl_R (fl_L (fl_R (fl_L (fl_L (fl_R (fl_R (fl_0 rfl)))))))))))) (hg (Cond.arrayOf (.field (.string "StreamHouseModel" 267) "java/lang/String" "value" "[B") .byte) (fl_R (fl_R (fl_R (fl_R (fl_L (fl_R (fl_L (fl_R (fl_L (fl_L (fl_0 rfl)))))))))))) (hg (Cond.eq (.length (.field (.string "StreamHouseModel" 267) "java/lang/String" "value" "[B")) (.int 4)) (fl_R (fl_R (fl_R (fl_R (fl_L (fl_R (fl_L (fl_R (fl_L (fl_R (fl_0 rfl)))))))))))) (fun j hj => hg _ (sa_267 j (by rw [← er_4]; exact List.mem_range.mpr hj))) hA
def bs_268 : List Int32 := [116, 111]
theorem se_268_0 : eC 268 bs_268 0 ∈ GV := fl_R (fl_R (fl_R (fl_R (fl_L (fl_R (fl_R (fl_R (fl_R (fl_L (fl_0 rfl))))))))))
theorem se_268_1 : eC 268 bs_268 1 ∈ GV := fl_R (fl_R (fl_R (fl_R (fl_L (fl_R (fl_R (fl_R (fl_R (fl_R (fl_0 rfl))))))))))
set_option maxRecDepth 100000 in
theorem sa_268 : ∀ j ∈ [0, 1], eC 268 bs_268 j ∈ GV := List.forall_mem_cons.mpr ⟨se_268_0, List.forall_mem_cons.mpr ⟨se_268_1, (fun _ h => nomatch h)⟩⟩
theorem sq_268 {b : Addr} {s : State} {A : Nat → Prop} (htsT : ∀ w ∈ lw_tbl, w.before #[Value.ref b] s = true) (hg : ∀ w ∈ GV, w.before #[Value.ref b] s = true) (hA : ∀ a : Nat, a < s.heap.size → ¬ A a) : ∃ k v : Nat, vk_R RX16 268 "to" k s ∧ SF k v (268, "to", bs_268) A s s.heap :=
  sq_of (bs := bs_268) (by decide) (htsT (.stringRef RX16 268 "to") (tb_11 _ (List.mem_of_getElem? (i := 163) rfl))) (hg (Cond.exactly (.string "StreamHouseModel" 268) "java/lang/String") (fl_R (fl_R (fl_R (fl_R (fl_L (fl_R (fl_R (fl_L (fl_R (fl_L (fl_0 rfl)))))))))))) (hg (Cond.eq (.field (.string "StreamHouseModel" 268) "java/lang/String" "coder" "B") (.int 0)) (fl_R (fl_R (fl_R (fl_R (fl_L (fl_R (fl_R (fl_L (fl_R (fl_R (fl_0 rfl)))))))))))) (hg (Cond.arrayOf (.field (.string "StreamHouseModel" 268) "java/lang/String" "value" "[B") .byte) (fl_R (fl_R (fl_R (fl_R (fl_L (fl_R (fl_R (fl_R (fl_L (fl_L (fl_0 rfl)))))))))))) (hg (Cond.eq (.length (.field (.string "StreamHouseModel" 268) "java/lang/String" "value" "[B")) (.int 2)) (fl_R (fl_R (fl_R (fl_R (fl_L (fl_R (fl_R (fl_R (fl_L (fl_R (fl_0 rfl)))))))))))) (fun j hj => hg _ (sa_268 j (by rw [← er_2]; exact List.mem_range.mpr hj))) hA
def bs_270 : List Int32 := [116, 104, 101, 110]
theorem se_270_0 : eC 270 bs_270 0 ∈ GV := fl_R (fl_R (fl_R (fl_R (fl_R (fl_L (fl_L (fl_R (fl_L (fl_L (fl_0 rfl))))))))))
theorem se_270_1 : eC 270 bs_270 1 ∈ GV := fl_R (fl_R (fl_R (fl_R (fl_R (fl_L (fl_L (fl_R (fl_L (fl_R (fl_0 rfl))))))))))
theorem se_270_2 : eC 270 bs_270 2 ∈ GV := fl_R (fl_R (fl_R (fl_R (fl_R (fl_L (fl_L (fl_R (fl_R (fl_L (fl_0 rfl))))))))))
theorem se_270_3 : eC 270 bs_270 3 ∈ GV := fl_R (fl_R (fl_R (fl_R (fl_R (fl_L (fl_L (fl_R (fl_R (fl_R (fl_0 rfl))))))))))
set_option maxRecDepth 100000 in
theorem sa_270 : ∀ j ∈ [0, 1, 2, 3], eC 270 bs_270 j ∈ GV := List.forall_mem_cons.mpr ⟨se_270_0, List.forall_mem_cons.mpr ⟨se_270_1, List.forall_mem_cons.mpr ⟨se_270_2, List.forall_mem_cons.mpr ⟨se_270_3, (fun _ h => nomatch h)⟩⟩⟩⟩
theorem sq_270 {b : Addr} {s : State} {A : Nat → Prop} (htsT : ∀ w ∈ lw_tbl, w.before #[Value.ref b] s = true) (hg : ∀ w ∈ GV, w.before #[Value.ref b] s = true) (hA : ∀ a : Nat, a < s.heap.size → ¬ A a) : ∃ k v : Nat, vk_R RX16 270 "then" k s ∧ SF k v (270, "then", bs_270) A s s.heap :=
  sq_of (bs := bs_270) (by decide) (htsT (.stringRef RX16 270 "then") (tb_11 _ (List.mem_of_getElem? (i := 164) rfl))) (hg (Cond.exactly (.string "StreamHouseModel" 270) "java/lang/String") (fl_R (fl_R (fl_R (fl_R (fl_R (fl_L (fl_L (fl_L (fl_L (fl_L (fl_0 rfl)))))))))))) (hg (Cond.eq (.field (.string "StreamHouseModel" 270) "java/lang/String" "coder" "B") (.int 0)) (fl_R (fl_R (fl_R (fl_R (fl_R (fl_L (fl_L (fl_L (fl_L (fl_R (fl_0 rfl)))))))))))) (hg (Cond.arrayOf (.field (.string "StreamHouseModel" 270) "java/lang/String" "value" "[B") .byte) (fl_R (fl_R (fl_R (fl_R (fl_R (fl_L (fl_L (fl_L (fl_R (fl_L (fl_0 rfl)))))))))))) (hg (Cond.eq (.length (.field (.string "StreamHouseModel" 270) "java/lang/String" "value" "[B")) (.int 4)) (fl_R (fl_R (fl_R (fl_R (fl_R (fl_L (fl_L (fl_L (fl_R (fl_R (fl_0 rfl)))))))))))) (fun j hj => hg _ (sa_270 j (by rw [← er_4]; exact List.mem_range.mpr hj))) hA
def bs_272 : List Int32 := [119, 105, 116, 104, 105, 110]
theorem se_272_0 : eC 272 bs_272 0 ∈ GV := fl_R (fl_R (fl_R (fl_L (fl_R (fl_R (fl_R (fl_L (fl_R (fl_R (fl_0 rfl))))))))))
theorem se_272_1 : eC 272 bs_272 1 ∈ GV := fl_R (fl_R (fl_R (fl_L (fl_R (fl_R (fl_R (fl_R (fl_L (fl_L (fl_0 rfl))))))))))
theorem se_272_2 : eC 272 bs_272 2 ∈ GV := fl_R (fl_R (fl_R (fl_L (fl_R (fl_R (fl_R (fl_R (fl_L (fl_R (fl_0 rfl))))))))))
theorem se_272_3 : eC 272 bs_272 3 ∈ GV := fl_R (fl_R (fl_R (fl_L (fl_R (fl_R (fl_R (fl_R (fl_R (fl_L (fl_0 rfl))))))))))
theorem se_272_4 : eC 272 bs_272 4 ∈ GV := fl_R (fl_R (fl_R (fl_L (fl_R (fl_R (fl_R (fl_R (fl_R (fl_R (fl_0 rfl))))))))))
theorem se_272_5 : eC 272 bs_272 5 ∈ GV := fl_R (fl_R (fl_R (fl_R (fl_L (fl_L (fl_L (fl_L (fl_L (fl_L (fl_0 rfl))))))))))
set_option maxRecDepth 100000 in
theorem sa_272 : ∀ j ∈ [0, 1, 2, 3, 4, 5], eC 272 bs_272 j ∈ GV := List.forall_mem_cons.mpr ⟨se_272_0, List.forall_mem_cons.mpr ⟨se_272_1, List.forall_mem_cons.mpr ⟨se_272_2, List.forall_mem_cons.mpr ⟨se_272_3, List.forall_mem_cons.mpr ⟨se_272_4, List.forall_mem_cons.mpr ⟨se_272_5, (fun _ h => nomatch h)⟩⟩⟩⟩⟩⟩
theorem sq_272 {b : Addr} {s : State} {A : Nat → Prop} (htsT : ∀ w ∈ lw_tbl, w.before #[Value.ref b] s = true) (hg : ∀ w ∈ GV, w.before #[Value.ref b] s = true) (hA : ∀ a : Nat, a < s.heap.size → ¬ A a) : ∃ k v : Nat, vk_R RX16 272 "within" k s ∧ SF k v (272, "within", bs_272) A s s.heap :=
  sq_of (bs := bs_272) (by decide) (htsT (.stringRef RX16 272 "within") (tb_11 _ (List.mem_of_getElem? (i := 151) rfl))) (hg (Cond.exactly (.string "StreamHouseModel" 272) "java/lang/String") (fl_R (fl_R (fl_R (fl_L (fl_R (fl_R (fl_L (fl_R (fl_R (fl_R (fl_0 rfl)))))))))))) (hg (Cond.eq (.field (.string "StreamHouseModel" 272) "java/lang/String" "coder" "B") (.int 0)) (fl_R (fl_R (fl_R (fl_L (fl_R (fl_R (fl_R (fl_L (fl_L (fl_L (fl_0 rfl)))))))))))) (hg (Cond.arrayOf (.field (.string "StreamHouseModel" 272) "java/lang/String" "value" "[B") .byte) (fl_R (fl_R (fl_R (fl_L (fl_R (fl_R (fl_R (fl_L (fl_L (fl_R (fl_0 rfl)))))))))))) (hg (Cond.eq (.length (.field (.string "StreamHouseModel" 272) "java/lang/String" "value" "[B")) (.int 6)) (fl_R (fl_R (fl_R (fl_L (fl_R (fl_R (fl_R (fl_L (fl_R (fl_L (fl_0 rfl)))))))))))) (fun j hj => hg _ (sa_272 j (by rw [← er_6]; exact List.mem_range.mpr hj))) hA
def bs_275 : List Int32 := [114, 97, 110, 107]
theorem se_275_0 : eC 275 bs_275 0 ∈ GV := fl_R (fl_R (fl_R (fl_R (fl_R (fl_R (fl_R (fl_R (fl_L (fl_R (fl_0 rfl))))))))))
theorem se_275_1 : eC 275 bs_275 1 ∈ GV := fl_R (fl_R (fl_R (fl_R (fl_R (fl_R (fl_R (fl_R (fl_R (fl_L (fl_0 rfl))))))))))
theorem se_275_2 : eC 275 bs_275 2 ∈ GV := fl_R (fl_R (fl_R (fl_R (fl_R (fl_R (fl_R (fl_R (fl_R (fl_R (fl_L (fl_0 rfl)))))))))))
theorem se_275_3 : eC 275 bs_275 3 ∈ GV := fl_R (fl_R (fl_R (fl_R (fl_R (fl_R (fl_R (fl_R (fl_R (fl_R (fl_R (fl_0 rfl)))))))))))
set_option maxRecDepth 100000 in
theorem sa_275 : ∀ j ∈ [0, 1, 2, 3], eC 275 bs_275 j ∈ GV := List.forall_mem_cons.mpr ⟨se_275_0, List.forall_mem_cons.mpr ⟨se_275_1, List.forall_mem_cons.mpr ⟨se_275_2, List.forall_mem_cons.mpr ⟨se_275_3, (fun _ h => nomatch h)⟩⟩⟩⟩
theorem sq_275 {b : Addr} {s : State} {A : Nat → Prop} (htsT : ∀ w ∈ lw_tbl, w.before #[Value.ref b] s = true) (hg : ∀ w ∈ GV, w.before #[Value.ref b] s = true) (hA : ∀ a : Nat, a < s.heap.size → ¬ A a) : ∃ k v : Nat, vk_R RX16 275 "rank" k s ∧ SF k v (275, "rank", bs_275) A s s.heap :=
  sq_of (bs := bs_275) (by decide) (htsT (.stringRef RX16 275 "rank") (tb_11 _ (List.mem_of_getElem? (i := 172) rfl))) (hg (Cond.exactly (.string "StreamHouseModel" 275) "java/lang/String") (fl_R (fl_R (fl_R (fl_R (fl_R (fl_R (fl_R (fl_L (fl_L (fl_R (fl_0 rfl)))))))))))) (hg (Cond.eq (.field (.string "StreamHouseModel" 275) "java/lang/String" "coder" "B") (.int 0)) (fl_R (fl_R (fl_R (fl_R (fl_R (fl_R (fl_R (fl_L (fl_R (fl_L (fl_0 rfl)))))))))))) (hg (Cond.arrayOf (.field (.string "StreamHouseModel" 275) "java/lang/String" "value" "[B") .byte) (fl_R (fl_R (fl_R (fl_R (fl_R (fl_R (fl_R (fl_L (fl_R (fl_R (fl_0 rfl)))))))))))) (hg (Cond.eq (.length (.field (.string "StreamHouseModel" 275) "java/lang/String" "value" "[B")) (.int 4)) (fl_R (fl_R (fl_R (fl_R (fl_R (fl_R (fl_R (fl_R (fl_L (fl_L (fl_0 rfl)))))))))))) (fun j hj => hg _ (sa_275 j (by rw [← er_4]; exact List.mem_range.mpr hj))) hA
def bs_277 : List Int32 := [115, 111, 117, 114, 99, 101]
theorem se_277_0 : eC 277 bs_277 0 ∈ GV := fl_R (fl_R (fl_L (fl_L (fl_R (fl_R (fl_R (fl_L (fl_R (fl_R (fl_0 rfl))))))))))
theorem se_277_1 : eC 277 bs_277 1 ∈ GV := fl_R (fl_R (fl_L (fl_L (fl_R (fl_R (fl_R (fl_R (fl_L (fl_L (fl_0 rfl))))))))))
theorem se_277_2 : eC 277 bs_277 2 ∈ GV := fl_R (fl_R (fl_L (fl_L (fl_R (fl_R (fl_R (fl_R (fl_L (fl_R (fl_0 rfl))))))))))
theorem se_277_3 : eC 277 bs_277 3 ∈ GV := fl_R (fl_R (fl_L (fl_L (fl_R (fl_R (fl_R (fl_R (fl_R (fl_L (fl_0 rfl))))))))))
theorem se_277_4 : eC 277 bs_277 4 ∈ GV := fl_R (fl_R (fl_L (fl_L (fl_R (fl_R (fl_R (fl_R (fl_R (fl_R (fl_0 rfl))))))))))
theorem se_277_5 : eC 277 bs_277 5 ∈ GV := fl_R (fl_R (fl_L (fl_R (fl_L (fl_L (fl_L (fl_L (fl_L (fl_L (fl_0 rfl))))))))))
set_option maxRecDepth 100000 in
theorem sa_277 : ∀ j ∈ [0, 1, 2, 3, 4, 5], eC 277 bs_277 j ∈ GV := List.forall_mem_cons.mpr ⟨se_277_0, List.forall_mem_cons.mpr ⟨se_277_1, List.forall_mem_cons.mpr ⟨se_277_2, List.forall_mem_cons.mpr ⟨se_277_3, List.forall_mem_cons.mpr ⟨se_277_4, List.forall_mem_cons.mpr ⟨se_277_5, (fun _ h => nomatch h)⟩⟩⟩⟩⟩⟩
theorem sq_277 {b : Addr} {s : State} {A : Nat → Prop} (htsT : ∀ w ∈ lw_tbl, w.before #[Value.ref b] s = true) (hg : ∀ w ∈ GV, w.before #[Value.ref b] s = true) (hA : ∀ a : Nat, a < s.heap.size → ¬ A a) : ∃ k v : Nat, vk_R RX16 277 "source" k s ∧ SF k v (277, "source", bs_277) A s s.heap :=
  sq_of (bs := bs_277) (by decide) (htsT (.stringRef RX16 277 "source") (tb_11 _ (List.mem_of_getElem? (i := 52) rfl))) (hg (Cond.exactly (.string "StreamHouseModel" 277) "java/lang/String") (fl_R (fl_R (fl_L (fl_L (fl_R (fl_R (fl_L (fl_R (fl_R (fl_R (fl_0 rfl)))))))))))) (hg (Cond.eq (.field (.string "StreamHouseModel" 277) "java/lang/String" "coder" "B") (.int 0)) (fl_R (fl_R (fl_L (fl_L (fl_R (fl_R (fl_R (fl_L (fl_L (fl_L (fl_0 rfl)))))))))))) (hg (Cond.arrayOf (.field (.string "StreamHouseModel" 277) "java/lang/String" "value" "[B") .byte) (fl_R (fl_R (fl_L (fl_L (fl_R (fl_R (fl_R (fl_L (fl_L (fl_R (fl_0 rfl)))))))))))) (hg (Cond.eq (.length (.field (.string "StreamHouseModel" 277) "java/lang/String" "value" "[B")) (.int 6)) (fl_R (fl_R (fl_L (fl_L (fl_R (fl_R (fl_R (fl_L (fl_R (fl_L (fl_0 rfl)))))))))))) (fun j hj => hg _ (sa_277 j (by rw [← er_6]; exact List.mem_range.mpr hj))) hA
def bs_281 : List Int32 := [102, 105, 108, 116, 101, 114]
theorem se_281_0 : eC 281 bs_281 0 ∈ GV := fl_R (fl_R (fl_L (fl_R (fl_L (fl_L (fl_R (fl_R (fl_L (fl_L (fl_0 rfl))))))))))
theorem se_281_1 : eC 281 bs_281 1 ∈ GV := fl_R (fl_R (fl_L (fl_R (fl_L (fl_L (fl_R (fl_R (fl_L (fl_R (fl_0 rfl))))))))))
theorem se_281_2 : eC 281 bs_281 2 ∈ GV := fl_R (fl_R (fl_L (fl_R (fl_L (fl_L (fl_R (fl_R (fl_R (fl_L (fl_0 rfl))))))))))
theorem se_281_3 : eC 281 bs_281 3 ∈ GV := fl_R (fl_R (fl_L (fl_R (fl_L (fl_L (fl_R (fl_R (fl_R (fl_R (fl_0 rfl))))))))))
theorem se_281_4 : eC 281 bs_281 4 ∈ GV := fl_R (fl_R (fl_L (fl_R (fl_L (fl_R (fl_L (fl_L (fl_L (fl_L (fl_0 rfl))))))))))
theorem se_281_5 : eC 281 bs_281 5 ∈ GV := fl_R (fl_R (fl_L (fl_R (fl_L (fl_R (fl_L (fl_L (fl_L (fl_R (fl_0 rfl))))))))))
set_option maxRecDepth 100000 in
theorem sa_281 : ∀ j ∈ [0, 1, 2, 3, 4, 5], eC 281 bs_281 j ∈ GV := List.forall_mem_cons.mpr ⟨se_281_0, List.forall_mem_cons.mpr ⟨se_281_1, List.forall_mem_cons.mpr ⟨se_281_2, List.forall_mem_cons.mpr ⟨se_281_3, List.forall_mem_cons.mpr ⟨se_281_4, List.forall_mem_cons.mpr ⟨se_281_5, (fun _ h => nomatch h)⟩⟩⟩⟩⟩⟩
theorem sq_281 {b : Addr} {s : State} {A : Nat → Prop} (htsT : ∀ w ∈ lw_tbl, w.before #[Value.ref b] s = true) (hg : ∀ w ∈ GV, w.before #[Value.ref b] s = true) (hA : ∀ a : Nat, a < s.heap.size → ¬ A a) : ∃ k v : Nat, vk_R RX16 281 "filter" k s ∧ SF k v (281, "filter", bs_281) A s s.heap :=
  sq_of (bs := bs_281) (by decide) (htsT (.stringRef RX16 281 "filter") (tb_11 _ (List.mem_of_getElem? (i := 77) rfl))) (hg (Cond.exactly (.string "StreamHouseModel" 281) "java/lang/String") (fl_R (fl_R (fl_L (fl_R (fl_L (fl_L (fl_R (fl_L (fl_L (fl_L (fl_0 rfl)))))))))))) (hg (Cond.eq (.field (.string "StreamHouseModel" 281) "java/lang/String" "coder" "B") (.int 0)) (fl_R (fl_R (fl_L (fl_R (fl_L (fl_L (fl_R (fl_L (fl_L (fl_R (fl_0 rfl)))))))))))) (hg (Cond.arrayOf (.field (.string "StreamHouseModel" 281) "java/lang/String" "value" "[B") .byte) (fl_R (fl_R (fl_L (fl_R (fl_L (fl_L (fl_R (fl_L (fl_R (fl_L (fl_0 rfl)))))))))))) (hg (Cond.eq (.length (.field (.string "StreamHouseModel" 281) "java/lang/String" "value" "[B")) (.int 6)) (fl_R (fl_R (fl_L (fl_R (fl_L (fl_L (fl_R (fl_L (fl_R (fl_R (fl_0 rfl)))))))))))) (fun j hj => hg _ (sa_281 j (by rw [← er_6]; exact List.mem_range.mpr hj))) hA
def bs_283 : List Int32 := [109, 97, 112]
theorem se_283_0 : eC 283 bs_283 0 ∈ GV := fl_R (fl_R (fl_L (fl_R (fl_L (fl_R (fl_R (fl_R (fl_R (fl_L (fl_0 rfl))))))))))
theorem se_283_1 : eC 283 bs_283 1 ∈ GV := fl_R (fl_R (fl_L (fl_R (fl_L (fl_R (fl_R (fl_R (fl_R (fl_R (fl_0 rfl))))))))))
theorem se_283_2 : eC 283 bs_283 2 ∈ GV := fl_R (fl_R (fl_L (fl_R (fl_R (fl_L (fl_L (fl_L (fl_L (fl_L (fl_0 rfl))))))))))
set_option maxRecDepth 100000 in
theorem sa_283 : ∀ j ∈ [0, 1, 2], eC 283 bs_283 j ∈ GV := List.forall_mem_cons.mpr ⟨se_283_0, List.forall_mem_cons.mpr ⟨se_283_1, List.forall_mem_cons.mpr ⟨se_283_2, (fun _ h => nomatch h)⟩⟩⟩
theorem sq_283 {b : Addr} {s : State} {A : Nat → Prop} (htsT : ∀ w ∈ lw_tbl, w.before #[Value.ref b] s = true) (hg : ∀ w ∈ GV, w.before #[Value.ref b] s = true) (hA : ∀ a : Nat, a < s.heap.size → ¬ A a) : ∃ k v : Nat, vk_R RX16 283 "map" k s ∧ SF k v (283, "map", bs_283) A s s.heap :=
  sq_of (bs := bs_283) (by decide) (htsT (.stringRef RX16 283 "map") (tb_11 _ (List.mem_of_getElem? (i := 119) rfl))) (hg (Cond.exactly (.string "StreamHouseModel" 283) "java/lang/String") (fl_R (fl_R (fl_L (fl_R (fl_L (fl_R (fl_R (fl_L (fl_R (fl_L (fl_0 rfl)))))))))))) (hg (Cond.eq (.field (.string "StreamHouseModel" 283) "java/lang/String" "coder" "B") (.int 0)) (fl_R (fl_R (fl_L (fl_R (fl_L (fl_R (fl_R (fl_L (fl_R (fl_R (fl_0 rfl)))))))))))) (hg (Cond.arrayOf (.field (.string "StreamHouseModel" 283) "java/lang/String" "value" "[B") .byte) (fl_R (fl_R (fl_L (fl_R (fl_L (fl_R (fl_R (fl_R (fl_L (fl_L (fl_0 rfl)))))))))))) (hg (Cond.eq (.length (.field (.string "StreamHouseModel" 283) "java/lang/String" "value" "[B")) (.int 3)) (fl_R (fl_R (fl_L (fl_R (fl_L (fl_R (fl_R (fl_R (fl_L (fl_R (fl_0 rfl)))))))))))) (fun j hj => hg _ (sa_283 j (by rw [← er_3]; exact List.mem_range.mpr hj))) hA
def bs_287 : List Int32 := [117, 110, 105, 111, 110]
theorem se_287_0 : eC 287 bs_287 0 ∈ GV := fl_R (fl_R (fl_L (fl_R (fl_R (fl_L (fl_L (fl_R (fl_L (fl_R (fl_0 rfl))))))))))
theorem se_287_1 : eC 287 bs_287 1 ∈ GV := fl_R (fl_R (fl_L (fl_R (fl_R (fl_L (fl_L (fl_R (fl_R (fl_L (fl_0 rfl))))))))))
theorem se_287_2 : eC 287 bs_287 2 ∈ GV := fl_R (fl_R (fl_L (fl_R (fl_R (fl_L (fl_L (fl_R (fl_R (fl_R (fl_0 rfl))))))))))
theorem se_287_3 : eC 287 bs_287 3 ∈ GV := fl_R (fl_R (fl_L (fl_R (fl_R (fl_L (fl_R (fl_L (fl_L (fl_L (fl_0 rfl))))))))))
theorem se_287_4 : eC 287 bs_287 4 ∈ GV := fl_R (fl_R (fl_L (fl_R (fl_R (fl_L (fl_R (fl_L (fl_L (fl_R (fl_0 rfl))))))))))
set_option maxRecDepth 100000 in
theorem sa_287 : ∀ j ∈ [0, 1, 2, 3, 4], eC 287 bs_287 j ∈ GV := List.forall_mem_cons.mpr ⟨se_287_0, List.forall_mem_cons.mpr ⟨se_287_1, List.forall_mem_cons.mpr ⟨se_287_2, List.forall_mem_cons.mpr ⟨se_287_3, List.forall_mem_cons.mpr ⟨se_287_4, (fun _ h => nomatch h)⟩⟩⟩⟩⟩
theorem sq_287 {b : Addr} {s : State} {A : Nat → Prop} (htsT : ∀ w ∈ lw_tbl, w.before #[Value.ref b] s = true) (hg : ∀ w ∈ GV, w.before #[Value.ref b] s = true) (hA : ∀ a : Nat, a < s.heap.size → ¬ A a) : ∃ k v : Nat, vk_R RX16 287 "union" k s ∧ SF k v (287, "union", bs_287) A s s.heap :=
  sq_of (bs := bs_287) (by decide) (htsT (.stringRef RX16 287 "union") (tb_11 _ (List.mem_of_getElem? (i := 124) rfl))) (hg (Cond.exactly (.string "StreamHouseModel" 287) "java/lang/String") (fl_R (fl_R (fl_L (fl_R (fl_R (fl_L (fl_L (fl_L (fl_L (fl_R (fl_0 rfl)))))))))))) (hg (Cond.eq (.field (.string "StreamHouseModel" 287) "java/lang/String" "coder" "B") (.int 0)) (fl_R (fl_R (fl_L (fl_R (fl_R (fl_L (fl_L (fl_L (fl_R (fl_L (fl_0 rfl)))))))))))) (hg (Cond.arrayOf (.field (.string "StreamHouseModel" 287) "java/lang/String" "value" "[B") .byte) (fl_R (fl_R (fl_L (fl_R (fl_R (fl_L (fl_L (fl_L (fl_R (fl_R (fl_0 rfl)))))))))))) (hg (Cond.eq (.length (.field (.string "StreamHouseModel" 287) "java/lang/String" "value" "[B")) (.int 5)) (fl_R (fl_R (fl_L (fl_R (fl_R (fl_L (fl_L (fl_R (fl_L (fl_L (fl_0 rfl)))))))))))) (fun j hj => hg _ (sa_287 j (by rw [← er_5]; exact List.mem_range.mpr hj))) hA
def bs_291 : List Int32 := [102, 111, 108, 100]
theorem se_291_0 : eC 291 bs_291 0 ∈ GV := fl_R (fl_R (fl_L (fl_R (fl_R (fl_L (fl_R (fl_R (fl_R (fl_L (fl_0 rfl))))))))))
theorem se_291_1 : eC 291 bs_291 1 ∈ GV := fl_R (fl_R (fl_L (fl_R (fl_R (fl_L (fl_R (fl_R (fl_R (fl_R (fl_0 rfl))))))))))
theorem se_291_2 : eC 291 bs_291 2 ∈ GV := fl_R (fl_R (fl_L (fl_R (fl_R (fl_R (fl_L (fl_L (fl_L (fl_L (fl_0 rfl))))))))))
theorem se_291_3 : eC 291 bs_291 3 ∈ GV := fl_R (fl_R (fl_L (fl_R (fl_R (fl_R (fl_L (fl_L (fl_L (fl_R (fl_0 rfl))))))))))
set_option maxRecDepth 100000 in
theorem sa_291 : ∀ j ∈ [0, 1, 2, 3], eC 291 bs_291 j ∈ GV := List.forall_mem_cons.mpr ⟨se_291_0, List.forall_mem_cons.mpr ⟨se_291_1, List.forall_mem_cons.mpr ⟨se_291_2, List.forall_mem_cons.mpr ⟨se_291_3, (fun _ h => nomatch h)⟩⟩⟩⟩
theorem sq_291 {b : Addr} {s : State} {A : Nat → Prop} (htsT : ∀ w ∈ lw_tbl, w.before #[Value.ref b] s = true) (hg : ∀ w ∈ GV, w.before #[Value.ref b] s = true) (hA : ∀ a : Nat, a < s.heap.size → ¬ A a) : ∃ k v : Nat, vk_R RX16 291 "fold" k s ∧ SF k v (291, "fold", bs_291) A s s.heap :=
  sq_of (bs := bs_291) (by decide) (htsT (.stringRef RX16 291 "fold") (tb_11 _ (List.mem_of_getElem? (i := 129) rfl))) (hg (Cond.exactly (.string "StreamHouseModel" 291) "java/lang/String") (fl_R (fl_R (fl_L (fl_R (fl_R (fl_L (fl_R (fl_L (fl_R (fl_L (fl_0 rfl)))))))))))) (hg (Cond.eq (.field (.string "StreamHouseModel" 291) "java/lang/String" "coder" "B") (.int 0)) (fl_R (fl_R (fl_L (fl_R (fl_R (fl_L (fl_R (fl_L (fl_R (fl_R (fl_0 rfl)))))))))))) (hg (Cond.arrayOf (.field (.string "StreamHouseModel" 291) "java/lang/String" "value" "[B") .byte) (fl_R (fl_R (fl_L (fl_R (fl_R (fl_L (fl_R (fl_R (fl_L (fl_L (fl_0 rfl)))))))))))) (hg (Cond.eq (.length (.field (.string "StreamHouseModel" 291) "java/lang/String" "value" "[B")) (.int 4)) (fl_R (fl_R (fl_L (fl_R (fl_R (fl_L (fl_R (fl_R (fl_L (fl_R (fl_0 rfl)))))))))))) (fun j hj => hg _ (sa_291 j (by rw [← er_4]; exact List.mem_range.mpr hj))) hA
def bs_295 : List Int32 := [106, 111, 105, 110]
theorem se_295_0 : eC 295 bs_295 0 ∈ GV := fl_R (fl_R (fl_R (fl_L (fl_R (fl_R (fl_L (fl_L (fl_R (fl_R (fl_0 rfl))))))))))
theorem se_295_1 : eC 295 bs_295 1 ∈ GV := fl_R (fl_R (fl_R (fl_L (fl_R (fl_R (fl_L (fl_R (fl_L (fl_L (fl_0 rfl))))))))))
theorem se_295_2 : eC 295 bs_295 2 ∈ GV := fl_R (fl_R (fl_R (fl_L (fl_R (fl_R (fl_L (fl_R (fl_L (fl_R (fl_0 rfl))))))))))
theorem se_295_3 : eC 295 bs_295 3 ∈ GV := fl_R (fl_R (fl_R (fl_L (fl_R (fl_R (fl_L (fl_R (fl_R (fl_L (fl_0 rfl))))))))))
set_option maxRecDepth 100000 in
theorem sa_295 : ∀ j ∈ [0, 1, 2, 3], eC 295 bs_295 j ∈ GV := List.forall_mem_cons.mpr ⟨se_295_0, List.forall_mem_cons.mpr ⟨se_295_1, List.forall_mem_cons.mpr ⟨se_295_2, List.forall_mem_cons.mpr ⟨se_295_3, (fun _ h => nomatch h)⟩⟩⟩⟩
theorem sq_295 {b : Addr} {s : State} {A : Nat → Prop} (htsT : ∀ w ∈ lw_tbl, w.before #[Value.ref b] s = true) (hg : ∀ w ∈ GV, w.before #[Value.ref b] s = true) (hA : ∀ a : Nat, a < s.heap.size → ¬ A a) : ∃ k v : Nat, vk_R RX16 295 "join" k s ∧ SF k v (295, "join", bs_295) A s s.heap :=
  sq_of (bs := bs_295) (by decide) (htsT (.stringRef RX16 295 "join") (tb_11 _ (List.mem_of_getElem? (i := 146) rfl))) (hg (Cond.exactly (.string "StreamHouseModel" 295) "java/lang/String") (fl_R (fl_R (fl_R (fl_L (fl_R (fl_L (fl_R (fl_R (fl_R (fl_R (fl_0 rfl)))))))))))) (hg (Cond.eq (.field (.string "StreamHouseModel" 295) "java/lang/String" "coder" "B") (.int 0)) (fl_R (fl_R (fl_R (fl_L (fl_R (fl_R (fl_L (fl_L (fl_L (fl_L (fl_0 rfl)))))))))))) (hg (Cond.arrayOf (.field (.string "StreamHouseModel" 295) "java/lang/String" "value" "[B") .byte) (fl_R (fl_R (fl_R (fl_L (fl_R (fl_R (fl_L (fl_L (fl_L (fl_R (fl_0 rfl)))))))))))) (hg (Cond.eq (.length (.field (.string "StreamHouseModel" 295) "java/lang/String" "value" "[B")) (.int 4)) (fl_R (fl_R (fl_R (fl_L (fl_R (fl_R (fl_L (fl_L (fl_R (fl_L (fl_0 rfl)))))))))))) (fun j hj => hg _ (sa_295 j (by rw [← er_4]; exact List.mem_range.mpr hj))) hA
def bs_304 : List Int32 := [108, 111, 111, 107]
theorem se_304_0 : eC 304 bs_304 0 ∈ GV := fl_R (fl_R (fl_R (fl_R (fl_L (fl_L (fl_L (fl_R (fl_L (fl_R (fl_0 rfl))))))))))
theorem se_304_1 : eC 304 bs_304 1 ∈ GV := fl_R (fl_R (fl_R (fl_R (fl_L (fl_L (fl_L (fl_R (fl_R (fl_L (fl_0 rfl))))))))))
theorem se_304_2 : eC 304 bs_304 2 ∈ GV := fl_R (fl_R (fl_R (fl_R (fl_L (fl_L (fl_L (fl_R (fl_R (fl_R (fl_0 rfl))))))))))
theorem se_304_3 : eC 304 bs_304 3 ∈ GV := fl_R (fl_R (fl_R (fl_R (fl_L (fl_L (fl_R (fl_L (fl_L (fl_L (fl_0 rfl))))))))))
set_option maxRecDepth 100000 in
theorem sa_304 : ∀ j ∈ [0, 1, 2, 3], eC 304 bs_304 j ∈ GV := List.forall_mem_cons.mpr ⟨se_304_0, List.forall_mem_cons.mpr ⟨se_304_1, List.forall_mem_cons.mpr ⟨se_304_2, List.forall_mem_cons.mpr ⟨se_304_3, (fun _ h => nomatch h)⟩⟩⟩⟩
theorem sq_304 {b : Addr} {s : State} {A : Nat → Prop} (htsT : ∀ w ∈ lw_tbl, w.before #[Value.ref b] s = true) (hg : ∀ w ∈ GV, w.before #[Value.ref b] s = true) (hA : ∀ a : Nat, a < s.heap.size → ¬ A a) : ∃ k v : Nat, vk_R RX16 304 "look" k s ∧ SF k v (304, "look", bs_304) A s s.heap :=
  sq_of (bs := bs_304) (by decide) (htsT (.stringRef RX16 304 "look") (tb_11 _ (List.mem_of_getElem? (i := 156) rfl))) (hg (Cond.exactly (.string "StreamHouseModel" 304) "java/lang/String") (fl_R (fl_R (fl_R (fl_R (fl_L (fl_L (fl_L (fl_L (fl_L (fl_R (fl_0 rfl)))))))))))) (hg (Cond.eq (.field (.string "StreamHouseModel" 304) "java/lang/String" "coder" "B") (.int 0)) (fl_R (fl_R (fl_R (fl_R (fl_L (fl_L (fl_L (fl_L (fl_R (fl_L (fl_0 rfl)))))))))))) (hg (Cond.arrayOf (.field (.string "StreamHouseModel" 304) "java/lang/String" "value" "[B") .byte) (fl_R (fl_R (fl_R (fl_R (fl_L (fl_L (fl_L (fl_L (fl_R (fl_R (fl_0 rfl)))))))))))) (hg (Cond.eq (.length (.field (.string "StreamHouseModel" 304) "java/lang/String" "value" "[B")) (.int 4)) (fl_R (fl_R (fl_R (fl_R (fl_L (fl_L (fl_L (fl_R (fl_L (fl_L (fl_0 rfl)))))))))))) (fun j hj => hg _ (sa_304 j (by rw [← er_4]; exact List.mem_range.mpr hj))) hA
def bs_306 : List Int32 := [109, 97, 116, 99, 104]
theorem se_306_0 : eC 306 bs_306 0 ∈ GV := fl_R (fl_R (fl_R (fl_R (fl_L (fl_L (fl_R (fl_R (fl_L (fl_R (fl_0 rfl))))))))))
theorem se_306_1 : eC 306 bs_306 1 ∈ GV := fl_R (fl_R (fl_R (fl_R (fl_L (fl_L (fl_R (fl_R (fl_R (fl_L (fl_0 rfl))))))))))
theorem se_306_2 : eC 306 bs_306 2 ∈ GV := fl_R (fl_R (fl_R (fl_R (fl_L (fl_L (fl_R (fl_R (fl_R (fl_R (fl_0 rfl))))))))))
theorem se_306_3 : eC 306 bs_306 3 ∈ GV := fl_R (fl_R (fl_R (fl_R (fl_L (fl_R (fl_L (fl_L (fl_L (fl_L (fl_0 rfl))))))))))
theorem se_306_4 : eC 306 bs_306 4 ∈ GV := fl_R (fl_R (fl_R (fl_R (fl_L (fl_R (fl_L (fl_L (fl_L (fl_R (fl_0 rfl))))))))))
set_option maxRecDepth 100000 in
theorem sa_306 : ∀ j ∈ [0, 1, 2, 3, 4], eC 306 bs_306 j ∈ GV := List.forall_mem_cons.mpr ⟨se_306_0, List.forall_mem_cons.mpr ⟨se_306_1, List.forall_mem_cons.mpr ⟨se_306_2, List.forall_mem_cons.mpr ⟨se_306_3, List.forall_mem_cons.mpr ⟨se_306_4, (fun _ h => nomatch h)⟩⟩⟩⟩⟩
theorem sq_306 {b : Addr} {s : State} {A : Nat → Prop} (htsT : ∀ w ∈ lw_tbl, w.before #[Value.ref b] s = true) (hg : ∀ w ∈ GV, w.before #[Value.ref b] s = true) (hA : ∀ a : Nat, a < s.heap.size → ¬ A a) : ∃ k v : Nat, vk_R RX16 306 "match" k s ∧ SF k v (306, "match", bs_306) A s s.heap :=
  sq_of (bs := bs_306) (by decide) (htsT (.stringRef RX16 306 "match") (tb_11 _ (List.mem_of_getElem? (i := 157) rfl))) (hg (Cond.exactly (.string "StreamHouseModel" 306) "java/lang/String") (fl_R (fl_R (fl_R (fl_R (fl_L (fl_L (fl_R (fl_L (fl_L (fl_R (fl_0 rfl)))))))))))) (hg (Cond.eq (.field (.string "StreamHouseModel" 306) "java/lang/String" "coder" "B") (.int 0)) (fl_R (fl_R (fl_R (fl_R (fl_L (fl_L (fl_R (fl_L (fl_R (fl_L (fl_0 rfl)))))))))))) (hg (Cond.arrayOf (.field (.string "StreamHouseModel" 306) "java/lang/String" "value" "[B") .byte) (fl_R (fl_R (fl_R (fl_R (fl_L (fl_L (fl_R (fl_L (fl_R (fl_R (fl_0 rfl)))))))))))) (hg (Cond.eq (.length (.field (.string "StreamHouseModel" 306) "java/lang/String" "value" "[B")) (.int 5)) (fl_R (fl_R (fl_R (fl_R (fl_L (fl_L (fl_R (fl_R (fl_L (fl_L (fl_0 rfl)))))))))))) (fun j hj => hg _ (sa_306 j (by rw [← er_5]; exact List.mem_range.mpr hj))) hA
def bs_310 : List Int32 := [117, 110, 105, 113, 117, 101]
theorem se_310_0 : eC 310 bs_310 0 ∈ GV := fl_R (fl_R (fl_R (fl_R (fl_R (fl_L (fl_R (fl_R (fl_L (fl_L (fl_0 rfl))))))))))
theorem se_310_1 : eC 310 bs_310 1 ∈ GV := fl_R (fl_R (fl_R (fl_R (fl_R (fl_L (fl_R (fl_R (fl_L (fl_R (fl_0 rfl))))))))))
theorem se_310_2 : eC 310 bs_310 2 ∈ GV := fl_R (fl_R (fl_R (fl_R (fl_R (fl_L (fl_R (fl_R (fl_R (fl_L (fl_0 rfl))))))))))
theorem se_310_3 : eC 310 bs_310 3 ∈ GV := fl_R (fl_R (fl_R (fl_R (fl_R (fl_L (fl_R (fl_R (fl_R (fl_R (fl_0 rfl))))))))))
theorem se_310_4 : eC 310 bs_310 4 ∈ GV := fl_R (fl_R (fl_R (fl_R (fl_R (fl_R (fl_L (fl_L (fl_L (fl_L (fl_0 rfl))))))))))
theorem se_310_5 : eC 310 bs_310 5 ∈ GV := fl_R (fl_R (fl_R (fl_R (fl_R (fl_R (fl_L (fl_L (fl_L (fl_R (fl_0 rfl))))))))))
set_option maxRecDepth 100000 in
theorem sa_310 : ∀ j ∈ [0, 1, 2, 3, 4, 5], eC 310 bs_310 j ∈ GV := List.forall_mem_cons.mpr ⟨se_310_0, List.forall_mem_cons.mpr ⟨se_310_1, List.forall_mem_cons.mpr ⟨se_310_2, List.forall_mem_cons.mpr ⟨se_310_3, List.forall_mem_cons.mpr ⟨se_310_4, List.forall_mem_cons.mpr ⟨se_310_5, (fun _ h => nomatch h)⟩⟩⟩⟩⟩⟩
theorem sq_310 {b : Addr} {s : State} {A : Nat → Prop} (htsT : ∀ w ∈ lw_tbl, w.before #[Value.ref b] s = true) (hg : ∀ w ∈ GV, w.before #[Value.ref b] s = true) (hA : ∀ a : Nat, a < s.heap.size → ¬ A a) : ∃ k v : Nat, vk_R RX16 310 "unique" k s ∧ SF k v (310, "unique", bs_310) A s s.heap :=
  sq_of (bs := bs_310) (by decide) (htsT (.stringRef RX16 310 "unique") (tb_11 _ (List.mem_of_getElem? (i := 165) rfl))) (hg (Cond.exactly (.string "StreamHouseModel" 310) "java/lang/String") (fl_R (fl_R (fl_R (fl_R (fl_R (fl_L (fl_R (fl_L (fl_L (fl_L (fl_0 rfl)))))))))))) (hg (Cond.eq (.field (.string "StreamHouseModel" 310) "java/lang/String" "coder" "B") (.int 0)) (fl_R (fl_R (fl_R (fl_R (fl_R (fl_L (fl_R (fl_L (fl_L (fl_R (fl_0 rfl)))))))))))) (hg (Cond.arrayOf (.field (.string "StreamHouseModel" 310) "java/lang/String" "value" "[B") .byte) (fl_R (fl_R (fl_R (fl_R (fl_R (fl_L (fl_R (fl_L (fl_R (fl_L (fl_0 rfl)))))))))))) (hg (Cond.eq (.length (.field (.string "StreamHouseModel" 310) "java/lang/String" "value" "[B")) (.int 6)) (fl_R (fl_R (fl_R (fl_R (fl_R (fl_L (fl_R (fl_L (fl_R (fl_R (fl_0 rfl)))))))))))) (fun j hj => hg _ (sa_310 j (by rw [← er_6]; exact List.mem_range.mpr hj))) hA
def bs_312 : List Int32 := [116, 111, 112]
theorem se_312_0 : eC 312 bs_312 0 ∈ GV := fl_R (fl_R (fl_R (fl_R (fl_R (fl_R (fl_L (fl_R (fl_R (fl_L (fl_0 rfl))))))))))
theorem se_312_1 : eC 312 bs_312 1 ∈ GV := fl_R (fl_R (fl_R (fl_R (fl_R (fl_R (fl_L (fl_R (fl_R (fl_R (fl_0 rfl))))))))))
theorem se_312_2 : eC 312 bs_312 2 ∈ GV := fl_R (fl_R (fl_R (fl_R (fl_R (fl_R (fl_R (fl_L (fl_L (fl_L (fl_0 rfl))))))))))
set_option maxRecDepth 100000 in
theorem sa_312 : ∀ j ∈ [0, 1, 2], eC 312 bs_312 j ∈ GV := List.forall_mem_cons.mpr ⟨se_312_0, List.forall_mem_cons.mpr ⟨se_312_1, List.forall_mem_cons.mpr ⟨se_312_2, (fun _ h => nomatch h)⟩⟩⟩
theorem sq_312 {b : Addr} {s : State} {A : Nat → Prop} (htsT : ∀ w ∈ lw_tbl, w.before #[Value.ref b] s = true) (hg : ∀ w ∈ GV, w.before #[Value.ref b] s = true) (hA : ∀ a : Nat, a < s.heap.size → ¬ A a) : ∃ k v : Nat, vk_R RX16 312 "top" k s ∧ SF k v (312, "top", bs_312) A s s.heap :=
  sq_of (bs := bs_312) (by decide) (htsT (.stringRef RX16 312 "top") (tb_11 _ (List.mem_of_getElem? (i := 166) rfl))) (hg (Cond.exactly (.string "StreamHouseModel" 312) "java/lang/String") (fl_R (fl_R (fl_R (fl_R (fl_R (fl_R (fl_L (fl_L (fl_R (fl_L (fl_0 rfl)))))))))))) (hg (Cond.eq (.field (.string "StreamHouseModel" 312) "java/lang/String" "coder" "B") (.int 0)) (fl_R (fl_R (fl_R (fl_R (fl_R (fl_R (fl_L (fl_L (fl_R (fl_R (fl_0 rfl)))))))))))) (hg (Cond.arrayOf (.field (.string "StreamHouseModel" 312) "java/lang/String" "value" "[B") .byte) (fl_R (fl_R (fl_R (fl_R (fl_R (fl_R (fl_L (fl_R (fl_L (fl_L (fl_0 rfl)))))))))))) (hg (Cond.eq (.length (.field (.string "StreamHouseModel" 312) "java/lang/String" "value" "[B")) (.int 3)) (fl_R (fl_R (fl_R (fl_R (fl_R (fl_R (fl_L (fl_R (fl_L (fl_R (fl_0 rfl)))))))))))) (fun j hj => hg _ (sa_312 j (by rw [← er_3]; exact List.mem_range.mpr hj))) hA
def bs_319 : List Int32 := [111, 117, 116, 112, 117, 116]
theorem se_319_0 : eC 319 bs_319 0 ∈ GV := fl_R (fl_R (fl_L (fl_L (fl_R (fl_R (fl_L (fl_L (fl_L (fl_R (fl_0 rfl))))))))))
theorem se_319_1 : eC 319 bs_319 1 ∈ GV := fl_R (fl_R (fl_L (fl_L (fl_R (fl_R (fl_L (fl_L (fl_R (fl_L (fl_0 rfl))))))))))
theorem se_319_2 : eC 319 bs_319 2 ∈ GV := fl_R (fl_R (fl_L (fl_L (fl_R (fl_R (fl_L (fl_L (fl_R (fl_R (fl_0 rfl))))))))))
theorem se_319_3 : eC 319 bs_319 3 ∈ GV := fl_R (fl_R (fl_L (fl_L (fl_R (fl_R (fl_L (fl_R (fl_L (fl_L (fl_0 rfl))))))))))
theorem se_319_4 : eC 319 bs_319 4 ∈ GV := fl_R (fl_R (fl_L (fl_L (fl_R (fl_R (fl_L (fl_R (fl_L (fl_R (fl_0 rfl))))))))))
theorem se_319_5 : eC 319 bs_319 5 ∈ GV := fl_R (fl_R (fl_L (fl_L (fl_R (fl_R (fl_L (fl_R (fl_R (fl_L (fl_0 rfl))))))))))
set_option maxRecDepth 100000 in
theorem sa_319 : ∀ j ∈ [0, 1, 2, 3, 4, 5], eC 319 bs_319 j ∈ GV := List.forall_mem_cons.mpr ⟨se_319_0, List.forall_mem_cons.mpr ⟨se_319_1, List.forall_mem_cons.mpr ⟨se_319_2, List.forall_mem_cons.mpr ⟨se_319_3, List.forall_mem_cons.mpr ⟨se_319_4, List.forall_mem_cons.mpr ⟨se_319_5, (fun _ h => nomatch h)⟩⟩⟩⟩⟩⟩
theorem sq_319 {b : Addr} {s : State} {A : Nat → Prop} (htsT : ∀ w ∈ lw_tbl, w.before #[Value.ref b] s = true) (hg : ∀ w ∈ GV, w.before #[Value.ref b] s = true) (hA : ∀ a : Nat, a < s.heap.size → ¬ A a) : ∃ k v : Nat, vk_R RX16 319 "output" k s ∧ SF k v (319, "output", bs_319) A s s.heap :=
  sq_of (bs := bs_319) (by decide) (htsT (.stringRef RX16 319 "output") (tb_10 _ (List.mem_of_getElem? (i := 236) rfl))) (hg (Cond.exactly (.string "StreamHouseModel" 319) "java/lang/String") (fl_R (fl_R (fl_L (fl_L (fl_R (fl_L (fl_R (fl_R (fl_L (fl_R (fl_0 rfl)))))))))))) (hg (Cond.eq (.field (.string "StreamHouseModel" 319) "java/lang/String" "coder" "B") (.int 0)) (fl_R (fl_R (fl_L (fl_L (fl_R (fl_L (fl_R (fl_R (fl_R (fl_L (fl_0 rfl)))))))))))) (hg (Cond.arrayOf (.field (.string "StreamHouseModel" 319) "java/lang/String" "value" "[B") .byte) (fl_R (fl_R (fl_L (fl_L (fl_R (fl_L (fl_R (fl_R (fl_R (fl_R (fl_0 rfl)))))))))))) (hg (Cond.eq (.length (.field (.string "StreamHouseModel" 319) "java/lang/String" "value" "[B")) (.int 6)) (fl_R (fl_R (fl_L (fl_L (fl_R (fl_R (fl_L (fl_L (fl_L (fl_L (fl_0 rfl)))))))))))) (fun j hj => hg _ (sa_319 j (by rw [← er_6]; exact List.mem_range.mpr hj))) hA
def bs_967 : List Int32 := [32, 115, 111, 117, 114, 99, 101, 32, 108, 97, 103, 32, 102, 105, 108, 116, 101, 114, 32, 109, 97, 112, 32, 117, 110, 105, 111, 110, 32, 102, 111, 108, 100, 32, 98, 121, 32, 115, 112, 97, 110, 32, 115, 116, 101, 112, 32, 103, 97, 112, 32, 106, 111, 105, 110, 32, 119, 105, 116, 104, 105, 110, 32, 108, 111, 111, 107, 32, 109, 97, 116, 99, 104, 32, 116, 104, 101, 110, 32, 117, 110, 105, 113, 117, 101, 32, 116, 111, 112, 32, 111, 117, 116, 112, 117, 116, 32, 99, 111, 117, 110, 116, 32, 115, 117, 109, 32, 108, 101, 97, 115, 116, 32, 109, 111, 115, 116, 32, 116, 105, 109, 101, 32]
theorem se_967_0 : eC 967 bs_967 0 ∈ GV := fl_R (fl_L (fl_R (fl_L (fl_L (fl_R (fl_R (fl_R (fl_R (fl_L (fl_0 rfl))))))))))
theorem se_967_1 : eC 967 bs_967 1 ∈ GV := fl_R (fl_L (fl_R (fl_L (fl_L (fl_R (fl_R (fl_R (fl_R (fl_R (fl_0 rfl))))))))))
theorem se_967_2 : eC 967 bs_967 2 ∈ GV := fl_R (fl_L (fl_R (fl_L (fl_R (fl_L (fl_L (fl_L (fl_L (fl_L (fl_0 rfl))))))))))
theorem se_967_3 : eC 967 bs_967 3 ∈ GV := fl_R (fl_L (fl_R (fl_L (fl_R (fl_L (fl_L (fl_L (fl_L (fl_R (fl_0 rfl))))))))))
theorem se_967_4 : eC 967 bs_967 4 ∈ GV := fl_R (fl_L (fl_R (fl_L (fl_R (fl_L (fl_L (fl_L (fl_R (fl_L (fl_0 rfl))))))))))
theorem se_967_5 : eC 967 bs_967 5 ∈ GV := fl_R (fl_L (fl_R (fl_L (fl_R (fl_L (fl_L (fl_L (fl_R (fl_R (fl_0 rfl))))))))))
theorem se_967_6 : eC 967 bs_967 6 ∈ GV := fl_R (fl_L (fl_R (fl_L (fl_R (fl_L (fl_L (fl_R (fl_L (fl_L (fl_0 rfl))))))))))
theorem se_967_7 : eC 967 bs_967 7 ∈ GV := fl_R (fl_L (fl_R (fl_L (fl_R (fl_L (fl_L (fl_R (fl_L (fl_R (fl_0 rfl))))))))))
theorem se_967_8 : eC 967 bs_967 8 ∈ GV := fl_R (fl_L (fl_R (fl_L (fl_R (fl_L (fl_L (fl_R (fl_R (fl_L (fl_0 rfl))))))))))
theorem se_967_9 : eC 967 bs_967 9 ∈ GV := fl_R (fl_L (fl_R (fl_L (fl_R (fl_L (fl_L (fl_R (fl_R (fl_R (fl_0 rfl))))))))))
theorem se_967_10 : eC 967 bs_967 10 ∈ GV := fl_R (fl_L (fl_R (fl_L (fl_R (fl_L (fl_R (fl_L (fl_L (fl_L (fl_0 rfl))))))))))
theorem se_967_11 : eC 967 bs_967 11 ∈ GV := fl_R (fl_L (fl_R (fl_L (fl_R (fl_L (fl_R (fl_L (fl_L (fl_R (fl_0 rfl))))))))))
theorem se_967_12 : eC 967 bs_967 12 ∈ GV := fl_R (fl_L (fl_R (fl_L (fl_R (fl_L (fl_R (fl_L (fl_R (fl_L (fl_0 rfl))))))))))
theorem se_967_13 : eC 967 bs_967 13 ∈ GV := fl_R (fl_L (fl_R (fl_L (fl_R (fl_L (fl_R (fl_L (fl_R (fl_R (fl_0 rfl))))))))))
theorem se_967_14 : eC 967 bs_967 14 ∈ GV := fl_R (fl_L (fl_R (fl_L (fl_R (fl_L (fl_R (fl_R (fl_L (fl_L (fl_0 rfl))))))))))
theorem se_967_15 : eC 967 bs_967 15 ∈ GV := fl_R (fl_L (fl_R (fl_L (fl_R (fl_L (fl_R (fl_R (fl_L (fl_R (fl_0 rfl))))))))))
theorem se_967_16 : eC 967 bs_967 16 ∈ GV := fl_R (fl_L (fl_R (fl_L (fl_R (fl_L (fl_R (fl_R (fl_R (fl_L (fl_0 rfl))))))))))
theorem se_967_17 : eC 967 bs_967 17 ∈ GV := fl_R (fl_L (fl_R (fl_L (fl_R (fl_L (fl_R (fl_R (fl_R (fl_R (fl_0 rfl))))))))))
theorem se_967_18 : eC 967 bs_967 18 ∈ GV := fl_R (fl_L (fl_R (fl_L (fl_R (fl_R (fl_L (fl_L (fl_L (fl_L (fl_0 rfl))))))))))
theorem se_967_19 : eC 967 bs_967 19 ∈ GV := fl_R (fl_L (fl_R (fl_L (fl_R (fl_R (fl_L (fl_L (fl_L (fl_R (fl_0 rfl))))))))))
theorem se_967_20 : eC 967 bs_967 20 ∈ GV := fl_R (fl_L (fl_R (fl_L (fl_R (fl_R (fl_L (fl_L (fl_R (fl_L (fl_0 rfl))))))))))
theorem se_967_21 : eC 967 bs_967 21 ∈ GV := fl_R (fl_L (fl_R (fl_L (fl_R (fl_R (fl_L (fl_L (fl_R (fl_R (fl_0 rfl))))))))))
theorem se_967_22 : eC 967 bs_967 22 ∈ GV := fl_R (fl_L (fl_R (fl_L (fl_R (fl_R (fl_L (fl_R (fl_L (fl_L (fl_0 rfl))))))))))
theorem se_967_23 : eC 967 bs_967 23 ∈ GV := fl_R (fl_L (fl_R (fl_L (fl_R (fl_R (fl_L (fl_R (fl_L (fl_R (fl_0 rfl))))))))))
theorem se_967_24 : eC 967 bs_967 24 ∈ GV := fl_R (fl_L (fl_R (fl_L (fl_R (fl_R (fl_L (fl_R (fl_R (fl_L (fl_0 rfl))))))))))
theorem se_967_25 : eC 967 bs_967 25 ∈ GV := fl_R (fl_L (fl_R (fl_L (fl_R (fl_R (fl_L (fl_R (fl_R (fl_R (fl_0 rfl))))))))))
theorem se_967_26 : eC 967 bs_967 26 ∈ GV := fl_R (fl_L (fl_R (fl_L (fl_R (fl_R (fl_R (fl_L (fl_L (fl_L (fl_0 rfl))))))))))
theorem se_967_27 : eC 967 bs_967 27 ∈ GV := fl_R (fl_L (fl_R (fl_L (fl_R (fl_R (fl_R (fl_L (fl_L (fl_R (fl_0 rfl))))))))))
theorem se_967_28 : eC 967 bs_967 28 ∈ GV := fl_R (fl_L (fl_R (fl_L (fl_R (fl_R (fl_R (fl_L (fl_R (fl_L (fl_0 rfl))))))))))
theorem se_967_29 : eC 967 bs_967 29 ∈ GV := fl_R (fl_L (fl_R (fl_L (fl_R (fl_R (fl_R (fl_L (fl_R (fl_R (fl_0 rfl))))))))))
theorem se_967_30 : eC 967 bs_967 30 ∈ GV := fl_R (fl_L (fl_R (fl_L (fl_R (fl_R (fl_R (fl_R (fl_L (fl_L (fl_0 rfl))))))))))
theorem se_967_31 : eC 967 bs_967 31 ∈ GV := fl_R (fl_L (fl_R (fl_L (fl_R (fl_R (fl_R (fl_R (fl_L (fl_R (fl_0 rfl))))))))))
theorem se_967_32 : eC 967 bs_967 32 ∈ GV := fl_R (fl_L (fl_R (fl_L (fl_R (fl_R (fl_R (fl_R (fl_R (fl_L (fl_0 rfl))))))))))
theorem se_967_33 : eC 967 bs_967 33 ∈ GV := fl_R (fl_L (fl_R (fl_L (fl_R (fl_R (fl_R (fl_R (fl_R (fl_R (fl_0 rfl))))))))))
theorem se_967_34 : eC 967 bs_967 34 ∈ GV := fl_R (fl_L (fl_R (fl_R (fl_L (fl_L (fl_L (fl_L (fl_L (fl_L (fl_0 rfl))))))))))
theorem se_967_35 : eC 967 bs_967 35 ∈ GV := fl_R (fl_L (fl_R (fl_R (fl_L (fl_L (fl_L (fl_L (fl_L (fl_R (fl_0 rfl))))))))))
theorem se_967_36 : eC 967 bs_967 36 ∈ GV := fl_R (fl_L (fl_R (fl_R (fl_L (fl_L (fl_L (fl_L (fl_R (fl_L (fl_0 rfl))))))))))
theorem se_967_37 : eC 967 bs_967 37 ∈ GV := fl_R (fl_L (fl_R (fl_R (fl_L (fl_L (fl_L (fl_L (fl_R (fl_R (fl_0 rfl))))))))))
theorem se_967_38 : eC 967 bs_967 38 ∈ GV := fl_R (fl_L (fl_R (fl_R (fl_L (fl_L (fl_L (fl_R (fl_L (fl_L (fl_0 rfl))))))))))
theorem se_967_39 : eC 967 bs_967 39 ∈ GV := fl_R (fl_L (fl_R (fl_R (fl_L (fl_L (fl_L (fl_R (fl_L (fl_R (fl_0 rfl))))))))))
theorem se_967_40 : eC 967 bs_967 40 ∈ GV := fl_R (fl_L (fl_R (fl_R (fl_L (fl_L (fl_L (fl_R (fl_R (fl_L (fl_0 rfl))))))))))
theorem se_967_41 : eC 967 bs_967 41 ∈ GV := fl_R (fl_L (fl_R (fl_R (fl_L (fl_L (fl_L (fl_R (fl_R (fl_R (fl_0 rfl))))))))))
theorem se_967_42 : eC 967 bs_967 42 ∈ GV := fl_R (fl_L (fl_R (fl_R (fl_L (fl_L (fl_R (fl_L (fl_L (fl_L (fl_0 rfl))))))))))
theorem se_967_43 : eC 967 bs_967 43 ∈ GV := fl_R (fl_L (fl_R (fl_R (fl_L (fl_L (fl_R (fl_L (fl_L (fl_R (fl_0 rfl))))))))))
theorem se_967_44 : eC 967 bs_967 44 ∈ GV := fl_R (fl_L (fl_R (fl_R (fl_L (fl_L (fl_R (fl_L (fl_R (fl_L (fl_0 rfl))))))))))
theorem se_967_45 : eC 967 bs_967 45 ∈ GV := fl_R (fl_L (fl_R (fl_R (fl_L (fl_L (fl_R (fl_L (fl_R (fl_R (fl_0 rfl))))))))))
theorem se_967_46 : eC 967 bs_967 46 ∈ GV := fl_R (fl_L (fl_R (fl_R (fl_L (fl_L (fl_R (fl_R (fl_L (fl_L (fl_0 rfl))))))))))
theorem se_967_47 : eC 967 bs_967 47 ∈ GV := fl_R (fl_L (fl_R (fl_R (fl_L (fl_L (fl_R (fl_R (fl_L (fl_R (fl_0 rfl))))))))))
theorem se_967_48 : eC 967 bs_967 48 ∈ GV := fl_R (fl_L (fl_R (fl_R (fl_L (fl_L (fl_R (fl_R (fl_R (fl_L (fl_0 rfl))))))))))
theorem se_967_49 : eC 967 bs_967 49 ∈ GV := fl_R (fl_L (fl_R (fl_R (fl_L (fl_L (fl_R (fl_R (fl_R (fl_R (fl_0 rfl))))))))))
theorem se_967_50 : eC 967 bs_967 50 ∈ GV := fl_R (fl_L (fl_R (fl_R (fl_L (fl_R (fl_L (fl_L (fl_L (fl_L (fl_0 rfl))))))))))
theorem se_967_51 : eC 967 bs_967 51 ∈ GV := fl_R (fl_L (fl_R (fl_R (fl_L (fl_R (fl_L (fl_L (fl_L (fl_R (fl_0 rfl))))))))))
theorem se_967_52 : eC 967 bs_967 52 ∈ GV := fl_R (fl_L (fl_R (fl_R (fl_L (fl_R (fl_L (fl_L (fl_R (fl_L (fl_0 rfl))))))))))
theorem se_967_53 : eC 967 bs_967 53 ∈ GV := fl_R (fl_L (fl_R (fl_R (fl_L (fl_R (fl_L (fl_L (fl_R (fl_R (fl_0 rfl))))))))))
theorem se_967_54 : eC 967 bs_967 54 ∈ GV := fl_R (fl_L (fl_R (fl_R (fl_L (fl_R (fl_L (fl_R (fl_L (fl_L (fl_0 rfl))))))))))
theorem se_967_55 : eC 967 bs_967 55 ∈ GV := fl_R (fl_L (fl_R (fl_R (fl_L (fl_R (fl_L (fl_R (fl_L (fl_R (fl_0 rfl))))))))))
theorem se_967_56 : eC 967 bs_967 56 ∈ GV := fl_R (fl_L (fl_R (fl_R (fl_L (fl_R (fl_L (fl_R (fl_R (fl_L (fl_0 rfl))))))))))
theorem se_967_57 : eC 967 bs_967 57 ∈ GV := fl_R (fl_L (fl_R (fl_R (fl_L (fl_R (fl_L (fl_R (fl_R (fl_R (fl_0 rfl))))))))))
theorem se_967_58 : eC 967 bs_967 58 ∈ GV := fl_R (fl_L (fl_R (fl_R (fl_L (fl_R (fl_R (fl_L (fl_L (fl_L (fl_0 rfl))))))))))
theorem se_967_59 : eC 967 bs_967 59 ∈ GV := fl_R (fl_L (fl_R (fl_R (fl_L (fl_R (fl_R (fl_L (fl_L (fl_R (fl_0 rfl))))))))))
theorem se_967_60 : eC 967 bs_967 60 ∈ GV := fl_R (fl_L (fl_R (fl_R (fl_L (fl_R (fl_R (fl_L (fl_R (fl_L (fl_0 rfl))))))))))
theorem se_967_61 : eC 967 bs_967 61 ∈ GV := fl_R (fl_L (fl_R (fl_R (fl_L (fl_R (fl_R (fl_L (fl_R (fl_R (fl_0 rfl))))))))))
theorem se_967_62 : eC 967 bs_967 62 ∈ GV := fl_R (fl_L (fl_R (fl_R (fl_L (fl_R (fl_R (fl_R (fl_L (fl_L (fl_0 rfl))))))))))
theorem se_967_63 : eC 967 bs_967 63 ∈ GV := fl_R (fl_L (fl_R (fl_R (fl_L (fl_R (fl_R (fl_R (fl_L (fl_R (fl_0 rfl))))))))))
theorem se_967_64 : eC 967 bs_967 64 ∈ GV := fl_R (fl_L (fl_R (fl_R (fl_L (fl_R (fl_R (fl_R (fl_R (fl_L (fl_0 rfl))))))))))
theorem se_967_65 : eC 967 bs_967 65 ∈ GV := fl_R (fl_L (fl_R (fl_R (fl_L (fl_R (fl_R (fl_R (fl_R (fl_R (fl_0 rfl))))))))))
theorem se_967_66 : eC 967 bs_967 66 ∈ GV := fl_R (fl_L (fl_R (fl_R (fl_R (fl_L (fl_L (fl_L (fl_L (fl_L (fl_0 rfl))))))))))
theorem se_967_67 : eC 967 bs_967 67 ∈ GV := fl_R (fl_L (fl_R (fl_R (fl_R (fl_L (fl_L (fl_L (fl_L (fl_R (fl_0 rfl))))))))))
theorem se_967_68 : eC 967 bs_967 68 ∈ GV := fl_R (fl_L (fl_R (fl_R (fl_R (fl_L (fl_L (fl_L (fl_R (fl_L (fl_0 rfl))))))))))
theorem se_967_69 : eC 967 bs_967 69 ∈ GV := fl_R (fl_L (fl_R (fl_R (fl_R (fl_L (fl_L (fl_L (fl_R (fl_R (fl_0 rfl))))))))))
theorem se_967_70 : eC 967 bs_967 70 ∈ GV := fl_R (fl_L (fl_R (fl_R (fl_R (fl_L (fl_L (fl_R (fl_L (fl_L (fl_0 rfl))))))))))
theorem se_967_71 : eC 967 bs_967 71 ∈ GV := fl_R (fl_L (fl_R (fl_R (fl_R (fl_L (fl_L (fl_R (fl_L (fl_R (fl_0 rfl))))))))))
theorem se_967_72 : eC 967 bs_967 72 ∈ GV := fl_R (fl_L (fl_R (fl_R (fl_R (fl_L (fl_L (fl_R (fl_R (fl_L (fl_0 rfl))))))))))
theorem se_967_73 : eC 967 bs_967 73 ∈ GV := fl_R (fl_L (fl_R (fl_R (fl_R (fl_L (fl_L (fl_R (fl_R (fl_R (fl_0 rfl))))))))))
theorem se_967_74 : eC 967 bs_967 74 ∈ GV := fl_R (fl_L (fl_R (fl_R (fl_R (fl_L (fl_R (fl_L (fl_L (fl_L (fl_0 rfl))))))))))
theorem se_967_75 : eC 967 bs_967 75 ∈ GV := fl_R (fl_L (fl_R (fl_R (fl_R (fl_L (fl_R (fl_L (fl_L (fl_R (fl_0 rfl))))))))))
theorem se_967_76 : eC 967 bs_967 76 ∈ GV := fl_R (fl_L (fl_R (fl_R (fl_R (fl_L (fl_R (fl_L (fl_R (fl_L (fl_0 rfl))))))))))
theorem se_967_77 : eC 967 bs_967 77 ∈ GV := fl_R (fl_L (fl_R (fl_R (fl_R (fl_L (fl_R (fl_L (fl_R (fl_R (fl_0 rfl))))))))))
theorem se_967_78 : eC 967 bs_967 78 ∈ GV := fl_R (fl_L (fl_R (fl_R (fl_R (fl_L (fl_R (fl_R (fl_L (fl_L (fl_0 rfl))))))))))
theorem se_967_79 : eC 967 bs_967 79 ∈ GV := fl_R (fl_L (fl_R (fl_R (fl_R (fl_L (fl_R (fl_R (fl_L (fl_R (fl_0 rfl))))))))))
theorem se_967_80 : eC 967 bs_967 80 ∈ GV := fl_R (fl_L (fl_R (fl_R (fl_R (fl_L (fl_R (fl_R (fl_R (fl_L (fl_0 rfl))))))))))
theorem se_967_81 : eC 967 bs_967 81 ∈ GV := fl_R (fl_L (fl_R (fl_R (fl_R (fl_L (fl_R (fl_R (fl_R (fl_R (fl_0 rfl))))))))))
theorem se_967_82 : eC 967 bs_967 82 ∈ GV := fl_R (fl_L (fl_R (fl_R (fl_R (fl_R (fl_L (fl_L (fl_L (fl_L (fl_0 rfl))))))))))
theorem se_967_83 : eC 967 bs_967 83 ∈ GV := fl_R (fl_L (fl_R (fl_R (fl_R (fl_R (fl_L (fl_L (fl_L (fl_R (fl_0 rfl))))))))))
theorem se_967_84 : eC 967 bs_967 84 ∈ GV := fl_R (fl_L (fl_R (fl_R (fl_R (fl_R (fl_L (fl_L (fl_R (fl_L (fl_0 rfl))))))))))
theorem se_967_85 : eC 967 bs_967 85 ∈ GV := fl_R (fl_L (fl_R (fl_R (fl_R (fl_R (fl_L (fl_L (fl_R (fl_R (fl_0 rfl))))))))))
theorem se_967_86 : eC 967 bs_967 86 ∈ GV := fl_R (fl_L (fl_R (fl_R (fl_R (fl_R (fl_L (fl_R (fl_L (fl_L (fl_0 rfl))))))))))
theorem se_967_87 : eC 967 bs_967 87 ∈ GV := fl_R (fl_L (fl_R (fl_R (fl_R (fl_R (fl_L (fl_R (fl_L (fl_R (fl_0 rfl))))))))))
theorem se_967_88 : eC 967 bs_967 88 ∈ GV := fl_R (fl_L (fl_R (fl_R (fl_R (fl_R (fl_L (fl_R (fl_R (fl_L (fl_0 rfl))))))))))
theorem se_967_89 : eC 967 bs_967 89 ∈ GV := fl_R (fl_L (fl_R (fl_R (fl_R (fl_R (fl_L (fl_R (fl_R (fl_R (fl_0 rfl))))))))))
theorem se_967_90 : eC 967 bs_967 90 ∈ GV := fl_R (fl_L (fl_R (fl_R (fl_R (fl_R (fl_R (fl_L (fl_L (fl_L (fl_0 rfl))))))))))
theorem se_967_91 : eC 967 bs_967 91 ∈ GV := fl_R (fl_L (fl_R (fl_R (fl_R (fl_R (fl_R (fl_L (fl_L (fl_R (fl_0 rfl))))))))))
theorem se_967_92 : eC 967 bs_967 92 ∈ GV := fl_R (fl_L (fl_R (fl_R (fl_R (fl_R (fl_R (fl_L (fl_R (fl_L (fl_0 rfl))))))))))
theorem se_967_93 : eC 967 bs_967 93 ∈ GV := fl_R (fl_L (fl_R (fl_R (fl_R (fl_R (fl_R (fl_L (fl_R (fl_R (fl_0 rfl))))))))))
theorem se_967_94 : eC 967 bs_967 94 ∈ GV := fl_R (fl_L (fl_R (fl_R (fl_R (fl_R (fl_R (fl_R (fl_L (fl_L (fl_0 rfl))))))))))
theorem se_967_95 : eC 967 bs_967 95 ∈ GV := fl_R (fl_L (fl_R (fl_R (fl_R (fl_R (fl_R (fl_R (fl_L (fl_R (fl_0 rfl))))))))))
theorem se_967_96 : eC 967 bs_967 96 ∈ GV := fl_R (fl_L (fl_R (fl_R (fl_R (fl_R (fl_R (fl_R (fl_R (fl_L (fl_0 rfl))))))))))
theorem se_967_97 : eC 967 bs_967 97 ∈ GV := fl_R (fl_L (fl_R (fl_R (fl_R (fl_R (fl_R (fl_R (fl_R (fl_R (fl_L (fl_0 rfl)))))))))))
theorem se_967_98 : eC 967 bs_967 98 ∈ GV := fl_R (fl_L (fl_R (fl_R (fl_R (fl_R (fl_R (fl_R (fl_R (fl_R (fl_R (fl_0 rfl)))))))))))
theorem se_967_99 : eC 967 bs_967 99 ∈ GV := fl_R (fl_R (fl_L (fl_L (fl_L (fl_L (fl_L (fl_L (fl_L (fl_L (fl_0 rfl))))))))))
theorem se_967_100 : eC 967 bs_967 100 ∈ GV := fl_R (fl_R (fl_L (fl_L (fl_L (fl_L (fl_L (fl_L (fl_L (fl_R (fl_0 rfl))))))))))
theorem se_967_101 : eC 967 bs_967 101 ∈ GV := fl_R (fl_R (fl_L (fl_L (fl_L (fl_L (fl_L (fl_L (fl_R (fl_L (fl_0 rfl))))))))))
theorem se_967_102 : eC 967 bs_967 102 ∈ GV := fl_R (fl_R (fl_L (fl_L (fl_L (fl_L (fl_L (fl_L (fl_R (fl_R (fl_0 rfl))))))))))
theorem se_967_103 : eC 967 bs_967 103 ∈ GV := fl_R (fl_R (fl_L (fl_L (fl_L (fl_L (fl_L (fl_R (fl_L (fl_L (fl_0 rfl))))))))))
theorem se_967_104 : eC 967 bs_967 104 ∈ GV := fl_R (fl_R (fl_L (fl_L (fl_L (fl_L (fl_L (fl_R (fl_L (fl_R (fl_0 rfl))))))))))
theorem se_967_105 : eC 967 bs_967 105 ∈ GV := fl_R (fl_R (fl_L (fl_L (fl_L (fl_L (fl_L (fl_R (fl_R (fl_L (fl_0 rfl))))))))))
theorem se_967_106 : eC 967 bs_967 106 ∈ GV := fl_R (fl_R (fl_L (fl_L (fl_L (fl_L (fl_L (fl_R (fl_R (fl_R (fl_0 rfl))))))))))
theorem se_967_107 : eC 967 bs_967 107 ∈ GV := fl_R (fl_R (fl_L (fl_L (fl_L (fl_L (fl_R (fl_L (fl_L (fl_L (fl_0 rfl))))))))))
theorem se_967_108 : eC 967 bs_967 108 ∈ GV := fl_R (fl_R (fl_L (fl_L (fl_L (fl_L (fl_R (fl_L (fl_L (fl_R (fl_0 rfl))))))))))
theorem se_967_109 : eC 967 bs_967 109 ∈ GV := fl_R (fl_R (fl_L (fl_L (fl_L (fl_L (fl_R (fl_L (fl_R (fl_L (fl_0 rfl))))))))))
theorem se_967_110 : eC 967 bs_967 110 ∈ GV := fl_R (fl_R (fl_L (fl_L (fl_L (fl_L (fl_R (fl_L (fl_R (fl_R (fl_0 rfl))))))))))
theorem se_967_111 : eC 967 bs_967 111 ∈ GV := fl_R (fl_R (fl_L (fl_L (fl_L (fl_L (fl_R (fl_R (fl_L (fl_L (fl_0 rfl))))))))))
theorem se_967_112 : eC 967 bs_967 112 ∈ GV := fl_R (fl_R (fl_L (fl_L (fl_L (fl_L (fl_R (fl_R (fl_L (fl_R (fl_0 rfl))))))))))
theorem se_967_113 : eC 967 bs_967 113 ∈ GV := fl_R (fl_R (fl_L (fl_L (fl_L (fl_L (fl_R (fl_R (fl_R (fl_L (fl_0 rfl))))))))))
theorem se_967_114 : eC 967 bs_967 114 ∈ GV := fl_R (fl_R (fl_L (fl_L (fl_L (fl_L (fl_R (fl_R (fl_R (fl_R (fl_0 rfl))))))))))
theorem se_967_115 : eC 967 bs_967 115 ∈ GV := fl_R (fl_R (fl_L (fl_L (fl_L (fl_R (fl_L (fl_L (fl_L (fl_L (fl_0 rfl))))))))))
theorem se_967_116 : eC 967 bs_967 116 ∈ GV := fl_R (fl_R (fl_L (fl_L (fl_L (fl_R (fl_L (fl_L (fl_L (fl_R (fl_0 rfl))))))))))
theorem se_967_117 : eC 967 bs_967 117 ∈ GV := fl_R (fl_R (fl_L (fl_L (fl_L (fl_R (fl_L (fl_L (fl_R (fl_L (fl_0 rfl))))))))))
theorem se_967_118 : eC 967 bs_967 118 ∈ GV := fl_R (fl_R (fl_L (fl_L (fl_L (fl_R (fl_L (fl_L (fl_R (fl_R (fl_0 rfl))))))))))
theorem se_967_119 : eC 967 bs_967 119 ∈ GV := fl_R (fl_R (fl_L (fl_L (fl_L (fl_R (fl_L (fl_R (fl_L (fl_L (fl_0 rfl))))))))))
theorem se_967_120 : eC 967 bs_967 120 ∈ GV := fl_R (fl_R (fl_L (fl_L (fl_L (fl_R (fl_L (fl_R (fl_L (fl_R (fl_0 rfl))))))))))
theorem se_967_121 : eC 967 bs_967 121 ∈ GV := fl_R (fl_R (fl_L (fl_L (fl_L (fl_R (fl_L (fl_R (fl_R (fl_L (fl_0 rfl))))))))))
theorem se_967_122 : eC 967 bs_967 122 ∈ GV := fl_R (fl_R (fl_L (fl_L (fl_L (fl_R (fl_L (fl_R (fl_R (fl_R (fl_0 rfl))))))))))
set_option maxRecDepth 100000 in
theorem sa_967 : ∀ j ∈ [0, 1, 2, 3, 4, 5, 6, 7, 8, 9, 10, 11, 12, 13, 14, 15, 16, 17, 18, 19, 20, 21, 22, 23, 24, 25, 26, 27, 28, 29, 30, 31, 32, 33, 34, 35, 36, 37, 38, 39, 40, 41, 42, 43, 44, 45, 46, 47, 48, 49, 50, 51, 52, 53, 54, 55, 56, 57, 58, 59, 60, 61, 62, 63, 64, 65, 66, 67, 68, 69, 70, 71, 72, 73, 74, 75, 76, 77, 78, 79, 80, 81, 82, 83, 84, 85, 86, 87, 88, 89, 90, 91, 92, 93, 94, 95, 96, 97, 98, 99, 100, 101, 102, 103, 104, 105, 106, 107, 108, 109, 110, 111, 112, 113, 114, 115, 116, 117, 118, 119, 120, 121, 122], eC 967 bs_967 j ∈ GV := List.forall_mem_cons.mpr ⟨se_967_0, List.forall_mem_cons.mpr ⟨se_967_1, List.forall_mem_cons.mpr ⟨se_967_2, List.forall_mem_cons.mpr ⟨se_967_3, List.forall_mem_cons.mpr ⟨se_967_4, List.forall_mem_cons.mpr ⟨se_967_5, List.forall_mem_cons.mpr ⟨se_967_6, List.forall_mem_cons.mpr ⟨se_967_7, List.forall_mem_cons.mpr ⟨se_967_8, List.forall_mem_cons.mpr ⟨se_967_9, List.forall_mem_cons.mpr ⟨se_967_10, List.forall_mem_cons.mpr ⟨se_967_11, List.forall_mem_cons.mpr ⟨se_967_12, List.forall_mem_cons.mpr ⟨se_967_13, List.forall_mem_cons.mpr ⟨se_967_14, List.forall_mem_cons.mpr ⟨se_967_15, List.forall_mem_cons.mpr ⟨se_967_16, List.forall_mem_cons.mpr ⟨se_967_17, List.forall_mem_cons.mpr ⟨se_967_18, List.forall_mem_cons.mpr ⟨se_967_19, List.forall_mem_cons.mpr ⟨se_967_20, List.forall_mem_cons.mpr ⟨se_967_21, List.forall_mem_cons.mpr ⟨se_967_22, List.forall_mem_cons.mpr ⟨se_967_23, List.forall_mem_cons.mpr ⟨se_967_24, List.forall_mem_cons.mpr ⟨se_967_25, List.forall_mem_cons.mpr ⟨se_967_26, List.forall_mem_cons.mpr ⟨se_967_27, List.forall_mem_cons.mpr ⟨se_967_28, List.forall_mem_cons.mpr ⟨se_967_29, List.forall_mem_cons.mpr ⟨se_967_30, List.forall_mem_cons.mpr ⟨se_967_31, List.forall_mem_cons.mpr ⟨se_967_32, List.forall_mem_cons.mpr ⟨se_967_33, List.forall_mem_cons.mpr ⟨se_967_34, List.forall_mem_cons.mpr ⟨se_967_35, List.forall_mem_cons.mpr ⟨se_967_36, List.forall_mem_cons.mpr ⟨se_967_37, List.forall_mem_cons.mpr ⟨se_967_38, List.forall_mem_cons.mpr ⟨se_967_39, List.forall_mem_cons.mpr ⟨se_967_40, List.forall_mem_cons.mpr ⟨se_967_41, List.forall_mem_cons.mpr ⟨se_967_42, List.forall_mem_cons.mpr ⟨se_967_43, List.forall_mem_cons.mpr ⟨se_967_44, List.forall_mem_cons.mpr ⟨se_967_45, List.forall_mem_cons.mpr ⟨se_967_46, List.forall_mem_cons.mpr ⟨se_967_47, List.forall_mem_cons.mpr ⟨se_967_48, List.forall_mem_cons.mpr ⟨se_967_49, List.forall_mem_cons.mpr ⟨se_967_50, List.forall_mem_cons.mpr ⟨se_967_51, List.forall_mem_cons.mpr ⟨se_967_52, List.forall_mem_cons.mpr ⟨se_967_53, List.forall_mem_cons.mpr ⟨se_967_54, List.forall_mem_cons.mpr ⟨se_967_55, List.forall_mem_cons.mpr ⟨se_967_56, List.forall_mem_cons.mpr ⟨se_967_57, List.forall_mem_cons.mpr ⟨se_967_58, List.forall_mem_cons.mpr ⟨se_967_59, List.forall_mem_cons.mpr ⟨se_967_60, List.forall_mem_cons.mpr ⟨se_967_61, List.forall_mem_cons.mpr ⟨se_967_62, List.forall_mem_cons.mpr ⟨se_967_63, List.forall_mem_cons.mpr ⟨se_967_64, List.forall_mem_cons.mpr ⟨se_967_65, List.forall_mem_cons.mpr ⟨se_967_66, List.forall_mem_cons.mpr ⟨se_967_67, List.forall_mem_cons.mpr ⟨se_967_68, List.forall_mem_cons.mpr ⟨se_967_69, List.forall_mem_cons.mpr ⟨se_967_70, List.forall_mem_cons.mpr ⟨se_967_71, List.forall_mem_cons.mpr ⟨se_967_72, List.forall_mem_cons.mpr ⟨se_967_73, List.forall_mem_cons.mpr ⟨se_967_74, List.forall_mem_cons.mpr ⟨se_967_75, List.forall_mem_cons.mpr ⟨se_967_76, List.forall_mem_cons.mpr ⟨se_967_77, List.forall_mem_cons.mpr ⟨se_967_78, List.forall_mem_cons.mpr ⟨se_967_79, List.forall_mem_cons.mpr ⟨se_967_80, List.forall_mem_cons.mpr ⟨se_967_81, List.forall_mem_cons.mpr ⟨se_967_82, List.forall_mem_cons.mpr ⟨se_967_83, List.forall_mem_cons.mpr ⟨se_967_84, List.forall_mem_cons.mpr ⟨se_967_85, List.forall_mem_cons.mpr ⟨se_967_86, List.forall_mem_cons.mpr ⟨se_967_87, List.forall_mem_cons.mpr ⟨se_967_88, List.forall_mem_cons.mpr ⟨se_967_89, List.forall_mem_cons.mpr ⟨se_967_90, List.forall_mem_cons.mpr ⟨se_967_91, List.forall_mem_cons.mpr ⟨se_967_92, List.forall_mem_cons.mpr ⟨se_967_93, List.forall_mem_cons.mpr ⟨se_967_94, List.forall_mem_cons.mpr ⟨se_967_95, List.forall_mem_cons.mpr ⟨se_967_96, List.forall_mem_cons.mpr ⟨se_967_97, List.forall_mem_cons.mpr ⟨se_967_98, List.forall_mem_cons.mpr ⟨se_967_99, List.forall_mem_cons.mpr ⟨se_967_100, List.forall_mem_cons.mpr ⟨se_967_101, List.forall_mem_cons.mpr ⟨se_967_102, List.forall_mem_cons.mpr ⟨se_967_103, List.forall_mem_cons.mpr ⟨se_967_104, List.forall_mem_cons.mpr ⟨se_967_105, List.forall_mem_cons.mpr ⟨se_967_106, List.forall_mem_cons.mpr ⟨se_967_107, List.forall_mem_cons.mpr ⟨se_967_108, List.forall_mem_cons.mpr ⟨se_967_109, List.forall_mem_cons.mpr ⟨se_967_110, List.forall_mem_cons.mpr ⟨se_967_111, List.forall_mem_cons.mpr ⟨se_967_112, List.forall_mem_cons.mpr ⟨se_967_113, List.forall_mem_cons.mpr ⟨se_967_114, List.forall_mem_cons.mpr ⟨se_967_115, List.forall_mem_cons.mpr ⟨se_967_116, List.forall_mem_cons.mpr ⟨se_967_117, List.forall_mem_cons.mpr ⟨se_967_118, List.forall_mem_cons.mpr ⟨se_967_119, List.forall_mem_cons.mpr ⟨se_967_120, List.forall_mem_cons.mpr ⟨se_967_121, List.forall_mem_cons.mpr ⟨se_967_122, (fun _ h => nomatch h)⟩⟩⟩⟩⟩⟩⟩⟩⟩⟩⟩⟩⟩⟩⟩⟩⟩⟩⟩⟩⟩⟩⟩⟩⟩⟩⟩⟩⟩⟩⟩⟩⟩⟩⟩⟩⟩⟩⟩⟩⟩⟩⟩⟩⟩⟩⟩⟩⟩⟩⟩⟩⟩⟩⟩⟩⟩⟩⟩⟩⟩⟩⟩⟩⟩⟩⟩⟩⟩⟩⟩⟩⟩⟩⟩⟩⟩⟩⟩⟩⟩⟩⟩⟩⟩⟩⟩⟩⟩⟩⟩⟩⟩⟩⟩⟩⟩⟩⟩⟩⟩⟩⟩⟩⟩⟩⟩⟩⟩⟩⟩⟩⟩⟩⟩⟩⟩⟩⟩⟩⟩⟩⟩
theorem sq_967 {b : Addr} {s : State} {A : Nat → Prop} (htsT : ∀ w ∈ lw_tbl, w.before #[Value.ref b] s = true) (hg : ∀ w ∈ GV, w.before #[Value.ref b] s = true) (hA : ∀ a : Nat, a < s.heap.size → ¬ A a) : ∃ k v : Nat, vk_R RX16 967 " source lag filter map union fold by span step gap join within look match then unique top output count sum least most time " k s ∧ SF k v (967, " source lag filter map union fold by span step gap join within look match then unique top output count sum least most time ", bs_967) A s s.heap :=
  sq_of (bs := bs_967) (by decide) (htsT (.stringRef RX16 967 " source lag filter map union fold by span step gap join within look match then unique top output count sum least most time ") (tb_8 _ (List.mem_of_getElem? (i := 184) rfl))) (hg (Cond.exactly (.string "StreamHouseModel" 967) "java/lang/String") (fl_R (fl_L (fl_R (fl_L (fl_L (fl_R (fl_R (fl_L (fl_R (fl_L (fl_0 rfl)))))))))))) (hg (Cond.eq (.field (.string "StreamHouseModel" 967) "java/lang/String" "coder" "B") (.int 0)) (fl_R (fl_L (fl_R (fl_L (fl_L (fl_R (fl_R (fl_L (fl_R (fl_R (fl_0 rfl)))))))))))) (hg (Cond.arrayOf (.field (.string "StreamHouseModel" 967) "java/lang/String" "value" "[B") .byte) (fl_R (fl_L (fl_R (fl_L (fl_L (fl_R (fl_R (fl_R (fl_L (fl_L (fl_0 rfl)))))))))))) (hg (Cond.eq (.length (.field (.string "StreamHouseModel" 967) "java/lang/String" "value" "[B")) (.int 123)) (fl_R (fl_L (fl_R (fl_L (fl_L (fl_R (fl_R (fl_R (fl_L (fl_R (fl_0 rfl)))))))))))) (fun j hj => hg _ (sa_967 j (by rw [← er_123]; exact List.mem_range.mpr hj))) hA
theorem st_of {b : Addr} {s : State} {A : Nat → Prop} (htsT : ∀ w ∈ lw_tbl, w.before #[Value.ref b] s = true) (hg : ∀ w ∈ GV, w.before #[Value.ref b] s = true) (hA : ∀ a : Nat, a < s.heap.size → ¬ A a) : ∀ q ∈ stL, ∃ k v : Nat, vk_R RX16 q.1 q.2.1 k s ∧ SF k v q A s s.heap :=
  List.forall_mem_cons.mpr ⟨sq_69 htsT hg hA, List.forall_mem_cons.mpr ⟨sq_162 htsT hg hA, List.forall_mem_cons.mpr ⟨sq_198 htsT hg hA, List.forall_mem_cons.mpr ⟨sq_237 htsT hg hA, List.forall_mem_cons.mpr ⟨sq_244 htsT hg hA, List.forall_mem_cons.mpr ⟨sq_249 htsT hg hA, List.forall_mem_cons.mpr ⟨sq_252 htsT hg hA, List.forall_mem_cons.mpr ⟨sq_254 htsT hg hA, List.forall_mem_cons.mpr ⟨sq_256 htsT hg hA, List.forall_mem_cons.mpr ⟨sq_257 htsT hg hA, List.forall_mem_cons.mpr ⟨sq_259 htsT hg hA, List.forall_mem_cons.mpr ⟨sq_267 htsT hg hA, List.forall_mem_cons.mpr ⟨sq_268 htsT hg hA, List.forall_mem_cons.mpr ⟨sq_270 htsT hg hA, List.forall_mem_cons.mpr ⟨sq_272 htsT hg hA, List.forall_mem_cons.mpr ⟨sq_275 htsT hg hA, List.forall_mem_cons.mpr ⟨sq_277 htsT hg hA, List.forall_mem_cons.mpr ⟨sq_281 htsT hg hA, List.forall_mem_cons.mpr ⟨sq_283 htsT hg hA, List.forall_mem_cons.mpr ⟨sq_287 htsT hg hA, List.forall_mem_cons.mpr ⟨sq_291 htsT hg hA, List.forall_mem_cons.mpr ⟨sq_295 htsT hg hA, List.forall_mem_cons.mpr ⟨sq_304 htsT hg hA, List.forall_mem_cons.mpr ⟨sq_306 htsT hg hA, List.forall_mem_cons.mpr ⟨sq_310 htsT hg hA, List.forall_mem_cons.mpr ⟨sq_312 htsT hg hA, List.forall_mem_cons.mpr ⟨sq_319 htsT hg hA, List.forall_mem_cons.mpr ⟨sq_967 htsT hg hA, (fun _ h => nomatch h)⟩⟩⟩⟩⟩⟩⟩⟩⟩⟩⟩⟩⟩⟩⟩⟩⟩⟩⟩⟩⟩⟩⟩⟩⟩⟩⟩⟩
theorem stL_nd : (stL.map (fun q => q.1)).Nodup ∧ ∀ q ∈ stL, q.1 < 1000 := by decide +kernel
def kwL : List Int64 := [126922548994917, 7102823, 112602977166706, 7168368, 504363577198, 1718578276, 25209, 1936744814, 1937007984, 6775152, 1785686382, 131294808271214, 1819242347, 469786452840, 1952998766, 129117075895653, 7630704, 122550255383924, 427071729268, 7566701, 465557353332, 1836020596, 1953066341]
abbrev kC (j : Nat) : Cond := Cond.eq (.elem (.static "StreamHouse$Parser" "KEYWORDS" "[J") (.int (Int32.ofNat j))) (.long (kwL.getD j 0))
theorem ke_0 : kC 0 ∈ GV := fl_R (fl_L (fl_L (fl_L (fl_L (fl_L (fl_L (fl_R (fl_R (fl_R (fl_0 rfl))))))))))
theorem ke_1 : kC 1 ∈ GV := fl_R (fl_L (fl_L (fl_L (fl_L (fl_L (fl_R (fl_L (fl_L (fl_L (fl_0 rfl))))))))))
theorem ke_2 : kC 2 ∈ GV := fl_R (fl_L (fl_L (fl_L (fl_L (fl_L (fl_R (fl_L (fl_L (fl_R (fl_0 rfl))))))))))
theorem ke_3 : kC 3 ∈ GV := fl_R (fl_L (fl_L (fl_L (fl_L (fl_L (fl_R (fl_L (fl_R (fl_L (fl_0 rfl))))))))))
theorem ke_4 : kC 4 ∈ GV := fl_R (fl_L (fl_L (fl_L (fl_L (fl_L (fl_R (fl_L (fl_R (fl_R (fl_0 rfl))))))))))
theorem ke_5 : kC 5 ∈ GV := fl_R (fl_L (fl_L (fl_L (fl_L (fl_L (fl_R (fl_R (fl_L (fl_L (fl_0 rfl))))))))))
theorem ke_6 : kC 6 ∈ GV := fl_R (fl_L (fl_L (fl_L (fl_L (fl_L (fl_R (fl_R (fl_L (fl_R (fl_0 rfl))))))))))
theorem ke_7 : kC 7 ∈ GV := fl_R (fl_L (fl_L (fl_L (fl_L (fl_L (fl_R (fl_R (fl_R (fl_L (fl_0 rfl))))))))))
theorem ke_8 : kC 8 ∈ GV := fl_R (fl_L (fl_L (fl_L (fl_L (fl_L (fl_R (fl_R (fl_R (fl_R (fl_0 rfl))))))))))
theorem ke_9 : kC 9 ∈ GV := fl_R (fl_L (fl_L (fl_L (fl_L (fl_R (fl_L (fl_L (fl_L (fl_L (fl_0 rfl))))))))))
theorem ke_10 : kC 10 ∈ GV := fl_R (fl_L (fl_L (fl_L (fl_L (fl_R (fl_L (fl_L (fl_L (fl_R (fl_0 rfl))))))))))
theorem ke_11 : kC 11 ∈ GV := fl_R (fl_L (fl_L (fl_L (fl_L (fl_R (fl_L (fl_L (fl_R (fl_L (fl_0 rfl))))))))))
theorem ke_12 : kC 12 ∈ GV := fl_R (fl_L (fl_L (fl_L (fl_L (fl_R (fl_L (fl_L (fl_R (fl_R (fl_0 rfl))))))))))
theorem ke_13 : kC 13 ∈ GV := fl_R (fl_L (fl_L (fl_L (fl_L (fl_R (fl_L (fl_R (fl_L (fl_L (fl_0 rfl))))))))))
theorem ke_14 : kC 14 ∈ GV := fl_R (fl_L (fl_L (fl_L (fl_L (fl_R (fl_L (fl_R (fl_L (fl_R (fl_0 rfl))))))))))
theorem ke_15 : kC 15 ∈ GV := fl_R (fl_L (fl_L (fl_L (fl_L (fl_R (fl_L (fl_R (fl_R (fl_L (fl_0 rfl))))))))))
theorem ke_16 : kC 16 ∈ GV := fl_R (fl_L (fl_L (fl_L (fl_L (fl_R (fl_L (fl_R (fl_R (fl_R (fl_0 rfl))))))))))
theorem ke_17 : kC 17 ∈ GV := fl_R (fl_L (fl_L (fl_L (fl_L (fl_R (fl_R (fl_L (fl_L (fl_L (fl_0 rfl))))))))))
theorem ke_18 : kC 18 ∈ GV := fl_R (fl_L (fl_L (fl_L (fl_L (fl_R (fl_R (fl_L (fl_L (fl_R (fl_0 rfl))))))))))
theorem ke_19 : kC 19 ∈ GV := fl_R (fl_L (fl_L (fl_L (fl_L (fl_R (fl_R (fl_L (fl_R (fl_L (fl_0 rfl))))))))))
theorem ke_20 : kC 20 ∈ GV := fl_R (fl_L (fl_L (fl_L (fl_L (fl_R (fl_R (fl_L (fl_R (fl_R (fl_0 rfl))))))))))
theorem ke_21 : kC 21 ∈ GV := fl_R (fl_L (fl_L (fl_L (fl_L (fl_R (fl_R (fl_R (fl_L (fl_L (fl_0 rfl))))))))))
theorem ke_22 : kC 22 ∈ GV := fl_R (fl_L (fl_L (fl_L (fl_L (fl_R (fl_R (fl_R (fl_L (fl_R (fl_0 rfl))))))))))
theorem er_23 : List.range 23 = [0, 1, 2, 3, 4, 5, 6, 7, 8, 9, 10, 11, 12, 13, 14, 15, 16, 17, 18, 19, 20, 21, 22] := by decide
theorem ka : ∀ j ∈ [0, 1, 2, 3, 4, 5, 6, 7, 8, 9, 10, 11, 12, 13, 14, 15, 16, 17, 18, 19, 20, 21, 22], kC j ∈ GV := List.forall_mem_cons.mpr ⟨ke_0, List.forall_mem_cons.mpr ⟨ke_1, List.forall_mem_cons.mpr ⟨ke_2, List.forall_mem_cons.mpr ⟨ke_3, List.forall_mem_cons.mpr ⟨ke_4, List.forall_mem_cons.mpr ⟨ke_5, List.forall_mem_cons.mpr ⟨ke_6, List.forall_mem_cons.mpr ⟨ke_7, List.forall_mem_cons.mpr ⟨ke_8, List.forall_mem_cons.mpr ⟨ke_9, List.forall_mem_cons.mpr ⟨ke_10, List.forall_mem_cons.mpr ⟨ke_11, List.forall_mem_cons.mpr ⟨ke_12, List.forall_mem_cons.mpr ⟨ke_13, List.forall_mem_cons.mpr ⟨ke_14, List.forall_mem_cons.mpr ⟨ke_15, List.forall_mem_cons.mpr ⟨ke_16, List.forall_mem_cons.mpr ⟨ke_17, List.forall_mem_cons.mpr ⟨ke_18, List.forall_mem_cons.mpr ⟨ke_19, List.forall_mem_cons.mpr ⟨ke_20, List.forall_mem_cons.mpr ⟨ke_21, List.forall_mem_cons.mpr ⟨ke_22, (fun _ h => nomatch h)⟩⟩⟩⟩⟩⟩⟩⟩⟩⟩⟩⟩⟩⟩⟩⟩⟩⟩⟩⟩⟩⟩⟩
theorem fx_of {b : Addr} {s : State} (htsT : ∀ w ∈ lw_tbl, w.before #[Value.ref b] s = true) (hg : ∀ w ∈ GV, w.before #[Value.ref b] s = true) : FX s :=
  ⟨List.forall_mem_cons.mpr ⟨va_Nw.of rfl (htsT _ (tb_1 _ (List.mem_of_getElem? (i := 44) rfl))), List.forall_mem_cons.mpr ⟨va_Nw.of rfl (htsT _ (tb_1 _ (List.mem_of_getElem? (i := 89) rfl))), List.forall_mem_cons.mpr ⟨va_Nw.of rfl (htsT _ (tb_2 _ (List.mem_of_getElem? (i := 32) rfl))), List.forall_mem_cons.mpr ⟨va_Nw.of rfl (htsT _ (tb_2 _ (List.mem_of_getElem? (i := 56) rfl))), List.forall_mem_cons.mpr ⟨va_Nw.of rfl (htsT _ (tb_2 _ (List.mem_of_getElem? (i := 105) rfl))), List.forall_mem_cons.mpr ⟨va_Nw.of rfl (htsT _ (tb_2 _ (List.mem_of_getElem? (i := 114) rfl))), List.forall_mem_cons.mpr ⟨va_Nw.of rfl (htsT _ (tb_2 _ (List.mem_of_getElem? (i := 147) rfl))), List.forall_mem_cons.mpr ⟨va_Nw.of rfl (htsT _ (tb_3 _ (List.mem_of_getElem? (i := 10) rfl))), List.forall_mem_cons.mpr ⟨va_Nw.of rfl (htsT _ (tb_3 _ (List.mem_of_getElem? (i := 15) rfl))), List.forall_mem_cons.mpr ⟨va_Nw.of rfl (htsT _ (tb_3 _ (List.mem_of_getElem? (i := 93) rfl))), List.forall_mem_cons.mpr ⟨va_Nw.of rfl (htsT _ (tb_3 _ (List.mem_of_getElem? (i := 95) rfl))), List.forall_mem_cons.mpr ⟨va_Nw.of rfl (htsT _ (tb_5 _ (List.mem_of_getElem? (i := 113) rfl))), List.forall_mem_cons.mpr ⟨va_Nw.of rfl (htsT _ (tb_5 _ (List.mem_of_getElem? (i := 116) rfl))), List.forall_mem_cons.mpr ⟨va_Nw.of rfl (htsT _ (tb_5 _ (List.mem_of_getElem? (i := 126) rfl))), List.forall_mem_cons.mpr ⟨va_Nw.of rfl (htsT _ (tb_5 _ (List.mem_of_getElem? (i := 134) rfl))), List.forall_mem_cons.mpr ⟨va_Nw.of rfl (htsT _ (tb_5 _ (List.mem_of_getElem? (i := 139) rfl))), List.forall_mem_cons.mpr ⟨va_Nw.of rfl (htsT _ (tb_5 _ (List.mem_of_getElem? (i := 232) rfl))), List.forall_mem_cons.mpr ⟨va_Nw.of rfl (htsT _ (tb_6 _ (List.mem_of_getElem? (i := 9) rfl))), List.forall_mem_cons.mpr ⟨va_Nw.of rfl (htsT _ (tb_6 _ (List.mem_of_getElem? (i := 133) rfl))), List.forall_mem_cons.mpr ⟨va_Nw.of rfl (htsT _ (tb_8 _ (List.mem_of_getElem? (i := 82) rfl))), (fun _ h => nomatch h)⟩⟩⟩⟩⟩⟩⟩⟩⟩⟩⟩⟩⟩⟩⟩⟩⟩⟩⟩⟩,
   List.forall_mem_cons.mpr ⟨va_Nw.of rfl (htsT _ (tb_8 _ (List.mem_of_getElem? (i := 87) rfl))), List.forall_mem_cons.mpr ⟨va_Nw.of rfl (htsT _ (tb_8 _ (List.mem_of_getElem? (i := 89) rfl))), List.forall_mem_cons.mpr ⟨va_Nw.of rfl (htsT _ (tb_8 _ (List.mem_of_getElem? (i := 91) rfl))), List.forall_mem_cons.mpr ⟨va_Nw.of rfl (htsT _ (tb_8 _ (List.mem_of_getElem? (i := 93) rfl))), List.forall_mem_cons.mpr ⟨va_Nw.of rfl (htsT _ (tb_8 _ (List.mem_of_getElem? (i := 95) rfl))), List.forall_mem_cons.mpr ⟨va_Nw.of rfl (htsT _ (tb_8 _ (List.mem_of_getElem? (i := 97) rfl))), List.forall_mem_cons.mpr ⟨va_Nw.of rfl (htsT _ (tb_8 _ (List.mem_of_getElem? (i := 99) rfl))), List.forall_mem_cons.mpr ⟨va_Nw.of rfl (htsT _ (tb_8 _ (List.mem_of_getElem? (i := 101) rfl))), List.forall_mem_cons.mpr ⟨va_Nw.of rfl (htsT _ (tb_8 _ (List.mem_of_getElem? (i := 103) rfl))), List.forall_mem_cons.mpr ⟨va_Nw.of rfl (htsT _ (tb_8 _ (List.mem_of_getElem? (i := 105) rfl))), List.forall_mem_cons.mpr ⟨va_Nw.of rfl (htsT _ (tb_8 _ (List.mem_of_getElem? (i := 107) rfl))), List.forall_mem_cons.mpr ⟨va_Nw.of rfl (htsT _ (tb_8 _ (List.mem_of_getElem? (i := 109) rfl))), List.forall_mem_cons.mpr ⟨va_Nw.of rfl (htsT _ (tb_8 _ (List.mem_of_getElem? (i := 111) rfl))), List.forall_mem_cons.mpr ⟨va_Nw.of rfl (htsT _ (tb_8 _ (List.mem_of_getElem? (i := 113) rfl))), List.forall_mem_cons.mpr ⟨va_Nw.of rfl (htsT _ (tb_8 _ (List.mem_of_getElem? (i := 115) rfl))), List.forall_mem_cons.mpr ⟨va_Nw.of rfl (htsT _ (tb_8 _ (List.mem_of_getElem? (i := 117) rfl))), List.forall_mem_cons.mpr ⟨va_Nw.of rfl (htsT _ (tb_8 _ (List.mem_of_getElem? (i := 119) rfl))), List.forall_mem_cons.mpr ⟨va_Nw.of rfl (htsT _ (tb_8 _ (List.mem_of_getElem? (i := 121) rfl))), List.forall_mem_cons.mpr ⟨va_Nw.of rfl (htsT _ (tb_8 _ (List.mem_of_getElem? (i := 123) rfl))), (fun _ h => nomatch h)⟩⟩⟩⟩⟩⟩⟩⟩⟩⟩⟩⟩⟩⟩⟩⟩⟩⟩⟩,
   List.forall_mem_cons.mpr ⟨va_Nw.of rfl (htsT _ (tb_4 _ (List.mem_of_getElem? (i := 57) rfl))), List.forall_mem_cons.mpr ⟨va_Nw.of rfl (htsT _ (tb_3 _ (List.mem_of_getElem? (i := 207) rfl))), List.forall_mem_cons.mpr ⟨va_Nw.of rfl (htsT _ (tb_5 _ (List.mem_of_getElem? (i := 69) rfl))), List.forall_mem_cons.mpr ⟨va_Nw.of rfl (htsT _ (tb_4 _ (List.mem_of_getElem? (i := 34) rfl))), List.forall_mem_cons.mpr ⟨va_Nw.of rfl (htsT _ (tb_8 _ (List.mem_of_getElem? (i := 59) rfl))), List.forall_mem_cons.mpr ⟨va_Nw.of rfl (htsT _ (tb_8 _ (List.mem_of_getElem? (i := 169) rfl))), (fun _ h => nomatch h)⟩⟩⟩⟩⟩⟩,
   List.forall_mem_cons.mpr ⟨va_Nw.of rfl (htsT _ (tb_3 _ (List.mem_of_getElem? (i := 208) rfl))), List.forall_mem_cons.mpr ⟨va_Nw.of rfl (htsT _ (tb_3 _ (List.mem_of_getElem? (i := 210) rfl))), List.forall_mem_cons.mpr ⟨va_Nw.of rfl (htsT _ (tb_3 _ (List.mem_of_getElem? (i := 212) rfl))), (fun _ h => nomatch h)⟩⟩⟩,
   List.forall_mem_cons.mpr ⟨va_AO.of (htsT _ (tb_2 _ (List.mem_of_getElem? (i := 61) rfl))), List.forall_mem_cons.mpr ⟨va_AO.of (htsT _ (tb_2 _ (List.mem_of_getElem? (i := 104) rfl))), List.forall_mem_cons.mpr ⟨va_AO.of (htsT _ (tb_2 _ (List.mem_of_getElem? (i := 112) rfl))), List.forall_mem_cons.mpr ⟨va_AO.of (htsT _ (tb_1 _ (List.mem_of_getElem? (i := 85) rfl))), (fun _ h => nomatch h)⟩⟩⟩⟩,
   List.forall_mem_cons.mpr ⟨va_Nc.of (hg (Cond.not (.castable "java/lang/IllegalStateException" "java/lang/IndexOutOfBoundsException")) (fl_R (fl_L (fl_L (fl_R (fl_R (fl_R (fl_L (fl_L (fl_L (fl_L (fl_0 rfl)))))))))))), List.forall_mem_cons.mpr ⟨va_Nc.of (hg (Cond.not (.castable "java/lang/IllegalArgumentException" "java/lang/IllegalStateException")) (fl_R (fl_L (fl_L (fl_R (fl_L (fl_R (fl_R (fl_L (fl_R (fl_L (fl_0 rfl)))))))))))), List.forall_mem_cons.mpr ⟨va_Nc.of (hg (Cond.not (.castable "java/lang/IllegalStateException" "java/lang/IllegalArgumentException")) (fl_R (fl_L (fl_L (fl_L (fl_R (fl_R (fl_L (fl_L (fl_R (fl_R (fl_0 rfl)))))))))))), List.forall_mem_cons.mpr ⟨va_Nc.of (hg (Cond.not (.castable "java/lang/IllegalStateException" "java/lang/UnsupportedOperationException")) (fl_R (fl_L (fl_L (fl_R (fl_L (fl_L (fl_L (fl_R (fl_R (fl_R (fl_0 rfl)))))))))))), List.forall_mem_cons.mpr ⟨va_Nc.of (hg (Cond.not (.castable "java/lang/IllegalArgumentException" "java/lang/IndexOutOfBoundsException")) (fl_R (fl_L (fl_L (fl_R (fl_R (fl_L (fl_R (fl_R (fl_R (fl_L (fl_0 rfl)))))))))))), List.forall_mem_cons.mpr ⟨va_Nc.of (hg (Cond.not (.castable "java/lang/IllegalArgumentException" "java/lang/UnsupportedOperationException")) (fl_R (fl_L (fl_L (fl_R (fl_L (fl_L (fl_L (fl_R (fl_R (fl_L (fl_0 rfl)))))))))))), List.forall_mem_cons.mpr ⟨va_Nc.of (hg (Cond.not (.castable "java/lang/IndexOutOfBoundsException" "java/lang/IllegalStateException")) (fl_R (fl_L (fl_L (fl_R (fl_L (fl_R (fl_R (fl_R (fl_L (fl_L (fl_0 rfl)))))))))))), List.forall_mem_cons.mpr ⟨va_Nc.of (hg (Cond.not (.castable "java/lang/IndexOutOfBoundsException" "java/lang/IllegalArgumentException")) (fl_R (fl_L (fl_L (fl_L (fl_R (fl_R (fl_L (fl_R (fl_L (fl_L (fl_0 rfl)))))))))))), List.forall_mem_cons.mpr ⟨va_Nc.of (hg (Cond.not (.castable "java/lang/IndexOutOfBoundsException" "java/lang/UnsupportedOperationException")) (fl_R (fl_L (fl_L (fl_R (fl_L (fl_L (fl_R (fl_L (fl_L (fl_L (fl_0 rfl)))))))))))), List.forall_mem_cons.mpr ⟨va_Nc.of (hg (Cond.not (.castable "java/lang/UnsupportedOperationException" "java/lang/IllegalStateException")) (fl_R (fl_L (fl_L (fl_R (fl_L (fl_R (fl_R (fl_L (fl_R (fl_R (fl_0 rfl)))))))))))), List.forall_mem_cons.mpr ⟨va_Nc.of (hg (Cond.not (.castable "java/lang/UnsupportedOperationException" "java/lang/IllegalArgumentException")) (fl_R (fl_L (fl_L (fl_L (fl_R (fl_R (fl_L (fl_L (fl_R (fl_L (fl_0 rfl)))))))))))), List.forall_mem_cons.mpr ⟨va_Nc.of (hg (Cond.not (.castable "java/lang/UnsupportedOperationException" "java/lang/IndexOutOfBoundsException")) (fl_R (fl_L (fl_L (fl_R (fl_R (fl_L (fl_R (fl_R (fl_R (fl_R (fl_0 rfl)))))))))))), (fun _ h => nomatch h)⟩⟩⟩⟩⟩⟩⟩⟩⟩⟩⟩⟩,
   va_AOA.of (htsT _ (tb_1 _ (List.mem_of_getElem? (i := 87) rfl)))⟩
theorem kw_of {b : Addr} {s : State} (htsT : ∀ w ∈ lw_tbl, w.before #[Value.ref b] s = true) (hg : ∀ w ∈ GV, w.before #[Value.ref b] s = true) {A : Nat → Prop} (hA : ∀ a : Nat, a < s.heap.size → ¬ A a) : ∃ t : Nat, va_Z "StreamHouse$Parser" "KEYWORDS" "[J" (.ref t) A s s.heap ∧ ∃ f : Nat → Int64, va_T .long t 23 (fun j => .long (f j)) A s s.heap := by
  obtain ⟨t, h1, h2⟩ := va_Tof (args := #[Value.ref b]) (s := s) (tm := .static "StreamHouse$Parser" "KEYWORDS" "[J") (ty := .long) (N := 23) (f := fun j => .long (kwL.getD j 0)) (A := A) (by decide) (hg (Cond.arrayOf (.static "StreamHouse$Parser" "KEYWORDS" "[J") .long) (fl_R (fl_L (fl_L (fl_L (fl_L (fl_L (fl_L (fl_R (fl_L (fl_R (fl_0 rfl)))))))))))) (va_eqt (hg (Cond.eq (.length (.static "StreamHouse$Parser" "KEYWORDS" "[J")) (.int 23)) (fl_R (fl_L (fl_L (fl_L (fl_L (fl_L (fl_L (fl_R (fl_R (fl_L (fl_0 rfl))))))))))))) (fun j hj => va_eqtl (hg _ (ka j (by rw [← er_23]; exact List.mem_range.mpr hj)))) hA
  exact ⟨t, va_Zof (htsT (.laysStatic "StreamHouse$Parser" "KEYWORDS" "[J") (tb_4 _ (List.mem_of_getElem? (i := 90) rfl))) (htsT (.initialized "StreamHouse$Parser") (tb_1 _ (List.mem_of_getElem? (i := 2) rfl))) h1 hA, _, h2⟩
set_option maxHeartbeats 4000000 in
set_option maxRecDepth 100000 in
/-- what stands while the law runs -/
theorem cx_of {p : Program} {s : State} {m : MethodId} {c : Code} {b : Nat} (hx : p.tables.exec = Jvm.exec) (hb : c.code = code) (hml : c.maxLocals = 8) (hown : s.vm.findClass R_law = some m.cls) (htsT : ∀ w ∈ lw_tbl, w.before #[Value.ref b] s = true) (hg : ∀ w ∈ GV, w.before #[Value.ref b] s = true) : ∃ (D : va_G) (cA : Nat → ClassId) (tys : List (ClassId × FieldType)), TyC cA tys ∧ Cx p s m #[Value.ref b] c code 8 RL D cA tys (A0 s) := by
  have hAn : ∀ a : Nat, a < s.heap.size → ¬ A0 s a := fun a h h2 => absurd (show s.heap.size ≤ a from h2) (Nat.not_le.mpr h)
  obtain ⟨c0, i0, hKn0⟩ := u_known (C := RX0) (T := TX0) (N := 8) (n := 8) htsT (fun w h => (List.mem_filter.mp (wu_X0 w h)).1) (htsT (.instantiable RX0 8) (tb_6 _ (List.mem_of_getElem? (i := 8) rfl)))
  obtain ⟨c1, i1, hKn1⟩ := u_known (C := RX1) (T := TX1) (N := 3) (n := 3) htsT (fun w h => (List.mem_filter.mp (wu_X1 w h)).1) (htsT (.instantiable RX1 3) (tb_2 _ (List.mem_of_getElem? (i := 113) rfl)))
  obtain ⟨c2, i2, hKn2⟩ := u_known (C := RX2) (T := TX2) (N := 8) (n := 8) htsT (fun w h => (List.mem_filter.mp (wu_X2 w h)).1) (htsT (.instantiable RX2 8) (tb_5 _ (List.mem_of_getElem? (i := 133) rfl)))
  obtain ⟨c3, i3, hKn3⟩ := u_known (C := RX3) (T := TX3) (N := 10) (n := 10) htsT (fun w h => (List.mem_filter.mp (wu_X3 w h)).1) (htsT (.instantiable RX3 10) (tb_2 _ (List.mem_of_getElem? (i := 55) rfl)))
  obtain ⟨c4, i4, hKn4⟩ := u_known (C := RX4) (T := TX4) (N := 14) (n := 14) htsT (fun w h => (List.mem_filter.mp (wu_X4 w h)).1) (htsT (.instantiable RX4 14) (tb_1 _ (List.mem_of_getElem? (i := 79) rfl)))
  obtain ⟨c5, i5, hKn5⟩ := u_known (C := RX5) (T := TX5) (N := 17) (n := 17) htsT (fun w h => (List.mem_filter.mp (wu_X5 w h)).1) (htsT (.instantiable RX5 17) (tb_1 _ (List.mem_of_getElem? (i := 88) rfl)))
  obtain ⟨c6, i6, hKn6⟩ := u_known (C := RX6) (T := TX6) (N := 9) (n := 9) htsT (fun w h => (List.mem_filter.mp (wu_X6 w h)).1) (htsT (.instantiable RX6 9) (tb_1 _ (List.mem_of_getElem? (i := 43) rfl)))
  obtain ⟨c7, i7, hKn7⟩ := u_known (C := RX7) (T := TX7) (N := 7) (n := 7) htsT (fun w h => (List.mem_filter.mp (wu_X7 w h)).1) (htsT (.instantiable RX7 7) (tb_3 _ (List.mem_of_getElem? (i := 3) rfl)))
  obtain ⟨c8, i8, hKn8⟩ := u_known (C := RX8) (T := TX8) (N := 3) (n := 3) htsT (fun w h => (List.mem_filter.mp (wu_X8 w h)).1) (htsT (.instantiable RX8 3) (tb_2 _ (List.mem_of_getElem? (i := 31) rfl)))
  obtain ⟨c9, i9, hKn9⟩ := u_known (C := RX9) (T := TX9) (N := 20) (n := 20) htsT (fun w h => (List.mem_filter.mp (wu_X9 w h)).1) (htsT (.instantiable RX9 20) (tb_2 _ (List.mem_of_getElem? (i := 49) rfl)))
  obtain ⟨c10, i10, hKn10⟩ := u_known (C := RX10) (T := TX10) (N := 16) (n := 16) htsT (fun w h => (List.mem_filter.mp (wu_X10 w h)).1) (htsT (.instantiable RX10 16) (tb_3 _ (List.mem_of_getElem? (i := 9) rfl)))
  obtain ⟨c11, i11, hKn11⟩ := u_known (C := RX11) (T := TX11) (N := 6) (n := 6) htsT (fun w h => (List.mem_filter.mp (wu_X11 w h)).1) (htsT (.instantiable RX11 6) (tb_2 _ (List.mem_of_getElem? (i := 141) rfl)))
  obtain ⟨c12, i12, hKn12⟩ := u_known (C := RX12) (T := TX12) (N := 9) (n := 9) htsT (fun w h => (List.mem_filter.mp (wu_X12 w h)).1) (htsT (.instantiable RX12 9) (tb_1 _ (List.mem_of_getElem? (i := 35) rfl)))
  obtain ⟨c13, i13, hKn13⟩ := u_known (C := RX13) (T := TX13) (N := 6) (n := 6) htsT (fun w h => (List.mem_filter.mp (wu_X13 w h)).1) (htsT (.instantiable RX13 6) (tb_8 _ (List.mem_of_getElem? (i := 168) rfl)))
  obtain ⟨c14, i14, hKn14⟩ := u_known (C := RX14) (T := TX14) (N := 6) (n := 6) htsT (fun w h => (List.mem_filter.mp (wu_X14 w h)).1) (htsT (.instantiable RX14 6) (tb_8 _ (List.mem_of_getElem? (i := 58) rfl)))
  obtain ⟨c15, i15, hKn15⟩ := u_known (C := RX15) (T := TX15) (N := 20) (n := 20) htsT (fun w h => (List.mem_filter.mp (wu_X15 w h)).1) (htsT (.instantiable RX15 20) (tb_8 _ (List.mem_of_getElem? (i := 81) rfl)))
  obtain ⟨c16, i16, hKn16⟩ := u_known (C := RX16) (T := TX16) (N := 123) (n := 123) htsT (fun w h => (List.mem_filter.mp (wu_X16 w h)).1) (htsT (.instantiable RX16 123) (tb_8 _ (List.mem_of_getElem? (i := 52) rfl)))
  obtain ⟨dC, dI, hKc⟩ : ∃ (dC : Nat → ClassId) (dI : Nat → Nat → Nat), ∀ (k : Nat) (q : vw_C), vwCl[k]? = some q → u_Kn s q.1 q.2.1 q.2.2 (dC k) (dI k) := by
    refine ⟨fun k => match k with | 0 => c0 | 1 => c1 | 2 => c2 | 3 => c3 | 4 => c4 | 5 => c5 | 6 => c6 | 7 => c7 | 8 => c8 | 9 => c9 | 10 => c10 | 11 => c11 | 12 => c12 | 13 => c13 | 14 => c14 | 15 => c15 | _ => c16, fun k => match k with | 0 => i0 | 1 => i1 | 2 => i2 | 3 => i3 | 4 => i4 | 5 => i5 | 6 => i6 | 7 => i7 | 8 => i8 | 9 => i9 | 10 => i10 | 11 => i11 | 12 => i12 | 13 => i13 | 14 => i14 | 15 => i15 | _ => i16, ?_⟩
    intro k q hq
    match k, hq with
    | 0, hq => cases hq; exact hKn0
    | 1, hq => cases hq; exact hKn1
    | 2, hq => cases hq; exact hKn2
    | 3, hq => cases hq; exact hKn3
    | 4, hq => cases hq; exact hKn4
    | 5, hq => cases hq; exact hKn5
    | 6, hq => cases hq; exact hKn6
    | 7, hq => cases hq; exact hKn7
    | 8, hq => cases hq; exact hKn8
    | 9, hq => cases hq; exact hKn9
    | 10, hq => cases hq; exact hKn10
    | 11, hq => cases hq; exact hKn11
    | 12, hq => cases hq; exact hKn12
    | 13, hq => cases hq; exact hKn13
    | 14, hq => cases hq; exact hKn14
    | 15, hq => cases hq; exact hKn15
    | 16, hq => cases hq; exact hKn16
    | k + 17, hq => simp [vwCl] at hq
  obtain ⟨a100, r100, z100⟩ := arr_prim (htsT (.arrayClass .int) (tb_1 _ (List.mem_of_getElem? (i := 196) rfl)))
  obtain ⟨a101, r101, z101⟩ := arr_prim (htsT (.arrayClass .long) (tb_1 _ (List.mem_of_getElem? (i := 197) rfl)))
  obtain ⟨a102, r102, z102⟩ := arr_prim (htsT (.arrayClass .byte) (tb_1 _ (List.mem_of_getElem? (i := 77) rfl)))
  obtain ⟨a103, r103, z103⟩ := arr_prim (htsT (.arrayClass .boolean) (tb_1 _ (List.mem_of_getElem? (i := 198) rfl)))
  obtain ⟨a111, r111, z111⟩ := arr_obj (htsT (.arrayOver (.object RX1)) (tb_2 _ (List.mem_of_getElem? (i := 112) rfl)))
  obtain ⟨a112, r112, z112⟩ := arr_obj (htsT (.arrayOver (.object RX2)) (tb_2 _ (List.mem_of_getElem? (i := 104) rfl)))
  obtain ⟨a115, r115, z115⟩ := arr_obj (htsT (.arrayOver (.object RX5)) (tb_1 _ (List.mem_of_getElem? (i := 85) rfl)))
  obtain ⟨a120, r120, z120⟩ := arr_obj (htsT (.arrayOver (.object RX10)) (tb_2 _ (List.mem_of_getElem? (i := 61) rfl)))
  obtain ⟨a200, r200, z200⟩ := arr_arr (htsT (.arrayOver (.array .long)) (tb_1 _ (List.mem_of_getElem? (i := 87) rfl)))
  obtain ⟨f, g, hfg⟩ := pick_sv stL stL_nd.1 (st_of (A := A0 s) htsT hg hAn)
  obtain ⟨t, kZ, kT⟩ := kw_of (A := A0 s) htsT hg hAn
  refine ⟨(dC, dI), fun n => if n = 3000 then t else if 2000 ≤ n then g (n - 2000) else if 1000 ≤ n then f (n - 1000) else if n = 100 then a100 else if n = 101 then a101 else if n = 102 then a102 else if n = 103 then a103 else if n = 111 then a111 else if n = 112 then a112 else if n = 115 then a115 else if n = 120 then a120 else a200, [(a100, .int), (a101, .long), (a102, .byte), (a103, .boolean), (a111, .object RX1), (a112, .object RX2), (a115, .object RX5), (a120, .object RX10), (a200, .array .long)], ⟨⟨rfl, rfl, rfl, rfl⟩, rfl, rfl, rfl, rfl, rfl⟩, hx, hb, hown, fun w h => htsT w (List.mem_filter.mp h).1, ⟨hKc, fun k q hq => ?_⟩, hml, fun q h => h, fx_of htsT hg, ?_⟩
  · exact (List.forall_mem_cons.mpr ⟨⟨r100, z100⟩, List.forall_mem_cons.mpr ⟨⟨r101, z101⟩, List.forall_mem_cons.mpr ⟨⟨r102, z102⟩, List.forall_mem_cons.mpr ⟨⟨r103, z103⟩, List.forall_mem_cons.mpr ⟨⟨r111, z111⟩, List.forall_mem_cons.mpr ⟨⟨r112, z112⟩, List.forall_mem_cons.mpr ⟨⟨r115, z115⟩, List.forall_mem_cons.mpr ⟨⟨r120, z120⟩, List.forall_mem_cons.mpr ⟨⟨r200, z200⟩, (fun _ h => nomatch h)⟩⟩⟩⟩⟩⟩⟩⟩⟩ : ∀ q ∈ [((a100, .int) : ClassId × FieldType), ((a101, .long) : ClassId × FieldType), ((a102, .byte) : ClassId × FieldType), ((a103, .boolean) : ClassId × FieldType), ((a111, .object RX1) : ClassId × FieldType), ((a112, .object RX2) : ClassId × FieldType), ((a115, .object RX5) : ClassId × FieldType), ((a120, .object RX10) : ClassId × FieldType), ((a200, .array .long) : ClassId × FieldType)], ArrOfT s q.1 q.2 ∧ va_RA s q.1 q.2) q (List.mem_of_getElem? hq)
  · refine ⟨vx_Zqof (htsT (.laysStatic "java/lang/Throwable" "UNASSIGNED_STACK" "[Ljava/lang/StackTraceElement;") (tb_3 _ (List.mem_of_getElem? (i := 232) rfl))) (htsT (.initialized "java/lang/Throwable") (tb_1 _ (List.mem_of_getElem? (i := 15) rfl))) (hg (Cond.isRef (.static "java/lang/Throwable" "UNASSIGNED_STACK" "[Ljava/lang/StackTraceElement;")) (fl_R (fl_L (fl_L (fl_L (fl_L (fl_L (fl_L (fl_L (fl_R (fl_L (fl_0 rfl)))))))))))) hAn, vx_Zqof (htsT (.laysStatic "java/lang/Throwable" "SUPPRESSED_SENTINEL" "Ljava/util/List;") (tb_3 _ (List.mem_of_getElem? (i := 234) rfl))) (htsT (.initialized "java/lang/Throwable") (tb_1 _ (List.mem_of_getElem? (i := 15) rfl))) (hg (Cond.isRef (.static "java/lang/Throwable" "SUPPRESSED_SENTINEL" "Ljava/util/List;")) (fl_R (fl_L (fl_L (fl_L (fl_L (fl_L (fl_L (fl_L (fl_R (fl_R (fl_0 rfl)))))))))))) hAn, fun q hq => ?_, va_Zof (htsT (.laysStatic "java/lang/String" "COMPACT_STRINGS" "Z") (tb_8 _ (List.mem_of_getElem? (i := 194) rfl))) (htsT (.initialized "java/lang/String") (tb_1 _ (List.mem_of_getElem? (i := 21) rfl))) (va_eqt (hg (Cond.eq (.static "java/lang/String" "COMPACT_STRINGS" "Z") (.int 1)) (fl_R (fl_L (fl_L (fl_L (fl_L (fl_R (fl_R (fl_R (fl_R (fl_L (fl_0 rfl))))))))))))) hAn, va_Zqof (htsT (.laysStatic "jdk/internal/util/Preconditions" "SIOOBE_FORMATTER" "Ljava/util/function/BiFunction;") (tb_8 _ (List.mem_of_getElem? (i := 210) rfl))) (htsT (.initialized "jdk/internal/util/Preconditions") (tb_1 _ (List.mem_of_getElem? (i := 23) rfl))) (hg (Cond.isRef (.static "jdk/internal/util/Preconditions" "SIOOBE_FORMATTER" "Ljava/util/function/BiFunction;")) (fl_R (fl_L (fl_L (fl_L (fl_L (fl_R (fl_R (fl_R (fl_R (fl_R (fl_0 rfl)))))))))))) hAn, kZ, kT⟩
    have h9 := stL_nd.2 q hq
    have w := hfg q hq
    dsimp only
    rw [if_neg (by omega), if_neg (by omega), if_pos (by omega), if_neg (by omega), if_pos (by omega), show 1000 + q.1 - 1000 = q.1 by omega, show 2000 + q.1 - 2000 = q.1 by omega]
    exact w

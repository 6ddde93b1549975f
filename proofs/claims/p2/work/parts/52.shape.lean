theorem nmX16 : ∀ a, a < 123 → ∀ b, b < 123 → a ≠ b → (TX16 a).2.1 ≠ (TX16 b).2.1 := by decide +kernel
theorem tyX16_ok : ∀ k, k < 123 → parseFieldDescriptor (TX16 k).2.2.1 = some (tyX16 k) := by decide +kernel
/-! comparisons with 0; longs -/
theorem z_eq {x : Int} (hx : rng x) : i32 x = 0 ↔ x = 0 := i32_eq (y := 0) hx (by unfold rng; omega)
theorem z_lt {x : Int} (hx : rng x) : i32 x < 0 ↔ x < 0 := i32_lt (y := 0) hx (by unfold rng; omega)
theorem z_le {x : Int} (hx : rng x) : i32 x ≤ 0 ↔ x ≤ 0 := i32_le (y := 0) hx (by unfold rng; omega)
theorem z_ge {x : Int} (hx : rng x) : 0 ≤ i32 x ↔ 0 ≤ x := i32_le (x := 0) (by unfold rng; omega) hx
theorem z_gt {x : Int} (hx : rng x) : 0 < i32 x ↔ 0 < x := i32_lt (x := 0) (by unfold rng; omega) hx
theorem rng_toInt (v : Int32) : rng v.toInt := ⟨by have := v.le_toInt; omega, by have := v.toInt_lt; omega⟩
theorem i32_i64 {x : Int} (hx : rng x) : (i32 x).toInt64 = Int64.ofInt x := by
  apply Int64.toInt_inj.mp
  rw [Int32.toInt_toInt64, i32_toInt hx, Int64.toInt_ofInt_of_le (by have := hx.1; omega) (by have := hx.2; omega)]
theorem i32_ne0 {x : Int} (hx : rng x) (h : x ≠ 0) : ¬ i32 x = 0 := fun q => h ((z_eq hx).mp q)
theorem i32_wr (x : Int) : i32 (wr x) = i32 x := i32_self _
theorem rng_sl (s : Nat) : rng (sl s) := by unfold sl rng; split <;> omega
/-- the bytes of a constant string, by its number in the pool -/
def bs (n : Nat) : List Int32 := ((stL.find? (fun q => q.1 == n)).getD (0, "", [])).2.2
def bln (n : Nat) : Int := (bs n).length
def by_ (n : Nat) (i : Int) : Int := ((bs n).getD i.toNat 0).toInt
def shrI (x y : Int) : Int := (i32 x >>> (i32 y &&& 31)).toInt
def strOK (n : Nat) : Prop := ∃ q ∈ stL, q.1 = n
theorem bs_of : ∀ q ∈ stL, bs q.1 = q.2.2 := by decide +kernel
theorem bs_lt : ∀ q ∈ stL, (bs q.1).length < 200 := by decide +kernel
theorem rng_bl {n : Nat} (h : strOK n) : rng (bln n) := by
  obtain ⟨q, hq, rfl⟩ := h
  have := bs_lt q hq
  unfold bln rng; omega
theorem nar_char {r : Int} (gz : 0 ≤ r ∧ r < 65536) : narrow .char (.int (i32 r)) = .int (i32 r) := by
  have e : i32 r = nI r.toNat := by rw [← i32_nI]; congr 1; omega
  rw [e]
  exact (pk_charN (by omega)).1
theorem rf_cat (r : Option Nat) : (va_rf r).category = 1 := by cases r <;> rfl
theorem rng_wr (x : Int) : rng (wr x) := rng_toInt _
theorem rng_divI (x y : Int) : rng (divI x y) := rng_toInt _
theorem rng_remI (x y : Int) : rng (remI x y) := rng_toInt _
theorem rng_nB (x : Int) : rng (nB x) := rng_toInt _
theorem rng_nZ (x : Int) : rng (nZ x) := rng_toInt _
theorem rng_by_ (n : Nat) (i : Int) : rng (by_ n i) := rng_toInt _
theorem rng_shrI (x y : Int) : rng (shrI x y) := rng_toInt _
/-! the reference over the machine: where its arrays, its faults and its two jobs are; every int is one -/
def RG (σ : Sg) : Prop := ∀ a k, rng (gI σ a k)
theorem RG.pI {σ : Sg} {a k : Nat} {x : Int} (h : RG σ) (hx : rng x) : RG (pI σ a k x) := by
  intro b j
  rw [gI_pI]
  unfold up2
  split
  · exact hx
  · exact h b j
theorem RG.pJ {σ : Sg} {a k : Nat} {x : Int64} (h : RG σ) : RG (pJ σ a k x) := h
theorem RG.pP {σ : Sg} {a k : Nat} {x : Option Nat} (h : RG σ) : RG (pP σ a k x) := h
def aOK (σ : Sg) (b kd n : Nat) : Prop := b ∈ gD σ ∧ gk σ b = kd ∧ gn σ b = n
def Shp (dm : List Nat × Nat × Nat) (ra : Nat → Nat) (jx : Nat → Nat → Nat) (rm : Nat) (σ : Sg) : Prop := (rm ∈ gD σ ∧ gk σ rm = 16) ∧ (∀ q ∈ rArr, gP σ rm q.1 = some (ra q.1) ∧ aOK σ (ra q.1) q.2.1 q.2.2) ∧ (∀ q ∈ rObj, gP σ rm q.1 = some (ra q.1) ∧ ra q.1 ∈ gD σ ∧ gk σ (ra q.1) = q.2) ∧ (∀ a, (a = ra 15 ∨ a = ra 16) → ∀ q ∈ jArr, gP σ a q.1 = some (jx a q.1) ∧ aOK σ (jx a q.1) q.2.1 q.2.2) ∧ σ.1 = dm
section SHP
variable {dm : List Nat × Nat × Nat} {ra : Nat → Nat} {jx : Nat → Nat → Nat} {rm : Nat} {σ : Sg}
theorem Shp.ar (h : Shp dm ra jx rm σ) {k kd n : Nat} (hm : (k, kd, n) ∈ rArr) : aOK σ (ra k) kd n := (h.2.1 _ hm).2
theorem Shp.jb (h : Shp dm ra jx rm σ) {a : Nat} (q : a = ra 15 ∨ a = ra 16) : a ∈ gD σ ∧ gk σ a = 15 := by
  rcases q with rfl | rfl
  · exact (h.2.2.1 (15, 15) (by decide)).2
  · exact (h.2.2.1 (16, 15) (by decide)).2
theorem Shp.ja (h : Shp dm ra jx rm σ) {a : Nat} (q : a = ra 15 ∨ a = ra 16) {k kd n : Nat} (hm : (k, kd, n) ∈ jArr) : aOK σ (jx a k) kd n := (h.2.2.2.1 a q _ hm).2
theorem Shp.any (h : Shp dm ra jx rm σ) {b kd n : Nat} (q : rAr ra jx b kd n) : aOK σ b kd n := by
  rcases q with ⟨k, rfl, hm⟩ | ⟨a, k, q, rfl, hm⟩
  · exact h.ar hm
  · exact h.ja q hm
theorem rAr_lt {b kd n : Nat} (q : rAr ra jx b kd n) : n < 2 ^ 31 := by
  have h1 : ∀ q ∈ rArr, q.2.2 < 2 ^ 31 := by decide
  have h2 : ∀ q ∈ jArr, q.2.2 < 2 ^ 31 := by decide
  rcases q with ⟨k, rfl, hm⟩ | ⟨a, k, q, rfl, hm⟩
  · exact h1 _ hm
  · exact h2 _ hm
theorem Shp.ob (h : Shp dm ra jx rm σ) {k ci : Nat} (hm : (k, ci) ∈ rObj) : ra k ∈ gD σ ∧ gk σ (ra k) = ci := (h.2.2.1 _ hm).2
/-- job and draft may change -/
theorem Shp.pP (h : Shp dm ra jx rm σ) {k : Nat} (hk : k = 17 ∨ k = 18) {x : Option Nat} : Shp dm ra jx rm (pP σ rm k x) := by
  have h1 : ∀ q ∈ rArr, q.1 ≠ 17 ∧ q.1 ≠ 18 := by decide
  have h2 : ∀ q ∈ rObj, q.1 ≠ 17 ∧ q.1 ≠ 18 := by decide
  refine ⟨h.1, fun q hq => ⟨?_, (h.2.1 q hq).2⟩, fun q hq => ⟨?_, (h.2.2.1 q hq).2⟩, fun a ha q hq => ⟨?_, (h.2.2.2.1 a ha q hq).2⟩, h.2.2.2.2⟩
  · rw [gP_pP, up2_n _ _ (fun e => by have := h1 q hq; rcases hk with hk | hk <;> omega)]; exact (h.2.1 q hq).1
  · rw [gP_pP, up2_n _ _ (fun e => by have := h2 q hq; rcases hk with hk | hk <;> omega)]; exact (h.2.2.1 q hq).1
  · rw [gP_pP, up2_n _ _ (fun e => by have := h.jb ha; rw [e.1, h.1.2] at this; omega)]; exact (h.2.2.2.1 a ha q hq).1
end SHP
/-- array classes: int[], long[], byte[], boolean[] -/
def Tys (cA : Nat → ClassId) (tys : List (ClassId × FieldType)) : Prop := tys[0]? = some (cA 100, .int) ∧ tys[1]? = some (cA 101, .long) ∧ tys[2]? = some (cA 102, .byte) ∧ tys[3]? = some (cA 103, .boolean)
/-- what stands while a method runs -/
def MC (R : Room) (p : Program) (s : State) (m : MethodId) (args : Array Value) (c : Code) (cc : ByteArray) (nL : Nat) (own : String) (D : va_G) (cA : Nat → ClassId) (tys : List (ClassId × FieldType)) (A : Nat → Prop) (n0 s0 fr lw : Nat) (tb : List (Nat × Nat × Nat × Nat)) : Prop := Cx p s m args c cc nL own D cA tys A ∧ Tys cA tys ∧ Rm R n0 s0 ∧ fr ≤ R.frames ∧ lw ≤ R.locals ∧ c.exceptionTable.toList = tableOf tb
section RF
variable {p : Program} {l : Launch} {e : Env} {R : Room} {s : State} {m : MethodId} {args : Array Value} {below : List Frame} {meth : Method} {c : Code} {cc : ByteArray} {nL : Nat} {own : String} {D : va_G} {cA : Nat → ClassId} {tys : List (ClassId × FieldType)} {A : Nat → Prop} {cells slots : Nat} {Q : State → Prop} {σ : Sg} {pc : Nat} {ls : Array Slot} {H : Heap} {locs : List Loc} {rest : List Value} {dm : List Nat × Nat × Nat} {ra : Nat → Nat} {jx : Nat → Nat → Nat} {rm : Nat} {n0 s0 : Nat}
/-- no row of the table covers pc -/
theorem tb_out {tb : List (Nat × Nat × Nat × Nat)} (h : c.exceptionTable.toList = tableOf tb) (hd : (tableOf tb).all (fun x => !covers x pc) = true) : ∀ x ∈ c.exceptionTable.toList, covers x pc = false := by
  intro x hx
  rw [h] at hx
  have := List.all_eq_true.mp hd x hx
  cases h9 : covers x pc with
  | false => rfl
  | true => rw [h9] at this; exact absurd this (by decide)
theorem lv_ifnullQ (hexec : p.tables.exec = Jvm.exec) (hb : c.code = cc) {r : Option Nat} {off : Int} {tgt : Nat} (hdg : decode cc pc = .ok (.ifnull off, 3)) (ht : (pc : Int) + off = (tgt : Int)) (kt : r = none → W p l e R s m args below meth c H locs cells slots Q (F0 m tgt ls rest)) (kf : ¬ r = none → W p l e R s m args below meth c H locs cells slots Q (F0 m (pc + 3) ls rest)) : W p l e R s m args below meth c H locs cells slots Q (F0 m pc ls (va_rf r :: rest)) := by
  cases r with
  | none => exact lv_ifnullN hexec hb hdg ht (kt rfl)
  | some a => exact lv_ifnull hexec hb hdg (kf (fun h => nomatch h))
theorem lv_ifnonnullQ (hexec : p.tables.exec = Jvm.exec) (hb : c.code = cc) {r : Option Nat} {off : Int} {tgt : Nat} (hdg : decode cc pc = .ok (.ifnonnull off, 3)) (ht : (pc : Int) + off = (tgt : Int)) (kt : r ≠ none → W p l e R s m args below meth c H locs cells slots Q (F0 m tgt ls rest)) (kf : ¬ r ≠ none → W p l e R s m args below meth c H locs cells slots Q (F0 m (pc + 3) ls rest)) : W p l e R s m args below meth c H locs cells slots Q (F0 m pc ls (va_rf r :: rest)) := by
  cases r with
  | none => exact lv_ifnonnullN hexec hb hdg (kf (fun h => h rfl))
  | some a => exact lv_ifnonnull hexec hb hdg ht (kt (fun h => nomatch h))
theorem lv_astore_nQ (hexec : p.tables.exec = Jvm.exec) (hb : c.code = cc) {k : Fin 4} {i : Nat} {r : Option Nat} {lv lv' : List (Nat × Value)} (hdg : decode cc pc = .ok (.astore_n k, 1)) (hi : (k : Nat) = i) (h : lv_has ls nL lv) (hn : i < nL) (hl : (i, va_rf r) :: lv.filter (fun q => !(q.1 == i) && !(q.1 + 1 == i && q.2.category == 2)) = lv') (kk : ∀ ls' : Array Slot, lv_has ls' nL lv' → W p l e R s m args below meth c H locs cells slots Q (F0 m (pc + 1) ls' rest)) : W p l e R s m args below meth c H locs cells slots Q (F0 m pc ls (va_rf r :: rest)) := by
  cases r with
  | none => exact lv_astore_nN hexec hb hdg hi h hn hl kk
  | some a => exact lv_astore_n hexec hb hdg hi h hn hl kk
theorem lv_astoreQ (hexec : p.tables.exec = Jvm.exec) (hb : c.code = cc) {i : Nat} {r : Option Nat} {lv lv' : List (Nat × Value)} (hdg : decode cc pc = .ok (.astore i, 2)) (h : lv_has ls nL lv) (hn : i < nL) (hl : (i, va_rf r) :: lv.filter (fun q => !(q.1 == i) && !(q.1 + 1 == i && q.2.category == 2)) = lv') (kk : ∀ ls' : Array Slot, lv_has ls' nL lv' → W p l e R s m args below meth c H locs cells slots Q (F0 m (pc + 2) ls' rest)) : W p l e R s m args below meth c H locs cells slots Q (F0 m pc ls (va_rf r :: rest)) := by
  cases r with
  | none => exact lv_astoreN hexec hb hdg h hn hl kk
  | some a => exact lv_astore hexec hb hdg h hn hl kk
theorem lv_aload_nQ (hexec : p.tables.exec = Jvm.exec) (hb : c.code = cc) {k : Fin 4} {i : Nat} {r : Option Nat} (hdg : decode cc pc = .ok (.aload_n k, 1)) (hi : (k : Nat) = i) (hl : ls[i]? = some (.val (va_rf r))) (kk : W p l e R s m args below meth c H locs cells slots Q (F0 m (pc + 1) ls (va_rf r :: rest))) : W p l e R s m args below meth c H locs cells slots Q (F0 m pc ls rest) := by
  cases r with
  | none => exact lv_aload_nN hexec hb hdg hi hl kk
  | some a => exact lv_aload_n hexec hb hdg hi hl kk
theorem lv_aloadQ (hexec : p.tables.exec = Jvm.exec) (hb : c.code = cc) {i : Nat} {r : Option Nat} (hdg : decode cc pc = .ok (.aload i, 2)) (hl : ls[i]? = some (.val (va_rf r))) (kk : W p l e R s m args below meth c H locs cells slots Q (F0 m (pc + 2) ls (va_rf r :: rest))) : W p l e R s m args below meth c H locs cells slots Q (F0 m pc ls rest) := by
  cases r with
  | none => exact lv_aloadN hexec hb hdg hl kk
  | some a => exact lv_aload hexec hb hdg hl kk
theorem xs_ldcw (hexec : p.tables.exec = Jvm.exec) (hb : c.code = cc) {tx : String} {index q : Nat} (hown : s.vm.findClass own = some m.cls) (hZ : vk_R own index tx q s) (hdg : decode cc pc = .ok (.ldc_w index, 3)) (k : W p l e R s m args below meth c H locs cells slots Q (F0 m (pc + 3) ls (.ref q :: rest))) : W p l e R s m args below meth c H locs cells slots Q (F0 m pc ls rest) := by
  intro T hT X
  obtain ⟨t, a1, b1⟩ := k T hT X
  exact ⟨t, X.ldcStringW hexec hown (text := tx) (a := q) hZ.1 hZ.2 (g := F0 m pc ls rest) rfl (by rw [hb]; exact hdg) t a1, b1⟩
theorem xs_ldc (hexec : p.tables.exec = Jvm.exec) (hb : c.code = cc) {tx : String} {index q : Nat} (hown : s.vm.findClass own = some m.cls) (hZ : vk_R own index tx q s) (hdg : decode cc pc = .ok (.ldc index, 2)) (k : W p l e R s m args below meth c H locs cells slots Q (F0 m (pc + 2) ls (.ref q :: rest))) : W p l e R s m args below meth c H locs cells slots Q (F0 m pc ls rest) := by
  intro T hT X
  obtain ⟨t, a1, b1⟩ := k T hT X
  exact ⟨t, X.ldcString hexec hown (text := tx) (a := q) hZ.1 hZ.2 (g := F0 m pc ls rest) rfl (by rw [hb]; exact hdg) t a1, b1⟩
/-- a field of a nest mate -/
theorem h_getN (B : Cx p s m args c cc nL own D cA tys A) (hH : Hd D cA A s σ H locs) {C host : String} {T : u_T} {N ci index a : Nat} (ha : a ∈ gD σ) (hk : gk σ a = ci) (hci : ci < 100) (hc : vwCl[ci]? = some (C, T, N)) (hin : ∀ w ∈ u_ws C T N, w ∈ WAL) (k : Nat) (hkN : k < N) (hlink : (own, index, (T k).1, (T k).2.1, (T k).2.2.1, host) ∈ nfL) {v : Value} (hv : fval σ a k (fty (T k).2.2.1) = v) (hd : decode cc pc = .ok (.getfield index, 3)) (h : W p l e R s m args below meth c H locs cells slots Q (F0 m (pc + 3) ls (v :: rest))) : W p l e R s m args below meth c H locs cells slots Q (F0 m pc ls (.ref a :: rest)) := by
  obtain ⟨q0, hq⟩ := wd_get (cA := cA) ha
  rw [ent_obj hk hc hci] at hq
  exact va_getN B.1 B.2.1 B.2.2.2.1 hin B.2.2.1 B.2.2.2.2.1 hH.1 q0 hq hc k hkN (va_Nw.use rfl (B.2.2.2.2.2.2.2.1.2.1 _ hlink)) (fun x hx => hx) (by rw [flds_at σ a (C, T, N) hkN, hv]) hd h
theorem h_putN (B : Cx p s m args c cc nL own D cA tys A) (hH : Hd D cA A s σ H locs) {C host : String} {T : u_T} {N ci index a : Nat} (ha : a ∈ gD σ) (hk : gk σ a = ci) (hci : ci < 100) (hc : vwCl[ci]? = some (C, T, N)) (hin : ∀ w ∈ u_ws C T N, w ∈ WAL) (ty0 : Nat → FieldType) (hty : ∀ k, k < N → parseFieldDescriptor (T k).2.2.1 = some (ty0 k)) (hnm : ∀ a, a < N → ∀ b, b < N → a ≠ b → (T a).2.1 ≠ (T b).2.1) (k : Nat) (hkN : k < N) (hlink : (own, index, (T k).1, (T k).2.1, (T k).2.2.1, host) ∈ nfL) (hfin : (T k).2.2.2 = false) {ty : FieldType} {v : Value} (hdsc : parseFieldDescriptor (T k).2.2.1 = some ty) (hn : narrow ty v = v) (hfit : fits ty v = true) {σ' : Sg} (h1 : gD σ' = gD σ) (h2 : ent cA σ' a = .inr (ci, (flds σ a (C, T, N)).set k v)) (h3 : ∀ b, b ≠ a → ent cA σ' b = ent cA σ b) (hd : decode cc pc = .ok (.putfield index, 3)) (h : ∀ (H1 : Heap) (locs1 : List Loc), Hd D cA A s σ' H1 locs1 → W p l e R s m args below meth c H1 locs1 cells slots Q (F0 m (pc + 3) ls rest)) : W p l e R s m args below meth c H locs cells slots Q (F0 m pc ls (v :: .ref a :: rest)) := by
  obtain ⟨q0, hq⟩ := wd_get (cA := cA) ha
  have hs := wd_set hH.2.1 ha hq h1 h2 h3
  rw [ent_obj hk hc hci] at hq
  refine va_putN B.1 B.2.1 B.2.2.2.1 hin ty0 hty hnm B.2.2.1 B.2.2.2.2.1 hH.1 hH.2.1 hH.2.2 q0 hq hc k hkN (va_Nw.use rfl (B.2.2.2.2.2.2.2.1.2.1 _ hlink)) (fun x hx => hx) hfin hdsc hn hfit (by unfold flds; simpa using hkN) hd (fun H1 locs1 hP hD hS => ?_)
  rw [hs] at hP hD
  exact h H1 locs1 ⟨hP, hD, hS⟩
theorem r_arr (B : Cx p s m args c cc nL RX16 D cA tys A) (hH : Hd D cA A s σ H locs) (hS : Shp dm ra jx rm σ) (k : Nat) {index : Nat} {kd n : Nat} (hm : (k, kd, n) ∈ rArr) (hkN : k < 123) (hlink : Cond.fieldLink RX16 index "StreamHouseModel" (TX16 k).2.1 (TX16 k).2.2.1 ∈ WAL) (hsame : "StreamHouseModel" = (TX16 k).1) (hty : fty (TX16 k).2.2.1 = 2) (hd : decode cc pc = .ok (.getfield index, 3)) (h : W p l e R s m args below meth c H locs cells slots Q (F0 m (pc + 3) ls (.ref (ra k) :: rest))) : W p l e R s m args below meth c H locs cells slots Q (F0 m pc ls (.ref rm :: rest)) :=
  h_get B hH (C := RX16) (T := TX16) (N := 123) (ci := 16) hS.1.1 hS.1.2 (by decide) rfl wu_X16 k hkN hlink hsame (by rw [hty]; show va_rf (gP σ rm k) = _; rw [(hS.2.1 _ hm).1]; rfl) hd h
theorem r_obj (B : Cx p s m args c cc nL RX16 D cA tys A) (hH : Hd D cA A s σ H locs) (hS : Shp dm ra jx rm σ) (k : Nat) {index : Nat} {ci : Nat} (hm : (k, ci) ∈ rObj) (hkN : k < 123) (hlink : Cond.fieldLink RX16 index "StreamHouseModel" (TX16 k).2.1 (TX16 k).2.2.1 ∈ WAL) (hsame : "StreamHouseModel" = (TX16 k).1) (hty : fty (TX16 k).2.2.1 = 2) (hd : decode cc pc = .ok (.getfield index, 3)) (h : W p l e R s m args below meth c H locs cells slots Q (F0 m (pc + 3) ls (.ref (ra k) :: rest))) : W p l e R s m args below meth c H locs cells slots Q (F0 m pc ls (.ref rm :: rest)) :=
  h_get B hH (C := RX16) (T := TX16) (N := 123) (ci := 16) hS.1.1 hS.1.2 (by decide) rfl wu_X16 k hkN hlink hsame (by rw [hty]; show va_rf (gP σ rm k) = _; rw [(hS.2.2.1 _ hm).1]; rfl) hd h
theorem r_geti (B : Cx p s m args c cc nL RX16 D cA tys A) (hH : Hd D cA A s σ H locs) (hS : Shp dm ra jx rm σ) (k : Nat) {index : Nat} (hkN : k < 123) (hlink : Cond.fieldLink RX16 index "StreamHouseModel" (TX16 k).2.1 (TX16 k).2.2.1 ∈ WAL) (hsame : "StreamHouseModel" = (TX16 k).1) (hty : fty (TX16 k).2.2.1 = 0) (hd : decode cc pc = .ok (.getfield index, 3)) (h : W p l e R s m args below meth c H locs cells slots Q (F0 m (pc + 3) ls (.int (i32 (gI σ rm k)) :: rest))) : W p l e R s m args below meth c H locs cells slots Q (F0 m pc ls (.ref rm :: rest)) :=
  h_get B hH (C := RX16) (T := TX16) (N := 123) (ci := 16) hS.1.1 hS.1.2 (by decide) rfl wu_X16 k hkN hlink hsame (by rw [hty]; rfl) hd h
theorem r_getl (B : Cx p s m args c cc nL RX16 D cA tys A) (hH : Hd D cA A s σ H locs) (hS : Shp dm ra jx rm σ) (k : Nat) {index : Nat} (hkN : k < 123) (hlink : Cond.fieldLink RX16 index "StreamHouseModel" (TX16 k).2.1 (TX16 k).2.2.1 ∈ WAL) (hsame : "StreamHouseModel" = (TX16 k).1) (hty : fty (TX16 k).2.2.1 = 1) (hd : decode cc pc = .ok (.getfield index, 3)) (h : W p l e R s m args below meth c H locs cells slots Q (F0 m (pc + 3) ls (.long (gJ σ rm k) :: rest))) : W p l e R s m args below meth c H locs cells slots Q (F0 m pc ls (.ref rm :: rest)) :=
  h_get B hH (C := RX16) (T := TX16) (N := 123) (ci := 16) hS.1.1 hS.1.2 (by decide) rfl wu_X16 k hkN hlink hsame (by rw [hty]; rfl) hd h
theorem r_getp (B : Cx p s m args c cc nL RX16 D cA tys A) (hH : Hd D cA A s σ H locs) (hS : Shp dm ra jx rm σ) (k : Nat) {index : Nat} (hkN : k < 123) (hlink : Cond.fieldLink RX16 index "StreamHouseModel" (TX16 k).2.1 (TX16 k).2.2.1 ∈ WAL) (hsame : "StreamHouseModel" = (TX16 k).1) (hty : fty (TX16 k).2.2.1 = 2) (hd : decode cc pc = .ok (.getfield index, 3)) (h : W p l e R s m args below meth c H locs cells slots Q (F0 m (pc + 3) ls (va_rf (gP σ rm k) :: rest))) : W p l e R s m args below meth c H locs cells slots Q (F0 m pc ls (.ref rm :: rest)) :=
  h_get B hH (C := RX16) (T := TX16) (N := 123) (ci := 16) hS.1.1 hS.1.2 (by decide) rfl wu_X16 k hkN hlink hsame (by rw [hty]; rfl) hd h
theorem r_puti (B : Cx p s m args c cc nL RX16 D cA tys A) (hH : Hd D cA A s σ H locs) (hS : Shp dm ra jx rm σ) (k : Nat) {index : Nat} {x : Int} {ty : FieldType} (hkN : k < 123) (hlink : Cond.fieldLink RX16 index "StreamHouseModel" (TX16 k).2.1 (TX16 k).2.2.1 ∈ WAL) (hsame : "StreamHouseModel" = (TX16 k).1) (hfin : (TX16 k).2.2.2 = false) (hty : fty (TX16 k).2.2.1 = 0) (hds : parseFieldDescriptor (TX16 k).2.2.1 = some ty) (hn : narrow ty (.int (i32 x)) = .int (i32 x)) (hfit : fits ty (.int (i32 x)) = true) (hd : decode cc pc = .ok (.putfield index, 3)) (h : ∀ (H1 : Heap) (locs1 : List Loc), Hd D cA A s (pI σ rm k x) H1 locs1 → W p l e R s m args below meth c H1 locs1 cells slots Q (F0 m (pc + 3) ls rest)) : W p l e R s m args below meth c H locs cells slots Q (F0 m pc ls (.int (i32 x) :: .ref rm :: rest)) :=
  h_put B hH (C := RX16) (T := TX16) (N := 123) (ci := 16) hS.1.1 hS.1.2 (by decide) rfl wu_X16 tyX16 tyX16_ok nmX16 k hkN hlink hsame hfin hds hn hfit (σ' := pI σ rm k x) rfl (by rw [ent_obj (σ := pI σ rm k x) (ci := 16) hS.1.2 rfl (by decide), flds_setI (r := (RX16, TX16, 123)) hty]) (fun b hb => ent_offI hb) hd h
theorem r_putl (B : Cx p s m args c cc nL RX16 D cA tys A) (hH : Hd D cA A s σ H locs) (hS : Shp dm ra jx rm σ) (k : Nat) {index : Nat} {x : Int64} (hkN : k < 123) (hlink : Cond.fieldLink RX16 index "StreamHouseModel" (TX16 k).2.1 (TX16 k).2.2.1 ∈ WAL) (hsame : "StreamHouseModel" = (TX16 k).1) (hfin : (TX16 k).2.2.2 = false) (hty : fty (TX16 k).2.2.1 = 1) (hds : parseFieldDescriptor (TX16 k).2.2.1 = some .long) (hd : decode cc pc = .ok (.putfield index, 3)) (h : ∀ (H1 : Heap) (locs1 : List Loc), Hd D cA A s (pJ σ rm k x) H1 locs1 → W p l e R s m args below meth c H1 locs1 cells slots Q (F0 m (pc + 3) ls rest)) : W p l e R s m args below meth c H locs cells slots Q (F0 m pc ls (.long x :: .ref rm :: rest)) :=
  h_put B hH (C := RX16) (T := TX16) (N := 123) (ci := 16) hS.1.1 hS.1.2 (by decide) rfl wu_X16 tyX16 tyX16_ok nmX16 k hkN hlink hsame hfin hds rfl rfl (σ' := pJ σ rm k x) rfl (by rw [ent_obj (σ := pJ σ rm k x) (ci := 16) hS.1.2 rfl (by decide), flds_setJ (r := (RX16, TX16, 123)) hty]) (fun b hb => ent_offJ hb) hd h
theorem r_putq (B : Cx p s m args c cc nL RX16 D cA tys A) (hH : Hd D cA A s σ H locs) (hS : Shp dm ra jx rm σ) (k : Nat) {index : Nat} {r : Option Nat} (hkN : k < 123) (hlink : Cond.fieldLink RX16 index "StreamHouseModel" (TX16 k).2.1 (TX16 k).2.2.1 ∈ WAL) (hsame : "StreamHouseModel" = (TX16 k).1) (hfin : (TX16 k).2.2.2 = false) (hty : fty (TX16 k).2.2.1 = 2) (hds : parseFieldDescriptor (TX16 k).2.2.1 = some (.object "StreamHouseModel$Job")) (hd : decode cc pc = .ok (.putfield index, 3)) (h : ∀ (H1 : Heap) (locs1 : List Loc), Hd D cA A s (pP σ rm k r) H1 locs1 → W p l e R s m args below meth c H1 locs1 cells slots Q (F0 m (pc + 3) ls rest)) : W p l e R s m args below meth c H locs cells slots Q (F0 m pc ls (va_rf r :: .ref rm :: rest)) :=
  h_put B hH (C := RX16) (T := TX16) (N := 123) (ci := 16) hS.1.1 hS.1.2 (by decide) rfl wu_X16 tyX16 tyX16_ok nmX16 k hkN hlink hsame hfin hds (by cases r <;> rfl) (by cases r <;> rfl) (σ' := pP σ rm k r) rfl (by rw [ent_obj (σ := pP σ rm k r) (ci := 16) hS.1.2 rfl (by decide), flds_setP (r := (RX16, TX16, 123)) hty]) (fun b hb => ent_offP hb) hd h
theorem j_arr (B : Cx p s m args c cc nL RX15 D cA tys A) (hH : Hd D cA A s σ H locs) (hS : Shp dm ra jx rm σ) {jm : Nat} (hj : jm = ra 15 ∨ jm = ra 16) (k : Nat) {index : Nat} {kd n : Nat} (hm : (k, kd, n) ∈ jArr) (hkN : k < 20) (hlink : Cond.fieldLink RX15 index "StreamHouseModel$Job" (TX15 k).2.1 (TX15 k).2.2.1 ∈ WAL) (hsame : "StreamHouseModel$Job" = (TX15 k).1) (hty : fty (TX15 k).2.2.1 = 2) (hd : decode cc pc = .ok (.getfield index, 3)) (h : W p l e R s m args below meth c H locs cells slots Q (F0 m (pc + 3) ls (.ref (jx jm k) :: rest))) : W p l e R s m args below meth c H locs cells slots Q (F0 m pc ls (.ref jm :: rest)) :=
  h_get B hH (C := RX15) (T := TX15) (N := 20) (ci := 15) (hS.jb hj).1 (hS.jb hj).2 (by decide) rfl wu_X15 k hkN hlink hsame (by rw [hty]; show va_rf (gP σ jm k) = _; rw [(hS.2.2.2.1 _ hj _ hm).1]; rfl) hd h
theorem j_geti (B : Cx p s m args c cc nL RX15 D cA tys A) (hH : Hd D cA A s σ H locs) (hS : Shp dm ra jx rm σ) {jm : Nat} (hj : jm = ra 15 ∨ jm = ra 16) (k : Nat) {index : Nat} (hkN : k < 20) (hlink : Cond.fieldLink RX15 index "StreamHouseModel$Job" (TX15 k).2.1 (TX15 k).2.2.1 ∈ WAL) (hsame : "StreamHouseModel$Job" = (TX15 k).1) (hty : fty (TX15 k).2.2.1 = 0) (hd : decode cc pc = .ok (.getfield index, 3)) (h : W p l e R s m args below meth c H locs cells slots Q (F0 m (pc + 3) ls (.int (i32 (gI σ jm k)) :: rest))) : W p l e R s m args below meth c H locs cells slots Q (F0 m pc ls (.ref jm :: rest)) :=
  h_get B hH (C := RX15) (T := TX15) (N := 20) (ci := 15) (hS.jb hj).1 (hS.jb hj).2 (by decide) rfl wu_X15 k hkN hlink hsame (by rw [hty]; rfl) hd h
theorem j_getl (B : Cx p s m args c cc nL RX15 D cA tys A) (hH : Hd D cA A s σ H locs) (hS : Shp dm ra jx rm σ) {jm : Nat} (hj : jm = ra 15 ∨ jm = ra 16) (k : Nat) {index : Nat} (hkN : k < 20) (hlink : Cond.fieldLink RX15 index "StreamHouseModel$Job" (TX15 k).2.1 (TX15 k).2.2.1 ∈ WAL) (hsame : "StreamHouseModel$Job" = (TX15 k).1) (hty : fty (TX15 k).2.2.1 = 1) (hd : decode cc pc = .ok (.getfield index, 3)) (h : W p l e R s m args below meth c H locs cells slots Q (F0 m (pc + 3) ls (.long (gJ σ jm k) :: rest))) : W p l e R s m args below meth c H locs cells slots Q (F0 m pc ls (.ref jm :: rest)) :=
  h_get B hH (C := RX15) (T := TX15) (N := 20) (ci := 15) (hS.jb hj).1 (hS.jb hj).2 (by decide) rfl wu_X15 k hkN hlink hsame (by rw [hty]; rfl) hd h
theorem j_getp (B : Cx p s m args c cc nL RX15 D cA tys A) (hH : Hd D cA A s σ H locs) (hS : Shp dm ra jx rm σ) {jm : Nat} (hj : jm = ra 15 ∨ jm = ra 16) (k : Nat) {index : Nat} (hkN : k < 20) (hlink : Cond.fieldLink RX15 index "StreamHouseModel$Job" (TX15 k).2.1 (TX15 k).2.2.1 ∈ WAL) (hsame : "StreamHouseModel$Job" = (TX15 k).1) (hty : fty (TX15 k).2.2.1 = 2) (hd : decode cc pc = .ok (.getfield index, 3)) (h : W p l e R s m args below meth c H locs cells slots Q (F0 m (pc + 3) ls (va_rf (gP σ jm k) :: rest))) : W p l e R s m args below meth c H locs cells slots Q (F0 m pc ls (.ref jm :: rest)) :=
  h_get B hH (C := RX15) (T := TX15) (N := 20) (ci := 15) (hS.jb hj).1 (hS.jb hj).2 (by decide) rfl wu_X15 k hkN hlink hsame (by rw [hty]; rfl) hd h
theorem j_puti (B : Cx p s m args c cc nL RX15 D cA tys A) (hH : Hd D cA A s σ H locs) (hS : Shp dm ra jx rm σ) {jm : Nat} (hj : jm = ra 15 ∨ jm = ra 16) (k : Nat) {index : Nat} {x : Int} {ty : FieldType} (hkN : k < 20) (hlink : Cond.fieldLink RX15 index "StreamHouseModel$Job" (TX15 k).2.1 (TX15 k).2.2.1 ∈ WAL) (hsame : "StreamHouseModel$Job" = (TX15 k).1) (hfin : (TX15 k).2.2.2 = false) (hty : fty (TX15 k).2.2.1 = 0) (hds : parseFieldDescriptor (TX15 k).2.2.1 = some ty) (hn : narrow ty (.int (i32 x)) = .int (i32 x)) (hfit : fits ty (.int (i32 x)) = true) (hd : decode cc pc = .ok (.putfield index, 3)) (h : ∀ (H1 : Heap) (locs1 : List Loc), Hd D cA A s (pI σ jm k x) H1 locs1 → W p l e R s m args below meth c H1 locs1 cells slots Q (F0 m (pc + 3) ls rest)) : W p l e R s m args below meth c H locs cells slots Q (F0 m pc ls (.int (i32 x) :: .ref jm :: rest)) :=
  h_put B hH (C := RX15) (T := TX15) (N := 20) (ci := 15) (hS.jb hj).1 (hS.jb hj).2 (by decide) rfl wu_X15 tyX15 tyX15_ok nmX15 k hkN hlink hsame hfin hds hn hfit (σ' := pI σ jm k x) rfl (by rw [ent_obj (σ := pI σ jm k x) (ci := 15) (hS.jb hj).2 rfl (by decide), flds_setI (r := (RX15, TX15, 20)) hty]) (fun b hb => ent_offI hb) hd h
theorem n_arr (B : Cx p s m args c cc nL RX16 D cA tys A) (hH : Hd D cA A s σ H locs) (hS : Shp dm ra jx rm σ) {a : Nat} (hj : a = ra 15 ∨ a = ra 16) (k : Nat) {index : Nat} {kd n : Nat} (hm : (k, kd, n) ∈ jArr) (hkN : k < 20) (hlink : (RX16, index, (TX15 k).1, (TX15 k).2.1, (TX15 k).2.2.1, RX16) ∈ nfL) (hty : fty (TX15 k).2.2.1 = 2) (hd : decode cc pc = .ok (.getfield index, 3)) (h : W p l e R s m args below meth c H locs cells slots Q (F0 m (pc + 3) ls (.ref (jx a k) :: rest))) : W p l e R s m args below meth c H locs cells slots Q (F0 m pc ls (.ref a :: rest)) :=
  h_getN B hH (C := RX15) (T := TX15) (N := 20) (ci := 15) (hS.jb hj).1 (hS.jb hj).2 (by decide) rfl wu_X15 k hkN hlink (by rw [hty]; show va_rf (gP σ a k) = _; rw [(hS.2.2.2.1 _ hj _ hm).1]; rfl) hd h
theorem n_geti (B : Cx p s m args c cc nL RX16 D cA tys A) (hH : Hd D cA A s σ H locs) (hS : Shp dm ra jx rm σ) {a : Nat} (hj : a = ra 15 ∨ a = ra 16) (k : Nat) {index : Nat} (hkN : k < 20) (hlink : (RX16, index, (TX15 k).1, (TX15 k).2.1, (TX15 k).2.2.1, RX16) ∈ nfL) (hty : fty (TX15 k).2.2.1 = 0) (hd : decode cc pc = .ok (.getfield index, 3)) (h : W p l e R s m args below meth c H locs cells slots Q (F0 m (pc + 3) ls (.int (i32 (gI σ a k)) :: rest))) : W p l e R s m args below meth c H locs cells slots Q (F0 m pc ls (.ref a :: rest)) :=
  h_getN B hH (C := RX15) (T := TX15) (N := 20) (ci := 15) (hS.jb hj).1 (hS.jb hj).2 (by decide) rfl wu_X15 k hkN hlink (by rw [hty]; rfl) hd h
theorem n_puti (B : Cx p s m args c cc nL RX16 D cA tys A) (hH : Hd D cA A s σ H locs) (hS : Shp dm ra jx rm σ) {a : Nat} (hj : a = ra 15 ∨ a = ra 16) (k : Nat) {index : Nat} {x : Int} {ty : FieldType} (hkN : k < 20) (hlink : (RX16, index, (TX15 k).1, (TX15 k).2.1, (TX15 k).2.2.1, RX16) ∈ nfL) (hfin : (TX15 k).2.2.2 = false) (hty : fty (TX15 k).2.2.1 = 0) (hds : parseFieldDescriptor (TX15 k).2.2.1 = some ty) (hn : narrow ty (.int (i32 x)) = .int (i32 x)) (hfit : fits ty (.int (i32 x)) = true) (hd : decode cc pc = .ok (.putfield index, 3)) (h : ∀ (H1 : Heap) (locs1 : List Loc), Hd D cA A s (pI σ a k x) H1 locs1 → W p l e R s m args below meth c H1 locs1 cells slots Q (F0 m (pc + 3) ls rest)) : W p l e R s m args below meth c H locs cells slots Q (F0 m pc ls (.int (i32 x) :: .ref a :: rest)) :=
  h_putN B hH (C := RX15) (T := TX15) (N := 20) (ci := 15) (hS.jb hj).1 (hS.jb hj).2 (by decide) rfl wu_X15 tyX15 tyX15_ok nmX15 k hkN hlink hfin hds hn hfit (σ' := pI σ a k x) rfl (by rw [ent_obj (σ := pI σ a k x) (ci := 15) (hS.jb hj).2 rfl (by decide), flds_setI (r := (RX15, TX15, 20)) hty]) (fun b hb => ent_offI hb) hd h
theorem x_iald (B : Cx p s m args c cc nL own D cA tys A) (hT : Tys cA tys) (hH : Hd D cA A s σ H locs) {b n : Nat} (ho : aOK σ b 100 n) (hn : n < 2 ^ 31) {x : Int} (h0 : 0 ≤ x ∧ x < n) (hd : decode cc pc = .ok (.iaload, 1)) (h : W p l e R s m args below meth c H locs cells slots Q (F0 m (pc + 1) ls (.int (i32 (gI σ b x.toNat)) :: rest))) : W p l e R s m args below meth c H locs cells slots Q (F0 m pc ls (.int (i32 x) :: .ref b :: rest)) :=
  h_iald B hH ho.1 ho.2.1 0 hT.1 h0.1 (by rw [ho.2.2]; exact h0.2) (by rw [ho.2.2]; exact hn) hd h
theorem x_lald (B : Cx p s m args c cc nL own D cA tys A) (hT : Tys cA tys) (hH : Hd D cA A s σ H locs) {b n : Nat} (ho : aOK σ b 101 n) (hn : n < 2 ^ 31) {x : Int} (h0 : 0 ≤ x ∧ x < n) (hd : decode cc pc = .ok (.laload, 1)) (h : W p l e R s m args below meth c H locs cells slots Q (F0 m (pc + 1) ls (.long (gJ σ b x.toNat) :: rest))) : W p l e R s m args below meth c H locs cells slots Q (F0 m pc ls (.int (i32 x) :: .ref b :: rest)) :=
  h_lald B hH ho.1 ho.2.1 1 hT.2.1 h0.1 (by rw [ho.2.2]; exact h0.2) (by rw [ho.2.2]; exact hn) hd h
theorem x_bald (B : Cx p s m args c cc nL own D cA tys A) (hT : Tys cA tys) (hH : Hd D cA A s σ H locs) {b n : Nat} (ho : aOK σ b 102 n) (hn : n < 2 ^ 31) {x : Int} (h0 : 0 ≤ x ∧ x < n) (hd : decode cc pc = .ok (.baload, 1)) (h : W p l e R s m args below meth c H locs cells slots Q (F0 m (pc + 1) ls (.int (i32 (gI σ b x.toNat)) :: rest))) : W p l e R s m args below meth c H locs cells slots Q (F0 m pc ls (.int (i32 x) :: .ref b :: rest)) :=
  h_bald B hH ho.1 ho.2.1 2 hT.2.2.1 h0.1 (by rw [ho.2.2]; exact h0.2) (by rw [ho.2.2]; exact hn) hd h
theorem x_zald (B : Cx p s m args c cc nL own D cA tys A) (hT : Tys cA tys) (hH : Hd D cA A s σ H locs) {b n : Nat} (ho : aOK σ b 103 n) (hn : n < 2 ^ 31) {x : Int} (h0 : 0 ≤ x ∧ x < n) (hd : decode cc pc = .ok (.baload, 1)) (h : W p l e R s m args below meth c H locs cells slots Q (F0 m (pc + 1) ls (.int (i32 (gI σ b x.toNat)) :: rest))) : W p l e R s m args below meth c H locs cells slots Q (F0 m pc ls (.int (i32 x) :: .ref b :: rest)) :=
  h_zald B hH ho.1 ho.2.1 3 hT.2.2.2 h0.1 (by rw [ho.2.2]; exact h0.2) (by rw [ho.2.2]; exact hn) hd h
theorem x_iast (B : Cx p s m args c cc nL own D cA tys A) (hT : Tys cA tys) (hH : Hd D cA A s σ H locs) {b n : Nat} (ho : aOK σ b 100 n) (hn : n < 2 ^ 31) {x : Int} {y : Int} (h0 : 0 ≤ x ∧ x < n) (hd : decode cc pc = .ok (.iastore, 1)) (h : ∀ (H1 : Heap) (locs1 : List Loc), Hd D cA A s (pI σ b x.toNat y) H1 locs1 → W p l e R s m args below meth c H1 locs1 cells slots Q (F0 m (pc + 1) ls rest)) : W p l e R s m args below meth c H locs cells slots Q (F0 m pc ls (.int (i32 y) :: .int (i32 x) :: .ref b :: rest)) :=
  h_iast B hH ho.1 ho.2.1 0 hT.1 h0.1 (by rw [ho.2.2]; exact h0.2) (by rw [ho.2.2]; exact hn) hd h
theorem x_last (B : Cx p s m args c cc nL own D cA tys A) (hT : Tys cA tys) (hH : Hd D cA A s σ H locs) {b n : Nat} (ho : aOK σ b 101 n) (hn : n < 2 ^ 31) {x : Int} {y : Int64} (h0 : 0 ≤ x ∧ x < n) (hd : decode cc pc = .ok (.lastore, 1)) (h : ∀ (H1 : Heap) (locs1 : List Loc), Hd D cA A s (pJ σ b x.toNat y) H1 locs1 → W p l e R s m args below meth c H1 locs1 cells slots Q (F0 m (pc + 1) ls rest)) : W p l e R s m args below meth c H locs cells slots Q (F0 m pc ls (.long y :: .int (i32 x) :: .ref b :: rest)) :=
  h_last B hH ho.1 ho.2.1 1 hT.2.1 h0.1 (by rw [ho.2.2]; exact h0.2) (by rw [ho.2.2]; exact hn) hd h
theorem x_bast (B : Cx p s m args c cc nL own D cA tys A) (hT : Tys cA tys) (hH : Hd D cA A s σ H locs) {b n : Nat} (ho : aOK σ b 102 n) (hn : n < 2 ^ 31) {x : Int} {y : Int} (h0 : 0 ≤ x ∧ x < n) (hd : decode cc pc = .ok (.bastore, 1)) (h : ∀ (H1 : Heap) (locs1 : List Loc), Hd D cA A s (pI σ b x.toNat (nB y)) H1 locs1 → W p l e R s m args below meth c H1 locs1 cells slots Q (F0 m (pc + 1) ls rest)) : W p l e R s m args below meth c H locs cells slots Q (F0 m pc ls (.int (i32 y) :: .int (i32 x) :: .ref b :: rest)) :=
  h_bast B hH ho.1 ho.2.1 2 hT.2.2.1 h0.1 (by rw [ho.2.2]; exact h0.2) (by rw [ho.2.2]; exact hn) hd h
theorem x_zast (B : Cx p s m args c cc nL own D cA tys A) (hT : Tys cA tys) (hH : Hd D cA A s σ H locs) {b n : Nat} (ho : aOK σ b 103 n) (hn : n < 2 ^ 31) {x : Int} {y : Int} (h0 : 0 ≤ x ∧ x < n) (hd : decode cc pc = .ok (.bastore, 1)) (h : ∀ (H1 : Heap) (locs1 : List Loc), Hd D cA A s (pI σ b x.toNat (nZ y)) H1 locs1 → W p l e R s m args below meth c H1 locs1 cells slots Q (F0 m (pc + 1) ls rest)) : W p l e R s m args below meth c H locs cells slots Q (F0 m pc ls (.int (i32 y) :: .int (i32 x) :: .ref b :: rest)) :=
  h_zast B hH ho.1 ho.2.1 3 hT.2.2.2 h0.1 (by rw [ho.2.2]; exact h0.2) (by rw [ho.2.2]; exact hn) hd h
end RF
/-! how the methods of the reference end -/
section EN
variable (p : Program) (l : Launch) (e : Env) (R : Room) (s : State) (m : MethodId) (args : Array Value) (below : List Frame) (meth : Method) (c : Code) (cc : ByteArray) (nL : Nat) (D : va_G) (cA : Nat → ClassId) (A : Nat → Prop) (n0 s0 : Nat) (QM : State → Prop) (dm : List Nat × Nat × Nat) (ra : Nat → Nat) (jx : Nat → Nat → Nat) (rm : Nat)
def HQV (Q : Sg → Unit → Prop) : Prop := ∀ (pc : Nat) (ls : Array Slot) (σ : Sg) (H : Heap) (locs : List Loc), decode cc pc = .ok (.return_, 1) → Hd D cA A s σ H locs → CB n0 s0 σ → Q σ () → RG σ → Shp dm ra jx rm σ → W p l e R s m args below meth c H locs (gc σ - n0) (gs σ - s0) QM (F0 m pc ls [])
def QnV (Q : Sg → Unit → Prop) : Sg → Option Value → Prop := fun σ' w => w = none ∧ Q σ' () ∧ RG σ' ∧ Shp dm ra jx rm σ'
def HQI (Q : Sg → Int → Prop) : Prop := ∀ (pc : Nat) (ls : Array Slot) (σ : Sg) (H : Heap) (locs : List Loc) (r : Int) (gr : rng r), decode cc pc = .ok (.ireturn, 1) → Hd D cA A s σ H locs → CB n0 s0 σ → Q σ r → RG σ → Shp dm ra jx rm σ → W p l e R s m args below meth c H locs (gc σ - n0) (gs σ - s0) QM (F0 m pc ls [.int (i32 r)])
def QnI (Q : Sg → Int → Prop) : Sg → Option Value → Prop := fun σ' w => ∃ r, w = some (.int (i32 r)) ∧ rng r ∧ Q σ' r ∧ RG σ' ∧ Shp dm ra jx rm σ'
def HQZ (Q : Sg → Int → Prop) : Prop := ∀ (pc : Nat) (ls : Array Slot) (σ : Sg) (H : Heap) (locs : List Loc) (r : Int) (gr : rng r) (gz : r = 0 ∨ r = 1), decode cc pc = .ok (.ireturn, 1) → Hd D cA A s σ H locs → CB n0 s0 σ → Q σ r → RG σ → Shp dm ra jx rm σ → W p l e R s m args below meth c H locs (gc σ - n0) (gs σ - s0) QM (F0 m pc ls [.int (i32 r)])
def QnZ (Q : Sg → Int → Prop) : Sg → Option Value → Prop := fun σ' w => ∃ r, w = some (.int (i32 r)) ∧ (rng r ∧ (r = 0 ∨ r = 1)) ∧ Q σ' r ∧ RG σ' ∧ Shp dm ra jx rm σ'
def HQJ (Q : Sg → Int64 → Prop) : Prop := ∀ (pc : Nat) (ls : Array Slot) (σ : Sg) (H : Heap) (locs : List Loc) (r : Int64), decode cc pc = .ok (.lreturn, 1) → Hd D cA A s σ H locs → CB n0 s0 σ → Q σ r → RG σ → Shp dm ra jx rm σ → W p l e R s m args below meth c H locs (gc σ - n0) (gs σ - s0) QM (F0 m pc ls [.long r])
def QnJ (Q : Sg → Int64 → Prop) : Sg → Option Value → Prop := fun σ' w => ∃ r, w = some (.long r) ∧ Q σ' r ∧ RG σ' ∧ Shp dm ra jx rm σ'
def HQC (Q : Sg → Int → Prop) : Prop := ∀ (pc : Nat) (ls : Array Slot) (σ : Sg) (H : Heap) (locs : List Loc) (r : Int) (gr : rng r) (gz : 0 ≤ r ∧ r < 65536), decode cc pc = .ok (.ireturn, 1) → Hd D cA A s σ H locs → CB n0 s0 σ → Q σ r → RG σ → Shp dm ra jx rm σ → W p l e R s m args below meth c H locs (gc σ - n0) (gs σ - s0) QM (F0 m pc ls [.int (i32 r)])
def QnC (Q : Sg → Int → Prop) : Sg → Option Value → Prop := fun σ' w => ∃ r, w = some (.int (i32 r)) ∧ (rng r ∧ (0 ≤ r ∧ r < 65536)) ∧ Q σ' r ∧ RG σ' ∧ Shp dm ra jx rm σ'
def HQA (Q : Sg → Option Nat → Prop) : Prop := ∀ (pc : Nat) (ls : Array Slot) (σ : Sg) (H : Heap) (locs : List Loc) (r : Option Nat), decode cc pc = .ok (.areturn, 1) → Hd D cA A s σ H locs → CB n0 s0 σ → Q σ r → RG σ → Shp dm ra jx rm σ → W p l e R s m args below meth c H locs (gc σ - n0) (gs σ - s0) QM (F0 m pc ls [va_rf r])
def QnA (Q : Sg → Option Nat → Prop) : Sg → Option Value → Prop := fun σ' w => ∃ r, w = some (va_rf r) ∧ Q σ' r ∧ RG σ' ∧ Shp dm ra jx rm σ'
def QxR (X : Sg → String → Prop) : Sg → String → Prop := fun σ' E => X σ' E ∧ RG σ' ∧ Shp dm ra jx rm σ'
def HX (X : Sg → String → Prop) : Prop := ∀ (σ : Sg) (E : String) (pc : Nat) (lo : List (Nat × Value)) (st : List Value), (∀ x ∈ c.exceptionTable.toList, covers x pc = false) → X σ E → RG σ → Shp dm ra jx rm σ → JX p l e R s m args below meth c nL D cA A n0 s0 QM σ E pc lo st
end EN
section OKS
variable {l : Launch} {cc : ByteArray} {nL : Nat} {D : va_G} {cA : Nat → ClassId} {tys : List (ClassId × FieldType)} {A : Nat → Prop} {dm : List Nat × Nat × Nat} {ra : Nat → Nat} {jx : Nat → Nat → Nat} {rm : Nat} {σ0 : Sg} {Qn : Sg → Option Value → Prop} {Qx : Sg → String → Prop} {X : Sg → String → Prop} {y : MethodName} {fr lw : Nat} {as : List Value}
/-- as the kit's, for a class some of whose methods are the machine's own -/
theorem vf_ofW {ws ws' : List Cond} {rm9 : Room} {Pc : Array Value → State → Prop} {Qc : Array Value → State → Outcome → State → Prop} {XC : String → State → State → Prop} {mc ms : Nat} {free : Addr → Prop} {ret : Option FieldType}
    (hy : plainFor y = true) (hw : ws = Cond.code y cc nL ret :: ws')
    (body : ∀ p e s m args below meth c s₁, BodyLoose p l y (headSpec ws rm9) cc nL ret e s m args below meth c s₁ → c.maxLocals = nL → (∀ x ∈ c.exceptionTable.toList, False) → Pc args s → W p l e (headSpec ws rm9).room s m args below meth c s.heap [] 0 0 (vx_MQ below Qc XC args s mc ms free) (entryFrame m args nL)) : vx_Met l y ws rm9 Pc Qc XC mc ms free := by
  refine MetFree.of_bodySF (code := cc) (maxLocals := nL) (ret := ret) hy ?_ ?_
  · intro args s m h hn
    obtain ⟨meth, c, h1, h2, h3, h4, h5, h6, -, -⟩ := Cond.code_spec hn (atoms_spec (ws := ws) h _ (by rw [hw]; exact List.mem_cons_self))
    exact ⟨meth, c, h1, h2, h3, h4, h5, h6⟩
  · intro p e s m args below meth c s₁ B hml hP _
    have hh0 : s₁.heap = s.heap := by rw [B.state]; rfl
    have ht : ∀ x ∈ c.exceptionTable.toList, False := by
      obtain ⟨meth9, c9, h1, h2, -, -, -, -, h7, -⟩ := Cond.code_spec B.named (atoms_spec (ws := ws) B.pre _ (by rw [hw]; exact List.mem_cons_self))
      cases Option.some.inj (h1.symm.trans B.method)
      cases Option.some.inj (h2.symm.trans (Stand.of_body B).code)
      intro x hx
      rw [Array.isEmpty_iff.mp h7] at hx
      cases hx
    obtain ⟨t, a1, o, b1, b2, b3⟩ := body p e s m args below meth c s₁ B hml ht hP s₁ hh0 (Stand.of_body B)
    exact ⟨t, o, a1, b1, b2, b3⟩
theorem ok_ofF {ret : Option FieldType} (hy : plainFor y = true) (hw : (lg_sl as).length ≤ nL)
    (body : ∀ (p : Program) (e : Env) (R : Room) (s : State) (m : MethodId) (args : Array Value) (below : List Frame) (meth : Method) (c : Code), R = { frames := fr, cells := BC - gc σ0, slots := BS - gs σ0, locals := lw } → Cx p s m args c cc nL y.cls D cA tys A → meth.sig.returnType = ret → meth.locks = false → (∀ x ∈ c.exceptionTable.toList, False) →
      JJ p l e R s m args below meth c nL D cA A (gc σ0) (gs σ0) (vx_MQ below (Qw D cA A σ0 Qn) (Xw D cA A σ0 Qx) args s (BC - gc σ0) (BS - gs σ0) A) σ0 0 (lv_args 0 as) []) :
    Ok l D cA tys A y (.code y cc nL ret) fr lw as σ0 Qn Qx := by
  refine vf_ofW (cc := cc) (nL := nL) (ret := ret) hy rfl ?_
  intro p e s m args below meth c s₁ B hml hex hv
  obtain ⟨rfl, hP, hD, hK, hA, hF, hZ, hg1, hg2⟩ := hv
  have hts := atoms_spec (ws := Cond.code y cc nL ret :: WAL) B.pre
  have hl := lv_entry as (n := nL) hw
  rw [lg_entry_eq]
  have h := body p e _ s m as.toArray below meth c rfl ⟨B.exec, B.bytes, findClass_of_methodNamed B.named, fun w hw => hts w (List.mem_cons_of_mem _ hw), hK, hml, hA, hF, hZ⟩ B.returns B.notSynchronized hex s.heap [] _ ⟨hP, hD, va_S.rf⟩ hl ⟨Nat.le_refl _, Nat.le_refl _, hg1, hg2⟩
  rw [Nat.sub_self, Nat.sub_self] at h
  exact h
/-- a method with a table, out of its body -/
theorem ok_ofH {ret : Option FieldType} {hh : List (Nat × Nat × Nat × Nat)} (hy : plainName y.cls = true) (hw : (lg_sl as).length ≤ nL)
    (body : ∀ (p : Program) (e : Env) (R : Room) (s : State) (m : MethodId) (args : Array Value) (below : List Frame) (meth : Method) (c : Code), R = { frames := fr, cells := BC - gc σ0, slots := BS - gs σ0, locals := lw } → Cx p s m args c cc nL y.cls D cA tys A → meth.sig.returnType = ret → meth.locks = false → c.exceptionTable.toList = tableOf hh →
      JJ p l e R s m args below meth c nL D cA A (gc σ0) (gs σ0) (vx_MQ below (Qw D cA A σ0 Qn) (Xw D cA A σ0 Qx) args s (BC - gc σ0) (BS - gs σ0) A) σ0 0 (lv_args 0 as) []) :
    Ok l D cA tys A y (.codeWith y cc nL ret hh) fr lw as σ0 Qn Qx := by
  refine vx_ofWH (cc := cc) (maxL := nL) (ret := ret) (hh := hh) hy rfl ?_
  intro p e s m args below meth c s₁ B hml hv
  obtain ⟨rfl, hP, hD, hK, hA, hF, hZ, hg1, hg2⟩ := hv
  have hts := atoms_spec (ws := Cond.codeWith y cc nL ret hh :: WAL) B.pre
  have htab := vx_table (x := y) B (hts _ List.mem_cons_self)
  have hl := lv_entry as (n := nL) hw
  rw [lg_entry_eq]
  have h := body p e _ s m as.toArray below meth c rfl ⟨B.exec, B.bytes, findClass_of_methodNamed B.named, fun w hw => hts w (List.mem_cons_of_mem _ hw), hK, hml, hA, hF, hZ⟩ B.returns B.notSynchronized htab s.heap [] _ ⟨hP, hD, va_S.rf⟩ hl ⟨Nat.le_refl _, Nat.le_refl _, hg1, hg2⟩
  rw [Nat.sub_self, Nat.sub_self] at h
  exact h
theorem ok_V {Q : Sg → Unit → Prop} (hy : plainFor y = true) (hw : (lg_sl as).length ≤ nL) (hT : Tys cA tys)
    (body : ∀ (p : Program) (e : Env) (R : Room) (s : State) (m : MethodId) (args : Array Value) (below : List Frame) (meth : Method) (c : Code), MC R p s m args c cc nL y.cls D cA tys A (gc σ0) (gs σ0) fr lw [] → HQV p l e R s m args below meth c cc D cA A (gc σ0) (gs σ0) (vx_MQ below (Qw D cA A σ0 (QnV dm ra jx rm Q)) (Xw D cA A σ0 (QxR dm ra jx rm X)) args s (BC - gc σ0) (BS - gs σ0) A) dm ra jx rm Q → HX p l e R s m args below meth c nL D cA A (gc σ0) (gs σ0) (vx_MQ below (Qw D cA A σ0 (QnV dm ra jx rm Q)) (Xw D cA A σ0 (QxR dm ra jx rm X)) args s (BC - gc σ0) (BS - gs σ0) A) dm ra jx rm X → JJ p l e R s m args below meth c nL D cA A (gc σ0) (gs σ0) (vx_MQ below (Qw D cA A σ0 (QnV dm ra jx rm Q)) (Xw D cA A σ0 (QxR dm ra jx rm X)) args s (BC - gc σ0) (BS - gs σ0) A) σ0 0 (lv_args 0 as) []) :
    Ok l D cA tys A y (.code y cc nL none) fr lw as σ0 (QnV dm ra jx rm Q) (QxR dm ra jx rm X) := by
  refine ok_ofF (ret := none) hy hw ?_
  intro p e R s m args below meth c hRR B hr hlocks htab
  refine body p e R s m args below meth c ⟨B, hT, by rw [hRR]; exact ⟨rfl, rfl⟩, by rw [hRR]; exact Nat.le_refl _, by rw [hRR]; exact Nat.le_refl _, (List.eq_nil_iff_forall_not_mem.mpr (fun x hx => htab x hx))⟩ (fun pc ls σ9 H locs hd hH hc hq hG9 hS9 => e_vret B hH hc hr hlocks ⟨rfl, hq, hG9, hS9⟩ hd) ?_
  exact fun σ9 E pc lo st hout hx hG9 hS9 H locs ls ce q hH hl hc hce hcv hcl => e_out hH hc hout hlocks hce hcv hcl ⟨hx, hG9, hS9⟩
theorem ok_I {Q : Sg → Int → Prop} (hy : plainFor y = true) (hw : (lg_sl as).length ≤ nL) (hT : Tys cA tys)
    (body : ∀ (p : Program) (e : Env) (R : Room) (s : State) (m : MethodId) (args : Array Value) (below : List Frame) (meth : Method) (c : Code), MC R p s m args c cc nL y.cls D cA tys A (gc σ0) (gs σ0) fr lw [] → HQI p l e R s m args below meth c cc D cA A (gc σ0) (gs σ0) (vx_MQ below (Qw D cA A σ0 (QnI dm ra jx rm Q)) (Xw D cA A σ0 (QxR dm ra jx rm X)) args s (BC - gc σ0) (BS - gs σ0) A) dm ra jx rm Q → HX p l e R s m args below meth c nL D cA A (gc σ0) (gs σ0) (vx_MQ below (Qw D cA A σ0 (QnI dm ra jx rm Q)) (Xw D cA A σ0 (QxR dm ra jx rm X)) args s (BC - gc σ0) (BS - gs σ0) A) dm ra jx rm X → JJ p l e R s m args below meth c nL D cA A (gc σ0) (gs σ0) (vx_MQ below (Qw D cA A σ0 (QnI dm ra jx rm Q)) (Xw D cA A σ0 (QxR dm ra jx rm X)) args s (BC - gc σ0) (BS - gs σ0) A) σ0 0 (lv_args 0 as) []) :
    Ok l D cA tys A y (.code y cc nL (some .int)) fr lw as σ0 (QnI dm ra jx rm Q) (QxR dm ra jx rm X) := by
  refine ok_ofF (ret := (some .int)) hy hw ?_
  intro p e R s m args below meth c hRR B hr hlocks htab
  refine body p e R s m args below meth c ⟨B, hT, by rw [hRR]; exact ⟨rfl, rfl⟩, by rw [hRR]; exact Nat.le_refl _, by rw [hRR]; exact Nat.le_refl _, (List.eq_nil_iff_forall_not_mem.mpr (fun x hx => htab x hx))⟩ (fun pc ls σ9 H locs r gr hd hH hc hq hG9 hS9 => e_iret B hH hc hr rfl hlocks ⟨r, rfl, gr, hq, hG9, hS9⟩ hd) ?_
  exact fun σ9 E pc lo st hout hx hG9 hS9 H locs ls ce q hH hl hc hce hcv hcl => e_out hH hc hout hlocks hce hcv hcl ⟨hx, hG9, hS9⟩
theorem ok_IH {Q : Sg → Int → Prop} {hh : List (Nat × Nat × Nat × Nat)} (hyn : plainName y.cls = true) (hy : plainFor y = true) (hw : (lg_sl as).length ≤ nL) (hT : Tys cA tys)
    (body : ∀ (p : Program) (e : Env) (R : Room) (s : State) (m : MethodId) (args : Array Value) (below : List Frame) (meth : Method) (c : Code), MC R p s m args c cc nL y.cls D cA tys A (gc σ0) (gs σ0) fr lw hh → HQI p l e R s m args below meth c cc D cA A (gc σ0) (gs σ0) (vx_MQ below (Qw D cA A σ0 (QnI dm ra jx rm Q)) (Xw D cA A σ0 (QxR dm ra jx rm X)) args s (BC - gc σ0) (BS - gs σ0) A) dm ra jx rm Q → HX p l e R s m args below meth c nL D cA A (gc σ0) (gs σ0) (vx_MQ below (Qw D cA A σ0 (QnI dm ra jx rm Q)) (Xw D cA A σ0 (QxR dm ra jx rm X)) args s (BC - gc σ0) (BS - gs σ0) A) dm ra jx rm X → JJ p l e R s m args below meth c nL D cA A (gc σ0) (gs σ0) (vx_MQ below (Qw D cA A σ0 (QnI dm ra jx rm Q)) (Xw D cA A σ0 (QxR dm ra jx rm X)) args s (BC - gc σ0) (BS - gs σ0) A) σ0 0 (lv_args 0 as) []) :
    Ok l D cA tys A y (.codeWith y cc nL (some .int) hh) fr lw as σ0 (QnI dm ra jx rm Q) (QxR dm ra jx rm X) := by
  refine ok_ofH (ret := (some .int)) hyn hw ?_
  intro p e R s m args below meth c hRR B hr hlocks htab
  refine body p e R s m args below meth c ⟨B, hT, by rw [hRR]; exact ⟨rfl, rfl⟩, by rw [hRR]; exact Nat.le_refl _, by rw [hRR]; exact Nat.le_refl _, htab⟩ (fun pc ls σ9 H locs r gr hd hH hc hq hG9 hS9 => e_iret B hH hc hr rfl hlocks ⟨r, rfl, gr, hq, hG9, hS9⟩ hd) ?_
  exact fun σ9 E pc lo st hout hx hG9 hS9 H locs ls ce q hH hl hc hce hcv hcl => e_out hH hc hout hlocks hce hcv hcl ⟨hx, hG9, hS9⟩
theorem ok_Z {Q : Sg → Int → Prop} (hy : plainFor y = true) (hw : (lg_sl as).length ≤ nL) (hT : Tys cA tys)
    (body : ∀ (p : Program) (e : Env) (R : Room) (s : State) (m : MethodId) (args : Array Value) (below : List Frame) (meth : Method) (c : Code), MC R p s m args c cc nL y.cls D cA tys A (gc σ0) (gs σ0) fr lw [] → HQZ p l e R s m args below meth c cc D cA A (gc σ0) (gs σ0) (vx_MQ below (Qw D cA A σ0 (QnZ dm ra jx rm Q)) (Xw D cA A σ0 (QxR dm ra jx rm X)) args s (BC - gc σ0) (BS - gs σ0) A) dm ra jx rm Q → HX p l e R s m args below meth c nL D cA A (gc σ0) (gs σ0) (vx_MQ below (Qw D cA A σ0 (QnZ dm ra jx rm Q)) (Xw D cA A σ0 (QxR dm ra jx rm X)) args s (BC - gc σ0) (BS - gs σ0) A) dm ra jx rm X → JJ p l e R s m args below meth c nL D cA A (gc σ0) (gs σ0) (vx_MQ below (Qw D cA A σ0 (QnZ dm ra jx rm Q)) (Xw D cA A σ0 (QxR dm ra jx rm X)) args s (BC - gc σ0) (BS - gs σ0) A) σ0 0 (lv_args 0 as) []) :
    Ok l D cA tys A y (.code y cc nL (some .boolean)) fr lw as σ0 (QnZ dm ra jx rm Q) (QxR dm ra jx rm X) := by
  refine ok_ofF (ret := (some .boolean)) hy hw ?_
  intro p e R s m args below meth c hRR B hr hlocks htab
  refine body p e R s m args below meth c ⟨B, hT, by rw [hRR]; exact ⟨rfl, rfl⟩, by rw [hRR]; exact Nat.le_refl _, by rw [hRR]; exact Nat.le_refl _, (List.eq_nil_iff_forall_not_mem.mpr (fun x hx => htab x hx))⟩ (fun pc ls σ9 H locs r gr gz hd hH hc hq hG9 hS9 => e_iret B hH hc hr (by rcases gz with e9 | e9 <;> rw [e9] <;> rfl) hlocks ⟨r, rfl, ⟨gr, gz⟩, hq, hG9, hS9⟩ hd) ?_
  exact fun σ9 E pc lo st hout hx hG9 hS9 H locs ls ce q hH hl hc hce hcv hcl => e_out hH hc hout hlocks hce hcv hcl ⟨hx, hG9, hS9⟩
theorem ok_ZH {Q : Sg → Int → Prop} {hh : List (Nat × Nat × Nat × Nat)} (hyn : plainName y.cls = true) (hy : plainFor y = true) (hw : (lg_sl as).length ≤ nL) (hT : Tys cA tys)
    (body : ∀ (p : Program) (e : Env) (R : Room) (s : State) (m : MethodId) (args : Array Value) (below : List Frame) (meth : Method) (c : Code), MC R p s m args c cc nL y.cls D cA tys A (gc σ0) (gs σ0) fr lw hh → HQZ p l e R s m args below meth c cc D cA A (gc σ0) (gs σ0) (vx_MQ below (Qw D cA A σ0 (QnZ dm ra jx rm Q)) (Xw D cA A σ0 (QxR dm ra jx rm X)) args s (BC - gc σ0) (BS - gs σ0) A) dm ra jx rm Q → HX p l e R s m args below meth c nL D cA A (gc σ0) (gs σ0) (vx_MQ below (Qw D cA A σ0 (QnZ dm ra jx rm Q)) (Xw D cA A σ0 (QxR dm ra jx rm X)) args s (BC - gc σ0) (BS - gs σ0) A) dm ra jx rm X → JJ p l e R s m args below meth c nL D cA A (gc σ0) (gs σ0) (vx_MQ below (Qw D cA A σ0 (QnZ dm ra jx rm Q)) (Xw D cA A σ0 (QxR dm ra jx rm X)) args s (BC - gc σ0) (BS - gs σ0) A) σ0 0 (lv_args 0 as) []) :
    Ok l D cA tys A y (.codeWith y cc nL (some .boolean) hh) fr lw as σ0 (QnZ dm ra jx rm Q) (QxR dm ra jx rm X) := by
  refine ok_ofH (ret := (some .boolean)) hyn hw ?_
  intro p e R s m args below meth c hRR B hr hlocks htab
  refine body p e R s m args below meth c ⟨B, hT, by rw [hRR]; exact ⟨rfl, rfl⟩, by rw [hRR]; exact Nat.le_refl _, by rw [hRR]; exact Nat.le_refl _, htab⟩ (fun pc ls σ9 H locs r gr gz hd hH hc hq hG9 hS9 => e_iret B hH hc hr (by rcases gz with e9 | e9 <;> rw [e9] <;> rfl) hlocks ⟨r, rfl, ⟨gr, gz⟩, hq, hG9, hS9⟩ hd) ?_
  exact fun σ9 E pc lo st hout hx hG9 hS9 H locs ls ce q hH hl hc hce hcv hcl => e_out hH hc hout hlocks hce hcv hcl ⟨hx, hG9, hS9⟩
theorem ok_J {Q : Sg → Int64 → Prop} (hy : plainFor y = true) (hw : (lg_sl as).length ≤ nL) (hT : Tys cA tys)
    (body : ∀ (p : Program) (e : Env) (R : Room) (s : State) (m : MethodId) (args : Array Value) (below : List Frame) (meth : Method) (c : Code), MC R p s m args c cc nL y.cls D cA tys A (gc σ0) (gs σ0) fr lw [] → HQJ p l e R s m args below meth c cc D cA A (gc σ0) (gs σ0) (vx_MQ below (Qw D cA A σ0 (QnJ dm ra jx rm Q)) (Xw D cA A σ0 (QxR dm ra jx rm X)) args s (BC - gc σ0) (BS - gs σ0) A) dm ra jx rm Q → HX p l e R s m args below meth c nL D cA A (gc σ0) (gs σ0) (vx_MQ below (Qw D cA A σ0 (QnJ dm ra jx rm Q)) (Xw D cA A σ0 (QxR dm ra jx rm X)) args s (BC - gc σ0) (BS - gs σ0) A) dm ra jx rm X → JJ p l e R s m args below meth c nL D cA A (gc σ0) (gs σ0) (vx_MQ below (Qw D cA A σ0 (QnJ dm ra jx rm Q)) (Xw D cA A σ0 (QxR dm ra jx rm X)) args s (BC - gc σ0) (BS - gs σ0) A) σ0 0 (lv_args 0 as) []) :
    Ok l D cA tys A y (.code y cc nL (some .long)) fr lw as σ0 (QnJ dm ra jx rm Q) (QxR dm ra jx rm X) := by
  refine ok_ofF (ret := (some .long)) hy hw ?_
  intro p e R s m args below meth c hRR B hr hlocks htab
  refine body p e R s m args below meth c ⟨B, hT, by rw [hRR]; exact ⟨rfl, rfl⟩, by rw [hRR]; exact Nat.le_refl _, by rw [hRR]; exact Nat.le_refl _, (List.eq_nil_iff_forall_not_mem.mpr (fun x hx => htab x hx))⟩ (fun pc ls σ9 H locs r hd hH hc hq hG9 hS9 => e_lret B hH hc hr hlocks ⟨r, rfl, hq, hG9, hS9⟩ hd) ?_
  exact fun σ9 E pc lo st hout hx hG9 hS9 H locs ls ce q hH hl hc hce hcv hcl => e_out hH hc hout hlocks hce hcv hcl ⟨hx, hG9, hS9⟩
theorem ok_C {Q : Sg → Int → Prop} (hy : plainFor y = true) (hw : (lg_sl as).length ≤ nL) (hT : Tys cA tys)
    (body : ∀ (p : Program) (e : Env) (R : Room) (s : State) (m : MethodId) (args : Array Value) (below : List Frame) (meth : Method) (c : Code), MC R p s m args c cc nL y.cls D cA tys A (gc σ0) (gs σ0) fr lw [] → HQC p l e R s m args below meth c cc D cA A (gc σ0) (gs σ0) (vx_MQ below (Qw D cA A σ0 (QnC dm ra jx rm Q)) (Xw D cA A σ0 (QxR dm ra jx rm X)) args s (BC - gc σ0) (BS - gs σ0) A) dm ra jx rm Q → HX p l e R s m args below meth c nL D cA A (gc σ0) (gs σ0) (vx_MQ below (Qw D cA A σ0 (QnC dm ra jx rm Q)) (Xw D cA A σ0 (QxR dm ra jx rm X)) args s (BC - gc σ0) (BS - gs σ0) A) dm ra jx rm X → JJ p l e R s m args below meth c nL D cA A (gc σ0) (gs σ0) (vx_MQ below (Qw D cA A σ0 (QnC dm ra jx rm Q)) (Xw D cA A σ0 (QxR dm ra jx rm X)) args s (BC - gc σ0) (BS - gs σ0) A) σ0 0 (lv_args 0 as) []) :
    Ok l D cA tys A y (.code y cc nL (some .char)) fr lw as σ0 (QnC dm ra jx rm Q) (QxR dm ra jx rm X) := by
  refine ok_ofF (ret := (some .char)) hy hw ?_
  intro p e R s m args below meth c hRR B hr hlocks htab
  refine body p e R s m args below meth c ⟨B, hT, by rw [hRR]; exact ⟨rfl, rfl⟩, by rw [hRR]; exact Nat.le_refl _, by rw [hRR]; exact Nat.le_refl _, (List.eq_nil_iff_forall_not_mem.mpr (fun x hx => htab x hx))⟩ (fun pc ls σ9 H locs r gr gz hd hH hc hq hG9 hS9 => e_iret B hH hc hr (nar_char gz) hlocks ⟨r, rfl, ⟨gr, gz⟩, hq, hG9, hS9⟩ hd) ?_
  exact fun σ9 E pc lo st hout hx hG9 hS9 H locs ls ce q hH hl hc hce hcv hcl => e_out hH hc hout hlocks hce hcv hcl ⟨hx, hG9, hS9⟩
theorem ok_A {Q : Sg → Option Nat → Prop} {nO : String} (hy : plainFor y = true) (hw : (lg_sl as).length ≤ nL) (hT : Tys cA tys)
    (body : ∀ (p : Program) (e : Env) (R : Room) (s : State) (m : MethodId) (args : Array Value) (below : List Frame) (meth : Method) (c : Code), MC R p s m args c cc nL y.cls D cA tys A (gc σ0) (gs σ0) fr lw [] → HQA p l e R s m args below meth c cc D cA A (gc σ0) (gs σ0) (vx_MQ below (Qw D cA A σ0 (QnA dm ra jx rm Q)) (Xw D cA A σ0 (QxR dm ra jx rm X)) args s (BC - gc σ0) (BS - gs σ0) A) dm ra jx rm Q → HX p l e R s m args below meth c nL D cA A (gc σ0) (gs σ0) (vx_MQ below (Qw D cA A σ0 (QnA dm ra jx rm Q)) (Xw D cA A σ0 (QxR dm ra jx rm X)) args s (BC - gc σ0) (BS - gs σ0) A) dm ra jx rm X → JJ p l e R s m args below meth c nL D cA A (gc σ0) (gs σ0) (vx_MQ below (Qw D cA A σ0 (QnA dm ra jx rm Q)) (Xw D cA A σ0 (QxR dm ra jx rm X)) args s (BC - gc σ0) (BS - gs σ0) A) σ0 0 (lv_args 0 as) []) :
    Ok l D cA tys A y (.code y cc nL (some (.object nO))) fr lw as σ0 (QnA dm ra jx rm Q) (QxR dm ra jx rm X) := by
  refine ok_ofF (ret := (some (.object nO))) hy hw ?_
  intro p e R s m args below meth c hRR B hr hlocks htab
  refine body p e R s m args below meth c ⟨B, hT, by rw [hRR]; exact ⟨rfl, rfl⟩, by rw [hRR]; exact Nat.le_refl _, by rw [hRR]; exact Nat.le_refl _, (List.eq_nil_iff_forall_not_mem.mpr (fun x hx => htab x hx))⟩ (fun pc ls σ9 H locs r hd hH hc hq hG9 hS9 => e_aret B hH hc hr (Or.inl ⟨_, rfl⟩) (by cases r with | none => exact Or.inl rfl | some a => exact Or.inr ⟨a, rfl⟩) hlocks ⟨r, rfl, hq, hG9, hS9⟩ hd) ?_
  exact fun σ9 E pc lo st hout hx hG9 hS9 H locs ls ce q hH hl hc hce hcv hcl => e_out hH hc hout hlocks hce hcv hcl ⟨hx, hG9, hS9⟩
theorem ok_B {Q : Sg → Int → Prop} (hy : plainFor y = true) (hw : (lg_sl as).length ≤ nL) (hT : Tys cA tys)
    (body : ∀ (p : Program) (e : Env) (R : Room) (s : State) (m : MethodId) (args : Array Value) (below : List Frame) (meth : Method) (c : Code), MC R p s m args c cc nL y.cls D cA tys A (gc σ0) (gs σ0) fr lw [] → HQZ p l e R s m args below meth c cc D cA A (gc σ0) (gs σ0) (vx_MQ below (Qw D cA A σ0 (QnZ dm ra jx rm Q)) (Xw D cA A σ0 (QxR dm ra jx rm X)) args s (BC - gc σ0) (BS - gs σ0) A) dm ra jx rm Q → HX p l e R s m args below meth c nL D cA A (gc σ0) (gs σ0) (vx_MQ below (Qw D cA A σ0 (QnZ dm ra jx rm Q)) (Xw D cA A σ0 (QxR dm ra jx rm X)) args s (BC - gc σ0) (BS - gs σ0) A) dm ra jx rm X → JJ p l e R s m args below meth c nL D cA A (gc σ0) (gs σ0) (vx_MQ below (Qw D cA A σ0 (QnZ dm ra jx rm Q)) (Xw D cA A σ0 (QxR dm ra jx rm X)) args s (BC - gc σ0) (BS - gs σ0) A) σ0 0 (lv_args 0 as) []) :
    Ok l D cA tys A y (.code y cc nL (some .byte)) fr lw as σ0 (QnZ dm ra jx rm Q) (QxR dm ra jx rm X) := by
  refine ok_ofF (ret := (some .byte)) hy hw ?_
  intro p e R s m args below meth c hRR B hr hlocks htab
  refine body p e R s m args below meth c ⟨B, hT, by rw [hRR]; exact ⟨rfl, rfl⟩, by rw [hRR]; exact Nat.le_refl _, by rw [hRR]; exact Nat.le_refl _, (List.eq_nil_iff_forall_not_mem.mpr (fun x hx => htab x hx))⟩ (fun pc ls σ9 H locs r gr gz hd hH hc hq hG9 hS9 => e_iret B hH hc hr (by rcases gz with e9 | e9 <;> rw [e9] <;> rfl) hlocks ⟨r, rfl, ⟨gr, gz⟩, hq, hG9, hS9⟩ hd) ?_
  exact fun σ9 E pc lo st hout hx hG9 hS9 H locs ls ce q hH hl hc hce hcv hcl => e_out hH hc hout hlocks hce hcv hcl ⟨hx, hG9, hS9⟩
end OKS
section CLX
variable {p : Program} {l : Launch} {e : Env} {R : Room} {s : State} {m : MethodId} {args : Array Value} {below : List Frame} {meth : Method} {c : Code} {cc : ByteArray} {nL : Nat} {own : String} {D : va_G} {cA : Nat → ClassId} {tys : List (ClassId × FieldType)} {A : Nat → Prop} {n0 s0 : Nat} {Q : State → Prop} {σ : Sg} {pc : Nat} {lo : List (Nat × Value)} {ls : Array Slot} {H : Heap} {locs : List Loc} {rest : List Value} {Qn : Sg → Option Value → Prop} {Qx : Sg → String → Prop} {y : MethodName} {bytes : ByteArray} {maxL fr lw index : Nat} {ret : Option FieldType}
/-- invokevirtual of a method with a table -/
theorem c_VH {hh : List (Nat × Nat × Nat × Nat)} (B : Cx p s m args c cc nL own D cA tys A) (hH : Hd D cA A s σ H locs) (hl : lv_has ls nL lo) (hc : CB n0 s0 σ) (hR : Rm R n0 s0) {C : String} {T : u_T} {N ci b : Nat} {As : List Value} (hO : Ok l D cA tys A y (.codeWith y bytes maxL ret hh) fr lw (.ref b :: As) σ Qn Qx) (hw : ∀ w ∈ [Cond.methodLink own index y, .instanceMethod y, .selects C y y, .initialized C, .codeWith y bytes maxL ret hh], w ∈ WAL) (n : Nat) (hd0 : y.cls = C ∧ y.cls ≠ "java/lang/invoke/MethodHandle" ∧ y.cls ≠ "java/lang/invoke/VarHandle" ∧ (parseMethodDescriptor y.desc).map (fun d => d.parameters.length) = some n) (hrm : fr + 1 ≤ R.frames ∧ 8 + (maxL + 11) + lw ≤ R.locals)
    (ha : b ∈ gD σ) (hk : gk σ b = ci) (hci : ci < 100) (hcl : vwCl[ci]? = some (C, T, N)) (hn : As.length = n) {st0 : List Value} (hst : st0 = As.reverse ++ .ref b :: rest) (hW : (rest.map fun v => v.category).sum ≤ 8) (hd : decode cc pc = .ok (.invokevirtual index, 3))
    (k : ∀ (σ' : Sg) (v : Option Value), Qn σ' v → JJ p l e R s m args below meth c nL D cA A n0 s0 Q σ' (pc + 3) lo (v.toList ++ rest)) (kx : ∀ (σ' : Sg) (E : String), Qx σ' E → JX p l e R s m args below meth c nL D cA A n0 s0 Q σ' E pc lo rest) :
    W p l e R s m args below meth c H locs (gc σ - n0) (gs σ - s0) Q (F0 m pc ls st0) := by
  subst hst
  obtain ⟨q0, hq⟩ := wd_get (cA := cA) ha
  rw [ent_obj hk hcl hci] at hq
  refine j_after (a := (Value.ref b :: As).toArray) (vx_runVX (As := As) (rest := rest) (b := b) (C := C) ⟨B.1, B.2.1, B.2.2.2.2.2.1, B.2.2.1, B.2.2.2.1⟩ hO (vx_cwVW n B.2.2.2.1 (wal_good (wal_app (fun w h => hw w (by simp only [List.mem_cons, List.not_mem_nil, or_false] at h ⊢; rcases h with h | h | h | h <;> simp [h])) (wal_self (hw _ (by simp))))) rfl rfl rfl hd0 hrm) ⟨pw_blind _, va_recv B.2.2.2.2.1 hH.1 (ci := ci) (q0 := q0) hcl hq, fun U hU hW => pw_here B hH hc _ U hU hW⟩ rfl hn hl.1 rfl (lv_room hW) hd ⟨?_, ?_⟩) hH hl hc k kx
  · have h1 := hc.1; have h2 := hc.2.2.1; rw [hR.1]; omega
  · have h1 := hc.2.1; have h2 := hc.2.2.2; rw [hR.2]; omega
/-- caught by a row of this method's table -/
theorem h_catchP (B : Cx p s m args c cc nL own D cA tys A) {E : String} (pre : List ExceptionTableEntry) {x : ExceptionTableEntry} {suf : List ExceptionTableEntry} (htab : c.exceptionTable.toList = pre ++ x :: suf) (hpre : pre.all (fun z => !covers z pc) = true) (hcov : covers x pc = true) (hz : x.catchType ≠ 0) (hlink : Cond.classLink own x.catchType E ∈ WAL) (hcs : (E, E) ∈ csL) (k : ∀ q : Nat, JJ p l e R s m args below meth c nL D cA A n0 s0 Q σ x.handlerPc lo [.ref q]) : JX p l e R s m args below meth c nL D cA A n0 s0 Q σ E pc lo rest := by
  intro H locs ls ce q hH hl hc hce hcv hcl
  exact vx_catch (own := own) (name := E) (E := E) B.2.2.1 pre x suf htab (fun z hz => Or.inl (by
    have := List.all_eq_true.mp hpre z hz
    cases h9 : covers z pc with
    | false => rfl
    | true => rw [h9] at this; exact absurd this (by decide))) hcov hz (B.2.2.2.1 _ hlink) (va_Nw.use rfl (B.2.2.2.2.2.2.2.1.2.2.1 (E, E) hcs)) hce hcv hcl (k q H locs ls hH hl hc)
end CLX

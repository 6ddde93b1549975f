/-! the class over the machine: every reference is null or what its field says -/
def tkT : List (Nat × Nat × Nat) := [(0, 0, 101), (0, 1, 0), (1, 0, 0), (1, 1, 0), (2, 0, 1), (3, 0, 120), (3, 1, 120), (4, 0, 115), (4, 3, 100), (4, 4, 100), (4, 5, 100), (4, 6, 101), (4, 8, 101), (4, 11, 200), (4, 12, 100), (4, 13, 103), (5, 0, 101), (5, 1, 100), (5, 2, 100), (6, 0, 102), (6, 7, 4), (6, 8, 5), (7, 0, 8), (7, 1, 11), (7, 2, 10), (7, 3, 111), (7, 4, 1), (7, 5, 4), (8, 0, 0), (8, 2, 101), (9, 0, 8), (9, 1, 11), (9, 2, 3), (9, 3, 120), (9, 4, 112), (9, 5, 100), (9, 6, 111), (9, 7, 111), (9, 8, 111), (9, 9, 4), (10, 2, 1), (10, 3, 1), (10, 4, 1), (11, 0, 8), (11, 2, 1), (11, 3, 101), (11, 5, 4), (12, 0, 102), (12, 3, 6), (12, 4, 4), (12, 5, 4), (12, 6, 8), (12, 7, 9), (12, 8, 7)]
def tk (c k : Nat) : Option Nat := if c = 200 then some 101 else if 110 ≤ c then some (c - 110) else (tkT.find? (fun q => q.1 == c && q.2.1 == k)).map (fun q => q.2.2)
def TY (σ : Sg) : Prop := (∀ a ∈ gD σ, ∀ k b, gP σ a k = some b → b ∈ gD σ ∧ tk (gk σ a) k = some (gk σ b)) ∧ ∀ a, gn σ a < 2147483648
section TYS
variable {σ : Sg} {a k c d q n : Nat} {v : Option Nat}
theorem TY.get (h : TY σ) (ha : kO σ a c) (ht : tk c k = some d) : tyV σ d (gP σ a k) := by
  intro b e
  obtain ⟨h1, h2⟩ := h.1 a ha.1 k b e
  rw [ha.2, ht] at h2
  exact ⟨h1, (Option.some.inj h2).symm⟩
theorem TY.pI {x : Int} (h : TY σ) : TY (pI σ a k x) := h
theorem TY.pJ {x : Int64} (h : TY σ) : TY (pJ σ a k x) := h
theorem TY.pP (h : TY σ) (ha : kO σ a c) (ht : tk c k = some d) (hv : tyV σ d v) : TY (pP σ a k v) := by
  refine ⟨?_, h.2⟩
  intro b hb j e he
  rw [gP_pP] at he
  unfold up2 at he
  split at he
  · rename_i hc
    obtain ⟨h1, h2⟩ := hv e he
    refine ⟨h1, ?_⟩
    show tk (gk σ b) j = some (gk σ e)
    rw [hc.1, hc.2, ha.2, ht, h2]
  · exact h.1 b hb j e he
theorem tyn (σ : Sg) (d : Nat) : tyV σ d none := fun _ e => nomatch e
theorem tyS1 (h : kO σ a d) : tyV σ d (some a) := fun b e => by cases e; exact h
theorem TY.grow {σ' : Sg} (h : TY σ) (hq : q ∉ gD σ) (h1 : gD σ' = gD σ ++ [q]) (h2 : ∀ b, b ≠ q → gk σ' b = gk σ b) (h3 : ∀ b j, gP σ' b j = if b = q then none else gP σ b j) (h4 : ∀ b, gn σ' b < 2147483648) : TY σ' := by
  refine ⟨?_, h4⟩
  intro b hb j e he
  rw [h3] at he
  split at he
  · cases he
  · rename_i hbq
    rw [h1] at hb
    have hb' : b ∈ gD σ := by
      rcases List.mem_append.mp hb with h | h
      · exact h
      · exact absurd (List.mem_singleton.mp h) hbq
    obtain ⟨k1, k2⟩ := h.1 b hb' j e he
    have he' : e ≠ q := fun x => hq (x ▸ k1)
    rw [h1, h2 b hbq, h2 e he']
    exact ⟨List.mem_append_left _ k1, k2⟩
theorem gnu {σ : Sg} {q n : Nat} (h : ∀ a, gn σ a < 2147483648) (hn : n < 2147483648) : ∀ a, va_up (gn σ) q n a < 2147483648 := fun a => by
  by_cases e : a = q
  · rw [e, va_up_self]; exact hn
  · rw [va_up_ne _ _ e]; exact h a
theorem TY.new1 (h : TY σ) (hq : q ∉ gD σ) : TY (new1 σ q c n) := h.grow hq rfl (fun b hb => va_up_ne _ _ hb) (fun _ _ => rfl) h.2
theorem TY.newA (h : TY σ) (hq : q ∉ gD σ) (hn : n < 2147483648) : TY (newA σ q c n) := h.grow hq rfl (fun b hb => va_up_ne _ _ hb) (fun _ _ => rfl) (gnu h.2 hn)
theorem TY.cpJ {sp tp m : Int} {b : Nat} (h : TY σ) : TY (cpJ σ a sp b tp m) := h
theorem TY.cpI {sp tp m : Int} {b : Nat} (h : TY σ) : TY (cpI σ a sp b tp m) := h
theorem Ext.pI {x : Int} : Ext σ (pI σ a k x) := fun _ h => ⟨h, rfl, rfl⟩
theorem Ext.pJ {x : Int64} : Ext σ (pJ σ a k x) := fun _ h => ⟨h, rfl, rfl⟩
theorem Ext.pP : Ext σ (pP σ a k v) := fun _ h => ⟨h, rfl, rfl⟩
theorem Ext.cpJ {sp tp m : Int} {b : Nat} : Ext σ (cpJ σ a sp b tp m) := fun _ h => ⟨h, rfl, rfl⟩
theorem Ext.cpI {sp tp m : Int} {b : Nat} : Ext σ (cpI σ a sp b tp m) := fun _ h => ⟨h, rfl, rfl⟩
theorem RG.new1 (h : RG σ) : RG (new1 σ q c n) := fun b j => by
  show rng (if b = q then (0 : Int) else gI σ b j)
  split
  · unfold rng; omega
  · exact h b j
theorem RG.newA (h : RG σ) : RG (newA σ q c n) := fun b j => by
  show rng (if b = q then (0 : Int) else gI σ b j)
  split
  · unfold rng; omega
  · exact h b j
theorem RG.cpJ {sp tp m : Int} {b : Nat} (h : RG σ) : RG (cpJ σ a sp b tp m) := h
theorem RG.cpI {sp tp m : Int} {b : Nat} (h : RG σ) : RG (cpI σ a sp b tp m) := fun d j => by
  show rng (if d = b ∧ tp ≤ (j : Int) ∧ (j : Int) < tp + m then gI σ a (sp + ((j : Int) - tp)).toNat else gI σ d j)
  split
  · exact h _ _
  · exact h d j
theorem rng_gn {n : Nat} (h : n < 2147483648) : rng (n : Int) := ⟨by omega, by omega⟩
theorem rng_shlI (x y : Int) : rng (shlI x y) := rng_toInt _
theorem rng_andI (x y : Int) : rng (andI x y) := rng_toInt _
theorem rng_orI (x y : Int) : rng (orI x y) := rng_toInt _
end TYS
/-- array classes: int[], long[], byte[], boolean[], Chain[], Channel[], Op[], Task[], long[][] -/
def TyC (cA : Nat → ClassId) (tys : List (ClassId × FieldType)) : Prop := Tys cA tys ∧ tys[4]? = some (cA 111, .object RX1) ∧ tys[5]? = some (cA 112, .object RX2) ∧ tys[6]? = some (cA 115, .object RX5) ∧ tys[7]? = some (cA 120, .object RX10) ∧ tys[8]? = some (cA 200, .array .long)
def MD (l : Launch) (R : Room) (p : Program) (s : State) (m : MethodId) (args : Array Value) (c : Code) (cc : ByteArray) (nL : Nat) (own : String) (D : va_G) (cA : Nat → ClassId) (tys : List (ClassId × FieldType)) (A : Nat → Prop) (n0 s0 fr lw : Nat) (tb : List (Nat × Nat × Nat × Nat)) : Prop := Cx p s m args c cc nL own D cA tys A ∧ TyC cA tys ∧ Rm R n0 s0 ∧ fr ≤ R.frames ∧ lw ≤ R.locals ∧ c.exceptionTable.toList = tableOf tb ∧ l.stackTraces = false
section CF
variable {p : Program} {l : Launch} {e : Env} {R : Room} {s : State} {m : MethodId} {args : Array Value} {below : List Frame} {meth : Method} {c : Code} {cc : ByteArray} {nL : Nat} {own : String} {D : va_G} {cA : Nat → ClassId} {tys : List (ClassId × FieldType)} {A : Nat → Prop} {cells slots : Nat} {Q : State → Prop} {σ : Sg} {pc : Nat} {ls : Array Slot} {H : Heap} {locs : List Loc} {rest : List Value} {n0 s0 : Nat}
theorem f_geti (B : Cx p s m args c cc nL own D cA tys A) (hH : Hd D cA A s σ H locs) {ref C : String} {T : u_T} {N ci index a : Nat} (ho : kO σ a ci) (hci : ci < 100) (hc : vwCl[ci]? = some (C, T, N)) (hin : ∀ w ∈ u_ws C T N, w ∈ WAL) (k : Nat) (hkN : k < N) (hlink : Cond.fieldLink own index ref (T k).2.1 (T k).2.2.1 ∈ WAL) (hsame : ref = (T k).1) (hty : fty (T k).2.2.1 = 0) (hd : decode cc pc = .ok (.getfield index, 3)) (h : W p l e R s m args below meth c H locs cells slots Q (F0 m (pc + 3) ls (.int (i32 (gI σ a k)) :: rest))) : W p l e R s m args below meth c H locs cells slots Q (F0 m pc ls (.ref a :: rest)) :=
  h_get B hH ho.1 ho.2 hci hc hin k hkN hlink hsame (by rw [hty]; rfl) hd h
theorem f_getl (B : Cx p s m args c cc nL own D cA tys A) (hH : Hd D cA A s σ H locs) {ref C : String} {T : u_T} {N ci index a : Nat} (ho : kO σ a ci) (hci : ci < 100) (hc : vwCl[ci]? = some (C, T, N)) (hin : ∀ w ∈ u_ws C T N, w ∈ WAL) (k : Nat) (hkN : k < N) (hlink : Cond.fieldLink own index ref (T k).2.1 (T k).2.2.1 ∈ WAL) (hsame : ref = (T k).1) (hty : fty (T k).2.2.1 = 1) (hd : decode cc pc = .ok (.getfield index, 3)) (h : W p l e R s m args below meth c H locs cells slots Q (F0 m (pc + 3) ls (.long (gJ σ a k) :: rest))) : W p l e R s m args below meth c H locs cells slots Q (F0 m pc ls (.ref a :: rest)) :=
  h_get B hH ho.1 ho.2 hci hc hin k hkN hlink hsame (by rw [hty]; rfl) hd h
theorem f_getp (B : Cx p s m args c cc nL own D cA tys A) (hH : Hd D cA A s σ H locs) {ref C : String} {T : u_T} {N ci index a : Nat} (ho : kO σ a ci) (hci : ci < 100) (hc : vwCl[ci]? = some (C, T, N)) (hin : ∀ w ∈ u_ws C T N, w ∈ WAL) (k : Nat) (hkN : k < N) (hlink : Cond.fieldLink own index ref (T k).2.1 (T k).2.2.1 ∈ WAL) (hsame : ref = (T k).1) (hty : fty (T k).2.2.1 = 2) (hd : decode cc pc = .ok (.getfield index, 3)) (h : W p l e R s m args below meth c H locs cells slots Q (F0 m (pc + 3) ls (va_rf (gP σ a k) :: rest))) : W p l e R s m args below meth c H locs cells slots Q (F0 m pc ls (.ref a :: rest)) :=
  h_get B hH ho.1 ho.2 hci hc hin k hkN hlink hsame (by rw [hty]; rfl) hd h
theorem f_puti (B : Cx p s m args c cc nL own D cA tys A) (hH : Hd D cA A s σ H locs) {ref C : String} {T : u_T} {N ci index a : Nat} (ho : kO σ a ci) (hci : ci < 100) (hc : vwCl[ci]? = some (C, T, N)) (hin : ∀ w ∈ u_ws C T N, w ∈ WAL) (ty0 : Nat → FieldType) (hty0 : ∀ k, k < N → parseFieldDescriptor (T k).2.2.1 = some (ty0 k)) (hnm : ∀ a, a < N → ∀ b, b < N → a ≠ b → (T a).2.1 ≠ (T b).2.1) (k : Nat) (hkN : k < N) (hlink : Cond.fieldLink own index ref (T k).2.1 (T k).2.2.1 ∈ WAL) (hsame : ref = (T k).1) {x : Int} {ty : FieldType} (hfin : (T k).2.2.2 = false) (hty : fty (T k).2.2.1 = 0) (hds : parseFieldDescriptor (T k).2.2.1 = some ty) (hn : narrow ty (.int (i32 x)) = .int (i32 x)) (hfit : fits ty (.int (i32 x)) = true) (hd : decode cc pc = .ok (.putfield index, 3)) (h : ∀ (H1 : Heap) (locs1 : List Loc), Hd D cA A s (pI σ a k x) H1 locs1 → W p l e R s m args below meth c H1 locs1 cells slots Q (F0 m (pc + 3) ls rest)) : W p l e R s m args below meth c H locs cells slots Q (F0 m pc ls (.int (i32 x) :: .ref a :: rest)) :=
  h_put B hH ho.1 ho.2 hci hc hin ty0 hty0 hnm k hkN hlink hsame hfin hds hn hfit (σ' := pI σ a k x) rfl (by rw [ent_obj (σ := pI σ a k x) (ci := ci) ho.2 hc hci, flds_setI (r := (C, T, N)) hty]) (fun b hb => ent_offI hb) hd h
theorem f_putl (B : Cx p s m args c cc nL own D cA tys A) (hH : Hd D cA A s σ H locs) {ref C : String} {T : u_T} {N ci index a : Nat} (ho : kO σ a ci) (hci : ci < 100) (hc : vwCl[ci]? = some (C, T, N)) (hin : ∀ w ∈ u_ws C T N, w ∈ WAL) (ty0 : Nat → FieldType) (hty0 : ∀ k, k < N → parseFieldDescriptor (T k).2.2.1 = some (ty0 k)) (hnm : ∀ a, a < N → ∀ b, b < N → a ≠ b → (T a).2.1 ≠ (T b).2.1) (k : Nat) (hkN : k < N) (hlink : Cond.fieldLink own index ref (T k).2.1 (T k).2.2.1 ∈ WAL) (hsame : ref = (T k).1) {x : Int64} {ty : FieldType} (hfin : (T k).2.2.2 = false) (hty : fty (T k).2.2.1 = 1) (hds : parseFieldDescriptor (T k).2.2.1 = some ty) (hn : narrow ty (.long x) = .long x) (hfit : fits ty (.long x) = true) (hd : decode cc pc = .ok (.putfield index, 3)) (h : ∀ (H1 : Heap) (locs1 : List Loc), Hd D cA A s (pJ σ a k x) H1 locs1 → W p l e R s m args below meth c H1 locs1 cells slots Q (F0 m (pc + 3) ls rest)) : W p l e R s m args below meth c H locs cells slots Q (F0 m pc ls (.long x :: .ref a :: rest)) :=
  h_put B hH ho.1 ho.2 hci hc hin ty0 hty0 hnm k hkN hlink hsame hfin hds hn hfit (σ' := pJ σ a k x) rfl (by rw [ent_obj (σ := pJ σ a k x) (ci := ci) ho.2 hc hci, flds_setJ (r := (C, T, N)) hty]) (fun b hb => ent_offJ hb) hd h
theorem f_putp (B : Cx p s m args c cc nL own D cA tys A) (hH : Hd D cA A s σ H locs) {ref C : String} {T : u_T} {N ci index a : Nat} (ho : kO σ a ci) (hci : ci < 100) (hc : vwCl[ci]? = some (C, T, N)) (hin : ∀ w ∈ u_ws C T N, w ∈ WAL) (ty0 : Nat → FieldType) (hty0 : ∀ k, k < N → parseFieldDescriptor (T k).2.2.1 = some (ty0 k)) (hnm : ∀ a, a < N → ∀ b, b < N → a ≠ b → (T a).2.1 ≠ (T b).2.1) (k : Nat) (hkN : k < N) (hlink : Cond.fieldLink own index ref (T k).2.1 (T k).2.2.1 ∈ WAL) (hsame : ref = (T k).1) {r : Option Nat} {ty : FieldType} (hfin : (T k).2.2.2 = false) (hty : fty (T k).2.2.1 = 2) (hds : parseFieldDescriptor (T k).2.2.1 = some ty) (hn : narrow ty (va_rf r) = va_rf r) (hfit : fits ty (va_rf r) = true) (hd : decode cc pc = .ok (.putfield index, 3)) (h : ∀ (H1 : Heap) (locs1 : List Loc), Hd D cA A s (pP σ a k r) H1 locs1 → W p l e R s m args below meth c H1 locs1 cells slots Q (F0 m (pc + 3) ls rest)) : W p l e R s m args below meth c H locs cells slots Q (F0 m pc ls (va_rf r :: .ref a :: rest)) :=
  h_put B hH ho.1 ho.2 hci hc hin ty0 hty0 hnm k hkN hlink hsame hfin hds hn hfit (σ' := pP σ a k r) rfl (by rw [ent_obj (σ := pP σ a k r) (ci := ci) ho.2 hc hci, flds_setP (r := (C, T, N)) hty]) (fun b hb => ent_offP hb) hd h
theorem h_putF (B : Cx p s m args c cc nL own D cA tys A) (hH : Hd D cA A s σ H locs) {ref C : String} {T : u_T} {N ci index a : Nat} (ha : a ∈ gD σ) (hk : gk σ a = ci) (hci : ci < 100) (hc : vwCl[ci]? = some (C, T, N)) (hin : ∀ w ∈ u_ws C T N, w ∈ WAL) (ty0 : Nat → FieldType) (hty0 : ∀ k, k < N → parseFieldDescriptor (T k).2.2.1 = some (ty0 k)) (hnm : ∀ a, a < N → ∀ b, b < N → a ≠ b → (T a).2.1 ≠ (T b).2.1) (k : Nat) (hkN : k < N) (hlink : Cond.fieldLink own index ref (T k).2.1 (T k).2.2.1 ∈ WAL) (hsame : ref = (T k).1) (hfin : (T k).2.2.2 = true) (hin2 : meth.name = "<init>") (hdecl : (T k).1 = own) {ty : FieldType} {v : Value} (hdsc : parseFieldDescriptor (T k).2.2.1 = some ty) (hn : narrow ty v = v) (hfit : fits ty v = true) {σ' : Sg} (h1 : gD σ' = gD σ) (h2 : ent cA σ' a = .inr (ci, (flds σ a (C, T, N)).set k v)) (h3 : ∀ b, b ≠ a → ent cA σ' b = ent cA σ b) (hd : decode cc pc = .ok (.putfield index, 3)) (h : ∀ (H1 : Heap) (locs1 : List Loc), Hd D cA A s (σ') H1 locs1 → W p l e R s m args below meth c H1 locs1 cells slots Q (F0 m (pc + 3) ls rest)) : W p l e R s m args below meth c H locs cells slots Q (F0 m pc ls (v :: .ref a :: rest)) := by
  obtain ⟨q0, hq⟩ := wd_get (cA := cA) ha
  have hs := wd_set hH.2.1 ha hq h1 h2 h3
  rw [ent_obj hk hc hci] at hq
  refine va_putF B.1 B.2.1 B.2.2.2.1 hin ty0 hty0 hnm B.2.2.1 B.2.2.2.2.1 hH.1 hH.2.1 hH.2.2 q0 hq hc k hkN (B.2.2.2.1 _ hlink) (fun x hx => by rw [hsame]; exact hx) hfin hin2 hdecl hdsc hn hfit (by unfold flds; simpa using hkN) hd (fun H1 locs1 hP hD hS => ?_)
  rw [hs] at hP hD
  exact h H1 locs1 ⟨hP, hD, hS⟩
theorem f_putF (B : Cx p s m args c cc nL own D cA tys A) (hH : Hd D cA A s σ H locs) {ref C : String} {T : u_T} {N ci index a : Nat} (ho : kO σ a ci) (hci : ci < 100) (hc : vwCl[ci]? = some (C, T, N)) (hin : ∀ w ∈ u_ws C T N, w ∈ WAL) (ty0 : Nat → FieldType) (hty0 : ∀ k, k < N → parseFieldDescriptor (T k).2.2.1 = some (ty0 k)) (hnm : ∀ a, a < N → ∀ b, b < N → a ≠ b → (T a).2.1 ≠ (T b).2.1) (k : Nat) (hkN : k < N) (hlink : Cond.fieldLink own index ref (T k).2.1 (T k).2.2.1 ∈ WAL) (hsame : ref = (T k).1) {r : Option Nat} {ty : FieldType} (hfin : (T k).2.2.2 = true) (hin2 : meth.name = "<init>") (hdecl : (T k).1 = own) (hty : fty (T k).2.2.1 = 2) (hds : parseFieldDescriptor (T k).2.2.1 = some ty) (hn : narrow ty (va_rf r) = va_rf r) (hfit : fits ty (va_rf r) = true) (hd : decode cc pc = .ok (.putfield index, 3)) (h : ∀ (H1 : Heap) (locs1 : List Loc), Hd D cA A s (pP σ a k r) H1 locs1 → W p l e R s m args below meth c H1 locs1 cells slots Q (F0 m (pc + 3) ls rest)) : W p l e R s m args below meth c H locs cells slots Q (F0 m pc ls (va_rf r :: .ref a :: rest)) :=
  h_putF B hH ho.1 ho.2 hci hc hin ty0 hty0 hnm k hkN hlink hsame hfin hin2 hdecl hds hn hfit (σ' := pP σ a k r) rfl (by rw [ent_obj (σ := pP σ a k r) (ci := ci) ho.2 hc hci, flds_setP (r := (C, T, N)) hty]) (fun b hb => ent_offP hb) hd h
theorem y_iald (B : Cx p s m args c cc nL own D cA tys A) (hT : TyC cA tys) (hH : Hd D cA A s σ H locs) {b : Nat} (ho : kO σ b 100) {x : Int} (h0 : 0 ≤ x ∧ x < (gn σ b : Int)) (hd : decode cc pc = .ok (.iaload, 1)) (hN : gn σ b < 2 ^ 31) (h : W p l e R s m args below meth c H locs cells slots Q (F0 m (pc + 1) ls (.int (i32 (gI σ b x.toNat)) :: rest))) : W p l e R s m args below meth c H locs cells slots Q (F0 m pc ls (.int (i32 x) :: .ref b :: rest)) :=
  h_iald B hH ho.1 ho.2 0 hT.1.1 h0.1 h0.2 hN hd h
theorem y_lald (B : Cx p s m args c cc nL own D cA tys A) (hT : TyC cA tys) (hH : Hd D cA A s σ H locs) {b : Nat} (ho : kO σ b 101) {x : Int} (h0 : 0 ≤ x ∧ x < (gn σ b : Int)) (hd : decode cc pc = .ok (.laload, 1)) (hN : gn σ b < 2 ^ 31) (h : W p l e R s m args below meth c H locs cells slots Q (F0 m (pc + 1) ls (.long (gJ σ b x.toNat) :: rest))) : W p l e R s m args below meth c H locs cells slots Q (F0 m pc ls (.int (i32 x) :: .ref b :: rest)) :=
  h_lald B hH ho.1 ho.2 1 hT.1.2.1 h0.1 h0.2 hN hd h
theorem y_bald (B : Cx p s m args c cc nL own D cA tys A) (hT : TyC cA tys) (hH : Hd D cA A s σ H locs) {b : Nat} (ho : kO σ b 102) {x : Int} (h0 : 0 ≤ x ∧ x < (gn σ b : Int)) (hd : decode cc pc = .ok (.baload, 1)) (hN : gn σ b < 2 ^ 31) (h : W p l e R s m args below meth c H locs cells slots Q (F0 m (pc + 1) ls (.int (i32 (gI σ b x.toNat)) :: rest))) : W p l e R s m args below meth c H locs cells slots Q (F0 m pc ls (.int (i32 x) :: .ref b :: rest)) :=
  h_bald B hH ho.1 ho.2 2 hT.1.2.2.1 h0.1 h0.2 hN hd h
theorem y_zald (B : Cx p s m args c cc nL own D cA tys A) (hT : TyC cA tys) (hH : Hd D cA A s σ H locs) {b : Nat} (ho : kO σ b 103) {x : Int} (h0 : 0 ≤ x ∧ x < (gn σ b : Int)) (hd : decode cc pc = .ok (.baload, 1)) (hN : gn σ b < 2 ^ 31) (h : W p l e R s m args below meth c H locs cells slots Q (F0 m (pc + 1) ls (.int (i32 (gI σ b x.toNat)) :: rest))) : W p l e R s m args below meth c H locs cells slots Q (F0 m pc ls (.int (i32 x) :: .ref b :: rest)) :=
  h_zald B hH ho.1 ho.2 3 hT.1.2.2.2 h0.1 h0.2 hN hd h
theorem y_iast (B : Cx p s m args c cc nL own D cA tys A) (hT : TyC cA tys) (hH : Hd D cA A s σ H locs) {b : Nat} (ho : kO σ b 100) {x : Int} {y : Int} (h0 : 0 ≤ x ∧ x < (gn σ b : Int)) (hd : decode cc pc = .ok (.iastore, 1)) (hN : gn σ b < 2 ^ 31) (h : ∀ (H1 : Heap) (locs1 : List Loc), Hd D cA A s (pI σ b x.toNat y) H1 locs1 → W p l e R s m args below meth c H1 locs1 cells slots Q (F0 m (pc + 1) ls rest)) : W p l e R s m args below meth c H locs cells slots Q (F0 m pc ls (.int (i32 y) :: .int (i32 x) :: .ref b :: rest)) :=
  h_iast B hH ho.1 ho.2 0 hT.1.1 h0.1 h0.2 hN hd h
theorem y_last (B : Cx p s m args c cc nL own D cA tys A) (hT : TyC cA tys) (hH : Hd D cA A s σ H locs) {b : Nat} (ho : kO σ b 101) {x : Int} {y : Int64} (h0 : 0 ≤ x ∧ x < (gn σ b : Int)) (hd : decode cc pc = .ok (.lastore, 1)) (hN : gn σ b < 2 ^ 31) (h : ∀ (H1 : Heap) (locs1 : List Loc), Hd D cA A s (pJ σ b x.toNat y) H1 locs1 → W p l e R s m args below meth c H1 locs1 cells slots Q (F0 m (pc + 1) ls rest)) : W p l e R s m args below meth c H locs cells slots Q (F0 m pc ls (.long y :: .int (i32 x) :: .ref b :: rest)) :=
  h_last B hH ho.1 ho.2 1 hT.1.2.1 h0.1 h0.2 hN hd h
theorem y_bast (B : Cx p s m args c cc nL own D cA tys A) (hT : TyC cA tys) (hH : Hd D cA A s σ H locs) {b : Nat} (ho : kO σ b 102) {x : Int} {y : Int} (h0 : 0 ≤ x ∧ x < (gn σ b : Int)) (hd : decode cc pc = .ok (.bastore, 1)) (hN : gn σ b < 2 ^ 31) (h : ∀ (H1 : Heap) (locs1 : List Loc), Hd D cA A s (pI σ b x.toNat (nB y)) H1 locs1 → W p l e R s m args below meth c H1 locs1 cells slots Q (F0 m (pc + 1) ls rest)) : W p l e R s m args below meth c H locs cells slots Q (F0 m pc ls (.int (i32 y) :: .int (i32 x) :: .ref b :: rest)) :=
  h_bast B hH ho.1 ho.2 2 hT.1.2.2.1 h0.1 h0.2 hN hd h
theorem y_zast (B : Cx p s m args c cc nL own D cA tys A) (hT : TyC cA tys) (hH : Hd D cA A s σ H locs) {b : Nat} (ho : kO σ b 103) {x : Int} {y : Int} (h0 : 0 ≤ x ∧ x < (gn σ b : Int)) (hd : decode cc pc = .ok (.bastore, 1)) (hN : gn σ b < 2 ^ 31) (h : ∀ (H1 : Heap) (locs1 : List Loc), Hd D cA A s (pI σ b x.toNat (nZ y)) H1 locs1 → W p l e R s m args below meth c H1 locs1 cells slots Q (F0 m (pc + 1) ls rest)) : W p l e R s m args below meth c H locs cells slots Q (F0 m pc ls (.int (i32 y) :: .int (i32 x) :: .ref b :: rest)) :=
  h_zast B hH ho.1 ho.2 3 hT.1.2.2.2 h0.1 h0.2 hN hd h
/-- aaload of an array of things -/
theorem y_aald (B : Cx p s m args c cc nL own D cA tys A) (hH : Hd D cA A s σ H locs) {b k9 t0 : Nat} {C : String} (ho : kO σ b k9) (h9 : 110 ≤ k9) (ht : tys[t0]? = some (cA k9, .object C)) {x : Int} (h0 : 0 ≤ x ∧ x < (gn σ b : Int)) (hN : gn σ b < 2 ^ 31) (hd : decode cc pc = .ok (.aaload, 1)) (h : W p l e R s m args below meth c H locs cells slots Q (F0 m (pc + 1) ls (va_rf (gP σ b x.toNat) :: rest))) : W p l e R s m args below meth c H locs cells slots Q (F0 m pc ls (.int (i32 x) :: .ref b :: rest)) :=
  h_aald B hH ho.1 h9 ho.2 t0 ht h0.1 h0.2 hN hd h
theorem y_aaldA (B : Cx p s m args c cc nL own D cA tys A) (hH : Hd D cA A s σ H locs) {b k9 t0 : Nat} {ty : FieldType} (ho : kO σ b k9) (h9 : 110 ≤ k9) (ht : tys[t0]? = some (cA k9, .array ty)) {x : Int} (h0 : 0 ≤ x ∧ x < (gn σ b : Int)) (hN : gn σ b < 2 ^ 31) (hd : decode cc pc = .ok (.aaload, 1)) (h : W p l e R s m args below meth c H locs cells slots Q (F0 m (pc + 1) ls (va_rf (gP σ b x.toNat) :: rest))) : W p l e R s m args below meth c H locs cells slots Q (F0 m pc ls (.int (i32 x) :: .ref b :: rest)) :=
  h_aaldA B hH ho.1 h9 ho.2 t0 ht h0.1 h0.2 hN hd h
end CF
section CEN
variable (p : Program) (l : Launch) (e : Env) (R : Room) (s : State) (m : MethodId) (args : Array Value) (below : List Frame) (meth : Method) (c : Code) (cc : ByteArray) (nL : Nat) (D : va_G) (cA : Nat → ClassId) (A : Nat → Prop) (n0 s0 : Nat) (QM : State → Prop) (σi : Sg)
def CQV (Q : Sg → Unit → Prop) : Prop := ∀ (pc : Nat) (ls : Array Slot) (σ : Sg) (H : Heap) (locs : List Loc), decode cc pc = .ok (.return_, 1) → Hd D cA A s σ H locs → CB n0 s0 σ → Q σ () → RG σ → TY σ → Ext σi σ → W p l e R s m args below meth c H locs (gc σ - n0) (gs σ - s0) QM (F0 m pc ls [])
def QcV (Q : Sg → Unit → Prop) : Sg → Option Value → Prop := fun σ' w => w = none ∧ Q σ' () ∧ RG σ' ∧ TY σ' ∧ Ext σi σ'
def CQI (Q : Sg → Int → Prop) : Prop := ∀ (pc : Nat) (ls : Array Slot) (σ : Sg) (H : Heap) (locs : List Loc) (r : Int) (gr : rng r), decode cc pc = .ok (.ireturn, 1) → Hd D cA A s σ H locs → CB n0 s0 σ → Q σ r → RG σ → TY σ → Ext σi σ → W p l e R s m args below meth c H locs (gc σ - n0) (gs σ - s0) QM (F0 m pc ls [.int (i32 r)])
def QcI (Q : Sg → Int → Prop) : Sg → Option Value → Prop := fun σ' w => ∃ r, w = some (.int (i32 r)) ∧ rng r ∧ Q σ' r ∧ RG σ' ∧ TY σ' ∧ Ext σi σ'
def CQZ (Q : Sg → Int → Prop) : Prop := ∀ (pc : Nat) (ls : Array Slot) (σ : Sg) (H : Heap) (locs : List Loc) (r : Int) (gr : rng r) (gz : r = 0 ∨ r = 1), decode cc pc = .ok (.ireturn, 1) → Hd D cA A s σ H locs → CB n0 s0 σ → Q σ r → RG σ → TY σ → Ext σi σ → W p l e R s m args below meth c H locs (gc σ - n0) (gs σ - s0) QM (F0 m pc ls [.int (i32 r)])
def QcZ (Q : Sg → Int → Prop) : Sg → Option Value → Prop := fun σ' w => ∃ r, w = some (.int (i32 r)) ∧ (rng r ∧ (r = 0 ∨ r = 1)) ∧ Q σ' r ∧ RG σ' ∧ TY σ' ∧ Ext σi σ'
def CQJ (Q : Sg → Int64 → Prop) : Prop := ∀ (pc : Nat) (ls : Array Slot) (σ : Sg) (H : Heap) (locs : List Loc) (r : Int64), decode cc pc = .ok (.lreturn, 1) → Hd D cA A s σ H locs → CB n0 s0 σ → Q σ r → RG σ → TY σ → Ext σi σ → W p l e R s m args below meth c H locs (gc σ - n0) (gs σ - s0) QM (F0 m pc ls [.long r])
def QcJ (Q : Sg → Int64 → Prop) : Sg → Option Value → Prop := fun σ' w => ∃ r, w = some (.long r) ∧ Q σ' r ∧ RG σ' ∧ TY σ' ∧ Ext σi σ'
def CQA (kd : Nat) (Q : Sg → Option Nat → Prop) : Prop := ∀ (pc : Nat) (ls : Array Slot) (σ : Sg) (H : Heap) (locs : List Loc) (r : Option Nat) (gr : tyV σ kd r), decode cc pc = .ok (.areturn, 1) → Hd D cA A s σ H locs → CB n0 s0 σ → Q σ r → RG σ → TY σ → Ext σi σ → W p l e R s m args below meth c H locs (gc σ - n0) (gs σ - s0) QM (F0 m pc ls [va_rf r])
def QcA (kd : Nat) (Q : Sg → Option Nat → Prop) : Sg → Option Value → Prop := fun σ' w => ∃ r, w = some (va_rf r) ∧ tyV σ' kd r ∧ Q σ' r ∧ RG σ' ∧ TY σ' ∧ Ext σi σ'
def QxC (X : Sg → String → Prop) : Sg → String → Prop := fun σ' E => X σ' E ∧ RG σ' ∧ TY σ' ∧ Ext σi σ'
def CX (X : Sg → String → Prop) : Prop := ∀ (σ : Sg) (E : String) (pc : Nat) (lo : List (Nat × Value)) (st : List Value), (∀ x ∈ c.exceptionTable.toList, covers x pc = false) → X σ E → RG σ → TY σ → Ext σi σ → JX p l e R s m args below meth c nL D cA A n0 s0 QM σ E pc lo st
/-- the words of 'throw new E()' -/
def ThW (own : String) (ik ic : Nat) (cls : String) : Prop := cls ∈ ["java/lang/IllegalStateException", "java/lang/IllegalArgumentException", "java/lang/IndexOutOfBoundsException", "java/lang/UnsupportedOperationException"] ∧ Cond.classLink own ik cls ∈ WAL ∧ Cond.initialized cls ∈ WAL ∧ (∀ w ∈ (vx_at0 own ic cls exN).filter goodWord, w ∈ WAL) ∧ (∀ w ∈ vx_at0 own ic cls exN, goodWord w = true ∨ w ∈ [Cond.declares (Bundle.init0 "java/lang/RuntimeException"), .declares (Bundle.init0 "java/lang/Exception"), .declares (Bundle.init0 Bundle.tN), .castable cls cls]) ∧ (∀ w ∈ Cond.classLink own ik cls :: Cond.initialized cls :: vx_at0 own ic cls exN, vx_ot w = true)
def CT (own : String) (X : Sg → String → Prop) : Prop := ∀ (σ : Sg) (pc : Nat) (ls : Array Slot) (lo : List (Nat × Value)) (H : Heap) (locs : List Loc) (cls : String) (ik ic : Nat), ThW own ik ic cls → decode cc pc = .ok (.new ik, 3) → decode cc (pc + 3) = .ok (.dup, 1) → decode cc (pc + 4) = .ok (.invokespecial ic, 3) → decode cc (pc + 7) = .ok (.athrow, 1) → Hd D cA A s σ H locs → lv_has ls nL lo → CB n0 s0 σ → gc σ + 1 ≤ BC ∧ gs σ + 6 ≤ BS → X (bump σ 1 6) cls → RG σ → TY σ → Ext σi σ → 5 < R.frames → 81 ≤ R.locals → W p l e R s m args below meth c H locs (gc σ - n0) (gs σ - s0) QM (F0 m pc ls [])
end CEN
section COK
variable {l : Launch} {cc : ByteArray} {nL : Nat} {D : va_G} {cA : Nat → ClassId} {tys : List (ClassId × FieldType)} {A : Nat → Prop} {σ0 : Sg} {X : Sg → String → Prop} {y : MethodName} {fr lw : Nat} {as : List Value}
theorem oc_V {Q : Sg → Unit → Prop} (hl0 : l.stackTraces = false) (hy : plainName y.cls = true) (hw : (lg_sl as).length ≤ nL) (hT : TyC cA tys)
    (body : ∀ (p : Program) (e : Env) (R : Room) (s : State) (m : MethodId) (args : Array Value) (below : List Frame) (meth : Method) (c : Code), MD l R p s m args c cc nL y.cls D cA tys A (gc σ0) (gs σ0) fr lw [] → CQV p l e R s m args below meth c cc D cA A (gc σ0) (gs σ0) (vx_MQ below (Qw D cA A σ0 (QcV σ0 Q)) (Xw D cA A σ0 (QxC σ0 X)) args s (BC - gc σ0) (BS - gs σ0) A) σ0 Q → CX p l e R s m args below meth c nL D cA A (gc σ0) (gs σ0) (vx_MQ below (Qw D cA A σ0 (QcV σ0 Q)) (Xw D cA A σ0 (QxC σ0 X)) args s (BC - gc σ0) (BS - gs σ0) A) σ0 X → CT p l e R s m args below meth c cc nL D cA A (gc σ0) (gs σ0) (vx_MQ below (Qw D cA A σ0 (QcV σ0 Q)) (Xw D cA A σ0 (QxC σ0 X)) args s (BC - gc σ0) (BS - gs σ0) A) σ0 y.cls X → (y.name = "<init>" → meth.name = "<init>") → JJ p l e R s m args below meth c nL D cA A (gc σ0) (gs σ0) (vx_MQ below (Qw D cA A σ0 (QcV σ0 Q)) (Xw D cA A σ0 (QxC σ0 X)) args s (BC - gc σ0) (BS - gs σ0) A) σ0 0 (lv_args 0 as) []) :
    Ok l D cA tys A y (.code y cc nL none) fr lw as σ0 (QcV σ0 Q) (QxC σ0 X) := by
  refine ok_of (ret := none) hy hw ?_
  intro p e R s m args below meth c hRR B hr hlocks htab hin9
  refine body p e R s m args below meth c ⟨B, hT, by rw [hRR]; exact ⟨rfl, rfl⟩, by rw [hRR]; exact Nat.le_refl _, by rw [hRR]; exact Nat.le_refl _, (List.eq_nil_iff_forall_not_mem.mpr (fun x hx => htab x hx)), hl0⟩ (fun pc ls σ9 H locs hd hH hc hq hG9 hY9 hE9 => e_vret B hH hc hr hlocks ⟨rfl, hq, hG9, hY9, hE9⟩ hd) ?_ (fun σ9 pc ls lo H locs cls ik ic tw d0 d3 d4 d7 hH hls hc hz hx hG9 hY9 hE9 hfr9 hlw9 => e_throw0 B hl0 hH hls ⟨by have := hc.1; show _ ≤ gc σ9 + 1; omega, by have := hc.2.1; show _ ≤ gs σ9 + 6; omega, hz.1, hz.2⟩ ⟨hc.1, hc.2.1⟩ (by rw [hRR]; exact ⟨rfl, rfl⟩) tw.1 tw.2.1 tw.2.2.1 tw.2.2.2.1 tw.2.2.2.2.1 tw.2.2.2.2.2 htab hlocks hfr9 (by show 0 + 81 ≤ _; omega) d0 d3 d4 d7 ⟨hx, hG9, hY9, hE9⟩) hin9
  exact fun σ9 E pc lo st hout hx hG9 hY9 hE9 H locs ls ce q hH hl hc hce hcv hcl => e_out hH hc hout hlocks hce hcv hcl ⟨hx, hG9, hY9, hE9⟩
theorem oc_VF {Q : Sg → Unit → Prop} (hl0 : l.stackTraces = false) (hy : plainFor y = true) (hw : (lg_sl as).length ≤ nL) (hT : TyC cA tys)
    (body : ∀ (p : Program) (e : Env) (R : Room) (s : State) (m : MethodId) (args : Array Value) (below : List Frame) (meth : Method) (c : Code), MD l R p s m args c cc nL y.cls D cA tys A (gc σ0) (gs σ0) fr lw [] → CQV p l e R s m args below meth c cc D cA A (gc σ0) (gs σ0) (vx_MQ below (Qw D cA A σ0 (QcV σ0 Q)) (Xw D cA A σ0 (QxC σ0 X)) args s (BC - gc σ0) (BS - gs σ0) A) σ0 Q → CX p l e R s m args below meth c nL D cA A (gc σ0) (gs σ0) (vx_MQ below (Qw D cA A σ0 (QcV σ0 Q)) (Xw D cA A σ0 (QxC σ0 X)) args s (BC - gc σ0) (BS - gs σ0) A) σ0 X → CT p l e R s m args below meth c cc nL D cA A (gc σ0) (gs σ0) (vx_MQ below (Qw D cA A σ0 (QcV σ0 Q)) (Xw D cA A σ0 (QxC σ0 X)) args s (BC - gc σ0) (BS - gs σ0) A) σ0 y.cls X → JJ p l e R s m args below meth c nL D cA A (gc σ0) (gs σ0) (vx_MQ below (Qw D cA A σ0 (QcV σ0 Q)) (Xw D cA A σ0 (QxC σ0 X)) args s (BC - gc σ0) (BS - gs σ0) A) σ0 0 (lv_args 0 as) []) :
    Ok l D cA tys A y (.code y cc nL none) fr lw as σ0 (QcV σ0 Q) (QxC σ0 X) := by
  refine ok_ofF (ret := none) hy hw ?_
  intro p e R s m args below meth c hRR B hr hlocks htab
  refine body p e R s m args below meth c ⟨B, hT, by rw [hRR]; exact ⟨rfl, rfl⟩, by rw [hRR]; exact Nat.le_refl _, by rw [hRR]; exact Nat.le_refl _, (List.eq_nil_iff_forall_not_mem.mpr (fun x hx => htab x hx)), hl0⟩ (fun pc ls σ9 H locs hd hH hc hq hG9 hY9 hE9 => e_vret B hH hc hr hlocks ⟨rfl, hq, hG9, hY9, hE9⟩ hd) ?_ (fun σ9 pc ls lo H locs cls ik ic tw d0 d3 d4 d7 hH hls hc hz hx hG9 hY9 hE9 hfr9 hlw9 => e_throw0 B hl0 hH hls ⟨by have := hc.1; show _ ≤ gc σ9 + 1; omega, by have := hc.2.1; show _ ≤ gs σ9 + 6; omega, hz.1, hz.2⟩ ⟨hc.1, hc.2.1⟩ (by rw [hRR]; exact ⟨rfl, rfl⟩) tw.1 tw.2.1 tw.2.2.1 tw.2.2.2.1 tw.2.2.2.2.1 tw.2.2.2.2.2 htab hlocks hfr9 (by show 0 + 81 ≤ _; omega) d0 d3 d4 d7 ⟨hx, hG9, hY9, hE9⟩)
  exact fun σ9 E pc lo st hout hx hG9 hY9 hE9 H locs ls ce q hH hl hc hce hcv hcl => e_out hH hc hout hlocks hce hcv hcl ⟨hx, hG9, hY9, hE9⟩
theorem oc_I {Q : Sg → Int → Prop} (hl0 : l.stackTraces = false) (hy : plainName y.cls = true) (hw : (lg_sl as).length ≤ nL) (hT : TyC cA tys)
    (body : ∀ (p : Program) (e : Env) (R : Room) (s : State) (m : MethodId) (args : Array Value) (below : List Frame) (meth : Method) (c : Code), MD l R p s m args c cc nL y.cls D cA tys A (gc σ0) (gs σ0) fr lw [] → CQI p l e R s m args below meth c cc D cA A (gc σ0) (gs σ0) (vx_MQ below (Qw D cA A σ0 (QcI σ0 Q)) (Xw D cA A σ0 (QxC σ0 X)) args s (BC - gc σ0) (BS - gs σ0) A) σ0 Q → CX p l e R s m args below meth c nL D cA A (gc σ0) (gs σ0) (vx_MQ below (Qw D cA A σ0 (QcI σ0 Q)) (Xw D cA A σ0 (QxC σ0 X)) args s (BC - gc σ0) (BS - gs σ0) A) σ0 X → CT p l e R s m args below meth c cc nL D cA A (gc σ0) (gs σ0) (vx_MQ below (Qw D cA A σ0 (QcI σ0 Q)) (Xw D cA A σ0 (QxC σ0 X)) args s (BC - gc σ0) (BS - gs σ0) A) σ0 y.cls X → JJ p l e R s m args below meth c nL D cA A (gc σ0) (gs σ0) (vx_MQ below (Qw D cA A σ0 (QcI σ0 Q)) (Xw D cA A σ0 (QxC σ0 X)) args s (BC - gc σ0) (BS - gs σ0) A) σ0 0 (lv_args 0 as) []) :
    Ok l D cA tys A y (.code y cc nL (some .int)) fr lw as σ0 (QcI σ0 Q) (QxC σ0 X) := by
  refine ok_of (ret := (some .int)) hy hw ?_
  intro p e R s m args below meth c hRR B hr hlocks htab hin9
  refine body p e R s m args below meth c ⟨B, hT, by rw [hRR]; exact ⟨rfl, rfl⟩, by rw [hRR]; exact Nat.le_refl _, by rw [hRR]; exact Nat.le_refl _, (List.eq_nil_iff_forall_not_mem.mpr (fun x hx => htab x hx)), hl0⟩ (fun pc ls σ9 H locs r gr hd hH hc hq hG9 hY9 hE9 => e_iret B hH hc hr rfl hlocks ⟨r, rfl, gr, hq, hG9, hY9, hE9⟩ hd) ?_ (fun σ9 pc ls lo H locs cls ik ic tw d0 d3 d4 d7 hH hls hc hz hx hG9 hY9 hE9 hfr9 hlw9 => e_throw0 B hl0 hH hls ⟨by have := hc.1; show _ ≤ gc σ9 + 1; omega, by have := hc.2.1; show _ ≤ gs σ9 + 6; omega, hz.1, hz.2⟩ ⟨hc.1, hc.2.1⟩ (by rw [hRR]; exact ⟨rfl, rfl⟩) tw.1 tw.2.1 tw.2.2.1 tw.2.2.2.1 tw.2.2.2.2.1 tw.2.2.2.2.2 htab hlocks hfr9 (by show 0 + 81 ≤ _; omega) d0 d3 d4 d7 ⟨hx, hG9, hY9, hE9⟩)
  exact fun σ9 E pc lo st hout hx hG9 hY9 hE9 H locs ls ce q hH hl hc hce hcv hcl => e_out hH hc hout hlocks hce hcv hcl ⟨hx, hG9, hY9, hE9⟩
theorem oc_IH {Q : Sg → Int → Prop} {hh : List (Nat × Nat × Nat × Nat)} (hl0 : l.stackTraces = false) (hy : plainName y.cls = true) (hw : (lg_sl as).length ≤ nL) (hT : TyC cA tys)
    (body : ∀ (p : Program) (e : Env) (R : Room) (s : State) (m : MethodId) (args : Array Value) (below : List Frame) (meth : Method) (c : Code), MD l R p s m args c cc nL y.cls D cA tys A (gc σ0) (gs σ0) fr lw hh → CQI p l e R s m args below meth c cc D cA A (gc σ0) (gs σ0) (vx_MQ below (Qw D cA A σ0 (QcI σ0 Q)) (Xw D cA A σ0 (QxC σ0 X)) args s (BC - gc σ0) (BS - gs σ0) A) σ0 Q → CX p l e R s m args below meth c nL D cA A (gc σ0) (gs σ0) (vx_MQ below (Qw D cA A σ0 (QcI σ0 Q)) (Xw D cA A σ0 (QxC σ0 X)) args s (BC - gc σ0) (BS - gs σ0) A) σ0 X → JJ p l e R s m args below meth c nL D cA A (gc σ0) (gs σ0) (vx_MQ below (Qw D cA A σ0 (QcI σ0 Q)) (Xw D cA A σ0 (QxC σ0 X)) args s (BC - gc σ0) (BS - gs σ0) A) σ0 0 (lv_args 0 as) []) :
    Ok l D cA tys A y (.codeWith y cc nL (some .int) hh) fr lw as σ0 (QcI σ0 Q) (QxC σ0 X) := by
  refine ok_ofH (ret := (some .int)) hy hw ?_
  intro p e R s m args below meth c hRR B hr hlocks htab
  refine body p e R s m args below meth c ⟨B, hT, by rw [hRR]; exact ⟨rfl, rfl⟩, by rw [hRR]; exact Nat.le_refl _, by rw [hRR]; exact Nat.le_refl _, htab, hl0⟩ (fun pc ls σ9 H locs r gr hd hH hc hq hG9 hY9 hE9 => e_iret B hH hc hr rfl hlocks ⟨r, rfl, gr, hq, hG9, hY9, hE9⟩ hd) ?_
  exact fun σ9 E pc lo st hout hx hG9 hY9 hE9 H locs ls ce q hH hl hc hce hcv hcl => e_out hH hc hout hlocks hce hcv hcl ⟨hx, hG9, hY9, hE9⟩
theorem oc_IF {Q : Sg → Int → Prop} (hl0 : l.stackTraces = false) (hy : plainFor y = true) (hw : (lg_sl as).length ≤ nL) (hT : TyC cA tys)
    (body : ∀ (p : Program) (e : Env) (R : Room) (s : State) (m : MethodId) (args : Array Value) (below : List Frame) (meth : Method) (c : Code), MD l R p s m args c cc nL y.cls D cA tys A (gc σ0) (gs σ0) fr lw [] → CQI p l e R s m args below meth c cc D cA A (gc σ0) (gs σ0) (vx_MQ below (Qw D cA A σ0 (QcI σ0 Q)) (Xw D cA A σ0 (QxC σ0 X)) args s (BC - gc σ0) (BS - gs σ0) A) σ0 Q → CX p l e R s m args below meth c nL D cA A (gc σ0) (gs σ0) (vx_MQ below (Qw D cA A σ0 (QcI σ0 Q)) (Xw D cA A σ0 (QxC σ0 X)) args s (BC - gc σ0) (BS - gs σ0) A) σ0 X → CT p l e R s m args below meth c cc nL D cA A (gc σ0) (gs σ0) (vx_MQ below (Qw D cA A σ0 (QcI σ0 Q)) (Xw D cA A σ0 (QxC σ0 X)) args s (BC - gc σ0) (BS - gs σ0) A) σ0 y.cls X → JJ p l e R s m args below meth c nL D cA A (gc σ0) (gs σ0) (vx_MQ below (Qw D cA A σ0 (QcI σ0 Q)) (Xw D cA A σ0 (QxC σ0 X)) args s (BC - gc σ0) (BS - gs σ0) A) σ0 0 (lv_args 0 as) []) :
    Ok l D cA tys A y (.code y cc nL (some .int)) fr lw as σ0 (QcI σ0 Q) (QxC σ0 X) := by
  refine ok_ofF (ret := (some .int)) hy hw ?_
  intro p e R s m args below meth c hRR B hr hlocks htab
  refine body p e R s m args below meth c ⟨B, hT, by rw [hRR]; exact ⟨rfl, rfl⟩, by rw [hRR]; exact Nat.le_refl _, by rw [hRR]; exact Nat.le_refl _, (List.eq_nil_iff_forall_not_mem.mpr (fun x hx => htab x hx)), hl0⟩ (fun pc ls σ9 H locs r gr hd hH hc hq hG9 hY9 hE9 => e_iret B hH hc hr rfl hlocks ⟨r, rfl, gr, hq, hG9, hY9, hE9⟩ hd) ?_ (fun σ9 pc ls lo H locs cls ik ic tw d0 d3 d4 d7 hH hls hc hz hx hG9 hY9 hE9 hfr9 hlw9 => e_throw0 B hl0 hH hls ⟨by have := hc.1; show _ ≤ gc σ9 + 1; omega, by have := hc.2.1; show _ ≤ gs σ9 + 6; omega, hz.1, hz.2⟩ ⟨hc.1, hc.2.1⟩ (by rw [hRR]; exact ⟨rfl, rfl⟩) tw.1 tw.2.1 tw.2.2.1 tw.2.2.2.1 tw.2.2.2.2.1 tw.2.2.2.2.2 htab hlocks hfr9 (by show 0 + 81 ≤ _; omega) d0 d3 d4 d7 ⟨hx, hG9, hY9, hE9⟩)
  exact fun σ9 E pc lo st hout hx hG9 hY9 hE9 H locs ls ce q hH hl hc hce hcv hcl => e_out hH hc hout hlocks hce hcv hcl ⟨hx, hG9, hY9, hE9⟩
theorem oc_Z {Q : Sg → Int → Prop} (hl0 : l.stackTraces = false) (hy : plainName y.cls = true) (hw : (lg_sl as).length ≤ nL) (hT : TyC cA tys)
    (body : ∀ (p : Program) (e : Env) (R : Room) (s : State) (m : MethodId) (args : Array Value) (below : List Frame) (meth : Method) (c : Code), MD l R p s m args c cc nL y.cls D cA tys A (gc σ0) (gs σ0) fr lw [] → CQZ p l e R s m args below meth c cc D cA A (gc σ0) (gs σ0) (vx_MQ below (Qw D cA A σ0 (QcZ σ0 Q)) (Xw D cA A σ0 (QxC σ0 X)) args s (BC - gc σ0) (BS - gs σ0) A) σ0 Q → CX p l e R s m args below meth c nL D cA A (gc σ0) (gs σ0) (vx_MQ below (Qw D cA A σ0 (QcZ σ0 Q)) (Xw D cA A σ0 (QxC σ0 X)) args s (BC - gc σ0) (BS - gs σ0) A) σ0 X → CT p l e R s m args below meth c cc nL D cA A (gc σ0) (gs σ0) (vx_MQ below (Qw D cA A σ0 (QcZ σ0 Q)) (Xw D cA A σ0 (QxC σ0 X)) args s (BC - gc σ0) (BS - gs σ0) A) σ0 y.cls X → JJ p l e R s m args below meth c nL D cA A (gc σ0) (gs σ0) (vx_MQ below (Qw D cA A σ0 (QcZ σ0 Q)) (Xw D cA A σ0 (QxC σ0 X)) args s (BC - gc σ0) (BS - gs σ0) A) σ0 0 (lv_args 0 as) []) :
    Ok l D cA tys A y (.code y cc nL (some .boolean)) fr lw as σ0 (QcZ σ0 Q) (QxC σ0 X) := by
  refine ok_of (ret := (some .boolean)) hy hw ?_
  intro p e R s m args below meth c hRR B hr hlocks htab hin9
  refine body p e R s m args below meth c ⟨B, hT, by rw [hRR]; exact ⟨rfl, rfl⟩, by rw [hRR]; exact Nat.le_refl _, by rw [hRR]; exact Nat.le_refl _, (List.eq_nil_iff_forall_not_mem.mpr (fun x hx => htab x hx)), hl0⟩ (fun pc ls σ9 H locs r gr gz hd hH hc hq hG9 hY9 hE9 => e_iret B hH hc hr (by rcases gz with e9 | e9 <;> rw [e9] <;> rfl) hlocks ⟨r, rfl, ⟨gr, gz⟩, hq, hG9, hY9, hE9⟩ hd) ?_ (fun σ9 pc ls lo H locs cls ik ic tw d0 d3 d4 d7 hH hls hc hz hx hG9 hY9 hE9 hfr9 hlw9 => e_throw0 B hl0 hH hls ⟨by have := hc.1; show _ ≤ gc σ9 + 1; omega, by have := hc.2.1; show _ ≤ gs σ9 + 6; omega, hz.1, hz.2⟩ ⟨hc.1, hc.2.1⟩ (by rw [hRR]; exact ⟨rfl, rfl⟩) tw.1 tw.2.1 tw.2.2.1 tw.2.2.2.1 tw.2.2.2.2.1 tw.2.2.2.2.2 htab hlocks hfr9 (by show 0 + 81 ≤ _; omega) d0 d3 d4 d7 ⟨hx, hG9, hY9, hE9⟩)
  exact fun σ9 E pc lo st hout hx hG9 hY9 hE9 H locs ls ce q hH hl hc hce hcv hcl => e_out hH hc hout hlocks hce hcv hcl ⟨hx, hG9, hY9, hE9⟩
theorem oc_ZH {Q : Sg → Int → Prop} {hh : List (Nat × Nat × Nat × Nat)} (hl0 : l.stackTraces = false) (hy : plainName y.cls = true) (hw : (lg_sl as).length ≤ nL) (hT : TyC cA tys)
    (body : ∀ (p : Program) (e : Env) (R : Room) (s : State) (m : MethodId) (args : Array Value) (below : List Frame) (meth : Method) (c : Code), MD l R p s m args c cc nL y.cls D cA tys A (gc σ0) (gs σ0) fr lw hh → CQZ p l e R s m args below meth c cc D cA A (gc σ0) (gs σ0) (vx_MQ below (Qw D cA A σ0 (QcZ σ0 Q)) (Xw D cA A σ0 (QxC σ0 X)) args s (BC - gc σ0) (BS - gs σ0) A) σ0 Q → CX p l e R s m args below meth c nL D cA A (gc σ0) (gs σ0) (vx_MQ below (Qw D cA A σ0 (QcZ σ0 Q)) (Xw D cA A σ0 (QxC σ0 X)) args s (BC - gc σ0) (BS - gs σ0) A) σ0 X → JJ p l e R s m args below meth c nL D cA A (gc σ0) (gs σ0) (vx_MQ below (Qw D cA A σ0 (QcZ σ0 Q)) (Xw D cA A σ0 (QxC σ0 X)) args s (BC - gc σ0) (BS - gs σ0) A) σ0 0 (lv_args 0 as) []) :
    Ok l D cA tys A y (.codeWith y cc nL (some .boolean) hh) fr lw as σ0 (QcZ σ0 Q) (QxC σ0 X) := by
  refine ok_ofH (ret := (some .boolean)) hy hw ?_
  intro p e R s m args below meth c hRR B hr hlocks htab
  refine body p e R s m args below meth c ⟨B, hT, by rw [hRR]; exact ⟨rfl, rfl⟩, by rw [hRR]; exact Nat.le_refl _, by rw [hRR]; exact Nat.le_refl _, htab, hl0⟩ (fun pc ls σ9 H locs r gr gz hd hH hc hq hG9 hY9 hE9 => e_iret B hH hc hr (by rcases gz with e9 | e9 <;> rw [e9] <;> rfl) hlocks ⟨r, rfl, ⟨gr, gz⟩, hq, hG9, hY9, hE9⟩ hd) ?_
  exact fun σ9 E pc lo st hout hx hG9 hY9 hE9 H locs ls ce q hH hl hc hce hcv hcl => e_out hH hc hout hlocks hce hcv hcl ⟨hx, hG9, hY9, hE9⟩
theorem oc_J {Q : Sg → Int64 → Prop} (hl0 : l.stackTraces = false) (hy : plainName y.cls = true) (hw : (lg_sl as).length ≤ nL) (hT : TyC cA tys)
    (body : ∀ (p : Program) (e : Env) (R : Room) (s : State) (m : MethodId) (args : Array Value) (below : List Frame) (meth : Method) (c : Code), MD l R p s m args c cc nL y.cls D cA tys A (gc σ0) (gs σ0) fr lw [] → CQJ p l e R s m args below meth c cc D cA A (gc σ0) (gs σ0) (vx_MQ below (Qw D cA A σ0 (QcJ σ0 Q)) (Xw D cA A σ0 (QxC σ0 X)) args s (BC - gc σ0) (BS - gs σ0) A) σ0 Q → CX p l e R s m args below meth c nL D cA A (gc σ0) (gs σ0) (vx_MQ below (Qw D cA A σ0 (QcJ σ0 Q)) (Xw D cA A σ0 (QxC σ0 X)) args s (BC - gc σ0) (BS - gs σ0) A) σ0 X → CT p l e R s m args below meth c cc nL D cA A (gc σ0) (gs σ0) (vx_MQ below (Qw D cA A σ0 (QcJ σ0 Q)) (Xw D cA A σ0 (QxC σ0 X)) args s (BC - gc σ0) (BS - gs σ0) A) σ0 y.cls X → JJ p l e R s m args below meth c nL D cA A (gc σ0) (gs σ0) (vx_MQ below (Qw D cA A σ0 (QcJ σ0 Q)) (Xw D cA A σ0 (QxC σ0 X)) args s (BC - gc σ0) (BS - gs σ0) A) σ0 0 (lv_args 0 as) []) :
    Ok l D cA tys A y (.code y cc nL (some .long)) fr lw as σ0 (QcJ σ0 Q) (QxC σ0 X) := by
  refine ok_of (ret := (some .long)) hy hw ?_
  intro p e R s m args below meth c hRR B hr hlocks htab hin9
  refine body p e R s m args below meth c ⟨B, hT, by rw [hRR]; exact ⟨rfl, rfl⟩, by rw [hRR]; exact Nat.le_refl _, by rw [hRR]; exact Nat.le_refl _, (List.eq_nil_iff_forall_not_mem.mpr (fun x hx => htab x hx)), hl0⟩ (fun pc ls σ9 H locs r hd hH hc hq hG9 hY9 hE9 => e_lret B hH hc hr hlocks ⟨r, rfl, hq, hG9, hY9, hE9⟩ hd) ?_ (fun σ9 pc ls lo H locs cls ik ic tw d0 d3 d4 d7 hH hls hc hz hx hG9 hY9 hE9 hfr9 hlw9 => e_throw0 B hl0 hH hls ⟨by have := hc.1; show _ ≤ gc σ9 + 1; omega, by have := hc.2.1; show _ ≤ gs σ9 + 6; omega, hz.1, hz.2⟩ ⟨hc.1, hc.2.1⟩ (by rw [hRR]; exact ⟨rfl, rfl⟩) tw.1 tw.2.1 tw.2.2.1 tw.2.2.2.1 tw.2.2.2.2.1 tw.2.2.2.2.2 htab hlocks hfr9 (by show 0 + 81 ≤ _; omega) d0 d3 d4 d7 ⟨hx, hG9, hY9, hE9⟩)
  exact fun σ9 E pc lo st hout hx hG9 hY9 hE9 H locs ls ce q hH hl hc hce hcv hcl => e_out hH hc hout hlocks hce hcv hcl ⟨hx, hG9, hY9, hE9⟩
theorem oc_JF {Q : Sg → Int64 → Prop} (hl0 : l.stackTraces = false) (hy : plainFor y = true) (hw : (lg_sl as).length ≤ nL) (hT : TyC cA tys)
    (body : ∀ (p : Program) (e : Env) (R : Room) (s : State) (m : MethodId) (args : Array Value) (below : List Frame) (meth : Method) (c : Code), MD l R p s m args c cc nL y.cls D cA tys A (gc σ0) (gs σ0) fr lw [] → CQJ p l e R s m args below meth c cc D cA A (gc σ0) (gs σ0) (vx_MQ below (Qw D cA A σ0 (QcJ σ0 Q)) (Xw D cA A σ0 (QxC σ0 X)) args s (BC - gc σ0) (BS - gs σ0) A) σ0 Q → CX p l e R s m args below meth c nL D cA A (gc σ0) (gs σ0) (vx_MQ below (Qw D cA A σ0 (QcJ σ0 Q)) (Xw D cA A σ0 (QxC σ0 X)) args s (BC - gc σ0) (BS - gs σ0) A) σ0 X → CT p l e R s m args below meth c cc nL D cA A (gc σ0) (gs σ0) (vx_MQ below (Qw D cA A σ0 (QcJ σ0 Q)) (Xw D cA A σ0 (QxC σ0 X)) args s (BC - gc σ0) (BS - gs σ0) A) σ0 y.cls X → JJ p l e R s m args below meth c nL D cA A (gc σ0) (gs σ0) (vx_MQ below (Qw D cA A σ0 (QcJ σ0 Q)) (Xw D cA A σ0 (QxC σ0 X)) args s (BC - gc σ0) (BS - gs σ0) A) σ0 0 (lv_args 0 as) []) :
    Ok l D cA tys A y (.code y cc nL (some .long)) fr lw as σ0 (QcJ σ0 Q) (QxC σ0 X) := by
  refine ok_ofF (ret := (some .long)) hy hw ?_
  intro p e R s m args below meth c hRR B hr hlocks htab
  refine body p e R s m args below meth c ⟨B, hT, by rw [hRR]; exact ⟨rfl, rfl⟩, by rw [hRR]; exact Nat.le_refl _, by rw [hRR]; exact Nat.le_refl _, (List.eq_nil_iff_forall_not_mem.mpr (fun x hx => htab x hx)), hl0⟩ (fun pc ls σ9 H locs r hd hH hc hq hG9 hY9 hE9 => e_lret B hH hc hr hlocks ⟨r, rfl, hq, hG9, hY9, hE9⟩ hd) ?_ (fun σ9 pc ls lo H locs cls ik ic tw d0 d3 d4 d7 hH hls hc hz hx hG9 hY9 hE9 hfr9 hlw9 => e_throw0 B hl0 hH hls ⟨by have := hc.1; show _ ≤ gc σ9 + 1; omega, by have := hc.2.1; show _ ≤ gs σ9 + 6; omega, hz.1, hz.2⟩ ⟨hc.1, hc.2.1⟩ (by rw [hRR]; exact ⟨rfl, rfl⟩) tw.1 tw.2.1 tw.2.2.1 tw.2.2.2.1 tw.2.2.2.2.1 tw.2.2.2.2.2 htab hlocks hfr9 (by show 0 + 81 ≤ _; omega) d0 d3 d4 d7 ⟨hx, hG9, hY9, hE9⟩)
  exact fun σ9 E pc lo st hout hx hG9 hY9 hE9 H locs ls ce q hH hl hc hce hcv hcl => e_out hH hc hout hlocks hce hcv hcl ⟨hx, hG9, hY9, hE9⟩
theorem oc_A {Q : Sg → Option Nat → Prop} {nO : String} {kd : Nat} (hl0 : l.stackTraces = false) (hy : plainName y.cls = true) (hw : (lg_sl as).length ≤ nL) (hT : TyC cA tys)
    (body : ∀ (p : Program) (e : Env) (R : Room) (s : State) (m : MethodId) (args : Array Value) (below : List Frame) (meth : Method) (c : Code), MD l R p s m args c cc nL y.cls D cA tys A (gc σ0) (gs σ0) fr lw [] → CQA p l e R s m args below meth c cc D cA A (gc σ0) (gs σ0) (vx_MQ below (Qw D cA A σ0 (QcA σ0 kd Q)) (Xw D cA A σ0 (QxC σ0 X)) args s (BC - gc σ0) (BS - gs σ0) A) σ0 kd Q → CX p l e R s m args below meth c nL D cA A (gc σ0) (gs σ0) (vx_MQ below (Qw D cA A σ0 (QcA σ0 kd Q)) (Xw D cA A σ0 (QxC σ0 X)) args s (BC - gc σ0) (BS - gs σ0) A) σ0 X → CT p l e R s m args below meth c cc nL D cA A (gc σ0) (gs σ0) (vx_MQ below (Qw D cA A σ0 (QcA σ0 kd Q)) (Xw D cA A σ0 (QxC σ0 X)) args s (BC - gc σ0) (BS - gs σ0) A) σ0 y.cls X → JJ p l e R s m args below meth c nL D cA A (gc σ0) (gs σ0) (vx_MQ below (Qw D cA A σ0 (QcA σ0 kd Q)) (Xw D cA A σ0 (QxC σ0 X)) args s (BC - gc σ0) (BS - gs σ0) A) σ0 0 (lv_args 0 as) []) :
    Ok l D cA tys A y (.code y cc nL (some (.object nO))) fr lw as σ0 (QcA σ0 kd Q) (QxC σ0 X) := by
  refine ok_of (ret := (some (.object nO))) hy hw ?_
  intro p e R s m args below meth c hRR B hr hlocks htab hin9
  refine body p e R s m args below meth c ⟨B, hT, by rw [hRR]; exact ⟨rfl, rfl⟩, by rw [hRR]; exact Nat.le_refl _, by rw [hRR]; exact Nat.le_refl _, (List.eq_nil_iff_forall_not_mem.mpr (fun x hx => htab x hx)), hl0⟩ (fun pc ls σ9 H locs r gr hd hH hc hq hG9 hY9 hE9 => e_aret B hH hc hr (Or.inl ⟨_, rfl⟩) (by cases r with | none => exact Or.inl rfl | some a => exact Or.inr ⟨a, rfl⟩) hlocks ⟨r, rfl, gr, hq, hG9, hY9, hE9⟩ hd) ?_ (fun σ9 pc ls lo H locs cls ik ic tw d0 d3 d4 d7 hH hls hc hz hx hG9 hY9 hE9 hfr9 hlw9 => e_throw0 B hl0 hH hls ⟨by have := hc.1; show _ ≤ gc σ9 + 1; omega, by have := hc.2.1; show _ ≤ gs σ9 + 6; omega, hz.1, hz.2⟩ ⟨hc.1, hc.2.1⟩ (by rw [hRR]; exact ⟨rfl, rfl⟩) tw.1 tw.2.1 tw.2.2.1 tw.2.2.2.1 tw.2.2.2.2.1 tw.2.2.2.2.2 htab hlocks hfr9 (by show 0 + 81 ≤ _; omega) d0 d3 d4 d7 ⟨hx, hG9, hY9, hE9⟩)
  exact fun σ9 E pc lo st hout hx hG9 hY9 hE9 H locs ls ce q hH hl hc hce hcv hcl => e_out hH hc hout hlocks hce hcv hcl ⟨hx, hG9, hY9, hE9⟩
theorem oc_AF {Q : Sg → Option Nat → Prop} {tO : FieldType} {kd : Nat} (hl0 : l.stackTraces = false) (hy : plainFor y = true) (hw : (lg_sl as).length ≤ nL) (hT : TyC cA tys)
    (body : ∀ (p : Program) (e : Env) (R : Room) (s : State) (m : MethodId) (args : Array Value) (below : List Frame) (meth : Method) (c : Code), MD l R p s m args c cc nL y.cls D cA tys A (gc σ0) (gs σ0) fr lw [] → CQA p l e R s m args below meth c cc D cA A (gc σ0) (gs σ0) (vx_MQ below (Qw D cA A σ0 (QcA σ0 kd Q)) (Xw D cA A σ0 (QxC σ0 X)) args s (BC - gc σ0) (BS - gs σ0) A) σ0 kd Q → CX p l e R s m args below meth c nL D cA A (gc σ0) (gs σ0) (vx_MQ below (Qw D cA A σ0 (QcA σ0 kd Q)) (Xw D cA A σ0 (QxC σ0 X)) args s (BC - gc σ0) (BS - gs σ0) A) σ0 X → CT p l e R s m args below meth c cc nL D cA A (gc σ0) (gs σ0) (vx_MQ below (Qw D cA A σ0 (QcA σ0 kd Q)) (Xw D cA A σ0 (QxC σ0 X)) args s (BC - gc σ0) (BS - gs σ0) A) σ0 y.cls X → JJ p l e R s m args below meth c nL D cA A (gc σ0) (gs σ0) (vx_MQ below (Qw D cA A σ0 (QcA σ0 kd Q)) (Xw D cA A σ0 (QxC σ0 X)) args s (BC - gc σ0) (BS - gs σ0) A) σ0 0 (lv_args 0 as) []) :
    Ok l D cA tys A y (.code y cc nL (some (.array tO))) fr lw as σ0 (QcA σ0 kd Q) (QxC σ0 X) := by
  refine ok_ofF (ret := (some (.array tO))) hy hw ?_
  intro p e R s m args below meth c hRR B hr hlocks htab
  refine body p e R s m args below meth c ⟨B, hT, by rw [hRR]; exact ⟨rfl, rfl⟩, by rw [hRR]; exact Nat.le_refl _, by rw [hRR]; exact Nat.le_refl _, (List.eq_nil_iff_forall_not_mem.mpr (fun x hx => htab x hx)), hl0⟩ (fun pc ls σ9 H locs r gr hd hH hc hq hG9 hY9 hE9 => e_aret B hH hc hr (Or.inr ⟨_, rfl⟩) (by cases r with | none => exact Or.inl rfl | some a => exact Or.inr ⟨a, rfl⟩) hlocks ⟨r, rfl, gr, hq, hG9, hY9, hE9⟩ hd) ?_ (fun σ9 pc ls lo H locs cls ik ic tw d0 d3 d4 d7 hH hls hc hz hx hG9 hY9 hE9 hfr9 hlw9 => e_throw0 B hl0 hH hls ⟨by have := hc.1; show _ ≤ gc σ9 + 1; omega, by have := hc.2.1; show _ ≤ gs σ9 + 6; omega, hz.1, hz.2⟩ ⟨hc.1, hc.2.1⟩ (by rw [hRR]; exact ⟨rfl, rfl⟩) tw.1 tw.2.1 tw.2.2.1 tw.2.2.2.1 tw.2.2.2.2.1 tw.2.2.2.2.2 htab hlocks hfr9 (by show 0 + 81 ≤ _; omega) d0 d3 d4 d7 ⟨hx, hG9, hY9, hE9⟩)
  exact fun σ9 E pc lo st hout hx hG9 hY9 hE9 H locs ls ce q hH hl hc hce hcv hcl => e_out hH hc hout hlocks hce hcv hcl ⟨hx, hG9, hY9, hE9⟩
end COK
section CMK
variable {p : Program} {l : Launch} {e : Env} {R : Room} {s : State} {m : MethodId} {args : Array Value} {below : List Frame} {meth : Method} {c : Code} {cc : ByteArray} {nL : Nat} {own : String} {D : va_G} {cA : Nat → ClassId} {tys : List (ClassId × FieldType)} {A : Nat → Prop} {n0 s0 : Nat} {Q : State → Prop} {σ : Sg} {pc : Nat} {lo : List (Nat × Value)} {ls : Array Slot} {H : Heap} {locs : List Loc} {rest : List Value} {Qn : Sg → Option Value → Prop} {Qx : Sg → String → Prop} {y : MethodName} {bytes : ByteArray} {maxL fr lw index : Nat} {ret : Option FieldType}
theorem nrO (n : String) (r : Option Nat) : narrow (.object n) (va_rf r) = va_rf r := by cases r <;> rfl
theorem nrA (t : FieldType) (r : Option Nat) : narrow (.array t) (va_rf r) = va_rf r := by cases r <;> rfl
theorem ftO (n : String) (r : Option Nat) : fits (.object n) (va_rf r) = true := by cases r <;> rfl
theorem ftA (t : FieldType) (r : Option Nat) : fits (.array t) (va_rf r) = true := by cases r <;> rfl
theorem kO.new1 {q c9 N : Nat} : kO (new1 σ q c9 N) q c9 := ⟨List.mem_append_right _ (List.mem_singleton.mpr rfl), va_up_self _ _ _⟩
theorem kO.newA {q c9 N : Nat} : kO (newA σ q c9 N) q c9 := ⟨List.mem_append_right _ (List.mem_singleton.mpr rfl), va_up_self _ _ _⟩
/-- new -/
theorem c_new (B : Cx p s m args c cc nL own D cA tys A) (hH : Hd D cA A s σ H locs) (hc : CB n0 s0 σ) (hR : Rm R n0 s0) {C : String} {T : u_T} {N ci : Nat} (hcl : vwCl[ci]? = some (C, T, N)) (hci : ci < 100) (hin : ∀ w ∈ u_ws C T N, w ∈ WAL) (ty0 : Nat → FieldType) (hty : ∀ k, k < N → parseFieldDescriptor (T k).2.2.1 = some (ty0 k)) (hdef : ∀ k, k < N → defaultValue (ty0 k) = (match fty (T k).2.2.1 with | 0 => Value.int 0 | 1 => .long 0 | _ => .null)) (hw : ∀ w ∈ [Cond.classLink own index C, .instantiable C N, .initialized C], w ∈ WAL) (hz : gc σ + 1 ≤ BC ∧ gs σ + N ≤ BS) (hd : decode cc pc = .ok (.new index, 3))
    (h : ∀ (q : Nat) (H1 : Heap), q ∉ gD σ → Hd D cA A s (new1 σ q ci N) H1 locs → CB n0 s0 (new1 σ q ci N) → W p l e R s m args below meth c H1 locs (gc (new1 σ q ci N) - n0) (gs (new1 σ q ci N) - s0) Q (F0 m (pc + 3) ls (.ref q :: rest))) : W p l e R s m args below meth c H locs (gc σ - n0) (gs σ - s0) Q (F0 m pc ls rest) := by
  obtain ⟨h1, h2, h3, h4⟩ := hc
  refine h_new B hH hcl hci hin ty0 hty hdef hw ⟨by rw [hR.1]; omega, by rw [hR.2]; omega⟩ hd (fun q H1 hq hH1 => ?_)
  have h9 := h q H1 hq hH1 ⟨by show _ ≤ gc σ + 1; omega, by show _ ≤ gs σ + N; omega, hz.1, hz.2⟩
  have e1 : gc (new1 σ q ci N) - n0 = gc σ - n0 + 1 := by show gc σ + 1 - n0 = _; omega
  have e2 : gs (new1 σ q ci N) - s0 = gs σ - s0 + N := by show gs σ + N - s0 = _; omega
  rw [e1, e2] at h9
  exact h9
theorem run_x {mc ms : Nat} {g : JFrame} {Qc : State → Outcome → State → Prop} {XC : String → State → State → Prop} {free : Addr → Prop} {cells slots : Nat} (h : va_Run p l e R s m args below meth c H locs cells slots mc ms g rest Qc free) : vx_Run p l e R s m args below meth c H locs cells slots mc ms g rest Qc XC free := by
  intro T hT X
  exact Or.inl (h T hT X)
/-- a static method of a nest mate, that doesn't throw -/
theorem c_SN (B : Cx p s m args c cc nL own D cA tys A) (hH : Hd D cA A s σ H locs) (hl : lv_has ls nL lo) (hc : CB n0 s0 σ) (hR : Rm R n0 s0) {host : String} {As : List Value} (hO : Ok l D cA tys A y (.code y bytes maxL ret) fr lw As σ Qn Qx) (hnx : ∀ σ' E, ¬ Qx σ' E) (hnest : (own, index, y, host) ∈ nmL) (hw : ∀ w ∈ [Cond.static y, .initialized y.cls, .code y bytes maxL ret], w ∈ WAL) (n : Nat) (hd0 : y.cls ≠ "java/lang/invoke/MethodHandle" ∧ y.cls ≠ "java/lang/invoke/VarHandle" ∧ (parseMethodDescriptor y.desc).map (fun d => d.parameters.length) = some n) (hrm : fr + 1 ≤ R.frames ∧ 8 + (maxL + 11) + lw ≤ R.locals)
    (hn : As.length = n) {st0 : List Value} (hst : st0 = As.reverse ++ rest) (hW : (rest.map fun v => v.category).sum ≤ 8) (hd : decode cc pc = .ok (.invokestatic index, 3))
    (k : ∀ (σ' : Sg) (v : Option Value), Qn σ' v → JJ p l e R s m args below meth c nL D cA A n0 s0 Q σ' (pc + 3) lo (v.toList ++ rest)) :
    W p l e R s m args below meth c H locs (gc σ - n0) (gs σ - s0) Q (F0 m pc ls st0) := by
  subst hst
  refine j_after (Qx := Qx) (a := As.toArray) (run_x (va_runSN (As := As) (rest := rest) (host := host) ⟨B.1, B.2.1, B.2.2.2.2.2.1, B.2.2.1, B.2.2.2.1⟩ (met_of hO (fun E st t h => by obtain ⟨σ', h1, -⟩ := h; exact hnx σ' E h1)) ⟨va_cnB n B.2.2.2.1 (wal_good (wal_self (hw _ (by simp)))) rfl rfl rfl (B.2.2.2.2.2.2.2.1.1 _ hnest) (B.2.2.2.1 _ (hw _ (by simp))) hd0 hrm, B.2.2.2.1 _ (hw _ (by simp)), trivial⟩ ⟨pw_blind _, fun U hU hW => pw_here B hH hc _ U hU hW⟩ rfl hn hl.1 rfl (lv_room hW) hd ⟨?_, ?_⟩)) hH hl hc k (fun σ' E h => (hnx σ' E h).elim)
  · have h1 := hc.1; have h2 := hc.2.2.1; rw [hR.1]; omega
  · have h1 := hc.2.1; have h2 := hc.2.2.2; rw [hR.2]; omega
/-- a constructor of a nest mate -/
theorem c_IN (B : Cx p s m args c cc nL own D cA tys A) (hH : Hd D cA A s σ H locs) (hl : lv_has ls nL lo) (hc : CB n0 s0 σ) (hR : Rm R n0 s0) {host : String} {b : Nat} {As : List Value} (hO : Ok l D cA tys A y (.code y bytes maxL none) fr lw (.ref b :: As) σ Qn Qx) (hnx : ∀ σ' E, ¬ Qx σ' E) (hnest : (own, index, y, host) ∈ nmL) (hy1 : y.name = "<init>") (hw : ∀ w ∈ [Cond.instanceMethod y, .initialized y.cls, .code y bytes maxL none], w ∈ WAL) (n : Nat) (hd0 : y.cls ≠ "java/lang/invoke/MethodHandle" ∧ y.cls ≠ "java/lang/invoke/VarHandle" ∧ (parseMethodDescriptor y.desc).map (fun d => d.parameters.length) = some n) (hrm : fr + 1 ≤ R.frames ∧ 8 + (maxL + 11) + lw ≤ R.locals)
    (hn : As.length = n) {st0 : List Value} (hst : st0 = As.reverse ++ .ref b :: rest) (hW : (rest.map fun v => v.category).sum ≤ 8) (hd : decode cc pc = .ok (.invokespecial index, 3))
    (k : ∀ (σ' : Sg) (v : Option Value), Qn σ' v → JJ p l e R s m args below meth c nL D cA A n0 s0 Q σ' (pc + 3) lo (v.toList ++ rest)) :
    W p l e R s m args below meth c H locs (gc σ - n0) (gs σ - s0) Q (F0 m pc ls st0) := by
  subst hst
  refine j_after (Qx := Qx) (a := (Value.ref b :: As).toArray) (run_x (va_runIN (As := As) (rest := rest) (b := b) (host := host) ⟨B.1, B.2.1, B.2.2.2.2.2.1, B.2.2.1, B.2.2.2.1⟩ (met_of hO (fun E st t h => by obtain ⟨σ', h1, -⟩ := h; exact hnx σ' E h1)) ⟨va_cnB n B.2.2.2.1 (wal_good (wal_self (hw _ (by simp)))) rfl rfl rfl (B.2.2.2.2.2.2.2.1.1 _ hnest) (B.2.2.2.1 _ (hw _ (by simp))) hd0 hrm, hy1, B.2.2.2.1 _ (hw _ (by simp))⟩ ⟨pw_blind _, fun U hU hW => pw_here B hH hc _ U hU hW⟩ rfl hn hl.1 rfl (lv_room hW) hd ⟨?_, ?_⟩)) hH hl hc k (fun σ' E h => (hnx σ' E h).elim)
  · have h1 := hc.1; have h2 := hc.2.2.1; rw [hR.1]; omega
  · have h1 := hc.2.1; have h2 := hc.2.2.2; rw [hR.2]; omega
/-- System.arraycopy of longs -/
theorem c_copy (B : Cx p s m args c cc nL own D cA tys A) (hT : TyC cA tys) (hH : Hd D cA A s σ H locs) (hl : lv_has ls nL lo) {cells slots : Nat} (hw : ∀ w ∈ [Cond.methodLink own index arraycopyName, .native arraycopyName, .static arraycopyName, .initialized "java/lang/System"], w ∈ WAL) {a b : Nat} (ha : kO σ a 101) (hb : kO σ b 101) {sp dp n : Int} (h0 : 0 ≤ sp ∧ 0 ≤ dp ∧ 0 ≤ n) (h1 : sp + n ≤ (gn σ a : Int)) (h2 : dp + n ≤ (gn σ b : Int)) (hN : (gn σ a : Int) < 2147483648 ∧ (gn σ b : Int) < 2147483648) (hfr : 1 ≤ R.frames) (hlw : (rest.map fun v => v.category).sum + (nativeFrameWords "java/lang/System" "arraycopy" 5 + 11) ≤ R.locals) (hd : decode cc pc = .ok (.invokestatic index, 3))
    (h : ∀ (H1 : Heap) (locs1 : List Loc), Hd D cA A s (cpJ σ a sp b dp n) H1 locs1 → W p l e R s m args below meth c H1 locs1 cells slots Q (F0 m (pc + 3) ls rest)) : W p l e R s m args below meth c H locs cells slots Q (F0 m pc ls (.int (i32 n) :: .int (i32 dp) :: .ref b :: .int (i32 sp) :: .ref a :: rest)) := by
  obtain ⟨qa, hqa⟩ := wd_get (cA := cA) ha.1
  obtain ⟨qb, hqb⟩ := wd_get (cA := cA) hb.1
  have nn : ∀ z : Int, 0 ≤ z → z < 2147483648 → ¬ i32 z < 0 ∧ (i32 z).toNatClampNeg = z.toNat := fun z z0 z1 => ⟨fun q => by have := (z_lt (x := z) ⟨by omega, z1⟩).mp q; omega, i32_clamp z0 z1⟩
  have n1 := nn sp h0.1 (by omega)
  have n2 := nn dp h0.2.1 (by omega)
  have n3 := nn n h0.2.2 (by omega)
  have hs : (wd cA σ).set qb (b, .inl (cA 101, gn σ b, .inr (.inl (va_cpy (gJ σ a) (gJ σ b) sp.toNat dp.toNat n.toNat)))) = wd cA (cpJ σ a sp b dp n) := by
    refine wd_set (σ' := cpJ σ a sp b dp n) hH.2.1 hb.1 hqb rfl ?_ (fun c9 hc9 => ?_)
    · suffices ef : gJ (cpJ σ a sp b dp n) b = va_cpy (gJ σ a) (gJ σ b) sp.toNat dp.toNat n.toNat by
        rw [ent_long (σ := cpJ σ a sp b dp n) hb.2, ef]
        rfl
      funext j
      show (if b = b ∧ dp ≤ (j : Int) ∧ (j : Int) < dp + n then gJ σ a (sp + ((j : Int) - dp)).toNat else gJ σ b j) = va_cpy (gJ σ a) (gJ σ b) sp.toNat dp.toNat n.toNat j
      unfold va_cpy
      by_cases hj : dp ≤ (j : Int) ∧ (j : Int) < dp + n
      · rw [if_pos ⟨rfl, hj⟩, if_pos (by omega)]
        congr 1
        omega
      · rw [if_neg (fun q => hj q.2), if_neg (by omega)]
    · have e1 : gJ (cpJ σ a sp b dp n) c9 = gJ σ c9 := by funext j; show (if c9 = b ∧ _ then _ else gJ σ c9 j) = _; rw [if_neg (fun q => hc9 q.1)]
      have e2 : ∀ r, flds (cpJ σ a sp b dp n) c9 r = flds σ c9 r := fun r => List.map_congr_left (fun j _ => by unfold fval; rw [e1]; rfl)
      unfold ent
      rw [e2, e1]
      rfl
  rw [ent_long ha.2] at hqa
  rw [ent_long hb.2] at hqb
  refine va_copyl B.1 B.2.1 (B.2.2.2.2.2.1.trans hl.1.symm) B.2.2.1 (B.2.2.2.1 _ (hw _ (by simp))) (B.2.2.2.1 _ (hw _ (by simp))) (B.2.2.2.1 _ (hw _ (by simp))) (B.2.2.2.1 _ (hw _ (by simp))) B.2.2.2.2.1 hH.1 hH.2.1 hH.2.2 qa qb 1 1 hqa hqb hT.1.2.1 hT.1.2.1 rfl n1.1 n2.1 n3.1 (by rw [n1.2, n3.2]; omega) (by rw [n2.2, n3.2]; omega) (fun _ _ => rfl) hfr hlw hd (fun H1 locs1 hP hD hS => ?_)
  rw [n1.2, n2.2, n3.2, hs] at hP hD
  exact h H1 locs1 ⟨hP, hD, hS⟩
/-- System.arraycopy of ints -/
theorem c_copyI (B : Cx p s m args c cc nL own D cA tys A) (hT : TyC cA tys) (hH : Hd D cA A s σ H locs) (hl : lv_has ls nL lo) {cells slots : Nat} (hw : ∀ w ∈ [Cond.methodLink own index arraycopyName, .native arraycopyName, .static arraycopyName, .initialized "java/lang/System"], w ∈ WAL) {a b : Nat} (ha : kO σ a 100) (hb : kO σ b 100) {sp dp n : Int} (h0 : 0 ≤ sp ∧ 0 ≤ dp ∧ 0 ≤ n) (h1 : sp + n ≤ (gn σ a : Int)) (h2 : dp + n ≤ (gn σ b : Int)) (hN : (gn σ a : Int) < 2147483648 ∧ (gn σ b : Int) < 2147483648) (hfr : 1 ≤ R.frames) (hlw : (rest.map fun v => v.category).sum + (nativeFrameWords "java/lang/System" "arraycopy" 5 + 11) ≤ R.locals) (hd : decode cc pc = .ok (.invokestatic index, 3))
    (h : ∀ (H1 : Heap) (locs1 : List Loc), Hd D cA A s (cpI σ a sp b dp n) H1 locs1 → W p l e R s m args below meth c H1 locs1 cells slots Q (F0 m (pc + 3) ls rest)) : W p l e R s m args below meth c H locs cells slots Q (F0 m pc ls (.int (i32 n) :: .int (i32 dp) :: .ref b :: .int (i32 sp) :: .ref a :: rest)) := by
  obtain ⟨qa, hqa⟩ := wd_get (cA := cA) ha.1
  obtain ⟨qb, hqb⟩ := wd_get (cA := cA) hb.1
  have nn : ∀ z : Int, 0 ≤ z → z < 2147483648 → ¬ i32 z < 0 ∧ (i32 z).toNatClampNeg = z.toNat := fun z z0 z1 => ⟨fun q => by have := (z_lt (x := z) ⟨by omega, z1⟩).mp q; omega, i32_clamp z0 z1⟩
  have n1 := nn sp h0.1 (by omega)
  have n2 := nn dp h0.2.1 (by omega)
  have n3 := nn n h0.2.2 (by omega)
  have hs : (wd cA σ).set qb (b, .inl (cA 100, gn σ b, .inl (va_cpy (fun i => i32 (gI σ a i)) (fun i => i32 (gI σ b i)) sp.toNat dp.toNat n.toNat))) = wd cA (cpI σ a sp b dp n) := by
    refine wd_set (σ' := cpI σ a sp b dp n) hH.2.1 hb.1 hqb rfl ?_ (fun c9 hc9 => ?_)
    · suffices ef : (fun i => i32 (gI (cpI σ a sp b dp n) b i)) = va_cpy (fun i => i32 (gI σ a i)) (fun i => i32 (gI σ b i)) sp.toNat dp.toNat n.toNat by
        rw [ent_int (σ := cpI σ a sp b dp n) (by omega) (by omega) (by omega) hb.2, ef]
        rfl
      funext j
      show i32 (if b = b ∧ dp ≤ (j : Int) ∧ (j : Int) < dp + n then gI σ a (sp + ((j : Int) - dp)).toNat else gI σ b j) = va_cpy (fun i => i32 (gI σ a i)) (fun i => i32 (gI σ b i)) sp.toNat dp.toNat n.toNat j
      unfold va_cpy
      by_cases hj : dp ≤ (j : Int) ∧ (j : Int) < dp + n
      · rw [if_pos ⟨rfl, hj⟩, if_pos (by omega)]
        congr 2
        omega
      · rw [if_neg (fun q => hj q.2), if_neg (by omega)]
    · have e1 : gI (cpI σ a sp b dp n) c9 = gI σ c9 := by funext j; show (if c9 = b ∧ _ then _ else gI σ c9 j) = _; rw [if_neg (fun q => hc9 q.1)]
      have e2 : ∀ r, flds (cpI σ a sp b dp n) c9 r = flds σ c9 r := fun r => List.map_congr_left (fun j _ => by unfold fval; rw [e1]; rfl)
      unfold ent
      rw [e2, e1]
      rfl
  rw [ent_int (by omega) (by omega) (by omega) ha.2] at hqa
  rw [ent_int (by omega) (by omega) (by omega) hb.2] at hqb
  refine va_copyi B.1 B.2.1 (B.2.2.2.2.2.1.trans hl.1.symm) B.2.2.1 (B.2.2.2.1 _ (hw _ (by simp))) (B.2.2.2.1 _ (hw _ (by simp))) (B.2.2.2.1 _ (hw _ (by simp))) (B.2.2.2.1 _ (hw _ (by simp))) B.2.2.2.2.1 hH.1 hH.2.1 hH.2.2 qa qb 0 0 hqa hqb hT.1.1 hT.1.1 rfl n1.1 n2.1 n3.1 (by rw [n1.2, n3.2]; omega) (by rw [n2.2, n3.2]; omega) (fun _ _ => rfl) hfr hlw hd (fun H1 locs1 hP hD hS => ?_)
  rw [n1.2, n2.2, n3.2, hs] at hP hD
  exact h H1 locs1 ⟨hP, hD, hS⟩
/-- the static array of keywords -/
theorem k_len (B : Cx p s m args c cc nL own D cA tys A) (hH : Hd D cA A s σ H locs) {cells slots : Nat} (hd : decode cc pc = .ok (.arraylength, 1)) (h : W p l e R s m args below meth c H locs cells slots Q (F0 m (pc + 1) ls (.int (i32 23) :: rest))) : W p l e R s m args below meth c H locs cells slots Q (F0 m pc ls (.ref (cA 3000) :: rest)) := by
  obtain ⟨f, hf⟩ := B.2.2.2.2.2.2.2.2.2.2.2.2.2.2
  exact va_tlen (v := i32 23) B.1 B.2.1 hf hH.2.2 (by decide) hd h
theorem k_ald (B : Cx p s m args c cc nL own D cA tys A) (hH : Hd D cA A s σ H locs) {cells slots : Nat} {i : Int} (hi : 0 ≤ i ∧ i < 23) (hd : decode cc pc = .ok (.laload, 1)) (h : ∀ v : Int64, W p l e R s m args below meth c H locs cells slots Q (F0 m (pc + 1) ls (.long v :: rest))) : W p l e R s m args below meth c H locs cells slots Q (F0 m pc ls (.int (i32 i) :: .ref (cA 3000) :: rest)) := by
  obtain ⟨f, hf⟩ := B.2.2.2.2.2.2.2.2.2.2.2.2.2.2
  exact va_tl (v := .long (f (i32 i).toNatClampNeg)) B.1 B.2.1 hf hH.2.2 (i32_in hi.1 hi.2 (by decide)) rfl hd (h _)
/-- Object.<init> -/
theorem h_oinit (B : Cx p s m args c cc nL own D cA tys A) (hl : lv_has ls nL lo) {cells slots : Nat} (hw : ∀ w ∈ [Cond.methodLink own index Lib.objectInit, .instanceMethod Lib.objectInit, .code Lib.objectInit ⟨#[0xb1]⟩ 1 none], w ∈ WAL) {a : Nat} (hfr : 1 ≤ R.frames) (hlw : 12 ≤ R.locals) (hd : decode cc pc = .ok (.invokespecial index, 3)) (h : W p l e R s m args below meth c H locs cells slots Q (F0 m (pc + 3) ls [])) : W p l e R s m args below meth c H locs cells slots Q (F0 m pc ls [.ref a]) :=
  W.objInit B.1 B.2.1 B.2.2.1 (B.2.2.2.1 _ (hw _ (by simp))) (B.2.2.2.1 _ (hw _ (by simp))) (B.2.2.2.1 _ (hw _ (by simp))) rfl (hl.1.trans B.2.2.2.2.2.1.symm) rfl hd hfr (by show 2 * 0 + 0 + 12 ≤ _; omega) h
/-- new long[n], of a class that is there -/
theorem c_newJ (B : Cx p s m args c cc nL own D cA tys A) (hT : TyC cA tys) (hH : Hd D cA A s σ H locs) (hc : CB n0 s0 σ) (hR : Rm R n0 s0) (harr : Cond.arrayClass .long ∈ WAL) {n : Int} (hn : 0 ≤ n ∧ n < 60000000) (hz : gc σ + 1 ≤ BC ∧ gs σ + n.toNat ≤ BS) (hd : decode cc pc = .ok (.newarray .long, 2))
    (h : ∀ (q : Nat) (H1 : Heap), q ∉ gD σ → Hd D cA A s (newA σ q 101 n.toNat) H1 locs → CB n0 s0 (newA σ q 101 n.toNat) → W p l e R s m args below meth c H1 locs (gc (newA σ q 101 n.toNat) - n0) (gs (newA σ q 101 n.toNat) - s0) Q (F0 m (pc + 2) ls (.ref q :: rest))) : W p l e R s m args below meth c H locs (gc σ - n0) (gs σ - s0) Q (F0 m pc ls (.int (i32 n) :: rest)) := by
  obtain ⟨h1, h2, h3, h4⟩ := hc
  have hrn : rng n := ⟨by omega, by omega⟩
  refine va_newa (a0 := (n.toNat, .inr (.inl (fun _ => 0)))) (N' := n.toNat) B.1 B.2.1 (atype := .long) (ty := .long) (B.2.2.2.1 _ harr) rfl B.2.2.2.2.1 hH.1 hH.2.1 hH.2.2 B.2.2.2.2.2.2.1 (fun cA9 => rfl) (fun q => by have := (z_lt hrn).mp q; omega) (i32_clamp hn.1 (by omega)) (by show n.toNat * _ ≤ _; simp only [componentBytes]; omega) (by rw [hR.1]; omega) (by rw [hR.2]; omega) hd (fun q cA9 H1 hK9 hP hD hS => ?_)
  have ecA : cA9 = cA 101 := by
    have k1 : va_RA s (cA 101) .long := (B.2.2.2.2.1.2 1 _ hT.1.2.1).2
    have k2 : va_RA s cA9 .long := (hK9.2 tys.length (cA9, .long) (by rw [List.getElem?_append_right (Nat.le_refl _), Nat.sub_self]; rfl)).2
    exact Option.some.inj (k2.symm.trans k1)
  subst ecA
  have hq : q ∉ gD σ := by
    intro hm
    obtain ⟨k, hk⟩ := wd_get (cA := cA) hm
    have e1 : (wd cA σ ++ [(q, (.inl (cA 101, n.toNat, .inr (.inl (fun _ => 0))) : va_E))])[k]? = some (q, ent cA σ q) := by
      rw [List.getElem?_append_left (List.getElem?_eq_some_iff.mp hk).1]; exact hk
    have e2 : (wd cA σ ++ [(q, (.inl (cA 101, n.toNat, .inr (.inl (fun _ => 0))) : va_E))])[(wd cA σ).length]? = some (q, (.inl (cA 101, n.toNat, .inr (.inl (fun _ => 0))) : va_E)) := by
      rw [List.getElem?_append_right (Nat.le_refl _), Nat.sub_self]; rfl
    have := hD.1 _ _ _ _ e1 e2 rfl
    have h1 := (List.getElem?_eq_some_iff.mp hk).1
    omega
  have hs : wd cA σ ++ [(q, (.inl (cA 101, n.toNat, .inr (.inl (fun _ => 0))) : va_E))] = wd cA (newA σ q 101 n.toNat) := by
    refine Eq.trans (va_pl_push hq) ?_
    show va_pl (gD σ ++ [q]) _ = va_pl (gD σ ++ [q]) (ent cA (newA σ q 101 n.toNat))
    refine va_pl_congr (fun b => ?_)
    by_cases hb : b = q
    · subst hb
      rw [va_up_self]
      have k0 : gk (newA σ b 101 n.toNat) b = 101 := va_up_self _ _ _
      have k1 : gn (newA σ b 101 n.toNat) b = n.toNat := va_up_self _ _ _
      rw [ent_long (σ := newA σ b 101 n.toNat) k0, k1]
      congr 5
      funext j
      show _ = (if b = b then (0 : Int64) else gJ σ b j)
      rw [if_pos rfl]
    · rw [va_up_ne _ _ hb]
      have k1 : gk (newA σ q 101 n.toNat) b = gk σ b := va_up_ne _ _ hb
      have k2 : gn (newA σ q 101 n.toNat) b = gn σ b := va_up_ne _ _ hb
      have k3 : gI (newA σ q 101 n.toNat) b = gI σ b := by funext j; show (if b = q then (0 : Int) else gI σ b j) = _; rw [if_neg hb]
      have k4 : gJ (newA σ q 101 n.toNat) b = gJ σ b := by funext j; show (if b = q then (0 : Int64) else gJ σ b j) = _; rw [if_neg hb]
      have k5 : gP (newA σ q 101 n.toNat) b = gP σ b := by funext j; show (if b = q then none else gP σ b j) = _; rw [if_neg hb]
      have k6 : ∀ r, flds (newA σ q 101 n.toNat) b r = flds σ b r := fun r => List.map_congr_left (fun j _ => by unfold fval; rw [k3, k4, k5])
      unfold ent
      rw [k1, k2, k3, k4, k5, k6]
  rw [hs] at hP hD
  have h9 := h q H1 hq ⟨hP, hD, hS⟩ ⟨by show _ ≤ gc σ + 1; omega, by show _ ≤ gs σ + n.toNat; omega, hz.1, hz.2⟩
  have e1 : gc (newA σ q 101 n.toNat) - n0 = gc σ - n0 + 1 := by show gc σ + 1 - n0 = _; omega
  have e2 : gs (newA σ q 101 n.toNat) - s0 = gs σ - s0 + n.toNat := by show gs σ + n.toNat - s0 = _; omega
  rw [e1, e2] at h9
  exact h9
/-- new int[n], of a class that is there -/
theorem c_newI (B : Cx p s m args c cc nL own D cA tys A) (hT : TyC cA tys) (hH : Hd D cA A s σ H locs) (hc : CB n0 s0 σ) (hR : Rm R n0 s0) (harr : Cond.arrayClass .int ∈ WAL) {n : Int} (hn : 0 ≤ n ∧ n < 60000000) (hz : gc σ + 1 ≤ BC ∧ gs σ + n.toNat ≤ BS) (hd : decode cc pc = .ok (.newarray .int, 2))
    (h : ∀ (q : Nat) (H1 : Heap), q ∉ gD σ → Hd D cA A s (newA σ q 100 n.toNat) H1 locs → CB n0 s0 (newA σ q 100 n.toNat) → W p l e R s m args below meth c H1 locs (gc (newA σ q 100 n.toNat) - n0) (gs (newA σ q 100 n.toNat) - s0) Q (F0 m (pc + 2) ls (.ref q :: rest))) : W p l e R s m args below meth c H locs (gc σ - n0) (gs σ - s0) Q (F0 m pc ls (.int (i32 n) :: rest)) := by
  obtain ⟨h1, h2, h3, h4⟩ := hc
  have hrn : rng n := ⟨by omega, by omega⟩
  refine va_newa (a0 := (n.toNat, .inl (fun _ => 0))) (N' := n.toNat) B.1 B.2.1 (atype := .int) (ty := .int) (B.2.2.2.1 _ harr) rfl B.2.2.2.2.1 hH.1 hH.2.1 hH.2.2 B.2.2.2.2.2.2.1 (fun cA9 => rfl) (fun q => by have := (z_lt hrn).mp q; omega) (i32_clamp hn.1 (by omega)) (by show n.toNat * _ ≤ _; simp only [componentBytes]; omega) (by rw [hR.1]; omega) (by rw [hR.2]; omega) hd (fun q cA9 H1 hK9 hP hD hS => ?_)
  have ecA : cA9 = cA 100 := by
    have k1 : va_RA s (cA 100) .int := (B.2.2.2.2.1.2 0 _ hT.1.1).2
    have k2 : va_RA s cA9 .int := (hK9.2 tys.length (cA9, .int) (by rw [List.getElem?_append_right (Nat.le_refl _), Nat.sub_self]; rfl)).2
    exact Option.some.inj (k2.symm.trans k1)
  subst ecA
  have hq : q ∉ gD σ := by
    intro hm
    obtain ⟨k, hk⟩ := wd_get (cA := cA) hm
    have e1 : (wd cA σ ++ [(q, (.inl (cA 100, n.toNat, .inl (fun _ => 0)) : va_E))])[k]? = some (q, ent cA σ q) := by
      rw [List.getElem?_append_left (List.getElem?_eq_some_iff.mp hk).1]; exact hk
    have e2 : (wd cA σ ++ [(q, (.inl (cA 100, n.toNat, .inl (fun _ => 0)) : va_E))])[(wd cA σ).length]? = some (q, (.inl (cA 100, n.toNat, .inl (fun _ => 0)) : va_E)) := by
      rw [List.getElem?_append_right (Nat.le_refl _), Nat.sub_self]; rfl
    have := hD.1 _ _ _ _ e1 e2 rfl
    have h1 := (List.getElem?_eq_some_iff.mp hk).1
    omega
  have hs : wd cA σ ++ [(q, (.inl (cA 100, n.toNat, .inl (fun _ => 0)) : va_E))] = wd cA (newA σ q 100 n.toNat) := by
    refine Eq.trans (va_pl_push hq) ?_
    show va_pl (gD σ ++ [q]) _ = va_pl (gD σ ++ [q]) (ent cA (newA σ q 100 n.toNat))
    refine va_pl_congr (fun b => ?_)
    by_cases hb : b = q
    · subst hb
      rw [va_up_self]
      have k0 : gk (newA σ b 100 n.toNat) b = 100 := va_up_self _ _ _
      have k1 : gn (newA σ b 100 n.toNat) b = n.toNat := va_up_self _ _ _
      rw [ent_int (σ := newA σ b 100 n.toNat) (by omega) (by omega) (by omega) k0, k1]
      congr 4
      funext j
      show _ = i32 (if b = b then (0 : Int) else gI σ b j)
      rw [if_pos rfl]; rfl
    · rw [va_up_ne _ _ hb]
      have k1 : gk (newA σ q 100 n.toNat) b = gk σ b := va_up_ne _ _ hb
      have k2 : gn (newA σ q 100 n.toNat) b = gn σ b := va_up_ne _ _ hb
      have k3 : gI (newA σ q 100 n.toNat) b = gI σ b := by funext j; show (if b = q then (0 : Int) else gI σ b j) = _; rw [if_neg hb]
      have k4 : gJ (newA σ q 100 n.toNat) b = gJ σ b := by funext j; show (if b = q then (0 : Int64) else gJ σ b j) = _; rw [if_neg hb]
      have k5 : gP (newA σ q 100 n.toNat) b = gP σ b := by funext j; show (if b = q then none else gP σ b j) = _; rw [if_neg hb]
      have k6 : ∀ r, flds (newA σ q 100 n.toNat) b r = flds σ b r := fun r => List.map_congr_left (fun j _ => by unfold fval; rw [k3, k4, k5])
      unfold ent
      rw [k1, k2, k3, k4, k5, k6]
  rw [hs] at hP hD
  have h9 := h q H1 hq ⟨hP, hD, hS⟩ ⟨by show _ ≤ gc σ + 1; omega, by show _ ≤ gs σ + n.toNat; omega, hz.1, hz.2⟩
  have e1 : gc (newA σ q 100 n.toNat) - n0 = gc σ - n0 + 1 := by show gc σ + 1 - n0 = _; omega
  have e2 : gs (newA σ q 100 n.toNat) - s0 = gs σ - s0 + n.toNat := by show gs σ + n.toNat - s0 = _; omega
  rw [e1, e2] at h9
  exact h9
end CMK

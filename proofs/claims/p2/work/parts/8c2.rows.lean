/-! rows over the heap as data -/
def Zo (σ : Sg) : Prop := ∀ a, a ∉ gD σ → ∀ k, gI σ a k = 0 ∧ gJ σ a k = 0
def ST (σ : Sg) (d : List Rc) (c9 s9 i th ci : Nat) : Prop := Rep σ d c9 s9 ∧ Zo σ ∧ RG σ ∧ (gD σ)[i]? = some th ∧ kO σ th ci
section RRW
variable {p : Program} {l : Launch} {e : Env} {R : Room} {s : State} {m : MethodId} {args : Array Value} {below : List Frame} {meth : Method} {c : Code} {cc : ByteArray} {nL : Nat} {own : String} {D : va_G} {cA : Nat → ClassId} {tys : List (ClassId × FieldType)} {A : Nat → Prop} {n0 s0 : Nat} {Q : State → Prop} {σ : Sg} {pc : Nat} {lo : List (Nat × Value)} {ls : Array Slot} {H : Heap} {locs : List Loc} {rest : List Value} {Qn : Sg → Option Value → Prop} {Qx : Sg → String → Prop} {y : MethodName} {bytes : ByteArray} {maxL fr lw index : Nat} {ret : Option FieldType}
variable {d : List Rc} {c9 s9 i j th ci : Nat}
theorem Zo.newA {q kd n : Nat} (h : Zo σ) : Zo (newA σ q kd n) := fun a ha k => by
  have n1 : a ∉ gD σ := fun w => ha (List.mem_append_left _ w)
  have n2 : a ≠ q := fun w => ha (List.mem_append_right _ (List.mem_singleton.mpr w))
  exact ⟨by show (if a = q then (0 : Int) else gI σ a k) = 0; rw [if_neg n2]; exact (h a n1 k).1, by show (if a = q then (0 : Int64) else gJ σ a k) = 0; rw [if_neg n2]; exact (h a n1 k).2⟩
theorem Zo.new1 {q kd n : Nat} (h : Zo σ) : Zo (new1 σ q kd n) := fun a ha k => by
  have n1 : a ∉ gD σ := fun w => ha (List.mem_append_left _ w)
  have n2 : a ≠ q := fun w => ha (List.mem_append_right _ (List.mem_singleton.mpr w))
  exact ⟨by show (if a = q then (0 : Int) else gI σ a k) = 0; rw [if_neg n2]; exact (h a n1 k).1, by show (if a = q then (0 : Int64) else gJ σ a k) = 0; rw [if_neg n2]; exact (h a n1 k).2⟩
theorem Zo.pP {a k : Nat} {v : Option Nat} (h : Zo σ) : Zo (pP σ a k v) := h
theorem Zo.pI {a k : Nat} {v : Int} (h : Zo σ) (ha : a ∈ gD σ) : Zo (pI σ a k v) := fun b hb j => by
  have n1 : b ≠ a := fun w => hb (w ▸ ha)
  exact ⟨by rw [gI_pI, up2_n _ _ (fun w => n1 w.1)]; exact (h b hb j).1, (h b hb j).2⟩
theorem Rep.room (R : Rep σ d c9 s9) {a n : Nat} (h : c9 + d.length + a ≤ BC ∧ s9 + sz d + n ≤ BS) : gc σ + a ≤ BC ∧ gs σ + n ≤ BS := by
  have g := R.2.2.1
  omega
theorem nw_I (B : Cx p s m args c cc nL own D cA tys A) (hT : TyC cA tys) (hR : Rm R n0 s0) (harr : Cond.arrayClass .int ∈ WAL) (X : ST σ d c9 s9 i th ci) {n : Int} {nn : Nat} (hn : 0 ≤ n ∧ n < 60000000) (hnn : n.toNat = nn) (hz : c9 + d.length + 1 ≤ BC ∧ s9 + sz d + nn ≤ BS) (hd : decode cc pc = .ok (.newarray .int, 2)) (hH : Hd D cA A s σ H locs) (hc : CB n0 s0 σ)
    (h : ∀ (σ1 : Sg) (q : Nat) (H1 : Heap), ST σ1 (dN d 100 nn) c9 s9 i th ci → Pf σ σ1 → Ext σ σ1 → (gD σ1)[d.length]? = some q → Hd D cA A s σ1 H1 locs → CB n0 s0 σ1 → W p l e R s m args below meth c H1 locs (gc σ1 - n0) (gs σ1 - s0) Q (F0 m (pc + 2) ls (.ref q :: rest))) : W p l e R s m args below meth c H locs (gc σ - n0) (gs σ - s0) Q (F0 m pc ls (.int (i32 n) :: rest)) := by
  subst hnn
  obtain ⟨X1, X2, X3, X4, X5⟩ := X
  refine c_newI B hT hH hc hR harr hn (X1.room hz) hd (fun q H1 hq hH1 hc1 => ?_)
  have x9 : Ext σ (newA σ q 100 n.toNat) := Ext.newA hq
  exact h _ q H1 ⟨X1.newA hq rfl, X2.newA, X3.newA, Pf.newA rfl _ _ X4, X5.up x9⟩ (Pf.newA rfl) x9 (At.newA X1 rfl rfl) hH1 hc1
theorem nw_J (B : Cx p s m args c cc nL own D cA tys A) (hT : TyC cA tys) (hR : Rm R n0 s0) (harr : Cond.arrayClass .long ∈ WAL) (X : ST σ d c9 s9 i th ci) {n : Int} {nn : Nat} (hn : 0 ≤ n ∧ n < 60000000) (hnn : n.toNat = nn) (hz : c9 + d.length + 1 ≤ BC ∧ s9 + sz d + nn ≤ BS) (hd : decode cc pc = .ok (.newarray .long, 2)) (hH : Hd D cA A s σ H locs) (hc : CB n0 s0 σ)
    (h : ∀ (σ1 : Sg) (q : Nat) (H1 : Heap), ST σ1 (dN d 101 nn) c9 s9 i th ci → Pf σ σ1 → Ext σ σ1 → (gD σ1)[d.length]? = some q → Hd D cA A s σ1 H1 locs → CB n0 s0 σ1 → W p l e R s m args below meth c H1 locs (gc σ1 - n0) (gs σ1 - s0) Q (F0 m (pc + 2) ls (.ref q :: rest))) : W p l e R s m args below meth c H locs (gc σ - n0) (gs σ - s0) Q (F0 m pc ls (.int (i32 n) :: rest)) := by
  subst hnn
  obtain ⟨X1, X2, X3, X4, X5⟩ := X
  refine c_newJ B hT hH hc hR harr hn (X1.room hz) hd (fun q H1 hq hH1 hc1 => ?_)
  have x9 : Ext σ (newA σ q 101 n.toNat) := Ext.newA hq
  exact h _ q H1 ⟨X1.newA hq rfl, X2.newA, X3.newA, Pf.newA rfl _ _ X4, X5.up x9⟩ (Pf.newA rfl) x9 (At.newA X1 rfl rfl) hH1 hc1
theorem nw_B (B : Cx p s m args c cc nL own D cA tys A) (hT : TyC cA tys) (hR : Rm R n0 s0) (harr : Cond.arrayClass .byte ∈ WAL) (X : ST σ d c9 s9 i th ci) {n : Int} {nn : Nat} (hn : 0 ≤ n ∧ n < 60000000) (hnn : n.toNat = nn) (hz : c9 + d.length + 1 ≤ BC ∧ s9 + sz d + nn ≤ BS) (hd : decode cc pc = .ok (.newarray .byte, 2)) (hH : Hd D cA A s σ H locs) (hc : CB n0 s0 σ)
    (h : ∀ (σ1 : Sg) (q : Nat) (H1 : Heap), ST σ1 (dN d 102 nn) c9 s9 i th ci → Pf σ σ1 → Ext σ σ1 → (gD σ1)[d.length]? = some q → Hd D cA A s σ1 H1 locs → CB n0 s0 σ1 → W p l e R s m args below meth c H1 locs (gc σ1 - n0) (gs σ1 - s0) Q (F0 m (pc + 2) ls (.ref q :: rest))) : W p l e R s m args below meth c H locs (gc σ - n0) (gs σ - s0) Q (F0 m pc ls (.int (i32 n) :: rest)) := by
  subst hnn
  obtain ⟨X1, X2, X3, X4, X5⟩ := X
  refine c_newB B hT hH hc hR harr hn (X1.room hz) hd (fun q H1 hq hH1 hc1 => ?_)
  have x9 : Ext σ (newA σ q 102 n.toNat) := Ext.newA hq
  exact h _ q H1 ⟨X1.newA hq rfl, X2.newA, X3.newA, Pf.newA rfl _ _ X4, X5.up x9⟩ (Pf.newA rfl) x9 (At.newA X1 rfl rfl) hH1 hc1
theorem nw_Z (B : Cx p s m args c cc nL own D cA tys A) (hT : TyC cA tys) (hR : Rm R n0 s0) (harr : Cond.arrayClass .boolean ∈ WAL) (X : ST σ d c9 s9 i th ci) {n : Int} {nn : Nat} (hn : 0 ≤ n ∧ n < 60000000) (hnn : n.toNat = nn) (hz : c9 + d.length + 1 ≤ BC ∧ s9 + sz d + nn ≤ BS) (hd : decode cc pc = .ok (.newarray .boolean, 2)) (hH : Hd D cA A s σ H locs) (hc : CB n0 s0 σ)
    (h : ∀ (σ1 : Sg) (q : Nat) (H1 : Heap), ST σ1 (dN d 103 nn) c9 s9 i th ci → Pf σ σ1 → Ext σ σ1 → (gD σ1)[d.length]? = some q → Hd D cA A s σ1 H1 locs → CB n0 s0 σ1 → W p l e R s m args below meth c H1 locs (gc σ1 - n0) (gs σ1 - s0) Q (F0 m (pc + 2) ls (.ref q :: rest))) : W p l e R s m args below meth c H locs (gc σ - n0) (gs σ - s0) Q (F0 m pc ls (.int (i32 n) :: rest)) := by
  subst hnn
  obtain ⟨X1, X2, X3, X4, X5⟩ := X
  refine c_newZ B hT hH hc hR harr hn (X1.room hz) hd (fun q H1 hq hH1 hc1 => ?_)
  have x9 : Ext σ (newA σ q 103 n.toNat) := Ext.newA hq
  exact h _ q H1 ⟨X1.newA hq rfl, X2.newA, X3.newA, Pf.newA rfl _ _ X4, X5.up x9⟩ (Pf.newA rfl) x9 (At.newA X1 rfl rfl) hH1 hc1
theorem nw_O (B : Cx p s m args c cc nL own D cA tys A) (hR : Rm R n0 s0) (X : ST σ d c9 s9 i th ci) {C : String} {T : u_T} {N co index : Nat} (hcl : vwCl[co]? = some (C, T, N)) (hco : co < 100) (hin : ∀ w ∈ u_ws C T N, w ∈ WAL) (ty0 : Nat → FieldType) (hty : ∀ k, k < N → parseFieldDescriptor (T k).2.2.1 = some (ty0 k)) (hdef : ∀ k, k < N → defaultValue (ty0 k) = (match fty (T k).2.2.1 with | 0 => Value.int 0 | 1 => .long 0 | _ => .null)) (hw : ∀ w ∈ [Cond.classLink own index C, .instantiable C N, .initialized C], w ∈ WAL) (hz : c9 + d.length + 1 ≤ BC ∧ s9 + sz d + N ≤ BS) (hd : decode cc pc = .ok (.new index, 3)) (hH : Hd D cA A s σ H locs) (hc : CB n0 s0 σ)
    (h : ∀ (σ1 : Sg) (q : Nat) (H1 : Heap), ST σ1 (dN d co N) c9 s9 i th ci → Pf σ σ1 → Ext σ σ1 → (gD σ1)[d.length]? = some q → kO σ1 q co → Hd D cA A s σ1 H1 locs → CB n0 s0 σ1 → W p l e R s m args below meth c H1 locs (gc σ1 - n0) (gs σ1 - s0) Q (F0 m (pc + 3) ls (.ref q :: rest))) : W p l e R s m args below meth c H locs (gc σ - n0) (gs σ - s0) Q (F0 m pc ls rest) := by
  obtain ⟨X1, X2, X3, X4, X5⟩ := X
  refine c_new B hH hc hR (ci := co) hcl hco hin ty0 hty hdef hw (X1.room hz) hd (fun q H1 hq hH1 hc1 => ?_)
  have x9 : Ext σ (new1 σ q co N) := Ext.new1 hq
  exact h _ q H1 ⟨X1.new1 hq hco rfl, X2.new1, X3.new1, Pf.new1 rfl _ _ X4, X5.up x9⟩ (Pf.new1 rfl) x9 (At.new1 X1 rfl rfl) kO.new1 hH1 hc1
theorem pt_F (B : Cx p s m args c cc nL own D cA tys A) (X : ST σ d c9 s9 i th ci) {C : String} {T : u_T} {N k index b : Nat} {ref : String} (hj : (gD σ)[j]? = some b) (hci : ci < 100) (hcl : vwCl[ci]? = some (C, T, N)) (hin : ∀ w ∈ u_ws C T N, w ∈ WAL) (ty0 : Nat → FieldType) (hty0 : ∀ k, k < N → parseFieldDescriptor (T k).2.2.1 = some (ty0 k)) (hnm : ∀ a, a < N → ∀ b, b < N → a ≠ b → (T a).2.1 ≠ (T b).2.1) (hkN : k < N) (hlink : Cond.fieldLink own index ref (T k).2.1 (T k).2.2.1 ∈ WAL) (hsame : ref = (T k).1) {ty : FieldType} (hfin : (T k).2.2.2 = true) (hin2 : meth.name = "<init>") (hdecl : (T k).1 = own) (hty : fty (T k).2.2.1 = 2) (hds : parseFieldDescriptor (T k).2.2.1 = some ty) (hn : narrow ty (va_rf (some b)) = va_rf (some b)) (hfit : fits ty (va_rf (some b)) = true) (hd : decode cc pc = .ok (.putfield index, 3)) (hH : Hd D cA A s σ H locs) (hc : CB n0 s0 σ)
    (h : ∀ (σ1 : Sg) (H1 : Heap) (locs1 : List Loc), ST σ1 (dU d i (uP k j)) c9 s9 i th ci → Pf σ σ1 → Ext σ σ1 → Hd D cA A s σ1 H1 locs1 → CB n0 s0 σ1 → W p l e R s m args below meth c H1 locs1 (gc σ1 - n0) (gs σ1 - s0) Q (F0 m (pc + 3) ls rest)) : W p l e R s m args below meth c H locs (gc σ - n0) (gs σ - s0) Q (F0 m pc ls (.ref b :: .ref th :: rest)) := by
  obtain ⟨X1, X2, X3, X4, X5⟩ := X
  refine f_putF B hH X5 hci hcl hin ty0 hty0 hnm k hkN hlink hsame (r := some b) hfin hin2 hdecl hty hds hn hfit hd (fun H1 locs1 hH1 => ?_)
  exact h (pP σ th k (some b)) H1 locs1 ⟨X1.pP rfl X4 hj, X2, X3, X4, X5⟩ (Pf.pP rfl) Ext.pP hH1 hc
theorem pt_P (B : Cx p s m args c cc nL own D cA tys A) (X : ST σ d c9 s9 i th ci) {C : String} {T : u_T} {N k index b : Nat} {ref : String} (hj : (gD σ)[j]? = some b) (hci : ci < 100) (hcl : vwCl[ci]? = some (C, T, N)) (hin : ∀ w ∈ u_ws C T N, w ∈ WAL) (ty0 : Nat → FieldType) (hty0 : ∀ k, k < N → parseFieldDescriptor (T k).2.2.1 = some (ty0 k)) (hnm : ∀ a, a < N → ∀ b, b < N → a ≠ b → (T a).2.1 ≠ (T b).2.1) (hkN : k < N) (hlink : Cond.fieldLink own index ref (T k).2.1 (T k).2.2.1 ∈ WAL) (hsame : ref = (T k).1) {ty : FieldType} (hfin : (T k).2.2.2 = false) (hty : fty (T k).2.2.1 = 2) (hds : parseFieldDescriptor (T k).2.2.1 = some ty) (hn : narrow ty (va_rf (some b)) = va_rf (some b)) (hfit : fits ty (va_rf (some b)) = true) (hd : decode cc pc = .ok (.putfield index, 3)) (hH : Hd D cA A s σ H locs) (hc : CB n0 s0 σ)
    (h : ∀ (σ1 : Sg) (H1 : Heap) (locs1 : List Loc), ST σ1 (dU d i (uP k j)) c9 s9 i th ci → Pf σ σ1 → Ext σ σ1 → Hd D cA A s σ1 H1 locs1 → CB n0 s0 σ1 → W p l e R s m args below meth c H1 locs1 (gc σ1 - n0) (gs σ1 - s0) Q (F0 m (pc + 3) ls rest)) : W p l e R s m args below meth c H locs (gc σ - n0) (gs σ - s0) Q (F0 m pc ls (.ref b :: .ref th :: rest)) := by
  obtain ⟨X1, X2, X3, X4, X5⟩ := X
  refine f_putp B hH X5 hci hcl hin ty0 hty0 hnm k hkN hlink hsame (r := some b) hfin hty hds hn hfit hd (fun H1 locs1 hH1 => ?_)
  exact h (pP σ th k (some b)) H1 locs1 ⟨X1.pP rfl X4 hj, X2, X3, X4, X5⟩ (Pf.pP rfl) Ext.pP hH1 hc
/-- a constructor of a throwable: it leaves all as it was -/
theorem c_thr (B : Cx p s m args c cc nL own D cA tys A) (hH : Hd D cA A s σ H locs) (hl : lv_has ls nL lo) (hc : CB n0 s0 σ) (hR : Rm R n0 s0) {co q : Nat} {r : vw_C} {ws : List Cond} {B9 : Unit → State → Prop}
    (hM : Met l y ws ({ frames := 4, cells := 0, slots := 0, locals := 84 }) (va_Pc [.ref q] (fun U => U.heap.size = H.size ∧ va_P D vwCl [(q, .inr (co, [.null, .null, .null, .null, .null, .int 0]))] U.heap ∧ va_K D vwCl [] U ∧ va_D (fun _ => True) [(q, .inr (co, [.null, .null, .null, .null, .null, .int 0]))] ∧ xz_Z (va_A [(q, .inr (co, [.null, .null, .null, .null, .null, .int 0]))] H.size) U U.heap)) (va_Qv (fun _ : Unit => True) B9 (va_A [(q, .inr (co, [.null, .null, .null, .null, .null, .int 0]))] H.size)) 0 0 (va_A [(q, .inr (co, [.null, .null, .null, .null, .null, .int 0]))] H.size))
    (hB9 : ∀ u t, B9 u t → va_P D vwCl [(q, .inr (co, [.null, .null, .null, .null, .null, .int 0]))] t.heap) (hk : kO σ q co) (hco : co < 100) (hcl : vwCl[co]? = some r) (hfl : flds σ q r = [.null, .null, .null, .null, .null, .int 0]) (hy1 : y.name = "<init>") {ws' : List Cond} (hws : ws = Cond.code y bytes maxL none :: ws') (hww : ∀ w ∈ ws, w ∈ WAL) (hw : ∀ w ∈ [Cond.methodLink own index y, .instanceMethod y, .initialized y.cls], w ∈ WAL) (hd0 : y.cls ≠ "java/lang/invoke/MethodHandle" ∧ y.cls ≠ "java/lang/invoke/VarHandle" ∧ (parseMethodDescriptor y.desc).map (fun d => d.parameters.length) = some 0) (hrm : 5 ≤ R.frames ∧ 8 + (maxL + 11) + 84 ≤ R.locals) (hW : (rest.map fun v => v.category).sum ≤ 8) (hd : decode cc pc = .ok (.invokespecial index, 3))
    (k : ∀ (H1 : Heap) (locs1 : List Loc), Hd D cA A s σ H1 locs1 → W p l e R s m args below meth c H1 locs1 (gc σ - n0) (gs σ - s0) Q (F0 m (pc + 3) ls rest)) : W p l e R s m args below meth c H locs (gc σ - n0) (gs σ - s0) Q (F0 m pc ls (.ref q :: rest)) := by
  have hA9 : ∀ a, va_A [(q, (.inr (co, [.null, .null, .null, .null, .null, .int 0]) : va_E))] H.size a ↔ a = q ∨ H.size ≤ a := fun a => by
    constructor
    · rintro (⟨k, e9, h⟩ | h)
      · have := List.mem_of_getElem? h
        rw [List.mem_singleton] at this
        exact Or.inl (by cases this; rfl)
      · exact Or.inr h
    · rintro (h | h)
      · subst h; exact Or.inl ⟨0, _, rfl⟩
      · exact Or.inr h
  have hAA : ∀ a, va_A [(q, (.inr (co, [.null, .null, .null, .null, .null, .int 0]) : va_E))] H.size a → A a := fun a h => by
    rcases (hA9 a).mp h with h | h
    · subst h; exact (wdD.mp hH.2.1).2 _ hk.1
    · exact B.2.2.2.2.2.2.1 a (Nat.le_trans hH.2.2.1 h)
  have hent : ent cA σ q = .inr (co, [.null, .null, .null, .null, .null, .int 0]) := by rw [ent_obj hk.2 hcl hco, hfl]
  have hat : va_at D vwCl (q, .inr (co, [.null, .null, .null, .null, .null, .int 0])) H := by rw [← hent]; exact wdP.mp hH.1 q hk.1
  have one : ∀ H9 : Heap, va_at D vwCl (q, .inr (co, [.null, .null, .null, .null, .null, .int 0])) H9 → va_P D vwCl [(q, .inr (co, [.null, .null, .null, .null, .null, .int 0]))] H9 := fun H9 h k q9 hk9 => by
    have := List.mem_of_getElem? hk9
    rw [List.mem_singleton] at this
    rw [this]; exact h
  have hZ9 : ∀ U : State, U.heap = H → s.WarmedH U.vm → xz_Z (va_A [(q, .inr (co, [.null, .null, .null, .null, .null, .int 0]))] H.size) U U.heap := fun U hU hW => by
    have z := ZX.to B.2.2.2.2.2.2.2.2 hH.2.2 hW hU
    exact ⟨z.1.narrow hAA, z.2.1.narrow hAA⟩
  have hr := va_runI (p := p) (l := l) (e := e) (below := below) (meth := meth) (As := []) (rest := rest) (b := q) (H := H) (locs := locs) (cells := gc σ - n0) (slots := gs σ - s0) (mc := 0) (ms := 0) (g := F0 m pc ls (.ref q :: rest)) ⟨B.1, B.2.1, B.2.2.2.2.2.1, B.2.2.1, B.2.2.2.1⟩ hM (cwI 0 B.2.2.2.1 (wal_good hww) hws rfl rfl (B.2.2.2.1 _ (hw _ (by simp))) (B.2.2.2.1 _ (hw _ (by simp))) (B.2.2.2.1 _ (hw _ (by simp))) hy1 hd0 hrm)
    ⟨fun a U g9 mk h => ⟨h.1, h.2.1, h.2.2.1, va_K.moved (u := U) (U := U.calling g9 mk a) (Vm.Alike.refl U.vm) h.2.2.2.1, h.2.2.2.2.1, xz_Z.same (u := U) (U := U.calling g9 mk a) (Vm.Alike.refl U.vm) rfl h.2.2.2.2.2⟩, fun U hU hW => ⟨rfl, by rw [hU], by rw [hU]; exact one H hat, ⟨(va_K.moved hW.alike B.2.2.2.2.1).1, fun k q hk => by cases hk⟩, ⟨fun i j p9 q9 hi hj _ => by
        have h1 := (List.getElem?_eq_some_iff.mp hi).1
        have h2 := (List.getElem?_eq_some_iff.mp hj).1
        have h1 : i < 1 := h1
        have h2 : j < 1 := h2
        omega, fun _ _ _ => trivial⟩, hZ9 U hU hW⟩⟩ rfl rfl hl.1 rfl (lv_room hW) hd ⟨by have := hc.2.2.1; rw [hR.1]; have := hc.1; omega, by have := hc.2.2.2; rw [hR.2]; have := hc.2.1; omega⟩
  intro T hT X
  obtain ⟨v, st₀, t, T', L, e0, X', hL, e1, e2, ⟨⟨u, ev, -, hb⟩, hF⟩, st⟩ := hr T hT X
  obtain ⟨z1, z2, hS'⟩ := vx_keep (A1 := va_A [(q, (.inr (co, [.null, .null, .null, .null, .null, .int 0]) : va_E))] H.size) e0 e1 hH.2.2 (fun a _ h => hAA a h) hAA hL hF
  have hv : v = none := by cases ev; rfl
  subst hv
  have hP' : va_P D vwCl (wd cA σ) T'.heap := wdP.mpr (fun a ha => by
    by_cases w : a = q
    · subst w
      rw [hent, e1]
      exact hB9 u t hb 0 _ rfl
    · have hlt : a < H.size := va_pl_lt (X := []) hH.1 ha
      have ho := wdP.mp hH.1 a ha
      have hke : T'.heap[a]? = H[a]? := z2 a hlt (fun h => by rcases (hA9 a).mp h with h | h; exact w h; omega)
      exact va_at.kept ho hke)
  obtain ⟨t2, a1, b1⟩ := k T'.heap (locs ++ L) ⟨hP', hH.2.1, hS'⟩ T' rfl X'
  exact ⟨t2, st _ a1, b1⟩
end RRW

/-! the law's small methods: the class's world, and the array that takes the answer -/
def oAt (D : va_G) (cA : Nat → ClassId) (o : Nat) (v : Int64) (H : Heap) : Prop := ∃ f : Nat → Int64, f 0 = v ∧ va_at D vwCl (o, .inl (cA 101, 1, .inr (.inl f))) H
def A1 (A : Nat → Prop) (o : Nat) : Nat → Prop := fun q => A q ∨ q = o
def Pwo (D : va_G) (cA : Nat → ClassId) (tys : List (ClassId × FieldType)) (A : Nat → Prop) (σ : Sg) (o : Nat) (v : Int64) (U : State) : Prop := Pw D cA tys A σ U ∧ oAt D cA o v U.heap ∧ ¬ A o
def Po (D : va_G) (cA : Nat → ClassId) (A : Nat → Prop) (o : Nat) (σ' : Sg) (v' : Int64) (st t : State) : Prop := va_P D vwCl (wd cA σ') t.heap ∧ va_D A (wd cA σ') ∧ oAt D cA o v' t.heap ∧ va_F (A1 A o) st t
def Qo (D : va_G) (cA : Nat → ClassId) (A : Nat → Prop) (o : Nat) (σ : Sg) (Qn : Sg → Int → Int64 → Prop) : Array Value → State → Outcome → State → Prop := fun _ st oc t => ∃ (σ' : Sg) (r : Int) (v' : Int64), (oc = .returned (some (.int (i32 r))) ∧ rng r ∧ Qn σ' r v' ∧ Po D cA A o σ' v' st t ∧ (gc σ ≤ gc σ' ∧ gs σ ≤ gs σ' ∧ gc σ' ≤ BC ∧ gs σ' ≤ BS)) ∧ t.heap.size ≤ st.heap.size + (gc σ' - gc σ) ∧ tot t.heap ≤ tot st.heap + (gs σ' - gs σ)
def Okw (l : Launch) (D : va_G) (cA : Nat → ClassId) (tys : List (ClassId × FieldType)) (A : Nat → Prop) (o : Nat) (v : Int64) (y : MethodName) (w : Cond) (fr lw : Nat) (as : List Value) (σ : Sg) (Qn : Sg → Int → Int64 → Prop) : Prop :=
  vx_Met l y (w :: WAL) { frames := fr, cells := BC - gc σ, slots := BS - gs σ, locals := lw } (va_Pc as (Pwo D cA tys A σ o v)) (Qo D cA A o σ Qn) (fun _ _ _ => False) (BC - gc σ) (BS - gs σ) (A1 A o)
section LWB
variable {p : Program} {l : Launch} {e : Env} {R : Room} {s : State} {m : MethodId} {args : Array Value} {below : List Frame} {meth : Method} {c : Code} {cc : ByteArray} {nL : Nat} {own : String} {D : va_G} {cA : Nat → ClassId} {tys : List (ClassId × FieldType)} {A : Nat → Prop} {n0 s0 : Nat} {Q : State → Prop} {σ : Sg} {pc : Nat} {lo : List (Nat × Value)} {ls : Array Slot} {H : Heap} {locs : List Loc} {rest : List Value} {Qn : Sg → Option Value → Prop} {Qx : Sg → String → Prop} {y : MethodName} {bytes : ByteArray} {maxL fr lw index : Nat} {ret : Option FieldType}
variable {σ0 : Sg} {o : Nat} {v v' : Int64} {Qo9 : Sg → Int → Int64 → Prop} {as : List Value}
theorem wo_end {cells slots : Nat} {g : JFrame} {r : Int} (hr : rng r) (hq : Qo9 σ r v') (hc : gc σ0 ≤ gc σ ∧ gs σ0 ≤ gs σ ∧ gc σ ≤ BC ∧ gs σ ≤ BS) (k : W p l e R s m args below meth c H locs cells slots (vx_MQ below (fun _ st oc t => oc = .returned (some (.int (i32 r))) ∧ Po D cA A o σ v' st t) (fun _ _ _ => False) args s (gc σ - gc σ0) (gs σ - gs σ0) (A1 A o)) g) : W p l e R s m args below meth c H locs cells slots (vx_MQ below (Qo D cA A o σ0 Qo9) (fun _ _ _ => False) args s (BC - gc σ0) (BS - gs σ0) (A1 A o)) g := by
  intro T hT X
  have h0 : s.slotsTrue = true := by
    have h := X.room
    simp only [State.hasRoom, Bool.and_eq_true] at h
    exact h.2
  obtain ⟨t, a1, o9, b1, b2, b3⟩ := k T hT X
  refine ⟨t, a1, o9, b1, b2, ?_⟩
  rcases b3 with ⟨⟨rfl, q1⟩, L, ⟨f1, f2, f3⟩, hL⟩ | ⟨q, rfl, E, ce, L, hf, -⟩
  · have hz := sb_tot h0 f3
    exact Or.inl ⟨⟨σ, r, v', ⟨rfl, hr, hq, q1, hc⟩, hz.1, hz.2⟩, L, ⟨f1, f2, f3.mono (by omega) (by omega)⟩, hL⟩
  · exact hf.elim
/-- the end of a small method -/
theorem eo_ret (B : Cx p s m args c cc nL own D cA tys A) (hP : va_P D vwCl (wd cA σ) H) (hD : va_D A (wd cA σ)) (hS : va_S (A1 A o) s.heap H locs) (ho : oAt D cA o v' H) (hc : CB (gc σ0) (gs σ0) σ) {r : Int} (hr : rng r) (hret : meth.sig.returnType = some .int) (hlocks : meth.locks = false) (hq : Qo9 σ r v') (hd : decode cc pc = .ok (.ireturn, 1)) : W p l e R s m args below meth c H locs (gc σ - gc σ0) (gs σ - gs σ0) (vx_MQ below (Qo D cA A o σ0 Qo9) (fun _ _ _ => False) args s (BC - gc σ0) (BS - gs σ0) (A1 A o)) (F0 m pc ls [.int (i32 r)]) :=
  wo_end hr hq hc (vx_ret (W.zret B.1 B.2.1 hret rfl (fun t ht hW => ⟨rfl, by rw [ht]; exact hP, hD, by rw [ht]; exact ho, hS.F ht⟩) hS.2.2 hd hlocks))
theorem So (hS : va_S A s.heap H locs) : va_S (A1 A o) s.heap H locs := ⟨hS.1, fun q h1 h2 => hS.2.1 q h1 (fun w => h2 (Or.inl w)), fun l9 h => Or.inl (hS.2.2 l9 h)⟩
theorem oAt.here (h : oAt D cA o v s.heap) (hS : va_S A s.heap H locs) (hn : ¬ A o) : oAt D cA o v H := by
  obtain ⟨f, e, h⟩ := h
  have hlt : o < s.heap.size := h.lt
  exact ⟨f, e, h.kept (hS.2.1 o hlt hn)⟩
/-- the answer is laid into the array -/
theorem o_last (B : Cx p s m args c cc nL own D cA tys A) (hT : TyC cA tys) (hH : Hd D cA A s σ H locs) (ho : oAt D cA o v H) (hn : ¬ A o) {cells slots : Nat} {x : Int64} (hd : decode cc pc = .ok (.lastore, 1))
    (kk : ∀ (H1 : Heap) (locs1 : List Loc), va_P D vwCl (wd cA σ) H1 → va_S (A1 A o) s.heap H1 locs1 → oAt D cA o x H1 → W p l e R s m args below meth c H1 locs1 cells slots Q (F0 m (pc + 1) ls rest)) : W p l e R s m args below meth c H locs cells slots Q (F0 m pc ls (.long x :: .int (i32 0) :: .ref o :: rest)) := by
  obtain ⟨f, e, h⟩ := ho
  obtain ⟨e0, he0⟩ : ∃ z : va_E, z = .inl (cA 101, 1, .inr (.inl f)) := ⟨_, rfl⟩
  have one : va_P D vwCl [(o, e0)] H := fun k q9 hk9 => by
    have := List.mem_of_getElem? hk9
    rw [List.mem_singleton] at this
    rw [this, he0]; exact h
  have hD2 : va_D (A1 A o) (wd cA σ ++ [(o, e0)]) := by
    refine va_D.app (hH.2.1.weaken (fun _ _ _ w => Or.inl w)) ⟨fun i j p9 q9 hi hj _ => by
      have h1 : i < 1 := (List.getElem?_eq_some_iff.mp hi).1
      have h2 : j < 1 := (List.getElem?_eq_some_iff.mp hj).1
      omega, fun k q9 hk => by
      have := List.mem_of_getElem? hk
      rw [List.mem_singleton] at this
      rw [this]; exact Or.inr rfl⟩ (fun i j p9 q9 hi hj w => ?_)
    have := List.mem_of_getElem? hj
    rw [List.mem_singleton] at this
    rw [this] at w
    have w : p9.1 = o := w
    exact hn (by rw [← w]; exact hH.2.1.2 i p9 hi)
  have hq : (wd cA σ ++ [(o, e0)])[(wd cA σ).length]? = some (o, .inl (cA 101, 1, .inr (.inl f))) := by rw [List.getElem?_append_right (Nat.le_refl _), Nat.sub_self, ← he0]; rfl
  refine va_last B.1 B.2.1 B.2.2.2.2.1 (hH.1.app one) hD2 (So hH.2.2) (wd cA σ).length 1 hq hT.1.2.1 (i32_in (n := 1) (by decide) (by decide) (by decide)) hd (fun H1 locs1 hP1 hD1 hS1 => ?_)
  rw [List.set_append_right _ _ (Nat.le_refl _), Nat.sub_self] at hP1
  refine kk H1 locs1 (fun k q9 hk => hP1 k q9 (by rw [List.getElem?_append_left (List.getElem?_eq_some_iff.mp hk).1]; exact hk)) hS1 ⟨_, ?_, hP1 (wd cA σ).length _ (by rw [List.getElem?_append_right (Nat.le_refl _), Nat.sub_self]; rfl)⟩
  show vp_updL f (i32 0).toNatClampNeg x 0 = x
  rw [i32_clamp (by decide) (by decide)]
  simp [vp_updL]
theorem okw_of {y : MethodName} {hh : List (Nat × Nat × Nat × Nat)} (hy : plainName y.cls = true) (hw : (lg_sl as).length ≤ nL)
    (body : ∀ (p : Program) (e : Env) (R : Room) (s : State) (m : MethodId) (args : Array Value) (below : List Frame) (meth : Method) (c : Code), R = { frames := fr, cells := BC - gc σ0, slots := BS - gs σ0, locals := lw } → Cx p s m args c cc nL y.cls D cA tys A → meth.sig.returnType = some .int → meth.locks = false → c.exceptionTable.toList = tableOf hh → oAt D cA o v s.heap → ¬ A o →
      JJ p l e R s m args below meth c nL D cA A (gc σ0) (gs σ0) (vx_MQ below (Qo D cA A o σ0 Qo9) (fun _ _ _ => False) args s (BC - gc σ0) (BS - gs σ0) (A1 A o)) σ0 0 (lv_args 0 as) []) :
    Okw l D cA tys A o v y (.codeWith y cc nL (some .int) hh) fr lw as σ0 Qo9 := by
  refine vx_ofWH (cc := cc) (maxL := nL) (ret := some .int) (hh := hh) hy rfl ?_
  intro p e s m args below meth c s₁ B hml hv
  obtain ⟨rfl, ⟨hP, hD, hK, hA, hF, hZ, hg1, hg2⟩, ho, hn⟩ := hv
  have hts := atoms_spec (ws := Cond.codeWith y cc nL (some .int) hh :: WAL) B.pre
  have htab := vx_table (x := y) B (hts _ List.mem_cons_self)
  have hl := lv_entry as (n := nL) hw
  rw [lg_entry_eq]
  have h := body p e _ s m as.toArray below meth c rfl ⟨B.exec, B.bytes, findClass_of_methodNamed B.named, fun w hw => hts w (List.mem_cons_of_mem _ hw), hK, hml, hA, hF, hZ⟩ B.returns B.notSynchronized htab ho hn s.heap [] _ ⟨hP, hD, va_S.rf⟩ hl ⟨Nat.le_refl _, Nat.le_refl _, hg1, hg2⟩
  rw [Nat.sub_self, Nat.sub_self] at h
  exact h
theorem nc_of (B : Cx p s m args c cc nL own D cA tys A) {a b : String} (h : (a, b) ∈ ncL) : va_Nc a b s := B.2.2.2.2.2.2.2.1.2.2.2.2.2.1 (a, b) h
theorem cs_of (B : Cx p s m args c cc nL own D cA tys A) {a : String} (h : (a, a) ∈ csL) : (Cond.castable a a).before args s = true := va_Nw.use rfl (B.2.2.2.2.2.2.2.1.2.2.1 (a, a) h)
end LWB

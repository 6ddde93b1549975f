/-- how a fold is timed -/
def KoI (jx : Nat → Nat → Nat) (da : Nat) (σ : Sg) (o : Int) : Prop := (1 ≤ (gJ σ (jx da 8) o.toNat).toInt ∧ (gJ σ (jx da 8) o.toNat).toInt ≤ 1000) ∧ ((gI σ (jx da 2) o.toNat = 4 ∧ 1 ≤ (gJ σ (jx da 9) o.toNat).toInt ∧ (gJ σ (jx da 9) o.toNat).toInt ≤ 1000) ∨ gI σ (jx da 2) o.toNat = 5)
section OP
variable {ra : Nat → Nat} {jx : Nat → Nat → Nat} {rm da : Nat} {o : Int} {σ σ' : Sg} {K S J : List Nat}
theorem KoI.eq (h : KoI jx da σ o) (e2 : gI σ' (jx da 2) = gI σ (jx da 2)) (e8 : gJ σ' (jx da 8) = gJ σ (jx da 8)) (e9 : gJ σ' (jx da 9) = gJ σ (jx da 9)) : KoI jx da σ' o := by
  unfold KoI at *; rw [e2, e8, e9]; exact h
theorem KoI.fr (h : KoI jx da σ o) (f : Fr ra jx rm K S σ σ') : KoI jx da σ' o := h.eq (f.2.2.1 da 2).1 (f.2.2.1 da 8).2 (f.2.2.1 da 9).2
theorem KoI.fd {o' : Int} (h : KoI jx da σ o) (f : FdO ra jx rm da o' K S J σ σ') (hJ : ([2, 8, 9].all fun k => !J.contains k) = true) : KoI jx da σ' o := by
  have k1 : ∀ k ∈ [2, 8, 9], k ∉ J := fun k hk => by simpa using List.all_eq_true.mp hJ k hk
  exact h.eq (f.2.2.1 da 2 (k1 _ (by simp))).1 (f.2.2.1 da 8 (k1 _ (by simp))).2 (f.2.2.1 da 9 (k1 _ (by simp))).2
theorem op_src (hk : gI σ (jx da 2) o.toNat = 0) (h3 : (0 ≤ (gJ σ (jx da 8) o.toNat).toInt32.toInt ∧ (gJ σ (jx da 8) o.toNat).toInt32.toInt < 4) ∧ gI σ (jx da 6) o.toNat ≤ 4 ∧ 0 ≤ (gJ σ (jx da 9) o.toNat).toInt ∧ (gJ σ (jx da 9) o.toNat).toInt ≤ 1000) (h11 : gI σ (jx da 4) o.toNat < o) (h12 : gI σ (jx da 5) o.toNat < o) : OpOR jx da σ o :=
  ⟨fun q => absurd hk q, fun q => by omega, fun _ => h3, fun q => by omega, fun q => by omega, fun q => by omega, fun q => by omega, fun q => by omega, fun q => by omega, fun q => by omega, h11, h12⟩
/-- kinds 1, 2: with values -/
theorem op_val (hk : gI σ (jx da 2) o.toNat = 1 ∨ gI σ (jx da 2) o.toNat = 2) (h1 : 0 ≤ gI σ (jx da 4) o.toNat) (h4 : 1 ≤ gI σ (jx da 12) o.toNat ∧ VsI jx da σ o (gI σ (jx da 12) o.toNat)) (h11 : gI σ (jx da 4) o.toNat < o) (h12 : gI σ (jx da 5) o.toNat < o) : OpOR jx da σ o :=
  ⟨fun _ => h1, fun q => by omega, fun q => by omega, fun _ => ⟨h4.1, fun k a b => h4.2 k a b⟩, fun q => by omega, fun q => by omega, fun q => by omega, fun q => by omega, fun q => by omega, fun q => by omega, h11, h12⟩
/-- kinds 3, 6, 7: of two -/
theorem op_two (hk : gI σ (jx da 2) o.toNat = 3 ∨ gI σ (jx da 2) o.toNat = 6 ∨ gI σ (jx da 2) o.toNat = 7) (h1 : 0 ≤ gI σ (jx da 4) o.toNat) (h2 : 0 ≤ gI σ (jx da 5) o.toNat) (h11 : gI σ (jx da 4) o.toNat < o) (h12 : gI σ (jx da 5) o.toNat < o) : OpOR jx da σ o :=
  ⟨fun _ => h1, fun _ => h2, fun q => by omega, fun q => by omega, fun q => by omega, fun q => by omega, fun q => by omega, fun q => by omega, fun q => by omega, fun q => by omega, h11, h12⟩
theorem op_fold (hk : KoI jx da σ o) (h1 : 0 ≤ gI σ (jx da 4) o.toNat) (h6 : gI σ (jx da 12) o.toNat ≤ 4 ∧ VsA jx da σ o (gI σ (jx da 12) o.toNat)) (h11 : gI σ (jx da 4) o.toNat < o) (h12 : gI σ (jx da 5) o.toNat < o) : OpOR jx da σ o := by
  have hk2 : gI σ (jx da 2) o.toNat = 4 ∨ gI σ (jx da 2) o.toNat = 5 := by rcases hk.2 with q | q; exact Or.inl q.1; exact Or.inr q
  refine ⟨fun _ => h1, fun q => by omega, fun q => by omega, fun q => by omega, fun q => by omega, fun _ => ⟨h6.1, fun k a b c => h6.2 k a b c⟩, fun q => ?_, fun q => by omega, fun _ => hk.1, fun q => ?_, h11, h12⟩
  · rcases hk.2 with z | z
    · exact z.2.1
    · omega
  · rcases hk.2 with z | z
    · exact z.2.2
    · omega
theorem op_match (hk : gI σ (jx da 2) o.toNat = 8) (h1 : 0 ≤ gI σ (jx da 4) o.toNat) (h4 : 2 ≤ gI σ (jx da 12) o.toNat ∧ VsI jx da σ o (gI σ (jx da 12) o.toNat)) (h11 : gI σ (jx da 4) o.toNat < o) (h12 : gI σ (jx da 5) o.toNat < o) : OpOR jx da σ o :=
  ⟨fun _ => h1, fun q => by omega, fun q => by omega, fun _ => ⟨by omega, fun k a b => h4.2 k a b⟩, fun _ => h4.1, fun q => by omega, fun q => by omega, fun q => by omega, fun q => by omega, fun q => by omega, h11, h12⟩
/-- kinds 9, 11: nothing more -/
theorem op_one (hk : gI σ (jx da 2) o.toNat = 9 ∨ gI σ (jx da 2) o.toNat = 11) (h1 : 0 ≤ gI σ (jx da 4) o.toNat) (h11 : gI σ (jx da 4) o.toNat < o) (h12 : gI σ (jx da 5) o.toNat < o) : OpOR jx da σ o :=
  ⟨fun _ => h1, fun q => by omega, fun q => by omega, fun q => by omega, fun q => by omega, fun q => by omega, fun q => by omega, fun q => by omega, fun q => by omega, fun q => by omega, h11, h12⟩
theorem op_top (hk : gI σ (jx da 2) o.toNat = 10) (h1 : 0 ≤ gI σ (jx da 4) o.toNat) (h9 : 1 ≤ (gJ σ (jx da 9) o.toNat).toInt ∧ (gJ σ (jx da 9) o.toNat).toInt ≤ 1000) (h8 : 1 ≤ (gJ σ (jx da 8) o.toNat).toInt ∧ (gJ σ (jx da 8) o.toNat).toInt ≤ 9) (h7 : gI σ (jx da 6) (gI σ (jx da 4) o.toNat).toNat ≤ 7) (h11 : gI σ (jx da 4) o.toNat < o) (h12 : gI σ (jx da 5) o.toNat < o) : OpOR jx da σ o :=
  ⟨fun _ => h1, fun q => by omega, fun q => by omega, fun q => by omega, fun q => by omega, fun q => by omega, fun q => by omega, fun _ => ⟨h9.1, h8.1, h8.2, h7⟩, fun q => by omega, fun _ => h9.2, h11, h12⟩
/-- a job as far as it is laid -/
def DrI (jx : Nat → Nat → Nat) (da : Nat) (σ : Sg) : Prop := (0 ≤ gI σ da 0 ∧ gI σ da 0 ≤ 16) ∧ cO jx da σ (gI σ da 0) = gI σ da 1 ∧ (0 ≤ gI σ da 1 ∧ gI σ da 1 ≤ 4) ∧ ∀ o, 0 ≤ o → o < gI σ da 0 → OpOR jx da σ o
theorem OpOR.same (h : OpOR jx da σ o) (eJ : ∀ k, gI σ' (jx da k) = gI σ (jx da k) ∧ gJ σ' (jx da k) = gJ σ (jx da k)) (e17 : gI σ' da 17 = gI σ da 17) : OpOR jx da σ' o := by
  have ep : PO jx da σ' = PO jx da σ := by funext p; unfold PO Prog; rw [e17, (eJ 15).1, (eJ 16).2]
  unfold OpOR at *
  rw [ep, (eJ 2).1, (eJ 4).1, (eJ 5).1, (eJ 6).1, (eJ 8).2, (eJ 9).2, (eJ 12).1, (eJ 13).1, (eJ 14).1]; exact h
/-- one operator more -/
theorem DrI.more (h : DrI jx da σ) (w : Ow jx da (gI σ da 0) σ σ') (r12 : ∀ i, gI σ (jx da 12) i ≤ 8) (h6 : gI σ' da 17 ≤ 6000) (ho : OpOR jx da σ' (gI σ da 0)) (h16 : gI σ da 0 < 16) {σ'' : Sg} (eJ : ∀ k, gI σ'' (jx da k) = gI σ' (jx da k) ∧ gJ σ'' (jx da k) = gJ σ' (jx da k)) (e17 : gI σ'' da 17 = gI σ' da 17) (e0 : gI σ'' da 0 = gI σ da 0 + 1)
    (e1 : gI σ'' da 1 = gI σ da 1 + (if gI σ' (jx da 2) (gI σ da 0).toNat = 11 then 1 else 0)) (h4 : gI σ'' da 1 ≤ 4) : DrI jx da σ'' := by
  obtain ⟨h1, h2, h3, h5⟩ := h
  refine ⟨by omega, ?_, ⟨by rw [e1]; split <;> omega, h4⟩, fun p a b => ?_⟩
  · rw [e0, cO_succ h1.1, e1, (eJ 2).1]
    have : cO jx da σ'' (gI σ da 0) = cO jx da σ (gI σ da 0) := by
      unfold cO
      refine sumN_congr (fun i hi => ?_)
      rw [(eJ 2).1, (w.1 2 i.toNat (by simp only [Jk]; omega)).1]
    rw [this, h2]
  · rw [e0] at b
    by_cases q : p = gI σ da 0
    · rw [q]; exact ho.same eJ e17
    · exact ((h5 p a (by omega)).ow w ⟨a, by omega⟩ r12 h6).same eJ e17
theorem DrI.job (h : DrI jx da σ) (h1 : gI σ da 1 ≠ 0) : JobOK jx da σ := by
  obtain ⟨a, b, c, d⟩ := h
  have hm : 1 ≤ gI σ da 0 := by
    by_cases q : gI σ da 0 = 0
    · rw [q, cO_zero] at b; omega
    · omega
  exact ⟨⟨b, c.2, hm, a.2⟩, by omega, d⟩
end OP
theorem VsA.put2 {ra : Nat → Nat} {jx : Nat → Nat → Nat} {rm da : Nat} {o n r w : Int} {σ σ1 σb σ' : Sg} {K S J : List Nat} (h : VsA jx da σ o n) (hr : PO jx da σb r) (ho : 0 ≤ o) (hn : 0 ≤ n) (f : FdO ra jx rm da o K S J σ1 σb) (hJ : (!J.contains 13 && !J.contains 14) = true) (h6 : gI σb da 17 ≤ 6000)
    (a17 : gI σ1 da 17 = gI σ da 17) (a15 : gI σ1 (jx da 15) = gI σ (jx da 15)) (a16 : gJ σ1 (jx da 16) = gJ σ (jx da 16)) (a13 : gI σ1 (jx da 13) = gI σ (jx da 13)) (a14 : ∀ i : Nat, gI σ1 (jx da 14) i = if i = (8 * o + n).toNat then w else gI σ (jx da 14) i)
    (e17 : gI σ' da 17 = gI σb da 17) (e15 : gI σ' (jx da 15) = gI σb (jx da 15)) (e16 : gJ σ' (jx da 16) = gJ σb (jx da 16)) (e13 : ∀ i : Nat, gI σ' (jx da 13) i = if i = (8 * o + n).toNat then r else gI σb (jx da 13) i) (e14 : gI σ' (jx da 14) = gI σb (jx da 14)) : VsA jx da σ' o (n + 1) := by
  have h1 : VsA jx da σ1 o n := fun k a b => by
    rw [a13, a14, if_neg (by omega)]; exact fun c => (h k a b c).same a17 a15 a16
  have h2 := h1.fd f hJ h6
  intro k a b
  rw [e13, e14]
  by_cases q : k = n
  · rw [if_pos (by omega)]; exact fun _ => hr.same e17 e15 e16
  · rw [if_neg (by omega)]; exact fun c => (h2 k a (by omega) c).same e17 e15 e16
theorem VsI.same {jx : Nat → Nat → Nat} {da : Nat} {o n : Int} {σ σ' : Sg} (h : VsI jx da σ o n) (e17 : gI σ' da 17 = gI σ da 17) (e15 : gI σ' (jx da 15) = gI σ (jx da 15)) (e16 : gJ σ' (jx da 16) = gJ σ (jx da 16)) (e13 : gI σ' (jx da 13) = gI σ (jx da 13)) : VsI jx da σ' o n := fun k a b => by
  rw [e13]; exact (h k a b).same e17 e15 e16
/-- the word that is seen -/
def isW (rm : Nat) (σ : Sg) (s : Nat) : Prop := gI σ rm 9 = 1 ∧ gI σ rm 12 = sl s ∧ gJ σ rm 11 = nv s
theorem PsI19e {rm : Nat} {σ : Sg} {x : Int} : PsI rm (pI σ rm 19 x) = PsI rm σ := propext ⟨fun h => (PsI.eq (σ := pI σ rm 19 x) (σ' := σ) h (fun k hk => by rw [rII, if_neg (fun q => by omega)])).1, PsI19⟩
/-- kept out of omega's sight -/
def Hid (p : Prop) : Prop := p
theorem Hid.out {p : Prop} (h : Hid p) : p := h

section JB
variable {ra : Nat → Nat} {jx : Nat → Nat → Nat} {rm da : Nat} {σ σ' : Sg}
theorem Od.j (g : Geo ra jx rm) (h : Od ra jx da σ σ') {k i : Nat} {x : Int} : Od ra jx da σ (pI σ' (jx da k) i x) := by
  refine h.tr ?_
  obtain ⟨g1, g2, g3, g4, g5, g6, g7, g8⟩ := g
  intro a ha hn
  refine ⟨fun j => ⟨up2_off (fun q => hn ((g8 _ _ _ _).mp q).1), rfl⟩, ?_, rfl⟩
  rcases ha with q | q <;> rw [q] <;> exact up2_off (g5 _ _ _)
theorem Od.o (g : Geo ra jx rm) (h : Od ra jx da σ σ') (hda : da = ra 15 ∨ da = ra 16) {k : Nat} {x : Int} : Od ra jx da σ (pI σ' da k x) := by
  refine h.tr ?_
  obtain ⟨g1, g2, g3, g4, g5, g6, g7, g8⟩ := g
  intro a ha hn
  refine ⟨fun j => ⟨?_, rfl⟩, up2_off (fun q => hn q), rfl⟩
  rcases hda with q | q <;> rw [q] <;> exact up2_off (g4 _ _ _)
theorem Od.s (g : Geo ra jx rm) (h : Od ra jx da σ σ') {k : Nat} {x : Int} : Od ra jx da σ (pI σ' rm k x) := by
  refine h.tr ?_
  obtain ⟨g1, g2, g3, g4, g5, g6, g7, g8⟩ := g
  intro a ha hn
  refine ⟨fun j => ⟨up2_off (g6 _ _), rfl⟩, ?_, rfl⟩
  rcases ha with q | q <;> rw [q] <;> exact up2_off (g2 _)
theorem Od.p (h : Od ra jx da σ σ') {a k : Nat} {x : Option Nat} : Od ra jx da σ (pP σ' a k x) := h
theorem Od.fr {K S : List Nat} (h : Od ra jx da σ σ') {σ'' : Sg} (f : Fr ra jx rm K S σ' σ'') (hda : da = ra 15 ∨ da = ra 16) (hK : ([15, 16].all fun k => !K.contains k) = true) : Od ra jx da σ σ'' := h.tr (Fr.d (da := da) (o := 0) f hda hK).2.2.2.2.1
theorem DrI.nil {jx : Nat → Nat → Nat} {da : Nat} {σ : Sg} (h0 : gI σ da 0 = 0) (h1 : gI σ da 1 = 0) : DrI jx da σ := ⟨by omega, by rw [h0, h1, cO_zero], by omega, fun o a b => absurd b (by omega)⟩
theorem DrI.same {jx : Nat → Nat → Nat} {da : Nat} {σ σ' : Sg} (h : DrI jx da σ) (eJ : ∀ k, gI σ' (jx da k) = gI σ (jx da k) ∧ gJ σ' (jx da k) = gJ σ (jx da k)) (e : gI σ' da = gI σ da) : DrI jx da σ' := by
  obtain ⟨a, b, c, d⟩ := h
  refine ⟨by rw [e]; exact a, ?_, by rw [e]; exact c, fun o x y => (d o x (by rw [e] at y; exact y)).same eJ (by rw [e])⟩
  rw [e, ← b]; unfold cO; rw [(eJ 2).1]
theorem JobOK.same {jx : Nat → Nat → Nat} {da : Nat} {σ σ' : Sg} (h : JobOK jx da σ) (eJ : ∀ k, gI σ' (jx da k) = gI σ (jx da k) ∧ gJ σ' (jx da k) = gJ σ (jx da k)) (e : gI σ' da = gI σ da) : JobOK jx da σ' := by
  unfold JobOK at *
  obtain ⟨a, b, c⟩ := h
  refine ⟨by rw [e]; unfold cO at *; rw [(eJ 2).1]; exact a, by rw [e]; exact b, fun o x y => (c o x (by rw [e] at y; exact y)).same eJ (by rw [e])⟩
end JB
/-- what parsing leaves as it was -/
def FaI (ra : Nat → Nat) (jx : Nat → Nat → Nat) (rm da : Nat) (σ σ' : Sg) : Prop :=
  (∀ k, k ∉ [15, 16] → gI σ' (ra k) = gI σ (ra k) ∧ gJ σ' (ra k) = gJ σ (ra k)) ∧ (∀ k, k ∉ [4, 5, 7, 8, 9, 10, 11, 12, 13, 19] → gI σ' rm k = gI σ rm k ∧ gJ σ' rm k = gJ σ rm k) ∧ Od ra jx da σ σ' ∧ gP σ' = gP (pP σ rm 18 (some da))
theorem FaI.st {ra : Nat → Nat} {jx : Nat → Nat → Nat} {rm da : Nat} {σ σ' σ'' : Sg} {K S J : List Nat} (h : FaI ra jx rm da σ σ') (f : Fj ra jx rm K S J σ' σ'') (o : Od ra jx da σ' σ'') (hK : (K.all fun k => [15, 16].contains k) = true) (hS : (S.all fun k => [4, 5, 7, 8, 9, 10, 11, 12, 13, 19].contains k) = true) (h9 : (!J.contains 99) = true) : FaI ra jx rm da σ σ'' := by
  have k1 : ∀ k, k ∈ K → k ∈ [15, 16] := fun k hk => by simpa using List.all_eq_true.mp hK k hk
  have k2 : ∀ k, k ∈ S → k ∈ [4, 5, 7, 8, 9, 10, 11, 12, 13, 19] := fun k hk => by simpa using List.all_eq_true.mp hS k hk
  refine ⟨fun k hk => ?_, fun k hk => ?_, h.2.2.1.tr o, (f.2.2.2 (by simpa using h9)).trans h.2.2.2⟩
  · have a := f.1 k (fun q => hk (k1 k q)); have b := h.1 k hk; exact ⟨a.1.trans b.1, a.2.trans b.2⟩
  · have a := f.2.1 k (fun q => hk (k2 k q)); have b := h.2.1 k hk; exact ⟨a.1.trans b.1, a.2.trans b.2⟩
theorem FaI.fr {ra : Nat → Nat} {jx : Nat → Nat → Nat} {rm da : Nat} {σ σ' σ'' : Sg} {S : List Nat} (h : FaI ra jx rm da σ σ') (hda : da = ra 15 ∨ da = ra 16) (f : Fr ra jx rm [] S σ' σ'') (hS : (S.all fun k => [4, 5, 7, 8, 9, 10, 11, 12, 13, 19].contains k) = true) : FaI ra jx rm da σ σ'' := h.st f.j (Od.fr Od.rf f hda rfl) rfl hS rfl


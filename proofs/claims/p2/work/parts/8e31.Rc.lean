section RC
variable {ra : Nat → Nat} {jx : Nat → Nat → Nat} {rm da : Nat} {σ σ' : Sg} {dq : Int → Int} {ex : Int → Prop} {op d d' : Int} {arg : Int64}
theorem PgI.fr {K S : List Nat} (h : PgI jx da σ dq ex) (hda : da = ra 15 ∨ da = ra 16) (f : Fr ra jx rm K S σ σ') (hK : ([15, 16].all fun k => !K.contains k) = true) : PgI jx da σ' dq ex :=
  h.eq (congrFun (f.ob hda hK) 17) (f.2.2.1 da 15).1 (f.2.2.1 da 16).2
theorem PgI.putE (h : PgI jx da σ dq ex) (hN : 0 ≤ gI σ da 17) (e17 : gI σ' da 17 = gI σ da 17 + 1) (e15 : ∀ i : Nat, gI σ' (jx da 15) i = if i = (gI σ da 17).toNat then op else gI σ (jx da 15) i) (e16 : ∀ i : Nat, gJ σ' (jx da 16) i = if i = (gI σ da 17).toNat then arg else gJ σ (jx da 16) i)
    (hd : dq (gI σ da 17) = d) (hb : d ≤ 1500) (ho : 0 ≤ op) (hs : (op ≤ 2 ∧ d' = d + 1 ∧ (op = 1 → 0 ≤ arg.toInt32.toInt ∧ arg.toInt32.toInt < 8)) ∨ ((op = 11 ∨ op = 12 ∨ op = 16) ∧ 1 ≤ d ∧ d' = d) ∨ (3 ≤ op ∧ op ≤ 10 ∧ 2 ≤ d ∧ d' = d - 1) ∨ (op = 17 ∧ d = 1)) :
    ∃ dr : Int → Int, (∀ pc, pc ≤ gI σ da 17 → dr pc = dq pc) ∧ PgI jx da σ' dr ex ∧ dr (gI σ' da 17) = d' :=
  ⟨up dq (gI σ da 17 + 1) d', fun pc hp => by simp only [up]; rw [if_neg (by omega)], PgI.put h hN e17 e15 e16 hd hb ho hs, by rw [e17]; simp [up]⟩
theorem PgI.pendE (d' : Int) (h : PgI jx da σ dq ex) (hN : 0 ≤ gI σ da 17) (e17 : gI σ' da 17 = gI σ da 17 + 1) (e15 : ∀ i : Nat, gI σ' (jx da 15) i = if i = (gI σ da 17).toNat then op else gI σ (jx da 15) i) (e16 : ∀ i : Nat, gJ σ' (jx da 16) i = if i = (gI σ da 17).toNat then arg else gJ σ (jx da 16) i) :
    ∃ dr : Int → Int, (∀ pc, pc ≤ gI σ da 17 → dr pc = dq pc) ∧ PgI jx da σ' dr (fun pc => ex pc ∨ pc = gI σ da 17) ∧ dr (gI σ' da 17) = d' :=
  ⟨up dq (gI σ da 17 + 1) d', fun pc hp => by simp only [up]; rw [if_neg (by omega)], PgI.pend h hN e17 e15 e16, by rw [e17]; simp [up]⟩
theorem PsI.le (h : PsI rm σ) : cn rm σ ≤ gI σ rm 6 := by
  unfold cn
  split
  · exact h.1
  · have := h.2 (by assumption); have := h.1; omega
theorem c_arg {c : Int} (h : 0 ≤ c ∧ c < 8) : 0 ≤ (Int64.ofInt c).toInt32.toInt ∧ (Int64.ofInt c).toInt32.toInt < 8 := by
  have e : (Int64.ofInt c).toInt32.toInt = c := by
    rw [Int64.toInt_toInt32, Int64.toInt_ofInt_of_le (by omega) (by omega), Int.bmod_def]; omega
  rw [e]; exact h
end RC
theorem cn19 {rm : Nat} {σ : Sg} {x : Int} : cn rm (pI σ rm 19 x) = cn rm σ := by unfold cn; simp only [rII]; simp
theorem cnJ {rm : Nat} {σ : Sg} {a k : Nat} {x : Int64} : cn rm (pJ σ a k x) = cn rm σ := rfl
theorem PsI19 {rm : Nat} {σ : Sg} {x : Int} (h : PsI rm σ) : PsI rm (pI σ rm 19 x) := (PsI.eq h (fun k hk => by rw [rII, if_neg (fun q => by omega)])).1
theorem PsIJ {rm : Nat} {σ : Sg} {a k : Nat} {x : Int64} (h : PsI rm σ) : PsI rm (pJ σ a k x) := h
/-- a | a, a & a: what is laid behind the first -/
theorem logE {jx : Nat → Nat → Nat} {da : Nat} {σ1 σ2 σ3 σ4 σ5 σ6 : Sg} {dqA dqB dqC : Int → Int} {ex : Int → Prop} {op1 d y e t : Int} {x2 x3 x4 : Int64}
    (ho : op1 = 13 ∨ op1 = 14) (hN : 0 ≤ gI σ1 da 17) (hN6 : gI σ6 da 17 ≤ 6000) (hd : 0 ≤ d ∧ d ≤ 100)
    (deA : dqA (gI σ1 da 17) = d + 1) (agB : ∀ pc, pc ≤ gI σ1 da 17 → dqB pc = dqA pc) (deB : dqB (gI σ2 da 17) = d)
    (A1 : gI σ2 da 17 = gI σ1 da 17 + 1) (A2 : ∀ i : Nat, gI σ2 (jx da 15) i = if i = (gI σ1 da 17).toNat then op1 else gI σ1 (jx da 15) i)
    (agC : ∀ pc, pc ≤ gI σ2 da 17 → dqC pc = dqB pc) (pgC : PgI jx da σ3 dqC (fun pc => ex pc ∨ pc = gI σ1 da 17)) (deC : dqC (gI σ3 da 17) = dqB (gI σ2 da 17) + 1) (nlC : gI σ2 da 17 < gI σ3 da 17) (sC : gI σ3 (jx da 15) (gI σ1 da 17).toNat = gI σ2 (jx da 15) (gI σ1 da 17).toNat)
    (T1 : gI σ4 da 17 = gI σ3 da 17 + 1) (T2 : ∀ i : Nat, gI σ4 (jx da 15) i = if i = (gI σ3 da 17).toNat then 16 else gI σ3 (jx da 15) i) (T3 : ∀ i : Nat, gJ σ4 (jx da 16) i = if i = (gI σ3 da 17).toNat then x2 else gJ σ3 (jx da 16) i)
    (L1 : gI σ5 da 17 = gI σ4 da 17 + 1) (L2 : ∀ i : Nat, gI σ5 (jx da 15) i = if i = (gI σ4 da 17).toNat then 15 else gI σ4 (jx da 15) i) (L3 : ∀ i : Nat, gJ σ5 (jx da 16) i = if i = (gI σ4 da 17).toNat then x3 else gJ σ4 (jx da 16) i)
    (M1 : gI σ6 da 17 = gI σ5 da 17 + 1) (M2 : ∀ i : Nat, gI σ6 (jx da 15) i = if i = (gI σ5 da 17).toNat then 0 else gI σ5 (jx da 15) i) (M3 : ∀ i : Nat, gJ σ6 (jx da 16) i = if i = (gI σ5 da 17).toNat then x4 else gJ σ5 (jx da 16) i)
    (hy : y = gI σ1 da 17) (he : e = gI σ4 da 17) (ht : t = gI σ5 da 17) :
    ∃ dqF : Int → Int, (∀ pc, pc ≤ gI σ1 da 17 → dqF pc = dqA pc) ∧ PgI jx da (pJ (pJ σ6 (jx da 16) y.toNat (Int64.ofInt t)) (jx da 16) e.toNat (Int64.ofInt (gI σ6 da 17))) dqF ex ∧ dqF (gI σ6 da 17) = d + 1 := by
  have sN1 : gI σ3 (jx da 15) (gI σ1 da 17).toNat = op1 := by rw [sC, A2, if_pos rfl]
  have d1 : dqC (gI σ1 da 17) = d + 1 := by rw [agC _ (by omega), agB _ (by omega)]; exact deA
  have f1 : dqC (gI σ1 da 17 + 1) = d := by rw [agC _ (by omega), ← A1]; exact deB
  obtain ⟨dqD, agD, pgD, deD⟩ := PgI.putE (d' := d + 1) pgC (by omega) T1 T2 T3 (d := d + 1) (by omega) (by omega) (by omega) (Or.inr (Or.inl ⟨by omega, by omega, by omega⟩))
  obtain ⟨dqE, agE, pgE, deE⟩ := PgI.pendE d pgD (by omega) L1 L2 L3
  obtain ⟨dqF, agF, pgF, deF⟩ := PgI.putE (d' := d + 1) pgE (by omega) M1 M2 M3 deE (by omega) (by omega) (Or.inl ⟨by omega, by omega, fun q => absurd q (by decide)⟩)
  have g1 : ∀ pc, pc ≤ gI σ3 da 17 → dqF pc = dqC pc := fun pc hp => by rw [agF _ (by omega), agE _ (by omega), agD _ (by omega)]
  have dF1 := (g1 (gI σ1 da 17) (by omega)).trans d1
  have fF1 := (g1 (gI σ1 da 17 + 1) (by omega)).trans f1
  have dF3 : dqF (gI σ4 da 17) = d + 1 := by rw [agF _ (by omega), agE _ (by omega)]; exact deD
  have dF4 : dqF (gI σ5 da 17) = d := by rw [agF _ (by omega)]; exact deE
  have sF1 : gI σ6 (jx da 15) (gI σ1 da 17).toNat = op1 := by rw [M2, if_neg (by omega), L2, if_neg (by omega), T2, if_neg (by omega)]; exact sN1
  have sF2 : gI σ6 (jx da 15) (gI σ4 da 17).toNat = 15 := by rw [M2, if_neg (by omega), L2, if_pos rfl]
  have pgG := PgI.less (ex := fun pc => (ex pc ∨ pc = gI σ4 da 17) ∨ pc = gI σ1 da 17) pgF (fun pc _ q => by rcases q with (q | q) | q; exact Or.inl (Or.inl q); exact Or.inr q; exact Or.inl (Or.inr q))
  have pgH := PgI.fix (σ' := pJ σ6 (jx da 16) y.toNat (Int64.ofInt t)) (no := gI σ1 da 17) (t := gI σ5 da 17) pgG (by omega) (by omega) (by omega) (by omega) rfl rfl (fun i => by rw [hy, ht]; simp only [rJJ, true_and]) (by omega) (Or.inl ⟨by omega, by omega, by omega, by omega⟩)
  refine ⟨dqF, fun pc hp => ?_, PgI.fix (no := gI σ4 da 17) (t := gI σ6 da 17) pgH (by omega) (by omega) (by rw [rIJ]; exact Int.le_refl _) (by rw [rIJ]; omega) rfl rfl (fun i => by rw [he]; simp only [rJJ, true_and]) (by omega) (Or.inr ⟨by rw [rIJ]; exact sF2, by omega⟩), deF⟩
  rw [g1 pc (by omega), agC pc (by omega), agB pc hp]
/-- a ? b : -/
theorem choE1 {jx : Nat → Nat → Nat} {da : Nat} {σ1 σ2 σ3 σ4 σ5 : Sg} {dqA dqB dqC : Int → Int} {ex : Int → Prop} {d z : Int} {x3 : Int64}
    (hN : 0 ≤ gI σ1 da 17) (hN6 : gI σ5 da 17 ≤ 6000) (hd : 0 ≤ d ∧ d ≤ 100)
    (deA : dqA (gI σ1 da 17) = d + 1) (agB : ∀ pc, pc ≤ gI σ1 da 17 → dqB pc = dqA pc) (deB : dqB (gI σ2 da 17) = d)
    (A1 : gI σ2 da 17 = gI σ1 da 17 + 1) (A2 : ∀ i : Nat, gI σ2 (jx da 15) i = if i = (gI σ1 da 17).toNat then 13 else gI σ1 (jx da 15) i)
    (agC : ∀ pc, pc ≤ gI σ2 da 17 → dqC pc = dqB pc) (pgC : PgI jx da σ4 dqC (fun pc => ex pc ∨ pc = gI σ1 da 17)) (deC : dqC (gI σ3 da 17) = dqB (gI σ2 da 17) + 1) (nlC : gI σ2 da 17 < gI σ3 da 17) (n4 : gI σ4 da 17 = gI σ3 da 17) (sC : gI σ4 (jx da 15) (gI σ1 da 17).toNat = gI σ2 (jx da 15) (gI σ1 da 17).toNat)
    (L1 : gI σ5 da 17 = gI σ4 da 17 + 1) (L2 : ∀ i : Nat, gI σ5 (jx da 15) i = if i = (gI σ4 da 17).toNat then 15 else gI σ4 (jx da 15) i) (L3 : ∀ i : Nat, gJ σ5 (jx da 16) i = if i = (gI σ4 da 17).toNat then x3 else gJ σ4 (jx da 16) i)
    (hz : z = gI σ1 da 17) :
    ∃ dqE : Int → Int, (∀ pc, pc ≤ gI σ1 da 17 → dqE pc = dqA pc) ∧ PgI jx da (pJ σ5 (jx da 16) z.toNat (Int64.ofInt (gI σ5 da 17))) dqE (fun pc => ex pc ∨ pc = gI σ4 da 17) ∧ dqE (gI σ5 da 17) = d ∧ dqE (gI σ4 da 17) = d + 1 ∧ gI σ5 (jx da 15) (gI σ4 da 17).toNat = 15 := by
  have sN1 : gI σ4 (jx da 15) (gI σ1 da 17).toNat = 13 := by rw [sC, A2, if_pos rfl]
  have d1 : dqC (gI σ1 da 17) = d + 1 := by rw [agC _ (by omega), agB _ (by omega)]; exact deA
  have f1 : dqC (gI σ1 da 17 + 1) = d := by rw [agC _ (by omega), ← A1]; exact deB
  obtain ⟨dqE, agE, pgE, deE⟩ := PgI.pendE d pgC (by omega) L1 L2 L3
  have dF1 := (agE (gI σ1 da 17) (by omega)).trans d1
  have fF1 := (agE (gI σ1 da 17 + 1) (by omega)).trans f1
  have dF3 : dqE (gI σ4 da 17) = d + 1 := by rw [agE _ (by omega), n4, deC, deB]
  have sF1 : gI σ5 (jx da 15) (gI σ1 da 17).toNat = 13 := by rw [L2, if_neg (by omega)]; exact sN1
  have sF2 : gI σ5 (jx da 15) (gI σ4 da 17).toNat = 15 := by rw [L2, if_pos rfl]
  have pgG := PgI.less (ex := fun pc => (ex pc ∨ pc = gI σ4 da 17) ∨ pc = gI σ1 da 17) pgE (fun pc _ q => by rcases q with (q | q) | q; exact Or.inl (Or.inl q); exact Or.inr q; exact Or.inl (Or.inr q))
  exact ⟨dqE, fun pc hp => by rw [agE pc (by omega), agC pc (by omega), agB pc hp], PgI.fix (no := gI σ1 da 17) (t := gI σ5 da 17) pgG (by omega) (by omega) (by omega) (by omega) rfl rfl (fun i => by rw [hz]; simp only [rJJ, true_and]) (by omega) (Or.inl ⟨by omega, by omega, by omega, by omega⟩), deE, dF3, sF2⟩
theorem choE2 {jx : Nat → Nat → Nat} {da : Nat} {σ4 σ5 σ6 : Sg} {dqE dqG : Int → Int} {ex : Int → Prop} {d e : Int}
    (hN : 0 ≤ gI σ4 da 17) (hN6 : gI σ6 da 17 ≤ 6000) (hd : 0 ≤ d ∧ d ≤ 100) (L1 : gI σ5 da 17 = gI σ4 da 17 + 1) (deE : dqE (gI σ5 da 17) = d) (dE2 : dqE (gI σ4 da 17) = d + 1)
    (agG : ∀ pc, pc ≤ gI σ5 da 17 → dqG pc = dqE pc) (pgG : PgI jx da σ6 dqG (fun pc => ex pc ∨ pc = gI σ4 da 17)) (deG : dqG (gI σ6 da 17) = dqE (gI σ5 da 17) + 1) (nlG : gI σ5 da 17 < gI σ6 da 17) (s6 : gI σ6 (jx da 15) (gI σ4 da 17).toNat = 15) (he : e = gI σ4 da 17) :
    PgI jx da (pJ σ6 (jx da 16) e.toNat (Int64.ofInt (gI σ6 da 17))) dqG ex ∧ dqG (gI σ6 da 17) = d + 1 := by
  have d2 : dqG (gI σ4 da 17) = d + 1 := by rw [agG _ (by omega)]; exact dE2
  exact ⟨PgI.fix (no := gI σ4 da 17) (t := gI σ6 da 17) pgG (by omega) (by omega) (by omega) (by omega) rfl rfl (fun i => by rw [he]; simp only [rJJ, true_and]) (by omega) (Or.inr ⟨s6, by omega⟩), by omega⟩


/-! a statement that is read -/
section STM
variable {σ σ' τ s1 s3 s4 s6 : Sg} {gq ci gr nc N N' nu nu' : Nat → Nat} {ot ot2 : Nat → Nat → Int} {LL LL' : Nat → List Nat} {pl o J q c u th a : Nat} {L1 L2 L3 : List Nat}
theorem IV.opAt (i : IV σ pl gq ci gr nc ot LL N nu) (kJ : kO σ J 4) (hJ : gq J = q) (c : Nat) : ∃ o, c < 16 → kO σ o 5 ∧ gq o = 16 * q + c ∧ ∃ ar, gP σ J 0 = some ar ∧ gP σ ar c = some o := by
  by_cases hc : c < 16
  · obtain ⟨ar, e, n, g⟩ := P_4_0 i.1 kJ
    have ka : kO σ ar 115 := i.1.kd kJ rfl e rfl
    obtain ⟨o, eo⟩ := P_115 i.1 ka (k := c) hc
    have t := T_115 i.1 ka eo
    exact ⟨o, fun _ => ⟨i.1.kd ka rfl eo rfl, by omega, ar, e, eo⟩⟩
  · exact ⟨0, fun h => absurd h hc⟩
theorem SO.next (i : IV τ pl gq ci gr nc ot LL N nu) (i' : IV s6 pl gq ci gr nc ot LL' N' nu') (h : SO τ gq gr (ncq q c u) ot2) (kJ : kO τ J 4) (hJ : gq J = q) (hc : c < 16) (ko : kO τ o 5) (go : gq o = 16 * q + c)
    (ox1 : OX o τ s1) (f1 : Fx L1 gr τ s1) (h1 : 258 ∉ L1 ∧ 259 ∉ L1 ∧ 8384 ∉ L1) (ox3 : OX o s1 s3) (f3 : Fx L2 gr s1 s3) (h3 : 259 ∉ L2) (op : OPR s1 s3 gq q c o) (ou : OUTR s1 s3 J o c)
    (f4 : Fx L3 gr s3 s4) (h4 : (∀ x ∈ L3, x < 256 ∨ 384 ≤ x) ∧ 20000 ∉ L3 ∧ 8384 ∉ L3) (e6 : s6 = pI s4 J 1 (gI s4 J 1 + 1)) (e1 : gI s4 J 1 = (c : Int)) : ∃ ot' u', SO s6 gq gr (ncq q (c + 1) u') ot' := by
  have k1 := kJ.up f1.1
  have k3 := k1.up f3.1
  have k4 := k3.up f4.1
  have ko3 := (ko.up f1.1).up f3.1
  have ko4 := ko3.up f4.1
  have x6 : Ext s4 s6 := by rw [e6]; exact fun _ w => ⟨w, rfl, rfl⟩
  have n4 : ∀ k, 256 ≤ k → k < 384 → k ∉ L3 := fun k a b w => by have := h4.1 k w; omega
  have hL : ∀ x ∈ L3, x < 320 ∨ 384 ≤ x := fun x w => by have := h4.1 x w; omega
  have oxa : OX o s3 s4 := OX.fx f4 hL h4.2.1
  have oxb : OX J s3 s4 := OX.fx f4 hL h4.2.1
  have oJ : o ≠ J := fun e => absurd e (ko3.ne k3 (by decide))
  have ox : OX o τ s6 := ((ox1.tr ox3 f1.1).tr oxa (f1.1.trans f3.1)).tr (by rw [e6]; exact OX.pI k4 (Or.inl (by decide))) ((f1.1.trans f3.1).trans f4.1)
  have oo : ∀ k, gI s6 o k = gI s3 o k := fun k => by rw [e6, gI_pI, up2_n _ _ (fun z => absurd z.1 oJ)]; exact oxb o ko3 oJ k
  have p1 : gP s1 J 3 = gP τ J 3 := (f1.O kJ ⟨by decide, h1.2.1⟩).2.1
  have p3 : gP s3 J 3 = gP s1 J 3 := (f3.O k1 ⟨by decide, h3⟩).2.1
  have p4 : gP s4 J 3 = gP s3 J 3 := (f4.O k3 ⟨by decide, n4 _ (by decide) (by decide)⟩).2.1
  have p6 : gP s6 J 3 = gP τ J 3 := by rw [e6]; exact p4.trans (p3.trans p1)
  refine SO.step i i' h kJ hJ hc ko go (((f1.1.trans f3.1).trans f4.1).trans x6) ox ((op.l ox1 f1.1 go).r oo) ?_ (by rw [e6, gI_pI, up2_s, e1]) p6
  refine (ou.l f1 h1 i kJ).r ?_ (oo 6) ?_
  · rw [e6, gI_pI, up2_n _ _ (fun z => absurd z.2 (by decide))]; exact (f4.O k3 ⟨by decide, n4 _ (by decide) (by decide)⟩).1
  · intro a ha k
    have t := T_4_3 i.1 kJ ha
    have ka : kO τ a 100 := i.1.kd kJ rfl ha rfl
    have ka3 := (ka.up f1.1).up f3.1
    rw [e6, gI_pI, up2_n _ _ (fun z => absurd z.1 (ka3.ne k3 (by decide)))]
    exact f4.r1 ka3 t.2.1 h4.2.2 k
end STM

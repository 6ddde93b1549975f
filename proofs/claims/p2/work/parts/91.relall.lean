section HPA
variable {σ σ' : Sg} {pl th c : Nat} {LL : Nat → List Nat} {own : Nat → Nat}
/-- all cells of a chain go back to the pool -/
theorem s_X8_releaseAll {Q : Sg → Unit → Prop} {X : Sg → String → Prop} (h : HP σ pl LL own) (ht : kO σ th 1) (hG : RG σ) (hQ : ∀ σ', HP σ' pl (up1 (up1 LL th []) pl (LL th ++ LL pl)) (fun d => if d ∈ LL th then pl else own d) → FrH pl σ σ' → RG σ' → gJ σ' = gJ σ → (∀ a k, a ≠ th → gI σ' a k = gI σ a k) → Q σ' ()) : wp_X8_releaseAll pl (some th) σ Q X := by
  obtain ⟨a1, ⟨a2, a3⟩, a4, a5, a6, a7⟩ := id h
  obtain ⟨b1, b2, b3⟩ := a1 th ht
  have thp : th ≠ pl := ht.ne a2 (by decide)
  have fin : ∀ σ9 : Sg, σ9.1 = σ.1 → gk σ9 = gk σ → gn σ9 = gn σ → gJ σ9 = gJ σ → gI σ9 = gI σ → (∀ a k, ¬ (some a = (LL th).getLast? ∧ k = 1) → ¬ (a = pl ∧ k = 0) → gP σ9 a k = gP σ a k) → (∀ a, (LL th).getLast? = some a → gP σ9 a 1 = gP σ pl 0) → gP σ9 pl 0 = (if LL th = [] then gP σ pl 0 else gP σ th 0) → w_X8_releaseAll_26 pl Q X σ9 (some th) := by
    intro σ9 k1 k2 k3 k4 k5 k7 k8 k9
    have lst0 : ∀ a, (LL th).getLast? = some a → kO σ a 0 := fun a q => (a4 th a (List.mem_of_getLast? q)).2
    unfold w_X8_releaseAll_26
    refine ⟨th, rfl, fun _ => ?_⟩
    intro σ16 e16 σ17 e17 σ18 e18
    have hP : ∀ a k, gP σ18 a k = if a = th ∧ k = 1 then none else if a = th ∧ k = 0 then none else gP σ9 a k := by
      intro a k; rw [e18, gP_pI, e17, gP_pP, e16, gP_pP]; rfl
    have hPo : ∀ a k, ¬ (a = th ∧ (k = 0 ∨ k = 1)) → ¬ (some a = (LL th).getLast? ∧ k = 1) → ¬ (a = pl ∧ k = 0) → gP σ18 a k = gP σ a k := fun a k q1 q2 q3 => by
      rw [hP, if_neg (fun e => q1 ⟨e.1, Or.inr e.2⟩), if_neg (fun e => q1 ⟨e.1, Or.inl e.2⟩), k7 a k q2 q3]
    have hI : ∀ a k, gI σ18 a k = if a = th ∧ k = 2 then 0 else gI σ a k := by
      intro a k; rw [e18, gI_pI, e17, gI_pP, e16, gI_pP, k5]; rfl
    have j1 : σ18.1 = σ.1 := by rw [e18, e17, e16]; exact k1
    have j2 : gk σ18 = gk σ := by rw [e18, e17, e16]; exact k2
    have j3 : gn σ18 = gn σ := by rw [e18, e17, e16]; exact k3
    have j4 : gJ σ18 = gJ σ := by rw [e18, e17, e16]; exact k4
    have hpl : gP σ18 pl 0 = (if LL th = [] then gP σ pl 0 else gP σ th 0) := by rw [hP, if_neg (fun e => thp e.1.symm), if_neg (fun e => thp e.1.symm), k9]
    have notc : ∀ x, x ≠ th → ∀ d ∈ LL x, d ∉ LL th := fun x q d hd hd2 => q ((a4 x d hd).1.symm.trans (a4 th d hd2).1)
    have cell : ∀ x, ∀ d ∈ LL x, d ≠ th ∧ d ≠ pl := fun x d hd => ⟨fun e => (ht.ne (a4 x d hd).2 (by decide)) e.symm, fun e => (a2.ne (a4 x d hd).2 (by decide)) e.symm⟩
    have hm : ∀ d ∈ LL th ++ LL pl, (if d ∈ LL th then pl else own d) = pl ∧ kO σ d 0 := fun d hd => by
      rcases List.mem_append.mp hd with q | q
      · rw [if_pos q]; exact ⟨rfl, (a4 th d q).2⟩
      · rw [if_neg (notc pl (fun e => thp e.symm) d q)]; exact a4 pl d q
    have hp : HP σ18 pl (up1 (up1 LL th []) pl (LL th ++ LL pl)) (fun d => if d ∈ LL th then pl else own d) := by
      refine h.mk2 (t := th) (u := pl) (L := []) (M := LL th ++ LL pl) (own' := fun d => if d ∈ LL th then pl else own d) j1 j2 j3 (fun x q1 q2 d hd => ?_) (fun ch q1 q2 hch => ?_) (fun _ q => absurd rfl q) (fun _ _ => ?_) (fun q => absurd (a2.2.symm.trans q.2) (by decide)) (fun q => absurd q.symm thp) (fun _ => ?_) (fun d hd => absurd hd (by simp)) hm (fun x q1 q2 d hd => ?_) (by simp) ?_ (Or.inr ht) (Or.inl rfl) (fun d hd => ?_)
      · exact hPo d 1 (fun e => (cell x d hd).1 e.1) (fun e => notc x q1 d hd (List.mem_of_getLast? e.1.symm)) (fun e => (cell x d hd).2 e.1)
      · have u2 : some ch ≠ (LL th).getLast? := fun e => (hch.ne (lst0 ch e.symm) (by decide)) rfl
        exact ⟨hPo ch 0 (fun e => q1 e.1) (fun e => u2 e.1) (fun e => q2 e.1), hPo ch 1 (fun e => q1 e.1) (fun e => u2 e.1) (fun e => q2 e.1), by rw [hI, if_neg (fun e => q1 e.1)]⟩
      · refine ⟨?_, ?_, ?_⟩
        · show gP σ18 th 0 = none
          rw [hP, if_neg (fun e => by have := e.2; omega), if_pos ⟨rfl, rfl⟩]
        · rw [hP, if_pos ⟨rfl, rfl⟩]; rfl
        · rw [hI, if_pos ⟨rfl, rfl⟩]; rfl
      · rw [hpl]
        refine lk_join (nx := fun d => gP σ d 1) (w := gP σ pl 0) b1 (lk_congr (nx := fun d => gP σ d 1) (fun d hd => hPo d 1 (fun e => (cell pl d hd).1 e.1) (fun e => notc pl (fun e => thp e.symm) d hd (List.mem_of_getLast? e.1.symm)) (fun e => (cell pl d hd).2 e.1)) a3) (a5 th) (fun x hx hl => hPo x 1 (fun e => (cell th x hx).1 e.1) (fun e => hl e.1) (fun e => (cell th x hx).2 e.1)) (fun x hx => ?_)
        show gP σ18 x 1 = _
        have hx9 := cell th x (List.mem_of_getLast? hx)
        rw [hP, if_neg (fun e => hx9.1 e.1), if_neg (fun e => hx9.1 e.1), k8 x hx]
      · show (if d ∈ LL th then pl else own d) = x
        rw [if_neg (notc x q1 d hd)]; exact (a4 x d hd).1
      · exact List.nodup_append.mpr ⟨a5 th, a5 pl, fun x hx y hy e => notc pl (fun e => thp e.symm) y hy (e ▸ hx)⟩
      · exact hPo d 0 (fun e => (ht.ne hd (by decide)) e.1.symm) (fun e => by have := e.2; omega) (fun e => (a2.ne hd (by decide)) e.1.symm)
    refine hQ σ18 hp ⟨j1, j2, j3, fun a k q1 q2 => by rw [hI, if_neg (fun e : a = th ∧ k = 2 => q2 (e.1 ▸ ht))], fun a k _ => by rw [j4], fun a k q1 q2 q3 => hPo a k (fun e => q2 (e.1 ▸ ht)) (fun e => q1 ⟨lst0 a e.1.symm, e.2⟩) q3⟩ (fun a k => ?_) j4 (fun a k q => by rw [hI, if_neg (fun e => q e.1)])
    rw [hI]
    split
    · unfold rng; omega
    · exact hG a k
  unfold wp_X8_releaseAll w_X8_releaseAll_0
  refine ⟨th, rfl, fun _ => ?_⟩
  by_cases hL : LL th = []
  · rw [if_pos (by rw [b2, hL]; rfl)]
    exact fin σ rfl rfl rfl rfl rfl (fun _ _ _ _ => rfl) (fun a q => by rw [hL] at q; cases q) (by rw [if_pos hL])
  · obtain ⟨a, ha⟩ : ∃ a, (LL th).getLast? = some a := by
      cases q : (LL th).getLast? with
      | none => exact absurd (List.getLast?_eq_none_iff.mp q) hL
      | some a => exact ⟨a, rfl⟩
    have ha0 : kO σ a 0 := (a4 th a (List.mem_of_getLast? ha)).2
    have hap : a ≠ pl := fun e => (a2.ne ha0 (by decide)) e.symm
    have hta : th ≠ a := ht.ne ha0 (by decide)
    rw [if_neg (by rw [b2, ha]; simp)]
    unfold w_X8_releaseAll_7
    refine ⟨th, rfl, fun _ => ⟨a, by rw [b2, ha], fun _ => ?_⟩⟩
    intro σ13 e13 σ14 e14
    have hP : ∀ x k, gP σ14 x k = if x = pl ∧ k = 0 then gP σ th 0 else if x = a ∧ k = 1 then gP σ pl 0 else gP σ x k := by
      intro x k
      have e0 : gP σ13 th 0 = gP σ th 0 := by rw [e13, gP_pP]; exact up2_n _ _ (fun e => hta e.1)
      rw [e14, gP_pP, e0, e13, gP_pP]; rfl
    refine fin σ14 (by rw [e14, e13]) (by rw [e14, e13]) (by rw [e14, e13]) (by rw [e14, e13]) (by rw [e14, e13]) (fun x k q1 q2 => ?_) (fun x q => ?_) ?_
    · rw [hP, if_neg q2, if_neg (fun e => q1 ⟨by rw [ha, e.1], e.2⟩)]
    · rw [ha] at q; cases q
      rw [hP, if_neg (fun e => hap e.1), if_pos ⟨rfl, rfl⟩]
    · rw [hP, if_pos ⟨rfl, rfl⟩, if_neg hL]
end HPA

section HPM
variable {σ σ' : Sg} {pl th ot : Nat} {LL : Nat → List Nat} {own : Nat → Nat}
/-- all cells of a chain go to the end of another one -/
theorem s_X1_moveAllTo {Q : Sg → Unit → Prop} {X : Sg → String → Prop} (h : HP σ pl LL own) (ht : kO σ th 1) (ho : kO σ ot 1) (hne : th ≠ ot) (hG : RG σ) (hs : (LL ot).length + (LL th).length < 2147483648) (hQ : ∀ σ', HP σ' pl (up1 (up1 LL th []) ot (LL ot ++ LL th)) (fun d => if d ∈ LL th then ot else own d) → FrH pl σ σ' → RG σ' → gJ σ' = gJ σ → (∀ a k, a ≠ th → a ≠ ot → gI σ' a k = gI σ a k) → Q σ' ()) : wp_X1_moveAllTo th (some ot) σ Q X := by
  obtain ⟨a1, ⟨a2, a3⟩, a4, a5, a6, a7⟩ := id h
  obtain ⟨b1, b2, b3⟩ := a1 th ht
  obtain ⟨c1, c2, c3⟩ := a1 ot ho
  have thp : th ≠ pl := ht.ne a2 (by decide)
  have otp : ot ≠ pl := ho.ne a2 (by decide)
  have cell : ∀ x, ∀ d ∈ LL x, d ≠ th ∧ d ≠ ot ∧ d ≠ pl := fun x d hd => ⟨fun e => (ht.ne (a4 x d hd).2 (by decide)) e.symm, fun e => (ho.ne (a4 x d hd).2 (by decide)) e.symm, fun e => (a2.ne (a4 x d hd).2 (by decide)) e.symm⟩
  have notc : ∀ x, x ≠ th → ∀ d ∈ LL x, d ∉ LL th := fun x q d hd hd2 => q ((a4 x d hd).1.symm.trans (a4 th d hd2).1)
  have noto : ∀ x, x ≠ ot → ∀ d ∈ LL x, d ∉ LL ot := fun x q d hd hd2 => q ((a4 x d hd).1.symm.trans (a4 ot d hd2).1)
  have lst0 : ∀ a, (LL ot).getLast? = some a → kO σ a 0 := fun a q => (a4 ot a (List.mem_of_getLast? q)).2
  unfold wp_X1_moveAllTo w_X1_moveAllTo_0
  by_cases hT : LL th = []
  · have e0 : gP σ th 0 = none := by rw [hT] at b1; exact b1
    rw [if_neg (by rw [e0]; simp)]
    unfold w_X1_moveAllTo_7
    have eo : (fun d => if d ∈ LL th then ot else own d) = own := by funext d; rw [hT]; simp
    have el : up1 (up1 LL th []) ot (LL ot ++ LL th) = LL := by
      funext x
      unfold up1
      split
      · rename_i q; rw [q, hT, List.append_nil]
      · split
        · rename_i q; rw [q, hT]
        · rfl
    refine hQ σ (by rw [el, eo]; exact h) ⟨rfl, rfl, rfl, fun _ _ _ _ => rfl, fun _ _ _ => rfl, fun _ _ _ _ _ => rfl⟩ hG rfl (fun _ _ _ _ => rfl)
  · have hne0 : gP σ th 0 ≠ none := fun e => by rw [e] at b1; exact hT (lk_nil b1)
    rw [if_pos hne0]
    have fin : ∀ σ9 : Sg, σ9.1 = σ.1 → gk σ9 = gk σ → gn σ9 = gn σ → gJ σ9 = gJ σ → gI σ9 = gI σ → (∀ a k, ¬ (some a = (LL ot).getLast? ∧ k = 1) → ¬ (a = ot ∧ k = 0) → gP σ9 a k = gP σ a k) → (∀ a, (LL ot).getLast? = some a → gP σ9 a 1 = gP σ th 0) → gP σ9 ot 0 = (if LL ot = [] then gP σ th 0 else gP σ ot 0) → w_X1_moveAllTo_37 th Q X σ9 (some ot) := by
      intro σ9 k1 k2 k3 k4 k5 k7 k8 k9
      unfold w_X1_moveAllTo_37
      refine ⟨ot, rfl, fun _ => ?_⟩
      intro σ17 e17
      have i17 : gI σ17 = gI σ := by rw [e17]; exact k5
      refine ⟨by rw [i17, c3, b3]; unfold rng; omega, ?_⟩
      intro σ18 e18 σ19 e19 σ20 e20 σ21 e21
      have u1 : some th ≠ (LL ot).getLast? := fun e => (ht.ne (lst0 th e.symm) (by decide)) rfl
      have p1 : gP σ9 th 1 = (LL th).getLast? := by rw [k7 th 1 (fun e => u1 e.1) (fun e => by have := e.2; omega)]; exact b2
      have hP : ∀ a k, gP σ21 a k = if a = th ∧ k = 1 then none else if a = th ∧ k = 0 then none else if a = ot ∧ k = 1 then (LL th).getLast? else gP σ9 a k := by
        intro a k; rw [e21, gP_pI, e20, gP_pP, e19, gP_pP, e18, gP_pI, e17, gP_pP, p1]; rfl
      have hI : ∀ a k, gI σ21 a k = if a = th ∧ k = 2 then 0 else if a = ot ∧ k = 2 then gI σ ot 2 + gI σ th 2 else gI σ a k := by
        intro a k; rw [e21, gI_pI, e20, gI_pP, e19, gI_pP, e18, gI_pI, i17]; rfl
      have hPo : ∀ a k, a ≠ th → ¬ (a = ot ∧ (k = 0 ∨ k = 1)) → ¬ (some a = (LL ot).getLast? ∧ k = 1) → gP σ21 a k = gP σ a k := fun a k q1 q2 q3 => by
        rw [hP, if_neg (fun e : a = th ∧ k = 1 => q1 e.1), if_neg (fun e : a = th ∧ k = 0 => q1 e.1), if_neg (fun e : a = ot ∧ k = 1 => q2 ⟨e.1, Or.inr e.2⟩), k7 a k q3 (fun e => q2 ⟨e.1, Or.inl e.2⟩)]
      have j1 : σ21.1 = σ.1 := by rw [e21, e20, e19, e18, e17]; exact k1
      have j2 : gk σ21 = gk σ := by rw [e21, e20, e19, e18, e17]; exact k2
      have j3 : gn σ21 = gn σ := by rw [e21, e20, e19, e18, e17]; exact k3
      have j4 : gJ σ21 = gJ σ := by rw [e21, e20, e19, e18, e17]; exact k4
      have hm : ∀ d ∈ LL ot ++ LL th, (if d ∈ LL th then ot else own d) = ot ∧ kO σ d 0 := fun d hd => by
        rcases List.mem_append.mp hd with q | q
        · rw [if_neg (notc ot (fun e => hne e.symm) d q)]; exact a4 ot d q
        · rw [if_pos q]; exact ⟨rfl, (a4 th d q).2⟩
      have hp : HP σ21 pl (up1 (up1 LL th []) ot (LL ot ++ LL th)) (fun d => if d ∈ LL th then ot else own d) := by
        refine h.mk2 (t := th) (u := ot) (L := []) (M := LL ot ++ LL th) (own' := fun d => if d ∈ LL th then ot else own d) j1 j2 j3 (fun x q1 q2 d hd => hPo d 1 (cell x d hd).1 (fun e => (cell x d hd).2.1 e.1) (fun e => noto x q2 d hd (List.mem_of_getLast? e.1.symm))) (fun ch q1 q2 hch => ?_) (fun q1 q2 => hPo pl 0 q1 (fun e => q2 e.1) (fun e => by have := e.2; omega)) (fun _ _ => ?_) (fun _ => ?_) (fun q => absurd q.symm thp) (fun q => absurd q.symm otp) (fun d hd => absurd hd (by simp)) hm (fun x q1 q2 d hd => ?_) (by simp) ?_ (Or.inr ht) (Or.inr ho) (fun d hd => hPo d 0 (fun e => (ht.ne hd (by decide)) e.symm) (fun e => (ho.ne hd (by decide)) e.1.symm) (fun e => by have := e.2; omega))
        · have u2 : some ch ≠ (LL ot).getLast? := fun e => (hch.ne (lst0 ch e.symm) (by decide)) rfl
          exact ⟨hPo ch 0 q1 (fun e => q2 e.1) (fun e => u2 e.1), hPo ch 1 q1 (fun e => q2 e.1) (fun e => u2 e.1), by rw [hI, if_neg (fun e : ch = th ∧ _ => q1 e.1), if_neg (fun e : ch = ot ∧ _ => q2 e.1)]⟩
        · refine ⟨?_, ?_, ?_⟩
          · show gP σ21 th 0 = none
            rw [hP, if_neg (fun e : th = th ∧ 0 = 1 => by have := e.2; omega), if_pos ⟨rfl, rfl⟩]
          · rw [hP, if_pos ⟨rfl, rfl⟩]; rfl
          · rw [hI, if_pos ⟨rfl, rfl⟩]; rfl
        · refine ⟨?_, ?_, ?_⟩
          · have e0 : gP σ21 ot 0 = (if LL ot = [] then gP σ th 0 else gP σ ot 0) := by
              rw [hP, if_neg (fun e : ot = th ∧ _ => hne e.1.symm), if_neg (fun e : ot = th ∧ _ => hne e.1.symm), if_neg (fun e : ot = ot ∧ 0 = 1 => by have := e.2; omega), k9]
            rw [e0]
            refine lk_join (nx := fun d => gP σ d 1) (w := gP σ th 0) c1 (lk_congr (nx := fun d => gP σ d 1) (fun d hd => hPo d 1 (cell th d hd).1 (fun e => (cell th d hd).2.1 e.1) (fun e => noto th hne d hd (List.mem_of_getLast? e.1.symm))) b1) (a5 ot) (fun x hx hl => hPo x 1 (cell ot x hx).1 (fun e => (cell ot x hx).2.1 e.1) (fun e => hl e.1)) (fun x hx => ?_)
            show gP σ21 x 1 = _
            have hx9 := cell ot x (List.mem_of_getLast? hx)
            rw [hP, if_neg (fun e : x = th ∧ _ => hx9.1 e.1), if_neg (fun e : x = th ∧ _ => hx9.1 e.1), if_neg (fun e : x = ot ∧ _ => hx9.2.1 e.1), k8 x hx]
          · have el : (LL ot ++ LL th).getLast? = (LL th).getLast? := by
              rw [List.getLast?_append]
              cases q : (LL th).getLast? with
              | none => exact absurd (List.getLast?_eq_none_iff.mp q) hT
              | some x => rfl
            rw [hP, if_neg (fun e : ot = th ∧ _ => hne e.1.symm), if_neg (fun e : ot = th ∧ _ => hne e.1.symm), if_pos ⟨rfl, rfl⟩, el]
          · rw [hI, if_neg (fun e : ot = th ∧ _ => hne e.1.symm), if_pos ⟨rfl, rfl⟩, c3, b3, List.length_append]; omega
        · show (if d ∈ LL th then ot else own d) = x
          rw [if_neg (notc x q1 d hd)]; exact (a4 x d hd).1
        · exact List.nodup_append.mpr ⟨a5 ot, a5 th, fun x hx y hy e => notc ot (fun e => hne e.symm) x hx (e ▸ hy)⟩
      refine hQ σ21 hp ⟨j1, j2, j3, fun a k q1 q2 => by rw [hI, if_neg (fun e : a = th ∧ k = 2 => q2 (e.1 ▸ ht)), if_neg (fun e : a = ot ∧ k = 2 => q2 (e.1 ▸ ho))], fun a k _ => by rw [j4], fun a k q1 q2 q3 => hPo a k (fun e => q2 (e ▸ ht)) (fun e => q2 (e.1 ▸ ho)) (fun e => q1 ⟨lst0 a e.1.symm, e.2⟩)⟩ (fun a k => ?_) j4 (fun a k q1 q2 => by rw [hI, if_neg (fun e : a = th ∧ k = 2 => q1 e.1), if_neg (fun e : a = ot ∧ k = 2 => q2 e.1)])
      rw [hI]
      split
      · unfold rng; omega
      · split
        · rw [c3, b3]; unfold rng; omega
        · exact hG a k
    unfold w_X1_moveAllTo_8
    refine ⟨ot, rfl, fun _ => ?_⟩
    by_cases hO : LL ot = []
    · rw [if_neg (by rw [c2, hO]; simp)]
      unfold w_X1_moveAllTo_15
      refine ⟨ot, rfl, fun _ => ?_⟩
      intro σ15 e15
      exact fin σ15 (by rw [e15]) (by rw [e15]) (by rw [e15]) (by rw [e15]) (by rw [e15]) (fun a k _ q => by rw [e15, gP_pP]; exact up2_n _ _ q) (fun a q => by rw [hO] at q; cases q) (by rw [e15, gP_pP, if_pos hO]; exact up2_s _ _ _ _)
    · obtain ⟨a, ha⟩ : ∃ a, (LL ot).getLast? = some a := by
        cases q : (LL ot).getLast? with
        | none => exact absurd (List.getLast?_eq_none_iff.mp q) hO
        | some a => exact ⟨a, rfl⟩
      have ha0 := lst0 a ha
      have hoa : ot ≠ a := ho.ne ha0 (by decide)
      rw [if_pos (by rw [c2, ha]; simp)]
      unfold w_X1_moveAllTo_26
      refine ⟨ot, rfl, fun _ => ⟨a, by rw [c2, ha], fun _ => ?_⟩⟩
      intro σ24 e24
      exact fin σ24 (by rw [e24]) (by rw [e24]) (by rw [e24]) (by rw [e24]) (by rw [e24]) (fun x k q _ => by rw [e24, gP_pP]; exact up2_n _ _ (fun e => q ⟨by rw [ha, e.1], e.2⟩)) (fun x q => by rw [ha] at q; cases q; rw [e24, gP_pP]; exact up2_s _ _ _ _) (by rw [e24, gP_pP, if_neg hO]; exact up2_n _ _ (fun e => hoa e.1))
end HPM

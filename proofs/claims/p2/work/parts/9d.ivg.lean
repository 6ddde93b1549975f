section IVM
variable {σ σ' : Sg} {gq ci gr nc N N' nu : Nat → Nat} {ot : Nat → Nat → Int} {LL LL' : Nat → List Nat} {pl th c oh : Nat} {own : Nat → Nat}
/-- all cells of a chain come to the end of another one -/
theorem i_moveAllTo {Q : Sg → Unit → Prop} {X : Sg → String → Prop} (h : IV σ pl gq ci gr nc ot LL N nu) (ht : kO σ th 1) (ho : kO σ oh 1) (hne : gq th ≠ gq oh) (hg : 11 ≤ gq th) (hP : PlC σ gq ci ot oh) (h50 : gq oh ≠ 50 ∧ gq oh ≠ 13)
    (hC : ∀ N', NF [gq th, gq oh] N N' → N' (gq th) + (LL th).length = N (gq th) → N' (gq oh) = N (gq oh) + (LL th).length → SC σ gq N')
    (hQ : ∀ σ' N', IV σ' pl gq ci gr nc ot (up1 (up1 LL th []) oh (LL oh ++ LL th)) N' nu → Fx CH gr σ σ' → NF [gq th, gq oh] N N' → N' (gq th) + (LL th).length = N (gq th) → N' (gq oh) = N (gq oh) + (LL th).length → Q σ' ()) : wp_X1_moveAllTo th (some oh) σ Q X := by
  obtain ⟨own, hp⟩ := h.hp
  have ss := h.ss
  have le := h.le ht.1 (Or.inr hg)
  have hne' : th ≠ oh := fun e => hne (by rw [e])
  have hgo := gl11 _ hP.1
  have s1 := h.sz ht.1
  have s2 := h.sz ho.1
  refine s_X1_moveAllTo hp ht ho hne' h.2.2.2.2.2.2.1.1 (by omega) (fun σ' hp' fr hR hJ hI => ?_)
  have hN : NF [gq th, gq oh] N (up1 (up1 N (gq th) (N (gq th) - (LL th).length)) (gq oh) (N (gq oh) + (LL th).length)) := fun g hgg => by
    simp only [List.mem_cons, List.mem_nil_iff, or_false, not_or] at hgg
    rw [up1_n _ _ hgg.2, up1_n _ _ hgg.1]
  have e1 : up1 (up1 N (gq th) (N (gq th) - (LL th).length)) (gq oh) (N (gq oh) + (LL th).length) (gq th) = N (gq th) - (LL th).length := by rw [up1_n _ _ hne, up1_s]
  have e2 : up1 (up1 N (gq th) (N (gq th) - (LL th).length)) (gq oh) (N (gq oh) + (LL th).length) (gq oh) = N (gq oh) + (LL th).length := up1_s _ _ _
  have e3 : ∀ g, g ≠ gq th → g ≠ gq oh → up1 (up1 N (gq th) (N (gq th) - (LL th).length)) (gq oh) (N (gq oh) + (LL th).length) g = N g := fun g q1 q2 => by rw [up1_n _ _ q2, up1_n _ _ q1]
  have ev : ∀ x, up1 (up1 LL th []) oh (LL oh ++ LL th) x = if x = oh then LL oh ++ LL th else if x = th then [] else LL x := fun x => by unfold up1; rfl
  have := h.ch (N' := up1 (up1 N (gq th) (N (gq th) - (LL th).length)) (gq oh) (N (gq oh) + (LL th).length)) hp' fr (fun a k q => hI a k (fun e => q (e ▸ ht)) (fun e => q (e ▸ ho))) hJ hR (hC _ hN (by rw [e1]; omega) e2) (fun g hgg => ?_) (fun x hx hq => ?_) (fun x hx hL => ?_) (fun x hx hq d hd => ?_) (e3 2 (by omega) (by omega)) (e3 3 (by omega) (by omega)) ?_
  · exact hQ σ' _ this.1 this.2 hN (by rw [e1]; omega) e2
  · have a1 := ns_up (gq := gq) (LL := LL) (L := []) ss.1 ht.1 g
    have a2 := ns_up (gq := gq) (LL := up1 LL th []) (L := LL oh ++ LL th) ss.1 ho.1 g
    rw [up1_n _ _ (fun e => hne' e.symm), List.length_append] at a2
    rw [List.length_nil] at a1
    by_cases q : g = gq th
    · subst q
      rw [if_pos rfl, if_pos rfl, ← ss.2.2.1 _ hgg] at a1
      rw [if_neg (fun e => hne e.symm), if_neg (fun e => hne e.symm)] at a2
      rw [e1]; omega
    · rw [if_neg (fun e => q e.symm), if_neg (fun e => q e.symm), ← ss.2.2.1 _ hgg] at a1
      by_cases q0 : g = gq oh
      · subst q0
        rw [if_pos rfl, if_pos rfl] at a2
        rw [e2]; omega
      · rw [if_neg (fun e => q0 e.symm), if_neg (fun e => q0 e.symm)] at a2
        rw [e3 g q q0]; omega
  · rw [ev x]
    by_cases q : x = oh
    · subst q; exact absurd hq h50.1
    · rw [if_neg q]; split
      · simp
      · exact ss.2.2.2.1 x hx hq
  · rw [ev x] at hL
    by_cases q : x = oh
    · rw [q]; exact hP
    · rw [if_neg q] at hL
      split at hL
      · exact absurd rfl hL
      · exact ss.2.2.2.2.2.1 x hx hL
  · rw [ev x] at hd
    by_cases q : x = oh
    · subst q; exact absurd hq h50.2
    · rw [if_neg q] at hd
      split at hd
      · exact absurd hd (by simp)
      · exact ss.2.2.2.2.2.2.1 x hx hq d hd
  · have a1 := nt_up (LL := LL) (L := []) ss.1 ht.1
    have a2 := nt_up (LL := up1 LL th []) (L := LL oh ++ LL th) ss.1 ho.1
    rw [up1_n _ _ (fun e => hne' e.symm), List.length_append] at a2
    rw [List.length_nil] at a1
    have := ss.2.2.2.2.2.2.2
    rw [e3 2 (by omega) (by omega), e3 1 (by omega) (by omega)]; omega
end IVM

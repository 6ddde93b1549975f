set_option maxHeartbeats 1000000 in
theorem i_X9_empty {σ : Sg} {pl : Nat} {gq ci gr nc : Nat → Nat} {ot : Nat → Nat → Int} {LL : Nat → List Nat} {N nu : Nat → Nat} {th : Nat} (iσ : IV σ pl gq ci gr nc ot LL N nu) (kth : kO σ th 9) {Q : Sg → Unit → Prop} {X : Sg → String → Prop} (hQ : ∀ (σ' : Sg) (LL' : Nat → List Nat) (N' nu' : Nat → Nat) (r : Unit), IV σ' pl gq ci gr nc ot LL' N' nu' → Fx [1, 64, 512, 590, 708] gr σ σ' → NU nu nu' → Hn (gD σ) [11, 12, 13, 50, 60, 61, 62, 63, 64, 65, 66, 67] [] gq LL LL' N N' → ((N' 11 = 0 ∧ N' 12 = 0 ∧ N' 13 = 0 ∧ N' 50 = 0) ∧ (N' 60 = 0 ∧ N' 61 = 0 ∧ N' 62 = 0 ∧ N' 63 = 0) ∧ (N' 64 = 0 ∧ N' 65 = 0 ∧ N' 66 = 0 ∧ N' 67 = 0) ∧ N' 1 = N 1) → Q σ' r) : wp_X9_empty th σ Q X := by
  have fσ : Fx [1, 64, 512, 590, 708] gr σ σ := Fx.rf
  have hnσ : Hn (gD σ) [11, 12, 13, 50, 60, 61, 62, 63, 64, 65, 66, 67] [] gq LL LL N N := Hn.rf
  unfold wp_X9_empty
  unfold w_X9_empty_0
  have Lp2 : ∀ (fu2 : Nat) (τ2 : Sg) (LLt2 : Nat → List Nat) (Nt2 nut2 : Nat → Nat) (v1 : Int), IV τ2 pl gq ci gr nc ot LLt2 Nt2 nut2 → Fx [1, 64, 512, 590, 708] gr σ τ2 → Ext σ τ2 → NU nu nut2 → Hn (gD σ) [11, 12, 13, 50, 60, 61, 62, 63, 64, 65, 66, 67] [] gq LL LLt2 N Nt2 → ((0 ≤ v1 ∧ v1 ≤ 64) ∧ Em gq ci LLt2 11 v1 ∧ Em gq ci LLt2 12 v1 ∧ Em gq ci LLt2 13 v1 ∧ Nt2 1 = N 1) → ((64 - v1).toNat) < fu2 → wl_X9_empty_2 th Q X fu2 τ2 v1 := by
    intro fu2
    induction fu2 with
    | zero => intro _ _ _ _ _ _ _ _ _ _ _ h9; omega
    | succ fu2 ih2 =>
      intro τ2 LLt2 Nt2 nut2 v1 iτ2 fτ2 xτ2 nu_τ2 hnτ2 hi2 hm2
      have nτ2_3 := hnτ2.2.2 3 (by first | decide | (simp; done) | (simp only [List.mem_cons, List.mem_nil_iff, or_false, not_or]; omega)) (by first | decide | omega) (by first | decide | omega) (by first | decide | omega)
      have nτ2_5 := hnτ2.2.2 5 (by first | decide | (simp; done) | (simp only [List.mem_cons, List.mem_nil_iff, or_false, not_or]; omega)) (by first | decide | omega) (by first | decide | omega) (by first | decide | omega)
      have nτ2_14 := hnτ2.2.2 14 (by first | decide | (simp; done) | (simp only [List.mem_cons, List.mem_nil_iff, or_false, not_or]; omega)) (by first | decide | omega) (by first | decide | omega) (by first | decide | omega)
      have nτ2_44 := hnτ2.2.2 44 (by first | decide | (simp; done) | (simp only [List.mem_cons, List.mem_nil_iff, or_false, not_or]; omega)) (by first | decide | omega) (by first | decide | omega) (by first | decide | omega)
      have nτ2_74 := hnτ2.2.2 74 (by first | decide | (simp; done) | (simp only [List.mem_cons, List.mem_nil_iff, or_false, not_or]; omega)) (by first | decide | omega) (by first | decide | omega) (by first | decide | omega)
      have uτ2_0 := nu_τ2.1 0 (by decide)
      have uτ2_1 := nu_τ2.1 1 (by decide)
      have uτ2_2 := nu_τ2.2
      have uτ2_5 := nu_τ2.1 5 (by decide)
      have uτ2_15 := nu_τ2.1 15 (by decide)
      have uτ2_16 := nu_τ2.1 16 (by decide)
      unfold wl_X9_empty_2
      have n16t := iτ2.n16
      unfold w_X9_empty_2
      have q2 := iτ2.tc (kth.up xτ2)
      have q3 := I_9_10 iτ2.1 (kth.up xτ2)
      by_cases hc1 : v1 ≥ gI τ2 th 10
      · rw [if_pos hc1]
        unfold w_X9_empty_64
        have Lp66 : ∀ (fu66 : Nat) (τ66 : Sg) (LLt66 : Nat → List Nat) (Nt66 nut66 : Nat → Nat) (v1 : Int), IV τ66 pl gq ci gr nc ot LLt66 Nt66 nut66 → Fx [1, 64, 512, 590, 708] gr σ τ66 → Ext τ2 τ66 → NU nu nut66 → Hn (gD σ) [11, 12, 13, 50, 60, 61, 62, 63, 64, 65, 66, 67] [] gq LL LLt66 N Nt66 → ((0 ≤ v1 ∧ v1 ≤ 512) ∧ Em gq ci LLt66 50 v1 ∧ Nt66 11 = 0 ∧ Nt66 12 = 0 ∧ Nt66 13 = 0 ∧ Nt66 1 = N 1) → ((512 - v1).toNat) < fu66 → wl_X9_empty_66 th Q X fu66 τ66 v1 := by
          intro fu66
          induction fu66 with
          | zero => intro _ _ _ _ _ _ _ _ _ _ _ h9; omega
          | succ fu66 ih66 =>
            intro τ66 LLt66 Nt66 nut66 v1 iτ66 fτ66 xτ66 nu_τ66 hnτ66 hi66 hm66
            have nτ66_3 := hnτ66.2.2 3 (by first | decide | (simp; done) | (simp only [List.mem_cons, List.mem_nil_iff, or_false, not_or]; omega)) (by first | decide | omega) (by first | decide | omega) (by first | decide | omega)
            have nτ66_5 := hnτ66.2.2 5 (by first | decide | (simp; done) | (simp only [List.mem_cons, List.mem_nil_iff, or_false, not_or]; omega)) (by first | decide | omega) (by first | decide | omega) (by first | decide | omega)
            have nτ66_14 := hnτ66.2.2 14 (by first | decide | (simp; done) | (simp only [List.mem_cons, List.mem_nil_iff, or_false, not_or]; omega)) (by first | decide | omega) (by first | decide | omega) (by first | decide | omega)
            have nτ66_44 := hnτ66.2.2 44 (by first | decide | (simp; done) | (simp only [List.mem_cons, List.mem_nil_iff, or_false, not_or]; omega)) (by first | decide | omega) (by first | decide | omega) (by first | decide | omega)
            have nτ66_74 := hnτ66.2.2 74 (by first | decide | (simp; done) | (simp only [List.mem_cons, List.mem_nil_iff, or_false, not_or]; omega)) (by first | decide | omega) (by first | decide | omega) (by first | decide | omega)
            have uτ66_0 := nu_τ66.1 0 (by decide)
            have uτ66_1 := nu_τ66.1 1 (by decide)
            have uτ66_2 := nu_τ66.2
            have uτ66_5 := nu_τ66.1 5 (by decide)
            have uτ66_15 := nu_τ66.1 15 (by decide)
            have uτ66_16 := nu_τ66.1 16 (by decide)
            unfold wl_X9_empty_66
            have kp4 : gI τ66 th 10 = gI τ2 th 10 := (fτ66.O kth (by decide)).1.trans (fτ2.O kth (by decide)).1.symm
            have n16t := iτ66.n16
            unfold w_X9_empty_66
            have q6 := iτ66.tc (kth.up (xτ2.trans xτ66))
            have q7 := I_9_11 iτ66.1 (kth.up (xτ2.trans xτ66))
            by_cases hc5 : v1 ≥ gI τ66 th 11
            · rw [if_pos hc5]
              unfold w_X9_empty_96
              have Lp98 : ∀ (fu98 : Nat) (τ98 : Sg) (LLt98 : Nat → List Nat) (Nt98 nut98 : Nat → Nat) (v1 : Int), IV τ98 pl gq ci gr nc ot LLt98 Nt98 nut98 → Fx [1, 64, 512, 590, 708] gr σ τ98 → Ext τ66 τ98 → NU nu nut98 → Hn (gD σ) [11, 12, 13, 50, 60, 61, 62, 63, 64, 65, 66, 67] [] gq LL LLt98 N Nt98 → ((0 ≤ v1 ∧ v1 ≤ 4) ∧ Zr Nt98 60 v1 ∧ Zr Nt98 64 v1 ∧ (Nt98 11 = 0 ∧ Nt98 12 = 0 ∧ Nt98 13 = 0 ∧ Nt98 50 = 0) ∧ Nt98 1 = N 1) → ((4 - v1).toNat) < fu98 → wl_X9_empty_98 th Q X fu98 τ98 v1 := by
                intro fu98
                induction fu98 with
                | zero => intro _ _ _ _ _ _ _ _ _ _ _ h9; omega
                | succ fu98 ih98 =>
                  intro τ98 LLt98 Nt98 nut98 v1 iτ98 fτ98 xτ98 nu_τ98 hnτ98 hi98 hm98
                  have nτ98_3 := hnτ98.2.2 3 (by first | decide | (simp; done) | (simp only [List.mem_cons, List.mem_nil_iff, or_false, not_or]; omega)) (by first | decide | omega) (by first | decide | omega) (by first | decide | omega)
                  have nτ98_5 := hnτ98.2.2 5 (by first | decide | (simp; done) | (simp only [List.mem_cons, List.mem_nil_iff, or_false, not_or]; omega)) (by first | decide | omega) (by first | decide | omega) (by first | decide | omega)
                  have nτ98_14 := hnτ98.2.2 14 (by first | decide | (simp; done) | (simp only [List.mem_cons, List.mem_nil_iff, or_false, not_or]; omega)) (by first | decide | omega) (by first | decide | omega) (by first | decide | omega)
                  have nτ98_44 := hnτ98.2.2 44 (by first | decide | (simp; done) | (simp only [List.mem_cons, List.mem_nil_iff, or_false, not_or]; omega)) (by first | decide | omega) (by first | decide | omega) (by first | decide | omega)
                  have nτ98_74 := hnτ98.2.2 74 (by first | decide | (simp; done) | (simp only [List.mem_cons, List.mem_nil_iff, or_false, not_or]; omega)) (by first | decide | omega) (by first | decide | omega) (by first | decide | omega)
                  have uτ98_0 := nu_τ98.1 0 (by decide)
                  have uτ98_1 := nu_τ98.1 1 (by decide)
                  have uτ98_2 := nu_τ98.2
                  have uτ98_5 := nu_τ98.1 5 (by decide)
                  have uτ98_15 := nu_τ98.1 15 (by decide)
                  have uτ98_16 := nu_τ98.1 16 (by decide)
                  unfold wl_X9_empty_98
                  have kp8 : gI τ98 th 10 = gI τ66 th 10 := (fτ98.O kth (by decide)).1.trans (fτ66.O kth (by decide)).1.symm
                  have kp9 : gI τ98 th 11 = gI τ66 th 11 := (fτ98.O kth (by decide)).1.trans (fτ66.O kth (by decide)).1.symm
                  unfold w_X9_empty_98
                  by_cases hc10 : v1 ≥ 4
                  · rw [if_pos hc10]
                    unfold w_X9_empty_135
                    have z60 := hi98.2.1.four (by omega)
                    have z64 := hi98.2.2.1.four (by omega)
                    simp only [Nat.reduceAdd] at z60 z64
                    intro σ48 eσ48
                    have xσ48 : Ext τ98 σ48 := by rw [eσ48]; exact fun _ h => ⟨h, rfl, rfl⟩
                    have iσ48 : IV σ48 pl gq ci gr nc ot LLt98 Nt98 nut98 := by rw [eσ48]; exact iτ98.boxd (kth.up (xτ2.trans (xτ66.trans xτ98))) (by omega) (by omega)
                    have fσ48 : Fx [1, 64, 512, 590, 708] gr σ σ48 := fτ98.tr (Sk.fx (by rw [eσ48]; exact Sk.pI (by rw [fcdO (kth.up (xτ2.trans (xτ66.trans xτ98))) (by decide)]; decide)))
                    have wσ48 : gI σ48 th 14 = 0 := by rw [eσ48]; exact up2_s _ _ _ _
                    have kp11 : gI σ48 th 10 = gI τ98 th 10 := by rw [eσ48]; exact up2_n _ _ (fun q => absurd q.2 (by decide))
                    have kp12 : gI σ48 th 11 = gI τ98 th 11 := by rw [eσ48]; exact up2_n _ _ (fun q => absurd q.2 (by decide))
                    obtain ⟨b, eb, fb⟩ := P_9_1 iσ48.1 (kth.up (xτ2.trans (xτ66.trans (xτ98.trans xσ48))))
                    have mb : kO σ48 b 11 := iσ48.1.kd (kth.up (xτ2.trans (xτ66.trans (xτ98.trans xσ48)))) rfl eb rfl
                    refine ⟨b, eb, fun kk_b => ?_⟩
                    intro σ50 eσ50
                    have xσ50 : Ext σ48 σ50 := by rw [eσ50]; exact fun _ h => ⟨h, rfl, rfl⟩
                    have iσ50 : IV σ50 pl gq ci gr nc ot LLt98 Nt98 nut98 := by rw [eσ50]; exact iσ48.rec1 mb (by omega) (by omega) (by omega)
                    have fσ50 : Fx [1, 64, 512, 590, 708] gr σ σ50 := fσ48.tr (Sk.fx (by rw [eσ50]; exact Sk.pI (by rw [fcdO mb (by decide)]; decide)))
                    have wσ50 : gI σ50 b 4 = 0 := by rw [eσ50]; exact up2_s _ _ _ _
                    have kp13 : gI σ50 th 10 = gI σ48 th 10 := by rw [eσ50]; exact up2_n _ _ (fun q => absurd q.2 (by decide))
                    have kp14 : gI σ50 th 11 = gI σ48 th 11 := by rw [eσ50]; exact up2_n _ _ (fun q => absurd q.2 (by decide))
                    have kp15 : gI σ50 th 14 = gI σ48 th 14 := by rw [eσ50]; exact up2_n _ _ (fun q => absurd q.2 (by decide))
                    have kp16 : gP σ50 th 1 = gP σ48 th 1 := by rw [eσ50]
                    exact hQ σ50 LLt98 Nt98 nut98 () iσ50 fσ50 (nu_τ98) hnτ98 (by (first | omega | with_reducible assumption | with_reducible exact rng_toInt _ | with_reducible exact rng_wr _ | (unfold rng; omega) | (unfold rng at *; omega) | assumption))
                  · rw [if_neg hc10]
                    unfold w_X9_empty_103
                    obtain ⟨b_1, eb_1, fb_1⟩ := P_9_6 iτ98.1 (kth.up (xτ2.trans (xτ66.trans xτ98)))
                    have mb_1 : kO τ98 b_1 111 := iτ98.1.kd (kth.up (xτ2.trans (xτ66.trans xτ98))) rfl eb_1 rfl
                    refine ⟨b_1, eb_1, fun kk_b_1 => ?_⟩
                    refine ⟨⟨by (first | omega | with_reducible assumption | with_reducible exact rng_toInt _ | with_reducible exact rng_wr _ | (unfold rng; omega) | (unfold rng at *; omega) | assumption), by (first | omega | with_reducible assumption | with_reducible exact rng_toInt _ | with_reducible exact rng_wr _ | (unfold rng; omega) | (unfold rng at *; omega) | assumption)⟩, ?_⟩
                    obtain ⟨b_2, eb_2⟩ := P_9_0 iτ98.1 (kth.up (xτ2.trans (xτ66.trans xτ98)))
                    refine ⟨b_2, eb_2, fun kk_b_2 => ?_⟩
                    obtain ⟨b_3, eb_3⟩ := P_111 iτ98.1 mb_1 (k := v1.toNat) (by (first | omega | with_reducible assumption | with_reducible exact rng_toInt _ | with_reducible exact rng_wr _ | (unfold rng; omega) | (unfold rng at *; omega) | assumption))
                    have fb_3 := T_111 iτ98.1 mb_1 eb_3
                    have mb_3 : kO τ98 b_3 1 := iτ98.1.kd mb_1 rfl eb_3 rfl
                    refine i_X8_releaseAll (G0 := (60 + v1.toNat)) iτ98 kk_b_2 eb_3 mb_3 (by omega) (by omega) (fun σ43 LLσ43 Nσ43 nuσ43 _ iσ43 cσ43 uσ43 hσ43 pσ43 => ?_)
                    intro xσ43
                    have fσ43 : Fx [1, 64, 512, 590, 708] gr σ σ43 := fτ98.tr (cσ43.mo (by decide))
                    have hnσ43 : Hn (gD σ) [11, 12, 13, 50, 60, 61, 62, 63, 64, 65, 66, 67] [] gq LL LLσ43 N Nσ43 := hnτ98.go hσ43 (fun d hd => (fτ98.1 d hd).1) (by first | decide | exact fun _ h => h | (simp; done) | (intro x hx; simp only [List.mem_cons, List.mem_nil_iff, or_false] at hx ⊢; omega)) (fun d hd => absurd hd (by simp))
                    have nσ43_11 := hσ43.2.2 11 (by first | decide | (simp; done) | (simp only [List.mem_cons, List.mem_nil_iff, or_false, not_or]; omega)) (by first | decide | omega) (by first | decide | omega) (by first | decide | omega)
                    have nσ43_12 := hσ43.2.2 12 (by first | decide | (simp; done) | (simp only [List.mem_cons, List.mem_nil_iff, or_false, not_or]; omega)) (by first | decide | omega) (by first | decide | omega) (by first | decide | omega)
                    have nσ43_13 := hσ43.2.2 13 (by first | decide | (simp; done) | (simp only [List.mem_cons, List.mem_nil_iff, or_false, not_or]; omega)) (by first | decide | omega) (by first | decide | omega) (by first | decide | omega)
                    have nσ43_50 := hσ43.2.2 50 (by first | decide | (simp; done) | (simp only [List.mem_cons, List.mem_nil_iff, or_false, not_or]; omega)) (by first | decide | omega) (by first | decide | omega) (by first | decide | omega)
                    have nσ43_3 := hσ43.2.2 3 (by first | decide | (simp; done) | (simp only [List.mem_cons, List.mem_nil_iff, or_false, not_or]; omega)) (by first | decide | omega) (by first | decide | omega) (by first | decide | omega)
                    have nσ43_5 := hσ43.2.2 5 (by first | decide | (simp; done) | (simp only [List.mem_cons, List.mem_nil_iff, or_false, not_or]; omega)) (by first | decide | omega) (by first | decide | omega) (by first | decide | omega)
                    have nσ43_14 := hσ43.2.2 14 (by first | decide | (simp; done) | (simp only [List.mem_cons, List.mem_nil_iff, or_false, not_or]; omega)) (by first | decide | omega) (by first | decide | omega) (by first | decide | omega)
                    have nσ43_44 := hσ43.2.2 44 (by first | decide | (simp; done) | (simp only [List.mem_cons, List.mem_nil_iff, or_false, not_or]; omega)) (by first | decide | omega) (by first | decide | omega) (by first | decide | omega)
                    have nσ43_74 := hσ43.2.2 74 (by first | decide | (simp; done) | (simp only [List.mem_cons, List.mem_nil_iff, or_false, not_or]; omega)) (by first | decide | omega) (by first | decide | omega) (by first | decide | omega)
                    have nu_σ43 : NU nu nuσ43 := nu_τ98.tr uσ43
                    have uσ43_0 := uσ43.1 0 (by decide)
                    have uσ43_1 := uσ43.1 1 (by decide)
                    have uσ43_2 := uσ43.2
                    have uσ43_5 := uσ43.1 5 (by decide)
                    have uσ43_15 := uσ43.1 15 (by decide)
                    have uσ43_16 := uσ43.1 16 (by decide)
                    have kp17 : gI σ43 th 10 = gI τ98 th 10 := (cσ43.O (kth.up (xτ2.trans (xτ66.trans xτ98))) (by decide)).1
                    have kp18 : gI σ43 th 11 = gI τ98 th 11 := (cσ43.O (kth.up (xτ2.trans (xτ66.trans xτ98))) (by decide)).1
                    have kp19 : gP σ43 b_1 v1.toNat = gP τ98 b_1 v1.toNat := (cσ43.A mb_1 (by decide)).2.1
                    have kp20 : gP σ43 th 0 = gP τ98 th 0 := (cσ43.O (kth.up (xτ2.trans (xτ66.trans xτ98))) (by decide)).2.1
                    have kp21 : gP σ43 th 6 = gP τ98 th 6 := (cσ43.O (kth.up (xτ2.trans (xτ66.trans xτ98))) (by decide)).2.1
                    have onσ43 := iτ98.one (G := 60 + v1.toNat) mb_3 (by omega) (by rcases (show v1.toNat = 0 ∨ v1.toNat = 1 ∨ v1.toNat = 2 ∨ v1.toNat = 3 by omega) with e | e | e | e <;> rw [e] <;> decide)
                    have znσ43 : Nσ43 (60 + v1.toNat) = 0 := by omega
                    have Z1 := hi98.2.1.up (by omega) (fun j hj => hσ43.2.2 (60 + j) (by simp only [List.mem_cons, List.mem_nil_iff, or_false]; omega) (by omega) (by omega) (by omega)) znσ43
                    have Z2 := hi98.2.2.1.keep (fun j hj => hσ43.2.2 (64 + j) (by simp only [List.mem_cons, List.mem_nil_iff, or_false]; omega) (by omega) (by omega) (by omega))
                    obtain ⟨b_4, eb_4, fb_4⟩ := P_9_7 iσ43.1 (kth.up (xτ2.trans (xτ66.trans (xτ98.trans xσ43))))
                    have mb_4 : kO σ43 b_4 111 := iσ43.1.kd (kth.up (xτ2.trans (xτ66.trans (xτ98.trans xσ43)))) rfl eb_4 rfl
                    refine ⟨b_4, eb_4, fun kk_b_4 => ?_⟩
                    refine ⟨⟨by (first | omega | with_reducible assumption | with_reducible exact rng_toInt _ | with_reducible exact rng_wr _ | (unfold rng; omega) | (unfold rng at *; omega) | assumption), by (first | omega | with_reducible assumption | with_reducible exact rng_toInt _ | with_reducible exact rng_wr _ | (unfold rng; omega) | (unfold rng at *; omega) | assumption)⟩, ?_⟩
                    refine ⟨b_2, (kp20.trans eb_2), fun kk_b_2_1 => ?_⟩
                    obtain ⟨b_5, eb_5⟩ := P_111 iσ43.1 mb_4 (k := v1.toNat) (by (first | omega | with_reducible assumption | with_reducible exact rng_toInt _ | with_reducible exact rng_wr _ | (unfold rng; omega) | (unfold rng at *; omega) | assumption))
                    have fb_5 := T_111 iσ43.1 mb_4 eb_5
                    have mb_5 : kO σ43 b_5 1 := iσ43.1.kd mb_4 rfl eb_5 rfl
                    refine i_X8_releaseAll (G0 := (64 + v1.toNat)) iσ43 (kk_b_2.up xσ43) eb_5 mb_5 (by omega) (by omega) (fun σ46 LLσ46 Nσ46 nuσ46 _ iσ46 cσ46 uσ46 hσ46 pσ46 => ?_)
                    intro xσ46
                    have fσ46 : Fx [1, 64, 512, 590, 708] gr σ σ46 := fσ43.tr (cσ46.mo (by decide))
                    have hnσ46 : Hn (gD σ) [11, 12, 13, 50, 60, 61, 62, 63, 64, 65, 66, 67] [] gq LL LLσ46 N Nσ46 := hnσ43.go hσ46 (fun d hd => (fσ43.1 d hd).1) (by first | decide | exact fun _ h => h | (simp; done) | (intro x hx; simp only [List.mem_cons, List.mem_nil_iff, or_false] at hx ⊢; omega)) (fun d hd => absurd hd (by simp))
                    have nσ46_11 := hσ46.2.2 11 (by first | decide | (simp; done) | (simp only [List.mem_cons, List.mem_nil_iff, or_false, not_or]; omega)) (by first | decide | omega) (by first | decide | omega) (by first | decide | omega)
                    have nσ46_12 := hσ46.2.2 12 (by first | decide | (simp; done) | (simp only [List.mem_cons, List.mem_nil_iff, or_false, not_or]; omega)) (by first | decide | omega) (by first | decide | omega) (by first | decide | omega)
                    have nσ46_13 := hσ46.2.2 13 (by first | decide | (simp; done) | (simp only [List.mem_cons, List.mem_nil_iff, or_false, not_or]; omega)) (by first | decide | omega) (by first | decide | omega) (by first | decide | omega)
                    have nσ46_50 := hσ46.2.2 50 (by first | decide | (simp; done) | (simp only [List.mem_cons, List.mem_nil_iff, or_false, not_or]; omega)) (by first | decide | omega) (by first | decide | omega) (by first | decide | omega)
                    have nσ46_3 := hσ46.2.2 3 (by first | decide | (simp; done) | (simp only [List.mem_cons, List.mem_nil_iff, or_false, not_or]; omega)) (by first | decide | omega) (by first | decide | omega) (by first | decide | omega)
                    have nσ46_5 := hσ46.2.2 5 (by first | decide | (simp; done) | (simp only [List.mem_cons, List.mem_nil_iff, or_false, not_or]; omega)) (by first | decide | omega) (by first | decide | omega) (by first | decide | omega)
                    have nσ46_14 := hσ46.2.2 14 (by first | decide | (simp; done) | (simp only [List.mem_cons, List.mem_nil_iff, or_false, not_or]; omega)) (by first | decide | omega) (by first | decide | omega) (by first | decide | omega)
                    have nσ46_44 := hσ46.2.2 44 (by first | decide | (simp; done) | (simp only [List.mem_cons, List.mem_nil_iff, or_false, not_or]; omega)) (by first | decide | omega) (by first | decide | omega) (by first | decide | omega)
                    have nσ46_74 := hσ46.2.2 74 (by first | decide | (simp; done) | (simp only [List.mem_cons, List.mem_nil_iff, or_false, not_or]; omega)) (by first | decide | omega) (by first | decide | omega) (by first | decide | omega)
                    have nu_σ46 : NU nu nuσ46 := nu_σ43.tr uσ46
                    have uσ46_0 := uσ46.1 0 (by decide)
                    have uσ46_1 := uσ46.1 1 (by decide)
                    have uσ46_2 := uσ46.2
                    have uσ46_5 := uσ46.1 5 (by decide)
                    have uσ46_15 := uσ46.1 15 (by decide)
                    have uσ46_16 := uσ46.1 16 (by decide)
                    have kp22 : gI σ46 th 10 = gI σ43 th 10 := (cσ46.O (kth.up (xτ2.trans (xτ66.trans (xτ98.trans xσ43)))) (by decide)).1
                    have kp23 : gI σ46 th 11 = gI σ43 th 11 := (cσ46.O (kth.up (xτ2.trans (xτ66.trans (xτ98.trans xσ43)))) (by decide)).1
                    have kp24 : gP σ46 b_1 v1.toNat = gP σ43 b_1 v1.toNat := (cσ46.A (mb_1.up xσ43) (by decide)).2.1
                    have kp25 : gP σ46 b_4 v1.toNat = gP σ43 b_4 v1.toNat := (cσ46.A mb_4 (by decide)).2.1
                    have kp26 : gP σ46 th 0 = gP σ43 th 0 := (cσ46.O (kth.up (xτ2.trans (xτ66.trans (xτ98.trans xσ43)))) (by decide)).2.1
                    have kp27 : gP σ46 th 6 = gP σ43 th 6 := (cσ46.O (kth.up (xτ2.trans (xτ66.trans (xτ98.trans xσ43)))) (by decide)).2.1
                    have kp28 : gP σ46 th 7 = gP σ43 th 7 := (cσ46.O (kth.up (xτ2.trans (xτ66.trans (xτ98.trans xσ43)))) (by decide)).2.1
                    have onσ46 := iσ43.one (G := 64 + v1.toNat) mb_5 (by omega) (by rcases (show v1.toNat = 0 ∨ v1.toNat = 1 ∨ v1.toNat = 2 ∨ v1.toNat = 3 by omega) with e | e | e | e <;> rw [e] <;> decide)
                    have znσ46 : Nσ46 (64 + v1.toNat) = 0 := by omega
                    have Z3 := Z2.up (by omega) (fun j hj => hσ46.2.2 (64 + j) (by simp only [List.mem_cons, List.mem_nil_iff, or_false]; omega) (by omega) (by omega) (by omega)) znσ46
                    have Z4 := Z1.keep (fun j hj => hσ46.2.2 (60 + j) (by simp only [List.mem_cons, List.mem_nil_iff, or_false]; omega) (by omega) (by omega) (by omega))
                    refine ⟨by (first | omega | with_reducible assumption | with_reducible exact rng_toInt _ | with_reducible exact rng_wr _ | (unfold rng; omega) | (unfold rng at *; omega) | assumption), ?_⟩
                    exact ih98 σ46 LLσ46 Nσ46 nuσ46 (v1 + 1) iσ46 fσ46 (xτ98.trans (xσ43.trans xσ46)) nu_σ46 hnσ46 (⟨by omega, Z4, Z3, by omega, by omega⟩) (by (first | omega | with_reducible assumption | with_reducible exact rng_toInt _ | with_reducible exact rng_wr _ | (unfold rng; omega) | (unfold rng at *; omega) | assumption))
              exact ⟨_, Lp98 _ τ66 LLt66 Nt66 nut66 _ iτ66 fτ66 (Ext.rfl' _) nu_τ66 hnτ66 (⟨by omega, Zr.z, Zr.z, ⟨by omega, by omega, by omega, iτ66.em0 (by decide) (hi66.2.1.all iτ66 (by decide) (fun x _ hq hL => by have := iτ66.pl50 hq hL; omega))⟩, by omega⟩) (Nat.lt_succ_self _)⟩
            · rw [if_neg hc5]
              unfold w_X9_empty_74
              obtain ⟨b_6, eb_6, fb_6⟩ := P_9_4 iτ66.1 (kth.up (xτ2.trans xτ66))
              have mb_6 : kO τ66 b_6 112 := iτ66.1.kd (kth.up (xτ2.trans xτ66)) rfl eb_6 rfl
              refine ⟨b_6, eb_6, fun kk_b_6 => ?_⟩
              refine ⟨⟨by (first | omega | with_reducible assumption | with_reducible exact rng_toInt _ | with_reducible exact rng_wr _ | (unfold rng; omega) | (unfold rng at *; omega) | assumption), by (first | omega | with_reducible assumption | with_reducible exact rng_toInt _ | with_reducible exact rng_wr _ | (unfold rng; omega) | (unfold rng at *; omega) | assumption)⟩, ?_⟩
              have n16b_7 := iτ66.n16
              obtain ⟨b_7, eb_7, mb_7, fb_7⟩ := P_112 iτ66 mb_6 (k := v1.toNat) (by (first | omega | with_reducible assumption | with_reducible exact rng_toInt _ | with_reducible exact rng_wr _ | (unfold rng; omega) | (unfold rng at *; omega) | assumption))
              refine ⟨b_7, eb_7, fun kk_b_7 => ?_⟩
              obtain ⟨b_8, eb_8⟩ := P_9_0 iτ66.1 (kth.up (xτ2.trans xτ66))
              refine ⟨b_8, eb_8, fun kk_b_8 => ?_⟩
              obtain ⟨b_9, eb_9, fb_9⟩ := P_2_0 iτ66.1 mb_7
              have mb_9 : kO τ66 b_9 1 := iτ66.1.kd mb_7 rfl eb_9 rfl
              refine i_X8_releaseAll (G0 := 50) iτ66 kk_b_8 eb_9 mb_9 (by omega) (by omega) (fun σ40 LLσ40 Nσ40 nuσ40 _ iσ40 cσ40 uσ40 hσ40 pσ40 => ?_)
              intro xσ40
              have fσ40 : Fx [1, 64, 512, 590, 708] gr σ σ40 := fτ66.tr (cσ40.mo (by decide))
              have hnσ40 : Hn (gD σ) [11, 12, 13, 50, 60, 61, 62, 63, 64, 65, 66, 67] [] gq LL LLσ40 N Nσ40 := hnτ66.go hσ40 (fun d hd => (fτ66.1 d hd).1) (by first | decide | exact fun _ h => h | (simp; done) | (intro x hx; simp only [List.mem_cons, List.mem_nil_iff, or_false] at hx ⊢; omega)) (fun d hd => absurd hd (by simp))
              have nσ40_11 := hσ40.2.2 11 (by first | decide | (simp; done) | (simp only [List.mem_cons, List.mem_nil_iff, or_false, not_or]; omega)) (by first | decide | omega) (by first | decide | omega) (by first | decide | omega)
              have nσ40_12 := hσ40.2.2 12 (by first | decide | (simp; done) | (simp only [List.mem_cons, List.mem_nil_iff, or_false, not_or]; omega)) (by first | decide | omega) (by first | decide | omega) (by first | decide | omega)
              have nσ40_13 := hσ40.2.2 13 (by first | decide | (simp; done) | (simp only [List.mem_cons, List.mem_nil_iff, or_false, not_or]; omega)) (by first | decide | omega) (by first | decide | omega) (by first | decide | omega)
              have nσ40_3 := hσ40.2.2 3 (by first | decide | (simp; done) | (simp only [List.mem_cons, List.mem_nil_iff, or_false, not_or]; omega)) (by first | decide | omega) (by first | decide | omega) (by first | decide | omega)
              have nσ40_5 := hσ40.2.2 5 (by first | decide | (simp; done) | (simp only [List.mem_cons, List.mem_nil_iff, or_false, not_or]; omega)) (by first | decide | omega) (by first | decide | omega) (by first | decide | omega)
              have nσ40_14 := hσ40.2.2 14 (by first | decide | (simp; done) | (simp only [List.mem_cons, List.mem_nil_iff, or_false, not_or]; omega)) (by first | decide | omega) (by first | decide | omega) (by first | decide | omega)
              have nσ40_44 := hσ40.2.2 44 (by first | decide | (simp; done) | (simp only [List.mem_cons, List.mem_nil_iff, or_false, not_or]; omega)) (by first | decide | omega) (by first | decide | omega) (by first | decide | omega)
              have nσ40_74 := hσ40.2.2 74 (by first | decide | (simp; done) | (simp only [List.mem_cons, List.mem_nil_iff, or_false, not_or]; omega)) (by first | decide | omega) (by first | decide | omega) (by first | decide | omega)
              have nu_σ40 : NU nu nuσ40 := nu_τ66.tr uσ40
              have uσ40_0 := uσ40.1 0 (by decide)
              have uσ40_1 := uσ40.1 1 (by decide)
              have uσ40_2 := uσ40.2
              have uσ40_5 := uσ40.1 5 (by decide)
              have uσ40_15 := uσ40.1 15 (by decide)
              have uσ40_16 := uσ40.1 16 (by decide)
              have kp29 : gI σ40 th 10 = gI τ66 th 10 := (cσ40.O (kth.up (xτ2.trans xτ66)) (by decide)).1
              have kp30 : gI σ40 th 11 = gI τ66 th 11 := (cσ40.O (kth.up (xτ2.trans xτ66)) (by decide)).1
              have kp31 : gP σ40 b_6 v1.toNat = gP τ66 b_6 v1.toNat := (cσ40.A mb_6 (by decide)).2.1
              have kp32 : gP σ40 b_7 0 = gP τ66 b_7 0 := (cσ40.O mb_7 (by decide)).2.1
              have kp33 : gP σ40 th 0 = gP τ66 th 0 := (cσ40.O (kth.up (xτ2.trans xτ66)) (by decide)).2.1
              have kp34 : gP σ40 th 4 = gP τ66 th 4 := (cσ40.O (kth.up (xτ2.trans xτ66)) (by decide)).2.1
              have E1 := hi66.2.1.step iτ66 (by decide) mb_9 (by omega) (by omega) pσ40.1 pσ40.2.1
              refine ⟨by (first | omega | with_reducible assumption | with_reducible exact rng_toInt _ | with_reducible exact rng_wr _ | (unfold rng; omega) | (unfold rng at *; omega) | assumption), ?_⟩
              exact ih66 σ40 LLσ40 Nσ40 nuσ40 (v1 + 1) iσ40 fσ40 (xτ66.trans xσ40) nu_σ40 hnσ40 (⟨by omega, E1, by omega, by omega, by omega, by omega⟩) (by (first | omega | with_reducible assumption | with_reducible exact rng_toInt _ | with_reducible exact rng_wr _ | (unfold rng; omega) | (unfold rng at *; omega) | assumption))
        exact ⟨_, Lp66 _ τ2 LLt2 Nt2 nut2 _ iτ2 fτ2 (Ext.rfl' _) nu_τ2 hnτ2 (⟨by omega, Em.z, iτ2.em0 (by decide) (hi2.2.1.all iτ2 (by decide) (fun x _ hq hL => by have := iτ2.pl1 (by omega) hL; omega)), iτ2.em0 (by decide) (hi2.2.2.1.all iτ2 (by decide) (fun x _ hq hL => by have := iτ2.pl1 (by omega) hL; omega)), iτ2.em0 (by decide) (hi2.2.2.2.1.all iτ2 (by decide) (fun x _ hq hL => by have := iτ2.pl1 (by omega) hL; omega)), hi2.2.2.2.2⟩) (Nat.lt_succ_self _)⟩
      · rw [if_neg hc1]
        unfold w_X9_empty_10
        obtain ⟨b_10, eb_10, fb_10⟩ := P_9_3 iτ2.1 (kth.up xτ2)
        have mb_10 : kO τ2 b_10 120 := iτ2.1.kd (kth.up xτ2) rfl eb_10 rfl
        refine ⟨b_10, eb_10, fun kk_b_10 => ?_⟩
        refine ⟨⟨by (first | omega | with_reducible assumption | with_reducible exact rng_toInt _ | with_reducible exact rng_wr _ | (unfold rng; omega) | (unfold rng at *; omega) | assumption), by (first | omega | with_reducible assumption | with_reducible exact rng_toInt _ | with_reducible exact rng_wr _ | (unfold rng; omega) | (unfold rng at *; omega) | assumption)⟩, ?_⟩
        have n16b_11 := iτ2.n16
        obtain ⟨b_11, eb_11, mb_11, fb_11⟩ := P_120 iτ2 mb_10 (by omega) (k := v1.toNat) (by (first | omega | with_reducible assumption | with_reducible exact rng_toInt _ | with_reducible exact rng_wr _ | (unfold rng; omega) | (unfold rng at *; omega) | assumption))
        refine ⟨b_11, eb_11, fun kk_b_11 => ?_⟩
        obtain ⟨b_12, eb_12⟩ := P_9_0 iτ2.1 (kth.up xτ2)
        refine ⟨b_12, eb_12, fun kk_b_12 => ?_⟩
        obtain ⟨b_13, eb_13, fb_13⟩ := P_10_2 iτ2.1 mb_11
        have mb_13 : kO τ2 b_13 1 := iτ2.1.kd mb_11 rfl eb_13 rfl
        refine i_X8_releaseAll (G0 := 11) iτ2 kk_b_12 eb_13 mb_13 (by omega) (by omega) (fun σ28 LLσ28 Nσ28 nuσ28 _ iσ28 cσ28 uσ28 hσ28 pσ28 => ?_)
        intro xσ28
        have fσ28 : Fx [1, 64, 512, 590, 708] gr σ σ28 := fτ2.tr (cσ28.mo (by decide))
        have hnσ28 : Hn (gD σ) [11, 12, 13, 50, 60, 61, 62, 63, 64, 65, 66, 67] [] gq LL LLσ28 N Nσ28 := hnτ2.go hσ28 (fun d hd => (fτ2.1 d hd).1) (by first | decide | exact fun _ h => h | (simp; done) | (intro x hx; simp only [List.mem_cons, List.mem_nil_iff, or_false] at hx ⊢; omega)) (fun d hd => absurd hd (by simp))
        have nσ28_12 := hσ28.2.2 12 (by first | decide | (simp; done) | (simp only [List.mem_cons, List.mem_nil_iff, or_false, not_or]; omega)) (by first | decide | omega) (by first | decide | omega) (by first | decide | omega)
        have nσ28_13 := hσ28.2.2 13 (by first | decide | (simp; done) | (simp only [List.mem_cons, List.mem_nil_iff, or_false, not_or]; omega)) (by first | decide | omega) (by first | decide | omega) (by first | decide | omega)
        have nσ28_50 := hσ28.2.2 50 (by first | decide | (simp; done) | (simp only [List.mem_cons, List.mem_nil_iff, or_false, not_or]; omega)) (by first | decide | omega) (by first | decide | omega) (by first | decide | omega)
        have nσ28_3 := hσ28.2.2 3 (by first | decide | (simp; done) | (simp only [List.mem_cons, List.mem_nil_iff, or_false, not_or]; omega)) (by first | decide | omega) (by first | decide | omega) (by first | decide | omega)
        have nσ28_5 := hσ28.2.2 5 (by first | decide | (simp; done) | (simp only [List.mem_cons, List.mem_nil_iff, or_false, not_or]; omega)) (by first | decide | omega) (by first | decide | omega) (by first | decide | omega)
        have nσ28_14 := hσ28.2.2 14 (by first | decide | (simp; done) | (simp only [List.mem_cons, List.mem_nil_iff, or_false, not_or]; omega)) (by first | decide | omega) (by first | decide | omega) (by first | decide | omega)
        have nσ28_44 := hσ28.2.2 44 (by first | decide | (simp; done) | (simp only [List.mem_cons, List.mem_nil_iff, or_false, not_or]; omega)) (by first | decide | omega) (by first | decide | omega) (by first | decide | omega)
        have nσ28_74 := hσ28.2.2 74 (by first | decide | (simp; done) | (simp only [List.mem_cons, List.mem_nil_iff, or_false, not_or]; omega)) (by first | decide | omega) (by first | decide | omega) (by first | decide | omega)
        have nu_σ28 : NU nu nuσ28 := nu_τ2.tr uσ28
        have uσ28_0 := uσ28.1 0 (by decide)
        have uσ28_1 := uσ28.1 1 (by decide)
        have uσ28_2 := uσ28.2
        have uσ28_5 := uσ28.1 5 (by decide)
        have uσ28_15 := uσ28.1 15 (by decide)
        have uσ28_16 := uσ28.1 16 (by decide)
        have kp35 : gI σ28 th 10 = gI τ2 th 10 := (cσ28.O (kth.up xτ2) (by decide)).1
        have kp36 : gP σ28 b_10 v1.toNat = gP τ2 b_10 v1.toNat := (cσ28.A mb_10 (by decide)).2.1
        have kp37 : gP σ28 b_11 2 = gP τ2 b_11 2 := (cσ28.O mb_11 (by decide)).2.1
        have kp38 : gP σ28 th 0 = gP τ2 th 0 := (cσ28.O (kth.up xτ2) (by decide)).2.1
        have kp39 : gP σ28 th 3 = gP τ2 th 3 := (cσ28.O (kth.up xτ2) (by decide)).2.1
        have E1 := hi2.2.1.step iτ2 (by decide) mb_13 (by omega) (by omega) pσ28.1 pσ28.2.1
        have E2 := hi2.2.2.1.oth (c := b_13) (by omega) pσ28.2.1 (by decide)
        have E3 := hi2.2.2.2.1.oth (c := b_13) (by omega) pσ28.2.1 (by decide)
        refine ⟨b_10, (kp39.trans eb_10), fun kk_b_10_1 => ?_⟩
        have q40 := (xσ28 b_10 mb_10.1).2.2
        refine ⟨⟨by (first | omega | with_reducible assumption | with_reducible exact rng_toInt _ | with_reducible exact rng_wr _ | (unfold rng; omega) | (unfold rng at *; omega) | assumption), by (first | omega | with_reducible assumption | with_reducible exact rng_toInt _ | with_reducible exact rng_wr _ | (unfold rng; omega) | (unfold rng at *; omega) | assumption)⟩, ?_⟩
        refine ⟨b_11, (kp36.trans eb_11), fun kk_b_11_1 => ?_⟩
        refine ⟨b_12, (kp38.trans eb_12), fun kk_b_12_1 => ?_⟩
        obtain ⟨b_14, eb_14, fb_14⟩ := P_10_3 iσ28.1 (mb_11.up xσ28)
        have mb_14 : kO σ28 b_14 1 := iσ28.1.kd (mb_11.up xσ28) rfl eb_14 rfl
        refine i_X8_releaseAll (G0 := 12) iσ28 (kk_b_12.up xσ28) eb_14 mb_14 (by omega) (by omega) (fun σ32 LLσ32 Nσ32 nuσ32 _ iσ32 cσ32 uσ32 hσ32 pσ32 => ?_)
        intro xσ32
        have fσ32 : Fx [1, 64, 512, 590, 708] gr σ σ32 := fσ28.tr (cσ32.mo (by decide))
        have hnσ32 : Hn (gD σ) [11, 12, 13, 50, 60, 61, 62, 63, 64, 65, 66, 67] [] gq LL LLσ32 N Nσ32 := hnσ28.go hσ32 (fun d hd => (fσ28.1 d hd).1) (by first | decide | exact fun _ h => h | (simp; done) | (intro x hx; simp only [List.mem_cons, List.mem_nil_iff, or_false] at hx ⊢; omega)) (fun d hd => absurd hd (by simp))
        have nσ32_11 := hσ32.2.2 11 (by first | decide | (simp; done) | (simp only [List.mem_cons, List.mem_nil_iff, or_false, not_or]; omega)) (by first | decide | omega) (by first | decide | omega) (by first | decide | omega)
        have nσ32_13 := hσ32.2.2 13 (by first | decide | (simp; done) | (simp only [List.mem_cons, List.mem_nil_iff, or_false, not_or]; omega)) (by first | decide | omega) (by first | decide | omega) (by first | decide | omega)
        have nσ32_50 := hσ32.2.2 50 (by first | decide | (simp; done) | (simp only [List.mem_cons, List.mem_nil_iff, or_false, not_or]; omega)) (by first | decide | omega) (by first | decide | omega) (by first | decide | omega)
        have nσ32_3 := hσ32.2.2 3 (by first | decide | (simp; done) | (simp only [List.mem_cons, List.mem_nil_iff, or_false, not_or]; omega)) (by first | decide | omega) (by first | decide | omega) (by first | decide | omega)
        have nσ32_5 := hσ32.2.2 5 (by first | decide | (simp; done) | (simp only [List.mem_cons, List.mem_nil_iff, or_false, not_or]; omega)) (by first | decide | omega) (by first | decide | omega) (by first | decide | omega)
        have nσ32_14 := hσ32.2.2 14 (by first | decide | (simp; done) | (simp only [List.mem_cons, List.mem_nil_iff, or_false, not_or]; omega)) (by first | decide | omega) (by first | decide | omega) (by first | decide | omega)
        have nσ32_44 := hσ32.2.2 44 (by first | decide | (simp; done) | (simp only [List.mem_cons, List.mem_nil_iff, or_false, not_or]; omega)) (by first | decide | omega) (by first | decide | omega) (by first | decide | omega)
        have nσ32_74 := hσ32.2.2 74 (by first | decide | (simp; done) | (simp only [List.mem_cons, List.mem_nil_iff, or_false, not_or]; omega)) (by first | decide | omega) (by first | decide | omega) (by first | decide | omega)
        have nu_σ32 : NU nu nuσ32 := nu_σ28.tr uσ32
        have uσ32_0 := uσ32.1 0 (by decide)
        have uσ32_1 := uσ32.1 1 (by decide)
        have uσ32_2 := uσ32.2
        have uσ32_5 := uσ32.1 5 (by decide)
        have uσ32_15 := uσ32.1 15 (by decide)
        have uσ32_16 := uσ32.1 16 (by decide)
        have kp41 : gI σ32 th 10 = gI σ28 th 10 := (cσ32.O (kth.up (xτ2.trans xσ28)) (by decide)).1
        have kp42 : gP σ32 b_10 v1.toNat = gP σ28 b_10 v1.toNat := (cσ32.A (mb_10.up xσ28) (by decide)).2.1
        have kp43 : gP σ32 b_11 2 = gP σ28 b_11 2 := (cσ32.O (mb_11.up xσ28) (by decide)).2.1
        have kp44 : gP σ32 b_11 3 = gP σ28 b_11 3 := (cσ32.O (mb_11.up xσ28) (by decide)).2.1
        have kp45 : gP σ32 th 0 = gP σ28 th 0 := (cσ32.O (kth.up (xτ2.trans xσ28)) (by decide)).2.1
        have kp46 : gP σ32 th 3 = gP σ28 th 3 := (cσ32.O (kth.up (xτ2.trans xσ28)) (by decide)).2.1
        have E4 := E2.step iσ28 (by decide) mb_14 (by omega) (by omega) pσ32.1 pσ32.2.1
        have E5 := E1.oth (c := b_14) (by omega) pσ32.2.1 (by decide)
        have E6 := E3.oth (c := b_14) (by omega) pσ32.2.1 (by decide)
        refine ⟨b_10, (kp46.trans (kp39.trans eb_10)), fun kk_b_10_2 => ?_⟩
        have q47 := ((xσ28.trans xσ32) b_10 mb_10.1).2.2
        refine ⟨⟨by (first | omega | with_reducible assumption | with_reducible exact rng_toInt _ | with_reducible exact rng_wr _ | (unfold rng; omega) | (unfold rng at *; omega) | assumption), by (first | omega | with_reducible assumption | with_reducible exact rng_toInt _ | with_reducible exact rng_wr _ | (unfold rng; omega) | (unfold rng at *; omega) | assumption)⟩, ?_⟩
        refine ⟨b_11, (kp42.trans (kp36.trans eb_11)), fun kk_b_11_2 => ?_⟩
        refine ⟨b_12, (kp45.trans (kp38.trans eb_12)), fun kk_b_12_2 => ?_⟩
        obtain ⟨b_15, eb_15, fb_15⟩ := P_10_4 iσ32.1 (mb_11.up (xσ28.trans xσ32))
        have mb_15 : kO σ32 b_15 1 := iσ32.1.kd (mb_11.up (xσ28.trans xσ32)) rfl eb_15 rfl
        refine i_X8_releaseAll (G0 := 13) iσ32 (kk_b_12.up (xσ28.trans xσ32)) eb_15 mb_15 (by omega) (by omega) (fun σ36 LLσ36 Nσ36 nuσ36 _ iσ36 cσ36 uσ36 hσ36 pσ36 => ?_)
        intro xσ36
        have fσ36 : Fx [1, 64, 512, 590, 708] gr σ σ36 := fσ32.tr (cσ36.mo (by decide))
        have hnσ36 : Hn (gD σ) [11, 12, 13, 50, 60, 61, 62, 63, 64, 65, 66, 67] [] gq LL LLσ36 N Nσ36 := hnσ32.go hσ36 (fun d hd => (fσ32.1 d hd).1) (by first | decide | exact fun _ h => h | (simp; done) | (intro x hx; simp only [List.mem_cons, List.mem_nil_iff, or_false] at hx ⊢; omega)) (fun d hd => absurd hd (by simp))
        have nσ36_11 := hσ36.2.2 11 (by first | decide | (simp; done) | (simp only [List.mem_cons, List.mem_nil_iff, or_false, not_or]; omega)) (by first | decide | omega) (by first | decide | omega) (by first | decide | omega)
        have nσ36_12 := hσ36.2.2 12 (by first | decide | (simp; done) | (simp only [List.mem_cons, List.mem_nil_iff, or_false, not_or]; omega)) (by first | decide | omega) (by first | decide | omega) (by first | decide | omega)
        have nσ36_50 := hσ36.2.2 50 (by first | decide | (simp; done) | (simp only [List.mem_cons, List.mem_nil_iff, or_false, not_or]; omega)) (by first | decide | omega) (by first | decide | omega) (by first | decide | omega)
        have nσ36_3 := hσ36.2.2 3 (by first | decide | (simp; done) | (simp only [List.mem_cons, List.mem_nil_iff, or_false, not_or]; omega)) (by first | decide | omega) (by first | decide | omega) (by first | decide | omega)
        have nσ36_5 := hσ36.2.2 5 (by first | decide | (simp; done) | (simp only [List.mem_cons, List.mem_nil_iff, or_false, not_or]; omega)) (by first | decide | omega) (by first | decide | omega) (by first | decide | omega)
        have nσ36_14 := hσ36.2.2 14 (by first | decide | (simp; done) | (simp only [List.mem_cons, List.mem_nil_iff, or_false, not_or]; omega)) (by first | decide | omega) (by first | decide | omega) (by first | decide | omega)
        have nσ36_44 := hσ36.2.2 44 (by first | decide | (simp; done) | (simp only [List.mem_cons, List.mem_nil_iff, or_false, not_or]; omega)) (by first | decide | omega) (by first | decide | omega) (by first | decide | omega)
        have nσ36_74 := hσ36.2.2 74 (by first | decide | (simp; done) | (simp only [List.mem_cons, List.mem_nil_iff, or_false, not_or]; omega)) (by first | decide | omega) (by first | decide | omega) (by first | decide | omega)
        have nu_σ36 : NU nu nuσ36 := nu_σ32.tr uσ36
        have uσ36_0 := uσ36.1 0 (by decide)
        have uσ36_1 := uσ36.1 1 (by decide)
        have uσ36_2 := uσ36.2
        have uσ36_5 := uσ36.1 5 (by decide)
        have uσ36_15 := uσ36.1 15 (by decide)
        have uσ36_16 := uσ36.1 16 (by decide)
        have kp48 : gI σ36 th 10 = gI σ32 th 10 := (cσ36.O (kth.up (xτ2.trans (xσ28.trans xσ32))) (by decide)).1
        have kp49 : gP σ36 b_10 v1.toNat = gP σ32 b_10 v1.toNat := (cσ36.A (mb_10.up (xσ28.trans xσ32)) (by decide)).2.1
        have kp50 : gP σ36 b_11 2 = gP σ32 b_11 2 := (cσ36.O (mb_11.up (xσ28.trans xσ32)) (by decide)).2.1
        have kp51 : gP σ36 b_11 3 = gP σ32 b_11 3 := (cσ36.O (mb_11.up (xσ28.trans xσ32)) (by decide)).2.1
        have kp52 : gP σ36 b_11 4 = gP σ32 b_11 4 := (cσ36.O (mb_11.up (xσ28.trans xσ32)) (by decide)).2.1
        have kp53 : gP σ36 th 0 = gP σ32 th 0 := (cσ36.O (kth.up (xτ2.trans (xσ28.trans xσ32))) (by decide)).2.1
        have kp54 : gP σ36 th 3 = gP σ32 th 3 := (cσ36.O (kth.up (xτ2.trans (xσ28.trans xσ32))) (by decide)).2.1
        have E7 := E6.step iσ32 (by decide) mb_15 (by omega) (by omega) pσ36.1 pσ36.2.1
        have E8 := E5.oth (c := b_15) (by omega) pσ36.2.1 (by decide)
        have E9 := E4.oth (c := b_15) (by omega) pσ36.2.1 (by decide)
        refine ⟨by (first | omega | with_reducible assumption | with_reducible exact rng_toInt _ | with_reducible exact rng_wr _ | (unfold rng; omega) | (unfold rng at *; omega) | assumption), ?_⟩
        exact ih2 σ36 LLσ36 Nσ36 nuσ36 (v1 + 1) iσ36 fσ36 (xτ2.trans (xσ28.trans (xσ32.trans xσ36))) nu_σ36 hnσ36 (⟨by omega, E8, E9, E7, by omega⟩) (by (first | omega | with_reducible assumption | with_reducible exact rng_toInt _ | with_reducible exact rng_wr _ | (unfold rng; omega) | (unfold rng at *; omega) | assumption))
  exact ⟨_, Lp2 _ σ LL N nu _ iσ fσ (Ext.rfl' _) NU.rf hnσ (⟨by omega, Em.z, Em.z, Em.z, rfl⟩) (Nat.lt_succ_self _)⟩
set_option maxHeartbeats 1000000 in
theorem i_X9_end {σ : Sg} {pl : Nat} {gq ci gr nc : Nat → Nat} {ot : Nat → Nat → Int} {LL : Nat → List Nat} {N nu : Nat → Nat} {th : Nat} {D : Nat} (iσ : IV σ pl gq ci gr nc ot LL N nu) (kth : kO σ th 9) (n5 : N 5 = 0) (hD : gP σ th 2 = some D) (kD : kO σ D 3) {Q : Sg → Unit → Prop} {X : Sg → String → Prop} (hQ : ∀ (σ' : Sg) (LL' : Nat → List Nat) (N' nu' : Nat → Nat) (r : Unit), IV σ' pl gq ci gr nc ot LL' N' nu' → Fx [1, 64, 194, 195, 196, 512, 513, 586, 587, 590, 592, 593, 594, 595, 708] gr σ σ' → NW nu nu' → Hn (gD σ) [11, 12, 13, 50, 60, 61, 62, 63, 64, 65, 66, 67, 68, 69, 70, 71, 21, 22, 31, 32, 5] [] gq LL LL' N N' → ((N' 11 = 0 ∧ N' 12 = 0 ∧ N' 13 = 0 ∧ N' 50 = 0) ∧ (N' 60 = 0 ∧ N' 61 = 0 ∧ N' 62 = 0 ∧ N' 63 = 0) ∧ (N' 64 = 0 ∧ N' 65 = 0 ∧ N' 66 = 0 ∧ N' 67 = 0) ∧ (N' 68 = 0 ∧ N' 69 = 0 ∧ N' 70 = 0 ∧ N' 71 = 0) ∧ (N' 21 = 0 ∧ N' 22 = 0 ∧ N' 31 = 0 ∧ N' 32 = 0) ∧ N' 1 = N 1 ∧ N' 5 = 0 ∧ nu' 15 = 0 ∧ nu' 16 = 0 ∧ nu' 17 = 0 ∧ gI σ' th 10 = 0 ∧ gI σ' D 2 = 0) → Q σ' r) : wp_X9_end th σ Q X := by
  have fσ : Fx [1, 64, 194, 195, 196, 512, 513, 586, 587, 590, 592, 593, 594, 595, 708] gr σ σ := Fx.rf
  have hnσ : Hn (gD σ) [11, 12, 13, 50, 60, 61, 62, 63, 64, 65, 66, 67, 68, 69, 70, 71, 21, 22, 31, 32, 5] [] gq LL LL N N := Hn.rf
  unfold wp_X9_end
  unfold w_X9_end_0
  refine i_X9_empty iσ kth (fun σ15 LLσ15 Nσ15 nuσ15 _ iσ15 cσ15 uσ15 hσ15 pσ15 => ?_)
  intro xσ15
  have fσ15 : Fx [1, 64, 194, 195, 196, 512, 513, 586, 587, 590, 592, 593, 594, 595, 708] gr σ σ15 := fσ.tr (cσ15.mo (by decide))
  have hnσ15 : Hn (gD σ) [11, 12, 13, 50, 60, 61, 62, 63, 64, 65, 66, 67, 68, 69, 70, 71, 21, 22, 31, 32, 5] [] gq LL LLσ15 N Nσ15 := hnσ.go hσ15 (fun d hd => (fσ.1 d hd).1) (by first | decide | exact fun _ h => h | (simp; done) | (intro x hx; simp only [List.mem_cons, List.mem_nil_iff, or_false] at hx ⊢; omega)) (fun d hd => absurd hd (by simp))
  have nσ15_3 := hσ15.2.2 3 (by first | decide | (simp; done) | (simp only [List.mem_cons, List.mem_nil_iff, or_false, not_or]; omega)) (by first | decide | omega) (by first | decide | omega) (by first | decide | omega)
  have nσ15_5 := hσ15.2.2 5 (by first | decide | (simp; done) | (simp only [List.mem_cons, List.mem_nil_iff, or_false, not_or]; omega)) (by first | decide | omega) (by first | decide | omega) (by first | decide | omega)
  have nσ15_14 := hσ15.2.2 14 (by first | decide | (simp; done) | (simp only [List.mem_cons, List.mem_nil_iff, or_false, not_or]; omega)) (by first | decide | omega) (by first | decide | omega) (by first | decide | omega)
  have nσ15_44 := hσ15.2.2 44 (by first | decide | (simp; done) | (simp only [List.mem_cons, List.mem_nil_iff, or_false, not_or]; omega)) (by first | decide | omega) (by first | decide | omega) (by first | decide | omega)
  have nσ15_74 := hσ15.2.2 74 (by first | decide | (simp; done) | (simp only [List.mem_cons, List.mem_nil_iff, or_false, not_or]; omega)) (by first | decide | omega) (by first | decide | omega) (by first | decide | omega)
  have nu_σ15 : NW nu nuσ15 := uσ15.w
  have uσ15_0 := uσ15.1 0 (by decide)
  have uσ15_1 := uσ15.1 1 (by decide)
  have uσ15_2 := uσ15.2
  have uσ15_5 := uσ15.1 5 (by decide)
  have uσ15_15 := uσ15.1 15 (by decide)
  have uσ15_16 := uσ15.1 16 (by decide)
  have kp1 : gP σ15 th 2 = gP σ th 2 := (cσ15.O kth (by decide)).2.1
  have kp2 : gI σ15 D 2 = gI σ D 2 := (cσ15.O kD (by decide)).1
  have Lp6 : ∀ (fu6 : Nat) (τ6 : Sg) (LLt6 : Nat → List Nat) (Nt6 nut6 : Nat → Nat) (v1 : Int), IV τ6 pl gq ci gr nc ot LLt6 Nt6 nut6 → Fx [1, 64, 194, 195, 196, 512, 513, 586, 587, 590, 592, 593, 594, 595, 708] gr σ τ6 → Ext σ15 τ6 → NW nu nut6 → Hn (gD σ) [11, 12, 13, 50, 60, 61, 62, 63, 64, 65, 66, 67, 68, 69, 70, 71, 21, 22, 31, 32, 5] [] gq LL LLt6 N Nt6 → ((0 ≤ v1 ∧ v1 ≤ 4) ∧ Zr Nt6 68 v1 ∧ (Nt6 11 = 0 ∧ Nt6 12 = 0 ∧ Nt6 13 = 0 ∧ Nt6 50 = 0) ∧ (Nt6 60 = 0 ∧ Nt6 61 = 0 ∧ Nt6 62 = 0 ∧ Nt6 63 = 0) ∧ (Nt6 64 = 0 ∧ Nt6 65 = 0 ∧ Nt6 66 = 0 ∧ Nt6 67 = 0) ∧ Nt6 1 = N 1 ∧ Nt6 5 = 0) → ((4 - v1).toNat) < fu6 → wl_X9_end_6 th Q X fu6 τ6 v1 := by
    intro fu6
    induction fu6 with
    | zero => intro _ _ _ _ _ _ _ _ _ _ _ h9; omega
    | succ fu6 ih6 =>
      intro τ6 LLt6 Nt6 nut6 v1 iτ6 fτ6 xτ6 nu_τ6 hnτ6 hi6 hm6
      have nτ6_3 := hnτ6.2.2 3 (by first | decide | (simp; done) | (simp only [List.mem_cons, List.mem_nil_iff, or_false, not_or]; omega)) (by first | decide | omega) (by first | decide | omega) (by first | decide | omega)
      have nτ6_14 := hnτ6.2.2 14 (by first | decide | (simp; done) | (simp only [List.mem_cons, List.mem_nil_iff, or_false, not_or]; omega)) (by first | decide | omega) (by first | decide | omega) (by first | decide | omega)
      have nτ6_44 := hnτ6.2.2 44 (by first | decide | (simp; done) | (simp only [List.mem_cons, List.mem_nil_iff, or_false, not_or]; omega)) (by first | decide | omega) (by first | decide | omega) (by first | decide | omega)
      have nτ6_74 := hnτ6.2.2 74 (by first | decide | (simp; done) | (simp only [List.mem_cons, List.mem_nil_iff, or_false, not_or]; omega)) (by first | decide | omega) (by first | decide | omega) (by first | decide | omega)
      have uτ6_5 := nu_τ6.1 5 (by decide)
      have uτ6_0 := nu_τ6.2
      unfold wl_X9_end_6
      have kp3 : gP τ6 th 2 = gP σ th 2 := (fτ6.O kth (by decide)).2.1
      unfold w_X9_end_6
      by_cases hc4 : v1 ≥ 4
      · rw [if_pos hc4]
        unfold w_X9_end_30
        refine ⟨D, (kp3.trans hD), fun kk_D => ?_⟩
        obtain ⟨P9, eP9, fP9⟩ := P_3_0 iτ6.1 (kD.up (xσ15.trans xτ6))
        obtain ⟨S9, eS9, fS9⟩ := P_3_1 iτ6.1 (kD.up (xσ15.trans xτ6))
        have dk9 := iτ6.dk (kD.up (xσ15.trans xτ6)) eP9 eS9
        have kP9 : kO τ6 P9 120 := iτ6.1.kd (kD.up (xσ15.trans xτ6)) rfl eP9 rfl
        have kS9 : kO τ6 S9 120 := iτ6.1.kd (kD.up (xσ15.trans xτ6)) rfl eS9 rfl
        obtain ⟨b, eb⟩ := P_9_0 iτ6.1 (kth.up (xσ15.trans xτ6))
        refine i_X3_forgetMarks iτ6 (kD.up (xσ15.trans xτ6)) eb eP9 kP9 eS9 kS9 rfl rfl dk9.1 (by omega) (fun σ19 LLσ19 Nσ19 nuσ19 _ iσ19 cσ19 uσ19 hσ19 pσ19 => ?_)
        intro xσ19
        have fσ19 : Fx [1, 64, 194, 195, 196, 512, 513, 586, 587, 590, 592, 593, 594, 595, 708] gr σ σ19 := fτ6.tr (cσ19.mo (by decide))
        have hnσ19 : Hn (gD σ) [11, 12, 13, 50, 60, 61, 62, 63, 64, 65, 66, 67, 68, 69, 70, 71, 21, 22, 31, 32, 5] [] gq LL LLσ19 N Nσ19 := hnτ6.go hσ19 (fun d hd => (fτ6.1 d hd).1) (by first | decide | exact fun _ h => h | (simp; done) | (intro x hx; simp only [List.mem_cons, List.mem_nil_iff, or_false] at hx ⊢; omega)) (fun d hd => absurd hd (by simp))
        have nσ19_11 := hσ19.2.2 11 (by first | decide | (simp; done) | (simp only [List.mem_cons, List.mem_nil_iff, or_false, not_or]; omega)) (by first | decide | omega) (by first | decide | omega) (by first | decide | omega)
        have nσ19_12 := hσ19.2.2 12 (by first | decide | (simp; done) | (simp only [List.mem_cons, List.mem_nil_iff, or_false, not_or]; omega)) (by first | decide | omega) (by first | decide | omega) (by first | decide | omega)
        have nσ19_13 := hσ19.2.2 13 (by first | decide | (simp; done) | (simp only [List.mem_cons, List.mem_nil_iff, or_false, not_or]; omega)) (by first | decide | omega) (by first | decide | omega) (by first | decide | omega)
        have nσ19_50 := hσ19.2.2 50 (by first | decide | (simp; done) | (simp only [List.mem_cons, List.mem_nil_iff, or_false, not_or]; omega)) (by first | decide | omega) (by first | decide | omega) (by first | decide | omega)
        have nσ19_3 := hσ19.2.2 3 (by first | decide | (simp; done) | (simp only [List.mem_cons, List.mem_nil_iff, or_false, not_or]; omega)) (by first | decide | omega) (by first | decide | omega) (by first | decide | omega)
        have nσ19_14 := hσ19.2.2 14 (by first | decide | (simp; done) | (simp only [List.mem_cons, List.mem_nil_iff, or_false, not_or]; omega)) (by first | decide | omega) (by first | decide | omega) (by first | decide | omega)
        have nσ19_44 := hσ19.2.2 44 (by first | decide | (simp; done) | (simp only [List.mem_cons, List.mem_nil_iff, or_false, not_or]; omega)) (by first | decide | omega) (by first | decide | omega) (by first | decide | omega)
        have nσ19_74 := hσ19.2.2 74 (by first | decide | (simp; done) | (simp only [List.mem_cons, List.mem_nil_iff, or_false, not_or]; omega)) (by first | decide | omega) (by first | decide | omega) (by first | decide | omega)
        have nσ19_60 := hσ19.2.2 60 (by first | decide | (simp; done) | (simp only [List.mem_cons, List.mem_nil_iff, or_false, not_or]; omega)) (by first | decide | omega) (by first | decide | omega) (by first | decide | omega)
        have nσ19_61 := hσ19.2.2 61 (by first | decide | (simp; done) | (simp only [List.mem_cons, List.mem_nil_iff, or_false, not_or]; omega)) (by first | decide | omega) (by first | decide | omega) (by first | decide | omega)
        have nσ19_62 := hσ19.2.2 62 (by first | decide | (simp; done) | (simp only [List.mem_cons, List.mem_nil_iff, or_false, not_or]; omega)) (by first | decide | omega) (by first | decide | omega) (by first | decide | omega)
        have nσ19_63 := hσ19.2.2 63 (by first | decide | (simp; done) | (simp only [List.mem_cons, List.mem_nil_iff, or_false, not_or]; omega)) (by first | decide | omega) (by first | decide | omega) (by first | decide | omega)
        have nσ19_64 := hσ19.2.2 64 (by first | decide | (simp; done) | (simp only [List.mem_cons, List.mem_nil_iff, or_false, not_or]; omega)) (by first | decide | omega) (by first | decide | omega) (by first | decide | omega)
        have nσ19_65 := hσ19.2.2 65 (by first | decide | (simp; done) | (simp only [List.mem_cons, List.mem_nil_iff, or_false, not_or]; omega)) (by first | decide | omega) (by first | decide | omega) (by first | decide | omega)
        have nσ19_66 := hσ19.2.2 66 (by first | decide | (simp; done) | (simp only [List.mem_cons, List.mem_nil_iff, or_false, not_or]; omega)) (by first | decide | omega) (by first | decide | omega) (by first | decide | omega)
        have nσ19_67 := hσ19.2.2 67 (by first | decide | (simp; done) | (simp only [List.mem_cons, List.mem_nil_iff, or_false, not_or]; omega)) (by first | decide | omega) (by first | decide | omega) (by first | decide | omega)
        have nu_σ19 : NW nu nuσ19 := nu_τ6.tr uσ19.w
        have uσ19_0 := uσ19.1 0 (by decide)
        have uσ19_1 := uσ19.1 1 (by decide)
        have uσ19_2 := uσ19.2
        have uσ19_5 := uσ19.1 5 (by decide)
        have uσ19_15 := uσ19.1 15 (by decide)
        have uσ19_16 := uσ19.1 16 (by decide)
        have kp5 : gP σ19 D 0 = gP τ6 D 0 := (cσ19.O (kD.up (xσ15.trans xτ6)) (by decide)).2.1
        have kp6 : gP σ19 D 1 = gP τ6 D 1 := (cσ19.O (kD.up (xσ15.trans xτ6)) (by decide)).2.1
        have kp7 : gP σ19 th 0 = gP τ6 th 0 := (cσ19.O (kth.up (xσ15.trans xτ6)) (by decide)).2.1
        have kp8 : gP σ19 th 2 = gP τ6 th 2 := (cσ19.O (kth.up (xσ15.trans xτ6)) (by decide)).2.1
        have z68 := hi6.2.1.four (by omega)
        simp only [Nat.reduceAdd] at z68
        have y68 := hσ19.2.2 68 (by decide) (by decide) (by decide) (by decide)
        have y69 := hσ19.2.2 69 (by decide) (by decide) (by decide) (by decide)
        have y70 := hσ19.2.2 70 (by decide) (by decide) (by decide) (by decide)
        have y71 := hσ19.2.2 71 (by decide) (by decide) (by decide) (by decide)
        refine ⟨b, (kp7.trans eb), fun kk_b => ?_⟩
        intro σ22 eσ22
        have xσ22 : Ext σ19 σ22 := by rw [eσ22]; exact fun _ h => ⟨h, rfl, rfl⟩
        have iσ22 : IV σ22 pl gq ci gr nc ot LLσ19 Nσ19 nuσ19 := by rw [eσ22]; exact iσ19.wO kk_b (by decide) (show (0 : Int) ≤ 0 ∧ 0 ≤ (nuσ19 2 : Int) from ⟨by (first | omega | with_reducible assumption | with_reducible exact rng_toInt _ | with_reducible exact rng_wr _ | (unfold rng; omega) | (unfold rng at *; omega) | assumption), by (first | omega | with_reducible assumption | with_reducible exact rng_toInt _ | with_reducible exact rng_wr _ | (unfold rng; omega) | (unfold rng at *; omega) | assumption)⟩)
        have fσ22 : Fx [1, 64, 194, 195, 196, 512, 513, 586, 587, 590, 592, 593, 594, 595, 708] gr σ σ22 := fσ19.tr (Sk.fx (by rw [eσ22]; exact Sk.pI (by rw [fcdO kk_b (by decide)]; decide)))
        have wσ22 : gI σ22 b 1 = 0 := by rw [eσ22]; exact up2_s _ _ _ _
        have kp9 : gP σ22 D 0 = gP σ19 D 0 := by rw [eσ22]
        have kp10 : gP σ22 D 1 = gP σ19 D 1 := by rw [eσ22]
        have kp11 : gP σ22 th 0 = gP σ19 th 0 := by rw [eσ22]
        have kp12 : gP σ22 th 2 = gP σ19 th 2 := by rw [eσ22]
        have kp13 : gI σ22 D 2 = gI σ19 D 2 := by rw [eσ22]; exact up2_n _ _ (fun q => absurd q.2 (by decide))
        intro σ23 eσ23
        have xσ23 : Ext σ22 σ23 := by rw [eσ23]; exact fun _ h => ⟨h, rfl, rfl⟩
        obtain ⟨nuσ23, iσ23, enuσ23⟩ : ∃ nu9 : Nat → Nat, IV σ23 pl gq ci gr nc ot LLσ19 Nσ19 nu9 ∧ nu9 = up1 (up1 nuσ19 15 0) 17 0 := ⟨_, by rw [eσ23]; exact iσ22.tc0 (kth.up (xσ15.trans (xτ6.trans (xσ19.trans xσ22)))) ⟨by omega, by omega, by omega⟩ 0, rfl⟩
        have uσ23 : NW nuσ19 nuσ23 := by rw [enuσ23]; exact nw15
        have fσ23 : Fx [1, 64, 194, 195, 196, 512, 513, 586, 587, 590, 592, 593, 594, 595, 708] gr σ σ23 := fσ22.tr (Sk.fx (by rw [eσ23]; exact Sk.pI (by rw [fcdO (kth.up (xσ15.trans (xτ6.trans (xσ19.trans xσ22)))) (by decide)]; decide)))
        have nu_σ23 : NW nu nuσ23 := nu_σ19.tr uσ23
        have n15z : nuσ23 15 = 0 := by rw [enuσ23, up1_n _ _ (by decide), up1_s]
        have n17z : nuσ23 17 = 0 := by rw [enuσ23, up1_s]
        have wσ23 : gI σ23 th 10 = 0 := by rw [eσ23]; exact up2_s _ _ _ _
        have kp14 : gI σ23 b 1 = gI σ22 b 1 := by rw [eσ23]; exact up2_n _ _ (fun q => absurd q.2 (by decide))
        have kp15 : gP σ23 D 0 = gP σ22 D 0 := by rw [eσ23]
        have kp16 : gP σ23 D 1 = gP σ22 D 1 := by rw [eσ23]
        have kp17 : gP σ23 th 0 = gP σ22 th 0 := by rw [eσ23]
        have kp18 : gP σ23 th 2 = gP σ22 th 2 := by rw [eσ23]
        have kp19 : gI σ23 D 2 = gI σ22 D 2 := by rw [eσ23]; exact up2_n _ _ (fun q => absurd q.2 (by decide))
        intro σ24 eσ24
        have xσ24 : Ext σ23 σ24 := by rw [eσ24]; exact fun _ h => ⟨h, rfl, rfl⟩
        obtain ⟨nuσ24, iσ24, enuσ24⟩ : ∃ nu9 : Nat → Nat, IV σ24 pl gq ci gr nc ot LLσ19 Nσ19 nu9 ∧ nu9 = up1 nuσ23 16 0 := ⟨_, by rw [eσ24]; exact iσ23.cc0 (kth.up (xσ15.trans (xτ6.trans (xσ19.trans (xσ22.trans xσ23))))) (by omega) ⟨by omega, by omega⟩, rfl⟩
        have uσ24 : NW nuσ23 nuσ24 := by rw [enuσ24]; exact nw16
        have fσ24 : Fx [1, 64, 194, 195, 196, 512, 513, 586, 587, 590, 592, 593, 594, 595, 708] gr σ σ24 := fσ23.tr (Sk.fx (by rw [eσ24]; exact Sk.pI (by rw [fcdO (kth.up (xσ15.trans (xτ6.trans (xσ19.trans (xσ22.trans xσ23))))) (by decide)]; decide)))
        have nu_σ24 : NW nu nuσ24 := nu_σ23.tr uσ24
        have n16z : nuσ24 16 = 0 := by rw [enuσ24, up1_s]
        have n15y : nuσ24 15 = 0 := by rw [enuσ24, up1_n _ _ (by decide)]; exact n15z
        have n17y : nuσ24 17 = 0 := by rw [enuσ24, up1_n _ _ (by decide)]; exact n17z
        have wσ24 : gI σ24 th 11 = 0 := by rw [eσ24]; exact up2_s _ _ _ _
        have kp20 : gI σ24 b 1 = gI σ23 b 1 := by rw [eσ24]; exact up2_n _ _ (fun q => absurd q.2 (by decide))
        have kp21 : gI σ24 th 10 = gI σ23 th 10 := by rw [eσ24]; exact up2_n _ _ (fun q => absurd q.2 (by decide))
        have kp22 : gP σ24 D 0 = gP σ23 D 0 := by rw [eσ24]
        have kp23 : gP σ24 D 1 = gP σ23 D 1 := by rw [eσ24]
        have kp24 : gP σ24 th 0 = gP σ23 th 0 := by rw [eσ24]
        have kp25 : gP σ24 th 2 = gP σ23 th 2 := by rw [eσ24]
        have kp26 : gI σ24 D 2 = gI σ23 D 2 := by rw [eσ24]; exact up2_n _ _ (fun q => absurd q.2 (by decide))
        intro σ25 eσ25
        have xσ25 : Ext σ24 σ25 := by rw [eσ25]; exact fun _ h => ⟨h, rfl, rfl⟩
        have iσ25 : IV σ25 pl gq ci gr nc ot LLσ19 Nσ19 nuσ24 := by rw [eσ25]; exact iσ24.wO (kth.up (xσ15.trans (xτ6.trans (xσ19.trans (xσ22.trans (xσ23.trans xσ24)))))) (by decide) (show (0 : Int) ≤ 0 ∧ 0 ≤ 1 from ⟨by (first | omega | with_reducible assumption | with_reducible exact rng_toInt _ | with_reducible exact rng_wr _ | (unfold rng; omega) | (unfold rng at *; omega) | assumption), by (first | omega | with_reducible assumption | with_reducible exact rng_toInt _ | with_reducible exact rng_wr _ | (unfold rng; omega) | (unfold rng at *; omega) | assumption)⟩)
        have fσ25 : Fx [1, 64, 194, 195, 196, 512, 513, 586, 587, 590, 592, 593, 594, 595, 708] gr σ σ25 := fσ24.tr (Sk.fx (by rw [eσ25]; exact Sk.pI (by rw [fcdO (kth.up (xσ15.trans (xτ6.trans (xσ19.trans (xσ22.trans (xσ23.trans xσ24)))))) (by decide)]; decide)))
        have wσ25 : gI σ25 th 16 = 0 := by rw [eσ25]; exact up2_s _ _ _ _
        have kp27 : gI σ25 b 1 = gI σ24 b 1 := by rw [eσ25]; exact up2_n _ _ (fun q => absurd q.2 (by decide))
        have kp28 : gI σ25 th 10 = gI σ24 th 10 := by rw [eσ25]; exact up2_n _ _ (fun q => absurd q.2 (by decide))
        have kp29 : gI σ25 th 11 = gI σ24 th 11 := by rw [eσ25]; exact up2_n _ _ (fun q => absurd q.2 (by decide))
        have kp30 : gP σ25 D 0 = gP σ24 D 0 := by rw [eσ25]
        have kp31 : gP σ25 D 1 = gP σ24 D 1 := by rw [eσ25]
        have kp32 : gP σ25 th 0 = gP σ24 th 0 := by rw [eσ25]
        have kp33 : gP σ25 th 2 = gP σ24 th 2 := by rw [eσ25]
        have kp34 : gI σ25 D 2 = gI σ24 D 2 := by rw [eσ25]; exact up2_n _ _ (fun q => absurd q.2 (by decide))
        intro σ26 eσ26
        have xσ26 : Ext σ25 σ26 := by rw [eσ26]; exact fun _ h => ⟨h, rfl, rfl⟩
        have iσ26 : IV σ26 pl gq ci gr nc ot LLσ19 Nσ19 nuσ24 := by rw [eσ26]; exact iσ25.wO (kth.up (xσ15.trans (xτ6.trans (xσ19.trans (xσ22.trans (xσ23.trans (xσ24.trans xσ25))))))) (by decide) (rngb (by first | exact rng_wr _ | (first | omega | with_reducible assumption | with_reducible exact rng_toInt _ | with_reducible exact rng_wr _ | (unfold rng; omega) | (unfold rng at *; omega) | assumption)))
        have fσ26 : Fx [1, 64, 194, 195, 196, 512, 513, 586, 587, 590, 592, 593, 594, 595, 708] gr σ σ26 := fσ25.tr (Sk.fx (by rw [eσ26]; exact Sk.pI (by rw [fcdO (kth.up (xσ15.trans (xτ6.trans (xσ19.trans (xσ22.trans (xσ23.trans (xσ24.trans xσ25))))))) (by decide)]; decide)))
        have wσ26 : gI σ26 th 17 = 0 := by rw [eσ26]; exact up2_s _ _ _ _
        have kp35 : gI σ26 b 1 = gI σ25 b 1 := by rw [eσ26]; exact up2_n _ _ (fun q => absurd q.2 (by decide))
        have kp36 : gI σ26 th 10 = gI σ25 th 10 := by rw [eσ26]; exact up2_n _ _ (fun q => absurd q.2 (by decide))
        have kp37 : gI σ26 th 11 = gI σ25 th 11 := by rw [eσ26]; exact up2_n _ _ (fun q => absurd q.2 (by decide))
        have kp38 : gI σ26 th 16 = gI σ25 th 16 := by rw [eσ26]; exact up2_n _ _ (fun q => absurd q.2 (by decide))
        have kp39 : gP σ26 D 0 = gP σ25 D 0 := by rw [eσ26]
        have kp40 : gP σ26 D 1 = gP σ25 D 1 := by rw [eσ26]
        have kp41 : gP σ26 th 0 = gP σ25 th 0 := by rw [eσ26]
        have kp42 : gP σ26 th 2 = gP σ25 th 2 := by rw [eσ26]
        have kp43 : gI σ26 D 2 = gI σ25 D 2 := by rw [eσ26]; exact up2_n _ _ (fun q => absurd q.2 (by decide))
        intro σ27 eσ27
        have xσ27 : Ext σ26 σ27 := by rw [eσ27]; exact fun _ h => ⟨h, rfl, rfl⟩
        have iσ27 : IV σ27 pl gq ci gr nc ot LLσ19 Nσ19 nuσ24 := by rw [eσ27]; exact iσ26.wO (kth.up (xσ15.trans (xτ6.trans (xσ19.trans (xσ22.trans (xσ23.trans (xσ24.trans (xσ25.trans xσ26)))))))) (by decide) (rngb (by first | exact rng_wr _ | (first | omega | with_reducible assumption | with_reducible exact rng_toInt _ | with_reducible exact rng_wr _ | (unfold rng; omega) | (unfold rng at *; omega) | assumption)))
        have fσ27 : Fx [1, 64, 194, 195, 196, 512, 513, 586, 587, 590, 592, 593, 594, 595, 708] gr σ σ27 := fσ26.tr (Sk.fx (by rw [eσ27]; exact Sk.pI (by rw [fcdO (kth.up (xσ15.trans (xτ6.trans (xσ19.trans (xσ22.trans (xσ23.trans (xσ24.trans (xσ25.trans xσ26)))))))) (by decide)]; decide)))
        have wσ27 : gI σ27 th 18 = 0 := by rw [eσ27]; exact up2_s _ _ _ _
        have kp44 : gI σ27 b 1 = gI σ26 b 1 := by rw [eσ27]; exact up2_n _ _ (fun q => absurd q.2 (by decide))
        have kp45 : gI σ27 th 10 = gI σ26 th 10 := by rw [eσ27]; exact up2_n _ _ (fun q => absurd q.2 (by decide))
        have kp46 : gI σ27 th 11 = gI σ26 th 11 := by rw [eσ27]; exact up2_n _ _ (fun q => absurd q.2 (by decide))
        have kp47 : gI σ27 th 16 = gI σ26 th 16 := by rw [eσ27]; exact up2_n _ _ (fun q => absurd q.2 (by decide))
        have kp48 : gI σ27 th 17 = gI σ26 th 17 := by rw [eσ27]; exact up2_n _ _ (fun q => absurd q.2 (by decide))
        have kp49 : gP σ27 D 0 = gP σ26 D 0 := by rw [eσ27]
        have kp50 : gP σ27 D 1 = gP σ26 D 1 := by rw [eσ27]
        have kp51 : gP σ27 th 0 = gP σ26 th 0 := by rw [eσ27]
        have kp52 : gP σ27 th 2 = gP σ26 th 2 := by rw [eσ27]
        have kp53 : gI σ27 D 2 = gI σ26 D 2 := by rw [eσ27]; exact up2_n _ _ (fun q => absurd q.2 (by decide))
        intro σ28 eσ28
        have xσ28 : Ext σ27 σ28 := by rw [eσ28]; exact fun _ h => ⟨h, rfl, rfl⟩
        have iσ28 : IV σ28 pl gq ci gr nc ot LLσ19 Nσ19 nuσ24 := by rw [eσ28]; exact iσ27.wO (kth.up (xσ15.trans (xτ6.trans (xσ19.trans (xσ22.trans (xσ23.trans (xσ24.trans (xσ25.trans (xσ26.trans xσ27))))))))) (by decide) (rngb (by first | exact rng_wr _ | (first | omega | with_reducible assumption | with_reducible exact rng_toInt _ | with_reducible exact rng_wr _ | (unfold rng; omega) | (unfold rng at *; omega) | assumption)))
        have fσ28 : Fx [1, 64, 194, 195, 196, 512, 513, 586, 587, 590, 592, 593, 594, 595, 708] gr σ σ28 := fσ27.tr (Sk.fx (by rw [eσ28]; exact Sk.pI (by rw [fcdO (kth.up (xσ15.trans (xτ6.trans (xσ19.trans (xσ22.trans (xσ23.trans (xσ24.trans (xσ25.trans (xσ26.trans xσ27))))))))) (by decide)]; decide)))
        have wσ28 : gI σ28 th 19 = 0 := by rw [eσ28]; exact up2_s _ _ _ _
        have kp54 : gI σ28 b 1 = gI σ27 b 1 := by rw [eσ28]; exact up2_n _ _ (fun q => absurd q.2 (by decide))
        have kp55 : gI σ28 th 10 = gI σ27 th 10 := by rw [eσ28]; exact up2_n _ _ (fun q => absurd q.2 (by decide))
        have kp56 : gI σ28 th 11 = gI σ27 th 11 := by rw [eσ28]; exact up2_n _ _ (fun q => absurd q.2 (by decide))
        have kp57 : gI σ28 th 16 = gI σ27 th 16 := by rw [eσ28]; exact up2_n _ _ (fun q => absurd q.2 (by decide))
        have kp58 : gI σ28 th 17 = gI σ27 th 17 := by rw [eσ28]; exact up2_n _ _ (fun q => absurd q.2 (by decide))
        have kp59 : gI σ28 th 18 = gI σ27 th 18 := by rw [eσ28]; exact up2_n _ _ (fun q => absurd q.2 (by decide))
        have kp60 : gP σ28 D 0 = gP σ27 D 0 := by rw [eσ28]
        have kp61 : gP σ28 D 1 = gP σ27 D 1 := by rw [eσ28]
        have kp62 : gP σ28 th 0 = gP σ27 th 0 := by rw [eσ28]
        have kp63 : gP σ28 th 2 = gP σ27 th 2 := by rw [eσ28]
        have kp64 : gI σ28 D 2 = gI σ27 D 2 := by rw [eσ28]; exact up2_n _ _ (fun q => absurd q.2 (by decide))
        exact hQ σ28 LLσ19 Nσ19 nuσ24 () iσ28 fσ28 (nu_σ24) hnσ19 (⟨by omega, by omega, by omega, by omega, by omega, by omega, by omega, by omega, by omega, by omega, by omega, by omega⟩)
      · rw [if_neg hc4]
        unfold w_X9_end_11
        obtain ⟨b_1, eb_1, fb_1⟩ := P_9_8 iτ6.1 (kth.up (xσ15.trans xτ6))
        have mb_1 : kO τ6 b_1 111 := iτ6.1.kd (kth.up (xσ15.trans xτ6)) rfl eb_1 rfl
        refine ⟨b_1, eb_1, fun kk_b_1 => ?_⟩
        refine ⟨⟨by (first | omega | with_reducible assumption | with_reducible exact rng_toInt _ | with_reducible exact rng_wr _ | (unfold rng; omega) | (unfold rng at *; omega) | assumption), by (first | omega | with_reducible assumption | with_reducible exact rng_toInt _ | with_reducible exact rng_wr _ | (unfold rng; omega) | (unfold rng at *; omega) | assumption)⟩, ?_⟩
        obtain ⟨b_2, eb_2⟩ := P_9_0 iτ6.1 (kth.up (xσ15.trans xτ6))
        refine ⟨b_2, eb_2, fun kk_b_2 => ?_⟩
        obtain ⟨b_3, eb_3⟩ := P_111 iτ6.1 mb_1 (k := v1.toNat) (by (first | omega | with_reducible assumption | with_reducible exact rng_toInt _ | with_reducible exact rng_wr _ | (unfold rng; omega) | (unfold rng at *; omega) | assumption))
        have fb_3 := T_111 iτ6.1 mb_1 eb_3
        have mb_3 : kO τ6 b_3 1 := iτ6.1.kd mb_1 rfl eb_3 rfl
        refine i_X8_releaseAll (G0 := (68 + v1.toNat)) iτ6 kk_b_2 eb_3 mb_3 (by omega) (by omega) (fun σ17 LLσ17 Nσ17 nuσ17 _ iσ17 cσ17 uσ17 hσ17 pσ17 => ?_)
        intro xσ17
        have fσ17 : Fx [1, 64, 194, 195, 196, 512, 513, 586, 587, 590, 592, 593, 594, 595, 708] gr σ σ17 := fτ6.tr (cσ17.mo (by decide))
        have hnσ17 : Hn (gD σ) [11, 12, 13, 50, 60, 61, 62, 63, 64, 65, 66, 67, 68, 69, 70, 71, 21, 22, 31, 32, 5] [] gq LL LLσ17 N Nσ17 := hnτ6.go hσ17 (fun d hd => (fτ6.1 d hd).1) (by first | decide | exact fun _ h => h | (simp; done) | (intro x hx; simp only [List.mem_cons, List.mem_nil_iff, or_false] at hx ⊢; omega)) (fun d hd => absurd hd (by simp))
        have nσ17_11 := hσ17.2.2 11 (by first | decide | (simp; done) | (simp only [List.mem_cons, List.mem_nil_iff, or_false, not_or]; omega)) (by first | decide | omega) (by first | decide | omega) (by first | decide | omega)
        have nσ17_12 := hσ17.2.2 12 (by first | decide | (simp; done) | (simp only [List.mem_cons, List.mem_nil_iff, or_false, not_or]; omega)) (by first | decide | omega) (by first | decide | omega) (by first | decide | omega)
        have nσ17_13 := hσ17.2.2 13 (by first | decide | (simp; done) | (simp only [List.mem_cons, List.mem_nil_iff, or_false, not_or]; omega)) (by first | decide | omega) (by first | decide | omega) (by first | decide | omega)
        have nσ17_50 := hσ17.2.2 50 (by first | decide | (simp; done) | (simp only [List.mem_cons, List.mem_nil_iff, or_false, not_or]; omega)) (by first | decide | omega) (by first | decide | omega) (by first | decide | omega)
        have nσ17_3 := hσ17.2.2 3 (by first | decide | (simp; done) | (simp only [List.mem_cons, List.mem_nil_iff, or_false, not_or]; omega)) (by first | decide | omega) (by first | decide | omega) (by first | decide | omega)
        have nσ17_5 := hσ17.2.2 5 (by first | decide | (simp; done) | (simp only [List.mem_cons, List.mem_nil_iff, or_false, not_or]; omega)) (by first | decide | omega) (by first | decide | omega) (by first | decide | omega)
        have nσ17_14 := hσ17.2.2 14 (by first | decide | (simp; done) | (simp only [List.mem_cons, List.mem_nil_iff, or_false, not_or]; omega)) (by first | decide | omega) (by first | decide | omega) (by first | decide | omega)
        have nσ17_44 := hσ17.2.2 44 (by first | decide | (simp; done) | (simp only [List.mem_cons, List.mem_nil_iff, or_false, not_or]; omega)) (by first | decide | omega) (by first | decide | omega) (by first | decide | omega)
        have nσ17_74 := hσ17.2.2 74 (by first | decide | (simp; done) | (simp only [List.mem_cons, List.mem_nil_iff, or_false, not_or]; omega)) (by first | decide | omega) (by first | decide | omega) (by first | decide | omega)
        have nσ17_60 := hσ17.2.2 60 (by first | decide | (simp; done) | (simp only [List.mem_cons, List.mem_nil_iff, or_false, not_or]; omega)) (by first | decide | omega) (by first | decide | omega) (by first | decide | omega)
        have nσ17_61 := hσ17.2.2 61 (by first | decide | (simp; done) | (simp only [List.mem_cons, List.mem_nil_iff, or_false, not_or]; omega)) (by first | decide | omega) (by first | decide | omega) (by first | decide | omega)
        have nσ17_62 := hσ17.2.2 62 (by first | decide | (simp; done) | (simp only [List.mem_cons, List.mem_nil_iff, or_false, not_or]; omega)) (by first | decide | omega) (by first | decide | omega) (by first | decide | omega)
        have nσ17_63 := hσ17.2.2 63 (by first | decide | (simp; done) | (simp only [List.mem_cons, List.mem_nil_iff, or_false, not_or]; omega)) (by first | decide | omega) (by first | decide | omega) (by first | decide | omega)
        have nσ17_64 := hσ17.2.2 64 (by first | decide | (simp; done) | (simp only [List.mem_cons, List.mem_nil_iff, or_false, not_or]; omega)) (by first | decide | omega) (by first | decide | omega) (by first | decide | omega)
        have nσ17_65 := hσ17.2.2 65 (by first | decide | (simp; done) | (simp only [List.mem_cons, List.mem_nil_iff, or_false, not_or]; omega)) (by first | decide | omega) (by first | decide | omega) (by first | decide | omega)
        have nσ17_66 := hσ17.2.2 66 (by first | decide | (simp; done) | (simp only [List.mem_cons, List.mem_nil_iff, or_false, not_or]; omega)) (by first | decide | omega) (by first | decide | omega) (by first | decide | omega)
        have nσ17_67 := hσ17.2.2 67 (by first | decide | (simp; done) | (simp only [List.mem_cons, List.mem_nil_iff, or_false, not_or]; omega)) (by first | decide | omega) (by first | decide | omega) (by first | decide | omega)
        have nu_σ17 : NW nu nuσ17 := nu_τ6.tr uσ17.w
        have uσ17_0 := uσ17.1 0 (by decide)
        have uσ17_1 := uσ17.1 1 (by decide)
        have uσ17_2 := uσ17.2
        have uσ17_5 := uσ17.1 5 (by decide)
        have uσ17_15 := uσ17.1 15 (by decide)
        have uσ17_16 := uσ17.1 16 (by decide)
        have kp65 : gP σ17 b_1 v1.toNat = gP τ6 b_1 v1.toNat := (cσ17.A mb_1 (by decide)).2.1
        have kp66 : gP σ17 th 0 = gP τ6 th 0 := (cσ17.O (kth.up (xσ15.trans xτ6)) (by decide)).2.1
        have kp67 : gP σ17 th 2 = gP τ6 th 2 := (cσ17.O (kth.up (xσ15.trans xτ6)) (by decide)).2.1
        have kp68 : gP σ17 th 8 = gP τ6 th 8 := (cσ17.O (kth.up (xσ15.trans xτ6)) (by decide)).2.1
        have kp69 : gI σ17 D 2 = gI τ6 D 2 := (cσ17.O (kD.up (xσ15.trans xτ6)) (by decide)).1
        have onσ17 := iτ6.one (G := 68 + v1.toNat) mb_3 (by omega) (by rcases (show v1.toNat = 0 ∨ v1.toNat = 1 ∨ v1.toNat = 2 ∨ v1.toNat = 3 by omega) with e | e | e | e <;> rw [e] <;> decide)
        have znσ17 : Nσ17 (68 + v1.toNat) = 0 := by omega
        have Z1 := hi6.2.1.up (by omega) (fun j hj => hσ17.2.2 (68 + j) (by simp only [List.mem_cons, List.mem_nil_iff, or_false]; omega) (by omega) (by omega) (by omega)) znσ17
        refine ⟨by (first | omega | with_reducible assumption | with_reducible exact rng_toInt _ | with_reducible exact rng_wr _ | (unfold rng; omega) | (unfold rng at *; omega) | assumption), ?_⟩
        exact ih6 σ17 LLσ17 Nσ17 nuσ17 (v1 + 1) iσ17 fσ17 (xτ6.trans xσ17) nu_σ17 hnσ17 (⟨by omega, Z1, by omega, by omega, by omega, by omega, by omega⟩) (by (first | omega | with_reducible assumption | with_reducible exact rng_toInt _ | with_reducible exact rng_wr _ | (unfold rng; omega) | (unfold rng at *; omega) | assumption))
  exact ⟨_, Lp6 _ σ15 LLσ15 Nσ15 nuσ15 _ iσ15 fσ15 (Ext.rfl' _) nu_σ15 hnσ15 (⟨by omega, Zr.z, by omega, by omega, by omega, by omega, by omega⟩) (Nat.lt_succ_self _)⟩

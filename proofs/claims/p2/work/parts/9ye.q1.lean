set_option maxHeartbeats 1000000 in
theorem i_X6_refuse {σ : Sg} {pl : Nat} {gq ci gr nc : Nat → Nat} {ot : Nat → Nat → Int} {LL : Nat → List Nat} {N nu : Nat → Nat} {th : Nat} {v1 : Int} (iσ : IV σ pl gq ci gr nc ot LL N nu) (kth : kO σ th 6) (h5 : nu 5 < 24000) (h1 : rng v1) (h0 : v1 ≠ 0) {Q : Sg → Unit → Prop} {X : Sg → String → Prop} (hQ : ∀ (σ' : Sg) (r : Unit), IV σ' pl gq ci gr nc ot LL N nu → Fx [390] gr σ σ' → (False) → Q σ' r) (hX : ∀ (σ' : Sg) (LL' : Nat → List Nat) (N' nu' : Nat → Nat) (E : String), IV σ' pl gq ci gr nc ot LL' N' nu' → Fx [390] gr σ σ' → NCX nu nu' → (LL' = LL ∧ N' = N ∧ E = "java/lang/IllegalArgumentException" ∧ gI σ' th 6 ≠ 0) → X σ' E) : wp_X6_refuse th v1 σ Q X := by
  have fσ : Fx [390] gr σ σ := Fx.rf
  unfold wp_X6_refuse
  unfold w_X6_refuse_0
  intro σ2 eσ2
  have xσ2 : Ext σ σ2 := by rw [eσ2]; exact fun _ h => ⟨h, rfl, rfl⟩
  have iσ2 : IV σ2 pl gq ci gr nc ot LL N nu := by rw [eσ2]; exact iσ.wO kth (by decide) (rngb (by first | exact rng_wr _ | (first | omega | with_reducible assumption | with_reducible exact rng_toInt _ | with_reducible exact rng_wr _ | (unfold rng; omega) | (unfold rng at *; omega) | assumption)))
  have fσ2 : Fx [390] gr σ σ2 := fσ.tr (Sk.fx (by rw [eσ2]; exact Sk.pI (by rw [fcdO kth (by decide)]; decide)))
  have wσ2 : gI σ2 th 6 = v1 := by rw [eσ2]; exact up2_s _ _ _ _
  have kp1 : gI σ2 th 2 = gI σ th 2 := by rw [eσ2]; exact up2_n _ _ (fun q => absurd q.2 (by decide))
  have kp2 : gI σ2 th 3 = gI σ th 3 := by rw [eσ2]; exact up2_n _ _ (fun q => absurd q.2 (by decide))
  have kp3 : gI σ2 th 5 = gI σ th 5 := by rw [eσ2]; exact up2_n _ _ (fun q => absurd q.2 (by decide))
  refine ⟨iσ2.room, ?_⟩
  exact hX _ _ _ _ _ (iσ2.bump (by (first | omega | with_reducible assumption | with_reducible exact rng_toInt _ | with_reducible exact rng_wr _ | (unfold rng; omega) | (unfold rng at *; omega) | assumption))) (fσ2.tr Fx.bump) (NCX.bump) (⟨rfl, rfl, rfl, fun e => h0 (wσ2.symm.trans e)⟩)
set_option maxHeartbeats 1000000 in
theorem i_X6_cannotStand {σ : Sg} {pl : Nat} {gq ci gr nc : Nat → Nat} {ot : Nat → Nat → Int} {LL : Nat → List Nat} {N nu : Nat → Nat} {th : Nat} (iσ : IV σ pl gq ci gr nc ot LL N nu) (kth : kO σ th 6) (h5 : nu 5 < 24000) {Q : Sg → Unit → Prop} {X : Sg → String → Prop} (hQ : ∀ (σ' : Sg) (r : Unit), IV σ' pl gq ci gr nc ot LL N nu → Fx [390] gr σ σ' → (False) → Q σ' r) (hX : ∀ (σ' : Sg) (LL' : Nat → List Nat) (N' nu' : Nat → Nat) (E : String), IV σ' pl gq ci gr nc ot LL' N' nu' → Fx [390] gr σ σ' → NCX nu nu' → (LL' = LL ∧ N' = N ∧ E = "java/lang/IllegalArgumentException" ∧ gI σ' th 6 ≠ 0) → X σ' E) : wp_X6_cannotStand th σ Q X := by
  have fσ : Fx [390] gr σ σ := Fx.rf
  unfold wp_X6_cannotStand
  unfold w_X6_cannotStand_0
  have q2 := iσ.rg th 3; unfold rng at q2
  by_cases hc1 : gI σ th 3 ≠ 0
  · rw [if_pos hc1]
    unfold w_X6_cannotStand_12
    unfold w_X6_cannotStand_13
    refine i_X6_refuse iσ kth (by (first | omega | with_reducible assumption | with_reducible exact rng_toInt _ | with_reducible exact rng_wr _ | (unfold rng; omega) | (unfold rng at *; omega) | assumption)) (by (first | omega | with_reducible assumption | with_reducible exact rng_toInt _ | with_reducible exact rng_wr _ | (unfold rng; omega) | (unfold rng at *; omega) | assumption)) (by (first | omega | with_reducible assumption | with_reducible exact rng_toInt _ | with_reducible exact rng_wr _ | (unfold rng; omega) | (unfold rng at *; omega) | assumption)) (fun σ2 _ iσ2 cσ2 pσ2 => ?_) (fun σx LLx Nx nux E ix cx ux px => hX σx LLx Nx nux E ix (fσ.tr (cx.mo (by decide))) (ux) (by first | exact px | exact ⟨by have := px.1; omega, px.2⟩ | (first | omega | with_reducible assumption | with_reducible exact rng_toInt _ | with_reducible exact rng_wr _ | (unfold rng; omega) | (unfold rng at *; omega) | assumption)))
    intro xσ2
    exact pσ2.elim
  · rw [if_neg hc1]
    have hc1q := Classical.not_not.mp hc1
    unfold w_X6_cannotStand_8
    unfold w_X6_cannotStand_13
    refine i_X6_refuse iσ kth (by (first | omega | with_reducible assumption | with_reducible exact rng_toInt _ | with_reducible exact rng_wr _ | (unfold rng; omega) | (unfold rng at *; omega) | assumption)) (by (first | omega | with_reducible assumption | with_reducible exact rng_toInt _ | with_reducible exact rng_wr _ | (unfold rng; omega) | (unfold rng at *; omega) | assumption)) (by (first | omega | with_reducible assumption | with_reducible exact rng_toInt _ | with_reducible exact rng_wr _ | (unfold rng; omega) | (unfold rng at *; omega) | assumption)) (fun σ2_1 _ iσ2_1 cσ2_1 pσ2_1 => ?_) (fun σx LLx Nx nux E ix cx ux px => hX σx LLx Nx nux E ix (fσ.tr (cx.mo (by decide))) (ux) (by first | exact px | exact ⟨by have := px.1; omega, px.2⟩ | (first | omega | with_reducible assumption | with_reducible exact rng_toInt _ | with_reducible exact rng_wr _ | (unfold rng; omega) | (unfold rng at *; omega) | assumption)))
    intro xσ2_1
    exact pσ2_1.elim
set_option maxHeartbeats 1000000 in
theorem i_X6_goDeeper {σ : Sg} {pl : Nat} {gq ci gr nc : Nat → Nat} {ot : Nat → Nat → Int} {LL : Nat → List Nat} {N nu : Nat → Nat} {th : Nat} {v1 : Int} (iσ : IV σ pl gq ci gr nc ot LL N nu) (kth : kO σ th 6) (h5 : nu 5 < 24000) {Q : Sg → Unit → Prop} {X : Sg → String → Prop} (hQ : ∀ (σ' : Sg) (r : Unit), IV σ' pl gq ci gr nc ot LL N nu → Fx [390] gr σ σ' → (v1 < 10) → Q σ' r) (hX : ∀ (σ' : Sg) (LL' : Nat → List Nat) (N' nu' : Nat → Nat) (E : String), IV σ' pl gq ci gr nc ot LL' N' nu' → Fx [390] gr σ σ' → NCX nu nu' → (LL' = LL ∧ N' = N ∧ E = "java/lang/IllegalArgumentException" ∧ gI σ' th 6 ≠ 0) → X σ' E) : wp_X6_goDeeper th v1 σ Q X := by
  have fσ : Fx [390] gr σ σ := Fx.rf
  unfold wp_X6_goDeeper
  unfold w_X6_goDeeper_0
  by_cases hc1 : v1 < 10
  · rw [if_pos hc1]
    unfold w_X6_goDeeper_12
    exact hQ σ () iσ fσ (by (first | omega | with_reducible assumption | with_reducible exact rng_toInt _ | with_reducible exact rng_wr _ | (unfold rng; omega) | (unfold rng at *; omega) | assumption))
  · rw [if_neg hc1]
    unfold w_X6_goDeeper_6
    refine i_X6_refuse iσ kth (by (first | omega | with_reducible assumption | with_reducible exact rng_toInt _ | with_reducible exact rng_wr _ | (unfold rng; omega) | (unfold rng at *; omega) | assumption)) (by (first | omega | with_reducible assumption | with_reducible exact rng_toInt _ | with_reducible exact rng_wr _ | (unfold rng; omega) | (unfold rng at *; omega) | assumption)) (by (first | omega | with_reducible assumption | with_reducible exact rng_toInt _ | with_reducible exact rng_wr _ | (unfold rng; omega) | (unfold rng at *; omega) | assumption)) (fun σ2 _ iσ2 cσ2 pσ2 => ?_) (fun σx LLx Nx nux E ix cx ux px => hX σx LLx Nx nux E ix (fσ.tr (cx.mo (by decide))) (ux) (by first | exact px | exact ⟨by have := px.1; omega, px.2⟩ | (first | omega | with_reducible assumption | with_reducible exact rng_toInt _ | with_reducible exact rng_wr _ | (unfold rng; omega) | (unfold rng at *; omega) | assumption)))
    intro xσ2
    exact pσ2.elim
set_option maxHeartbeats 1000000 in
theorem i_X6_word {σ : Sg} {pl : Nat} {gq ci gr nc : Nat → Nat} {ot : Nat → Nat → Int} {LL : Nat → List Nat} {N nu : Nat → Nat} {th : Nat} {tx : Nat} (iσ : IV σ pl gq ci gr nc ot LL N nu) (kth : kO σ th 6) (hX0 : gP σ th 0 = some tx) (kX : kO σ tx 102) (gX : gn σ tx = 1500) (hl : gI σ th 2 < gI σ th 1) (hb : 97 ≤ gI σ tx (gI σ th 2).toNat ∧ gI σ tx (gI σ th 2).toNat ≤ 122) {Q : Sg → Unit → Prop} {X : Sg → String → Prop} (hQ : ∀ (σ' : Sg) (r : Unit), IV σ' pl gq ci gr nc ot LL N nu → Fx [386, 387, 388] gr σ σ' → (KV σ' th ∧ gI σ th 2 + 1 ≤ gI σ' th 2 ∧ gI σ' th 3 ≠ 0 ∧ gI σ' th 5 = gI σ th 5) → Q σ' r) : wp_X6_word th σ Q X := by
  have fσ : Fx [386, 387, 388] gr σ σ := Fx.rf
  have q1 := I_6_2 iσ.1 kth
  have q2 := I_6_1 iσ.1 kth
  have q3 := iσ.rg tx (gI σ th 2).toNat; unfold rng at q3
  unfold wp_X6_word
  unfold w_X6_word_0
  intro σ11 eσ11
  have xσ11 : Ext σ σ11 := by rw [eσ11]; exact fun _ h => ⟨h, rfl, rfl⟩
  have iσ11 : IV σ11 pl gq ci gr nc ot LL N nu := by rw [eσ11]; exact iσ.wJ kth (by decide)
  have fσ11 : Fx [386, 387, 388] gr σ σ11 := fσ.tr (Sk.fx (by rw [eσ11]; exact Sk.pJ (by rw [fcdO kth (by decide)]; decide)))
  have kp4 : gI σ11 th 1 = gI σ th 1 := by rw [eσ11]
  have kp5 : gI σ11 th 2 = gI σ th 2 := by rw [eσ11]
  have kp6 : gI σ11 tx (gI σ th 2).toNat = gI σ tx (gI σ th 2).toNat := by rw [eσ11]
  have kp7 : gP σ11 th 0 = gP σ th 0 := by rw [eσ11]
  have kp8 : gI σ11 th 3 = gI σ th 3 := by rw [eσ11]
  have kp9 : gI σ11 th 5 = gI σ th 5 := by rw [eσ11]
  have Lp7 : ∀ (fu7 : Nat) (τ7 : Sg) (v1 : Int), IV τ7 pl gq ci gr nc ot LL N nu → Fx [386, 387, 388] gr σ τ7 → Ext σ11 τ7 → ((0 ≤ v1 ∧ v1 ≤ 1500) ∧ gI σ th 2 ≤ gI τ7 th 2 ∧ (v1 = 0 → gI τ7 th 2 = gI σ th 2) ∧ (1 ≤ v1 → gI σ th 2 + 1 ≤ gI τ7 th 2)) → ((1500 - v1).toNat) < fu7 → wl_X6_word_7 th Q X fu7 τ7 v1 := by
    intro fu7
    induction fu7 with
    | zero => intro _ _ _ _ _ _ h9; omega
    | succ fu7 ih7 =>
      intro τ7 v1 iτ7 fτ7 xτ7 hi7 hm7
      unfold wl_X6_word_7
      have kp10 : gI τ7 th 1 = gI σ th 1 := (fτ7.O kth (by decide)).1
      have kp11 : gI τ7 tx (gI σ th 2).toNat = gI σ tx (gI σ th 2).toNat := (fτ7.A kX (by decide)).1
      have kp12 : gP τ7 th 0 = gP σ th 0 := (fτ7.O kth (by decide)).2.1
      have kp13 : gI τ7 th 5 = gI σ th 5 := (fτ7.O kth (by decide)).1
      have kp14 : gI τ7 th 1 = gI σ11 th 1 := (fτ7.O kth (by decide)).1.trans (fσ11.O kth (by decide)).1.symm
      have kp15 : gI τ7 th 5 = gI σ11 th 5 := (fτ7.O kth (by decide)).1.trans (fσ11.O kth (by decide)).1.symm
      have xk7 : ∀ k, gI τ7 tx k = gI σ tx k := fun k => (fτ7.A kX (by decide)).1
      have xl7 := (fτ7.O kth (k := 1) (by decide)).1
      unfold w_X6_word_7
      by_cases hc16 : v1 ≥ 1500
      · rw [if_pos hc16]
        unfold w_X6_word_91
        have pr9 : gI σ th 2 + 1 ≤ gI τ7 th 2 := by by_cases e0 : v1 = 0; (exfalso; have e1 := hi7.2.2.1 e0; have e2 : gI τ7 tx (gI τ7 th 2).toNat = gI σ tx (gI σ th 2).toNat := (by rw [xk7, e1]); omega); (have := hi7.2.2.2 (by omega); omega)
        have q17 := I_6_2 iτ7.1 (kth.up (xσ11.trans xτ7))
        have q18 := I_6_5 iτ7.1 (kth.up (xσ11.trans xτ7))
        refine ⟨by (first | omega | with_reducible assumption | with_reducible exact rng_toInt _ | with_reducible exact rng_wr _ | (unfold rng; omega) | (unfold rng at *; omega) | assumption), ?_⟩
        by_cases hc19 : (gI τ7 th 2 - gI τ7 th 5) ≤ 6
        · rw [if_pos hc19]
          unfold w_X6_word_110
          unfold w_X6_word_111
          intro σ17 eσ17
          have xσ17 : Ext τ7 σ17 := by rw [eσ17]; exact fun _ h => ⟨h, rfl, rfl⟩
          have iσ17 : IV σ17 pl gq ci gr nc ot LL N nu := by rw [eσ17]; exact iτ7.wO (kth.up (xσ11.trans xτ7)) (by decide) (rngb (by first | exact rng_wr _ | (first | omega | with_reducible assumption | with_reducible exact rng_toInt _ | with_reducible exact rng_wr _ | (unfold rng; omega) | (unfold rng at *; omega) | assumption)))
          have fσ17 : Fx [386, 387, 388] gr σ σ17 := fτ7.tr (Sk.fx (by rw [eσ17]; exact Sk.pI (by rw [fcdO (kth.up (xσ11.trans xτ7)) (by decide)]; decide)))
          have wσ17 : gI σ17 th 3 = 1 := by rw [eσ17]; exact up2_s _ _ _ _
          have kp20 : gI σ17 th 1 = gI τ7 th 1 := by rw [eσ17]; exact up2_n _ _ (fun q => absurd q.2 (by decide))
          have kp21 : gI σ17 th 2 = gI τ7 th 2 := by rw [eσ17]; exact up2_n _ _ (fun q => absurd q.2 (by decide))
          have kp22 : gI σ17 th 5 = gI τ7 th 5 := by rw [eσ17]; exact up2_n _ _ (fun q => absurd q.2 (by decide))
          have kp23 : gI σ17 tx (gI σ th 2).toNat = gI τ7 tx (gI σ th 2).toNat := by rw [eσ17]; exact up2_n _ _ (fun q => absurd q.1 (kO.ne (kX.up (xσ11.trans xτ7)) (kth.up (xσ11.trans xτ7)) (by decide)))
          have kp24 : gP σ17 th 0 = gP τ7 th 0 := by rw [eσ17]
          have Lp116 : ∀ (fu116 : Nat) (τ116 : Sg) (v1 : Int), IV τ116 pl gq ci gr nc ot LL N nu → Fx [386, 387, 388] gr σ τ116 → Ext σ17 τ116 → (KV τ116 th ∧ (0 ≤ v1 ∧ v1 ≤ 23) ∧ gI τ116 th 3 ≠ 0 ∧ gI σ th 2 + 1 ≤ gI τ116 th 2) → ((23 - v1).toNat) < fu116 → wl_X6_word_116 th Q X fu116 τ116 v1 := by
            intro fu116
            induction fu116 with
            | zero => intro _ _ _ _ _ _ h9; omega
            | succ fu116 ih116 =>
              intro τ116 v1 iτ116 fτ116 xτ116 hi116 hm116
              unfold wl_X6_word_116
              have kp25 : gI τ116 th 1 = gI σ th 1 := (fτ116.O kth (by decide)).1
              have kp26 : gI τ116 tx (gI σ th 2).toNat = gI σ tx (gI σ th 2).toNat := (fτ116.A kX (by decide)).1
              have kp27 : gP τ116 th 0 = gP σ th 0 := (fτ116.O kth (by decide)).2.1
              have kp28 : gI τ116 th 5 = gI σ th 5 := (fτ116.O kth (by decide)).1
              have kp29 : gI τ116 th 1 = gI σ17 th 1 := (fτ116.O kth (by decide)).1.trans (fσ17.O kth (by decide)).1.symm
              have kp30 : gI τ116 th 5 = gI σ17 th 5 := (fτ116.O kth (by decide)).1.trans (fσ17.O kth (by decide)).1.symm
              unfold w_X6_word_116
              by_cases hc31 : v1 ≥ 23
              · rw [if_pos hc31]
                unfold w_X6_word_162
                exact hQ τ116 () iτ116 fτ116 (⟨hi116.1, by omega⟩)
              · rw [if_neg hc31]
                unfold w_X6_word_124
                have q33 := iτ116.rg th 3; unfold rng at q33
                by_cases hc32 : gI τ116 th 3 ≠ 1
                · rw [if_pos hc32]
                  unfold w_X6_word_162
                  exact hQ τ116 () iτ116 fτ116 (⟨hi116.1, by omega⟩)
                · rw [if_neg hc32]
                  have hc32q := Classical.not_not.mp hc32
                  unfold w_X6_word_132
                  refine ⟨⟨by (first | omega | with_reducible assumption | with_reducible exact rng_toInt _ | with_reducible exact rng_wr _ | (unfold rng; omega) | (unfold rng at *; omega) | assumption), by (first | omega | with_reducible assumption | with_reducible exact rng_toInt _ | with_reducible exact rng_wr _ | (unfold rng; omega) | (unfold rng at *; omega) | assumption)⟩, ?_⟩
                  intro k18
                  by_cases hc34 : gJ τ116 th 4 ≠ k18
                  · rw [if_pos hc34]
                    unfold w_X6_word_156
                    refine ⟨by (first | omega | with_reducible assumption | with_reducible exact rng_toInt _ | with_reducible exact rng_wr _ | (unfold rng; omega) | (unfold rng at *; omega) | assumption), ?_⟩
                    exact ih116 τ116 (v1 + 1) iτ116 fτ116 xτ116 (⟨by first | exact kv20 | exact fun e => absurd e (by omega), by omega⟩) (by (first | omega | with_reducible assumption | with_reducible exact rng_toInt _ | with_reducible exact rng_wr _ | (unfold rng; omega) | (unfold rng at *; omega) | assumption))
                  · rw [if_neg hc34]
                    have hc34q := Classical.not_not.mp hc34
                    unfold w_X6_word_145
                    intro σ19 eσ19
                    have xσ19 : Ext τ116 σ19 := by rw [eσ19]; exact fun _ h => ⟨h, rfl, rfl⟩
                    have iσ19 : IV σ19 pl gq ci gr nc ot LL N nu := by rw [eσ19]; exact iτ116.wO (kth.up (xσ11.trans (xτ7.trans (xσ17.trans xτ116)))) (by decide) (rngb (by first | exact rng_wr _ | (first | omega | with_reducible assumption | with_reducible exact rng_toInt _ | with_reducible exact rng_wr _ | (unfold rng; omega) | (unfold rng at *; omega) | assumption)))
                    have fσ19 : Fx [386, 387, 388] gr σ σ19 := fτ116.tr (Sk.fx (by rw [eσ19]; exact Sk.pI (by rw [fcdO (kth.up (xσ11.trans (xτ7.trans (xσ17.trans xτ116)))) (by decide)]; decide)))
                    have wσ19 : gI σ19 th 3 = 2 := by rw [eσ19]; exact up2_s _ _ _ _
                    have kp35 : gI σ19 th 1 = gI τ116 th 1 := by rw [eσ19]; exact up2_n _ _ (fun q => absurd q.2 (by decide))
                    have kp36 : gI σ19 th 5 = gI τ116 th 5 := by rw [eσ19]; exact up2_n _ _ (fun q => absurd q.2 (by decide))
                    have kp37 : gI σ19 tx (gI σ th 2).toNat = gI τ116 tx (gI σ th 2).toNat := by rw [eσ19]; exact up2_n _ _ (fun q => absurd q.1 (kO.ne (kX.up (xσ11.trans (xτ7.trans (xσ17.trans xτ116)))) (kth.up (xσ11.trans (xτ7.trans (xσ17.trans xτ116)))) (by decide)))
                    have kp38 : gP σ19 th 0 = gP τ116 th 0 := by rw [eσ19]
                    have kp39 : gI σ19 th 2 = gI τ116 th 2 := by rw [eσ19]; exact up2_n _ _ (fun q => absurd q.2 (by decide))
                    intro σ20 eσ20
                    have xσ20 : Ext σ19 σ20 := by rw [eσ20]; exact fun _ h => ⟨h, rfl, rfl⟩
                    have iσ20 : IV σ20 pl gq ci gr nc ot LL N nu := by rw [eσ20]; exact iσ19.wJ (kth.up (xσ11.trans (xτ7.trans (xσ17.trans (xτ116.trans xσ19))))) (by decide)
                    have fσ20 : Fx [386, 387, 388] gr σ σ20 := fσ19.tr (Sk.fx (by rw [eσ20]; exact Sk.pJ (by rw [fcdO (kth.up (xσ11.trans (xτ7.trans (xσ17.trans (xτ116.trans xσ19))))) (by decide)]; decide)))
                    have kp40 : gI σ20 th 1 = gI σ19 th 1 := by rw [eσ20]
                    have kp41 : gI σ20 th 3 = gI σ19 th 3 := by rw [eσ20]
                    have kp42 : gI σ20 th 5 = gI σ19 th 5 := by rw [eσ20]
                    have kp43 : gI σ20 tx (gI σ th 2).toNat = gI σ19 tx (gI σ th 2).toNat := by rw [eσ20]
                    have kp44 : gP σ20 th 0 = gP σ19 th 0 := by rw [eσ20]
                    have kp45 : gI σ20 th 2 = gI σ19 th 2 := by rw [eσ20]
                    have v20 : gJ σ20 th 4 = Int64.ofInt v1 := by rw [eσ20]; exact up2_s _ _ _ _
                    have kv20 : KV σ20 th := fun _ => by rw [v20, of_int (by omega)]; omega
                    unfold w_X6_word_156
                    refine ⟨by (first | omega | with_reducible assumption | with_reducible exact rng_toInt _ | with_reducible exact rng_wr _ | (unfold rng; omega) | (unfold rng at *; omega) | assumption), ?_⟩
                    exact ih116 σ20 (v1 + 1) iσ20 fσ20 (xτ116.trans (xσ19.trans xσ20)) (⟨by first | exact kv20 | exact fun e => absurd e (by omega), by omega⟩) (by (first | omega | with_reducible assumption | with_reducible exact rng_toInt _ | with_reducible exact rng_wr _ | (unfold rng; omega) | (unfold rng at *; omega) | assumption))
          exact ⟨_, Lp116 _ σ17 _ iσ17 fσ17 (Ext.rfl' _) (⟨fun e => absurd e (by omega), by omega⟩) (Nat.lt_succ_self _)⟩
        · rw [if_neg hc19]
          unfold w_X6_word_106
          unfold w_X6_word_111
          intro σ17_1 eσ17_1
          have xσ17_1 : Ext τ7 σ17_1 := by rw [eσ17_1]; exact fun _ h => ⟨h, rfl, rfl⟩
          have iσ17_1 : IV σ17_1 pl gq ci gr nc ot LL N nu := by rw [eσ17_1]; exact iτ7.wO (kth.up (xσ11.trans xτ7)) (by decide) (rngb (by first | exact rng_wr _ | (first | omega | with_reducible assumption | with_reducible exact rng_toInt _ | with_reducible exact rng_wr _ | (unfold rng; omega) | (unfold rng at *; omega) | assumption)))
          have fσ17_1 : Fx [386, 387, 388] gr σ σ17_1 := fτ7.tr (Sk.fx (by rw [eσ17_1]; exact Sk.pI (by rw [fcdO (kth.up (xσ11.trans xτ7)) (by decide)]; decide)))
          have wσ17_1 : gI σ17_1 th 3 = 3 := by rw [eσ17_1]; exact up2_s _ _ _ _
          have kp46 : gI σ17_1 th 1 = gI τ7 th 1 := by rw [eσ17_1]; exact up2_n _ _ (fun q => absurd q.2 (by decide))
          have kp47 : gI σ17_1 th 2 = gI τ7 th 2 := by rw [eσ17_1]; exact up2_n _ _ (fun q => absurd q.2 (by decide))
          have kp48 : gI σ17_1 th 5 = gI τ7 th 5 := by rw [eσ17_1]; exact up2_n _ _ (fun q => absurd q.2 (by decide))
          have kp49 : gI σ17_1 tx (gI σ th 2).toNat = gI τ7 tx (gI σ th 2).toNat := by rw [eσ17_1]; exact up2_n _ _ (fun q => absurd q.1 (kO.ne (kX.up (xσ11.trans xτ7)) (kth.up (xσ11.trans xτ7)) (by decide)))
          have kp50 : gP σ17_1 th 0 = gP τ7 th 0 := by rw [eσ17_1]
          have Lp116 : ∀ (fu116 : Nat) (τ116 : Sg) (v1 : Int), IV τ116 pl gq ci gr nc ot LL N nu → Fx [386, 387, 388] gr σ τ116 → Ext σ17_1 τ116 → (KV τ116 th ∧ (0 ≤ v1 ∧ v1 ≤ 23) ∧ gI τ116 th 3 ≠ 0 ∧ gI σ th 2 + 1 ≤ gI τ116 th 2) → ((23 - v1).toNat) < fu116 → wl_X6_word_116 th Q X fu116 τ116 v1 := by
            intro fu116
            induction fu116 with
            | zero => intro _ _ _ _ _ _ h9; omega
            | succ fu116 ih116 =>
              intro τ116 v1 iτ116 fτ116 xτ116 hi116 hm116
              unfold wl_X6_word_116
              have kp51 : gI τ116 th 1 = gI σ th 1 := (fτ116.O kth (by decide)).1
              have kp52 : gI τ116 tx (gI σ th 2).toNat = gI σ tx (gI σ th 2).toNat := (fτ116.A kX (by decide)).1
              have kp53 : gP τ116 th 0 = gP σ th 0 := (fτ116.O kth (by decide)).2.1
              have kp54 : gI τ116 th 5 = gI σ th 5 := (fτ116.O kth (by decide)).1
              have kp55 : gI τ116 th 1 = gI σ17_1 th 1 := (fτ116.O kth (by decide)).1.trans (fσ17_1.O kth (by decide)).1.symm
              have kp56 : gI τ116 th 5 = gI σ17_1 th 5 := (fτ116.O kth (by decide)).1.trans (fσ17_1.O kth (by decide)).1.symm
              unfold w_X6_word_116
              by_cases hc57 : v1 ≥ 23
              · rw [if_pos hc57]
                unfold w_X6_word_162
                exact hQ τ116 () iτ116 fτ116 (⟨hi116.1, by omega⟩)
              · rw [if_neg hc57]
                unfold w_X6_word_124
                have q59 := iτ116.rg th 3; unfold rng at q59
                by_cases hc58 : gI τ116 th 3 ≠ 1
                · rw [if_pos hc58]
                  unfold w_X6_word_162
                  exact hQ τ116 () iτ116 fτ116 (⟨hi116.1, by omega⟩)
                · rw [if_neg hc58]
                  have hc58q := Classical.not_not.mp hc58
                  unfold w_X6_word_132
                  refine ⟨⟨by (first | omega | with_reducible assumption | with_reducible exact rng_toInt _ | with_reducible exact rng_wr _ | (unfold rng; omega) | (unfold rng at *; omega) | assumption), by (first | omega | with_reducible assumption | with_reducible exact rng_toInt _ | with_reducible exact rng_wr _ | (unfold rng; omega) | (unfold rng at *; omega) | assumption)⟩, ?_⟩
                  intro k18_1
                  by_cases hc60 : gJ τ116 th 4 ≠ k18_1
                  · rw [if_pos hc60]
                    unfold w_X6_word_156
                    refine ⟨by (first | omega | with_reducible assumption | with_reducible exact rng_toInt _ | with_reducible exact rng_wr _ | (unfold rng; omega) | (unfold rng at *; omega) | assumption), ?_⟩
                    exact ih116 τ116 (v1 + 1) iτ116 fτ116 xτ116 (⟨by first | exact kv20 | exact fun e => absurd e (by omega), by omega⟩) (by (first | omega | with_reducible assumption | with_reducible exact rng_toInt _ | with_reducible exact rng_wr _ | (unfold rng; omega) | (unfold rng at *; omega) | assumption))
                  · rw [if_neg hc60]
                    have hc60q := Classical.not_not.mp hc60
                    unfold w_X6_word_145
                    intro σ19_1 eσ19_1
                    have xσ19_1 : Ext τ116 σ19_1 := by rw [eσ19_1]; exact fun _ h => ⟨h, rfl, rfl⟩
                    have iσ19_1 : IV σ19_1 pl gq ci gr nc ot LL N nu := by rw [eσ19_1]; exact iτ116.wO (kth.up (xσ11.trans (xτ7.trans (xσ17_1.trans xτ116)))) (by decide) (rngb (by first | exact rng_wr _ | (first | omega | with_reducible assumption | with_reducible exact rng_toInt _ | with_reducible exact rng_wr _ | (unfold rng; omega) | (unfold rng at *; omega) | assumption)))
                    have fσ19_1 : Fx [386, 387, 388] gr σ σ19_1 := fτ116.tr (Sk.fx (by rw [eσ19_1]; exact Sk.pI (by rw [fcdO (kth.up (xσ11.trans (xτ7.trans (xσ17_1.trans xτ116)))) (by decide)]; decide)))
                    have wσ19_1 : gI σ19_1 th 3 = 2 := by rw [eσ19_1]; exact up2_s _ _ _ _
                    have kp61 : gI σ19_1 th 1 = gI τ116 th 1 := by rw [eσ19_1]; exact up2_n _ _ (fun q => absurd q.2 (by decide))
                    have kp62 : gI σ19_1 th 5 = gI τ116 th 5 := by rw [eσ19_1]; exact up2_n _ _ (fun q => absurd q.2 (by decide))
                    have kp63 : gI σ19_1 tx (gI σ th 2).toNat = gI τ116 tx (gI σ th 2).toNat := by rw [eσ19_1]; exact up2_n _ _ (fun q => absurd q.1 (kO.ne (kX.up (xσ11.trans (xτ7.trans (xσ17_1.trans xτ116)))) (kth.up (xσ11.trans (xτ7.trans (xσ17_1.trans xτ116)))) (by decide)))
                    have kp64 : gP σ19_1 th 0 = gP τ116 th 0 := by rw [eσ19_1]
                    have kp65 : gI σ19_1 th 2 = gI τ116 th 2 := by rw [eσ19_1]; exact up2_n _ _ (fun q => absurd q.2 (by decide))
                    intro σ20_1 eσ20_1
                    have xσ20_1 : Ext σ19_1 σ20_1 := by rw [eσ20_1]; exact fun _ h => ⟨h, rfl, rfl⟩
                    have iσ20_1 : IV σ20_1 pl gq ci gr nc ot LL N nu := by rw [eσ20_1]; exact iσ19_1.wJ (kth.up (xσ11.trans (xτ7.trans (xσ17_1.trans (xτ116.trans xσ19_1))))) (by decide)
                    have fσ20_1 : Fx [386, 387, 388] gr σ σ20_1 := fσ19_1.tr (Sk.fx (by rw [eσ20_1]; exact Sk.pJ (by rw [fcdO (kth.up (xσ11.trans (xτ7.trans (xσ17_1.trans (xτ116.trans xσ19_1))))) (by decide)]; decide)))
                    have kp66 : gI σ20_1 th 1 = gI σ19_1 th 1 := by rw [eσ20_1]
                    have kp67 : gI σ20_1 th 3 = gI σ19_1 th 3 := by rw [eσ20_1]
                    have kp68 : gI σ20_1 th 5 = gI σ19_1 th 5 := by rw [eσ20_1]
                    have kp69 : gI σ20_1 tx (gI σ th 2).toNat = gI σ19_1 tx (gI σ th 2).toNat := by rw [eσ20_1]
                    have kp70 : gP σ20_1 th 0 = gP σ19_1 th 0 := by rw [eσ20_1]
                    have kp71 : gI σ20_1 th 2 = gI σ19_1 th 2 := by rw [eσ20_1]
                    have v20 : gJ σ20_1 th 4 = Int64.ofInt v1 := by rw [eσ20_1]; exact up2_s _ _ _ _
                    have kv20 : KV σ20_1 th := fun _ => by rw [v20, of_int (by omega)]; omega
                    unfold w_X6_word_156
                    refine ⟨by (first | omega | with_reducible assumption | with_reducible exact rng_toInt _ | with_reducible exact rng_wr _ | (unfold rng; omega) | (unfold rng at *; omega) | assumption), ?_⟩
                    exact ih116 σ20_1 (v1 + 1) iσ20_1 fσ20_1 (xτ116.trans (xσ19_1.trans xσ20_1)) (⟨by first | exact kv20 | exact fun e => absurd e (by omega), by omega⟩) (by (first | omega | with_reducible assumption | with_reducible exact rng_toInt _ | with_reducible exact rng_wr _ | (unfold rng; omega) | (unfold rng at *; omega) | assumption))
          exact ⟨_, Lp116 _ σ17_1 _ iσ17_1 fσ17_1 (Ext.rfl' _) (⟨fun e => absurd e (by omega), by omega⟩) (Nat.lt_succ_self _)⟩
      · rw [if_neg hc16]
        unfold w_X6_word_14
        have q73 := I_6_2 iτ7.1 (kth.up (xσ11.trans xτ7))
        by_cases hc72 : gI τ7 th 2 ≥ gI τ7 th 1
        · rw [if_pos hc72]
          unfold w_X6_word_91
          have pr9 : gI σ th 2 + 1 ≤ gI τ7 th 2 := by by_cases e0 : v1 = 0; (exfalso; have e1 := hi7.2.2.1 e0; have e2 : gI τ7 tx (gI τ7 th 2).toNat = gI σ tx (gI σ th 2).toNat := (by rw [xk7, e1]); omega); (have := hi7.2.2.2 (by omega); omega)
          have q74 := I_6_5 iτ7.1 (kth.up (xσ11.trans xτ7))
          refine ⟨by (first | omega | with_reducible assumption | with_reducible exact rng_toInt _ | with_reducible exact rng_wr _ | (unfold rng; omega) | (unfold rng at *; omega) | assumption), ?_⟩
          by_cases hc75 : (gI τ7 th 2 - gI τ7 th 5) ≤ 6
          · rw [if_pos hc75]
            unfold w_X6_word_110
            unfold w_X6_word_111
            intro σ17_2 eσ17_2
            have xσ17_2 : Ext τ7 σ17_2 := by rw [eσ17_2]; exact fun _ h => ⟨h, rfl, rfl⟩
            have iσ17_2 : IV σ17_2 pl gq ci gr nc ot LL N nu := by rw [eσ17_2]; exact iτ7.wO (kth.up (xσ11.trans xτ7)) (by decide) (rngb (by first | exact rng_wr _ | (first | omega | with_reducible assumption | with_reducible exact rng_toInt _ | with_reducible exact rng_wr _ | (unfold rng; omega) | (unfold rng at *; omega) | assumption)))
            have fσ17_2 : Fx [386, 387, 388] gr σ σ17_2 := fτ7.tr (Sk.fx (by rw [eσ17_2]; exact Sk.pI (by rw [fcdO (kth.up (xσ11.trans xτ7)) (by decide)]; decide)))
            have wσ17_2 : gI σ17_2 th 3 = 1 := by rw [eσ17_2]; exact up2_s _ _ _ _
            have kp76 : gI σ17_2 th 1 = gI τ7 th 1 := by rw [eσ17_2]; exact up2_n _ _ (fun q => absurd q.2 (by decide))
            have kp77 : gI σ17_2 th 2 = gI τ7 th 2 := by rw [eσ17_2]; exact up2_n _ _ (fun q => absurd q.2 (by decide))
            have kp78 : gI σ17_2 th 5 = gI τ7 th 5 := by rw [eσ17_2]; exact up2_n _ _ (fun q => absurd q.2 (by decide))
            have kp79 : gI σ17_2 tx (gI σ th 2).toNat = gI τ7 tx (gI σ th 2).toNat := by rw [eσ17_2]; exact up2_n _ _ (fun q => absurd q.1 (kO.ne (kX.up (xσ11.trans xτ7)) (kth.up (xσ11.trans xτ7)) (by decide)))
            have kp80 : gP σ17_2 th 0 = gP τ7 th 0 := by rw [eσ17_2]
            have Lp116 : ∀ (fu116 : Nat) (τ116 : Sg) (v1 : Int), IV τ116 pl gq ci gr nc ot LL N nu → Fx [386, 387, 388] gr σ τ116 → Ext σ17_2 τ116 → (KV τ116 th ∧ (0 ≤ v1 ∧ v1 ≤ 23) ∧ gI τ116 th 3 ≠ 0 ∧ gI σ th 2 + 1 ≤ gI τ116 th 2) → ((23 - v1).toNat) < fu116 → wl_X6_word_116 th Q X fu116 τ116 v1 := by
              intro fu116
              induction fu116 with
              | zero => intro _ _ _ _ _ _ h9; omega
              | succ fu116 ih116 =>
                intro τ116 v1 iτ116 fτ116 xτ116 hi116 hm116
                unfold wl_X6_word_116
                have kp81 : gI τ116 th 1 = gI σ th 1 := (fτ116.O kth (by decide)).1
                have kp82 : gI τ116 tx (gI σ th 2).toNat = gI σ tx (gI σ th 2).toNat := (fτ116.A kX (by decide)).1
                have kp83 : gP τ116 th 0 = gP σ th 0 := (fτ116.O kth (by decide)).2.1
                have kp84 : gI τ116 th 5 = gI σ th 5 := (fτ116.O kth (by decide)).1
                have kp85 : gI τ116 th 1 = gI σ17_2 th 1 := (fτ116.O kth (by decide)).1.trans (fσ17_2.O kth (by decide)).1.symm
                have kp86 : gI τ116 th 5 = gI σ17_2 th 5 := (fτ116.O kth (by decide)).1.trans (fσ17_2.O kth (by decide)).1.symm
                unfold w_X6_word_116
                by_cases hc87 : v1 ≥ 23
                · rw [if_pos hc87]
                  unfold w_X6_word_162
                  exact hQ τ116 () iτ116 fτ116 (⟨hi116.1, by omega⟩)
                · rw [if_neg hc87]
                  unfold w_X6_word_124
                  have q89 := iτ116.rg th 3; unfold rng at q89
                  by_cases hc88 : gI τ116 th 3 ≠ 1
                  · rw [if_pos hc88]
                    unfold w_X6_word_162
                    exact hQ τ116 () iτ116 fτ116 (⟨hi116.1, by omega⟩)
                  · rw [if_neg hc88]
                    have hc88q := Classical.not_not.mp hc88
                    unfold w_X6_word_132
                    refine ⟨⟨by (first | omega | with_reducible assumption | with_reducible exact rng_toInt _ | with_reducible exact rng_wr _ | (unfold rng; omega) | (unfold rng at *; omega) | assumption), by (first | omega | with_reducible assumption | with_reducible exact rng_toInt _ | with_reducible exact rng_wr _ | (unfold rng; omega) | (unfold rng at *; omega) | assumption)⟩, ?_⟩
                    intro k18_2
                    by_cases hc90 : gJ τ116 th 4 ≠ k18_2
                    · rw [if_pos hc90]
                      unfold w_X6_word_156
                      refine ⟨by (first | omega | with_reducible assumption | with_reducible exact rng_toInt _ | with_reducible exact rng_wr _ | (unfold rng; omega) | (unfold rng at *; omega) | assumption), ?_⟩
                      exact ih116 τ116 (v1 + 1) iτ116 fτ116 xτ116 (⟨by first | exact kv20 | exact fun e => absurd e (by omega), by omega⟩) (by (first | omega | with_reducible assumption | with_reducible exact rng_toInt _ | with_reducible exact rng_wr _ | (unfold rng; omega) | (unfold rng at *; omega) | assumption))
                    · rw [if_neg hc90]
                      have hc90q := Classical.not_not.mp hc90
                      unfold w_X6_word_145
                      intro σ19_2 eσ19_2
                      have xσ19_2 : Ext τ116 σ19_2 := by rw [eσ19_2]; exact fun _ h => ⟨h, rfl, rfl⟩
                      have iσ19_2 : IV σ19_2 pl gq ci gr nc ot LL N nu := by rw [eσ19_2]; exact iτ116.wO (kth.up (xσ11.trans (xτ7.trans (xσ17_2.trans xτ116)))) (by decide) (rngb (by first | exact rng_wr _ | (first | omega | with_reducible assumption | with_reducible exact rng_toInt _ | with_reducible exact rng_wr _ | (unfold rng; omega) | (unfold rng at *; omega) | assumption)))
                      have fσ19_2 : Fx [386, 387, 388] gr σ σ19_2 := fτ116.tr (Sk.fx (by rw [eσ19_2]; exact Sk.pI (by rw [fcdO (kth.up (xσ11.trans (xτ7.trans (xσ17_2.trans xτ116)))) (by decide)]; decide)))
                      have wσ19_2 : gI σ19_2 th 3 = 2 := by rw [eσ19_2]; exact up2_s _ _ _ _
                      have kp91 : gI σ19_2 th 1 = gI τ116 th 1 := by rw [eσ19_2]; exact up2_n _ _ (fun q => absurd q.2 (by decide))
                      have kp92 : gI σ19_2 th 5 = gI τ116 th 5 := by rw [eσ19_2]; exact up2_n _ _ (fun q => absurd q.2 (by decide))
                      have kp93 : gI σ19_2 tx (gI σ th 2).toNat = gI τ116 tx (gI σ th 2).toNat := by rw [eσ19_2]; exact up2_n _ _ (fun q => absurd q.1 (kO.ne (kX.up (xσ11.trans (xτ7.trans (xσ17_2.trans xτ116)))) (kth.up (xσ11.trans (xτ7.trans (xσ17_2.trans xτ116)))) (by decide)))
                      have kp94 : gP σ19_2 th 0 = gP τ116 th 0 := by rw [eσ19_2]
                      have kp95 : gI σ19_2 th 2 = gI τ116 th 2 := by rw [eσ19_2]; exact up2_n _ _ (fun q => absurd q.2 (by decide))
                      intro σ20_2 eσ20_2
                      have xσ20_2 : Ext σ19_2 σ20_2 := by rw [eσ20_2]; exact fun _ h => ⟨h, rfl, rfl⟩
                      have iσ20_2 : IV σ20_2 pl gq ci gr nc ot LL N nu := by rw [eσ20_2]; exact iσ19_2.wJ (kth.up (xσ11.trans (xτ7.trans (xσ17_2.trans (xτ116.trans xσ19_2))))) (by decide)
                      have fσ20_2 : Fx [386, 387, 388] gr σ σ20_2 := fσ19_2.tr (Sk.fx (by rw [eσ20_2]; exact Sk.pJ (by rw [fcdO (kth.up (xσ11.trans (xτ7.trans (xσ17_2.trans (xτ116.trans xσ19_2))))) (by decide)]; decide)))
                      have kp96 : gI σ20_2 th 1 = gI σ19_2 th 1 := by rw [eσ20_2]
                      have kp97 : gI σ20_2 th 3 = gI σ19_2 th 3 := by rw [eσ20_2]
                      have kp98 : gI σ20_2 th 5 = gI σ19_2 th 5 := by rw [eσ20_2]
                      have kp99 : gI σ20_2 tx (gI σ th 2).toNat = gI σ19_2 tx (gI σ th 2).toNat := by rw [eσ20_2]
                      have kp100 : gP σ20_2 th 0 = gP σ19_2 th 0 := by rw [eσ20_2]
                      have kp101 : gI σ20_2 th 2 = gI σ19_2 th 2 := by rw [eσ20_2]
                      have v20 : gJ σ20_2 th 4 = Int64.ofInt v1 := by rw [eσ20_2]; exact up2_s _ _ _ _
                      have kv20 : KV σ20_2 th := fun _ => by rw [v20, of_int (by omega)]; omega
                      unfold w_X6_word_156
                      refine ⟨by (first | omega | with_reducible assumption | with_reducible exact rng_toInt _ | with_reducible exact rng_wr _ | (unfold rng; omega) | (unfold rng at *; omega) | assumption), ?_⟩
                      exact ih116 σ20_2 (v1 + 1) iσ20_2 fσ20_2 (xτ116.trans (xσ19_2.trans xσ20_2)) (⟨by first | exact kv20 | exact fun e => absurd e (by omega), by omega⟩) (by (first | omega | with_reducible assumption | with_reducible exact rng_toInt _ | with_reducible exact rng_wr _ | (unfold rng; omega) | (unfold rng at *; omega) | assumption))
            exact ⟨_, Lp116 _ σ17_2 _ iσ17_2 fσ17_2 (Ext.rfl' _) (⟨fun e => absurd e (by omega), by omega⟩) (Nat.lt_succ_self _)⟩
          · rw [if_neg hc75]
            unfold w_X6_word_106
            unfold w_X6_word_111
            intro σ17_3 eσ17_3
            have xσ17_3 : Ext τ7 σ17_3 := by rw [eσ17_3]; exact fun _ h => ⟨h, rfl, rfl⟩
            have iσ17_3 : IV σ17_3 pl gq ci gr nc ot LL N nu := by rw [eσ17_3]; exact iτ7.wO (kth.up (xσ11.trans xτ7)) (by decide) (rngb (by first | exact rng_wr _ | (first | omega | with_reducible assumption | with_reducible exact rng_toInt _ | with_reducible exact rng_wr _ | (unfold rng; omega) | (unfold rng at *; omega) | assumption)))
            have fσ17_3 : Fx [386, 387, 388] gr σ σ17_3 := fτ7.tr (Sk.fx (by rw [eσ17_3]; exact Sk.pI (by rw [fcdO (kth.up (xσ11.trans xτ7)) (by decide)]; decide)))
            have wσ17_3 : gI σ17_3 th 3 = 3 := by rw [eσ17_3]; exact up2_s _ _ _ _
            have kp102 : gI σ17_3 th 1 = gI τ7 th 1 := by rw [eσ17_3]; exact up2_n _ _ (fun q => absurd q.2 (by decide))
            have kp103 : gI σ17_3 th 2 = gI τ7 th 2 := by rw [eσ17_3]; exact up2_n _ _ (fun q => absurd q.2 (by decide))
            have kp104 : gI σ17_3 th 5 = gI τ7 th 5 := by rw [eσ17_3]; exact up2_n _ _ (fun q => absurd q.2 (by decide))
            have kp105 : gI σ17_3 tx (gI σ th 2).toNat = gI τ7 tx (gI σ th 2).toNat := by rw [eσ17_3]; exact up2_n _ _ (fun q => absurd q.1 (kO.ne (kX.up (xσ11.trans xτ7)) (kth.up (xσ11.trans xτ7)) (by decide)))
            have kp106 : gP σ17_3 th 0 = gP τ7 th 0 := by rw [eσ17_3]
            have Lp116 : ∀ (fu116 : Nat) (τ116 : Sg) (v1 : Int), IV τ116 pl gq ci gr nc ot LL N nu → Fx [386, 387, 388] gr σ τ116 → Ext σ17_3 τ116 → (KV τ116 th ∧ (0 ≤ v1 ∧ v1 ≤ 23) ∧ gI τ116 th 3 ≠ 0 ∧ gI σ th 2 + 1 ≤ gI τ116 th 2) → ((23 - v1).toNat) < fu116 → wl_X6_word_116 th Q X fu116 τ116 v1 := by
              intro fu116
              induction fu116 with
              | zero => intro _ _ _ _ _ _ h9; omega
              | succ fu116 ih116 =>
                intro τ116 v1 iτ116 fτ116 xτ116 hi116 hm116
                unfold wl_X6_word_116
                have kp107 : gI τ116 th 1 = gI σ th 1 := (fτ116.O kth (by decide)).1
                have kp108 : gI τ116 tx (gI σ th 2).toNat = gI σ tx (gI σ th 2).toNat := (fτ116.A kX (by decide)).1
                have kp109 : gP τ116 th 0 = gP σ th 0 := (fτ116.O kth (by decide)).2.1
                have kp110 : gI τ116 th 5 = gI σ th 5 := (fτ116.O kth (by decide)).1
                have kp111 : gI τ116 th 1 = gI σ17_3 th 1 := (fτ116.O kth (by decide)).1.trans (fσ17_3.O kth (by decide)).1.symm
                have kp112 : gI τ116 th 5 = gI σ17_3 th 5 := (fτ116.O kth (by decide)).1.trans (fσ17_3.O kth (by decide)).1.symm
                unfold w_X6_word_116
                by_cases hc113 : v1 ≥ 23
                · rw [if_pos hc113]
                  unfold w_X6_word_162
                  exact hQ τ116 () iτ116 fτ116 (⟨hi116.1, by omega⟩)
                · rw [if_neg hc113]
                  unfold w_X6_word_124
                  have q115 := iτ116.rg th 3; unfold rng at q115
                  by_cases hc114 : gI τ116 th 3 ≠ 1
                  · rw [if_pos hc114]
                    unfold w_X6_word_162
                    exact hQ τ116 () iτ116 fτ116 (⟨hi116.1, by omega⟩)
                  · rw [if_neg hc114]
                    have hc114q := Classical.not_not.mp hc114
                    unfold w_X6_word_132
                    refine ⟨⟨by (first | omega | with_reducible assumption | with_reducible exact rng_toInt _ | with_reducible exact rng_wr _ | (unfold rng; omega) | (unfold rng at *; omega) | assumption), by (first | omega | with_reducible assumption | with_reducible exact rng_toInt _ | with_reducible exact rng_wr _ | (unfold rng; omega) | (unfold rng at *; omega) | assumption)⟩, ?_⟩
                    intro k18_3
                    by_cases hc116 : gJ τ116 th 4 ≠ k18_3
                    · rw [if_pos hc116]
                      unfold w_X6_word_156
                      refine ⟨by (first | omega | with_reducible assumption | with_reducible exact rng_toInt _ | with_reducible exact rng_wr _ | (unfold rng; omega) | (unfold rng at *; omega) | assumption), ?_⟩
                      exact ih116 τ116 (v1 + 1) iτ116 fτ116 xτ116 (⟨by first | exact kv20 | exact fun e => absurd e (by omega), by omega⟩) (by (first | omega | with_reducible assumption | with_reducible exact rng_toInt _ | with_reducible exact rng_wr _ | (unfold rng; omega) | (unfold rng at *; omega) | assumption))
                    · rw [if_neg hc116]
                      have hc116q := Classical.not_not.mp hc116
                      unfold w_X6_word_145
                      intro σ19_3 eσ19_3
                      have xσ19_3 : Ext τ116 σ19_3 := by rw [eσ19_3]; exact fun _ h => ⟨h, rfl, rfl⟩
                      have iσ19_3 : IV σ19_3 pl gq ci gr nc ot LL N nu := by rw [eσ19_3]; exact iτ116.wO (kth.up (xσ11.trans (xτ7.trans (xσ17_3.trans xτ116)))) (by decide) (rngb (by first | exact rng_wr _ | (first | omega | with_reducible assumption | with_reducible exact rng_toInt _ | with_reducible exact rng_wr _ | (unfold rng; omega) | (unfold rng at *; omega) | assumption)))
                      have fσ19_3 : Fx [386, 387, 388] gr σ σ19_3 := fτ116.tr (Sk.fx (by rw [eσ19_3]; exact Sk.pI (by rw [fcdO (kth.up (xσ11.trans (xτ7.trans (xσ17_3.trans xτ116)))) (by decide)]; decide)))
                      have wσ19_3 : gI σ19_3 th 3 = 2 := by rw [eσ19_3]; exact up2_s _ _ _ _
                      have kp117 : gI σ19_3 th 1 = gI τ116 th 1 := by rw [eσ19_3]; exact up2_n _ _ (fun q => absurd q.2 (by decide))
                      have kp118 : gI σ19_3 th 5 = gI τ116 th 5 := by rw [eσ19_3]; exact up2_n _ _ (fun q => absurd q.2 (by decide))
                      have kp119 : gI σ19_3 tx (gI σ th 2).toNat = gI τ116 tx (gI σ th 2).toNat := by rw [eσ19_3]; exact up2_n _ _ (fun q => absurd q.1 (kO.ne (kX.up (xσ11.trans (xτ7.trans (xσ17_3.trans xτ116)))) (kth.up (xσ11.trans (xτ7.trans (xσ17_3.trans xτ116)))) (by decide)))
                      have kp120 : gP σ19_3 th 0 = gP τ116 th 0 := by rw [eσ19_3]
                      have kp121 : gI σ19_3 th 2 = gI τ116 th 2 := by rw [eσ19_3]; exact up2_n _ _ (fun q => absurd q.2 (by decide))
                      intro σ20_3 eσ20_3
                      have xσ20_3 : Ext σ19_3 σ20_3 := by rw [eσ20_3]; exact fun _ h => ⟨h, rfl, rfl⟩
                      have iσ20_3 : IV σ20_3 pl gq ci gr nc ot LL N nu := by rw [eσ20_3]; exact iσ19_3.wJ (kth.up (xσ11.trans (xτ7.trans (xσ17_3.trans (xτ116.trans xσ19_3))))) (by decide)
                      have fσ20_3 : Fx [386, 387, 388] gr σ σ20_3 := fσ19_3.tr (Sk.fx (by rw [eσ20_3]; exact Sk.pJ (by rw [fcdO (kth.up (xσ11.trans (xτ7.trans (xσ17_3.trans (xτ116.trans xσ19_3))))) (by decide)]; decide)))
                      have kp122 : gI σ20_3 th 1 = gI σ19_3 th 1 := by rw [eσ20_3]
                      have kp123 : gI σ20_3 th 3 = gI σ19_3 th 3 := by rw [eσ20_3]
                      have kp124 : gI σ20_3 th 5 = gI σ19_3 th 5 := by rw [eσ20_3]
                      have kp125 : gI σ20_3 tx (gI σ th 2).toNat = gI σ19_3 tx (gI σ th 2).toNat := by rw [eσ20_3]
                      have kp126 : gP σ20_3 th 0 = gP σ19_3 th 0 := by rw [eσ20_3]
                      have kp127 : gI σ20_3 th 2 = gI σ19_3 th 2 := by rw [eσ20_3]
                      have v20 : gJ σ20_3 th 4 = Int64.ofInt v1 := by rw [eσ20_3]; exact up2_s _ _ _ _
                      have kv20 : KV σ20_3 th := fun _ => by rw [v20, of_int (by omega)]; omega
                      unfold w_X6_word_156
                      refine ⟨by (first | omega | with_reducible assumption | with_reducible exact rng_toInt _ | with_reducible exact rng_wr _ | (unfold rng; omega) | (unfold rng at *; omega) | assumption), ?_⟩
                      exact ih116 σ20_3 (v1 + 1) iσ20_3 fσ20_3 (xτ116.trans (xσ19_3.trans xσ20_3)) (⟨by first | exact kv20 | exact fun e => absurd e (by omega), by omega⟩) (by (first | omega | with_reducible assumption | with_reducible exact rng_toInt _ | with_reducible exact rng_wr _ | (unfold rng; omega) | (unfold rng at *; omega) | assumption))
            exact ⟨_, Lp116 _ σ17_3 _ iσ17_3 fσ17_3 (Ext.rfl' _) (⟨fun e => absurd e (by omega), by omega⟩) (Nat.lt_succ_self _)⟩
        · rw [if_neg hc72]
          unfold w_X6_word_25
          refine ⟨tx, (kp12.trans hX0), fun kk_tx => ?_⟩
          have q128 := ((xσ11.trans xτ7) tx kX.1).2.2
          refine ⟨⟨by (first | omega | with_reducible assumption | with_reducible exact rng_toInt _ | with_reducible exact rng_wr _ | (unfold rng; omega) | (unfold rng at *; omega) | assumption), by (first | omega | with_reducible assumption | with_reducible exact rng_toInt _ | with_reducible exact rng_wr _ | (unfold rng; omega) | (unfold rng at *; omega) | assumption)⟩, ?_⟩
          have q130 := iτ7.rg tx (gI τ7 th 2).toNat; unfold rng at q130
          by_cases hc129 : (gI τ7 tx (gI τ7 th 2).toNat) < 97
          · rw [if_pos hc129]
            unfold w_X6_word_91
            have pr9 : gI σ th 2 + 1 ≤ gI τ7 th 2 := by by_cases e0 : v1 = 0; (exfalso; have e1 := hi7.2.2.1 e0; have e2 : gI τ7 tx (gI τ7 th 2).toNat = gI σ tx (gI σ th 2).toNat := (by rw [xk7, e1]); omega); (have := hi7.2.2.2 (by omega); omega)
            have q131 := I_6_5 iτ7.1 (kth.up (xσ11.trans xτ7))
            refine ⟨by (first | omega | with_reducible assumption | with_reducible exact rng_toInt _ | with_reducible exact rng_wr _ | (unfold rng; omega) | (unfold rng at *; omega) | assumption), ?_⟩
            by_cases hc132 : (gI τ7 th 2 - gI τ7 th 5) ≤ 6
            · rw [if_pos hc132]
              unfold w_X6_word_110
              unfold w_X6_word_111
              intro σ17_4 eσ17_4
              have xσ17_4 : Ext τ7 σ17_4 := by rw [eσ17_4]; exact fun _ h => ⟨h, rfl, rfl⟩
              have iσ17_4 : IV σ17_4 pl gq ci gr nc ot LL N nu := by rw [eσ17_4]; exact iτ7.wO (kth.up (xσ11.trans xτ7)) (by decide) (rngb (by first | exact rng_wr _ | (first | omega | with_reducible assumption | with_reducible exact rng_toInt _ | with_reducible exact rng_wr _ | (unfold rng; omega) | (unfold rng at *; omega) | assumption)))
              have fσ17_4 : Fx [386, 387, 388] gr σ σ17_4 := fτ7.tr (Sk.fx (by rw [eσ17_4]; exact Sk.pI (by rw [fcdO (kth.up (xσ11.trans xτ7)) (by decide)]; decide)))
              have wσ17_4 : gI σ17_4 th 3 = 1 := by rw [eσ17_4]; exact up2_s _ _ _ _
              have kp133 : gI σ17_4 th 1 = gI τ7 th 1 := by rw [eσ17_4]; exact up2_n _ _ (fun q => absurd q.2 (by decide))
              have kp134 : gI σ17_4 th 2 = gI τ7 th 2 := by rw [eσ17_4]; exact up2_n _ _ (fun q => absurd q.2 (by decide))
              have kp135 : gI σ17_4 th 5 = gI τ7 th 5 := by rw [eσ17_4]; exact up2_n _ _ (fun q => absurd q.2 (by decide))
              have kp136 : gI σ17_4 tx (gI σ th 2).toNat = gI τ7 tx (gI σ th 2).toNat := by rw [eσ17_4]; exact up2_n _ _ (fun q => absurd q.1 (kO.ne (kX.up (xσ11.trans xτ7)) (kth.up (xσ11.trans xτ7)) (by decide)))
              have kp137 : gI σ17_4 tx (gI τ7 th 2).toNat = gI τ7 tx (gI τ7 th 2).toNat := by rw [eσ17_4]; exact up2_n _ _ (fun q => absurd q.1 (kO.ne (kX.up (xσ11.trans xτ7)) (kth.up (xσ11.trans xτ7)) (by decide)))
              have kp138 : gP σ17_4 th 0 = gP τ7 th 0 := by rw [eσ17_4]
              have Lp116 : ∀ (fu116 : Nat) (τ116 : Sg) (v1 : Int), IV τ116 pl gq ci gr nc ot LL N nu → Fx [386, 387, 388] gr σ τ116 → Ext σ17_4 τ116 → (KV τ116 th ∧ (0 ≤ v1 ∧ v1 ≤ 23) ∧ gI τ116 th 3 ≠ 0 ∧ gI σ th 2 + 1 ≤ gI τ116 th 2) → ((23 - v1).toNat) < fu116 → wl_X6_word_116 th Q X fu116 τ116 v1 := by
                intro fu116
                induction fu116 with
                | zero => intro _ _ _ _ _ _ h9; omega
                | succ fu116 ih116 =>
                  intro τ116 v1 iτ116 fτ116 xτ116 hi116 hm116
                  unfold wl_X6_word_116
                  have kp139 : gI τ116 th 1 = gI σ th 1 := (fτ116.O kth (by decide)).1
                  have kp140 : gI τ116 tx (gI σ th 2).toNat = gI σ tx (gI σ th 2).toNat := (fτ116.A kX (by decide)).1
                  have kp141 : gP τ116 th 0 = gP σ th 0 := (fτ116.O kth (by decide)).2.1
                  have kp142 : gI τ116 th 5 = gI σ th 5 := (fτ116.O kth (by decide)).1
                  have kp143 : gI τ116 th 1 = gI σ17_4 th 1 := (fτ116.O kth (by decide)).1.trans (fσ17_4.O kth (by decide)).1.symm
                  have kp144 : gI τ116 th 5 = gI σ17_4 th 5 := (fτ116.O kth (by decide)).1.trans (fσ17_4.O kth (by decide)).1.symm
                  unfold w_X6_word_116
                  by_cases hc145 : v1 ≥ 23
                  · rw [if_pos hc145]
                    unfold w_X6_word_162
                    exact hQ τ116 () iτ116 fτ116 (⟨hi116.1, by omega⟩)
                  · rw [if_neg hc145]
                    unfold w_X6_word_124
                    have q147 := iτ116.rg th 3; unfold rng at q147
                    by_cases hc146 : gI τ116 th 3 ≠ 1
                    · rw [if_pos hc146]
                      unfold w_X6_word_162
                      exact hQ τ116 () iτ116 fτ116 (⟨hi116.1, by omega⟩)
                    · rw [if_neg hc146]
                      have hc146q := Classical.not_not.mp hc146
                      unfold w_X6_word_132
                      refine ⟨⟨by (first | omega | with_reducible assumption | with_reducible exact rng_toInt _ | with_reducible exact rng_wr _ | (unfold rng; omega) | (unfold rng at *; omega) | assumption), by (first | omega | with_reducible assumption | with_reducible exact rng_toInt _ | with_reducible exact rng_wr _ | (unfold rng; omega) | (unfold rng at *; omega) | assumption)⟩, ?_⟩
                      intro k18_4
                      by_cases hc148 : gJ τ116 th 4 ≠ k18_4
                      · rw [if_pos hc148]
                        unfold w_X6_word_156
                        refine ⟨by (first | omega | with_reducible assumption | with_reducible exact rng_toInt _ | with_reducible exact rng_wr _ | (unfold rng; omega) | (unfold rng at *; omega) | assumption), ?_⟩
                        exact ih116 τ116 (v1 + 1) iτ116 fτ116 xτ116 (⟨by first | exact kv20 | exact fun e => absurd e (by omega), by omega⟩) (by (first | omega | with_reducible assumption | with_reducible exact rng_toInt _ | with_reducible exact rng_wr _ | (unfold rng; omega) | (unfold rng at *; omega) | assumption))
                      · rw [if_neg hc148]
                        have hc148q := Classical.not_not.mp hc148
                        unfold w_X6_word_145
                        intro σ19_4 eσ19_4
                        have xσ19_4 : Ext τ116 σ19_4 := by rw [eσ19_4]; exact fun _ h => ⟨h, rfl, rfl⟩
                        have iσ19_4 : IV σ19_4 pl gq ci gr nc ot LL N nu := by rw [eσ19_4]; exact iτ116.wO (kth.up (xσ11.trans (xτ7.trans (xσ17_4.trans xτ116)))) (by decide) (rngb (by first | exact rng_wr _ | (first | omega | with_reducible assumption | with_reducible exact rng_toInt _ | with_reducible exact rng_wr _ | (unfold rng; omega) | (unfold rng at *; omega) | assumption)))
                        have fσ19_4 : Fx [386, 387, 388] gr σ σ19_4 := fτ116.tr (Sk.fx (by rw [eσ19_4]; exact Sk.pI (by rw [fcdO (kth.up (xσ11.trans (xτ7.trans (xσ17_4.trans xτ116)))) (by decide)]; decide)))
                        have wσ19_4 : gI σ19_4 th 3 = 2 := by rw [eσ19_4]; exact up2_s _ _ _ _
                        have kp149 : gI σ19_4 th 1 = gI τ116 th 1 := by rw [eσ19_4]; exact up2_n _ _ (fun q => absurd q.2 (by decide))
                        have kp150 : gI σ19_4 th 5 = gI τ116 th 5 := by rw [eσ19_4]; exact up2_n _ _ (fun q => absurd q.2 (by decide))
                        have kp151 : gI σ19_4 tx (gI σ th 2).toNat = gI τ116 tx (gI σ th 2).toNat := by rw [eσ19_4]; exact up2_n _ _ (fun q => absurd q.1 (kO.ne (kX.up (xσ11.trans (xτ7.trans (xσ17_4.trans xτ116)))) (kth.up (xσ11.trans (xτ7.trans (xσ17_4.trans xτ116)))) (by decide)))
                        have kp152 : gP σ19_4 th 0 = gP τ116 th 0 := by rw [eσ19_4]
                        have kp153 : gI σ19_4 th 2 = gI τ116 th 2 := by rw [eσ19_4]; exact up2_n _ _ (fun q => absurd q.2 (by decide))
                        intro σ20_4 eσ20_4
                        have xσ20_4 : Ext σ19_4 σ20_4 := by rw [eσ20_4]; exact fun _ h => ⟨h, rfl, rfl⟩
                        have iσ20_4 : IV σ20_4 pl gq ci gr nc ot LL N nu := by rw [eσ20_4]; exact iσ19_4.wJ (kth.up (xσ11.trans (xτ7.trans (xσ17_4.trans (xτ116.trans xσ19_4))))) (by decide)
                        have fσ20_4 : Fx [386, 387, 388] gr σ σ20_4 := fσ19_4.tr (Sk.fx (by rw [eσ20_4]; exact Sk.pJ (by rw [fcdO (kth.up (xσ11.trans (xτ7.trans (xσ17_4.trans (xτ116.trans xσ19_4))))) (by decide)]; decide)))
                        have kp154 : gI σ20_4 th 1 = gI σ19_4 th 1 := by rw [eσ20_4]
                        have kp155 : gI σ20_4 th 3 = gI σ19_4 th 3 := by rw [eσ20_4]
                        have kp156 : gI σ20_4 th 5 = gI σ19_4 th 5 := by rw [eσ20_4]
                        have kp157 : gI σ20_4 tx (gI σ th 2).toNat = gI σ19_4 tx (gI σ th 2).toNat := by rw [eσ20_4]
                        have kp158 : gP σ20_4 th 0 = gP σ19_4 th 0 := by rw [eσ20_4]
                        have kp159 : gI σ20_4 th 2 = gI σ19_4 th 2 := by rw [eσ20_4]
                        have v20 : gJ σ20_4 th 4 = Int64.ofInt v1 := by rw [eσ20_4]; exact up2_s _ _ _ _
                        have kv20 : KV σ20_4 th := fun _ => by rw [v20, of_int (by omega)]; omega
                        unfold w_X6_word_156
                        refine ⟨by (first | omega | with_reducible assumption | with_reducible exact rng_toInt _ | with_reducible exact rng_wr _ | (unfold rng; omega) | (unfold rng at *; omega) | assumption), ?_⟩
                        exact ih116 σ20_4 (v1 + 1) iσ20_4 fσ20_4 (xτ116.trans (xσ19_4.trans xσ20_4)) (⟨by first | exact kv20 | exact fun e => absurd e (by omega), by omega⟩) (by (first | omega | with_reducible assumption | with_reducible exact rng_toInt _ | with_reducible exact rng_wr _ | (unfold rng; omega) | (unfold rng at *; omega) | assumption))
              exact ⟨_, Lp116 _ σ17_4 _ iσ17_4 fσ17_4 (Ext.rfl' _) (⟨fun e => absurd e (by omega), by omega⟩) (Nat.lt_succ_self _)⟩
            · rw [if_neg hc132]
              unfold w_X6_word_106
              unfold w_X6_word_111
              intro σ17_5 eσ17_5
              have xσ17_5 : Ext τ7 σ17_5 := by rw [eσ17_5]; exact fun _ h => ⟨h, rfl, rfl⟩
              have iσ17_5 : IV σ17_5 pl gq ci gr nc ot LL N nu := by rw [eσ17_5]; exact iτ7.wO (kth.up (xσ11.trans xτ7)) (by decide) (rngb (by first | exact rng_wr _ | (first | omega | with_reducible assumption | with_reducible exact rng_toInt _ | with_reducible exact rng_wr _ | (unfold rng; omega) | (unfold rng at *; omega) | assumption)))
              have fσ17_5 : Fx [386, 387, 388] gr σ σ17_5 := fτ7.tr (Sk.fx (by rw [eσ17_5]; exact Sk.pI (by rw [fcdO (kth.up (xσ11.trans xτ7)) (by decide)]; decide)))
              have wσ17_5 : gI σ17_5 th 3 = 3 := by rw [eσ17_5]; exact up2_s _ _ _ _
              have kp160 : gI σ17_5 th 1 = gI τ7 th 1 := by rw [eσ17_5]; exact up2_n _ _ (fun q => absurd q.2 (by decide))
              have kp161 : gI σ17_5 th 2 = gI τ7 th 2 := by rw [eσ17_5]; exact up2_n _ _ (fun q => absurd q.2 (by decide))
              have kp162 : gI σ17_5 th 5 = gI τ7 th 5 := by rw [eσ17_5]; exact up2_n _ _ (fun q => absurd q.2 (by decide))
              have kp163 : gI σ17_5 tx (gI σ th 2).toNat = gI τ7 tx (gI σ th 2).toNat := by rw [eσ17_5]; exact up2_n _ _ (fun q => absurd q.1 (kO.ne (kX.up (xσ11.trans xτ7)) (kth.up (xσ11.trans xτ7)) (by decide)))
              have kp164 : gI σ17_5 tx (gI τ7 th 2).toNat = gI τ7 tx (gI τ7 th 2).toNat := by rw [eσ17_5]; exact up2_n _ _ (fun q => absurd q.1 (kO.ne (kX.up (xσ11.trans xτ7)) (kth.up (xσ11.trans xτ7)) (by decide)))
              have kp165 : gP σ17_5 th 0 = gP τ7 th 0 := by rw [eσ17_5]
              have Lp116 : ∀ (fu116 : Nat) (τ116 : Sg) (v1 : Int), IV τ116 pl gq ci gr nc ot LL N nu → Fx [386, 387, 388] gr σ τ116 → Ext σ17_5 τ116 → (KV τ116 th ∧ (0 ≤ v1 ∧ v1 ≤ 23) ∧ gI τ116 th 3 ≠ 0 ∧ gI σ th 2 + 1 ≤ gI τ116 th 2) → ((23 - v1).toNat) < fu116 → wl_X6_word_116 th Q X fu116 τ116 v1 := by
                intro fu116
                induction fu116 with
                | zero => intro _ _ _ _ _ _ h9; omega
                | succ fu116 ih116 =>
                  intro τ116 v1 iτ116 fτ116 xτ116 hi116 hm116
                  unfold wl_X6_word_116
                  have kp166 : gI τ116 th 1 = gI σ th 1 := (fτ116.O kth (by decide)).1
                  have kp167 : gI τ116 tx (gI σ th 2).toNat = gI σ tx (gI σ th 2).toNat := (fτ116.A kX (by decide)).1
                  have kp168 : gP τ116 th 0 = gP σ th 0 := (fτ116.O kth (by decide)).2.1
                  have kp169 : gI τ116 th 5 = gI σ th 5 := (fτ116.O kth (by decide)).1
                  have kp170 : gI τ116 th 1 = gI σ17_5 th 1 := (fτ116.O kth (by decide)).1.trans (fσ17_5.O kth (by decide)).1.symm
                  have kp171 : gI τ116 th 5 = gI σ17_5 th 5 := (fτ116.O kth (by decide)).1.trans (fσ17_5.O kth (by decide)).1.symm
                  unfold w_X6_word_116
                  by_cases hc172 : v1 ≥ 23
                  · rw [if_pos hc172]
                    unfold w_X6_word_162
                    exact hQ τ116 () iτ116 fτ116 (⟨hi116.1, by omega⟩)
                  · rw [if_neg hc172]
                    unfold w_X6_word_124
                    have q174 := iτ116.rg th 3; unfold rng at q174
                    by_cases hc173 : gI τ116 th 3 ≠ 1
                    · rw [if_pos hc173]
                      unfold w_X6_word_162
                      exact hQ τ116 () iτ116 fτ116 (⟨hi116.1, by omega⟩)
                    · rw [if_neg hc173]
                      have hc173q := Classical.not_not.mp hc173
                      unfold w_X6_word_132
                      refine ⟨⟨by (first | omega | with_reducible assumption | with_reducible exact rng_toInt _ | with_reducible exact rng_wr _ | (unfold rng; omega) | (unfold rng at *; omega) | assumption), by (first | omega | with_reducible assumption | with_reducible exact rng_toInt _ | with_reducible exact rng_wr _ | (unfold rng; omega) | (unfold rng at *; omega) | assumption)⟩, ?_⟩
                      intro k18_5
                      by_cases hc175 : gJ τ116 th 4 ≠ k18_5
                      · rw [if_pos hc175]
                        unfold w_X6_word_156
                        refine ⟨by (first | omega | with_reducible assumption | with_reducible exact rng_toInt _ | with_reducible exact rng_wr _ | (unfold rng; omega) | (unfold rng at *; omega) | assumption), ?_⟩
                        exact ih116 τ116 (v1 + 1) iτ116 fτ116 xτ116 (⟨by first | exact kv20 | exact fun e => absurd e (by omega), by omega⟩) (by (first | omega | with_reducible assumption | with_reducible exact rng_toInt _ | with_reducible exact rng_wr _ | (unfold rng; omega) | (unfold rng at *; omega) | assumption))
                      · rw [if_neg hc175]
                        have hc175q := Classical.not_not.mp hc175
                        unfold w_X6_word_145
                        intro σ19_5 eσ19_5
                        have xσ19_5 : Ext τ116 σ19_5 := by rw [eσ19_5]; exact fun _ h => ⟨h, rfl, rfl⟩
                        have iσ19_5 : IV σ19_5 pl gq ci gr nc ot LL N nu := by rw [eσ19_5]; exact iτ116.wO (kth.up (xσ11.trans (xτ7.trans (xσ17_5.trans xτ116)))) (by decide) (rngb (by first | exact rng_wr _ | (first | omega | with_reducible assumption | with_reducible exact rng_toInt _ | with_reducible exact rng_wr _ | (unfold rng; omega) | (unfold rng at *; omega) | assumption)))
                        have fσ19_5 : Fx [386, 387, 388] gr σ σ19_5 := fτ116.tr (Sk.fx (by rw [eσ19_5]; exact Sk.pI (by rw [fcdO (kth.up (xσ11.trans (xτ7.trans (xσ17_5.trans xτ116)))) (by decide)]; decide)))
                        have wσ19_5 : gI σ19_5 th 3 = 2 := by rw [eσ19_5]; exact up2_s _ _ _ _
                        have kp176 : gI σ19_5 th 1 = gI τ116 th 1 := by rw [eσ19_5]; exact up2_n _ _ (fun q => absurd q.2 (by decide))
                        have kp177 : gI σ19_5 th 5 = gI τ116 th 5 := by rw [eσ19_5]; exact up2_n _ _ (fun q => absurd q.2 (by decide))
                        have kp178 : gI σ19_5 tx (gI σ th 2).toNat = gI τ116 tx (gI σ th 2).toNat := by rw [eσ19_5]; exact up2_n _ _ (fun q => absurd q.1 (kO.ne (kX.up (xσ11.trans (xτ7.trans (xσ17_5.trans xτ116)))) (kth.up (xσ11.trans (xτ7.trans (xσ17_5.trans xτ116)))) (by decide)))
                        have kp179 : gP σ19_5 th 0 = gP τ116 th 0 := by rw [eσ19_5]
                        have kp180 : gI σ19_5 th 2 = gI τ116 th 2 := by rw [eσ19_5]; exact up2_n _ _ (fun q => absurd q.2 (by decide))
                        intro σ20_5 eσ20_5
                        have xσ20_5 : Ext σ19_5 σ20_5 := by rw [eσ20_5]; exact fun _ h => ⟨h, rfl, rfl⟩
                        have iσ20_5 : IV σ20_5 pl gq ci gr nc ot LL N nu := by rw [eσ20_5]; exact iσ19_5.wJ (kth.up (xσ11.trans (xτ7.trans (xσ17_5.trans (xτ116.trans xσ19_5))))) (by decide)
                        have fσ20_5 : Fx [386, 387, 388] gr σ σ20_5 := fσ19_5.tr (Sk.fx (by rw [eσ20_5]; exact Sk.pJ (by rw [fcdO (kth.up (xσ11.trans (xτ7.trans (xσ17_5.trans (xτ116.trans xσ19_5))))) (by decide)]; decide)))
                        have kp181 : gI σ20_5 th 1 = gI σ19_5 th 1 := by rw [eσ20_5]
                        have kp182 : gI σ20_5 th 3 = gI σ19_5 th 3 := by rw [eσ20_5]
                        have kp183 : gI σ20_5 th 5 = gI σ19_5 th 5 := by rw [eσ20_5]
                        have kp184 : gI σ20_5 tx (gI σ th 2).toNat = gI σ19_5 tx (gI σ th 2).toNat := by rw [eσ20_5]
                        have kp185 : gP σ20_5 th 0 = gP σ19_5 th 0 := by rw [eσ20_5]
                        have kp186 : gI σ20_5 th 2 = gI σ19_5 th 2 := by rw [eσ20_5]
                        have v20 : gJ σ20_5 th 4 = Int64.ofInt v1 := by rw [eσ20_5]; exact up2_s _ _ _ _
                        have kv20 : KV σ20_5 th := fun _ => by rw [v20, of_int (by omega)]; omega
                        unfold w_X6_word_156
                        refine ⟨by (first | omega | with_reducible assumption | with_reducible exact rng_toInt _ | with_reducible exact rng_wr _ | (unfold rng; omega) | (unfold rng at *; omega) | assumption), ?_⟩
                        exact ih116 σ20_5 (v1 + 1) iσ20_5 fσ20_5 (xτ116.trans (xσ19_5.trans xσ20_5)) (⟨by first | exact kv20 | exact fun e => absurd e (by omega), by omega⟩) (by (first | omega | with_reducible assumption | with_reducible exact rng_toInt _ | with_reducible exact rng_wr _ | (unfold rng; omega) | (unfold rng at *; omega) | assumption))
              exact ⟨_, Lp116 _ σ17_5 _ iσ17_5 fσ17_5 (Ext.rfl' _) (⟨fun e => absurd e (by omega), by omega⟩) (Nat.lt_succ_self _)⟩
          · rw [if_neg hc129]
            unfold w_X6_word_39
            refine ⟨tx, (kp12.trans hX0), fun kk_tx_1 => ?_⟩
            refine ⟨⟨by (first | omega | with_reducible assumption | with_reducible exact rng_toInt _ | with_reducible exact rng_wr _ | (unfold rng; omega) | (unfold rng at *; omega) | assumption), by (first | omega | with_reducible assumption | with_reducible exact rng_toInt _ | with_reducible exact rng_wr _ | (unfold rng; omega) | (unfold rng at *; omega) | assumption)⟩, ?_⟩
            by_cases hc187 : (gI τ7 tx (gI τ7 th 2).toNat) > 122
            · rw [if_pos hc187]
              unfold w_X6_word_91
              have pr9 : gI σ th 2 + 1 ≤ gI τ7 th 2 := by by_cases e0 : v1 = 0; (exfalso; have e1 := hi7.2.2.1 e0; have e2 : gI τ7 tx (gI τ7 th 2).toNat = gI σ tx (gI σ th 2).toNat := (by rw [xk7, e1]); omega); (have := hi7.2.2.2 (by omega); omega)
              have q188 := I_6_5 iτ7.1 (kth.up (xσ11.trans xτ7))
              refine ⟨by (first | omega | with_reducible assumption | with_reducible exact rng_toInt _ | with_reducible exact rng_wr _ | (unfold rng; omega) | (unfold rng at *; omega) | assumption), ?_⟩
              by_cases hc189 : (gI τ7 th 2 - gI τ7 th 5) ≤ 6
              · rw [if_pos hc189]
                unfold w_X6_word_110
                unfold w_X6_word_111
                intro σ17_6 eσ17_6
                have xσ17_6 : Ext τ7 σ17_6 := by rw [eσ17_6]; exact fun _ h => ⟨h, rfl, rfl⟩
                have iσ17_6 : IV σ17_6 pl gq ci gr nc ot LL N nu := by rw [eσ17_6]; exact iτ7.wO (kth.up (xσ11.trans xτ7)) (by decide) (rngb (by first | exact rng_wr _ | (first | omega | with_reducible assumption | with_reducible exact rng_toInt _ | with_reducible exact rng_wr _ | (unfold rng; omega) | (unfold rng at *; omega) | assumption)))
                have fσ17_6 : Fx [386, 387, 388] gr σ σ17_6 := fτ7.tr (Sk.fx (by rw [eσ17_6]; exact Sk.pI (by rw [fcdO (kth.up (xσ11.trans xτ7)) (by decide)]; decide)))
                have wσ17_6 : gI σ17_6 th 3 = 1 := by rw [eσ17_6]; exact up2_s _ _ _ _
                have kp190 : gI σ17_6 th 1 = gI τ7 th 1 := by rw [eσ17_6]; exact up2_n _ _ (fun q => absurd q.2 (by decide))
                have kp191 : gI σ17_6 th 2 = gI τ7 th 2 := by rw [eσ17_6]; exact up2_n _ _ (fun q => absurd q.2 (by decide))
                have kp192 : gI σ17_6 th 5 = gI τ7 th 5 := by rw [eσ17_6]; exact up2_n _ _ (fun q => absurd q.2 (by decide))
                have kp193 : gI σ17_6 tx (gI σ th 2).toNat = gI τ7 tx (gI σ th 2).toNat := by rw [eσ17_6]; exact up2_n _ _ (fun q => absurd q.1 (kO.ne (kX.up (xσ11.trans xτ7)) (kth.up (xσ11.trans xτ7)) (by decide)))
                have kp194 : gI σ17_6 tx (gI τ7 th 2).toNat = gI τ7 tx (gI τ7 th 2).toNat := by rw [eσ17_6]; exact up2_n _ _ (fun q => absurd q.1 (kO.ne (kX.up (xσ11.trans xτ7)) (kth.up (xσ11.trans xτ7)) (by decide)))
                have kp195 : gP σ17_6 th 0 = gP τ7 th 0 := by rw [eσ17_6]
                have Lp116 : ∀ (fu116 : Nat) (τ116 : Sg) (v1 : Int), IV τ116 pl gq ci gr nc ot LL N nu → Fx [386, 387, 388] gr σ τ116 → Ext σ17_6 τ116 → (KV τ116 th ∧ (0 ≤ v1 ∧ v1 ≤ 23) ∧ gI τ116 th 3 ≠ 0 ∧ gI σ th 2 + 1 ≤ gI τ116 th 2) → ((23 - v1).toNat) < fu116 → wl_X6_word_116 th Q X fu116 τ116 v1 := by
                  intro fu116
                  induction fu116 with
                  | zero => intro _ _ _ _ _ _ h9; omega
                  | succ fu116 ih116 =>
                    intro τ116 v1 iτ116 fτ116 xτ116 hi116 hm116
                    unfold wl_X6_word_116
                    have kp196 : gI τ116 th 1 = gI σ th 1 := (fτ116.O kth (by decide)).1
                    have kp197 : gI τ116 tx (gI σ th 2).toNat = gI σ tx (gI σ th 2).toNat := (fτ116.A kX (by decide)).1
                    have kp198 : gP τ116 th 0 = gP σ th 0 := (fτ116.O kth (by decide)).2.1
                    have kp199 : gI τ116 th 5 = gI σ th 5 := (fτ116.O kth (by decide)).1
                    have kp200 : gI τ116 th 1 = gI σ17_6 th 1 := (fτ116.O kth (by decide)).1.trans (fσ17_6.O kth (by decide)).1.symm
                    have kp201 : gI τ116 th 5 = gI σ17_6 th 5 := (fτ116.O kth (by decide)).1.trans (fσ17_6.O kth (by decide)).1.symm
                    unfold w_X6_word_116
                    by_cases hc202 : v1 ≥ 23
                    · rw [if_pos hc202]
                      unfold w_X6_word_162
                      exact hQ τ116 () iτ116 fτ116 (⟨hi116.1, by omega⟩)
                    · rw [if_neg hc202]
                      unfold w_X6_word_124
                      have q204 := iτ116.rg th 3; unfold rng at q204
                      by_cases hc203 : gI τ116 th 3 ≠ 1
                      · rw [if_pos hc203]
                        unfold w_X6_word_162
                        exact hQ τ116 () iτ116 fτ116 (⟨hi116.1, by omega⟩)
                      · rw [if_neg hc203]
                        have hc203q := Classical.not_not.mp hc203
                        unfold w_X6_word_132
                        refine ⟨⟨by (first | omega | with_reducible assumption | with_reducible exact rng_toInt _ | with_reducible exact rng_wr _ | (unfold rng; omega) | (unfold rng at *; omega) | assumption), by (first | omega | with_reducible assumption | with_reducible exact rng_toInt _ | with_reducible exact rng_wr _ | (unfold rng; omega) | (unfold rng at *; omega) | assumption)⟩, ?_⟩
                        intro k18_6
                        by_cases hc205 : gJ τ116 th 4 ≠ k18_6
                        · rw [if_pos hc205]
                          unfold w_X6_word_156
                          refine ⟨by (first | omega | with_reducible assumption | with_reducible exact rng_toInt _ | with_reducible exact rng_wr _ | (unfold rng; omega) | (unfold rng at *; omega) | assumption), ?_⟩
                          exact ih116 τ116 (v1 + 1) iτ116 fτ116 xτ116 (⟨by first | exact kv20 | exact fun e => absurd e (by omega), by omega⟩) (by (first | omega | with_reducible assumption | with_reducible exact rng_toInt _ | with_reducible exact rng_wr _ | (unfold rng; omega) | (unfold rng at *; omega) | assumption))
                        · rw [if_neg hc205]
                          have hc205q := Classical.not_not.mp hc205
                          unfold w_X6_word_145
                          intro σ19_6 eσ19_6
                          have xσ19_6 : Ext τ116 σ19_6 := by rw [eσ19_6]; exact fun _ h => ⟨h, rfl, rfl⟩
                          have iσ19_6 : IV σ19_6 pl gq ci gr nc ot LL N nu := by rw [eσ19_6]; exact iτ116.wO (kth.up (xσ11.trans (xτ7.trans (xσ17_6.trans xτ116)))) (by decide) (rngb (by first | exact rng_wr _ | (first | omega | with_reducible assumption | with_reducible exact rng_toInt _ | with_reducible exact rng_wr _ | (unfold rng; omega) | (unfold rng at *; omega) | assumption)))
                          have fσ19_6 : Fx [386, 387, 388] gr σ σ19_6 := fτ116.tr (Sk.fx (by rw [eσ19_6]; exact Sk.pI (by rw [fcdO (kth.up (xσ11.trans (xτ7.trans (xσ17_6.trans xτ116)))) (by decide)]; decide)))
                          have wσ19_6 : gI σ19_6 th 3 = 2 := by rw [eσ19_6]; exact up2_s _ _ _ _
                          have kp206 : gI σ19_6 th 1 = gI τ116 th 1 := by rw [eσ19_6]; exact up2_n _ _ (fun q => absurd q.2 (by decide))
                          have kp207 : gI σ19_6 th 5 = gI τ116 th 5 := by rw [eσ19_6]; exact up2_n _ _ (fun q => absurd q.2 (by decide))
                          have kp208 : gI σ19_6 tx (gI σ th 2).toNat = gI τ116 tx (gI σ th 2).toNat := by rw [eσ19_6]; exact up2_n _ _ (fun q => absurd q.1 (kO.ne (kX.up (xσ11.trans (xτ7.trans (xσ17_6.trans xτ116)))) (kth.up (xσ11.trans (xτ7.trans (xσ17_6.trans xτ116)))) (by decide)))
                          have kp209 : gP σ19_6 th 0 = gP τ116 th 0 := by rw [eσ19_6]
                          have kp210 : gI σ19_6 th 2 = gI τ116 th 2 := by rw [eσ19_6]; exact up2_n _ _ (fun q => absurd q.2 (by decide))
                          intro σ20_6 eσ20_6
                          have xσ20_6 : Ext σ19_6 σ20_6 := by rw [eσ20_6]; exact fun _ h => ⟨h, rfl, rfl⟩
                          have iσ20_6 : IV σ20_6 pl gq ci gr nc ot LL N nu := by rw [eσ20_6]; exact iσ19_6.wJ (kth.up (xσ11.trans (xτ7.trans (xσ17_6.trans (xτ116.trans xσ19_6))))) (by decide)
                          have fσ20_6 : Fx [386, 387, 388] gr σ σ20_6 := fσ19_6.tr (Sk.fx (by rw [eσ20_6]; exact Sk.pJ (by rw [fcdO (kth.up (xσ11.trans (xτ7.trans (xσ17_6.trans (xτ116.trans xσ19_6))))) (by decide)]; decide)))
                          have kp211 : gI σ20_6 th 1 = gI σ19_6 th 1 := by rw [eσ20_6]
                          have kp212 : gI σ20_6 th 3 = gI σ19_6 th 3 := by rw [eσ20_6]
                          have kp213 : gI σ20_6 th 5 = gI σ19_6 th 5 := by rw [eσ20_6]
                          have kp214 : gI σ20_6 tx (gI σ th 2).toNat = gI σ19_6 tx (gI σ th 2).toNat := by rw [eσ20_6]
                          have kp215 : gP σ20_6 th 0 = gP σ19_6 th 0 := by rw [eσ20_6]
                          have kp216 : gI σ20_6 th 2 = gI σ19_6 th 2 := by rw [eσ20_6]
                          have v20 : gJ σ20_6 th 4 = Int64.ofInt v1 := by rw [eσ20_6]; exact up2_s _ _ _ _
                          have kv20 : KV σ20_6 th := fun _ => by rw [v20, of_int (by omega)]; omega
                          unfold w_X6_word_156
                          refine ⟨by (first | omega | with_reducible assumption | with_reducible exact rng_toInt _ | with_reducible exact rng_wr _ | (unfold rng; omega) | (unfold rng at *; omega) | assumption), ?_⟩
                          exact ih116 σ20_6 (v1 + 1) iσ20_6 fσ20_6 (xτ116.trans (xσ19_6.trans xσ20_6)) (⟨by first | exact kv20 | exact fun e => absurd e (by omega), by omega⟩) (by (first | omega | with_reducible assumption | with_reducible exact rng_toInt _ | with_reducible exact rng_wr _ | (unfold rng; omega) | (unfold rng at *; omega) | assumption))
                exact ⟨_, Lp116 _ σ17_6 _ iσ17_6 fσ17_6 (Ext.rfl' _) (⟨fun e => absurd e (by omega), by omega⟩) (Nat.lt_succ_self _)⟩
              · rw [if_neg hc189]
                unfold w_X6_word_106
                unfold w_X6_word_111
                intro σ17_7 eσ17_7
                have xσ17_7 : Ext τ7 σ17_7 := by rw [eσ17_7]; exact fun _ h => ⟨h, rfl, rfl⟩
                have iσ17_7 : IV σ17_7 pl gq ci gr nc ot LL N nu := by rw [eσ17_7]; exact iτ7.wO (kth.up (xσ11.trans xτ7)) (by decide) (rngb (by first | exact rng_wr _ | (first | omega | with_reducible assumption | with_reducible exact rng_toInt _ | with_reducible exact rng_wr _ | (unfold rng; omega) | (unfold rng at *; omega) | assumption)))
                have fσ17_7 : Fx [386, 387, 388] gr σ σ17_7 := fτ7.tr (Sk.fx (by rw [eσ17_7]; exact Sk.pI (by rw [fcdO (kth.up (xσ11.trans xτ7)) (by decide)]; decide)))
                have wσ17_7 : gI σ17_7 th 3 = 3 := by rw [eσ17_7]; exact up2_s _ _ _ _
                have kp217 : gI σ17_7 th 1 = gI τ7 th 1 := by rw [eσ17_7]; exact up2_n _ _ (fun q => absurd q.2 (by decide))
                have kp218 : gI σ17_7 th 2 = gI τ7 th 2 := by rw [eσ17_7]; exact up2_n _ _ (fun q => absurd q.2 (by decide))
                have kp219 : gI σ17_7 th 5 = gI τ7 th 5 := by rw [eσ17_7]; exact up2_n _ _ (fun q => absurd q.2 (by decide))
                have kp220 : gI σ17_7 tx (gI σ th 2).toNat = gI τ7 tx (gI σ th 2).toNat := by rw [eσ17_7]; exact up2_n _ _ (fun q => absurd q.1 (kO.ne (kX.up (xσ11.trans xτ7)) (kth.up (xσ11.trans xτ7)) (by decide)))
                have kp221 : gI σ17_7 tx (gI τ7 th 2).toNat = gI τ7 tx (gI τ7 th 2).toNat := by rw [eσ17_7]; exact up2_n _ _ (fun q => absurd q.1 (kO.ne (kX.up (xσ11.trans xτ7)) (kth.up (xσ11.trans xτ7)) (by decide)))
                have kp222 : gP σ17_7 th 0 = gP τ7 th 0 := by rw [eσ17_7]
                have Lp116 : ∀ (fu116 : Nat) (τ116 : Sg) (v1 : Int), IV τ116 pl gq ci gr nc ot LL N nu → Fx [386, 387, 388] gr σ τ116 → Ext σ17_7 τ116 → (KV τ116 th ∧ (0 ≤ v1 ∧ v1 ≤ 23) ∧ gI τ116 th 3 ≠ 0 ∧ gI σ th 2 + 1 ≤ gI τ116 th 2) → ((23 - v1).toNat) < fu116 → wl_X6_word_116 th Q X fu116 τ116 v1 := by
                  intro fu116
                  induction fu116 with
                  | zero => intro _ _ _ _ _ _ h9; omega
                  | succ fu116 ih116 =>
                    intro τ116 v1 iτ116 fτ116 xτ116 hi116 hm116
                    unfold wl_X6_word_116
                    have kp223 : gI τ116 th 1 = gI σ th 1 := (fτ116.O kth (by decide)).1
                    have kp224 : gI τ116 tx (gI σ th 2).toNat = gI σ tx (gI σ th 2).toNat := (fτ116.A kX (by decide)).1
                    have kp225 : gP τ116 th 0 = gP σ th 0 := (fτ116.O kth (by decide)).2.1
                    have kp226 : gI τ116 th 5 = gI σ th 5 := (fτ116.O kth (by decide)).1
                    have kp227 : gI τ116 th 1 = gI σ17_7 th 1 := (fτ116.O kth (by decide)).1.trans (fσ17_7.O kth (by decide)).1.symm
                    have kp228 : gI τ116 th 5 = gI σ17_7 th 5 := (fτ116.O kth (by decide)).1.trans (fσ17_7.O kth (by decide)).1.symm
                    unfold w_X6_word_116
                    by_cases hc229 : v1 ≥ 23
                    · rw [if_pos hc229]
                      unfold w_X6_word_162
                      exact hQ τ116 () iτ116 fτ116 (⟨hi116.1, by omega⟩)
                    · rw [if_neg hc229]
                      unfold w_X6_word_124
                      have q231 := iτ116.rg th 3; unfold rng at q231
                      by_cases hc230 : gI τ116 th 3 ≠ 1
                      · rw [if_pos hc230]
                        unfold w_X6_word_162
                        exact hQ τ116 () iτ116 fτ116 (⟨hi116.1, by omega⟩)
                      · rw [if_neg hc230]
                        have hc230q := Classical.not_not.mp hc230
                        unfold w_X6_word_132
                        refine ⟨⟨by (first | omega | with_reducible assumption | with_reducible exact rng_toInt _ | with_reducible exact rng_wr _ | (unfold rng; omega) | (unfold rng at *; omega) | assumption), by (first | omega | with_reducible assumption | with_reducible exact rng_toInt _ | with_reducible exact rng_wr _ | (unfold rng; omega) | (unfold rng at *; omega) | assumption)⟩, ?_⟩
                        intro k18_7
                        by_cases hc232 : gJ τ116 th 4 ≠ k18_7
                        · rw [if_pos hc232]
                          unfold w_X6_word_156
                          refine ⟨by (first | omega | with_reducible assumption | with_reducible exact rng_toInt _ | with_reducible exact rng_wr _ | (unfold rng; omega) | (unfold rng at *; omega) | assumption), ?_⟩
                          exact ih116 τ116 (v1 + 1) iτ116 fτ116 xτ116 (⟨by first | exact kv20 | exact fun e => absurd e (by omega), by omega⟩) (by (first | omega | with_reducible assumption | with_reducible exact rng_toInt _ | with_reducible exact rng_wr _ | (unfold rng; omega) | (unfold rng at *; omega) | assumption))
                        · rw [if_neg hc232]
                          have hc232q := Classical.not_not.mp hc232
                          unfold w_X6_word_145
                          intro σ19_7 eσ19_7
                          have xσ19_7 : Ext τ116 σ19_7 := by rw [eσ19_7]; exact fun _ h => ⟨h, rfl, rfl⟩
                          have iσ19_7 : IV σ19_7 pl gq ci gr nc ot LL N nu := by rw [eσ19_7]; exact iτ116.wO (kth.up (xσ11.trans (xτ7.trans (xσ17_7.trans xτ116)))) (by decide) (rngb (by first | exact rng_wr _ | (first | omega | with_reducible assumption | with_reducible exact rng_toInt _ | with_reducible exact rng_wr _ | (unfold rng; omega) | (unfold rng at *; omega) | assumption)))
                          have fσ19_7 : Fx [386, 387, 388] gr σ σ19_7 := fτ116.tr (Sk.fx (by rw [eσ19_7]; exact Sk.pI (by rw [fcdO (kth.up (xσ11.trans (xτ7.trans (xσ17_7.trans xτ116)))) (by decide)]; decide)))
                          have wσ19_7 : gI σ19_7 th 3 = 2 := by rw [eσ19_7]; exact up2_s _ _ _ _
                          have kp233 : gI σ19_7 th 1 = gI τ116 th 1 := by rw [eσ19_7]; exact up2_n _ _ (fun q => absurd q.2 (by decide))
                          have kp234 : gI σ19_7 th 5 = gI τ116 th 5 := by rw [eσ19_7]; exact up2_n _ _ (fun q => absurd q.2 (by decide))
                          have kp235 : gI σ19_7 tx (gI σ th 2).toNat = gI τ116 tx (gI σ th 2).toNat := by rw [eσ19_7]; exact up2_n _ _ (fun q => absurd q.1 (kO.ne (kX.up (xσ11.trans (xτ7.trans (xσ17_7.trans xτ116)))) (kth.up (xσ11.trans (xτ7.trans (xσ17_7.trans xτ116)))) (by decide)))
                          have kp236 : gP σ19_7 th 0 = gP τ116 th 0 := by rw [eσ19_7]
                          have kp237 : gI σ19_7 th 2 = gI τ116 th 2 := by rw [eσ19_7]; exact up2_n _ _ (fun q => absurd q.2 (by decide))
                          intro σ20_7 eσ20_7
                          have xσ20_7 : Ext σ19_7 σ20_7 := by rw [eσ20_7]; exact fun _ h => ⟨h, rfl, rfl⟩
                          have iσ20_7 : IV σ20_7 pl gq ci gr nc ot LL N nu := by rw [eσ20_7]; exact iσ19_7.wJ (kth.up (xσ11.trans (xτ7.trans (xσ17_7.trans (xτ116.trans xσ19_7))))) (by decide)
                          have fσ20_7 : Fx [386, 387, 388] gr σ σ20_7 := fσ19_7.tr (Sk.fx (by rw [eσ20_7]; exact Sk.pJ (by rw [fcdO (kth.up (xσ11.trans (xτ7.trans (xσ17_7.trans (xτ116.trans xσ19_7))))) (by decide)]; decide)))
                          have kp238 : gI σ20_7 th 1 = gI σ19_7 th 1 := by rw [eσ20_7]
                          have kp239 : gI σ20_7 th 3 = gI σ19_7 th 3 := by rw [eσ20_7]
                          have kp240 : gI σ20_7 th 5 = gI σ19_7 th 5 := by rw [eσ20_7]
                          have kp241 : gI σ20_7 tx (gI σ th 2).toNat = gI σ19_7 tx (gI σ th 2).toNat := by rw [eσ20_7]
                          have kp242 : gP σ20_7 th 0 = gP σ19_7 th 0 := by rw [eσ20_7]
                          have kp243 : gI σ20_7 th 2 = gI σ19_7 th 2 := by rw [eσ20_7]
                          have v20 : gJ σ20_7 th 4 = Int64.ofInt v1 := by rw [eσ20_7]; exact up2_s _ _ _ _
                          have kv20 : KV σ20_7 th := fun _ => by rw [v20, of_int (by omega)]; omega
                          unfold w_X6_word_156
                          refine ⟨by (first | omega | with_reducible assumption | with_reducible exact rng_toInt _ | with_reducible exact rng_wr _ | (unfold rng; omega) | (unfold rng at *; omega) | assumption), ?_⟩
                          exact ih116 σ20_7 (v1 + 1) iσ20_7 fσ20_7 (xτ116.trans (xσ19_7.trans xσ20_7)) (⟨by first | exact kv20 | exact fun e => absurd e (by omega), by omega⟩) (by (first | omega | with_reducible assumption | with_reducible exact rng_toInt _ | with_reducible exact rng_wr _ | (unfold rng; omega) | (unfold rng at *; omega) | assumption))
                exact ⟨_, Lp116 _ σ17_7 _ iσ17_7 fσ17_7 (Ext.rfl' _) (⟨fun e => absurd e (by omega), by omega⟩) (Nat.lt_succ_self _)⟩
            · rw [if_neg hc187]
              unfold w_X6_word_53
              refine ⟨tx, (kp12.trans hX0), fun kk_tx_2 => ?_⟩
              refine ⟨⟨by (first | omega | with_reducible assumption | with_reducible exact rng_toInt _ | with_reducible exact rng_wr _ | (unfold rng; omega) | (unfold rng at *; omega) | assumption), by (first | omega | with_reducible assumption | with_reducible exact rng_toInt _ | with_reducible exact rng_wr _ | (unfold rng; omega) | (unfold rng at *; omega) | assumption)⟩, ?_⟩
              intro σ15 eσ15
              have xσ15 : Ext τ7 σ15 := by rw [eσ15]; exact fun _ h => ⟨h, rfl, rfl⟩
              have iσ15 : IV σ15 pl gq ci gr nc ot LL N nu := by rw [eσ15]; exact iτ7.wJ (kth.up (xσ11.trans xτ7)) (by decide)
              have fσ15 : Fx [386, 387, 388] gr σ σ15 := fτ7.tr (Sk.fx (by rw [eσ15]; exact Sk.pJ (by rw [fcdO (kth.up (xσ11.trans xτ7)) (by decide)]; decide)))
              have kp244 : gI σ15 th 1 = gI τ7 th 1 := by rw [eσ15]
              have kp245 : gI σ15 th 2 = gI τ7 th 2 := by rw [eσ15]
              have kp246 : gI σ15 tx (gI σ th 2).toNat = gI τ7 tx (gI σ th 2).toNat := by rw [eσ15]
              have kp247 : gI σ15 tx (gI τ7 th 2).toNat = gI τ7 tx (gI τ7 th 2).toNat := by rw [eσ15]
              have kp248 : gP σ15 th 0 = gP τ7 th 0 := by rw [eσ15]
              have kp249 : gI σ15 th 3 = gI τ7 th 3 := by rw [eσ15]
              have kp250 : gI σ15 th 5 = gI τ7 th 5 := by rw [eσ15]
              refine ⟨by (first | omega | with_reducible assumption | with_reducible exact rng_toInt _ | with_reducible exact rng_wr _ | (unfold rng; omega) | (unfold rng at *; omega) | assumption), ?_⟩
              intro σ16 eσ16
              have xσ16 : Ext σ15 σ16 := by rw [eσ16]; exact fun _ h => ⟨h, rfl, rfl⟩
              have iσ16 : IV σ16 pl gq ci gr nc ot LL N nu := by rw [eσ16]; exact iσ15.wO (kth.up (xσ11.trans (xτ7.trans xσ15))) (by decide) (show (0 : Int) ≤ (gI σ15 th 2 + 1) ∧ (gI σ15 th 2 + 1) ≤ 1500 from ⟨by (first | omega | with_reducible assumption | with_reducible exact rng_toInt _ | with_reducible exact rng_wr _ | (unfold rng; omega) | (unfold rng at *; omega) | assumption), by (first | omega | with_reducible assumption | with_reducible exact rng_toInt _ | with_reducible exact rng_wr _ | (unfold rng; omega) | (unfold rng at *; omega) | assumption)⟩)
              have fσ16 : Fx [386, 387, 388] gr σ σ16 := fσ15.tr (Sk.fx (by rw [eσ16]; exact Sk.pI (by rw [fcdO (kth.up (xσ11.trans (xτ7.trans xσ15))) (by decide)]; decide)))
              have wσ16 : gI σ16 th 2 = (gI σ15 th 2 + 1) := by rw [eσ16]; exact up2_s _ _ _ _
              have kp251 : gI σ16 th 1 = gI σ15 th 1 := by rw [eσ16]; exact up2_n _ _ (fun q => absurd q.2 (by decide))
              have kp252 : gI σ16 tx (gI σ th 2).toNat = gI σ15 tx (gI σ th 2).toNat := by rw [eσ16]; exact up2_n _ _ (fun q => absurd q.1 (kO.ne (kX.up (xσ11.trans (xτ7.trans xσ15))) (kth.up (xσ11.trans (xτ7.trans xσ15))) (by decide)))
              have kp253 : gI σ16 tx (gI τ7 th 2).toNat = gI σ15 tx (gI τ7 th 2).toNat := by rw [eσ16]; exact up2_n _ _ (fun q => absurd q.1 (kO.ne (kX.up (xσ11.trans (xτ7.trans xσ15))) (kth.up (xσ11.trans (xτ7.trans xσ15))) (by decide)))
              have kp254 : gP σ16 th 0 = gP σ15 th 0 := by rw [eσ16]
              have kp255 : gI σ16 th 3 = gI σ15 th 3 := by rw [eσ16]; exact up2_n _ _ (fun q => absurd q.2 (by decide))
              have kp256 : gI σ16 th 5 = gI σ15 th 5 := by rw [eσ16]; exact up2_n _ _ (fun q => absurd q.2 (by decide))
              refine ⟨by (first | omega | with_reducible assumption | with_reducible exact rng_toInt _ | with_reducible exact rng_wr _ | (unfold rng; omega) | (unfold rng at *; omega) | assumption), ?_⟩
              exact ih7 σ16 (v1 + 1) iσ16 fσ16 (xτ7.trans (xσ15.trans xσ16)) (⟨by omega, by omega, fun w => by omega, fun w => by omega⟩) (by (first | omega | with_reducible assumption | with_reducible exact rng_toInt _ | with_reducible exact rng_wr _ | (unfold rng; omega) | (unfold rng at *; omega) | assumption))
  exact ⟨_, Lp7 _ σ11 _ iσ11 fσ11 (Ext.rfl' _) (⟨by omega, by omega, fun _ => by omega, fun w => by omega⟩) (Nat.lt_succ_self _)⟩
set_option maxHeartbeats 1000000 in
theorem i_X6_digits {σ : Sg} {pl : Nat} {gq ci gr nc : Nat → Nat} {ot : Nat → Nat → Int} {LL : Nat → List Nat} {N nu : Nat → Nat} {th : Nat} {tx : Nat} (iσ : IV σ pl gq ci gr nc ot LL N nu) (kth : kO σ th 6) (hX0 : gP σ th 0 = some tx) (kX : kO σ tx 102) (gX : gn σ tx = 1500) (hl : gI σ th 2 < gI σ th 1) (hb : 48 ≤ gI σ tx (gI σ th 2).toNat ∧ gI σ tx (gI σ th 2).toNat ≤ 57) {Q : Sg → Unit → Prop} {X : Sg → String → Prop} (hQ : ∀ (σ' : Sg) (r : Unit), IV σ' pl gq ci gr nc ot LL N nu → Fx [386, 387, 388] gr σ σ' → (gI σ th 2 + 1 ≤ gI σ' th 2 ∧ gI σ' th 3 = 4 ∧ gI σ' th 5 = gI σ th 5) → Q σ' r) : wp_X6_digits th σ Q X := by
  have fσ : Fx [386, 387, 388] gr σ σ := Fx.rf
  have q1 := I_6_2 iσ.1 kth
  have q2 := I_6_1 iσ.1 kth
  have q3 := iσ.rg tx (gI σ th 2).toNat; unfold rng at q3
  unfold wp_X6_digits
  unfold w_X6_digits_0
  intro σ8 eσ8
  have xσ8 : Ext σ σ8 := by rw [eσ8]; exact fun _ h => ⟨h, rfl, rfl⟩
  have iσ8 : IV σ8 pl gq ci gr nc ot LL N nu := by rw [eσ8]; exact iσ.wJ kth (by decide)
  have fσ8 : Fx [386, 387, 388] gr σ σ8 := fσ.tr (Sk.fx (by rw [eσ8]; exact Sk.pJ (by rw [fcdO kth (by decide)]; decide)))
  have kp4 : gI σ8 th 1 = gI σ th 1 := by rw [eσ8]
  have kp5 : gI σ8 th 2 = gI σ th 2 := by rw [eσ8]
  have kp6 : gI σ8 tx (gI σ th 2).toNat = gI σ tx (gI σ th 2).toNat := by rw [eσ8]
  have kp7 : gP σ8 th 0 = gP σ th 0 := by rw [eσ8]
  have kp8 : gI σ8 th 3 = gI σ th 3 := by rw [eσ8]
  have kp9 : gI σ8 th 5 = gI σ th 5 := by rw [eσ8]
  have Lp7 : ∀ (fu7 : Nat) (τ7 : Sg) (v1 : Int), IV τ7 pl gq ci gr nc ot LL N nu → Fx [386, 387, 388] gr σ τ7 → Ext σ8 τ7 → ((0 ≤ v1 ∧ v1 ≤ 1500) ∧ gI σ th 2 ≤ gI τ7 th 2 ∧ (v1 = 0 → gI τ7 th 2 = gI σ th 2) ∧ (1 ≤ v1 → gI σ th 2 + 1 ≤ gI τ7 th 2)) → ((1500 - v1).toNat) < fu7 → wl_X6_digits_7 th Q X fu7 τ7 v1 := by
    intro fu7
    induction fu7 with
    | zero => intro _ _ _ _ _ _ h9; omega
    | succ fu7 ih7 =>
      intro τ7 v1 iτ7 fτ7 xτ7 hi7 hm7
      unfold wl_X6_digits_7
      have kp10 : gI τ7 th 1 = gI σ th 1 := (fτ7.O kth (by decide)).1
      have kp11 : gI τ7 tx (gI σ th 2).toNat = gI σ tx (gI σ th 2).toNat := (fτ7.A kX (by decide)).1
      have kp12 : gP τ7 th 0 = gP σ th 0 := (fτ7.O kth (by decide)).2.1
      have kp13 : gI τ7 th 5 = gI σ th 5 := (fτ7.O kth (by decide)).1
      have kp14 : gI τ7 th 1 = gI σ8 th 1 := (fτ7.O kth (by decide)).1.trans (fσ8.O kth (by decide)).1.symm
      have kp15 : gI τ7 th 5 = gI σ8 th 5 := (fτ7.O kth (by decide)).1.trans (fσ8.O kth (by decide)).1.symm
      have xk7 : ∀ k, gI τ7 tx k = gI σ tx k := fun k => (fτ7.A kX (by decide)).1
      have xl7 := (fτ7.O kth (k := 1) (by decide)).1
      unfold w_X6_digits_7
      by_cases hc16 : v1 ≥ 1500
      · rw [if_pos hc16]
        unfold w_X6_digits_96
        have pr9 : gI σ th 2 + 1 ≤ gI τ7 th 2 := by by_cases e0 : v1 = 0; (exfalso; have e1 := hi7.2.2.1 e0; have e2 : gI τ7 tx (gI τ7 th 2).toNat = gI σ tx (gI σ th 2).toNat := (by rw [xk7, e1]); omega); (have := hi7.2.2.2 (by omega); omega)
        intro σ14 eσ14
        have xσ14 : Ext τ7 σ14 := by rw [eσ14]; exact fun _ h => ⟨h, rfl, rfl⟩
        have iσ14 : IV σ14 pl gq ci gr nc ot LL N nu := by rw [eσ14]; exact iτ7.wO (kth.up (xσ8.trans xτ7)) (by decide) (rngb (by first | exact rng_wr _ | (first | omega | with_reducible assumption | with_reducible exact rng_toInt _ | with_reducible exact rng_wr _ | (unfold rng; omega) | (unfold rng at *; omega) | assumption)))
        have fσ14 : Fx [386, 387, 388] gr σ σ14 := fτ7.tr (Sk.fx (by rw [eσ14]; exact Sk.pI (by rw [fcdO (kth.up (xσ8.trans xτ7)) (by decide)]; decide)))
        have wσ14 : gI σ14 th 3 = 4 := by rw [eσ14]; exact up2_s _ _ _ _
        have kp17 : gI σ14 th 1 = gI τ7 th 1 := by rw [eσ14]; exact up2_n _ _ (fun q => absurd q.2 (by decide))
        have kp18 : gI σ14 tx (gI σ th 2).toNat = gI τ7 tx (gI σ th 2).toNat := by rw [eσ14]; exact up2_n _ _ (fun q => absurd q.1 (kO.ne (kX.up (xσ8.trans xτ7)) (kth.up (xσ8.trans xτ7)) (by decide)))
        have kp19 : gP σ14 th 0 = gP τ7 th 0 := by rw [eσ14]
        have kp20 : gI σ14 th 2 = gI τ7 th 2 := by rw [eσ14]; exact up2_n _ _ (fun q => absurd q.2 (by decide))
        have kp21 : gI σ14 th 5 = gI τ7 th 5 := by rw [eσ14]; exact up2_n _ _ (fun q => absurd q.2 (by decide))
        exact hQ σ14 () iσ14 fσ14 (by (first | omega | with_reducible assumption | with_reducible exact rng_toInt _ | with_reducible exact rng_wr _ | (unfold rng; omega) | (unfold rng at *; omega) | assumption))
      · rw [if_neg hc16]
        unfold w_X6_digits_14
        have q23 := I_6_2 iτ7.1 (kth.up (xσ8.trans xτ7))
        by_cases hc22 : gI τ7 th 2 ≥ gI τ7 th 1
        · rw [if_pos hc22]
          unfold w_X6_digits_96
          have pr9 : gI σ th 2 + 1 ≤ gI τ7 th 2 := by by_cases e0 : v1 = 0; (exfalso; have e1 := hi7.2.2.1 e0; have e2 : gI τ7 tx (gI τ7 th 2).toNat = gI σ tx (gI σ th 2).toNat := (by rw [xk7, e1]); omega); (have := hi7.2.2.2 (by omega); omega)
          intro σ14_1 eσ14_1
          have xσ14_1 : Ext τ7 σ14_1 := by rw [eσ14_1]; exact fun _ h => ⟨h, rfl, rfl⟩
          have iσ14_1 : IV σ14_1 pl gq ci gr nc ot LL N nu := by rw [eσ14_1]; exact iτ7.wO (kth.up (xσ8.trans xτ7)) (by decide) (rngb (by first | exact rng_wr _ | (first | omega | with_reducible assumption | with_reducible exact rng_toInt _ | with_reducible exact rng_wr _ | (unfold rng; omega) | (unfold rng at *; omega) | assumption)))
          have fσ14_1 : Fx [386, 387, 388] gr σ σ14_1 := fτ7.tr (Sk.fx (by rw [eσ14_1]; exact Sk.pI (by rw [fcdO (kth.up (xσ8.trans xτ7)) (by decide)]; decide)))
          have wσ14_1 : gI σ14_1 th 3 = 4 := by rw [eσ14_1]; exact up2_s _ _ _ _
          have kp24 : gI σ14_1 th 1 = gI τ7 th 1 := by rw [eσ14_1]; exact up2_n _ _ (fun q => absurd q.2 (by decide))
          have kp25 : gI σ14_1 th 2 = gI τ7 th 2 := by rw [eσ14_1]; exact up2_n _ _ (fun q => absurd q.2 (by decide))
          have kp26 : gI σ14_1 tx (gI σ th 2).toNat = gI τ7 tx (gI σ th 2).toNat := by rw [eσ14_1]; exact up2_n _ _ (fun q => absurd q.1 (kO.ne (kX.up (xσ8.trans xτ7)) (kth.up (xσ8.trans xτ7)) (by decide)))
          have kp27 : gP σ14_1 th 0 = gP τ7 th 0 := by rw [eσ14_1]
          have kp28 : gI σ14_1 th 5 = gI τ7 th 5 := by rw [eσ14_1]; exact up2_n _ _ (fun q => absurd q.2 (by decide))
          exact hQ σ14_1 () iσ14_1 fσ14_1 (by (first | omega | with_reducible assumption | with_reducible exact rng_toInt _ | with_reducible exact rng_wr _ | (unfold rng; omega) | (unfold rng at *; omega) | assumption))
        · rw [if_neg hc22]
          unfold w_X6_digits_25
          refine ⟨tx, (kp12.trans hX0), fun kk_tx => ?_⟩
          have q29 := ((xσ8.trans xτ7) tx kX.1).2.2
          refine ⟨⟨by (first | omega | with_reducible assumption | with_reducible exact rng_toInt _ | with_reducible exact rng_wr _ | (unfold rng; omega) | (unfold rng at *; omega) | assumption), by (first | omega | with_reducible assumption | with_reducible exact rng_toInt _ | with_reducible exact rng_wr _ | (unfold rng; omega) | (unfold rng at *; omega) | assumption)⟩, ?_⟩
          have q31 := iτ7.rg tx (gI τ7 th 2).toNat; unfold rng at q31
          by_cases hc30 : (gI τ7 tx (gI τ7 th 2).toNat) < 48
          · rw [if_pos hc30]
            unfold w_X6_digits_96
            have pr9 : gI σ th 2 + 1 ≤ gI τ7 th 2 := by by_cases e0 : v1 = 0; (exfalso; have e1 := hi7.2.2.1 e0; have e2 : gI τ7 tx (gI τ7 th 2).toNat = gI σ tx (gI σ th 2).toNat := (by rw [xk7, e1]); omega); (have := hi7.2.2.2 (by omega); omega)
            intro σ14_2 eσ14_2
            have xσ14_2 : Ext τ7 σ14_2 := by rw [eσ14_2]; exact fun _ h => ⟨h, rfl, rfl⟩
            have iσ14_2 : IV σ14_2 pl gq ci gr nc ot LL N nu := by rw [eσ14_2]; exact iτ7.wO (kth.up (xσ8.trans xτ7)) (by decide) (rngb (by first | exact rng_wr _ | (first | omega | with_reducible assumption | with_reducible exact rng_toInt _ | with_reducible exact rng_wr _ | (unfold rng; omega) | (unfold rng at *; omega) | assumption)))
            have fσ14_2 : Fx [386, 387, 388] gr σ σ14_2 := fτ7.tr (Sk.fx (by rw [eσ14_2]; exact Sk.pI (by rw [fcdO (kth.up (xσ8.trans xτ7)) (by decide)]; decide)))
            have wσ14_2 : gI σ14_2 th 3 = 4 := by rw [eσ14_2]; exact up2_s _ _ _ _
            have kp32 : gI σ14_2 th 1 = gI τ7 th 1 := by rw [eσ14_2]; exact up2_n _ _ (fun q => absurd q.2 (by decide))
            have kp33 : gI σ14_2 th 2 = gI τ7 th 2 := by rw [eσ14_2]; exact up2_n _ _ (fun q => absurd q.2 (by decide))
            have kp34 : gI σ14_2 tx (gI σ th 2).toNat = gI τ7 tx (gI σ th 2).toNat := by rw [eσ14_2]; exact up2_n _ _ (fun q => absurd q.1 (kO.ne (kX.up (xσ8.trans xτ7)) (kth.up (xσ8.trans xτ7)) (by decide)))
            have kp35 : gI σ14_2 tx (gI τ7 th 2).toNat = gI τ7 tx (gI τ7 th 2).toNat := by rw [eσ14_2]; exact up2_n _ _ (fun q => absurd q.1 (kO.ne (kX.up (xσ8.trans xτ7)) (kth.up (xσ8.trans xτ7)) (by decide)))
            have kp36 : gP σ14_2 th 0 = gP τ7 th 0 := by rw [eσ14_2]
            have kp37 : gI σ14_2 th 5 = gI τ7 th 5 := by rw [eσ14_2]; exact up2_n _ _ (fun q => absurd q.2 (by decide))
            exact hQ σ14_2 () iσ14_2 fσ14_2 (by (first | omega | with_reducible assumption | with_reducible exact rng_toInt _ | with_reducible exact rng_wr _ | (unfold rng; omega) | (unfold rng at *; omega) | assumption))
          · rw [if_neg hc30]
            unfold w_X6_digits_39
            refine ⟨tx, (kp12.trans hX0), fun kk_tx_1 => ?_⟩
            refine ⟨⟨by (first | omega | with_reducible assumption | with_reducible exact rng_toInt _ | with_reducible exact rng_wr _ | (unfold rng; omega) | (unfold rng at *; omega) | assumption), by (first | omega | with_reducible assumption | with_reducible exact rng_toInt _ | with_reducible exact rng_wr _ | (unfold rng; omega) | (unfold rng at *; omega) | assumption)⟩, ?_⟩
            by_cases hc38 : (gI τ7 tx (gI τ7 th 2).toNat) > 57
            · rw [if_pos hc38]
              unfold w_X6_digits_96
              have pr9 : gI σ th 2 + 1 ≤ gI τ7 th 2 := by by_cases e0 : v1 = 0; (exfalso; have e1 := hi7.2.2.1 e0; have e2 : gI τ7 tx (gI τ7 th 2).toNat = gI σ tx (gI σ th 2).toNat := (by rw [xk7, e1]); omega); (have := hi7.2.2.2 (by omega); omega)
              intro σ14_3 eσ14_3
              have xσ14_3 : Ext τ7 σ14_3 := by rw [eσ14_3]; exact fun _ h => ⟨h, rfl, rfl⟩
              have iσ14_3 : IV σ14_3 pl gq ci gr nc ot LL N nu := by rw [eσ14_3]; exact iτ7.wO (kth.up (xσ8.trans xτ7)) (by decide) (rngb (by first | exact rng_wr _ | (first | omega | with_reducible assumption | with_reducible exact rng_toInt _ | with_reducible exact rng_wr _ | (unfold rng; omega) | (unfold rng at *; omega) | assumption)))
              have fσ14_3 : Fx [386, 387, 388] gr σ σ14_3 := fτ7.tr (Sk.fx (by rw [eσ14_3]; exact Sk.pI (by rw [fcdO (kth.up (xσ8.trans xτ7)) (by decide)]; decide)))
              have wσ14_3 : gI σ14_3 th 3 = 4 := by rw [eσ14_3]; exact up2_s _ _ _ _
              have kp39 : gI σ14_3 th 1 = gI τ7 th 1 := by rw [eσ14_3]; exact up2_n _ _ (fun q => absurd q.2 (by decide))
              have kp40 : gI σ14_3 th 2 = gI τ7 th 2 := by rw [eσ14_3]; exact up2_n _ _ (fun q => absurd q.2 (by decide))
              have kp41 : gI σ14_3 tx (gI σ th 2).toNat = gI τ7 tx (gI σ th 2).toNat := by rw [eσ14_3]; exact up2_n _ _ (fun q => absurd q.1 (kO.ne (kX.up (xσ8.trans xτ7)) (kth.up (xσ8.trans xτ7)) (by decide)))
              have kp42 : gI σ14_3 tx (gI τ7 th 2).toNat = gI τ7 tx (gI τ7 th 2).toNat := by rw [eσ14_3]; exact up2_n _ _ (fun q => absurd q.1 (kO.ne (kX.up (xσ8.trans xτ7)) (kth.up (xσ8.trans xτ7)) (by decide)))
              have kp43 : gP σ14_3 th 0 = gP τ7 th 0 := by rw [eσ14_3]
              have kp44 : gI σ14_3 th 5 = gI τ7 th 5 := by rw [eσ14_3]; exact up2_n _ _ (fun q => absurd q.2 (by decide))
              exact hQ σ14_3 () iσ14_3 fσ14_3 (by (first | omega | with_reducible assumption | with_reducible exact rng_toInt _ | with_reducible exact rng_wr _ | (unfold rng; omega) | (unfold rng at *; omega) | assumption))
            · rw [if_neg hc38]
              unfold w_X6_digits_53
              refine ⟨tx, (kp12.trans hX0), fun kk_tx_2 => ?_⟩
              refine ⟨⟨by (first | omega | with_reducible assumption | with_reducible exact rng_toInt _ | with_reducible exact rng_wr _ | (unfold rng; omega) | (unfold rng at *; omega) | assumption), by (first | omega | with_reducible assumption | with_reducible exact rng_toInt _ | with_reducible exact rng_wr _ | (unfold rng; omega) | (unfold rng at *; omega) | assumption)⟩, ?_⟩
              intro σ12 eσ12
              have xσ12 : Ext τ7 σ12 := by rw [eσ12]; exact fun _ h => ⟨h, rfl, rfl⟩
              have iσ12 : IV σ12 pl gq ci gr nc ot LL N nu := by rw [eσ12]; exact iτ7.wJ (kth.up (xσ8.trans xτ7)) (by decide)
              have fσ12 : Fx [386, 387, 388] gr σ σ12 := fτ7.tr (Sk.fx (by rw [eσ12]; exact Sk.pJ (by rw [fcdO (kth.up (xσ8.trans xτ7)) (by decide)]; decide)))
              have kp45 : gI σ12 th 1 = gI τ7 th 1 := by rw [eσ12]
              have kp46 : gI σ12 th 2 = gI τ7 th 2 := by rw [eσ12]
              have kp47 : gI σ12 tx (gI σ th 2).toNat = gI τ7 tx (gI σ th 2).toNat := by rw [eσ12]
              have kp48 : gI σ12 tx (gI τ7 th 2).toNat = gI τ7 tx (gI τ7 th 2).toNat := by rw [eσ12]
              have kp49 : gP σ12 th 0 = gP τ7 th 0 := by rw [eσ12]
              have kp50 : gI σ12 th 3 = gI τ7 th 3 := by rw [eσ12]
              have kp51 : gI σ12 th 5 = gI τ7 th 5 := by rw [eσ12]
              refine ⟨by (first | omega | with_reducible assumption | with_reducible exact rng_toInt _ | with_reducible exact rng_wr _ | (unfold rng; omega) | (unfold rng at *; omega) | assumption), ?_⟩
              intro σ13 eσ13
              have xσ13 : Ext σ12 σ13 := by rw [eσ13]; exact fun _ h => ⟨h, rfl, rfl⟩
              have iσ13 : IV σ13 pl gq ci gr nc ot LL N nu := by rw [eσ13]; exact iσ12.wO (kth.up (xσ8.trans (xτ7.trans xσ12))) (by decide) (show (0 : Int) ≤ (gI σ12 th 2 + 1) ∧ (gI σ12 th 2 + 1) ≤ 1500 from ⟨by (first | omega | with_reducible assumption | with_reducible exact rng_toInt _ | with_reducible exact rng_wr _ | (unfold rng; omega) | (unfold rng at *; omega) | assumption), by (first | omega | with_reducible assumption | with_reducible exact rng_toInt _ | with_reducible exact rng_wr _ | (unfold rng; omega) | (unfold rng at *; omega) | assumption)⟩)
              have fσ13 : Fx [386, 387, 388] gr σ σ13 := fσ12.tr (Sk.fx (by rw [eσ13]; exact Sk.pI (by rw [fcdO (kth.up (xσ8.trans (xτ7.trans xσ12))) (by decide)]; decide)))
              have wσ13 : gI σ13 th 2 = (gI σ12 th 2 + 1) := by rw [eσ13]; exact up2_s _ _ _ _
              have kp52 : gI σ13 th 1 = gI σ12 th 1 := by rw [eσ13]; exact up2_n _ _ (fun q => absurd q.2 (by decide))
              have kp53 : gI σ13 tx (gI σ th 2).toNat = gI σ12 tx (gI σ th 2).toNat := by rw [eσ13]; exact up2_n _ _ (fun q => absurd q.1 (kO.ne (kX.up (xσ8.trans (xτ7.trans xσ12))) (kth.up (xσ8.trans (xτ7.trans xσ12))) (by decide)))
              have kp54 : gI σ13 tx (gI τ7 th 2).toNat = gI σ12 tx (gI τ7 th 2).toNat := by rw [eσ13]; exact up2_n _ _ (fun q => absurd q.1 (kO.ne (kX.up (xσ8.trans (xτ7.trans xσ12))) (kth.up (xσ8.trans (xτ7.trans xσ12))) (by decide)))
              have kp55 : gP σ13 th 0 = gP σ12 th 0 := by rw [eσ13]
              have kp56 : gI σ13 th 3 = gI σ12 th 3 := by rw [eσ13]; exact up2_n _ _ (fun q => absurd q.2 (by decide))
              have kp57 : gI σ13 th 5 = gI σ12 th 5 := by rw [eσ13]; exact up2_n _ _ (fun q => absurd q.2 (by decide))
              refine ⟨by (first | omega | with_reducible assumption | with_reducible exact rng_toInt _ | with_reducible exact rng_wr _ | (unfold rng; omega) | (unfold rng at *; omega) | assumption), ?_⟩
              exact ih7 σ13 (v1 + 1) iσ13 fσ13 (xτ7.trans (xσ12.trans xσ13)) (⟨by omega, by omega, fun w => by omega, fun w => by omega⟩) (by (first | omega | with_reducible assumption | with_reducible exact rng_toInt _ | with_reducible exact rng_wr _ | (unfold rng; omega) | (unfold rng at *; omega) | assumption))
  exact ⟨_, Lp7 _ σ8 _ iσ8 fσ8 (Ext.rfl' _) (⟨by omega, by omega, fun _ => by omega, fun w => by omega⟩) (Nat.lt_succ_self _)⟩
set_option maxHeartbeats 1000000 in
theorem i_X6_next {σ : Sg} {pl : Nat} {gq ci gr nc : Nat → Nat} {ot : Nat → Nat → Int} {LL : Nat → List Nat} {N nu : Nat → Nat} {th : Nat} {tx : Nat} (iσ : IV σ pl gq ci gr nc ot LL N nu) (kth : kO σ th 6) (hX0 : gP σ th 0 = some tx) (kX : kO σ tx 102) (gX : gn σ tx = 1500) (tf : gI σ th 5 ≤ gI σ th 2 ∧ (gI σ th 3 ≠ 0 → gI σ th 5 + 1 ≤ gI σ th 2)) (h5 : nu 5 < 24000) {Q : Sg → Unit → Prop} {X : Sg → String → Prop} (hQ : ∀ (σ' : Sg) (r : Unit), IV σ' pl gq ci gr nc ot LL N nu → Fx [386, 387, 388, 389, 390] gr σ σ' → (KV σ' th ∧ (gI σ' th 5 ≤ gI σ' th 2 ∧ (gI σ' th 3 ≠ 0 → gI σ' th 5 + 1 ≤ gI σ' th 2)) ∧ gI σ th 5 ≤ gI σ' th 5 ∧ (gI σ th 3 ≠ 0 → gI σ th 5 + 1 ≤ gI σ' th 5)) → Q σ' r) (hX : ∀ (σ' : Sg) (LL' : Nat → List Nat) (N' nu' : Nat → Nat) (E : String), IV σ' pl gq ci gr nc ot LL' N' nu' → Fx [386, 387, 388, 389, 390] gr σ σ' → NCX nu nu' → (LL' = LL ∧ N' = N ∧ E = "java/lang/IllegalArgumentException" ∧ gI σ' th 6 ≠ 0) → X σ' E) : wp_X6_next th σ Q X := by
  have fσ : Fx [386, 387, 388, 389, 390] gr σ σ := Fx.rf
  have q1 := I_6_5 iσ.1 kth
  have q2 := I_6_2 iσ.1 kth
  have q3 := iσ.rg th 3; unfold rng at q3
  unfold wp_X6_next
  unfold w_X6_next_0
  have Lp2 : ∀ (fu2 : Nat) (τ2 : Sg) (v1 : Int), IV τ2 pl gq ci gr nc ot LL N nu → Fx [386, 387, 388, 389, 390] gr σ τ2 → Ext σ τ2 → ((0 ≤ v1 ∧ v1 ≤ 1500) ∧ gI σ th 2 ≤ gI τ2 th 2) → ((1500 - v1).toNat) < fu2 → wl_X6_next_2 th Q X fu2 τ2 v1 := by
    intro fu2
    induction fu2 with
    | zero => intro _ _ _ _ _ _ h9; omega
    | succ fu2 ih2 =>
      intro τ2 v1 iτ2 fτ2 xτ2 hi2 hm2
      unfold wl_X6_next_2
      have kp4 : gP τ2 th 0 = gP σ th 0 := (fτ2.O kth (by decide)).2.1
      have xl2 := I_6_1 iτ2.1 (kth.up xτ2)
      unfold w_X6_next_2
      by_cases hc5 : v1 ≥ 1500
      · rw [if_pos hc5]
        unfold w_X6_next_62
        intro σ19 eσ19
        have xσ19 : Ext τ2 σ19 := by rw [eσ19]; exact fun _ h => ⟨h, rfl, rfl⟩
        have q6 := I_6_2 iτ2.1 (kth.up xτ2)
        have iσ19 : IV σ19 pl gq ci gr nc ot LL N nu := by rw [eσ19]; exact iτ2.wO (kth.up xτ2) (by decide) (show (0 : Int) ≤ (gI τ2 th 2) ∧ (gI τ2 th 2) ≤ 1500 from ⟨by (first | omega | with_reducible assumption | with_reducible exact rng_toInt _ | with_reducible exact rng_wr _ | (unfold rng; omega) | (unfold rng at *; omega) | assumption), by (first | omega | with_reducible assumption | with_reducible exact rng_toInt _ | with_reducible exact rng_wr _ | (unfold rng; omega) | (unfold rng at *; omega) | assumption)⟩)
        have fσ19 : Fx [386, 387, 388, 389, 390] gr σ σ19 := fτ2.tr (Sk.fx (by rw [eσ19]; exact Sk.pI (by rw [fcdO (kth.up xτ2) (by decide)]; decide)))
        have wσ19 : gI σ19 th 5 = (gI τ2 th 2) := by rw [eσ19]; exact up2_s _ _ _ _
        have kp7 : gI σ19 th 2 = gI τ2 th 2 := by rw [eσ19]; exact up2_n _ _ (fun q => absurd q.2 (by decide))
        have kp8 : gP σ19 th 0 = gP τ2 th 0 := by rw [eσ19]
        have kp9 : gI σ19 th 3 = gI τ2 th 3 := by rw [eσ19]; exact up2_n _ _ (fun q => absurd q.2 (by decide))
        have q11 := I_6_1 iσ19.1 (kth.up (xτ2.trans xσ19))
        by_cases hc10 : gI σ19 th 2 < gI σ19 th 1
        · rw [if_pos hc10]
          unfold w_X6_next_87
          refine ⟨tx, (kp8.trans (kp4.trans hX0)), fun kk_tx => ?_⟩
          have q12 := ((xτ2.trans xσ19) tx kX.1).2.2
          refine ⟨⟨by (first | omega | with_reducible assumption | with_reducible exact rng_toInt _ | with_reducible exact rng_wr _ | (unfold rng; omega) | (unfold rng at *; omega) | assumption), by (first | omega | with_reducible assumption | with_reducible exact rng_toInt _ | with_reducible exact rng_wr _ | (unfold rng; omega) | (unfold rng at *; omega) | assumption)⟩, ?_⟩
          intro σ22 eσ22
          have xσ22 : Ext σ19 σ22 := by rw [eσ22]; exact fun _ h => ⟨h, rfl, rfl⟩
          have iσ22 : IV σ22 pl gq ci gr nc ot LL N nu := by rw [eσ22]; exact iσ19.wJ (kth.up (xτ2.trans xσ19)) (by decide)
          have fσ22 : Fx [386, 387, 388, 389, 390] gr σ σ22 := fσ19.tr (Sk.fx (by rw [eσ22]; exact Sk.pJ (by rw [fcdO (kth.up (xτ2.trans xσ19)) (by decide)]; decide)))
          have kp13 : gI σ22 th 1 = gI σ19 th 1 := by rw [eσ22]
          have kp14 : gI σ22 th 2 = gI σ19 th 2 := by rw [eσ22]
          have kp15 : gI σ22 th 5 = gI σ19 th 5 := by rw [eσ22]
          have kp16 : gP σ22 th 0 = gP σ19 th 0 := by rw [eσ22]
          have kp17 : gI σ22 th 3 = gI σ19 th 3 := by rw [eσ22]
          have v22 : gJ σ22 th 4 = Int64.ofInt (gI σ19 tx (gI σ19 th 2).toNat) := by rw [eσ22]; exact up2_s _ _ _ _
          have r22 := iσ19.rg tx (gI σ19 th 2).toNat
          have xk22 : gI σ22 tx (gI σ22 th 2).toNat = gI σ19 tx (gI σ19 th 2).toNat := by rw [eσ22]
          by_cases hc18 : gJ σ22 th 4 < 97
          · rw [if_pos hc18]
            unfold w_X6_next_130
            by_cases hc19 : gJ σ22 th 4 < 48
            · rw [if_pos hc19]
              unfold w_X6_next_178
              refine i_X6_isSignByte iσ22 (fun r27 pσ26 => ?_)
              intro xσ26
              by_cases hc20 : r27 ≠ 0
              · rw [if_pos hc20]
                unfold w_X6_next_194
                intro σ29 eσ29
                have xσ29 : Ext σ22 σ29 := by rw [eσ29]; exact fun _ h => ⟨h, rfl, rfl⟩
                have iσ29 : IV σ29 pl gq ci gr nc ot LL N nu := by rw [eσ29]; exact iσ22.wO (kth.up (xτ2.trans (xσ19.trans xσ22))) (by decide) (rngb (by first | exact rng_wr _ | (first | omega | with_reducible assumption | with_reducible exact rng_toInt _ | with_reducible exact rng_wr _ | (unfold rng; omega) | (unfold rng at *; omega) | assumption)))
                have fσ29 : Fx [386, 387, 388, 389, 390] gr σ σ29 := fσ22.tr (Sk.fx (by rw [eσ29]; exact Sk.pI (by rw [fcdO (kth.up (xτ2.trans (xσ19.trans xσ22))) (by decide)]; decide)))
                have wσ29 : gI σ29 th 3 = 5 := by rw [eσ29]; exact up2_s _ _ _ _
                have kp21 : gI σ29 th 1 = gI σ22 th 1 := by rw [eσ29]; exact up2_n _ _ (fun q => absurd q.2 (by decide))
                have kp22 : gI σ29 th 2 = gI σ22 th 2 := by rw [eσ29]; exact up2_n _ _ (fun q => absurd q.2 (by decide))
                have kp23 : gI σ29 th 5 = gI σ22 th 5 := by rw [eσ29]; exact up2_n _ _ (fun q => absurd q.2 (by decide))
                have kp24 : gP σ29 th 0 = gP σ22 th 0 := by rw [eσ29]
                refine ⟨by (first | omega | with_reducible assumption | with_reducible exact rng_toInt _ | with_reducible exact rng_wr _ | (unfold rng; omega) | (unfold rng at *; omega) | assumption), ?_⟩
                intro σ30 eσ30
                have xσ30 : Ext σ29 σ30 := by rw [eσ30]; exact fun _ h => ⟨h, rfl, rfl⟩
                have iσ30 : IV σ30 pl gq ci gr nc ot LL N nu := by rw [eσ30]; exact iσ29.wO (kth.up (xτ2.trans (xσ19.trans (xσ22.trans xσ29)))) (by decide) (show (0 : Int) ≤ (gI σ29 th 2 + 1) ∧ (gI σ29 th 2 + 1) ≤ 1500 from ⟨by (first | omega | with_reducible assumption | with_reducible exact rng_toInt _ | with_reducible exact rng_wr _ | (unfold rng; omega) | (unfold rng at *; omega) | assumption), by (first | omega | with_reducible assumption | with_reducible exact rng_toInt _ | with_reducible exact rng_wr _ | (unfold rng; omega) | (unfold rng at *; omega) | assumption)⟩)
                have fσ30 : Fx [386, 387, 388, 389, 390] gr σ σ30 := fσ29.tr (Sk.fx (by rw [eσ30]; exact Sk.pI (by rw [fcdO (kth.up (xτ2.trans (xσ19.trans (xσ22.trans xσ29)))) (by decide)]; decide)))
                have wσ30 : gI σ30 th 2 = (gI σ29 th 2 + 1) := by rw [eσ30]; exact up2_s _ _ _ _
                have kp25 : gI σ30 th 1 = gI σ29 th 1 := by rw [eσ30]; exact up2_n _ _ (fun q => absurd q.2 (by decide))
                have kp26 : gI σ30 th 3 = gI σ29 th 3 := by rw [eσ30]; exact up2_n _ _ (fun q => absurd q.2 (by decide))
                have kp27 : gI σ30 th 5 = gI σ29 th 5 := by rw [eσ30]; exact up2_n _ _ (fun q => absurd q.2 (by decide))
                have kp28 : gP σ30 th 0 = gP σ29 th 0 := by rw [eσ30]
                unfold w_X6_next_209
                exact hQ σ30 () iσ30 fσ30 (⟨by first | exact kvw | exact fun e => absurd e (by omega), by omega⟩)
              · rw [if_neg hc20]
                have hc20q := Classical.not_not.mp hc20
                unfold w_X6_next_189
                refine i_X6_refuse iσ22 (kth.up (xτ2.trans (xσ19.trans xσ22))) (by (first | omega | with_reducible assumption | with_reducible exact rng_toInt _ | with_reducible exact rng_wr _ | (unfold rng; omega) | (unfold rng at *; omega) | assumption)) (by (first | omega | with_reducible assumption | with_reducible exact rng_toInt _ | with_reducible exact rng_wr _ | (unfold rng; omega) | (unfold rng at *; omega) | assumption)) (by (first | omega | with_reducible assumption | with_reducible exact rng_toInt _ | with_reducible exact rng_wr _ | (unfold rng; omega) | (unfold rng at *; omega) | assumption)) (fun σ28 _ iσ28 cσ28 pσ28 => ?_) (fun σx LLx Nx nux E ix cx ux px => hX σx LLx Nx nux E ix (fσ22.tr (cx.mo (by decide))) (ux) (by first | exact px | exact ⟨by have := px.1; omega, px.2⟩ | (first | omega | with_reducible assumption | with_reducible exact rng_toInt _ | with_reducible exact rng_wr _ | (unfold rng; omega) | (unfold rng at *; omega) | assumption)))
                intro xσ28
                exact pσ28.elim
            · rw [if_neg hc19]
              unfold w_X6_next_141
              by_cases hc29 : gJ σ22 th 4 > 57
              · rw [if_pos hc29]
                unfold w_X6_next_178
                refine i_X6_isSignByte iσ22 (fun r27_1 pσ26_1 => ?_)
                intro xσ26_1
                by_cases hc30 : r27_1 ≠ 0
                · rw [if_pos hc30]
                  unfold w_X6_next_194
                  intro σ29_1 eσ29_1
                  have xσ29_1 : Ext σ22 σ29_1 := by rw [eσ29_1]; exact fun _ h => ⟨h, rfl, rfl⟩
                  have iσ29_1 : IV σ29_1 pl gq ci gr nc ot LL N nu := by rw [eσ29_1]; exact iσ22.wO (kth.up (xτ2.trans (xσ19.trans xσ22))) (by decide) (rngb (by first | exact rng_wr _ | (first | omega | with_reducible assumption | with_reducible exact rng_toInt _ | with_reducible exact rng_wr _ | (unfold rng; omega) | (unfold rng at *; omega) | assumption)))
                  have fσ29_1 : Fx [386, 387, 388, 389, 390] gr σ σ29_1 := fσ22.tr (Sk.fx (by rw [eσ29_1]; exact Sk.pI (by rw [fcdO (kth.up (xτ2.trans (xσ19.trans xσ22))) (by decide)]; decide)))
                  have wσ29_1 : gI σ29_1 th 3 = 5 := by rw [eσ29_1]; exact up2_s _ _ _ _
                  have kp31 : gI σ29_1 th 1 = gI σ22 th 1 := by rw [eσ29_1]; exact up2_n _ _ (fun q => absurd q.2 (by decide))
                  have kp32 : gI σ29_1 th 2 = gI σ22 th 2 := by rw [eσ29_1]; exact up2_n _ _ (fun q => absurd q.2 (by decide))
                  have kp33 : gI σ29_1 th 5 = gI σ22 th 5 := by rw [eσ29_1]; exact up2_n _ _ (fun q => absurd q.2 (by decide))
                  have kp34 : gP σ29_1 th 0 = gP σ22 th 0 := by rw [eσ29_1]
                  refine ⟨by (first | omega | with_reducible assumption | with_reducible exact rng_toInt _ | with_reducible exact rng_wr _ | (unfold rng; omega) | (unfold rng at *; omega) | assumption), ?_⟩
                  intro σ30_1 eσ30_1
                  have xσ30_1 : Ext σ29_1 σ30_1 := by rw [eσ30_1]; exact fun _ h => ⟨h, rfl, rfl⟩
                  have iσ30_1 : IV σ30_1 pl gq ci gr nc ot LL N nu := by rw [eσ30_1]; exact iσ29_1.wO (kth.up (xτ2.trans (xσ19.trans (xσ22.trans xσ29_1)))) (by decide) (show (0 : Int) ≤ (gI σ29_1 th 2 + 1) ∧ (gI σ29_1 th 2 + 1) ≤ 1500 from ⟨by (first | omega | with_reducible assumption | with_reducible exact rng_toInt _ | with_reducible exact rng_wr _ | (unfold rng; omega) | (unfold rng at *; omega) | assumption), by (first | omega | with_reducible assumption | with_reducible exact rng_toInt _ | with_reducible exact rng_wr _ | (unfold rng; omega) | (unfold rng at *; omega) | assumption)⟩)
                  have fσ30_1 : Fx [386, 387, 388, 389, 390] gr σ σ30_1 := fσ29_1.tr (Sk.fx (by rw [eσ30_1]; exact Sk.pI (by rw [fcdO (kth.up (xτ2.trans (xσ19.trans (xσ22.trans xσ29_1)))) (by decide)]; decide)))
                  have wσ30_1 : gI σ30_1 th 2 = (gI σ29_1 th 2 + 1) := by rw [eσ30_1]; exact up2_s _ _ _ _
                  have kp35 : gI σ30_1 th 1 = gI σ29_1 th 1 := by rw [eσ30_1]; exact up2_n _ _ (fun q => absurd q.2 (by decide))
                  have kp36 : gI σ30_1 th 3 = gI σ29_1 th 3 := by rw [eσ30_1]; exact up2_n _ _ (fun q => absurd q.2 (by decide))
                  have kp37 : gI σ30_1 th 5 = gI σ29_1 th 5 := by rw [eσ30_1]; exact up2_n _ _ (fun q => absurd q.2 (by decide))
                  have kp38 : gP σ30_1 th 0 = gP σ29_1 th 0 := by rw [eσ30_1]
                  unfold w_X6_next_209
                  exact hQ σ30_1 () iσ30_1 fσ30_1 (⟨by first | exact kvw | exact fun e => absurd e (by omega), by omega⟩)
                · rw [if_neg hc30]
                  have hc30q := Classical.not_not.mp hc30
                  unfold w_X6_next_189
                  refine i_X6_refuse iσ22 (kth.up (xτ2.trans (xσ19.trans xσ22))) (by (first | omega | with_reducible assumption | with_reducible exact rng_toInt _ | with_reducible exact rng_wr _ | (unfold rng; omega) | (unfold rng at *; omega) | assumption)) (by (first | omega | with_reducible assumption | with_reducible exact rng_toInt _ | with_reducible exact rng_wr _ | (unfold rng; omega) | (unfold rng at *; omega) | assumption)) (by (first | omega | with_reducible assumption | with_reducible exact rng_toInt _ | with_reducible exact rng_wr _ | (unfold rng; omega) | (unfold rng at *; omega) | assumption)) (fun σ28_1 _ iσ28_1 cσ28_1 pσ28_1 => ?_) (fun σx LLx Nx nux E ix cx ux px => hX σx LLx Nx nux E ix (fσ22.tr (cx.mo (by decide))) (ux) (by first | exact px | exact ⟨by have := px.1; omega, px.2⟩ | (first | omega | with_reducible assumption | with_reducible exact rng_toInt _ | with_reducible exact rng_wr _ | (unfold rng; omega) | (unfold rng at *; omega) | assumption)))
                  intro xσ28_1
                  exact pσ28_1.elim
              · rw [if_neg hc29]
                unfold w_X6_next_152
                refine i_X6_digits iσ22 (kth.up (xτ2.trans (xσ19.trans xσ22))) (kp16.trans (kp8.trans (kp4.trans hX0))) (kX.up (xτ2.trans (xσ19.trans xσ22))) (((xτ2.trans (xσ19.trans xσ22)) tx kX.1).2.2.trans gX) (by omega) (by rw [xk22]; have a9 := ge64 (a := 48) r22 (by rw [← v22]; assumption); have b9 := le64 (a := 57) r22 (by rw [← v22]; assumption); have c9 : (48 : Int64).toInt = 48 := rfl; have d9 : (57 : Int64).toInt = 57 := rfl; omega) (fun σ24 _ iσ24 cσ24 pσ24 => ?_)
                intro xσ24
                have fσ24 : Fx [386, 387, 388, 389, 390] gr σ σ24 := fσ22.tr (cσ24.mo (by decide))
                have kp39 : gI σ24 th 1 = gI σ22 th 1 := (cσ24.O (kth.up (xτ2.trans (xσ19.trans xσ22))) (by decide)).1
                have kp40 : gI σ24 th 5 = gI σ22 th 5 := (cσ24.O (kth.up (xτ2.trans (xσ19.trans xσ22))) (by decide)).1
                have kp41 : gP σ24 th 0 = gP σ22 th 0 := (cσ24.O (kth.up (xτ2.trans (xσ19.trans xσ22))) (by decide)).2.1
                have q42 := I_6_2 iσ24.1 (kth.up (xτ2.trans (xσ19.trans (xσ22.trans xσ24))))
                refine ⟨by (first | omega | with_reducible assumption | with_reducible exact rng_toInt _ | with_reducible exact rng_wr _ | (unfold rng; omega) | (unfold rng at *; omega) | assumption), ?_⟩
                by_cases hc43 : (gI σ24 th 2 - gI σ24 th 5) ≤ 18
                · rw [if_pos hc43]
                  unfold w_X6_next_209
                  exact hQ σ24 () iσ24 fσ24 (⟨by first | exact kvw | exact fun e => absurd e (by omega), by omega⟩)
                · rw [if_neg hc43]
                  unfold w_X6_next_170
                  refine i_X6_refuse iσ24 (kth.up (xτ2.trans (xσ19.trans (xσ22.trans xσ24)))) (by (first | omega | with_reducible assumption | with_reducible exact rng_toInt _ | with_reducible exact rng_wr _ | (unfold rng; omega) | (unfold rng at *; omega) | assumption)) (by (first | omega | with_reducible assumption | with_reducible exact rng_toInt _ | with_reducible exact rng_wr _ | (unfold rng; omega) | (unfold rng at *; omega) | assumption)) (by (first | omega | with_reducible assumption | with_reducible exact rng_toInt _ | with_reducible exact rng_wr _ | (unfold rng; omega) | (unfold rng at *; omega) | assumption)) (fun σ25 _ iσ25 cσ25 pσ25 => ?_) (fun σx LLx Nx nux E ix cx ux px => hX σx LLx Nx nux E ix (fσ24.tr (cx.mo (by decide))) (ux) (by first | exact px | exact ⟨by have := px.1; omega, px.2⟩ | (first | omega | with_reducible assumption | with_reducible exact rng_toInt _ | with_reducible exact rng_wr _ | (unfold rng; omega) | (unfold rng at *; omega) | assumption)))
                  intro xσ25
                  exact pσ25.elim
          · rw [if_neg hc18]
            unfold w_X6_next_112
            by_cases hc44 : gJ σ22 th 4 > 122
            · rw [if_pos hc44]
              unfold w_X6_next_130
              by_cases hc45 : gJ σ22 th 4 < 48
              · rw [if_pos hc45]
                unfold w_X6_next_178
                refine i_X6_isSignByte iσ22 (fun r27_2 pσ26_2 => ?_)
                intro xσ26_2
                by_cases hc46 : r27_2 ≠ 0
                · rw [if_pos hc46]
                  unfold w_X6_next_194
                  intro σ29_2 eσ29_2
                  have xσ29_2 : Ext σ22 σ29_2 := by rw [eσ29_2]; exact fun _ h => ⟨h, rfl, rfl⟩
                  have iσ29_2 : IV σ29_2 pl gq ci gr nc ot LL N nu := by rw [eσ29_2]; exact iσ22.wO (kth.up (xτ2.trans (xσ19.trans xσ22))) (by decide) (rngb (by first | exact rng_wr _ | (first | omega | with_reducible assumption | with_reducible exact rng_toInt _ | with_reducible exact rng_wr _ | (unfold rng; omega) | (unfold rng at *; omega) | assumption)))
                  have fσ29_2 : Fx [386, 387, 388, 389, 390] gr σ σ29_2 := fσ22.tr (Sk.fx (by rw [eσ29_2]; exact Sk.pI (by rw [fcdO (kth.up (xτ2.trans (xσ19.trans xσ22))) (by decide)]; decide)))
                  have wσ29_2 : gI σ29_2 th 3 = 5 := by rw [eσ29_2]; exact up2_s _ _ _ _
                  have kp47 : gI σ29_2 th 1 = gI σ22 th 1 := by rw [eσ29_2]; exact up2_n _ _ (fun q => absurd q.2 (by decide))
                  have kp48 : gI σ29_2 th 2 = gI σ22 th 2 := by rw [eσ29_2]; exact up2_n _ _ (fun q => absurd q.2 (by decide))
                  have kp49 : gI σ29_2 th 5 = gI σ22 th 5 := by rw [eσ29_2]; exact up2_n _ _ (fun q => absurd q.2 (by decide))
                  have kp50 : gP σ29_2 th 0 = gP σ22 th 0 := by rw [eσ29_2]
                  refine ⟨by (first | omega | with_reducible assumption | with_reducible exact rng_toInt _ | with_reducible exact rng_wr _ | (unfold rng; omega) | (unfold rng at *; omega) | assumption), ?_⟩
                  intro σ30_2 eσ30_2
                  have xσ30_2 : Ext σ29_2 σ30_2 := by rw [eσ30_2]; exact fun _ h => ⟨h, rfl, rfl⟩
                  have iσ30_2 : IV σ30_2 pl gq ci gr nc ot LL N nu := by rw [eσ30_2]; exact iσ29_2.wO (kth.up (xτ2.trans (xσ19.trans (xσ22.trans xσ29_2)))) (by decide) (show (0 : Int) ≤ (gI σ29_2 th 2 + 1) ∧ (gI σ29_2 th 2 + 1) ≤ 1500 from ⟨by (first | omega | with_reducible assumption | with_reducible exact rng_toInt _ | with_reducible exact rng_wr _ | (unfold rng; omega) | (unfold rng at *; omega) | assumption), by (first | omega | with_reducible assumption | with_reducible exact rng_toInt _ | with_reducible exact rng_wr _ | (unfold rng; omega) | (unfold rng at *; omega) | assumption)⟩)
                  have fσ30_2 : Fx [386, 387, 388, 389, 390] gr σ σ30_2 := fσ29_2.tr (Sk.fx (by rw [eσ30_2]; exact Sk.pI (by rw [fcdO (kth.up (xτ2.trans (xσ19.trans (xσ22.trans xσ29_2)))) (by decide)]; decide)))
                  have wσ30_2 : gI σ30_2 th 2 = (gI σ29_2 th 2 + 1) := by rw [eσ30_2]; exact up2_s _ _ _ _
                  have kp51 : gI σ30_2 th 1 = gI σ29_2 th 1 := by rw [eσ30_2]; exact up2_n _ _ (fun q => absurd q.2 (by decide))
                  have kp52 : gI σ30_2 th 3 = gI σ29_2 th 3 := by rw [eσ30_2]; exact up2_n _ _ (fun q => absurd q.2 (by decide))
                  have kp53 : gI σ30_2 th 5 = gI σ29_2 th 5 := by rw [eσ30_2]; exact up2_n _ _ (fun q => absurd q.2 (by decide))
                  have kp54 : gP σ30_2 th 0 = gP σ29_2 th 0 := by rw [eσ30_2]
                  unfold w_X6_next_209
                  exact hQ σ30_2 () iσ30_2 fσ30_2 (⟨by first | exact kvw | exact fun e => absurd e (by omega), by omega⟩)
                · rw [if_neg hc46]
                  have hc46q := Classical.not_not.mp hc46
                  unfold w_X6_next_189
                  refine i_X6_refuse iσ22 (kth.up (xτ2.trans (xσ19.trans xσ22))) (by (first | omega | with_reducible assumption | with_reducible exact rng_toInt _ | with_reducible exact rng_wr _ | (unfold rng; omega) | (unfold rng at *; omega) | assumption)) (by (first | omega | with_reducible assumption | with_reducible exact rng_toInt _ | with_reducible exact rng_wr _ | (unfold rng; omega) | (unfold rng at *; omega) | assumption)) (by (first | omega | with_reducible assumption | with_reducible exact rng_toInt _ | with_reducible exact rng_wr _ | (unfold rng; omega) | (unfold rng at *; omega) | assumption)) (fun σ28_2 _ iσ28_2 cσ28_2 pσ28_2 => ?_) (fun σx LLx Nx nux E ix cx ux px => hX σx LLx Nx nux E ix (fσ22.tr (cx.mo (by decide))) (ux) (by first | exact px | exact ⟨by have := px.1; omega, px.2⟩ | (first | omega | with_reducible assumption | with_reducible exact rng_toInt _ | with_reducible exact rng_wr _ | (unfold rng; omega) | (unfold rng at *; omega) | assumption)))
                  intro xσ28_2
                  exact pσ28_2.elim
              · rw [if_neg hc45]
                unfold w_X6_next_141
                by_cases hc55 : gJ σ22 th 4 > 57
                · rw [if_pos hc55]
                  unfold w_X6_next_178
                  refine i_X6_isSignByte iσ22 (fun r27_3 pσ26_3 => ?_)
                  intro xσ26_3
                  by_cases hc56 : r27_3 ≠ 0
                  · rw [if_pos hc56]
                    unfold w_X6_next_194
                    intro σ29_3 eσ29_3
                    have xσ29_3 : Ext σ22 σ29_3 := by rw [eσ29_3]; exact fun _ h => ⟨h, rfl, rfl⟩
                    have iσ29_3 : IV σ29_3 pl gq ci gr nc ot LL N nu := by rw [eσ29_3]; exact iσ22.wO (kth.up (xτ2.trans (xσ19.trans xσ22))) (by decide) (rngb (by first | exact rng_wr _ | (first | omega | with_reducible assumption | with_reducible exact rng_toInt _ | with_reducible exact rng_wr _ | (unfold rng; omega) | (unfold rng at *; omega) | assumption)))
                    have fσ29_3 : Fx [386, 387, 388, 389, 390] gr σ σ29_3 := fσ22.tr (Sk.fx (by rw [eσ29_3]; exact Sk.pI (by rw [fcdO (kth.up (xτ2.trans (xσ19.trans xσ22))) (by decide)]; decide)))
                    have wσ29_3 : gI σ29_3 th 3 = 5 := by rw [eσ29_3]; exact up2_s _ _ _ _
                    have kp57 : gI σ29_3 th 1 = gI σ22 th 1 := by rw [eσ29_3]; exact up2_n _ _ (fun q => absurd q.2 (by decide))
                    have kp58 : gI σ29_3 th 2 = gI σ22 th 2 := by rw [eσ29_3]; exact up2_n _ _ (fun q => absurd q.2 (by decide))
                    have kp59 : gI σ29_3 th 5 = gI σ22 th 5 := by rw [eσ29_3]; exact up2_n _ _ (fun q => absurd q.2 (by decide))
                    have kp60 : gP σ29_3 th 0 = gP σ22 th 0 := by rw [eσ29_3]
                    refine ⟨by (first | omega | with_reducible assumption | with_reducible exact rng_toInt _ | with_reducible exact rng_wr _ | (unfold rng; omega) | (unfold rng at *; omega) | assumption), ?_⟩
                    intro σ30_3 eσ30_3
                    have xσ30_3 : Ext σ29_3 σ30_3 := by rw [eσ30_3]; exact fun _ h => ⟨h, rfl, rfl⟩
                    have iσ30_3 : IV σ30_3 pl gq ci gr nc ot LL N nu := by rw [eσ30_3]; exact iσ29_3.wO (kth.up (xτ2.trans (xσ19.trans (xσ22.trans xσ29_3)))) (by decide) (show (0 : Int) ≤ (gI σ29_3 th 2 + 1) ∧ (gI σ29_3 th 2 + 1) ≤ 1500 from ⟨by (first | omega | with_reducible assumption | with_reducible exact rng_toInt _ | with_reducible exact rng_wr _ | (unfold rng; omega) | (unfold rng at *; omega) | assumption), by (first | omega | with_reducible assumption | with_reducible exact rng_toInt _ | with_reducible exact rng_wr _ | (unfold rng; omega) | (unfold rng at *; omega) | assumption)⟩)
                    have fσ30_3 : Fx [386, 387, 388, 389, 390] gr σ σ30_3 := fσ29_3.tr (Sk.fx (by rw [eσ30_3]; exact Sk.pI (by rw [fcdO (kth.up (xτ2.trans (xσ19.trans (xσ22.trans xσ29_3)))) (by decide)]; decide)))
                    have wσ30_3 : gI σ30_3 th 2 = (gI σ29_3 th 2 + 1) := by rw [eσ30_3]; exact up2_s _ _ _ _
                    have kp61 : gI σ30_3 th 1 = gI σ29_3 th 1 := by rw [eσ30_3]; exact up2_n _ _ (fun q => absurd q.2 (by decide))
                    have kp62 : gI σ30_3 th 3 = gI σ29_3 th 3 := by rw [eσ30_3]; exact up2_n _ _ (fun q => absurd q.2 (by decide))
                    have kp63 : gI σ30_3 th 5 = gI σ29_3 th 5 := by rw [eσ30_3]; exact up2_n _ _ (fun q => absurd q.2 (by decide))
                    have kp64 : gP σ30_3 th 0 = gP σ29_3 th 0 := by rw [eσ30_3]
                    unfold w_X6_next_209
                    exact hQ σ30_3 () iσ30_3 fσ30_3 (⟨by first | exact kvw | exact fun e => absurd e (by omega), by omega⟩)
                  · rw [if_neg hc56]
                    have hc56q := Classical.not_not.mp hc56
                    unfold w_X6_next_189
                    refine i_X6_refuse iσ22 (kth.up (xτ2.trans (xσ19.trans xσ22))) (by (first | omega | with_reducible assumption | with_reducible exact rng_toInt _ | with_reducible exact rng_wr _ | (unfold rng; omega) | (unfold rng at *; omega) | assumption)) (by (first | omega | with_reducible assumption | with_reducible exact rng_toInt _ | with_reducible exact rng_wr _ | (unfold rng; omega) | (unfold rng at *; omega) | assumption)) (by (first | omega | with_reducible assumption | with_reducible exact rng_toInt _ | with_reducible exact rng_wr _ | (unfold rng; omega) | (unfold rng at *; omega) | assumption)) (fun σ28_3 _ iσ28_3 cσ28_3 pσ28_3 => ?_) (fun σx LLx Nx nux E ix cx ux px => hX σx LLx Nx nux E ix (fσ22.tr (cx.mo (by decide))) (ux) (by first | exact px | exact ⟨by have := px.1; omega, px.2⟩ | (first | omega | with_reducible assumption | with_reducible exact rng_toInt _ | with_reducible exact rng_wr _ | (unfold rng; omega) | (unfold rng at *; omega) | assumption)))
                    intro xσ28_3
                    exact pσ28_3.elim
                · rw [if_neg hc55]
                  unfold w_X6_next_152
                  refine i_X6_digits iσ22 (kth.up (xτ2.trans (xσ19.trans xσ22))) (kp16.trans (kp8.trans (kp4.trans hX0))) (kX.up (xτ2.trans (xσ19.trans xσ22))) (((xτ2.trans (xσ19.trans xσ22)) tx kX.1).2.2.trans gX) (by omega) (by rw [xk22]; have a9 := ge64 (a := 48) r22 (by rw [← v22]; assumption); have b9 := le64 (a := 57) r22 (by rw [← v22]; assumption); have c9 : (48 : Int64).toInt = 48 := rfl; have d9 : (57 : Int64).toInt = 57 := rfl; omega) (fun σ24_1 _ iσ24_1 cσ24_1 pσ24_1 => ?_)
                  intro xσ24_1
                  have fσ24_1 : Fx [386, 387, 388, 389, 390] gr σ σ24_1 := fσ22.tr (cσ24_1.mo (by decide))
                  have kp65 : gI σ24_1 th 1 = gI σ22 th 1 := (cσ24_1.O (kth.up (xτ2.trans (xσ19.trans xσ22))) (by decide)).1
                  have kp66 : gI σ24_1 th 5 = gI σ22 th 5 := (cσ24_1.O (kth.up (xτ2.trans (xσ19.trans xσ22))) (by decide)).1
                  have kp67 : gP σ24_1 th 0 = gP σ22 th 0 := (cσ24_1.O (kth.up (xτ2.trans (xσ19.trans xσ22))) (by decide)).2.1
                  have q68 := I_6_2 iσ24_1.1 (kth.up (xτ2.trans (xσ19.trans (xσ22.trans xσ24_1))))
                  refine ⟨by (first | omega | with_reducible assumption | with_reducible exact rng_toInt _ | with_reducible exact rng_wr _ | (unfold rng; omega) | (unfold rng at *; omega) | assumption), ?_⟩
                  by_cases hc69 : (gI σ24_1 th 2 - gI σ24_1 th 5) ≤ 18
                  · rw [if_pos hc69]
                    unfold w_X6_next_209
                    exact hQ σ24_1 () iσ24_1 fσ24_1 (⟨by first | exact kvw | exact fun e => absurd e (by omega), by omega⟩)
                  · rw [if_neg hc69]
                    unfold w_X6_next_170
                    refine i_X6_refuse iσ24_1 (kth.up (xτ2.trans (xσ19.trans (xσ22.trans xσ24_1)))) (by (first | omega | with_reducible assumption | with_reducible exact rng_toInt _ | with_reducible exact rng_wr _ | (unfold rng; omega) | (unfold rng at *; omega) | assumption)) (by (first | omega | with_reducible assumption | with_reducible exact rng_toInt _ | with_reducible exact rng_wr _ | (unfold rng; omega) | (unfold rng at *; omega) | assumption)) (by (first | omega | with_reducible assumption | with_reducible exact rng_toInt _ | with_reducible exact rng_wr _ | (unfold rng; omega) | (unfold rng at *; omega) | assumption)) (fun σ25_1 _ iσ25_1 cσ25_1 pσ25_1 => ?_) (fun σx LLx Nx nux E ix cx ux px => hX σx LLx Nx nux E ix (fσ24_1.tr (cx.mo (by decide))) (ux) (by first | exact px | exact ⟨by have := px.1; omega, px.2⟩ | (first | omega | with_reducible assumption | with_reducible exact rng_toInt _ | with_reducible exact rng_wr _ | (unfold rng; omega) | (unfold rng at *; omega) | assumption)))
                    intro xσ25_1
                    exact pσ25_1.elim
            · rw [if_neg hc44]
              unfold w_X6_next_123
              refine i_X6_word iσ22 (kth.up (xτ2.trans (xσ19.trans xσ22))) (kp16.trans (kp8.trans (kp4.trans hX0))) (kX.up (xτ2.trans (xσ19.trans xσ22))) (((xτ2.trans (xσ19.trans xσ22)) tx kX.1).2.2.trans gX) (by omega) (by rw [xk22]; have a9 := ge64 (a := 97) r22 (by rw [← v22]; assumption); have b9 := le64 (a := 122) r22 (by rw [← v22]; assumption); have c9 : (97 : Int64).toInt = 97 := rfl; have d9 : (122 : Int64).toInt = 122 := rfl; omega) (fun σ23 _ iσ23 cσ23 pσ23 => ?_)
              intro xσ23
              have fσ23 : Fx [386, 387, 388, 389, 390] gr σ σ23 := fσ22.tr (cσ23.mo (by decide))
              have kp70 : gI σ23 th 1 = gI σ22 th 1 := (cσ23.O (kth.up (xτ2.trans (xσ19.trans xσ22))) (by decide)).1
              have kp71 : gI σ23 th 5 = gI σ22 th 5 := (cσ23.O (kth.up (xτ2.trans (xσ19.trans xσ22))) (by decide)).1
              have kp72 : gP σ23 th 0 = gP σ22 th 0 := (cσ23.O (kth.up (xτ2.trans (xσ19.trans xσ22))) (by decide)).2.1
              have kvw := pσ23.1
              unfold w_X6_next_209
              exact hQ σ23 () iσ23 fσ23 (⟨by first | exact kvw | exact fun e => absurd e (by omega), by omega⟩)
        · rw [if_neg hc10]
          unfold w_X6_next_81
          intro σ20 eσ20
          have xσ20 : Ext σ19 σ20 := by rw [eσ20]; exact fun _ h => ⟨h, rfl, rfl⟩
          have iσ20 : IV σ20 pl gq ci gr nc ot LL N nu := by rw [eσ20]; exact iσ19.wO (kth.up (xτ2.trans xσ19)) (by decide) (rngb (by first | exact rng_wr _ | (first | omega | with_reducible assumption | with_reducible exact rng_toInt _ | with_reducible exact rng_wr _ | (unfold rng; omega) | (unfold rng at *; omega) | assumption)))
          have fσ20 : Fx [386, 387, 388, 389, 390] gr σ σ20 := fσ19.tr (Sk.fx (by rw [eσ20]; exact Sk.pI (by rw [fcdO (kth.up (xτ2.trans xσ19)) (by decide)]; decide)))
          have wσ20 : gI σ20 th 3 = 0 := by rw [eσ20]; exact up2_s _ _ _ _
          have kp73 : gI σ20 th 1 = gI σ19 th 1 := by rw [eσ20]; exact up2_n _ _ (fun q => absurd q.2 (by decide))
          have kp74 : gI σ20 th 2 = gI σ19 th 2 := by rw [eσ20]; exact up2_n _ _ (fun q => absurd q.2 (by decide))
          have kp75 : gI σ20 th 5 = gI σ19 th 5 := by rw [eσ20]; exact up2_n _ _ (fun q => absurd q.2 (by decide))
          have kp76 : gP σ20 th 0 = gP σ19 th 0 := by rw [eσ20]
          exact hQ σ20 () iσ20 fσ20 (⟨by first | exact kvw | exact fun e => absurd e (by omega), by omega⟩)
      · rw [if_neg hc5]
        unfold w_X6_next_9
        have q78 := I_6_2 iτ2.1 (kth.up xτ2)
        have q79 := I_6_1 iτ2.1 (kth.up xτ2)
        by_cases hc77 : gI τ2 th 2 ≥ gI τ2 th 1
        · rw [if_pos hc77]
          unfold w_X6_next_62
          intro σ19_1 eσ19_1
          have xσ19_1 : Ext τ2 σ19_1 := by rw [eσ19_1]; exact fun _ h => ⟨h, rfl, rfl⟩
          have iσ19_1 : IV σ19_1 pl gq ci gr nc ot LL N nu := by rw [eσ19_1]; exact iτ2.wO (kth.up xτ2) (by decide) (show (0 : Int) ≤ (gI τ2 th 2) ∧ (gI τ2 th 2) ≤ 1500 from ⟨by (first | omega | with_reducible assumption | with_reducible exact rng_toInt _ | with_reducible exact rng_wr _ | (unfold rng; omega) | (unfold rng at *; omega) | assumption), by (first | omega | with_reducible assumption | with_reducible exact rng_toInt _ | with_reducible exact rng_wr _ | (unfold rng; omega) | (unfold rng at *; omega) | assumption)⟩)
          have fσ19_1 : Fx [386, 387, 388, 389, 390] gr σ σ19_1 := fτ2.tr (Sk.fx (by rw [eσ19_1]; exact Sk.pI (by rw [fcdO (kth.up xτ2) (by decide)]; decide)))
          have wσ19_1 : gI σ19_1 th 5 = (gI τ2 th 2) := by rw [eσ19_1]; exact up2_s _ _ _ _
          have kp80 : gI σ19_1 th 1 = gI τ2 th 1 := by rw [eσ19_1]; exact up2_n _ _ (fun q => absurd q.2 (by decide))
          have kp81 : gI σ19_1 th 2 = gI τ2 th 2 := by rw [eσ19_1]; exact up2_n _ _ (fun q => absurd q.2 (by decide))
          have kp82 : gP σ19_1 th 0 = gP τ2 th 0 := by rw [eσ19_1]
          have kp83 : gI σ19_1 th 3 = gI τ2 th 3 := by rw [eσ19_1]; exact up2_n _ _ (fun q => absurd q.2 (by decide))
          by_cases hc84 : gI σ19_1 th 2 < gI σ19_1 th 1
          · rw [if_pos hc84]
            unfold w_X6_next_87
            refine ⟨tx, (kp82.trans (kp4.trans hX0)), fun kk_tx_1 => ?_⟩
            have q85 := ((xτ2.trans xσ19_1) tx kX.1).2.2
            refine ⟨⟨by (first | omega | with_reducible assumption | with_reducible exact rng_toInt _ | with_reducible exact rng_wr _ | (unfold rng; omega) | (unfold rng at *; omega) | assumption), by (first | omega | with_reducible assumption | with_reducible exact rng_toInt _ | with_reducible exact rng_wr _ | (unfold rng; omega) | (unfold rng at *; omega) | assumption)⟩, ?_⟩
            intro σ22_1 eσ22_1
            have xσ22_1 : Ext σ19_1 σ22_1 := by rw [eσ22_1]; exact fun _ h => ⟨h, rfl, rfl⟩
            have iσ22_1 : IV σ22_1 pl gq ci gr nc ot LL N nu := by rw [eσ22_1]; exact iσ19_1.wJ (kth.up (xτ2.trans xσ19_1)) (by decide)
            have fσ22_1 : Fx [386, 387, 388, 389, 390] gr σ σ22_1 := fσ19_1.tr (Sk.fx (by rw [eσ22_1]; exact Sk.pJ (by rw [fcdO (kth.up (xτ2.trans xσ19_1)) (by decide)]; decide)))
            have kp86 : gI σ22_1 th 1 = gI σ19_1 th 1 := by rw [eσ22_1]
            have kp87 : gI σ22_1 th 2 = gI σ19_1 th 2 := by rw [eσ22_1]
            have kp88 : gI σ22_1 th 5 = gI σ19_1 th 5 := by rw [eσ22_1]
            have kp89 : gP σ22_1 th 0 = gP σ19_1 th 0 := by rw [eσ22_1]
            have kp90 : gI σ22_1 th 3 = gI σ19_1 th 3 := by rw [eσ22_1]
            have v22 : gJ σ22_1 th 4 = Int64.ofInt (gI σ19_1 tx (gI σ19_1 th 2).toNat) := by rw [eσ22_1]; exact up2_s _ _ _ _
            have r22 := iσ19_1.rg tx (gI σ19_1 th 2).toNat
            have xk22 : gI σ22_1 tx (gI σ22_1 th 2).toNat = gI σ19_1 tx (gI σ19_1 th 2).toNat := by rw [eσ22_1]
            by_cases hc91 : gJ σ22_1 th 4 < 97
            · rw [if_pos hc91]
              unfold w_X6_next_130
              by_cases hc92 : gJ σ22_1 th 4 < 48
              · rw [if_pos hc92]
                unfold w_X6_next_178
                refine i_X6_isSignByte iσ22_1 (fun r27_4 pσ26_4 => ?_)
                intro xσ26_4
                by_cases hc93 : r27_4 ≠ 0
                · rw [if_pos hc93]
                  unfold w_X6_next_194
                  intro σ29_4 eσ29_4
                  have xσ29_4 : Ext σ22_1 σ29_4 := by rw [eσ29_4]; exact fun _ h => ⟨h, rfl, rfl⟩
                  have iσ29_4 : IV σ29_4 pl gq ci gr nc ot LL N nu := by rw [eσ29_4]; exact iσ22_1.wO (kth.up (xτ2.trans (xσ19_1.trans xσ22_1))) (by decide) (rngb (by first | exact rng_wr _ | (first | omega | with_reducible assumption | with_reducible exact rng_toInt _ | with_reducible exact rng_wr _ | (unfold rng; omega) | (unfold rng at *; omega) | assumption)))
                  have fσ29_4 : Fx [386, 387, 388, 389, 390] gr σ σ29_4 := fσ22_1.tr (Sk.fx (by rw [eσ29_4]; exact Sk.pI (by rw [fcdO (kth.up (xτ2.trans (xσ19_1.trans xσ22_1))) (by decide)]; decide)))
                  have wσ29_4 : gI σ29_4 th 3 = 5 := by rw [eσ29_4]; exact up2_s _ _ _ _
                  have kp94 : gI σ29_4 th 1 = gI σ22_1 th 1 := by rw [eσ29_4]; exact up2_n _ _ (fun q => absurd q.2 (by decide))
                  have kp95 : gI σ29_4 th 2 = gI σ22_1 th 2 := by rw [eσ29_4]; exact up2_n _ _ (fun q => absurd q.2 (by decide))
                  have kp96 : gI σ29_4 th 5 = gI σ22_1 th 5 := by rw [eσ29_4]; exact up2_n _ _ (fun q => absurd q.2 (by decide))
                  have kp97 : gP σ29_4 th 0 = gP σ22_1 th 0 := by rw [eσ29_4]
                  refine ⟨by (first | omega | with_reducible assumption | with_reducible exact rng_toInt _ | with_reducible exact rng_wr _ | (unfold rng; omega) | (unfold rng at *; omega) | assumption), ?_⟩
                  intro σ30_4 eσ30_4
                  have xσ30_4 : Ext σ29_4 σ30_4 := by rw [eσ30_4]; exact fun _ h => ⟨h, rfl, rfl⟩
                  have iσ30_4 : IV σ30_4 pl gq ci gr nc ot LL N nu := by rw [eσ30_4]; exact iσ29_4.wO (kth.up (xτ2.trans (xσ19_1.trans (xσ22_1.trans xσ29_4)))) (by decide) (show (0 : Int) ≤ (gI σ29_4 th 2 + 1) ∧ (gI σ29_4 th 2 + 1) ≤ 1500 from ⟨by (first | omega | with_reducible assumption | with_reducible exact rng_toInt _ | with_reducible exact rng_wr _ | (unfold rng; omega) | (unfold rng at *; omega) | assumption), by (first | omega | with_reducible assumption | with_reducible exact rng_toInt _ | with_reducible exact rng_wr _ | (unfold rng; omega) | (unfold rng at *; omega) | assumption)⟩)
                  have fσ30_4 : Fx [386, 387, 388, 389, 390] gr σ σ30_4 := fσ29_4.tr (Sk.fx (by rw [eσ30_4]; exact Sk.pI (by rw [fcdO (kth.up (xτ2.trans (xσ19_1.trans (xσ22_1.trans xσ29_4)))) (by decide)]; decide)))
                  have wσ30_4 : gI σ30_4 th 2 = (gI σ29_4 th 2 + 1) := by rw [eσ30_4]; exact up2_s _ _ _ _
                  have kp98 : gI σ30_4 th 1 = gI σ29_4 th 1 := by rw [eσ30_4]; exact up2_n _ _ (fun q => absurd q.2 (by decide))
                  have kp99 : gI σ30_4 th 3 = gI σ29_4 th 3 := by rw [eσ30_4]; exact up2_n _ _ (fun q => absurd q.2 (by decide))
                  have kp100 : gI σ30_4 th 5 = gI σ29_4 th 5 := by rw [eσ30_4]; exact up2_n _ _ (fun q => absurd q.2 (by decide))
                  have kp101 : gP σ30_4 th 0 = gP σ29_4 th 0 := by rw [eσ30_4]
                  unfold w_X6_next_209
                  exact hQ σ30_4 () iσ30_4 fσ30_4 (⟨by first | exact kvw | exact fun e => absurd e (by omega), by omega⟩)
                · rw [if_neg hc93]
                  have hc93q := Classical.not_not.mp hc93
                  unfold w_X6_next_189
                  refine i_X6_refuse iσ22_1 (kth.up (xτ2.trans (xσ19_1.trans xσ22_1))) (by (first | omega | with_reducible assumption | with_reducible exact rng_toInt _ | with_reducible exact rng_wr _ | (unfold rng; omega) | (unfold rng at *; omega) | assumption)) (by (first | omega | with_reducible assumption | with_reducible exact rng_toInt _ | with_reducible exact rng_wr _ | (unfold rng; omega) | (unfold rng at *; omega) | assumption)) (by (first | omega | with_reducible assumption | with_reducible exact rng_toInt _ | with_reducible exact rng_wr _ | (unfold rng; omega) | (unfold rng at *; omega) | assumption)) (fun σ28_4 _ iσ28_4 cσ28_4 pσ28_4 => ?_) (fun σx LLx Nx nux E ix cx ux px => hX σx LLx Nx nux E ix (fσ22_1.tr (cx.mo (by decide))) (ux) (by first | exact px | exact ⟨by have := px.1; omega, px.2⟩ | (first | omega | with_reducible assumption | with_reducible exact rng_toInt _ | with_reducible exact rng_wr _ | (unfold rng; omega) | (unfold rng at *; omega) | assumption)))
                  intro xσ28_4
                  exact pσ28_4.elim
              · rw [if_neg hc92]
                unfold w_X6_next_141
                by_cases hc102 : gJ σ22_1 th 4 > 57
                · rw [if_pos hc102]
                  unfold w_X6_next_178
                  refine i_X6_isSignByte iσ22_1 (fun r27_5 pσ26_5 => ?_)
                  intro xσ26_5
                  by_cases hc103 : r27_5 ≠ 0
                  · rw [if_pos hc103]
                    unfold w_X6_next_194
                    intro σ29_5 eσ29_5
                    have xσ29_5 : Ext σ22_1 σ29_5 := by rw [eσ29_5]; exact fun _ h => ⟨h, rfl, rfl⟩
                    have iσ29_5 : IV σ29_5 pl gq ci gr nc ot LL N nu := by rw [eσ29_5]; exact iσ22_1.wO (kth.up (xτ2.trans (xσ19_1.trans xσ22_1))) (by decide) (rngb (by first | exact rng_wr _ | (first | omega | with_reducible assumption | with_reducible exact rng_toInt _ | with_reducible exact rng_wr _ | (unfold rng; omega) | (unfold rng at *; omega) | assumption)))
                    have fσ29_5 : Fx [386, 387, 388, 389, 390] gr σ σ29_5 := fσ22_1.tr (Sk.fx (by rw [eσ29_5]; exact Sk.pI (by rw [fcdO (kth.up (xτ2.trans (xσ19_1.trans xσ22_1))) (by decide)]; decide)))
                    have wσ29_5 : gI σ29_5 th 3 = 5 := by rw [eσ29_5]; exact up2_s _ _ _ _
                    have kp104 : gI σ29_5 th 1 = gI σ22_1 th 1 := by rw [eσ29_5]; exact up2_n _ _ (fun q => absurd q.2 (by decide))
                    have kp105 : gI σ29_5 th 2 = gI σ22_1 th 2 := by rw [eσ29_5]; exact up2_n _ _ (fun q => absurd q.2 (by decide))
                    have kp106 : gI σ29_5 th 5 = gI σ22_1 th 5 := by rw [eσ29_5]; exact up2_n _ _ (fun q => absurd q.2 (by decide))
                    have kp107 : gP σ29_5 th 0 = gP σ22_1 th 0 := by rw [eσ29_5]
                    refine ⟨by (first | omega | with_reducible assumption | with_reducible exact rng_toInt _ | with_reducible exact rng_wr _ | (unfold rng; omega) | (unfold rng at *; omega) | assumption), ?_⟩
                    intro σ30_5 eσ30_5
                    have xσ30_5 : Ext σ29_5 σ30_5 := by rw [eσ30_5]; exact fun _ h => ⟨h, rfl, rfl⟩
                    have iσ30_5 : IV σ30_5 pl gq ci gr nc ot LL N nu := by rw [eσ30_5]; exact iσ29_5.wO (kth.up (xτ2.trans (xσ19_1.trans (xσ22_1.trans xσ29_5)))) (by decide) (show (0 : Int) ≤ (gI σ29_5 th 2 + 1) ∧ (gI σ29_5 th 2 + 1) ≤ 1500 from ⟨by (first | omega | with_reducible assumption | with_reducible exact rng_toInt _ | with_reducible exact rng_wr _ | (unfold rng; omega) | (unfold rng at *; omega) | assumption), by (first | omega | with_reducible assumption | with_reducible exact rng_toInt _ | with_reducible exact rng_wr _ | (unfold rng; omega) | (unfold rng at *; omega) | assumption)⟩)
                    have fσ30_5 : Fx [386, 387, 388, 389, 390] gr σ σ30_5 := fσ29_5.tr (Sk.fx (by rw [eσ30_5]; exact Sk.pI (by rw [fcdO (kth.up (xτ2.trans (xσ19_1.trans (xσ22_1.trans xσ29_5)))) (by decide)]; decide)))
                    have wσ30_5 : gI σ30_5 th 2 = (gI σ29_5 th 2 + 1) := by rw [eσ30_5]; exact up2_s _ _ _ _
                    have kp108 : gI σ30_5 th 1 = gI σ29_5 th 1 := by rw [eσ30_5]; exact up2_n _ _ (fun q => absurd q.2 (by decide))
                    have kp109 : gI σ30_5 th 3 = gI σ29_5 th 3 := by rw [eσ30_5]; exact up2_n _ _ (fun q => absurd q.2 (by decide))
                    have kp110 : gI σ30_5 th 5 = gI σ29_5 th 5 := by rw [eσ30_5]; exact up2_n _ _ (fun q => absurd q.2 (by decide))
                    have kp111 : gP σ30_5 th 0 = gP σ29_5 th 0 := by rw [eσ30_5]
                    unfold w_X6_next_209
                    exact hQ σ30_5 () iσ30_5 fσ30_5 (⟨by first | exact kvw | exact fun e => absurd e (by omega), by omega⟩)
                  · rw [if_neg hc103]
                    have hc103q := Classical.not_not.mp hc103
                    unfold w_X6_next_189
                    refine i_X6_refuse iσ22_1 (kth.up (xτ2.trans (xσ19_1.trans xσ22_1))) (by (first | omega | with_reducible assumption | with_reducible exact rng_toInt _ | with_reducible exact rng_wr _ | (unfold rng; omega) | (unfold rng at *; omega) | assumption)) (by (first | omega | with_reducible assumption | with_reducible exact rng_toInt _ | with_reducible exact rng_wr _ | (unfold rng; omega) | (unfold rng at *; omega) | assumption)) (by (first | omega | with_reducible assumption | with_reducible exact rng_toInt _ | with_reducible exact rng_wr _ | (unfold rng; omega) | (unfold rng at *; omega) | assumption)) (fun σ28_5 _ iσ28_5 cσ28_5 pσ28_5 => ?_) (fun σx LLx Nx nux E ix cx ux px => hX σx LLx Nx nux E ix (fσ22_1.tr (cx.mo (by decide))) (ux) (by first | exact px | exact ⟨by have := px.1; omega, px.2⟩ | (first | omega | with_reducible assumption | with_reducible exact rng_toInt _ | with_reducible exact rng_wr _ | (unfold rng; omega) | (unfold rng at *; omega) | assumption)))
                    intro xσ28_5
                    exact pσ28_5.elim
                · rw [if_neg hc102]
                  unfold w_X6_next_152
                  refine i_X6_digits iσ22_1 (kth.up (xτ2.trans (xσ19_1.trans xσ22_1))) (kp89.trans (kp82.trans (kp4.trans hX0))) (kX.up (xτ2.trans (xσ19_1.trans xσ22_1))) (((xτ2.trans (xσ19_1.trans xσ22_1)) tx kX.1).2.2.trans gX) (by omega) (by rw [xk22]; have a9 := ge64 (a := 48) r22 (by rw [← v22]; assumption); have b9 := le64 (a := 57) r22 (by rw [← v22]; assumption); have c9 : (48 : Int64).toInt = 48 := rfl; have d9 : (57 : Int64).toInt = 57 := rfl; omega) (fun σ24_2 _ iσ24_2 cσ24_2 pσ24_2 => ?_)
                  intro xσ24_2
                  have fσ24_2 : Fx [386, 387, 388, 389, 390] gr σ σ24_2 := fσ22_1.tr (cσ24_2.mo (by decide))
                  have kp112 : gI σ24_2 th 1 = gI σ22_1 th 1 := (cσ24_2.O (kth.up (xτ2.trans (xσ19_1.trans xσ22_1))) (by decide)).1
                  have kp113 : gI σ24_2 th 5 = gI σ22_1 th 5 := (cσ24_2.O (kth.up (xτ2.trans (xσ19_1.trans xσ22_1))) (by decide)).1
                  have kp114 : gP σ24_2 th 0 = gP σ22_1 th 0 := (cσ24_2.O (kth.up (xτ2.trans (xσ19_1.trans xσ22_1))) (by decide)).2.1
                  have q115 := I_6_2 iσ24_2.1 (kth.up (xτ2.trans (xσ19_1.trans (xσ22_1.trans xσ24_2))))
                  refine ⟨by (first | omega | with_reducible assumption | with_reducible exact rng_toInt _ | with_reducible exact rng_wr _ | (unfold rng; omega) | (unfold rng at *; omega) | assumption), ?_⟩
                  by_cases hc116 : (gI σ24_2 th 2 - gI σ24_2 th 5) ≤ 18
                  · rw [if_pos hc116]
                    unfold w_X6_next_209
                    exact hQ σ24_2 () iσ24_2 fσ24_2 (⟨by first | exact kvw | exact fun e => absurd e (by omega), by omega⟩)
                  · rw [if_neg hc116]
                    unfold w_X6_next_170
                    refine i_X6_refuse iσ24_2 (kth.up (xτ2.trans (xσ19_1.trans (xσ22_1.trans xσ24_2)))) (by (first | omega | with_reducible assumption | with_reducible exact rng_toInt _ | with_reducible exact rng_wr _ | (unfold rng; omega) | (unfold rng at *; omega) | assumption)) (by (first | omega | with_reducible assumption | with_reducible exact rng_toInt _ | with_reducible exact rng_wr _ | (unfold rng; omega) | (unfold rng at *; omega) | assumption)) (by (first | omega | with_reducible assumption | with_reducible exact rng_toInt _ | with_reducible exact rng_wr _ | (unfold rng; omega) | (unfold rng at *; omega) | assumption)) (fun σ25_2 _ iσ25_2 cσ25_2 pσ25_2 => ?_) (fun σx LLx Nx nux E ix cx ux px => hX σx LLx Nx nux E ix (fσ24_2.tr (cx.mo (by decide))) (ux) (by first | exact px | exact ⟨by have := px.1; omega, px.2⟩ | (first | omega | with_reducible assumption | with_reducible exact rng_toInt _ | with_reducible exact rng_wr _ | (unfold rng; omega) | (unfold rng at *; omega) | assumption)))
                    intro xσ25_2
                    exact pσ25_2.elim
            · rw [if_neg hc91]
              unfold w_X6_next_112
              by_cases hc117 : gJ σ22_1 th 4 > 122
              · rw [if_pos hc117]
                unfold w_X6_next_130
                by_cases hc118 : gJ σ22_1 th 4 < 48
                · rw [if_pos hc118]
                  unfold w_X6_next_178
                  refine i_X6_isSignByte iσ22_1 (fun r27_6 pσ26_6 => ?_)
                  intro xσ26_6
                  by_cases hc119 : r27_6 ≠ 0
                  · rw [if_pos hc119]
                    unfold w_X6_next_194
                    intro σ29_6 eσ29_6
                    have xσ29_6 : Ext σ22_1 σ29_6 := by rw [eσ29_6]; exact fun _ h => ⟨h, rfl, rfl⟩
                    have iσ29_6 : IV σ29_6 pl gq ci gr nc ot LL N nu := by rw [eσ29_6]; exact iσ22_1.wO (kth.up (xτ2.trans (xσ19_1.trans xσ22_1))) (by decide) (rngb (by first | exact rng_wr _ | (first | omega | with_reducible assumption | with_reducible exact rng_toInt _ | with_reducible exact rng_wr _ | (unfold rng; omega) | (unfold rng at *; omega) | assumption)))
                    have fσ29_6 : Fx [386, 387, 388, 389, 390] gr σ σ29_6 := fσ22_1.tr (Sk.fx (by rw [eσ29_6]; exact Sk.pI (by rw [fcdO (kth.up (xτ2.trans (xσ19_1.trans xσ22_1))) (by decide)]; decide)))
                    have wσ29_6 : gI σ29_6 th 3 = 5 := by rw [eσ29_6]; exact up2_s _ _ _ _
                    have kp120 : gI σ29_6 th 1 = gI σ22_1 th 1 := by rw [eσ29_6]; exact up2_n _ _ (fun q => absurd q.2 (by decide))
                    have kp121 : gI σ29_6 th 2 = gI σ22_1 th 2 := by rw [eσ29_6]; exact up2_n _ _ (fun q => absurd q.2 (by decide))
                    have kp122 : gI σ29_6 th 5 = gI σ22_1 th 5 := by rw [eσ29_6]; exact up2_n _ _ (fun q => absurd q.2 (by decide))
                    have kp123 : gP σ29_6 th 0 = gP σ22_1 th 0 := by rw [eσ29_6]
                    refine ⟨by (first | omega | with_reducible assumption | with_reducible exact rng_toInt _ | with_reducible exact rng_wr _ | (unfold rng; omega) | (unfold rng at *; omega) | assumption), ?_⟩
                    intro σ30_6 eσ30_6
                    have xσ30_6 : Ext σ29_6 σ30_6 := by rw [eσ30_6]; exact fun _ h => ⟨h, rfl, rfl⟩
                    have iσ30_6 : IV σ30_6 pl gq ci gr nc ot LL N nu := by rw [eσ30_6]; exact iσ29_6.wO (kth.up (xτ2.trans (xσ19_1.trans (xσ22_1.trans xσ29_6)))) (by decide) (show (0 : Int) ≤ (gI σ29_6 th 2 + 1) ∧ (gI σ29_6 th 2 + 1) ≤ 1500 from ⟨by (first | omega | with_reducible assumption | with_reducible exact rng_toInt _ | with_reducible exact rng_wr _ | (unfold rng; omega) | (unfold rng at *; omega) | assumption), by (first | omega | with_reducible assumption | with_reducible exact rng_toInt _ | with_reducible exact rng_wr _ | (unfold rng; omega) | (unfold rng at *; omega) | assumption)⟩)
                    have fσ30_6 : Fx [386, 387, 388, 389, 390] gr σ σ30_6 := fσ29_6.tr (Sk.fx (by rw [eσ30_6]; exact Sk.pI (by rw [fcdO (kth.up (xτ2.trans (xσ19_1.trans (xσ22_1.trans xσ29_6)))) (by decide)]; decide)))
                    have wσ30_6 : gI σ30_6 th 2 = (gI σ29_6 th 2 + 1) := by rw [eσ30_6]; exact up2_s _ _ _ _
                    have kp124 : gI σ30_6 th 1 = gI σ29_6 th 1 := by rw [eσ30_6]; exact up2_n _ _ (fun q => absurd q.2 (by decide))
                    have kp125 : gI σ30_6 th 3 = gI σ29_6 th 3 := by rw [eσ30_6]; exact up2_n _ _ (fun q => absurd q.2 (by decide))
                    have kp126 : gI σ30_6 th 5 = gI σ29_6 th 5 := by rw [eσ30_6]; exact up2_n _ _ (fun q => absurd q.2 (by decide))
                    have kp127 : gP σ30_6 th 0 = gP σ29_6 th 0 := by rw [eσ30_6]
                    unfold w_X6_next_209
                    exact hQ σ30_6 () iσ30_6 fσ30_6 (⟨by first | exact kvw | exact fun e => absurd e (by omega), by omega⟩)
                  · rw [if_neg hc119]
                    have hc119q := Classical.not_not.mp hc119
                    unfold w_X6_next_189
                    refine i_X6_refuse iσ22_1 (kth.up (xτ2.trans (xσ19_1.trans xσ22_1))) (by (first | omega | with_reducible assumption | with_reducible exact rng_toInt _ | with_reducible exact rng_wr _ | (unfold rng; omega) | (unfold rng at *; omega) | assumption)) (by (first | omega | with_reducible assumption | with_reducible exact rng_toInt _ | with_reducible exact rng_wr _ | (unfold rng; omega) | (unfold rng at *; omega) | assumption)) (by (first | omega | with_reducible assumption | with_reducible exact rng_toInt _ | with_reducible exact rng_wr _ | (unfold rng; omega) | (unfold rng at *; omega) | assumption)) (fun σ28_6 _ iσ28_6 cσ28_6 pσ28_6 => ?_) (fun σx LLx Nx nux E ix cx ux px => hX σx LLx Nx nux E ix (fσ22_1.tr (cx.mo (by decide))) (ux) (by first | exact px | exact ⟨by have := px.1; omega, px.2⟩ | (first | omega | with_reducible assumption | with_reducible exact rng_toInt _ | with_reducible exact rng_wr _ | (unfold rng; omega) | (unfold rng at *; omega) | assumption)))
                    intro xσ28_6
                    exact pσ28_6.elim
                · rw [if_neg hc118]
                  unfold w_X6_next_141
                  by_cases hc128 : gJ σ22_1 th 4 > 57
                  · rw [if_pos hc128]
                    unfold w_X6_next_178
                    refine i_X6_isSignByte iσ22_1 (fun r27_7 pσ26_7 => ?_)
                    intro xσ26_7
                    by_cases hc129 : r27_7 ≠ 0
                    · rw [if_pos hc129]
                      unfold w_X6_next_194
                      intro σ29_7 eσ29_7
                      have xσ29_7 : Ext σ22_1 σ29_7 := by rw [eσ29_7]; exact fun _ h => ⟨h, rfl, rfl⟩
                      have iσ29_7 : IV σ29_7 pl gq ci gr nc ot LL N nu := by rw [eσ29_7]; exact iσ22_1.wO (kth.up (xτ2.trans (xσ19_1.trans xσ22_1))) (by decide) (rngb (by first | exact rng_wr _ | (first | omega | with_reducible assumption | with_reducible exact rng_toInt _ | with_reducible exact rng_wr _ | (unfold rng; omega) | (unfold rng at *; omega) | assumption)))
                      have fσ29_7 : Fx [386, 387, 388, 389, 390] gr σ σ29_7 := fσ22_1.tr (Sk.fx (by rw [eσ29_7]; exact Sk.pI (by rw [fcdO (kth.up (xτ2.trans (xσ19_1.trans xσ22_1))) (by decide)]; decide)))
                      have wσ29_7 : gI σ29_7 th 3 = 5 := by rw [eσ29_7]; exact up2_s _ _ _ _
                      have kp130 : gI σ29_7 th 1 = gI σ22_1 th 1 := by rw [eσ29_7]; exact up2_n _ _ (fun q => absurd q.2 (by decide))
                      have kp131 : gI σ29_7 th 2 = gI σ22_1 th 2 := by rw [eσ29_7]; exact up2_n _ _ (fun q => absurd q.2 (by decide))
                      have kp132 : gI σ29_7 th 5 = gI σ22_1 th 5 := by rw [eσ29_7]; exact up2_n _ _ (fun q => absurd q.2 (by decide))
                      have kp133 : gP σ29_7 th 0 = gP σ22_1 th 0 := by rw [eσ29_7]
                      refine ⟨by (first | omega | with_reducible assumption | with_reducible exact rng_toInt _ | with_reducible exact rng_wr _ | (unfold rng; omega) | (unfold rng at *; omega) | assumption), ?_⟩
                      intro σ30_7 eσ30_7
                      have xσ30_7 : Ext σ29_7 σ30_7 := by rw [eσ30_7]; exact fun _ h => ⟨h, rfl, rfl⟩
                      have iσ30_7 : IV σ30_7 pl gq ci gr nc ot LL N nu := by rw [eσ30_7]; exact iσ29_7.wO (kth.up (xτ2.trans (xσ19_1.trans (xσ22_1.trans xσ29_7)))) (by decide) (show (0 : Int) ≤ (gI σ29_7 th 2 + 1) ∧ (gI σ29_7 th 2 + 1) ≤ 1500 from ⟨by (first | omega | with_reducible assumption | with_reducible exact rng_toInt _ | with_reducible exact rng_wr _ | (unfold rng; omega) | (unfold rng at *; omega) | assumption), by (first | omega | with_reducible assumption | with_reducible exact rng_toInt _ | with_reducible exact rng_wr _ | (unfold rng; omega) | (unfold rng at *; omega) | assumption)⟩)
                      have fσ30_7 : Fx [386, 387, 388, 389, 390] gr σ σ30_7 := fσ29_7.tr (Sk.fx (by rw [eσ30_7]; exact Sk.pI (by rw [fcdO (kth.up (xτ2.trans (xσ19_1.trans (xσ22_1.trans xσ29_7)))) (by decide)]; decide)))
                      have wσ30_7 : gI σ30_7 th 2 = (gI σ29_7 th 2 + 1) := by rw [eσ30_7]; exact up2_s _ _ _ _
                      have kp134 : gI σ30_7 th 1 = gI σ29_7 th 1 := by rw [eσ30_7]; exact up2_n _ _ (fun q => absurd q.2 (by decide))
                      have kp135 : gI σ30_7 th 3 = gI σ29_7 th 3 := by rw [eσ30_7]; exact up2_n _ _ (fun q => absurd q.2 (by decide))
                      have kp136 : gI σ30_7 th 5 = gI σ29_7 th 5 := by rw [eσ30_7]; exact up2_n _ _ (fun q => absurd q.2 (by decide))
                      have kp137 : gP σ30_7 th 0 = gP σ29_7 th 0 := by rw [eσ30_7]
                      unfold w_X6_next_209
                      exact hQ σ30_7 () iσ30_7 fσ30_7 (⟨by first | exact kvw | exact fun e => absurd e (by omega), by omega⟩)
                    · rw [if_neg hc129]
                      have hc129q := Classical.not_not.mp hc129
                      unfold w_X6_next_189
                      refine i_X6_refuse iσ22_1 (kth.up (xτ2.trans (xσ19_1.trans xσ22_1))) (by (first | omega | with_reducible assumption | with_reducible exact rng_toInt _ | with_reducible exact rng_wr _ | (unfold rng; omega) | (unfold rng at *; omega) | assumption)) (by (first | omega | with_reducible assumption | with_reducible exact rng_toInt _ | with_reducible exact rng_wr _ | (unfold rng; omega) | (unfold rng at *; omega) | assumption)) (by (first | omega | with_reducible assumption | with_reducible exact rng_toInt _ | with_reducible exact rng_wr _ | (unfold rng; omega) | (unfold rng at *; omega) | assumption)) (fun σ28_7 _ iσ28_7 cσ28_7 pσ28_7 => ?_) (fun σx LLx Nx nux E ix cx ux px => hX σx LLx Nx nux E ix (fσ22_1.tr (cx.mo (by decide))) (ux) (by first | exact px | exact ⟨by have := px.1; omega, px.2⟩ | (first | omega | with_reducible assumption | with_reducible exact rng_toInt _ | with_reducible exact rng_wr _ | (unfold rng; omega) | (unfold rng at *; omega) | assumption)))
                      intro xσ28_7
                      exact pσ28_7.elim
                  · rw [if_neg hc128]
                    unfold w_X6_next_152
                    refine i_X6_digits iσ22_1 (kth.up (xτ2.trans (xσ19_1.trans xσ22_1))) (kp89.trans (kp82.trans (kp4.trans hX0))) (kX.up (xτ2.trans (xσ19_1.trans xσ22_1))) (((xτ2.trans (xσ19_1.trans xσ22_1)) tx kX.1).2.2.trans gX) (by omega) (by rw [xk22]; have a9 := ge64 (a := 48) r22 (by rw [← v22]; assumption); have b9 := le64 (a := 57) r22 (by rw [← v22]; assumption); have c9 : (48 : Int64).toInt = 48 := rfl; have d9 : (57 : Int64).toInt = 57 := rfl; omega) (fun σ24_3 _ iσ24_3 cσ24_3 pσ24_3 => ?_)
                    intro xσ24_3
                    have fσ24_3 : Fx [386, 387, 388, 389, 390] gr σ σ24_3 := fσ22_1.tr (cσ24_3.mo (by decide))
                    have kp138 : gI σ24_3 th 1 = gI σ22_1 th 1 := (cσ24_3.O (kth.up (xτ2.trans (xσ19_1.trans xσ22_1))) (by decide)).1
                    have kp139 : gI σ24_3 th 5 = gI σ22_1 th 5 := (cσ24_3.O (kth.up (xτ2.trans (xσ19_1.trans xσ22_1))) (by decide)).1
                    have kp140 : gP σ24_3 th 0 = gP σ22_1 th 0 := (cσ24_3.O (kth.up (xτ2.trans (xσ19_1.trans xσ22_1))) (by decide)).2.1
                    have q141 := I_6_2 iσ24_3.1 (kth.up (xτ2.trans (xσ19_1.trans (xσ22_1.trans xσ24_3))))
                    refine ⟨by (first | omega | with_reducible assumption | with_reducible exact rng_toInt _ | with_reducible exact rng_wr _ | (unfold rng; omega) | (unfold rng at *; omega) | assumption), ?_⟩
                    by_cases hc142 : (gI σ24_3 th 2 - gI σ24_3 th 5) ≤ 18
                    · rw [if_pos hc142]
                      unfold w_X6_next_209
                      exact hQ σ24_3 () iσ24_3 fσ24_3 (⟨by first | exact kvw | exact fun e => absurd e (by omega), by omega⟩)
                    · rw [if_neg hc142]
                      unfold w_X6_next_170
                      refine i_X6_refuse iσ24_3 (kth.up (xτ2.trans (xσ19_1.trans (xσ22_1.trans xσ24_3)))) (by (first | omega | with_reducible assumption | with_reducible exact rng_toInt _ | with_reducible exact rng_wr _ | (unfold rng; omega) | (unfold rng at *; omega) | assumption)) (by (first | omega | with_reducible assumption | with_reducible exact rng_toInt _ | with_reducible exact rng_wr _ | (unfold rng; omega) | (unfold rng at *; omega) | assumption)) (by (first | omega | with_reducible assumption | with_reducible exact rng_toInt _ | with_reducible exact rng_wr _ | (unfold rng; omega) | (unfold rng at *; omega) | assumption)) (fun σ25_3 _ iσ25_3 cσ25_3 pσ25_3 => ?_) (fun σx LLx Nx nux E ix cx ux px => hX σx LLx Nx nux E ix (fσ24_3.tr (cx.mo (by decide))) (ux) (by first | exact px | exact ⟨by have := px.1; omega, px.2⟩ | (first | omega | with_reducible assumption | with_reducible exact rng_toInt _ | with_reducible exact rng_wr _ | (unfold rng; omega) | (unfold rng at *; omega) | assumption)))
                      intro xσ25_3
                      exact pσ25_3.elim
              · rw [if_neg hc117]
                unfold w_X6_next_123
                refine i_X6_word iσ22_1 (kth.up (xτ2.trans (xσ19_1.trans xσ22_1))) (kp89.trans (kp82.trans (kp4.trans hX0))) (kX.up (xτ2.trans (xσ19_1.trans xσ22_1))) (((xτ2.trans (xσ19_1.trans xσ22_1)) tx kX.1).2.2.trans gX) (by omega) (by rw [xk22]; have a9 := ge64 (a := 97) r22 (by rw [← v22]; assumption); have b9 := le64 (a := 122) r22 (by rw [← v22]; assumption); have c9 : (97 : Int64).toInt = 97 := rfl; have d9 : (122 : Int64).toInt = 122 := rfl; omega) (fun σ23_1 _ iσ23_1 cσ23_1 pσ23_1 => ?_)
                intro xσ23_1
                have fσ23_1 : Fx [386, 387, 388, 389, 390] gr σ σ23_1 := fσ22_1.tr (cσ23_1.mo (by decide))
                have kp143 : gI σ23_1 th 1 = gI σ22_1 th 1 := (cσ23_1.O (kth.up (xτ2.trans (xσ19_1.trans xσ22_1))) (by decide)).1
                have kp144 : gI σ23_1 th 5 = gI σ22_1 th 5 := (cσ23_1.O (kth.up (xτ2.trans (xσ19_1.trans xσ22_1))) (by decide)).1
                have kp145 : gP σ23_1 th 0 = gP σ22_1 th 0 := (cσ23_1.O (kth.up (xτ2.trans (xσ19_1.trans xσ22_1))) (by decide)).2.1
                have kvw := pσ23_1.1
                unfold w_X6_next_209
                exact hQ σ23_1 () iσ23_1 fσ23_1 (⟨by first | exact kvw | exact fun e => absurd e (by omega), by omega⟩)
          · rw [if_neg hc84]
            unfold w_X6_next_81
            intro σ20_1 eσ20_1
            have xσ20_1 : Ext σ19_1 σ20_1 := by rw [eσ20_1]; exact fun _ h => ⟨h, rfl, rfl⟩
            have iσ20_1 : IV σ20_1 pl gq ci gr nc ot LL N nu := by rw [eσ20_1]; exact iσ19_1.wO (kth.up (xτ2.trans xσ19_1)) (by decide) (rngb (by first | exact rng_wr _ | (first | omega | with_reducible assumption | with_reducible exact rng_toInt _ | with_reducible exact rng_wr _ | (unfold rng; omega) | (unfold rng at *; omega) | assumption)))
            have fσ20_1 : Fx [386, 387, 388, 389, 390] gr σ σ20_1 := fσ19_1.tr (Sk.fx (by rw [eσ20_1]; exact Sk.pI (by rw [fcdO (kth.up (xτ2.trans xσ19_1)) (by decide)]; decide)))
            have wσ20_1 : gI σ20_1 th 3 = 0 := by rw [eσ20_1]; exact up2_s _ _ _ _
            have kp146 : gI σ20_1 th 1 = gI σ19_1 th 1 := by rw [eσ20_1]; exact up2_n _ _ (fun q => absurd q.2 (by decide))
            have kp147 : gI σ20_1 th 2 = gI σ19_1 th 2 := by rw [eσ20_1]; exact up2_n _ _ (fun q => absurd q.2 (by decide))
            have kp148 : gI σ20_1 th 5 = gI σ19_1 th 5 := by rw [eσ20_1]; exact up2_n _ _ (fun q => absurd q.2 (by decide))
            have kp149 : gP σ20_1 th 0 = gP σ19_1 th 0 := by rw [eσ20_1]
            exact hQ σ20_1 () iσ20_1 fσ20_1 (⟨by first | exact kvw | exact fun e => absurd e (by omega), by omega⟩)
        · rw [if_neg hc77]
          unfold w_X6_next_20
          refine ⟨tx, (kp4.trans hX0), fun kk_tx_2 => ?_⟩
          have q150 := (xτ2 tx kX.1).2.2
          refine ⟨⟨by (first | omega | with_reducible assumption | with_reducible exact rng_toInt _ | with_reducible exact rng_wr _ | (unfold rng; omega) | (unfold rng at *; omega) | assumption), by (first | omega | with_reducible assumption | with_reducible exact rng_toInt _ | with_reducible exact rng_wr _ | (unfold rng; omega) | (unfold rng at *; omega) | assumption)⟩, ?_⟩
          have q152 := iτ2.rg tx (gI τ2 th 2).toNat; unfold rng at q152
          by_cases hc151 : (gI τ2 tx (gI τ2 th 2).toNat) < 0
          · rw [if_pos hc151]
            unfold w_X6_next_62
            intro σ19_2 eσ19_2
            have xσ19_2 : Ext τ2 σ19_2 := by rw [eσ19_2]; exact fun _ h => ⟨h, rfl, rfl⟩
            have iσ19_2 : IV σ19_2 pl gq ci gr nc ot LL N nu := by rw [eσ19_2]; exact iτ2.wO (kth.up xτ2) (by decide) (show (0 : Int) ≤ (gI τ2 th 2) ∧ (gI τ2 th 2) ≤ 1500 from ⟨by (first | omega | with_reducible assumption | with_reducible exact rng_toInt _ | with_reducible exact rng_wr _ | (unfold rng; omega) | (unfold rng at *; omega) | assumption), by (first | omega | with_reducible assumption | with_reducible exact rng_toInt _ | with_reducible exact rng_wr _ | (unfold rng; omega) | (unfold rng at *; omega) | assumption)⟩)
            have fσ19_2 : Fx [386, 387, 388, 389, 390] gr σ σ19_2 := fτ2.tr (Sk.fx (by rw [eσ19_2]; exact Sk.pI (by rw [fcdO (kth.up xτ2) (by decide)]; decide)))
            have wσ19_2 : gI σ19_2 th 5 = (gI τ2 th 2) := by rw [eσ19_2]; exact up2_s _ _ _ _
            have kp153 : gI σ19_2 th 1 = gI τ2 th 1 := by rw [eσ19_2]; exact up2_n _ _ (fun q => absurd q.2 (by decide))
            have kp154 : gI σ19_2 th 2 = gI τ2 th 2 := by rw [eσ19_2]; exact up2_n _ _ (fun q => absurd q.2 (by decide))
            have kp155 : gI σ19_2 tx (gI τ2 th 2).toNat = gI τ2 tx (gI τ2 th 2).toNat := by rw [eσ19_2]; exact up2_n _ _ (fun q => absurd q.1 (kO.ne (kX.up xτ2) (kth.up xτ2) (by decide)))
            have kp156 : gP σ19_2 th 0 = gP τ2 th 0 := by rw [eσ19_2]
            have kp157 : gI σ19_2 th 3 = gI τ2 th 3 := by rw [eσ19_2]; exact up2_n _ _ (fun q => absurd q.2 (by decide))
            by_cases hc158 : gI σ19_2 th 2 < gI σ19_2 th 1
            · rw [if_pos hc158]
              unfold w_X6_next_87
              refine ⟨tx, (kp156.trans (kp4.trans hX0)), fun kk_tx_3 => ?_⟩
              have q159 := ((xτ2.trans xσ19_2) tx kX.1).2.2
              refine ⟨⟨by (first | omega | with_reducible assumption | with_reducible exact rng_toInt _ | with_reducible exact rng_wr _ | (unfold rng; omega) | (unfold rng at *; omega) | assumption), by (first | omega | with_reducible assumption | with_reducible exact rng_toInt _ | with_reducible exact rng_wr _ | (unfold rng; omega) | (unfold rng at *; omega) | assumption)⟩, ?_⟩
              intro σ22_2 eσ22_2
              have xσ22_2 : Ext σ19_2 σ22_2 := by rw [eσ22_2]; exact fun _ h => ⟨h, rfl, rfl⟩
              have iσ22_2 : IV σ22_2 pl gq ci gr nc ot LL N nu := by rw [eσ22_2]; exact iσ19_2.wJ (kth.up (xτ2.trans xσ19_2)) (by decide)
              have fσ22_2 : Fx [386, 387, 388, 389, 390] gr σ σ22_2 := fσ19_2.tr (Sk.fx (by rw [eσ22_2]; exact Sk.pJ (by rw [fcdO (kth.up (xτ2.trans xσ19_2)) (by decide)]; decide)))
              have kp160 : gI σ22_2 th 1 = gI σ19_2 th 1 := by rw [eσ22_2]
              have kp161 : gI σ22_2 th 2 = gI σ19_2 th 2 := by rw [eσ22_2]
              have kp162 : gI σ22_2 th 5 = gI σ19_2 th 5 := by rw [eσ22_2]
              have kp163 : gI σ22_2 tx (gI τ2 th 2).toNat = gI σ19_2 tx (gI τ2 th 2).toNat := by rw [eσ22_2]
              have kp164 : gP σ22_2 th 0 = gP σ19_2 th 0 := by rw [eσ22_2]
              have kp165 : gI σ22_2 th 3 = gI σ19_2 th 3 := by rw [eσ22_2]
              have v22 : gJ σ22_2 th 4 = Int64.ofInt (gI σ19_2 tx (gI σ19_2 th 2).toNat) := by rw [eσ22_2]; exact up2_s _ _ _ _
              have r22 := iσ19_2.rg tx (gI σ19_2 th 2).toNat
              have xk22 : gI σ22_2 tx (gI σ22_2 th 2).toNat = gI σ19_2 tx (gI σ19_2 th 2).toNat := by rw [eσ22_2]
              by_cases hc166 : gJ σ22_2 th 4 < 97
              · rw [if_pos hc166]
                unfold w_X6_next_130
                by_cases hc167 : gJ σ22_2 th 4 < 48
                · rw [if_pos hc167]
                  unfold w_X6_next_178
                  refine i_X6_isSignByte iσ22_2 (fun r27_8 pσ26_8 => ?_)
                  intro xσ26_8
                  by_cases hc168 : r27_8 ≠ 0
                  · rw [if_pos hc168]
                    unfold w_X6_next_194
                    intro σ29_8 eσ29_8
                    have xσ29_8 : Ext σ22_2 σ29_8 := by rw [eσ29_8]; exact fun _ h => ⟨h, rfl, rfl⟩
                    have iσ29_8 : IV σ29_8 pl gq ci gr nc ot LL N nu := by rw [eσ29_8]; exact iσ22_2.wO (kth.up (xτ2.trans (xσ19_2.trans xσ22_2))) (by decide) (rngb (by first | exact rng_wr _ | (first | omega | with_reducible assumption | with_reducible exact rng_toInt _ | with_reducible exact rng_wr _ | (unfold rng; omega) | (unfold rng at *; omega) | assumption)))
                    have fσ29_8 : Fx [386, 387, 388, 389, 390] gr σ σ29_8 := fσ22_2.tr (Sk.fx (by rw [eσ29_8]; exact Sk.pI (by rw [fcdO (kth.up (xτ2.trans (xσ19_2.trans xσ22_2))) (by decide)]; decide)))
                    have wσ29_8 : gI σ29_8 th 3 = 5 := by rw [eσ29_8]; exact up2_s _ _ _ _
                    have kp169 : gI σ29_8 th 1 = gI σ22_2 th 1 := by rw [eσ29_8]; exact up2_n _ _ (fun q => absurd q.2 (by decide))
                    have kp170 : gI σ29_8 th 2 = gI σ22_2 th 2 := by rw [eσ29_8]; exact up2_n _ _ (fun q => absurd q.2 (by decide))
                    have kp171 : gI σ29_8 th 5 = gI σ22_2 th 5 := by rw [eσ29_8]; exact up2_n _ _ (fun q => absurd q.2 (by decide))
                    have kp172 : gI σ29_8 tx (gI τ2 th 2).toNat = gI σ22_2 tx (gI τ2 th 2).toNat := by rw [eσ29_8]; exact up2_n _ _ (fun q => absurd q.1 (kO.ne (kX.up (xτ2.trans (xσ19_2.trans xσ22_2))) (kth.up (xτ2.trans (xσ19_2.trans xσ22_2))) (by decide)))
                    have kp173 : gP σ29_8 th 0 = gP σ22_2 th 0 := by rw [eσ29_8]
                    refine ⟨by (first | omega | with_reducible assumption | with_reducible exact rng_toInt _ | with_reducible exact rng_wr _ | (unfold rng; omega) | (unfold rng at *; omega) | assumption), ?_⟩
                    intro σ30_8 eσ30_8
                    have xσ30_8 : Ext σ29_8 σ30_8 := by rw [eσ30_8]; exact fun _ h => ⟨h, rfl, rfl⟩
                    have iσ30_8 : IV σ30_8 pl gq ci gr nc ot LL N nu := by rw [eσ30_8]; exact iσ29_8.wO (kth.up (xτ2.trans (xσ19_2.trans (xσ22_2.trans xσ29_8)))) (by decide) (show (0 : Int) ≤ (gI σ29_8 th 2 + 1) ∧ (gI σ29_8 th 2 + 1) ≤ 1500 from ⟨by (first | omega | with_reducible assumption | with_reducible exact rng_toInt _ | with_reducible exact rng_wr _ | (unfold rng; omega) | (unfold rng at *; omega) | assumption), by (first | omega | with_reducible assumption | with_reducible exact rng_toInt _ | with_reducible exact rng_wr _ | (unfold rng; omega) | (unfold rng at *; omega) | assumption)⟩)
                    have fσ30_8 : Fx [386, 387, 388, 389, 390] gr σ σ30_8 := fσ29_8.tr (Sk.fx (by rw [eσ30_8]; exact Sk.pI (by rw [fcdO (kth.up (xτ2.trans (xσ19_2.trans (xσ22_2.trans xσ29_8)))) (by decide)]; decide)))
                    have wσ30_8 : gI σ30_8 th 2 = (gI σ29_8 th 2 + 1) := by rw [eσ30_8]; exact up2_s _ _ _ _
                    have kp174 : gI σ30_8 th 1 = gI σ29_8 th 1 := by rw [eσ30_8]; exact up2_n _ _ (fun q => absurd q.2 (by decide))
                    have kp175 : gI σ30_8 th 3 = gI σ29_8 th 3 := by rw [eσ30_8]; exact up2_n _ _ (fun q => absurd q.2 (by decide))
                    have kp176 : gI σ30_8 th 5 = gI σ29_8 th 5 := by rw [eσ30_8]; exact up2_n _ _ (fun q => absurd q.2 (by decide))
                    have kp177 : gI σ30_8 tx (gI τ2 th 2).toNat = gI σ29_8 tx (gI τ2 th 2).toNat := by rw [eσ30_8]; exact up2_n _ _ (fun q => absurd q.1 (kO.ne (kX.up (xτ2.trans (xσ19_2.trans (xσ22_2.trans xσ29_8)))) (kth.up (xτ2.trans (xσ19_2.trans (xσ22_2.trans xσ29_8)))) (by decide)))
                    have kp178 : gP σ30_8 th 0 = gP σ29_8 th 0 := by rw [eσ30_8]
                    unfold w_X6_next_209
                    exact hQ σ30_8 () iσ30_8 fσ30_8 (⟨by first | exact kvw | exact fun e => absurd e (by omega), by omega⟩)
                  · rw [if_neg hc168]
                    have hc168q := Classical.not_not.mp hc168
                    unfold w_X6_next_189
                    refine i_X6_refuse iσ22_2 (kth.up (xτ2.trans (xσ19_2.trans xσ22_2))) (by (first | omega | with_reducible assumption | with_reducible exact rng_toInt _ | with_reducible exact rng_wr _ | (unfold rng; omega) | (unfold rng at *; omega) | assumption)) (by (first | omega | with_reducible assumption | with_reducible exact rng_toInt _ | with_reducible exact rng_wr _ | (unfold rng; omega) | (unfold rng at *; omega) | assumption)) (by (first | omega | with_reducible assumption | with_reducible exact rng_toInt _ | with_reducible exact rng_wr _ | (unfold rng; omega) | (unfold rng at *; omega) | assumption)) (fun σ28_8 _ iσ28_8 cσ28_8 pσ28_8 => ?_) (fun σx LLx Nx nux E ix cx ux px => hX σx LLx Nx nux E ix (fσ22_2.tr (cx.mo (by decide))) (ux) (by first | exact px | exact ⟨by have := px.1; omega, px.2⟩ | (first | omega | with_reducible assumption | with_reducible exact rng_toInt _ | with_reducible exact rng_wr _ | (unfold rng; omega) | (unfold rng at *; omega) | assumption)))
                    intro xσ28_8
                    exact pσ28_8.elim
                · rw [if_neg hc167]
                  unfold w_X6_next_141
                  by_cases hc179 : gJ σ22_2 th 4 > 57
                  · rw [if_pos hc179]
                    unfold w_X6_next_178
                    refine i_X6_isSignByte iσ22_2 (fun r27_9 pσ26_9 => ?_)
                    intro xσ26_9
                    by_cases hc180 : r27_9 ≠ 0
                    · rw [if_pos hc180]
                      unfold w_X6_next_194
                      intro σ29_9 eσ29_9
                      have xσ29_9 : Ext σ22_2 σ29_9 := by rw [eσ29_9]; exact fun _ h => ⟨h, rfl, rfl⟩
                      have iσ29_9 : IV σ29_9 pl gq ci gr nc ot LL N nu := by rw [eσ29_9]; exact iσ22_2.wO (kth.up (xτ2.trans (xσ19_2.trans xσ22_2))) (by decide) (rngb (by first | exact rng_wr _ | (first | omega | with_reducible assumption | with_reducible exact rng_toInt _ | with_reducible exact rng_wr _ | (unfold rng; omega) | (unfold rng at *; omega) | assumption)))
                      have fσ29_9 : Fx [386, 387, 388, 389, 390] gr σ σ29_9 := fσ22_2.tr (Sk.fx (by rw [eσ29_9]; exact Sk.pI (by rw [fcdO (kth.up (xτ2.trans (xσ19_2.trans xσ22_2))) (by decide)]; decide)))
                      have wσ29_9 : gI σ29_9 th 3 = 5 := by rw [eσ29_9]; exact up2_s _ _ _ _
                      have kp181 : gI σ29_9 th 1 = gI σ22_2 th 1 := by rw [eσ29_9]; exact up2_n _ _ (fun q => absurd q.2 (by decide))
                      have kp182 : gI σ29_9 th 2 = gI σ22_2 th 2 := by rw [eσ29_9]; exact up2_n _ _ (fun q => absurd q.2 (by decide))
                      have kp183 : gI σ29_9 th 5 = gI σ22_2 th 5 := by rw [eσ29_9]; exact up2_n _ _ (fun q => absurd q.2 (by decide))
                      have kp184 : gI σ29_9 tx (gI τ2 th 2).toNat = gI σ22_2 tx (gI τ2 th 2).toNat := by rw [eσ29_9]; exact up2_n _ _ (fun q => absurd q.1 (kO.ne (kX.up (xτ2.trans (xσ19_2.trans xσ22_2))) (kth.up (xτ2.trans (xσ19_2.trans xσ22_2))) (by decide)))
                      have kp185 : gP σ29_9 th 0 = gP σ22_2 th 0 := by rw [eσ29_9]
                      refine ⟨by (first | omega | with_reducible assumption | with_reducible exact rng_toInt _ | with_reducible exact rng_wr _ | (unfold rng; omega) | (unfold rng at *; omega) | assumption), ?_⟩
                      intro σ30_9 eσ30_9
                      have xσ30_9 : Ext σ29_9 σ30_9 := by rw [eσ30_9]; exact fun _ h => ⟨h, rfl, rfl⟩
                      have iσ30_9 : IV σ30_9 pl gq ci gr nc ot LL N nu := by rw [eσ30_9]; exact iσ29_9.wO (kth.up (xτ2.trans (xσ19_2.trans (xσ22_2.trans xσ29_9)))) (by decide) (show (0 : Int) ≤ (gI σ29_9 th 2 + 1) ∧ (gI σ29_9 th 2 + 1) ≤ 1500 from ⟨by (first | omega | with_reducible assumption | with_reducible exact rng_toInt _ | with_reducible exact rng_wr _ | (unfold rng; omega) | (unfold rng at *; omega) | assumption), by (first | omega | with_reducible assumption | with_reducible exact rng_toInt _ | with_reducible exact rng_wr _ | (unfold rng; omega) | (unfold rng at *; omega) | assumption)⟩)
                      have fσ30_9 : Fx [386, 387, 388, 389, 390] gr σ σ30_9 := fσ29_9.tr (Sk.fx (by rw [eσ30_9]; exact Sk.pI (by rw [fcdO (kth.up (xτ2.trans (xσ19_2.trans (xσ22_2.trans xσ29_9)))) (by decide)]; decide)))
                      have wσ30_9 : gI σ30_9 th 2 = (gI σ29_9 th 2 + 1) := by rw [eσ30_9]; exact up2_s _ _ _ _
                      have kp186 : gI σ30_9 th 1 = gI σ29_9 th 1 := by rw [eσ30_9]; exact up2_n _ _ (fun q => absurd q.2 (by decide))
                      have kp187 : gI σ30_9 th 3 = gI σ29_9 th 3 := by rw [eσ30_9]; exact up2_n _ _ (fun q => absurd q.2 (by decide))
                      have kp188 : gI σ30_9 th 5 = gI σ29_9 th 5 := by rw [eσ30_9]; exact up2_n _ _ (fun q => absurd q.2 (by decide))
                      have kp189 : gI σ30_9 tx (gI τ2 th 2).toNat = gI σ29_9 tx (gI τ2 th 2).toNat := by rw [eσ30_9]; exact up2_n _ _ (fun q => absurd q.1 (kO.ne (kX.up (xτ2.trans (xσ19_2.trans (xσ22_2.trans xσ29_9)))) (kth.up (xτ2.trans (xσ19_2.trans (xσ22_2.trans xσ29_9)))) (by decide)))
                      have kp190 : gP σ30_9 th 0 = gP σ29_9 th 0 := by rw [eσ30_9]
                      unfold w_X6_next_209
                      exact hQ σ30_9 () iσ30_9 fσ30_9 (⟨by first | exact kvw | exact fun e => absurd e (by omega), by omega⟩)
                    · rw [if_neg hc180]
                      have hc180q := Classical.not_not.mp hc180
                      unfold w_X6_next_189
                      refine i_X6_refuse iσ22_2 (kth.up (xτ2.trans (xσ19_2.trans xσ22_2))) (by (first | omega | with_reducible assumption | with_reducible exact rng_toInt _ | with_reducible exact rng_wr _ | (unfold rng; omega) | (unfold rng at *; omega) | assumption)) (by (first | omega | with_reducible assumption | with_reducible exact rng_toInt _ | with_reducible exact rng_wr _ | (unfold rng; omega) | (unfold rng at *; omega) | assumption)) (by (first | omega | with_reducible assumption | with_reducible exact rng_toInt _ | with_reducible exact rng_wr _ | (unfold rng; omega) | (unfold rng at *; omega) | assumption)) (fun σ28_9 _ iσ28_9 cσ28_9 pσ28_9 => ?_) (fun σx LLx Nx nux E ix cx ux px => hX σx LLx Nx nux E ix (fσ22_2.tr (cx.mo (by decide))) (ux) (by first | exact px | exact ⟨by have := px.1; omega, px.2⟩ | (first | omega | with_reducible assumption | with_reducible exact rng_toInt _ | with_reducible exact rng_wr _ | (unfold rng; omega) | (unfold rng at *; omega) | assumption)))
                      intro xσ28_9
                      exact pσ28_9.elim
                  · rw [if_neg hc179]
                    unfold w_X6_next_152
                    refine i_X6_digits iσ22_2 (kth.up (xτ2.trans (xσ19_2.trans xσ22_2))) (kp164.trans (kp156.trans (kp4.trans hX0))) (kX.up (xτ2.trans (xσ19_2.trans xσ22_2))) (((xτ2.trans (xσ19_2.trans xσ22_2)) tx kX.1).2.2.trans gX) (by omega) (by rw [xk22]; have a9 := ge64 (a := 48) r22 (by rw [← v22]; assumption); have b9 := le64 (a := 57) r22 (by rw [← v22]; assumption); have c9 : (48 : Int64).toInt = 48 := rfl; have d9 : (57 : Int64).toInt = 57 := rfl; omega) (fun σ24_4 _ iσ24_4 cσ24_4 pσ24_4 => ?_)
                    intro xσ24_4
                    have fσ24_4 : Fx [386, 387, 388, 389, 390] gr σ σ24_4 := fσ22_2.tr (cσ24_4.mo (by decide))
                    have kp191 : gI σ24_4 th 1 = gI σ22_2 th 1 := (cσ24_4.O (kth.up (xτ2.trans (xσ19_2.trans xσ22_2))) (by decide)).1
                    have kp192 : gI σ24_4 th 5 = gI σ22_2 th 5 := (cσ24_4.O (kth.up (xτ2.trans (xσ19_2.trans xσ22_2))) (by decide)).1
                    have kp193 : gI σ24_4 tx (gI τ2 th 2).toNat = gI σ22_2 tx (gI τ2 th 2).toNat := (cσ24_4.A (kX.up (xτ2.trans (xσ19_2.trans xσ22_2))) (by decide)).1
                    have kp194 : gP σ24_4 th 0 = gP σ22_2 th 0 := (cσ24_4.O (kth.up (xτ2.trans (xσ19_2.trans xσ22_2))) (by decide)).2.1
                    have q195 := I_6_2 iσ24_4.1 (kth.up (xτ2.trans (xσ19_2.trans (xσ22_2.trans xσ24_4))))
                    refine ⟨by (first | omega | with_reducible assumption | with_reducible exact rng_toInt _ | with_reducible exact rng_wr _ | (unfold rng; omega) | (unfold rng at *; omega) | assumption), ?_⟩
                    by_cases hc196 : (gI σ24_4 th 2 - gI σ24_4 th 5) ≤ 18
                    · rw [if_pos hc196]
                      unfold w_X6_next_209
                      exact hQ σ24_4 () iσ24_4 fσ24_4 (⟨by first | exact kvw | exact fun e => absurd e (by omega), by omega⟩)
                    · rw [if_neg hc196]
                      unfold w_X6_next_170
                      refine i_X6_refuse iσ24_4 (kth.up (xτ2.trans (xσ19_2.trans (xσ22_2.trans xσ24_4)))) (by (first | omega | with_reducible assumption | with_reducible exact rng_toInt _ | with_reducible exact rng_wr _ | (unfold rng; omega) | (unfold rng at *; omega) | assumption)) (by (first | omega | with_reducible assumption | with_reducible exact rng_toInt _ | with_reducible exact rng_wr _ | (unfold rng; omega) | (unfold rng at *; omega) | assumption)) (by (first | omega | with_reducible assumption | with_reducible exact rng_toInt _ | with_reducible exact rng_wr _ | (unfold rng; omega) | (unfold rng at *; omega) | assumption)) (fun σ25_4 _ iσ25_4 cσ25_4 pσ25_4 => ?_) (fun σx LLx Nx nux E ix cx ux px => hX σx LLx Nx nux E ix (fσ24_4.tr (cx.mo (by decide))) (ux) (by first | exact px | exact ⟨by have := px.1; omega, px.2⟩ | (first | omega | with_reducible assumption | with_reducible exact rng_toInt _ | with_reducible exact rng_wr _ | (unfold rng; omega) | (unfold rng at *; omega) | assumption)))
                      intro xσ25_4
                      exact pσ25_4.elim
              · rw [if_neg hc166]
                unfold w_X6_next_112
                by_cases hc197 : gJ σ22_2 th 4 > 122
                · rw [if_pos hc197]
                  unfold w_X6_next_130
                  by_cases hc198 : gJ σ22_2 th 4 < 48
                  · rw [if_pos hc198]
                    unfold w_X6_next_178
                    refine i_X6_isSignByte iσ22_2 (fun r27_10 pσ26_10 => ?_)
                    intro xσ26_10
                    by_cases hc199 : r27_10 ≠ 0
                    · rw [if_pos hc199]
                      unfold w_X6_next_194
                      intro σ29_10 eσ29_10
                      have xσ29_10 : Ext σ22_2 σ29_10 := by rw [eσ29_10]; exact fun _ h => ⟨h, rfl, rfl⟩
                      have iσ29_10 : IV σ29_10 pl gq ci gr nc ot LL N nu := by rw [eσ29_10]; exact iσ22_2.wO (kth.up (xτ2.trans (xσ19_2.trans xσ22_2))) (by decide) (rngb (by first | exact rng_wr _ | (first | omega | with_reducible assumption | with_reducible exact rng_toInt _ | with_reducible exact rng_wr _ | (unfold rng; omega) | (unfold rng at *; omega) | assumption)))
                      have fσ29_10 : Fx [386, 387, 388, 389, 390] gr σ σ29_10 := fσ22_2.tr (Sk.fx (by rw [eσ29_10]; exact Sk.pI (by rw [fcdO (kth.up (xτ2.trans (xσ19_2.trans xσ22_2))) (by decide)]; decide)))
                      have wσ29_10 : gI σ29_10 th 3 = 5 := by rw [eσ29_10]; exact up2_s _ _ _ _
                      have kp200 : gI σ29_10 th 1 = gI σ22_2 th 1 := by rw [eσ29_10]; exact up2_n _ _ (fun q => absurd q.2 (by decide))
                      have kp201 : gI σ29_10 th 2 = gI σ22_2 th 2 := by rw [eσ29_10]; exact up2_n _ _ (fun q => absurd q.2 (by decide))
                      have kp202 : gI σ29_10 th 5 = gI σ22_2 th 5 := by rw [eσ29_10]; exact up2_n _ _ (fun q => absurd q.2 (by decide))
                      have kp203 : gI σ29_10 tx (gI τ2 th 2).toNat = gI σ22_2 tx (gI τ2 th 2).toNat := by rw [eσ29_10]; exact up2_n _ _ (fun q => absurd q.1 (kO.ne (kX.up (xτ2.trans (xσ19_2.trans xσ22_2))) (kth.up (xτ2.trans (xσ19_2.trans xσ22_2))) (by decide)))
                      have kp204 : gP σ29_10 th 0 = gP σ22_2 th 0 := by rw [eσ29_10]
                      refine ⟨by (first | omega | with_reducible assumption | with_reducible exact rng_toInt _ | with_reducible exact rng_wr _ | (unfold rng; omega) | (unfold rng at *; omega) | assumption), ?_⟩
                      intro σ30_10 eσ30_10
                      have xσ30_10 : Ext σ29_10 σ30_10 := by rw [eσ30_10]; exact fun _ h => ⟨h, rfl, rfl⟩
                      have iσ30_10 : IV σ30_10 pl gq ci gr nc ot LL N nu := by rw [eσ30_10]; exact iσ29_10.wO (kth.up (xτ2.trans (xσ19_2.trans (xσ22_2.trans xσ29_10)))) (by decide) (show (0 : Int) ≤ (gI σ29_10 th 2 + 1) ∧ (gI σ29_10 th 2 + 1) ≤ 1500 from ⟨by (first | omega | with_reducible assumption | with_reducible exact rng_toInt _ | with_reducible exact rng_wr _ | (unfold rng; omega) | (unfold rng at *; omega) | assumption), by (first | omega | with_reducible assumption | with_reducible exact rng_toInt _ | with_reducible exact rng_wr _ | (unfold rng; omega) | (unfold rng at *; omega) | assumption)⟩)
                      have fσ30_10 : Fx [386, 387, 388, 389, 390] gr σ σ30_10 := fσ29_10.tr (Sk.fx (by rw [eσ30_10]; exact Sk.pI (by rw [fcdO (kth.up (xτ2.trans (xσ19_2.trans (xσ22_2.trans xσ29_10)))) (by decide)]; decide)))
                      have wσ30_10 : gI σ30_10 th 2 = (gI σ29_10 th 2 + 1) := by rw [eσ30_10]; exact up2_s _ _ _ _
                      have kp205 : gI σ30_10 th 1 = gI σ29_10 th 1 := by rw [eσ30_10]; exact up2_n _ _ (fun q => absurd q.2 (by decide))
                      have kp206 : gI σ30_10 th 3 = gI σ29_10 th 3 := by rw [eσ30_10]; exact up2_n _ _ (fun q => absurd q.2 (by decide))
                      have kp207 : gI σ30_10 th 5 = gI σ29_10 th 5 := by rw [eσ30_10]; exact up2_n _ _ (fun q => absurd q.2 (by decide))
                      have kp208 : gI σ30_10 tx (gI τ2 th 2).toNat = gI σ29_10 tx (gI τ2 th 2).toNat := by rw [eσ30_10]; exact up2_n _ _ (fun q => absurd q.1 (kO.ne (kX.up (xτ2.trans (xσ19_2.trans (xσ22_2.trans xσ29_10)))) (kth.up (xτ2.trans (xσ19_2.trans (xσ22_2.trans xσ29_10)))) (by decide)))
                      have kp209 : gP σ30_10 th 0 = gP σ29_10 th 0 := by rw [eσ30_10]
                      unfold w_X6_next_209
                      exact hQ σ30_10 () iσ30_10 fσ30_10 (⟨by first | exact kvw | exact fun e => absurd e (by omega), by omega⟩)
                    · rw [if_neg hc199]
                      have hc199q := Classical.not_not.mp hc199
                      unfold w_X6_next_189
                      refine i_X6_refuse iσ22_2 (kth.up (xτ2.trans (xσ19_2.trans xσ22_2))) (by (first | omega | with_reducible assumption | with_reducible exact rng_toInt _ | with_reducible exact rng_wr _ | (unfold rng; omega) | (unfold rng at *; omega) | assumption)) (by (first | omega | with_reducible assumption | with_reducible exact rng_toInt _ | with_reducible exact rng_wr _ | (unfold rng; omega) | (unfold rng at *; omega) | assumption)) (by (first | omega | with_reducible assumption | with_reducible exact rng_toInt _ | with_reducible exact rng_wr _ | (unfold rng; omega) | (unfold rng at *; omega) | assumption)) (fun σ28_10 _ iσ28_10 cσ28_10 pσ28_10 => ?_) (fun σx LLx Nx nux E ix cx ux px => hX σx LLx Nx nux E ix (fσ22_2.tr (cx.mo (by decide))) (ux) (by first | exact px | exact ⟨by have := px.1; omega, px.2⟩ | (first | omega | with_reducible assumption | with_reducible exact rng_toInt _ | with_reducible exact rng_wr _ | (unfold rng; omega) | (unfold rng at *; omega) | assumption)))
                      intro xσ28_10
                      exact pσ28_10.elim
                  · rw [if_neg hc198]
                    unfold w_X6_next_141
                    by_cases hc210 : gJ σ22_2 th 4 > 57
                    · rw [if_pos hc210]
                      unfold w_X6_next_178
                      refine i_X6_isSignByte iσ22_2 (fun r27_11 pσ26_11 => ?_)
                      intro xσ26_11
                      by_cases hc211 : r27_11 ≠ 0
                      · rw [if_pos hc211]
                        unfold w_X6_next_194
                        intro σ29_11 eσ29_11
                        have xσ29_11 : Ext σ22_2 σ29_11 := by rw [eσ29_11]; exact fun _ h => ⟨h, rfl, rfl⟩
                        have iσ29_11 : IV σ29_11 pl gq ci gr nc ot LL N nu := by rw [eσ29_11]; exact iσ22_2.wO (kth.up (xτ2.trans (xσ19_2.trans xσ22_2))) (by decide) (rngb (by first | exact rng_wr _ | (first | omega | with_reducible assumption | with_reducible exact rng_toInt _ | with_reducible exact rng_wr _ | (unfold rng; omega) | (unfold rng at *; omega) | assumption)))
                        have fσ29_11 : Fx [386, 387, 388, 389, 390] gr σ σ29_11 := fσ22_2.tr (Sk.fx (by rw [eσ29_11]; exact Sk.pI (by rw [fcdO (kth.up (xτ2.trans (xσ19_2.trans xσ22_2))) (by decide)]; decide)))
                        have wσ29_11 : gI σ29_11 th 3 = 5 := by rw [eσ29_11]; exact up2_s _ _ _ _
                        have kp212 : gI σ29_11 th 1 = gI σ22_2 th 1 := by rw [eσ29_11]; exact up2_n _ _ (fun q => absurd q.2 (by decide))
                        have kp213 : gI σ29_11 th 2 = gI σ22_2 th 2 := by rw [eσ29_11]; exact up2_n _ _ (fun q => absurd q.2 (by decide))
                        have kp214 : gI σ29_11 th 5 = gI σ22_2 th 5 := by rw [eσ29_11]; exact up2_n _ _ (fun q => absurd q.2 (by decide))
                        have kp215 : gI σ29_11 tx (gI τ2 th 2).toNat = gI σ22_2 tx (gI τ2 th 2).toNat := by rw [eσ29_11]; exact up2_n _ _ (fun q => absurd q.1 (kO.ne (kX.up (xτ2.trans (xσ19_2.trans xσ22_2))) (kth.up (xτ2.trans (xσ19_2.trans xσ22_2))) (by decide)))
                        have kp216 : gP σ29_11 th 0 = gP σ22_2 th 0 := by rw [eσ29_11]
                        refine ⟨by (first | omega | with_reducible assumption | with_reducible exact rng_toInt _ | with_reducible exact rng_wr _ | (unfold rng; omega) | (unfold rng at *; omega) | assumption), ?_⟩
                        intro σ30_11 eσ30_11
                        have xσ30_11 : Ext σ29_11 σ30_11 := by rw [eσ30_11]; exact fun _ h => ⟨h, rfl, rfl⟩
                        have iσ30_11 : IV σ30_11 pl gq ci gr nc ot LL N nu := by rw [eσ30_11]; exact iσ29_11.wO (kth.up (xτ2.trans (xσ19_2.trans (xσ22_2.trans xσ29_11)))) (by decide) (show (0 : Int) ≤ (gI σ29_11 th 2 + 1) ∧ (gI σ29_11 th 2 + 1) ≤ 1500 from ⟨by (first | omega | with_reducible assumption | with_reducible exact rng_toInt _ | with_reducible exact rng_wr _ | (unfold rng; omega) | (unfold rng at *; omega) | assumption), by (first | omega | with_reducible assumption | with_reducible exact rng_toInt _ | with_reducible exact rng_wr _ | (unfold rng; omega) | (unfold rng at *; omega) | assumption)⟩)
                        have fσ30_11 : Fx [386, 387, 388, 389, 390] gr σ σ30_11 := fσ29_11.tr (Sk.fx (by rw [eσ30_11]; exact Sk.pI (by rw [fcdO (kth.up (xτ2.trans (xσ19_2.trans (xσ22_2.trans xσ29_11)))) (by decide)]; decide)))
                        have wσ30_11 : gI σ30_11 th 2 = (gI σ29_11 th 2 + 1) := by rw [eσ30_11]; exact up2_s _ _ _ _
                        have kp217 : gI σ30_11 th 1 = gI σ29_11 th 1 := by rw [eσ30_11]; exact up2_n _ _ (fun q => absurd q.2 (by decide))
                        have kp218 : gI σ30_11 th 3 = gI σ29_11 th 3 := by rw [eσ30_11]; exact up2_n _ _ (fun q => absurd q.2 (by decide))
                        have kp219 : gI σ30_11 th 5 = gI σ29_11 th 5 := by rw [eσ30_11]; exact up2_n _ _ (fun q => absurd q.2 (by decide))
                        have kp220 : gI σ30_11 tx (gI τ2 th 2).toNat = gI σ29_11 tx (gI τ2 th 2).toNat := by rw [eσ30_11]; exact up2_n _ _ (fun q => absurd q.1 (kO.ne (kX.up (xτ2.trans (xσ19_2.trans (xσ22_2.trans xσ29_11)))) (kth.up (xτ2.trans (xσ19_2.trans (xσ22_2.trans xσ29_11)))) (by decide)))
                        have kp221 : gP σ30_11 th 0 = gP σ29_11 th 0 := by rw [eσ30_11]
                        unfold w_X6_next_209
                        exact hQ σ30_11 () iσ30_11 fσ30_11 (⟨by first | exact kvw | exact fun e => absurd e (by omega), by omega⟩)
                      · rw [if_neg hc211]
                        have hc211q := Classical.not_not.mp hc211
                        unfold w_X6_next_189
                        refine i_X6_refuse iσ22_2 (kth.up (xτ2.trans (xσ19_2.trans xσ22_2))) (by (first | omega | with_reducible assumption | with_reducible exact rng_toInt _ | with_reducible exact rng_wr _ | (unfold rng; omega) | (unfold rng at *; omega) | assumption)) (by (first | omega | with_reducible assumption | with_reducible exact rng_toInt _ | with_reducible exact rng_wr _ | (unfold rng; omega) | (unfold rng at *; omega) | assumption)) (by (first | omega | with_reducible assumption | with_reducible exact rng_toInt _ | with_reducible exact rng_wr _ | (unfold rng; omega) | (unfold rng at *; omega) | assumption)) (fun σ28_11 _ iσ28_11 cσ28_11 pσ28_11 => ?_) (fun σx LLx Nx nux E ix cx ux px => hX σx LLx Nx nux E ix (fσ22_2.tr (cx.mo (by decide))) (ux) (by first | exact px | exact ⟨by have := px.1; omega, px.2⟩ | (first | omega | with_reducible assumption | with_reducible exact rng_toInt _ | with_reducible exact rng_wr _ | (unfold rng; omega) | (unfold rng at *; omega) | assumption)))
                        intro xσ28_11
                        exact pσ28_11.elim
                    · rw [if_neg hc210]
                      unfold w_X6_next_152
                      refine i_X6_digits iσ22_2 (kth.up (xτ2.trans (xσ19_2.trans xσ22_2))) (kp164.trans (kp156.trans (kp4.trans hX0))) (kX.up (xτ2.trans (xσ19_2.trans xσ22_2))) (((xτ2.trans (xσ19_2.trans xσ22_2)) tx kX.1).2.2.trans gX) (by omega) (by rw [xk22]; have a9 := ge64 (a := 48) r22 (by rw [← v22]; assumption); have b9 := le64 (a := 57) r22 (by rw [← v22]; assumption); have c9 : (48 : Int64).toInt = 48 := rfl; have d9 : (57 : Int64).toInt = 57 := rfl; omega) (fun σ24_5 _ iσ24_5 cσ24_5 pσ24_5 => ?_)
                      intro xσ24_5
                      have fσ24_5 : Fx [386, 387, 388, 389, 390] gr σ σ24_5 := fσ22_2.tr (cσ24_5.mo (by decide))
                      have kp222 : gI σ24_5 th 1 = gI σ22_2 th 1 := (cσ24_5.O (kth.up (xτ2.trans (xσ19_2.trans xσ22_2))) (by decide)).1
                      have kp223 : gI σ24_5 th 5 = gI σ22_2 th 5 := (cσ24_5.O (kth.up (xτ2.trans (xσ19_2.trans xσ22_2))) (by decide)).1
                      have kp224 : gI σ24_5 tx (gI τ2 th 2).toNat = gI σ22_2 tx (gI τ2 th 2).toNat := (cσ24_5.A (kX.up (xτ2.trans (xσ19_2.trans xσ22_2))) (by decide)).1
                      have kp225 : gP σ24_5 th 0 = gP σ22_2 th 0 := (cσ24_5.O (kth.up (xτ2.trans (xσ19_2.trans xσ22_2))) (by decide)).2.1
                      have q226 := I_6_2 iσ24_5.1 (kth.up (xτ2.trans (xσ19_2.trans (xσ22_2.trans xσ24_5))))
                      refine ⟨by (first | omega | with_reducible assumption | with_reducible exact rng_toInt _ | with_reducible exact rng_wr _ | (unfold rng; omega) | (unfold rng at *; omega) | assumption), ?_⟩
                      by_cases hc227 : (gI σ24_5 th 2 - gI σ24_5 th 5) ≤ 18
                      · rw [if_pos hc227]
                        unfold w_X6_next_209
                        exact hQ σ24_5 () iσ24_5 fσ24_5 (⟨by first | exact kvw | exact fun e => absurd e (by omega), by omega⟩)
                      · rw [if_neg hc227]
                        unfold w_X6_next_170
                        refine i_X6_refuse iσ24_5 (kth.up (xτ2.trans (xσ19_2.trans (xσ22_2.trans xσ24_5)))) (by (first | omega | with_reducible assumption | with_reducible exact rng_toInt _ | with_reducible exact rng_wr _ | (unfold rng; omega) | (unfold rng at *; omega) | assumption)) (by (first | omega | with_reducible assumption | with_reducible exact rng_toInt _ | with_reducible exact rng_wr _ | (unfold rng; omega) | (unfold rng at *; omega) | assumption)) (by (first | omega | with_reducible assumption | with_reducible exact rng_toInt _ | with_reducible exact rng_wr _ | (unfold rng; omega) | (unfold rng at *; omega) | assumption)) (fun σ25_5 _ iσ25_5 cσ25_5 pσ25_5 => ?_) (fun σx LLx Nx nux E ix cx ux px => hX σx LLx Nx nux E ix (fσ24_5.tr (cx.mo (by decide))) (ux) (by first | exact px | exact ⟨by have := px.1; omega, px.2⟩ | (first | omega | with_reducible assumption | with_reducible exact rng_toInt _ | with_reducible exact rng_wr _ | (unfold rng; omega) | (unfold rng at *; omega) | assumption)))
                        intro xσ25_5
                        exact pσ25_5.elim
                · rw [if_neg hc197]
                  unfold w_X6_next_123
                  refine i_X6_word iσ22_2 (kth.up (xτ2.trans (xσ19_2.trans xσ22_2))) (kp164.trans (kp156.trans (kp4.trans hX0))) (kX.up (xτ2.trans (xσ19_2.trans xσ22_2))) (((xτ2.trans (xσ19_2.trans xσ22_2)) tx kX.1).2.2.trans gX) (by omega) (by rw [xk22]; have a9 := ge64 (a := 97) r22 (by rw [← v22]; assumption); have b9 := le64 (a := 122) r22 (by rw [← v22]; assumption); have c9 : (97 : Int64).toInt = 97 := rfl; have d9 : (122 : Int64).toInt = 122 := rfl; omega) (fun σ23_2 _ iσ23_2 cσ23_2 pσ23_2 => ?_)
                  intro xσ23_2
                  have fσ23_2 : Fx [386, 387, 388, 389, 390] gr σ σ23_2 := fσ22_2.tr (cσ23_2.mo (by decide))
                  have kp228 : gI σ23_2 th 1 = gI σ22_2 th 1 := (cσ23_2.O (kth.up (xτ2.trans (xσ19_2.trans xσ22_2))) (by decide)).1
                  have kp229 : gI σ23_2 th 5 = gI σ22_2 th 5 := (cσ23_2.O (kth.up (xτ2.trans (xσ19_2.trans xσ22_2))) (by decide)).1
                  have kp230 : gI σ23_2 tx (gI τ2 th 2).toNat = gI σ22_2 tx (gI τ2 th 2).toNat := (cσ23_2.A (kX.up (xτ2.trans (xσ19_2.trans xσ22_2))) (by decide)).1
                  have kp231 : gP σ23_2 th 0 = gP σ22_2 th 0 := (cσ23_2.O (kth.up (xτ2.trans (xσ19_2.trans xσ22_2))) (by decide)).2.1
                  have kvw := pσ23_2.1
                  unfold w_X6_next_209
                  exact hQ σ23_2 () iσ23_2 fσ23_2 (⟨by first | exact kvw | exact fun e => absurd e (by omega), by omega⟩)
            · rw [if_neg hc158]
              unfold w_X6_next_81
              intro σ20_2 eσ20_2
              have xσ20_2 : Ext σ19_2 σ20_2 := by rw [eσ20_2]; exact fun _ h => ⟨h, rfl, rfl⟩
              have iσ20_2 : IV σ20_2 pl gq ci gr nc ot LL N nu := by rw [eσ20_2]; exact iσ19_2.wO (kth.up (xτ2.trans xσ19_2)) (by decide) (rngb (by first | exact rng_wr _ | (first | omega | with_reducible assumption | with_reducible exact rng_toInt _ | with_reducible exact rng_wr _ | (unfold rng; omega) | (unfold rng at *; omega) | assumption)))
              have fσ20_2 : Fx [386, 387, 388, 389, 390] gr σ σ20_2 := fσ19_2.tr (Sk.fx (by rw [eσ20_2]; exact Sk.pI (by rw [fcdO (kth.up (xτ2.trans xσ19_2)) (by decide)]; decide)))
              have wσ20_2 : gI σ20_2 th 3 = 0 := by rw [eσ20_2]; exact up2_s _ _ _ _
              have kp232 : gI σ20_2 th 1 = gI σ19_2 th 1 := by rw [eσ20_2]; exact up2_n _ _ (fun q => absurd q.2 (by decide))
              have kp233 : gI σ20_2 th 2 = gI σ19_2 th 2 := by rw [eσ20_2]; exact up2_n _ _ (fun q => absurd q.2 (by decide))
              have kp234 : gI σ20_2 th 5 = gI σ19_2 th 5 := by rw [eσ20_2]; exact up2_n _ _ (fun q => absurd q.2 (by decide))
              have kp235 : gI σ20_2 tx (gI τ2 th 2).toNat = gI σ19_2 tx (gI τ2 th 2).toNat := by rw [eσ20_2]; exact up2_n _ _ (fun q => absurd q.1 (kO.ne (kX.up (xτ2.trans xσ19_2)) (kth.up (xτ2.trans xσ19_2)) (by decide)))
              have kp236 : gP σ20_2 th 0 = gP σ19_2 th 0 := by rw [eσ20_2]
              exact hQ σ20_2 () iσ20_2 fσ20_2 (⟨by first | exact kvw | exact fun e => absurd e (by omega), by omega⟩)
          · rw [if_neg hc151]
            unfold w_X6_next_32
            refine ⟨tx, (kp4.trans hX0), fun kk_tx_4 => ?_⟩
            refine ⟨⟨by (first | omega | with_reducible assumption | with_reducible exact rng_toInt _ | with_reducible exact rng_wr _ | (unfold rng; omega) | (unfold rng at *; omega) | assumption), by (first | omega | with_reducible assumption | with_reducible exact rng_toInt _ | with_reducible exact rng_wr _ | (unfold rng; omega) | (unfold rng at *; omega) | assumption)⟩, ?_⟩
            by_cases hc237 : (gI τ2 tx (gI τ2 th 2).toNat) > 32
            · rw [if_pos hc237]
              unfold w_X6_next_62
              intro σ19_3 eσ19_3
              have xσ19_3 : Ext τ2 σ19_3 := by rw [eσ19_3]; exact fun _ h => ⟨h, rfl, rfl⟩
              have iσ19_3 : IV σ19_3 pl gq ci gr nc ot LL N nu := by rw [eσ19_3]; exact iτ2.wO (kth.up xτ2) (by decide) (show (0 : Int) ≤ (gI τ2 th 2) ∧ (gI τ2 th 2) ≤ 1500 from ⟨by (first | omega | with_reducible assumption | with_reducible exact rng_toInt _ | with_reducible exact rng_wr _ | (unfold rng; omega) | (unfold rng at *; omega) | assumption), by (first | omega | with_reducible assumption | with_reducible exact rng_toInt _ | with_reducible exact rng_wr _ | (unfold rng; omega) | (unfold rng at *; omega) | assumption)⟩)
              have fσ19_3 : Fx [386, 387, 388, 389, 390] gr σ σ19_3 := fτ2.tr (Sk.fx (by rw [eσ19_3]; exact Sk.pI (by rw [fcdO (kth.up xτ2) (by decide)]; decide)))
              have wσ19_3 : gI σ19_3 th 5 = (gI τ2 th 2) := by rw [eσ19_3]; exact up2_s _ _ _ _
              have kp238 : gI σ19_3 th 1 = gI τ2 th 1 := by rw [eσ19_3]; exact up2_n _ _ (fun q => absurd q.2 (by decide))
              have kp239 : gI σ19_3 th 2 = gI τ2 th 2 := by rw [eσ19_3]; exact up2_n _ _ (fun q => absurd q.2 (by decide))
              have kp240 : gI σ19_3 tx (gI τ2 th 2).toNat = gI τ2 tx (gI τ2 th 2).toNat := by rw [eσ19_3]; exact up2_n _ _ (fun q => absurd q.1 (kO.ne (kX.up xτ2) (kth.up xτ2) (by decide)))
              have kp241 : gP σ19_3 th 0 = gP τ2 th 0 := by rw [eσ19_3]
              have kp242 : gI σ19_3 th 3 = gI τ2 th 3 := by rw [eσ19_3]; exact up2_n _ _ (fun q => absurd q.2 (by decide))
              by_cases hc243 : gI σ19_3 th 2 < gI σ19_3 th 1
              · rw [if_pos hc243]
                unfold w_X6_next_87
                refine ⟨tx, (kp241.trans (kp4.trans hX0)), fun kk_tx_5 => ?_⟩
                have q244 := ((xτ2.trans xσ19_3) tx kX.1).2.2
                refine ⟨⟨by (first | omega | with_reducible assumption | with_reducible exact rng_toInt _ | with_reducible exact rng_wr _ | (unfold rng; omega) | (unfold rng at *; omega) | assumption), by (first | omega | with_reducible assumption | with_reducible exact rng_toInt _ | with_reducible exact rng_wr _ | (unfold rng; omega) | (unfold rng at *; omega) | assumption)⟩, ?_⟩
                intro σ22_3 eσ22_3
                have xσ22_3 : Ext σ19_3 σ22_3 := by rw [eσ22_3]; exact fun _ h => ⟨h, rfl, rfl⟩
                have iσ22_3 : IV σ22_3 pl gq ci gr nc ot LL N nu := by rw [eσ22_3]; exact iσ19_3.wJ (kth.up (xτ2.trans xσ19_3)) (by decide)
                have fσ22_3 : Fx [386, 387, 388, 389, 390] gr σ σ22_3 := fσ19_3.tr (Sk.fx (by rw [eσ22_3]; exact Sk.pJ (by rw [fcdO (kth.up (xτ2.trans xσ19_3)) (by decide)]; decide)))
                have kp245 : gI σ22_3 th 1 = gI σ19_3 th 1 := by rw [eσ22_3]
                have kp246 : gI σ22_3 th 2 = gI σ19_3 th 2 := by rw [eσ22_3]
                have kp247 : gI σ22_3 th 5 = gI σ19_3 th 5 := by rw [eσ22_3]
                have kp248 : gI σ22_3 tx (gI τ2 th 2).toNat = gI σ19_3 tx (gI τ2 th 2).toNat := by rw [eσ22_3]
                have kp249 : gP σ22_3 th 0 = gP σ19_3 th 0 := by rw [eσ22_3]
                have kp250 : gI σ22_3 th 3 = gI σ19_3 th 3 := by rw [eσ22_3]
                have v22 : gJ σ22_3 th 4 = Int64.ofInt (gI σ19_3 tx (gI σ19_3 th 2).toNat) := by rw [eσ22_3]; exact up2_s _ _ _ _
                have r22 := iσ19_3.rg tx (gI σ19_3 th 2).toNat
                have xk22 : gI σ22_3 tx (gI σ22_3 th 2).toNat = gI σ19_3 tx (gI σ19_3 th 2).toNat := by rw [eσ22_3]
                by_cases hc251 : gJ σ22_3 th 4 < 97
                · rw [if_pos hc251]
                  unfold w_X6_next_130
                  by_cases hc252 : gJ σ22_3 th 4 < 48
                  · rw [if_pos hc252]
                    unfold w_X6_next_178
                    refine i_X6_isSignByte iσ22_3 (fun r27_12 pσ26_12 => ?_)
                    intro xσ26_12
                    by_cases hc253 : r27_12 ≠ 0
                    · rw [if_pos hc253]
                      unfold w_X6_next_194
                      intro σ29_12 eσ29_12
                      have xσ29_12 : Ext σ22_3 σ29_12 := by rw [eσ29_12]; exact fun _ h => ⟨h, rfl, rfl⟩
                      have iσ29_12 : IV σ29_12 pl gq ci gr nc ot LL N nu := by rw [eσ29_12]; exact iσ22_3.wO (kth.up (xτ2.trans (xσ19_3.trans xσ22_3))) (by decide) (rngb (by first | exact rng_wr _ | (first | omega | with_reducible assumption | with_reducible exact rng_toInt _ | with_reducible exact rng_wr _ | (unfold rng; omega) | (unfold rng at *; omega) | assumption)))
                      have fσ29_12 : Fx [386, 387, 388, 389, 390] gr σ σ29_12 := fσ22_3.tr (Sk.fx (by rw [eσ29_12]; exact Sk.pI (by rw [fcdO (kth.up (xτ2.trans (xσ19_3.trans xσ22_3))) (by decide)]; decide)))
                      have wσ29_12 : gI σ29_12 th 3 = 5 := by rw [eσ29_12]; exact up2_s _ _ _ _
                      have kp254 : gI σ29_12 th 1 = gI σ22_3 th 1 := by rw [eσ29_12]; exact up2_n _ _ (fun q => absurd q.2 (by decide))
                      have kp255 : gI σ29_12 th 2 = gI σ22_3 th 2 := by rw [eσ29_12]; exact up2_n _ _ (fun q => absurd q.2 (by decide))
                      have kp256 : gI σ29_12 th 5 = gI σ22_3 th 5 := by rw [eσ29_12]; exact up2_n _ _ (fun q => absurd q.2 (by decide))
                      have kp257 : gI σ29_12 tx (gI τ2 th 2).toNat = gI σ22_3 tx (gI τ2 th 2).toNat := by rw [eσ29_12]; exact up2_n _ _ (fun q => absurd q.1 (kO.ne (kX.up (xτ2.trans (xσ19_3.trans xσ22_3))) (kth.up (xτ2.trans (xσ19_3.trans xσ22_3))) (by decide)))
                      have kp258 : gP σ29_12 th 0 = gP σ22_3 th 0 := by rw [eσ29_12]
                      refine ⟨by (first | omega | with_reducible assumption | with_reducible exact rng_toInt _ | with_reducible exact rng_wr _ | (unfold rng; omega) | (unfold rng at *; omega) | assumption), ?_⟩
                      intro σ30_12 eσ30_12
                      have xσ30_12 : Ext σ29_12 σ30_12 := by rw [eσ30_12]; exact fun _ h => ⟨h, rfl, rfl⟩
                      have iσ30_12 : IV σ30_12 pl gq ci gr nc ot LL N nu := by rw [eσ30_12]; exact iσ29_12.wO (kth.up (xτ2.trans (xσ19_3.trans (xσ22_3.trans xσ29_12)))) (by decide) (show (0 : Int) ≤ (gI σ29_12 th 2 + 1) ∧ (gI σ29_12 th 2 + 1) ≤ 1500 from ⟨by (first | omega | with_reducible assumption | with_reducible exact rng_toInt _ | with_reducible exact rng_wr _ | (unfold rng; omega) | (unfold rng at *; omega) | assumption), by (first | omega | with_reducible assumption | with_reducible exact rng_toInt _ | with_reducible exact rng_wr _ | (unfold rng; omega) | (unfold rng at *; omega) | assumption)⟩)
                      have fσ30_12 : Fx [386, 387, 388, 389, 390] gr σ σ30_12 := fσ29_12.tr (Sk.fx (by rw [eσ30_12]; exact Sk.pI (by rw [fcdO (kth.up (xτ2.trans (xσ19_3.trans (xσ22_3.trans xσ29_12)))) (by decide)]; decide)))
                      have wσ30_12 : gI σ30_12 th 2 = (gI σ29_12 th 2 + 1) := by rw [eσ30_12]; exact up2_s _ _ _ _
                      have kp259 : gI σ30_12 th 1 = gI σ29_12 th 1 := by rw [eσ30_12]; exact up2_n _ _ (fun q => absurd q.2 (by decide))
                      have kp260 : gI σ30_12 th 3 = gI σ29_12 th 3 := by rw [eσ30_12]; exact up2_n _ _ (fun q => absurd q.2 (by decide))
                      have kp261 : gI σ30_12 th 5 = gI σ29_12 th 5 := by rw [eσ30_12]; exact up2_n _ _ (fun q => absurd q.2 (by decide))
                      have kp262 : gI σ30_12 tx (gI τ2 th 2).toNat = gI σ29_12 tx (gI τ2 th 2).toNat := by rw [eσ30_12]; exact up2_n _ _ (fun q => absurd q.1 (kO.ne (kX.up (xτ2.trans (xσ19_3.trans (xσ22_3.trans xσ29_12)))) (kth.up (xτ2.trans (xσ19_3.trans (xσ22_3.trans xσ29_12)))) (by decide)))
                      have kp263 : gP σ30_12 th 0 = gP σ29_12 th 0 := by rw [eσ30_12]
                      unfold w_X6_next_209
                      exact hQ σ30_12 () iσ30_12 fσ30_12 (⟨by first | exact kvw | exact fun e => absurd e (by omega), by omega⟩)
                    · rw [if_neg hc253]
                      have hc253q := Classical.not_not.mp hc253
                      unfold w_X6_next_189
                      refine i_X6_refuse iσ22_3 (kth.up (xτ2.trans (xσ19_3.trans xσ22_3))) (by (first | omega | with_reducible assumption | with_reducible exact rng_toInt _ | with_reducible exact rng_wr _ | (unfold rng; omega) | (unfold rng at *; omega) | assumption)) (by (first | omega | with_reducible assumption | with_reducible exact rng_toInt _ | with_reducible exact rng_wr _ | (unfold rng; omega) | (unfold rng at *; omega) | assumption)) (by (first | omega | with_reducible assumption | with_reducible exact rng_toInt _ | with_reducible exact rng_wr _ | (unfold rng; omega) | (unfold rng at *; omega) | assumption)) (fun σ28_12 _ iσ28_12 cσ28_12 pσ28_12 => ?_) (fun σx LLx Nx nux E ix cx ux px => hX σx LLx Nx nux E ix (fσ22_3.tr (cx.mo (by decide))) (ux) (by first | exact px | exact ⟨by have := px.1; omega, px.2⟩ | (first | omega | with_reducible assumption | with_reducible exact rng_toInt _ | with_reducible exact rng_wr _ | (unfold rng; omega) | (unfold rng at *; omega) | assumption)))
                      intro xσ28_12
                      exact pσ28_12.elim
                  · rw [if_neg hc252]
                    unfold w_X6_next_141
                    by_cases hc264 : gJ σ22_3 th 4 > 57
                    · rw [if_pos hc264]
                      unfold w_X6_next_178
                      refine i_X6_isSignByte iσ22_3 (fun r27_13 pσ26_13 => ?_)
                      intro xσ26_13
                      by_cases hc265 : r27_13 ≠ 0
                      · rw [if_pos hc265]
                        unfold w_X6_next_194
                        intro σ29_13 eσ29_13
                        have xσ29_13 : Ext σ22_3 σ29_13 := by rw [eσ29_13]; exact fun _ h => ⟨h, rfl, rfl⟩
                        have iσ29_13 : IV σ29_13 pl gq ci gr nc ot LL N nu := by rw [eσ29_13]; exact iσ22_3.wO (kth.up (xτ2.trans (xσ19_3.trans xσ22_3))) (by decide) (rngb (by first | exact rng_wr _ | (first | omega | with_reducible assumption | with_reducible exact rng_toInt _ | with_reducible exact rng_wr _ | (unfold rng; omega) | (unfold rng at *; omega) | assumption)))
                        have fσ29_13 : Fx [386, 387, 388, 389, 390] gr σ σ29_13 := fσ22_3.tr (Sk.fx (by rw [eσ29_13]; exact Sk.pI (by rw [fcdO (kth.up (xτ2.trans (xσ19_3.trans xσ22_3))) (by decide)]; decide)))
                        have wσ29_13 : gI σ29_13 th 3 = 5 := by rw [eσ29_13]; exact up2_s _ _ _ _
                        have kp266 : gI σ29_13 th 1 = gI σ22_3 th 1 := by rw [eσ29_13]; exact up2_n _ _ (fun q => absurd q.2 (by decide))
                        have kp267 : gI σ29_13 th 2 = gI σ22_3 th 2 := by rw [eσ29_13]; exact up2_n _ _ (fun q => absurd q.2 (by decide))
                        have kp268 : gI σ29_13 th 5 = gI σ22_3 th 5 := by rw [eσ29_13]; exact up2_n _ _ (fun q => absurd q.2 (by decide))
                        have kp269 : gI σ29_13 tx (gI τ2 th 2).toNat = gI σ22_3 tx (gI τ2 th 2).toNat := by rw [eσ29_13]; exact up2_n _ _ (fun q => absurd q.1 (kO.ne (kX.up (xτ2.trans (xσ19_3.trans xσ22_3))) (kth.up (xτ2.trans (xσ19_3.trans xσ22_3))) (by decide)))
                        have kp270 : gP σ29_13 th 0 = gP σ22_3 th 0 := by rw [eσ29_13]
                        refine ⟨by (first | omega | with_reducible assumption | with_reducible exact rng_toInt _ | with_reducible exact rng_wr _ | (unfold rng; omega) | (unfold rng at *; omega) | assumption), ?_⟩
                        intro σ30_13 eσ30_13
                        have xσ30_13 : Ext σ29_13 σ30_13 := by rw [eσ30_13]; exact fun _ h => ⟨h, rfl, rfl⟩
                        have iσ30_13 : IV σ30_13 pl gq ci gr nc ot LL N nu := by rw [eσ30_13]; exact iσ29_13.wO (kth.up (xτ2.trans (xσ19_3.trans (xσ22_3.trans xσ29_13)))) (by decide) (show (0 : Int) ≤ (gI σ29_13 th 2 + 1) ∧ (gI σ29_13 th 2 + 1) ≤ 1500 from ⟨by (first | omega | with_reducible assumption | with_reducible exact rng_toInt _ | with_reducible exact rng_wr _ | (unfold rng; omega) | (unfold rng at *; omega) | assumption), by (first | omega | with_reducible assumption | with_reducible exact rng_toInt _ | with_reducible exact rng_wr _ | (unfold rng; omega) | (unfold rng at *; omega) | assumption)⟩)
                        have fσ30_13 : Fx [386, 387, 388, 389, 390] gr σ σ30_13 := fσ29_13.tr (Sk.fx (by rw [eσ30_13]; exact Sk.pI (by rw [fcdO (kth.up (xτ2.trans (xσ19_3.trans (xσ22_3.trans xσ29_13)))) (by decide)]; decide)))
                        have wσ30_13 : gI σ30_13 th 2 = (gI σ29_13 th 2 + 1) := by rw [eσ30_13]; exact up2_s _ _ _ _
                        have kp271 : gI σ30_13 th 1 = gI σ29_13 th 1 := by rw [eσ30_13]; exact up2_n _ _ (fun q => absurd q.2 (by decide))
                        have kp272 : gI σ30_13 th 3 = gI σ29_13 th 3 := by rw [eσ30_13]; exact up2_n _ _ (fun q => absurd q.2 (by decide))
                        have kp273 : gI σ30_13 th 5 = gI σ29_13 th 5 := by rw [eσ30_13]; exact up2_n _ _ (fun q => absurd q.2 (by decide))
                        have kp274 : gI σ30_13 tx (gI τ2 th 2).toNat = gI σ29_13 tx (gI τ2 th 2).toNat := by rw [eσ30_13]; exact up2_n _ _ (fun q => absurd q.1 (kO.ne (kX.up (xτ2.trans (xσ19_3.trans (xσ22_3.trans xσ29_13)))) (kth.up (xτ2.trans (xσ19_3.trans (xσ22_3.trans xσ29_13)))) (by decide)))
                        have kp275 : gP σ30_13 th 0 = gP σ29_13 th 0 := by rw [eσ30_13]
                        unfold w_X6_next_209
                        exact hQ σ30_13 () iσ30_13 fσ30_13 (⟨by first | exact kvw | exact fun e => absurd e (by omega), by omega⟩)
                      · rw [if_neg hc265]
                        have hc265q := Classical.not_not.mp hc265
                        unfold w_X6_next_189
                        refine i_X6_refuse iσ22_3 (kth.up (xτ2.trans (xσ19_3.trans xσ22_3))) (by (first | omega | with_reducible assumption | with_reducible exact rng_toInt _ | with_reducible exact rng_wr _ | (unfold rng; omega) | (unfold rng at *; omega) | assumption)) (by (first | omega | with_reducible assumption | with_reducible exact rng_toInt _ | with_reducible exact rng_wr _ | (unfold rng; omega) | (unfold rng at *; omega) | assumption)) (by (first | omega | with_reducible assumption | with_reducible exact rng_toInt _ | with_reducible exact rng_wr _ | (unfold rng; omega) | (unfold rng at *; omega) | assumption)) (fun σ28_13 _ iσ28_13 cσ28_13 pσ28_13 => ?_) (fun σx LLx Nx nux E ix cx ux px => hX σx LLx Nx nux E ix (fσ22_3.tr (cx.mo (by decide))) (ux) (by first | exact px | exact ⟨by have := px.1; omega, px.2⟩ | (first | omega | with_reducible assumption | with_reducible exact rng_toInt _ | with_reducible exact rng_wr _ | (unfold rng; omega) | (unfold rng at *; omega) | assumption)))
                        intro xσ28_13
                        exact pσ28_13.elim
                    · rw [if_neg hc264]
                      unfold w_X6_next_152
                      refine i_X6_digits iσ22_3 (kth.up (xτ2.trans (xσ19_3.trans xσ22_3))) (kp249.trans (kp241.trans (kp4.trans hX0))) (kX.up (xτ2.trans (xσ19_3.trans xσ22_3))) (((xτ2.trans (xσ19_3.trans xσ22_3)) tx kX.1).2.2.trans gX) (by omega) (by rw [xk22]; have a9 := ge64 (a := 48) r22 (by rw [← v22]; assumption); have b9 := le64 (a := 57) r22 (by rw [← v22]; assumption); have c9 : (48 : Int64).toInt = 48 := rfl; have d9 : (57 : Int64).toInt = 57 := rfl; omega) (fun σ24_6 _ iσ24_6 cσ24_6 pσ24_6 => ?_)
                      intro xσ24_6
                      have fσ24_6 : Fx [386, 387, 388, 389, 390] gr σ σ24_6 := fσ22_3.tr (cσ24_6.mo (by decide))
                      have kp276 : gI σ24_6 th 1 = gI σ22_3 th 1 := (cσ24_6.O (kth.up (xτ2.trans (xσ19_3.trans xσ22_3))) (by decide)).1
                      have kp277 : gI σ24_6 th 5 = gI σ22_3 th 5 := (cσ24_6.O (kth.up (xτ2.trans (xσ19_3.trans xσ22_3))) (by decide)).1
                      have kp278 : gI σ24_6 tx (gI τ2 th 2).toNat = gI σ22_3 tx (gI τ2 th 2).toNat := (cσ24_6.A (kX.up (xτ2.trans (xσ19_3.trans xσ22_3))) (by decide)).1
                      have kp279 : gP σ24_6 th 0 = gP σ22_3 th 0 := (cσ24_6.O (kth.up (xτ2.trans (xσ19_3.trans xσ22_3))) (by decide)).2.1
                      have q280 := I_6_2 iσ24_6.1 (kth.up (xτ2.trans (xσ19_3.trans (xσ22_3.trans xσ24_6))))
                      refine ⟨by (first | omega | with_reducible assumption | with_reducible exact rng_toInt _ | with_reducible exact rng_wr _ | (unfold rng; omega) | (unfold rng at *; omega) | assumption), ?_⟩
                      by_cases hc281 : (gI σ24_6 th 2 - gI σ24_6 th 5) ≤ 18
                      · rw [if_pos hc281]
                        unfold w_X6_next_209
                        exact hQ σ24_6 () iσ24_6 fσ24_6 (⟨by first | exact kvw | exact fun e => absurd e (by omega), by omega⟩)
                      · rw [if_neg hc281]
                        unfold w_X6_next_170
                        refine i_X6_refuse iσ24_6 (kth.up (xτ2.trans (xσ19_3.trans (xσ22_3.trans xσ24_6)))) (by (first | omega | with_reducible assumption | with_reducible exact rng_toInt _ | with_reducible exact rng_wr _ | (unfold rng; omega) | (unfold rng at *; omega) | assumption)) (by (first | omega | with_reducible assumption | with_reducible exact rng_toInt _ | with_reducible exact rng_wr _ | (unfold rng; omega) | (unfold rng at *; omega) | assumption)) (by (first | omega | with_reducible assumption | with_reducible exact rng_toInt _ | with_reducible exact rng_wr _ | (unfold rng; omega) | (unfold rng at *; omega) | assumption)) (fun σ25_6 _ iσ25_6 cσ25_6 pσ25_6 => ?_) (fun σx LLx Nx nux E ix cx ux px => hX σx LLx Nx nux E ix (fσ24_6.tr (cx.mo (by decide))) (ux) (by first | exact px | exact ⟨by have := px.1; omega, px.2⟩ | (first | omega | with_reducible assumption | with_reducible exact rng_toInt _ | with_reducible exact rng_wr _ | (unfold rng; omega) | (unfold rng at *; omega) | assumption)))
                        intro xσ25_6
                        exact pσ25_6.elim
                · rw [if_neg hc251]
                  unfold w_X6_next_112
                  by_cases hc282 : gJ σ22_3 th 4 > 122
                  · rw [if_pos hc282]
                    unfold w_X6_next_130
                    by_cases hc283 : gJ σ22_3 th 4 < 48
                    · rw [if_pos hc283]
                      unfold w_X6_next_178
                      refine i_X6_isSignByte iσ22_3 (fun r27_14 pσ26_14 => ?_)
                      intro xσ26_14
                      by_cases hc284 : r27_14 ≠ 0
                      · rw [if_pos hc284]
                        unfold w_X6_next_194
                        intro σ29_14 eσ29_14
                        have xσ29_14 : Ext σ22_3 σ29_14 := by rw [eσ29_14]; exact fun _ h => ⟨h, rfl, rfl⟩
                        have iσ29_14 : IV σ29_14 pl gq ci gr nc ot LL N nu := by rw [eσ29_14]; exact iσ22_3.wO (kth.up (xτ2.trans (xσ19_3.trans xσ22_3))) (by decide) (rngb (by first | exact rng_wr _ | (first | omega | with_reducible assumption | with_reducible exact rng_toInt _ | with_reducible exact rng_wr _ | (unfold rng; omega) | (unfold rng at *; omega) | assumption)))
                        have fσ29_14 : Fx [386, 387, 388, 389, 390] gr σ σ29_14 := fσ22_3.tr (Sk.fx (by rw [eσ29_14]; exact Sk.pI (by rw [fcdO (kth.up (xτ2.trans (xσ19_3.trans xσ22_3))) (by decide)]; decide)))
                        have wσ29_14 : gI σ29_14 th 3 = 5 := by rw [eσ29_14]; exact up2_s _ _ _ _
                        have kp285 : gI σ29_14 th 1 = gI σ22_3 th 1 := by rw [eσ29_14]; exact up2_n _ _ (fun q => absurd q.2 (by decide))
                        have kp286 : gI σ29_14 th 2 = gI σ22_3 th 2 := by rw [eσ29_14]; exact up2_n _ _ (fun q => absurd q.2 (by decide))
                        have kp287 : gI σ29_14 th 5 = gI σ22_3 th 5 := by rw [eσ29_14]; exact up2_n _ _ (fun q => absurd q.2 (by decide))
                        have kp288 : gI σ29_14 tx (gI τ2 th 2).toNat = gI σ22_3 tx (gI τ2 th 2).toNat := by rw [eσ29_14]; exact up2_n _ _ (fun q => absurd q.1 (kO.ne (kX.up (xτ2.trans (xσ19_3.trans xσ22_3))) (kth.up (xτ2.trans (xσ19_3.trans xσ22_3))) (by decide)))
                        have kp289 : gP σ29_14 th 0 = gP σ22_3 th 0 := by rw [eσ29_14]
                        refine ⟨by (first | omega | with_reducible assumption | with_reducible exact rng_toInt _ | with_reducible exact rng_wr _ | (unfold rng; omega) | (unfold rng at *; omega) | assumption), ?_⟩
                        intro σ30_14 eσ30_14
                        have xσ30_14 : Ext σ29_14 σ30_14 := by rw [eσ30_14]; exact fun _ h => ⟨h, rfl, rfl⟩
                        have iσ30_14 : IV σ30_14 pl gq ci gr nc ot LL N nu := by rw [eσ30_14]; exact iσ29_14.wO (kth.up (xτ2.trans (xσ19_3.trans (xσ22_3.trans xσ29_14)))) (by decide) (show (0 : Int) ≤ (gI σ29_14 th 2 + 1) ∧ (gI σ29_14 th 2 + 1) ≤ 1500 from ⟨by (first | omega | with_reducible assumption | with_reducible exact rng_toInt _ | with_reducible exact rng_wr _ | (unfold rng; omega) | (unfold rng at *; omega) | assumption), by (first | omega | with_reducible assumption | with_reducible exact rng_toInt _ | with_reducible exact rng_wr _ | (unfold rng; omega) | (unfold rng at *; omega) | assumption)⟩)
                        have fσ30_14 : Fx [386, 387, 388, 389, 390] gr σ σ30_14 := fσ29_14.tr (Sk.fx (by rw [eσ30_14]; exact Sk.pI (by rw [fcdO (kth.up (xτ2.trans (xσ19_3.trans (xσ22_3.trans xσ29_14)))) (by decide)]; decide)))
                        have wσ30_14 : gI σ30_14 th 2 = (gI σ29_14 th 2 + 1) := by rw [eσ30_14]; exact up2_s _ _ _ _
                        have kp290 : gI σ30_14 th 1 = gI σ29_14 th 1 := by rw [eσ30_14]; exact up2_n _ _ (fun q => absurd q.2 (by decide))
                        have kp291 : gI σ30_14 th 3 = gI σ29_14 th 3 := by rw [eσ30_14]; exact up2_n _ _ (fun q => absurd q.2 (by decide))
                        have kp292 : gI σ30_14 th 5 = gI σ29_14 th 5 := by rw [eσ30_14]; exact up2_n _ _ (fun q => absurd q.2 (by decide))
                        have kp293 : gI σ30_14 tx (gI τ2 th 2).toNat = gI σ29_14 tx (gI τ2 th 2).toNat := by rw [eσ30_14]; exact up2_n _ _ (fun q => absurd q.1 (kO.ne (kX.up (xτ2.trans (xσ19_3.trans (xσ22_3.trans xσ29_14)))) (kth.up (xτ2.trans (xσ19_3.trans (xσ22_3.trans xσ29_14)))) (by decide)))
                        have kp294 : gP σ30_14 th 0 = gP σ29_14 th 0 := by rw [eσ30_14]
                        unfold w_X6_next_209
                        exact hQ σ30_14 () iσ30_14 fσ30_14 (⟨by first | exact kvw | exact fun e => absurd e (by omega), by omega⟩)
                      · rw [if_neg hc284]
                        have hc284q := Classical.not_not.mp hc284
                        unfold w_X6_next_189
                        refine i_X6_refuse iσ22_3 (kth.up (xτ2.trans (xσ19_3.trans xσ22_3))) (by (first | omega | with_reducible assumption | with_reducible exact rng_toInt _ | with_reducible exact rng_wr _ | (unfold rng; omega) | (unfold rng at *; omega) | assumption)) (by (first | omega | with_reducible assumption | with_reducible exact rng_toInt _ | with_reducible exact rng_wr _ | (unfold rng; omega) | (unfold rng at *; omega) | assumption)) (by (first | omega | with_reducible assumption | with_reducible exact rng_toInt _ | with_reducible exact rng_wr _ | (unfold rng; omega) | (unfold rng at *; omega) | assumption)) (fun σ28_14 _ iσ28_14 cσ28_14 pσ28_14 => ?_) (fun σx LLx Nx nux E ix cx ux px => hX σx LLx Nx nux E ix (fσ22_3.tr (cx.mo (by decide))) (ux) (by first | exact px | exact ⟨by have := px.1; omega, px.2⟩ | (first | omega | with_reducible assumption | with_reducible exact rng_toInt _ | with_reducible exact rng_wr _ | (unfold rng; omega) | (unfold rng at *; omega) | assumption)))
                        intro xσ28_14
                        exact pσ28_14.elim
                    · rw [if_neg hc283]
                      unfold w_X6_next_141
                      by_cases hc295 : gJ σ22_3 th 4 > 57
                      · rw [if_pos hc295]
                        unfold w_X6_next_178
                        refine i_X6_isSignByte iσ22_3 (fun r27_15 pσ26_15 => ?_)
                        intro xσ26_15
                        by_cases hc296 : r27_15 ≠ 0
                        · rw [if_pos hc296]
                          unfold w_X6_next_194
                          intro σ29_15 eσ29_15
                          have xσ29_15 : Ext σ22_3 σ29_15 := by rw [eσ29_15]; exact fun _ h => ⟨h, rfl, rfl⟩
                          have iσ29_15 : IV σ29_15 pl gq ci gr nc ot LL N nu := by rw [eσ29_15]; exact iσ22_3.wO (kth.up (xτ2.trans (xσ19_3.trans xσ22_3))) (by decide) (rngb (by first | exact rng_wr _ | (first | omega | with_reducible assumption | with_reducible exact rng_toInt _ | with_reducible exact rng_wr _ | (unfold rng; omega) | (unfold rng at *; omega) | assumption)))
                          have fσ29_15 : Fx [386, 387, 388, 389, 390] gr σ σ29_15 := fσ22_3.tr (Sk.fx (by rw [eσ29_15]; exact Sk.pI (by rw [fcdO (kth.up (xτ2.trans (xσ19_3.trans xσ22_3))) (by decide)]; decide)))
                          have wσ29_15 : gI σ29_15 th 3 = 5 := by rw [eσ29_15]; exact up2_s _ _ _ _
                          have kp297 : gI σ29_15 th 1 = gI σ22_3 th 1 := by rw [eσ29_15]; exact up2_n _ _ (fun q => absurd q.2 (by decide))
                          have kp298 : gI σ29_15 th 2 = gI σ22_3 th 2 := by rw [eσ29_15]; exact up2_n _ _ (fun q => absurd q.2 (by decide))
                          have kp299 : gI σ29_15 th 5 = gI σ22_3 th 5 := by rw [eσ29_15]; exact up2_n _ _ (fun q => absurd q.2 (by decide))
                          have kp300 : gI σ29_15 tx (gI τ2 th 2).toNat = gI σ22_3 tx (gI τ2 th 2).toNat := by rw [eσ29_15]; exact up2_n _ _ (fun q => absurd q.1 (kO.ne (kX.up (xτ2.trans (xσ19_3.trans xσ22_3))) (kth.up (xτ2.trans (xσ19_3.trans xσ22_3))) (by decide)))
                          have kp301 : gP σ29_15 th 0 = gP σ22_3 th 0 := by rw [eσ29_15]
                          refine ⟨by (first | omega | with_reducible assumption | with_reducible exact rng_toInt _ | with_reducible exact rng_wr _ | (unfold rng; omega) | (unfold rng at *; omega) | assumption), ?_⟩
                          intro σ30_15 eσ30_15
                          have xσ30_15 : Ext σ29_15 σ30_15 := by rw [eσ30_15]; exact fun _ h => ⟨h, rfl, rfl⟩
                          have iσ30_15 : IV σ30_15 pl gq ci gr nc ot LL N nu := by rw [eσ30_15]; exact iσ29_15.wO (kth.up (xτ2.trans (xσ19_3.trans (xσ22_3.trans xσ29_15)))) (by decide) (show (0 : Int) ≤ (gI σ29_15 th 2 + 1) ∧ (gI σ29_15 th 2 + 1) ≤ 1500 from ⟨by (first | omega | with_reducible assumption | with_reducible exact rng_toInt _ | with_reducible exact rng_wr _ | (unfold rng; omega) | (unfold rng at *; omega) | assumption), by (first | omega | with_reducible assumption | with_reducible exact rng_toInt _ | with_reducible exact rng_wr _ | (unfold rng; omega) | (unfold rng at *; omega) | assumption)⟩)
                          have fσ30_15 : Fx [386, 387, 388, 389, 390] gr σ σ30_15 := fσ29_15.tr (Sk.fx (by rw [eσ30_15]; exact Sk.pI (by rw [fcdO (kth.up (xτ2.trans (xσ19_3.trans (xσ22_3.trans xσ29_15)))) (by decide)]; decide)))
                          have wσ30_15 : gI σ30_15 th 2 = (gI σ29_15 th 2 + 1) := by rw [eσ30_15]; exact up2_s _ _ _ _
                          have kp302 : gI σ30_15 th 1 = gI σ29_15 th 1 := by rw [eσ30_15]; exact up2_n _ _ (fun q => absurd q.2 (by decide))
                          have kp303 : gI σ30_15 th 3 = gI σ29_15 th 3 := by rw [eσ30_15]; exact up2_n _ _ (fun q => absurd q.2 (by decide))
                          have kp304 : gI σ30_15 th 5 = gI σ29_15 th 5 := by rw [eσ30_15]; exact up2_n _ _ (fun q => absurd q.2 (by decide))
                          have kp305 : gI σ30_15 tx (gI τ2 th 2).toNat = gI σ29_15 tx (gI τ2 th 2).toNat := by rw [eσ30_15]; exact up2_n _ _ (fun q => absurd q.1 (kO.ne (kX.up (xτ2.trans (xσ19_3.trans (xσ22_3.trans xσ29_15)))) (kth.up (xτ2.trans (xσ19_3.trans (xσ22_3.trans xσ29_15)))) (by decide)))
                          have kp306 : gP σ30_15 th 0 = gP σ29_15 th 0 := by rw [eσ30_15]
                          unfold w_X6_next_209
                          exact hQ σ30_15 () iσ30_15 fσ30_15 (⟨by first | exact kvw | exact fun e => absurd e (by omega), by omega⟩)
                        · rw [if_neg hc296]
                          have hc296q := Classical.not_not.mp hc296
                          unfold w_X6_next_189
                          refine i_X6_refuse iσ22_3 (kth.up (xτ2.trans (xσ19_3.trans xσ22_3))) (by (first | omega | with_reducible assumption | with_reducible exact rng_toInt _ | with_reducible exact rng_wr _ | (unfold rng; omega) | (unfold rng at *; omega) | assumption)) (by (first | omega | with_reducible assumption | with_reducible exact rng_toInt _ | with_reducible exact rng_wr _ | (unfold rng; omega) | (unfold rng at *; omega) | assumption)) (by (first | omega | with_reducible assumption | with_reducible exact rng_toInt _ | with_reducible exact rng_wr _ | (unfold rng; omega) | (unfold rng at *; omega) | assumption)) (fun σ28_15 _ iσ28_15 cσ28_15 pσ28_15 => ?_) (fun σx LLx Nx nux E ix cx ux px => hX σx LLx Nx nux E ix (fσ22_3.tr (cx.mo (by decide))) (ux) (by first | exact px | exact ⟨by have := px.1; omega, px.2⟩ | (first | omega | with_reducible assumption | with_reducible exact rng_toInt _ | with_reducible exact rng_wr _ | (unfold rng; omega) | (unfold rng at *; omega) | assumption)))
                          intro xσ28_15
                          exact pσ28_15.elim
                      · rw [if_neg hc295]
                        unfold w_X6_next_152
                        refine i_X6_digits iσ22_3 (kth.up (xτ2.trans (xσ19_3.trans xσ22_3))) (kp249.trans (kp241.trans (kp4.trans hX0))) (kX.up (xτ2.trans (xσ19_3.trans xσ22_3))) (((xτ2.trans (xσ19_3.trans xσ22_3)) tx kX.1).2.2.trans gX) (by omega) (by rw [xk22]; have a9 := ge64 (a := 48) r22 (by rw [← v22]; assumption); have b9 := le64 (a := 57) r22 (by rw [← v22]; assumption); have c9 : (48 : Int64).toInt = 48 := rfl; have d9 : (57 : Int64).toInt = 57 := rfl; omega) (fun σ24_7 _ iσ24_7 cσ24_7 pσ24_7 => ?_)
                        intro xσ24_7
                        have fσ24_7 : Fx [386, 387, 388, 389, 390] gr σ σ24_7 := fσ22_3.tr (cσ24_7.mo (by decide))
                        have kp307 : gI σ24_7 th 1 = gI σ22_3 th 1 := (cσ24_7.O (kth.up (xτ2.trans (xσ19_3.trans xσ22_3))) (by decide)).1
                        have kp308 : gI σ24_7 th 5 = gI σ22_3 th 5 := (cσ24_7.O (kth.up (xτ2.trans (xσ19_3.trans xσ22_3))) (by decide)).1
                        have kp309 : gI σ24_7 tx (gI τ2 th 2).toNat = gI σ22_3 tx (gI τ2 th 2).toNat := (cσ24_7.A (kX.up (xτ2.trans (xσ19_3.trans xσ22_3))) (by decide)).1
                        have kp310 : gP σ24_7 th 0 = gP σ22_3 th 0 := (cσ24_7.O (kth.up (xτ2.trans (xσ19_3.trans xσ22_3))) (by decide)).2.1
                        have q311 := I_6_2 iσ24_7.1 (kth.up (xτ2.trans (xσ19_3.trans (xσ22_3.trans xσ24_7))))
                        refine ⟨by (first | omega | with_reducible assumption | with_reducible exact rng_toInt _ | with_reducible exact rng_wr _ | (unfold rng; omega) | (unfold rng at *; omega) | assumption), ?_⟩
                        by_cases hc312 : (gI σ24_7 th 2 - gI σ24_7 th 5) ≤ 18
                        · rw [if_pos hc312]
                          unfold w_X6_next_209
                          exact hQ σ24_7 () iσ24_7 fσ24_7 (⟨by first | exact kvw | exact fun e => absurd e (by omega), by omega⟩)
                        · rw [if_neg hc312]
                          unfold w_X6_next_170
                          refine i_X6_refuse iσ24_7 (kth.up (xτ2.trans (xσ19_3.trans (xσ22_3.trans xσ24_7)))) (by (first | omega | with_reducible assumption | with_reducible exact rng_toInt _ | with_reducible exact rng_wr _ | (unfold rng; omega) | (unfold rng at *; omega) | assumption)) (by (first | omega | with_reducible assumption | with_reducible exact rng_toInt _ | with_reducible exact rng_wr _ | (unfold rng; omega) | (unfold rng at *; omega) | assumption)) (by (first | omega | with_reducible assumption | with_reducible exact rng_toInt _ | with_reducible exact rng_wr _ | (unfold rng; omega) | (unfold rng at *; omega) | assumption)) (fun σ25_7 _ iσ25_7 cσ25_7 pσ25_7 => ?_) (fun σx LLx Nx nux E ix cx ux px => hX σx LLx Nx nux E ix (fσ24_7.tr (cx.mo (by decide))) (ux) (by first | exact px | exact ⟨by have := px.1; omega, px.2⟩ | (first | omega | with_reducible assumption | with_reducible exact rng_toInt _ | with_reducible exact rng_wr _ | (unfold rng; omega) | (unfold rng at *; omega) | assumption)))
                          intro xσ25_7
                          exact pσ25_7.elim
                  · rw [if_neg hc282]
                    unfold w_X6_next_123
                    refine i_X6_word iσ22_3 (kth.up (xτ2.trans (xσ19_3.trans xσ22_3))) (kp249.trans (kp241.trans (kp4.trans hX0))) (kX.up (xτ2.trans (xσ19_3.trans xσ22_3))) (((xτ2.trans (xσ19_3.trans xσ22_3)) tx kX.1).2.2.trans gX) (by omega) (by rw [xk22]; have a9 := ge64 (a := 97) r22 (by rw [← v22]; assumption); have b9 := le64 (a := 122) r22 (by rw [← v22]; assumption); have c9 : (97 : Int64).toInt = 97 := rfl; have d9 : (122 : Int64).toInt = 122 := rfl; omega) (fun σ23_3 _ iσ23_3 cσ23_3 pσ23_3 => ?_)
                    intro xσ23_3
                    have fσ23_3 : Fx [386, 387, 388, 389, 390] gr σ σ23_3 := fσ22_3.tr (cσ23_3.mo (by decide))
                    have kp313 : gI σ23_3 th 1 = gI σ22_3 th 1 := (cσ23_3.O (kth.up (xτ2.trans (xσ19_3.trans xσ22_3))) (by decide)).1
                    have kp314 : gI σ23_3 th 5 = gI σ22_3 th 5 := (cσ23_3.O (kth.up (xτ2.trans (xσ19_3.trans xσ22_3))) (by decide)).1
                    have kp315 : gI σ23_3 tx (gI τ2 th 2).toNat = gI σ22_3 tx (gI τ2 th 2).toNat := (cσ23_3.A (kX.up (xτ2.trans (xσ19_3.trans xσ22_3))) (by decide)).1
                    have kp316 : gP σ23_3 th 0 = gP σ22_3 th 0 := (cσ23_3.O (kth.up (xτ2.trans (xσ19_3.trans xσ22_3))) (by decide)).2.1
                    have kvw := pσ23_3.1
                    unfold w_X6_next_209
                    exact hQ σ23_3 () iσ23_3 fσ23_3 (⟨by first | exact kvw | exact fun e => absurd e (by omega), by omega⟩)
              · rw [if_neg hc243]
                unfold w_X6_next_81
                intro σ20_3 eσ20_3
                have xσ20_3 : Ext σ19_3 σ20_3 := by rw [eσ20_3]; exact fun _ h => ⟨h, rfl, rfl⟩
                have iσ20_3 : IV σ20_3 pl gq ci gr nc ot LL N nu := by rw [eσ20_3]; exact iσ19_3.wO (kth.up (xτ2.trans xσ19_3)) (by decide) (rngb (by first | exact rng_wr _ | (first | omega | with_reducible assumption | with_reducible exact rng_toInt _ | with_reducible exact rng_wr _ | (unfold rng; omega) | (unfold rng at *; omega) | assumption)))
                have fσ20_3 : Fx [386, 387, 388, 389, 390] gr σ σ20_3 := fσ19_3.tr (Sk.fx (by rw [eσ20_3]; exact Sk.pI (by rw [fcdO (kth.up (xτ2.trans xσ19_3)) (by decide)]; decide)))
                have wσ20_3 : gI σ20_3 th 3 = 0 := by rw [eσ20_3]; exact up2_s _ _ _ _
                have kp317 : gI σ20_3 th 1 = gI σ19_3 th 1 := by rw [eσ20_3]; exact up2_n _ _ (fun q => absurd q.2 (by decide))
                have kp318 : gI σ20_3 th 2 = gI σ19_3 th 2 := by rw [eσ20_3]; exact up2_n _ _ (fun q => absurd q.2 (by decide))
                have kp319 : gI σ20_3 th 5 = gI σ19_3 th 5 := by rw [eσ20_3]; exact up2_n _ _ (fun q => absurd q.2 (by decide))
                have kp320 : gI σ20_3 tx (gI τ2 th 2).toNat = gI σ19_3 tx (gI τ2 th 2).toNat := by rw [eσ20_3]; exact up2_n _ _ (fun q => absurd q.1 (kO.ne (kX.up (xτ2.trans xσ19_3)) (kth.up (xτ2.trans xσ19_3)) (by decide)))
                have kp321 : gP σ20_3 th 0 = gP σ19_3 th 0 := by rw [eσ20_3]
                exact hQ σ20_3 () iσ20_3 fσ20_3 (⟨by first | exact kvw | exact fun e => absurd e (by omega), by omega⟩)
            · rw [if_neg hc237]
              unfold w_X6_next_46
              refine ⟨by (first | omega | with_reducible assumption | with_reducible exact rng_toInt _ | with_reducible exact rng_wr _ | (unfold rng; omega) | (unfold rng at *; omega) | assumption), ?_⟩
              intro σ18 eσ18
              have xσ18 : Ext τ2 σ18 := by rw [eσ18]; exact fun _ h => ⟨h, rfl, rfl⟩
              have iσ18 : IV σ18 pl gq ci gr nc ot LL N nu := by rw [eσ18]; exact iτ2.wO (kth.up xτ2) (by decide) (show (0 : Int) ≤ (gI τ2 th 2 + 1) ∧ (gI τ2 th 2 + 1) ≤ 1500 from ⟨by (first | omega | with_reducible assumption | with_reducible exact rng_toInt _ | with_reducible exact rng_wr _ | (unfold rng; omega) | (unfold rng at *; omega) | assumption), by (first | omega | with_reducible assumption | with_reducible exact rng_toInt _ | with_reducible exact rng_wr _ | (unfold rng; omega) | (unfold rng at *; omega) | assumption)⟩)
              have fσ18 : Fx [386, 387, 388, 389, 390] gr σ σ18 := fτ2.tr (Sk.fx (by rw [eσ18]; exact Sk.pI (by rw [fcdO (kth.up xτ2) (by decide)]; decide)))
              have wσ18 : gI σ18 th 2 = (gI τ2 th 2 + 1) := by rw [eσ18]; exact up2_s _ _ _ _
              have kp322 : gI σ18 th 1 = gI τ2 th 1 := by rw [eσ18]; exact up2_n _ _ (fun q => absurd q.2 (by decide))
              have kp323 : gI σ18 tx (gI τ2 th 2).toNat = gI τ2 tx (gI τ2 th 2).toNat := by rw [eσ18]; exact up2_n _ _ (fun q => absurd q.1 (kO.ne (kX.up xτ2) (kth.up xτ2) (by decide)))
              have kp324 : gP σ18 th 0 = gP τ2 th 0 := by rw [eσ18]
              have kp325 : gI σ18 th 3 = gI τ2 th 3 := by rw [eσ18]; exact up2_n _ _ (fun q => absurd q.2 (by decide))
              have kp326 : gI σ18 th 5 = gI τ2 th 5 := by rw [eσ18]; exact up2_n _ _ (fun q => absurd q.2 (by decide))
              refine ⟨by (first | omega | with_reducible assumption | with_reducible exact rng_toInt _ | with_reducible exact rng_wr _ | (unfold rng; omega) | (unfold rng at *; omega) | assumption), ?_⟩
              exact ih2 σ18 (v1 + 1) iσ18 fσ18 (xτ2.trans xσ18) (by (first | omega | with_reducible assumption | with_reducible exact rng_toInt _ | with_reducible exact rng_wr _ | (unfold rng; omega) | (unfold rng at *; omega) | assumption)) (by (first | omega | with_reducible assumption | with_reducible exact rng_toInt _ | with_reducible exact rng_wr _ | (unfold rng; omega) | (unfold rng at *; omega) | assumption))
  exact ⟨_, Lp2 _ σ _ iσ fσ (Ext.rfl' _) (by (first | omega | with_reducible assumption | with_reducible exact rng_toInt _ | with_reducible exact rng_wr _ | (unfold rng; omega) | (unfold rng at *; omega) | assumption)) (Nat.lt_succ_self _)⟩
set_option maxHeartbeats 1000000 in
theorem i0_X6_next {σ : Sg} {pl : Nat} {gq ci gr nc : Nat → Nat} {ot : Nat → Nat → Int} {LL : Nat → List Nat} {N nu : Nat → Nat} {th : Nat} {tx : Nat} (iσ : IV σ pl gq ci gr nc ot LL N nu) (kth : kO σ th 6) (hX0 : gP σ th 0 = some tx) (kX : kO σ tx 102) (gX : gn σ tx = 1500) (h5 : nu 5 < 24000) {Q : Sg → Unit → Prop} {X : Sg → String → Prop} (hQ : ∀ (σ' : Sg) (r : Unit), IV σ' pl gq ci gr nc ot LL N nu → Fx [386, 387, 388, 389, 390] gr σ σ' → (KV σ' th ∧ (gI σ' th 5 ≤ gI σ' th 2 ∧ (gI σ' th 3 ≠ 0 → gI σ' th 5 + 1 ≤ gI σ' th 2))) → Q σ' r) (hX : ∀ (σ' : Sg) (LL' : Nat → List Nat) (N' nu' : Nat → Nat) (E : String), IV σ' pl gq ci gr nc ot LL' N' nu' → Fx [386, 387, 388, 389, 390] gr σ σ' → NCX nu nu' → (LL' = LL ∧ N' = N ∧ E = "java/lang/IllegalArgumentException" ∧ gI σ' th 6 ≠ 0) → X σ' E) : wp_X6_next th σ Q X := by
  have fσ : Fx [386, 387, 388, 389, 390] gr σ σ := Fx.rf
  unfold wp_X6_next
  unfold w_X6_next_0
  have Lp2 : ∀ (fu2 : Nat) (τ2 : Sg) (v1 : Int), IV τ2 pl gq ci gr nc ot LL N nu → Fx [386, 387, 388, 389, 390] gr σ τ2 → Ext σ τ2 → ((0 ≤ v1 ∧ v1 ≤ 1500) ∧ gI σ th 2 ≤ gI τ2 th 2) → ((1500 - v1).toNat) < fu2 → wl_X6_next_2 th Q X fu2 τ2 v1 := by
    intro fu2
    induction fu2 with
    | zero => intro _ _ _ _ _ _ h9; omega
    | succ fu2 ih2 =>
      intro τ2 v1 iτ2 fτ2 xτ2 hi2 hm2
      unfold wl_X6_next_2
      have kp1 : gP τ2 th 0 = gP σ th 0 := (fτ2.O kth (by decide)).2.1
      have xl2 := I_6_1 iτ2.1 (kth.up xτ2)
      unfold w_X6_next_2
      by_cases hc2 : v1 ≥ 1500
      · rw [if_pos hc2]
        unfold w_X6_next_62
        intro σ19 eσ19
        have xσ19 : Ext τ2 σ19 := by rw [eσ19]; exact fun _ h => ⟨h, rfl, rfl⟩
        have q3 := I_6_2 iτ2.1 (kth.up xτ2)
        have iσ19 : IV σ19 pl gq ci gr nc ot LL N nu := by rw [eσ19]; exact iτ2.wO (kth.up xτ2) (by decide) (show (0 : Int) ≤ (gI τ2 th 2) ∧ (gI τ2 th 2) ≤ 1500 from ⟨by (first | omega | with_reducible assumption | with_reducible exact rng_toInt _ | with_reducible exact rng_wr _ | (unfold rng; omega) | (unfold rng at *; omega) | assumption), by (first | omega | with_reducible assumption | with_reducible exact rng_toInt _ | with_reducible exact rng_wr _ | (unfold rng; omega) | (unfold rng at *; omega) | assumption)⟩)
        have fσ19 : Fx [386, 387, 388, 389, 390] gr σ σ19 := fτ2.tr (Sk.fx (by rw [eσ19]; exact Sk.pI (by rw [fcdO (kth.up xτ2) (by decide)]; decide)))
        have wσ19 : gI σ19 th 5 = (gI τ2 th 2) := by rw [eσ19]; exact up2_s _ _ _ _
        have kp4 : gI σ19 th 2 = gI τ2 th 2 := by rw [eσ19]; exact up2_n _ _ (fun q => absurd q.2 (by decide))
        have kp5 : gP σ19 th 0 = gP τ2 th 0 := by rw [eσ19]
        have kp6 : gI σ19 th 3 = gI τ2 th 3 := by rw [eσ19]; exact up2_n _ _ (fun q => absurd q.2 (by decide))
        have q8 := I_6_1 iσ19.1 (kth.up (xτ2.trans xσ19))
        by_cases hc7 : gI σ19 th 2 < gI σ19 th 1
        · rw [if_pos hc7]
          unfold w_X6_next_87
          refine ⟨tx, (kp5.trans (kp1.trans hX0)), fun kk_tx => ?_⟩
          have q9 := ((xτ2.trans xσ19) tx kX.1).2.2
          refine ⟨⟨by (first | omega | with_reducible assumption | with_reducible exact rng_toInt _ | with_reducible exact rng_wr _ | (unfold rng; omega) | (unfold rng at *; omega) | assumption), by (first | omega | with_reducible assumption | with_reducible exact rng_toInt _ | with_reducible exact rng_wr _ | (unfold rng; omega) | (unfold rng at *; omega) | assumption)⟩, ?_⟩
          intro σ22 eσ22
          have xσ22 : Ext σ19 σ22 := by rw [eσ22]; exact fun _ h => ⟨h, rfl, rfl⟩
          have iσ22 : IV σ22 pl gq ci gr nc ot LL N nu := by rw [eσ22]; exact iσ19.wJ (kth.up (xτ2.trans xσ19)) (by decide)
          have fσ22 : Fx [386, 387, 388, 389, 390] gr σ σ22 := fσ19.tr (Sk.fx (by rw [eσ22]; exact Sk.pJ (by rw [fcdO (kth.up (xτ2.trans xσ19)) (by decide)]; decide)))
          have kp10 : gI σ22 th 1 = gI σ19 th 1 := by rw [eσ22]
          have kp11 : gI σ22 th 2 = gI σ19 th 2 := by rw [eσ22]
          have kp12 : gI σ22 th 5 = gI σ19 th 5 := by rw [eσ22]
          have kp13 : gP σ22 th 0 = gP σ19 th 0 := by rw [eσ22]
          have kp14 : gI σ22 th 3 = gI σ19 th 3 := by rw [eσ22]
          have v22 : gJ σ22 th 4 = Int64.ofInt (gI σ19 tx (gI σ19 th 2).toNat) := by rw [eσ22]; exact up2_s _ _ _ _
          have r22 := iσ19.rg tx (gI σ19 th 2).toNat
          have xk22 : gI σ22 tx (gI σ22 th 2).toNat = gI σ19 tx (gI σ19 th 2).toNat := by rw [eσ22]
          by_cases hc15 : gJ σ22 th 4 < 97
          · rw [if_pos hc15]
            unfold w_X6_next_130
            by_cases hc16 : gJ σ22 th 4 < 48
            · rw [if_pos hc16]
              unfold w_X6_next_178
              refine i_X6_isSignByte iσ22 (fun r27 pσ26 => ?_)
              intro xσ26
              by_cases hc17 : r27 ≠ 0
              · rw [if_pos hc17]
                unfold w_X6_next_194
                intro σ29 eσ29
                have xσ29 : Ext σ22 σ29 := by rw [eσ29]; exact fun _ h => ⟨h, rfl, rfl⟩
                have iσ29 : IV σ29 pl gq ci gr nc ot LL N nu := by rw [eσ29]; exact iσ22.wO (kth.up (xτ2.trans (xσ19.trans xσ22))) (by decide) (rngb (by first | exact rng_wr _ | (first | omega | with_reducible assumption | with_reducible exact rng_toInt _ | with_reducible exact rng_wr _ | (unfold rng; omega) | (unfold rng at *; omega) | assumption)))
                have fσ29 : Fx [386, 387, 388, 389, 390] gr σ σ29 := fσ22.tr (Sk.fx (by rw [eσ29]; exact Sk.pI (by rw [fcdO (kth.up (xτ2.trans (xσ19.trans xσ22))) (by decide)]; decide)))
                have wσ29 : gI σ29 th 3 = 5 := by rw [eσ29]; exact up2_s _ _ _ _
                have kp18 : gI σ29 th 1 = gI σ22 th 1 := by rw [eσ29]; exact up2_n _ _ (fun q => absurd q.2 (by decide))
                have kp19 : gI σ29 th 2 = gI σ22 th 2 := by rw [eσ29]; exact up2_n _ _ (fun q => absurd q.2 (by decide))
                have kp20 : gI σ29 th 5 = gI σ22 th 5 := by rw [eσ29]; exact up2_n _ _ (fun q => absurd q.2 (by decide))
                have kp21 : gP σ29 th 0 = gP σ22 th 0 := by rw [eσ29]
                refine ⟨by (first | omega | with_reducible assumption | with_reducible exact rng_toInt _ | with_reducible exact rng_wr _ | (unfold rng; omega) | (unfold rng at *; omega) | assumption), ?_⟩
                intro σ30 eσ30
                have xσ30 : Ext σ29 σ30 := by rw [eσ30]; exact fun _ h => ⟨h, rfl, rfl⟩
                have iσ30 : IV σ30 pl gq ci gr nc ot LL N nu := by rw [eσ30]; exact iσ29.wO (kth.up (xτ2.trans (xσ19.trans (xσ22.trans xσ29)))) (by decide) (show (0 : Int) ≤ (gI σ29 th 2 + 1) ∧ (gI σ29 th 2 + 1) ≤ 1500 from ⟨by (first | omega | with_reducible assumption | with_reducible exact rng_toInt _ | with_reducible exact rng_wr _ | (unfold rng; omega) | (unfold rng at *; omega) | assumption), by (first | omega | with_reducible assumption | with_reducible exact rng_toInt _ | with_reducible exact rng_wr _ | (unfold rng; omega) | (unfold rng at *; omega) | assumption)⟩)
                have fσ30 : Fx [386, 387, 388, 389, 390] gr σ σ30 := fσ29.tr (Sk.fx (by rw [eσ30]; exact Sk.pI (by rw [fcdO (kth.up (xτ2.trans (xσ19.trans (xσ22.trans xσ29)))) (by decide)]; decide)))
                have wσ30 : gI σ30 th 2 = (gI σ29 th 2 + 1) := by rw [eσ30]; exact up2_s _ _ _ _
                have kp22 : gI σ30 th 1 = gI σ29 th 1 := by rw [eσ30]; exact up2_n _ _ (fun q => absurd q.2 (by decide))
                have kp23 : gI σ30 th 3 = gI σ29 th 3 := by rw [eσ30]; exact up2_n _ _ (fun q => absurd q.2 (by decide))
                have kp24 : gI σ30 th 5 = gI σ29 th 5 := by rw [eσ30]; exact up2_n _ _ (fun q => absurd q.2 (by decide))
                have kp25 : gP σ30 th 0 = gP σ29 th 0 := by rw [eσ30]
                unfold w_X6_next_209
                exact hQ σ30 () iσ30 fσ30 (⟨by first | exact kvw | exact fun e => absurd e (by omega), by omega⟩)
              · rw [if_neg hc17]
                have hc17q := Classical.not_not.mp hc17
                unfold w_X6_next_189
                refine i_X6_refuse iσ22 (kth.up (xτ2.trans (xσ19.trans xσ22))) (by (first | omega | with_reducible assumption | with_reducible exact rng_toInt _ | with_reducible exact rng_wr _ | (unfold rng; omega) | (unfold rng at *; omega) | assumption)) (by (first | omega | with_reducible assumption | with_reducible exact rng_toInt _ | with_reducible exact rng_wr _ | (unfold rng; omega) | (unfold rng at *; omega) | assumption)) (by (first | omega | with_reducible assumption | with_reducible exact rng_toInt _ | with_reducible exact rng_wr _ | (unfold rng; omega) | (unfold rng at *; omega) | assumption)) (fun σ28 _ iσ28 cσ28 pσ28 => ?_) (fun σx LLx Nx nux E ix cx ux px => hX σx LLx Nx nux E ix (fσ22.tr (cx.mo (by decide))) (ux) (by first | exact px | exact ⟨by have := px.1; omega, px.2⟩ | (first | omega | with_reducible assumption | with_reducible exact rng_toInt _ | with_reducible exact rng_wr _ | (unfold rng; omega) | (unfold rng at *; omega) | assumption)))
                intro xσ28
                exact pσ28.elim
            · rw [if_neg hc16]
              unfold w_X6_next_141
              by_cases hc26 : gJ σ22 th 4 > 57
              · rw [if_pos hc26]
                unfold w_X6_next_178
                refine i_X6_isSignByte iσ22 (fun r27_1 pσ26_1 => ?_)
                intro xσ26_1
                by_cases hc27 : r27_1 ≠ 0
                · rw [if_pos hc27]
                  unfold w_X6_next_194
                  intro σ29_1 eσ29_1
                  have xσ29_1 : Ext σ22 σ29_1 := by rw [eσ29_1]; exact fun _ h => ⟨h, rfl, rfl⟩
                  have iσ29_1 : IV σ29_1 pl gq ci gr nc ot LL N nu := by rw [eσ29_1]; exact iσ22.wO (kth.up (xτ2.trans (xσ19.trans xσ22))) (by decide) (rngb (by first | exact rng_wr _ | (first | omega | with_reducible assumption | with_reducible exact rng_toInt _ | with_reducible exact rng_wr _ | (unfold rng; omega) | (unfold rng at *; omega) | assumption)))
                  have fσ29_1 : Fx [386, 387, 388, 389, 390] gr σ σ29_1 := fσ22.tr (Sk.fx (by rw [eσ29_1]; exact Sk.pI (by rw [fcdO (kth.up (xτ2.trans (xσ19.trans xσ22))) (by decide)]; decide)))
                  have wσ29_1 : gI σ29_1 th 3 = 5 := by rw [eσ29_1]; exact up2_s _ _ _ _
                  have kp28 : gI σ29_1 th 1 = gI σ22 th 1 := by rw [eσ29_1]; exact up2_n _ _ (fun q => absurd q.2 (by decide))
                  have kp29 : gI σ29_1 th 2 = gI σ22 th 2 := by rw [eσ29_1]; exact up2_n _ _ (fun q => absurd q.2 (by decide))
                  have kp30 : gI σ29_1 th 5 = gI σ22 th 5 := by rw [eσ29_1]; exact up2_n _ _ (fun q => absurd q.2 (by decide))
                  have kp31 : gP σ29_1 th 0 = gP σ22 th 0 := by rw [eσ29_1]
                  refine ⟨by (first | omega | with_reducible assumption | with_reducible exact rng_toInt _ | with_reducible exact rng_wr _ | (unfold rng; omega) | (unfold rng at *; omega) | assumption), ?_⟩
                  intro σ30_1 eσ30_1
                  have xσ30_1 : Ext σ29_1 σ30_1 := by rw [eσ30_1]; exact fun _ h => ⟨h, rfl, rfl⟩
                  have iσ30_1 : IV σ30_1 pl gq ci gr nc ot LL N nu := by rw [eσ30_1]; exact iσ29_1.wO (kth.up (xτ2.trans (xσ19.trans (xσ22.trans xσ29_1)))) (by decide) (show (0 : Int) ≤ (gI σ29_1 th 2 + 1) ∧ (gI σ29_1 th 2 + 1) ≤ 1500 from ⟨by (first | omega | with_reducible assumption | with_reducible exact rng_toInt _ | with_reducible exact rng_wr _ | (unfold rng; omega) | (unfold rng at *; omega) | assumption), by (first | omega | with_reducible assumption | with_reducible exact rng_toInt _ | with_reducible exact rng_wr _ | (unfold rng; omega) | (unfold rng at *; omega) | assumption)⟩)
                  have fσ30_1 : Fx [386, 387, 388, 389, 390] gr σ σ30_1 := fσ29_1.tr (Sk.fx (by rw [eσ30_1]; exact Sk.pI (by rw [fcdO (kth.up (xτ2.trans (xσ19.trans (xσ22.trans xσ29_1)))) (by decide)]; decide)))
                  have wσ30_1 : gI σ30_1 th 2 = (gI σ29_1 th 2 + 1) := by rw [eσ30_1]; exact up2_s _ _ _ _
                  have kp32 : gI σ30_1 th 1 = gI σ29_1 th 1 := by rw [eσ30_1]; exact up2_n _ _ (fun q => absurd q.2 (by decide))
                  have kp33 : gI σ30_1 th 3 = gI σ29_1 th 3 := by rw [eσ30_1]; exact up2_n _ _ (fun q => absurd q.2 (by decide))
                  have kp34 : gI σ30_1 th 5 = gI σ29_1 th 5 := by rw [eσ30_1]; exact up2_n _ _ (fun q => absurd q.2 (by decide))
                  have kp35 : gP σ30_1 th 0 = gP σ29_1 th 0 := by rw [eσ30_1]
                  unfold w_X6_next_209
                  exact hQ σ30_1 () iσ30_1 fσ30_1 (⟨by first | exact kvw | exact fun e => absurd e (by omega), by omega⟩)
                · rw [if_neg hc27]
                  have hc27q := Classical.not_not.mp hc27
                  unfold w_X6_next_189
                  refine i_X6_refuse iσ22 (kth.up (xτ2.trans (xσ19.trans xσ22))) (by (first | omega | with_reducible assumption | with_reducible exact rng_toInt _ | with_reducible exact rng_wr _ | (unfold rng; omega) | (unfold rng at *; omega) | assumption)) (by (first | omega | with_reducible assumption | with_reducible exact rng_toInt _ | with_reducible exact rng_wr _ | (unfold rng; omega) | (unfold rng at *; omega) | assumption)) (by (first | omega | with_reducible assumption | with_reducible exact rng_toInt _ | with_reducible exact rng_wr _ | (unfold rng; omega) | (unfold rng at *; omega) | assumption)) (fun σ28_1 _ iσ28_1 cσ28_1 pσ28_1 => ?_) (fun σx LLx Nx nux E ix cx ux px => hX σx LLx Nx nux E ix (fσ22.tr (cx.mo (by decide))) (ux) (by first | exact px | exact ⟨by have := px.1; omega, px.2⟩ | (first | omega | with_reducible assumption | with_reducible exact rng_toInt _ | with_reducible exact rng_wr _ | (unfold rng; omega) | (unfold rng at *; omega) | assumption)))
                  intro xσ28_1
                  exact pσ28_1.elim
              · rw [if_neg hc26]
                unfold w_X6_next_152
                refine i_X6_digits iσ22 (kth.up (xτ2.trans (xσ19.trans xσ22))) (kp13.trans (kp5.trans (kp1.trans hX0))) (kX.up (xτ2.trans (xσ19.trans xσ22))) (((xτ2.trans (xσ19.trans xσ22)) tx kX.1).2.2.trans gX) (by omega) (by rw [xk22]; have a9 := ge64 (a := 48) r22 (by rw [← v22]; assumption); have b9 := le64 (a := 57) r22 (by rw [← v22]; assumption); have c9 : (48 : Int64).toInt = 48 := rfl; have d9 : (57 : Int64).toInt = 57 := rfl; omega) (fun σ24 _ iσ24 cσ24 pσ24 => ?_)
                intro xσ24
                have fσ24 : Fx [386, 387, 388, 389, 390] gr σ σ24 := fσ22.tr (cσ24.mo (by decide))
                have kp36 : gI σ24 th 1 = gI σ22 th 1 := (cσ24.O (kth.up (xτ2.trans (xσ19.trans xσ22))) (by decide)).1
                have kp37 : gI σ24 th 5 = gI σ22 th 5 := (cσ24.O (kth.up (xτ2.trans (xσ19.trans xσ22))) (by decide)).1
                have kp38 : gP σ24 th 0 = gP σ22 th 0 := (cσ24.O (kth.up (xτ2.trans (xσ19.trans xσ22))) (by decide)).2.1
                have q39 := I_6_2 iσ24.1 (kth.up (xτ2.trans (xσ19.trans (xσ22.trans xσ24))))
                refine ⟨by (first | omega | with_reducible assumption | with_reducible exact rng_toInt _ | with_reducible exact rng_wr _ | (unfold rng; omega) | (unfold rng at *; omega) | assumption), ?_⟩
                by_cases hc40 : (gI σ24 th 2 - gI σ24 th 5) ≤ 18
                · rw [if_pos hc40]
                  unfold w_X6_next_209
                  exact hQ σ24 () iσ24 fσ24 (⟨by first | exact kvw | exact fun e => absurd e (by omega), by omega⟩)
                · rw [if_neg hc40]
                  unfold w_X6_next_170
                  refine i_X6_refuse iσ24 (kth.up (xτ2.trans (xσ19.trans (xσ22.trans xσ24)))) (by (first | omega | with_reducible assumption | with_reducible exact rng_toInt _ | with_reducible exact rng_wr _ | (unfold rng; omega) | (unfold rng at *; omega) | assumption)) (by (first | omega | with_reducible assumption | with_reducible exact rng_toInt _ | with_reducible exact rng_wr _ | (unfold rng; omega) | (unfold rng at *; omega) | assumption)) (by (first | omega | with_reducible assumption | with_reducible exact rng_toInt _ | with_reducible exact rng_wr _ | (unfold rng; omega) | (unfold rng at *; omega) | assumption)) (fun σ25 _ iσ25 cσ25 pσ25 => ?_) (fun σx LLx Nx nux E ix cx ux px => hX σx LLx Nx nux E ix (fσ24.tr (cx.mo (by decide))) (ux) (by first | exact px | exact ⟨by have := px.1; omega, px.2⟩ | (first | omega | with_reducible assumption | with_reducible exact rng_toInt _ | with_reducible exact rng_wr _ | (unfold rng; omega) | (unfold rng at *; omega) | assumption)))
                  intro xσ25
                  exact pσ25.elim
          · rw [if_neg hc15]
            unfold w_X6_next_112
            by_cases hc41 : gJ σ22 th 4 > 122
            · rw [if_pos hc41]
              unfold w_X6_next_130
              by_cases hc42 : gJ σ22 th 4 < 48
              · rw [if_pos hc42]
                unfold w_X6_next_178
                refine i_X6_isSignByte iσ22 (fun r27_2 pσ26_2 => ?_)
                intro xσ26_2
                by_cases hc43 : r27_2 ≠ 0
                · rw [if_pos hc43]
                  unfold w_X6_next_194
                  intro σ29_2 eσ29_2
                  have xσ29_2 : Ext σ22 σ29_2 := by rw [eσ29_2]; exact fun _ h => ⟨h, rfl, rfl⟩
                  have iσ29_2 : IV σ29_2 pl gq ci gr nc ot LL N nu := by rw [eσ29_2]; exact iσ22.wO (kth.up (xτ2.trans (xσ19.trans xσ22))) (by decide) (rngb (by first | exact rng_wr _ | (first | omega | with_reducible assumption | with_reducible exact rng_toInt _ | with_reducible exact rng_wr _ | (unfold rng; omega) | (unfold rng at *; omega) | assumption)))
                  have fσ29_2 : Fx [386, 387, 388, 389, 390] gr σ σ29_2 := fσ22.tr (Sk.fx (by rw [eσ29_2]; exact Sk.pI (by rw [fcdO (kth.up (xτ2.trans (xσ19.trans xσ22))) (by decide)]; decide)))
                  have wσ29_2 : gI σ29_2 th 3 = 5 := by rw [eσ29_2]; exact up2_s _ _ _ _
                  have kp44 : gI σ29_2 th 1 = gI σ22 th 1 := by rw [eσ29_2]; exact up2_n _ _ (fun q => absurd q.2 (by decide))
                  have kp45 : gI σ29_2 th 2 = gI σ22 th 2 := by rw [eσ29_2]; exact up2_n _ _ (fun q => absurd q.2 (by decide))
                  have kp46 : gI σ29_2 th 5 = gI σ22 th 5 := by rw [eσ29_2]; exact up2_n _ _ (fun q => absurd q.2 (by decide))
                  have kp47 : gP σ29_2 th 0 = gP σ22 th 0 := by rw [eσ29_2]
                  refine ⟨by (first | omega | with_reducible assumption | with_reducible exact rng_toInt _ | with_reducible exact rng_wr _ | (unfold rng; omega) | (unfold rng at *; omega) | assumption), ?_⟩
                  intro σ30_2 eσ30_2
                  have xσ30_2 : Ext σ29_2 σ30_2 := by rw [eσ30_2]; exact fun _ h => ⟨h, rfl, rfl⟩
                  have iσ30_2 : IV σ30_2 pl gq ci gr nc ot LL N nu := by rw [eσ30_2]; exact iσ29_2.wO (kth.up (xτ2.trans (xσ19.trans (xσ22.trans xσ29_2)))) (by decide) (show (0 : Int) ≤ (gI σ29_2 th 2 + 1) ∧ (gI σ29_2 th 2 + 1) ≤ 1500 from ⟨by (first | omega | with_reducible assumption | with_reducible exact rng_toInt _ | with_reducible exact rng_wr _ | (unfold rng; omega) | (unfold rng at *; omega) | assumption), by (first | omega | with_reducible assumption | with_reducible exact rng_toInt _ | with_reducible exact rng_wr _ | (unfold rng; omega) | (unfold rng at *; omega) | assumption)⟩)
                  have fσ30_2 : Fx [386, 387, 388, 389, 390] gr σ σ30_2 := fσ29_2.tr (Sk.fx (by rw [eσ30_2]; exact Sk.pI (by rw [fcdO (kth.up (xτ2.trans (xσ19.trans (xσ22.trans xσ29_2)))) (by decide)]; decide)))
                  have wσ30_2 : gI σ30_2 th 2 = (gI σ29_2 th 2 + 1) := by rw [eσ30_2]; exact up2_s _ _ _ _
                  have kp48 : gI σ30_2 th 1 = gI σ29_2 th 1 := by rw [eσ30_2]; exact up2_n _ _ (fun q => absurd q.2 (by decide))
                  have kp49 : gI σ30_2 th 3 = gI σ29_2 th 3 := by rw [eσ30_2]; exact up2_n _ _ (fun q => absurd q.2 (by decide))
                  have kp50 : gI σ30_2 th 5 = gI σ29_2 th 5 := by rw [eσ30_2]; exact up2_n _ _ (fun q => absurd q.2 (by decide))
                  have kp51 : gP σ30_2 th 0 = gP σ29_2 th 0 := by rw [eσ30_2]
                  unfold w_X6_next_209
                  exact hQ σ30_2 () iσ30_2 fσ30_2 (⟨by first | exact kvw | exact fun e => absurd e (by omega), by omega⟩)
                · rw [if_neg hc43]
                  have hc43q := Classical.not_not.mp hc43
                  unfold w_X6_next_189
                  refine i_X6_refuse iσ22 (kth.up (xτ2.trans (xσ19.trans xσ22))) (by (first | omega | with_reducible assumption | with_reducible exact rng_toInt _ | with_reducible exact rng_wr _ | (unfold rng; omega) | (unfold rng at *; omega) | assumption)) (by (first | omega | with_reducible assumption | with_reducible exact rng_toInt _ | with_reducible exact rng_wr _ | (unfold rng; omega) | (unfold rng at *; omega) | assumption)) (by (first | omega | with_reducible assumption | with_reducible exact rng_toInt _ | with_reducible exact rng_wr _ | (unfold rng; omega) | (unfold rng at *; omega) | assumption)) (fun σ28_2 _ iσ28_2 cσ28_2 pσ28_2 => ?_) (fun σx LLx Nx nux E ix cx ux px => hX σx LLx Nx nux E ix (fσ22.tr (cx.mo (by decide))) (ux) (by first | exact px | exact ⟨by have := px.1; omega, px.2⟩ | (first | omega | with_reducible assumption | with_reducible exact rng_toInt _ | with_reducible exact rng_wr _ | (unfold rng; omega) | (unfold rng at *; omega) | assumption)))
                  intro xσ28_2
                  exact pσ28_2.elim
              · rw [if_neg hc42]
                unfold w_X6_next_141
                by_cases hc52 : gJ σ22 th 4 > 57
                · rw [if_pos hc52]
                  unfold w_X6_next_178
                  refine i_X6_isSignByte iσ22 (fun r27_3 pσ26_3 => ?_)
                  intro xσ26_3
                  by_cases hc53 : r27_3 ≠ 0
                  · rw [if_pos hc53]
                    unfold w_X6_next_194
                    intro σ29_3 eσ29_3
                    have xσ29_3 : Ext σ22 σ29_3 := by rw [eσ29_3]; exact fun _ h => ⟨h, rfl, rfl⟩
                    have iσ29_3 : IV σ29_3 pl gq ci gr nc ot LL N nu := by rw [eσ29_3]; exact iσ22.wO (kth.up (xτ2.trans (xσ19.trans xσ22))) (by decide) (rngb (by first | exact rng_wr _ | (first | omega | with_reducible assumption | with_reducible exact rng_toInt _ | with_reducible exact rng_wr _ | (unfold rng; omega) | (unfold rng at *; omega) | assumption)))
                    have fσ29_3 : Fx [386, 387, 388, 389, 390] gr σ σ29_3 := fσ22.tr (Sk.fx (by rw [eσ29_3]; exact Sk.pI (by rw [fcdO (kth.up (xτ2.trans (xσ19.trans xσ22))) (by decide)]; decide)))
                    have wσ29_3 : gI σ29_3 th 3 = 5 := by rw [eσ29_3]; exact up2_s _ _ _ _
                    have kp54 : gI σ29_3 th 1 = gI σ22 th 1 := by rw [eσ29_3]; exact up2_n _ _ (fun q => absurd q.2 (by decide))
                    have kp55 : gI σ29_3 th 2 = gI σ22 th 2 := by rw [eσ29_3]; exact up2_n _ _ (fun q => absurd q.2 (by decide))
                    have kp56 : gI σ29_3 th 5 = gI σ22 th 5 := by rw [eσ29_3]; exact up2_n _ _ (fun q => absurd q.2 (by decide))
                    have kp57 : gP σ29_3 th 0 = gP σ22 th 0 := by rw [eσ29_3]
                    refine ⟨by (first | omega | with_reducible assumption | with_reducible exact rng_toInt _ | with_reducible exact rng_wr _ | (unfold rng; omega) | (unfold rng at *; omega) | assumption), ?_⟩
                    intro σ30_3 eσ30_3
                    have xσ30_3 : Ext σ29_3 σ30_3 := by rw [eσ30_3]; exact fun _ h => ⟨h, rfl, rfl⟩
                    have iσ30_3 : IV σ30_3 pl gq ci gr nc ot LL N nu := by rw [eσ30_3]; exact iσ29_3.wO (kth.up (xτ2.trans (xσ19.trans (xσ22.trans xσ29_3)))) (by decide) (show (0 : Int) ≤ (gI σ29_3 th 2 + 1) ∧ (gI σ29_3 th 2 + 1) ≤ 1500 from ⟨by (first | omega | with_reducible assumption | with_reducible exact rng_toInt _ | with_reducible exact rng_wr _ | (unfold rng; omega) | (unfold rng at *; omega) | assumption), by (first | omega | with_reducible assumption | with_reducible exact rng_toInt _ | with_reducible exact rng_wr _ | (unfold rng; omega) | (unfold rng at *; omega) | assumption)⟩)
                    have fσ30_3 : Fx [386, 387, 388, 389, 390] gr σ σ30_3 := fσ29_3.tr (Sk.fx (by rw [eσ30_3]; exact Sk.pI (by rw [fcdO (kth.up (xτ2.trans (xσ19.trans (xσ22.trans xσ29_3)))) (by decide)]; decide)))
                    have wσ30_3 : gI σ30_3 th 2 = (gI σ29_3 th 2 + 1) := by rw [eσ30_3]; exact up2_s _ _ _ _
                    have kp58 : gI σ30_3 th 1 = gI σ29_3 th 1 := by rw [eσ30_3]; exact up2_n _ _ (fun q => absurd q.2 (by decide))
                    have kp59 : gI σ30_3 th 3 = gI σ29_3 th 3 := by rw [eσ30_3]; exact up2_n _ _ (fun q => absurd q.2 (by decide))
                    have kp60 : gI σ30_3 th 5 = gI σ29_3 th 5 := by rw [eσ30_3]; exact up2_n _ _ (fun q => absurd q.2 (by decide))
                    have kp61 : gP σ30_3 th 0 = gP σ29_3 th 0 := by rw [eσ30_3]
                    unfold w_X6_next_209
                    exact hQ σ30_3 () iσ30_3 fσ30_3 (⟨by first | exact kvw | exact fun e => absurd e (by omega), by omega⟩)
                  · rw [if_neg hc53]
                    have hc53q := Classical.not_not.mp hc53
                    unfold w_X6_next_189
                    refine i_X6_refuse iσ22 (kth.up (xτ2.trans (xσ19.trans xσ22))) (by (first | omega | with_reducible assumption | with_reducible exact rng_toInt _ | with_reducible exact rng_wr _ | (unfold rng; omega) | (unfold rng at *; omega) | assumption)) (by (first | omega | with_reducible assumption | with_reducible exact rng_toInt _ | with_reducible exact rng_wr _ | (unfold rng; omega) | (unfold rng at *; omega) | assumption)) (by (first | omega | with_reducible assumption | with_reducible exact rng_toInt _ | with_reducible exact rng_wr _ | (unfold rng; omega) | (unfold rng at *; omega) | assumption)) (fun σ28_3 _ iσ28_3 cσ28_3 pσ28_3 => ?_) (fun σx LLx Nx nux E ix cx ux px => hX σx LLx Nx nux E ix (fσ22.tr (cx.mo (by decide))) (ux) (by first | exact px | exact ⟨by have := px.1; omega, px.2⟩ | (first | omega | with_reducible assumption | with_reducible exact rng_toInt _ | with_reducible exact rng_wr _ | (unfold rng; omega) | (unfold rng at *; omega) | assumption)))
                    intro xσ28_3
                    exact pσ28_3.elim
                · rw [if_neg hc52]
                  unfold w_X6_next_152
                  refine i_X6_digits iσ22 (kth.up (xτ2.trans (xσ19.trans xσ22))) (kp13.trans (kp5.trans (kp1.trans hX0))) (kX.up (xτ2.trans (xσ19.trans xσ22))) (((xτ2.trans (xσ19.trans xσ22)) tx kX.1).2.2.trans gX) (by omega) (by rw [xk22]; have a9 := ge64 (a := 48) r22 (by rw [← v22]; assumption); have b9 := le64 (a := 57) r22 (by rw [← v22]; assumption); have c9 : (48 : Int64).toInt = 48 := rfl; have d9 : (57 : Int64).toInt = 57 := rfl; omega) (fun σ24_1 _ iσ24_1 cσ24_1 pσ24_1 => ?_)
                  intro xσ24_1
                  have fσ24_1 : Fx [386, 387, 388, 389, 390] gr σ σ24_1 := fσ22.tr (cσ24_1.mo (by decide))
                  have kp62 : gI σ24_1 th 1 = gI σ22 th 1 := (cσ24_1.O (kth.up (xτ2.trans (xσ19.trans xσ22))) (by decide)).1
                  have kp63 : gI σ24_1 th 5 = gI σ22 th 5 := (cσ24_1.O (kth.up (xτ2.trans (xσ19.trans xσ22))) (by decide)).1
                  have kp64 : gP σ24_1 th 0 = gP σ22 th 0 := (cσ24_1.O (kth.up (xτ2.trans (xσ19.trans xσ22))) (by decide)).2.1
                  have q65 := I_6_2 iσ24_1.1 (kth.up (xτ2.trans (xσ19.trans (xσ22.trans xσ24_1))))
                  refine ⟨by (first | omega | with_reducible assumption | with_reducible exact rng_toInt _ | with_reducible exact rng_wr _ | (unfold rng; omega) | (unfold rng at *; omega) | assumption), ?_⟩
                  by_cases hc66 : (gI σ24_1 th 2 - gI σ24_1 th 5) ≤ 18
                  · rw [if_pos hc66]
                    unfold w_X6_next_209
                    exact hQ σ24_1 () iσ24_1 fσ24_1 (⟨by first | exact kvw | exact fun e => absurd e (by omega), by omega⟩)
                  · rw [if_neg hc66]
                    unfold w_X6_next_170
                    refine i_X6_refuse iσ24_1 (kth.up (xτ2.trans (xσ19.trans (xσ22.trans xσ24_1)))) (by (first | omega | with_reducible assumption | with_reducible exact rng_toInt _ | with_reducible exact rng_wr _ | (unfold rng; omega) | (unfold rng at *; omega) | assumption)) (by (first | omega | with_reducible assumption | with_reducible exact rng_toInt _ | with_reducible exact rng_wr _ | (unfold rng; omega) | (unfold rng at *; omega) | assumption)) (by (first | omega | with_reducible assumption | with_reducible exact rng_toInt _ | with_reducible exact rng_wr _ | (unfold rng; omega) | (unfold rng at *; omega) | assumption)) (fun σ25_1 _ iσ25_1 cσ25_1 pσ25_1 => ?_) (fun σx LLx Nx nux E ix cx ux px => hX σx LLx Nx nux E ix (fσ24_1.tr (cx.mo (by decide))) (ux) (by first | exact px | exact ⟨by have := px.1; omega, px.2⟩ | (first | omega | with_reducible assumption | with_reducible exact rng_toInt _ | with_reducible exact rng_wr _ | (unfold rng; omega) | (unfold rng at *; omega) | assumption)))
                    intro xσ25_1
                    exact pσ25_1.elim
            · rw [if_neg hc41]
              unfold w_X6_next_123
              refine i_X6_word iσ22 (kth.up (xτ2.trans (xσ19.trans xσ22))) (kp13.trans (kp5.trans (kp1.trans hX0))) (kX.up (xτ2.trans (xσ19.trans xσ22))) (((xτ2.trans (xσ19.trans xσ22)) tx kX.1).2.2.trans gX) (by omega) (by rw [xk22]; have a9 := ge64 (a := 97) r22 (by rw [← v22]; assumption); have b9 := le64 (a := 122) r22 (by rw [← v22]; assumption); have c9 : (97 : Int64).toInt = 97 := rfl; have d9 : (122 : Int64).toInt = 122 := rfl; omega) (fun σ23 _ iσ23 cσ23 pσ23 => ?_)
              intro xσ23
              have fσ23 : Fx [386, 387, 388, 389, 390] gr σ σ23 := fσ22.tr (cσ23.mo (by decide))
              have kp67 : gI σ23 th 1 = gI σ22 th 1 := (cσ23.O (kth.up (xτ2.trans (xσ19.trans xσ22))) (by decide)).1
              have kp68 : gI σ23 th 5 = gI σ22 th 5 := (cσ23.O (kth.up (xτ2.trans (xσ19.trans xσ22))) (by decide)).1
              have kp69 : gP σ23 th 0 = gP σ22 th 0 := (cσ23.O (kth.up (xτ2.trans (xσ19.trans xσ22))) (by decide)).2.1
              have kvw := pσ23.1
              unfold w_X6_next_209
              exact hQ σ23 () iσ23 fσ23 (⟨by first | exact kvw | exact fun e => absurd e (by omega), by omega⟩)
        · rw [if_neg hc7]
          unfold w_X6_next_81
          intro σ20 eσ20
          have xσ20 : Ext σ19 σ20 := by rw [eσ20]; exact fun _ h => ⟨h, rfl, rfl⟩
          have iσ20 : IV σ20 pl gq ci gr nc ot LL N nu := by rw [eσ20]; exact iσ19.wO (kth.up (xτ2.trans xσ19)) (by decide) (rngb (by first | exact rng_wr _ | (first | omega | with_reducible assumption | with_reducible exact rng_toInt _ | with_reducible exact rng_wr _ | (unfold rng; omega) | (unfold rng at *; omega) | assumption)))
          have fσ20 : Fx [386, 387, 388, 389, 390] gr σ σ20 := fσ19.tr (Sk.fx (by rw [eσ20]; exact Sk.pI (by rw [fcdO (kth.up (xτ2.trans xσ19)) (by decide)]; decide)))
          have wσ20 : gI σ20 th 3 = 0 := by rw [eσ20]; exact up2_s _ _ _ _
          have kp70 : gI σ20 th 1 = gI σ19 th 1 := by rw [eσ20]; exact up2_n _ _ (fun q => absurd q.2 (by decide))
          have kp71 : gI σ20 th 2 = gI σ19 th 2 := by rw [eσ20]; exact up2_n _ _ (fun q => absurd q.2 (by decide))
          have kp72 : gI σ20 th 5 = gI σ19 th 5 := by rw [eσ20]; exact up2_n _ _ (fun q => absurd q.2 (by decide))
          have kp73 : gP σ20 th 0 = gP σ19 th 0 := by rw [eσ20]
          exact hQ σ20 () iσ20 fσ20 (⟨by first | exact kvw | exact fun e => absurd e (by omega), by omega⟩)
      · rw [if_neg hc2]
        unfold w_X6_next_9
        have q75 := I_6_2 iτ2.1 (kth.up xτ2)
        have q76 := I_6_1 iτ2.1 (kth.up xτ2)
        by_cases hc74 : gI τ2 th 2 ≥ gI τ2 th 1
        · rw [if_pos hc74]
          unfold w_X6_next_62
          intro σ19_1 eσ19_1
          have xσ19_1 : Ext τ2 σ19_1 := by rw [eσ19_1]; exact fun _ h => ⟨h, rfl, rfl⟩
          have iσ19_1 : IV σ19_1 pl gq ci gr nc ot LL N nu := by rw [eσ19_1]; exact iτ2.wO (kth.up xτ2) (by decide) (show (0 : Int) ≤ (gI τ2 th 2) ∧ (gI τ2 th 2) ≤ 1500 from ⟨by (first | omega | with_reducible assumption | with_reducible exact rng_toInt _ | with_reducible exact rng_wr _ | (unfold rng; omega) | (unfold rng at *; omega) | assumption), by (first | omega | with_reducible assumption | with_reducible exact rng_toInt _ | with_reducible exact rng_wr _ | (unfold rng; omega) | (unfold rng at *; omega) | assumption)⟩)
          have fσ19_1 : Fx [386, 387, 388, 389, 390] gr σ σ19_1 := fτ2.tr (Sk.fx (by rw [eσ19_1]; exact Sk.pI (by rw [fcdO (kth.up xτ2) (by decide)]; decide)))
          have wσ19_1 : gI σ19_1 th 5 = (gI τ2 th 2) := by rw [eσ19_1]; exact up2_s _ _ _ _
          have kp77 : gI σ19_1 th 1 = gI τ2 th 1 := by rw [eσ19_1]; exact up2_n _ _ (fun q => absurd q.2 (by decide))
          have kp78 : gI σ19_1 th 2 = gI τ2 th 2 := by rw [eσ19_1]; exact up2_n _ _ (fun q => absurd q.2 (by decide))
          have kp79 : gP σ19_1 th 0 = gP τ2 th 0 := by rw [eσ19_1]
          have kp80 : gI σ19_1 th 3 = gI τ2 th 3 := by rw [eσ19_1]; exact up2_n _ _ (fun q => absurd q.2 (by decide))
          by_cases hc81 : gI σ19_1 th 2 < gI σ19_1 th 1
          · rw [if_pos hc81]
            unfold w_X6_next_87
            refine ⟨tx, (kp79.trans (kp1.trans hX0)), fun kk_tx_1 => ?_⟩
            have q82 := ((xτ2.trans xσ19_1) tx kX.1).2.2
            refine ⟨⟨by (first | omega | with_reducible assumption | with_reducible exact rng_toInt _ | with_reducible exact rng_wr _ | (unfold rng; omega) | (unfold rng at *; omega) | assumption), by (first | omega | with_reducible assumption | with_reducible exact rng_toInt _ | with_reducible exact rng_wr _ | (unfold rng; omega) | (unfold rng at *; omega) | assumption)⟩, ?_⟩
            intro σ22_1 eσ22_1
            have xσ22_1 : Ext σ19_1 σ22_1 := by rw [eσ22_1]; exact fun _ h => ⟨h, rfl, rfl⟩
            have iσ22_1 : IV σ22_1 pl gq ci gr nc ot LL N nu := by rw [eσ22_1]; exact iσ19_1.wJ (kth.up (xτ2.trans xσ19_1)) (by decide)
            have fσ22_1 : Fx [386, 387, 388, 389, 390] gr σ σ22_1 := fσ19_1.tr (Sk.fx (by rw [eσ22_1]; exact Sk.pJ (by rw [fcdO (kth.up (xτ2.trans xσ19_1)) (by decide)]; decide)))
            have kp83 : gI σ22_1 th 1 = gI σ19_1 th 1 := by rw [eσ22_1]
            have kp84 : gI σ22_1 th 2 = gI σ19_1 th 2 := by rw [eσ22_1]
            have kp85 : gI σ22_1 th 5 = gI σ19_1 th 5 := by rw [eσ22_1]
            have kp86 : gP σ22_1 th 0 = gP σ19_1 th 0 := by rw [eσ22_1]
            have kp87 : gI σ22_1 th 3 = gI σ19_1 th 3 := by rw [eσ22_1]
            have v22 : gJ σ22_1 th 4 = Int64.ofInt (gI σ19_1 tx (gI σ19_1 th 2).toNat) := by rw [eσ22_1]; exact up2_s _ _ _ _
            have r22 := iσ19_1.rg tx (gI σ19_1 th 2).toNat
            have xk22 : gI σ22_1 tx (gI σ22_1 th 2).toNat = gI σ19_1 tx (gI σ19_1 th 2).toNat := by rw [eσ22_1]
            by_cases hc88 : gJ σ22_1 th 4 < 97
            · rw [if_pos hc88]
              unfold w_X6_next_130
              by_cases hc89 : gJ σ22_1 th 4 < 48
              · rw [if_pos hc89]
                unfold w_X6_next_178
                refine i_X6_isSignByte iσ22_1 (fun r27_4 pσ26_4 => ?_)
                intro xσ26_4
                by_cases hc90 : r27_4 ≠ 0
                · rw [if_pos hc90]
                  unfold w_X6_next_194
                  intro σ29_4 eσ29_4
                  have xσ29_4 : Ext σ22_1 σ29_4 := by rw [eσ29_4]; exact fun _ h => ⟨h, rfl, rfl⟩
                  have iσ29_4 : IV σ29_4 pl gq ci gr nc ot LL N nu := by rw [eσ29_4]; exact iσ22_1.wO (kth.up (xτ2.trans (xσ19_1.trans xσ22_1))) (by decide) (rngb (by first | exact rng_wr _ | (first | omega | with_reducible assumption | with_reducible exact rng_toInt _ | with_reducible exact rng_wr _ | (unfold rng; omega) | (unfold rng at *; omega) | assumption)))
                  have fσ29_4 : Fx [386, 387, 388, 389, 390] gr σ σ29_4 := fσ22_1.tr (Sk.fx (by rw [eσ29_4]; exact Sk.pI (by rw [fcdO (kth.up (xτ2.trans (xσ19_1.trans xσ22_1))) (by decide)]; decide)))
                  have wσ29_4 : gI σ29_4 th 3 = 5 := by rw [eσ29_4]; exact up2_s _ _ _ _
                  have kp91 : gI σ29_4 th 1 = gI σ22_1 th 1 := by rw [eσ29_4]; exact up2_n _ _ (fun q => absurd q.2 (by decide))
                  have kp92 : gI σ29_4 th 2 = gI σ22_1 th 2 := by rw [eσ29_4]; exact up2_n _ _ (fun q => absurd q.2 (by decide))
                  have kp93 : gI σ29_4 th 5 = gI σ22_1 th 5 := by rw [eσ29_4]; exact up2_n _ _ (fun q => absurd q.2 (by decide))
                  have kp94 : gP σ29_4 th 0 = gP σ22_1 th 0 := by rw [eσ29_4]
                  refine ⟨by (first | omega | with_reducible assumption | with_reducible exact rng_toInt _ | with_reducible exact rng_wr _ | (unfold rng; omega) | (unfold rng at *; omega) | assumption), ?_⟩
                  intro σ30_4 eσ30_4
                  have xσ30_4 : Ext σ29_4 σ30_4 := by rw [eσ30_4]; exact fun _ h => ⟨h, rfl, rfl⟩
                  have iσ30_4 : IV σ30_4 pl gq ci gr nc ot LL N nu := by rw [eσ30_4]; exact iσ29_4.wO (kth.up (xτ2.trans (xσ19_1.trans (xσ22_1.trans xσ29_4)))) (by decide) (show (0 : Int) ≤ (gI σ29_4 th 2 + 1) ∧ (gI σ29_4 th 2 + 1) ≤ 1500 from ⟨by (first | omega | with_reducible assumption | with_reducible exact rng_toInt _ | with_reducible exact rng_wr _ | (unfold rng; omega) | (unfold rng at *; omega) | assumption), by (first | omega | with_reducible assumption | with_reducible exact rng_toInt _ | with_reducible exact rng_wr _ | (unfold rng; omega) | (unfold rng at *; omega) | assumption)⟩)
                  have fσ30_4 : Fx [386, 387, 388, 389, 390] gr σ σ30_4 := fσ29_4.tr (Sk.fx (by rw [eσ30_4]; exact Sk.pI (by rw [fcdO (kth.up (xτ2.trans (xσ19_1.trans (xσ22_1.trans xσ29_4)))) (by decide)]; decide)))
                  have wσ30_4 : gI σ30_4 th 2 = (gI σ29_4 th 2 + 1) := by rw [eσ30_4]; exact up2_s _ _ _ _
                  have kp95 : gI σ30_4 th 1 = gI σ29_4 th 1 := by rw [eσ30_4]; exact up2_n _ _ (fun q => absurd q.2 (by decide))
                  have kp96 : gI σ30_4 th 3 = gI σ29_4 th 3 := by rw [eσ30_4]; exact up2_n _ _ (fun q => absurd q.2 (by decide))
                  have kp97 : gI σ30_4 th 5 = gI σ29_4 th 5 := by rw [eσ30_4]; exact up2_n _ _ (fun q => absurd q.2 (by decide))
                  have kp98 : gP σ30_4 th 0 = gP σ29_4 th 0 := by rw [eσ30_4]
                  unfold w_X6_next_209
                  exact hQ σ30_4 () iσ30_4 fσ30_4 (⟨by first | exact kvw | exact fun e => absurd e (by omega), by omega⟩)
                · rw [if_neg hc90]
                  have hc90q := Classical.not_not.mp hc90
                  unfold w_X6_next_189
                  refine i_X6_refuse iσ22_1 (kth.up (xτ2.trans (xσ19_1.trans xσ22_1))) (by (first | omega | with_reducible assumption | with_reducible exact rng_toInt _ | with_reducible exact rng_wr _ | (unfold rng; omega) | (unfold rng at *; omega) | assumption)) (by (first | omega | with_reducible assumption | with_reducible exact rng_toInt _ | with_reducible exact rng_wr _ | (unfold rng; omega) | (unfold rng at *; omega) | assumption)) (by (first | omega | with_reducible assumption | with_reducible exact rng_toInt _ | with_reducible exact rng_wr _ | (unfold rng; omega) | (unfold rng at *; omega) | assumption)) (fun σ28_4 _ iσ28_4 cσ28_4 pσ28_4 => ?_) (fun σx LLx Nx nux E ix cx ux px => hX σx LLx Nx nux E ix (fσ22_1.tr (cx.mo (by decide))) (ux) (by first | exact px | exact ⟨by have := px.1; omega, px.2⟩ | (first | omega | with_reducible assumption | with_reducible exact rng_toInt _ | with_reducible exact rng_wr _ | (unfold rng; omega) | (unfold rng at *; omega) | assumption)))
                  intro xσ28_4
                  exact pσ28_4.elim
              · rw [if_neg hc89]
                unfold w_X6_next_141
                by_cases hc99 : gJ σ22_1 th 4 > 57
                · rw [if_pos hc99]
                  unfold w_X6_next_178
                  refine i_X6_isSignByte iσ22_1 (fun r27_5 pσ26_5 => ?_)
                  intro xσ26_5
                  by_cases hc100 : r27_5 ≠ 0
                  · rw [if_pos hc100]
                    unfold w_X6_next_194
                    intro σ29_5 eσ29_5
                    have xσ29_5 : Ext σ22_1 σ29_5 := by rw [eσ29_5]; exact fun _ h => ⟨h, rfl, rfl⟩
                    have iσ29_5 : IV σ29_5 pl gq ci gr nc ot LL N nu := by rw [eσ29_5]; exact iσ22_1.wO (kth.up (xτ2.trans (xσ19_1.trans xσ22_1))) (by decide) (rngb (by first | exact rng_wr _ | (first | omega | with_reducible assumption | with_reducible exact rng_toInt _ | with_reducible exact rng_wr _ | (unfold rng; omega) | (unfold rng at *; omega) | assumption)))
                    have fσ29_5 : Fx [386, 387, 388, 389, 390] gr σ σ29_5 := fσ22_1.tr (Sk.fx (by rw [eσ29_5]; exact Sk.pI (by rw [fcdO (kth.up (xτ2.trans (xσ19_1.trans xσ22_1))) (by decide)]; decide)))
                    have wσ29_5 : gI σ29_5 th 3 = 5 := by rw [eσ29_5]; exact up2_s _ _ _ _
                    have kp101 : gI σ29_5 th 1 = gI σ22_1 th 1 := by rw [eσ29_5]; exact up2_n _ _ (fun q => absurd q.2 (by decide))
                    have kp102 : gI σ29_5 th 2 = gI σ22_1 th 2 := by rw [eσ29_5]; exact up2_n _ _ (fun q => absurd q.2 (by decide))
                    have kp103 : gI σ29_5 th 5 = gI σ22_1 th 5 := by rw [eσ29_5]; exact up2_n _ _ (fun q => absurd q.2 (by decide))
                    have kp104 : gP σ29_5 th 0 = gP σ22_1 th 0 := by rw [eσ29_5]
                    refine ⟨by (first | omega | with_reducible assumption | with_reducible exact rng_toInt _ | with_reducible exact rng_wr _ | (unfold rng; omega) | (unfold rng at *; omega) | assumption), ?_⟩
                    intro σ30_5 eσ30_5
                    have xσ30_5 : Ext σ29_5 σ30_5 := by rw [eσ30_5]; exact fun _ h => ⟨h, rfl, rfl⟩
                    have iσ30_5 : IV σ30_5 pl gq ci gr nc ot LL N nu := by rw [eσ30_5]; exact iσ29_5.wO (kth.up (xτ2.trans (xσ19_1.trans (xσ22_1.trans xσ29_5)))) (by decide) (show (0 : Int) ≤ (gI σ29_5 th 2 + 1) ∧ (gI σ29_5 th 2 + 1) ≤ 1500 from ⟨by (first | omega | with_reducible assumption | with_reducible exact rng_toInt _ | with_reducible exact rng_wr _ | (unfold rng; omega) | (unfold rng at *; omega) | assumption), by (first | omega | with_reducible assumption | with_reducible exact rng_toInt _ | with_reducible exact rng_wr _ | (unfold rng; omega) | (unfold rng at *; omega) | assumption)⟩)
                    have fσ30_5 : Fx [386, 387, 388, 389, 390] gr σ σ30_5 := fσ29_5.tr (Sk.fx (by rw [eσ30_5]; exact Sk.pI (by rw [fcdO (kth.up (xτ2.trans (xσ19_1.trans (xσ22_1.trans xσ29_5)))) (by decide)]; decide)))
                    have wσ30_5 : gI σ30_5 th 2 = (gI σ29_5 th 2 + 1) := by rw [eσ30_5]; exact up2_s _ _ _ _
                    have kp105 : gI σ30_5 th 1 = gI σ29_5 th 1 := by rw [eσ30_5]; exact up2_n _ _ (fun q => absurd q.2 (by decide))
                    have kp106 : gI σ30_5 th 3 = gI σ29_5 th 3 := by rw [eσ30_5]; exact up2_n _ _ (fun q => absurd q.2 (by decide))
                    have kp107 : gI σ30_5 th 5 = gI σ29_5 th 5 := by rw [eσ30_5]; exact up2_n _ _ (fun q => absurd q.2 (by decide))
                    have kp108 : gP σ30_5 th 0 = gP σ29_5 th 0 := by rw [eσ30_5]
                    unfold w_X6_next_209
                    exact hQ σ30_5 () iσ30_5 fσ30_5 (⟨by first | exact kvw | exact fun e => absurd e (by omega), by omega⟩)
                  · rw [if_neg hc100]
                    have hc100q := Classical.not_not.mp hc100
                    unfold w_X6_next_189
                    refine i_X6_refuse iσ22_1 (kth.up (xτ2.trans (xσ19_1.trans xσ22_1))) (by (first | omega | with_reducible assumption | with_reducible exact rng_toInt _ | with_reducible exact rng_wr _ | (unfold rng; omega) | (unfold rng at *; omega) | assumption)) (by (first | omega | with_reducible assumption | with_reducible exact rng_toInt _ | with_reducible exact rng_wr _ | (unfold rng; omega) | (unfold rng at *; omega) | assumption)) (by (first | omega | with_reducible assumption | with_reducible exact rng_toInt _ | with_reducible exact rng_wr _ | (unfold rng; omega) | (unfold rng at *; omega) | assumption)) (fun σ28_5 _ iσ28_5 cσ28_5 pσ28_5 => ?_) (fun σx LLx Nx nux E ix cx ux px => hX σx LLx Nx nux E ix (fσ22_1.tr (cx.mo (by decide))) (ux) (by first | exact px | exact ⟨by have := px.1; omega, px.2⟩ | (first | omega | with_reducible assumption | with_reducible exact rng_toInt _ | with_reducible exact rng_wr _ | (unfold rng; omega) | (unfold rng at *; omega) | assumption)))
                    intro xσ28_5
                    exact pσ28_5.elim
                · rw [if_neg hc99]
                  unfold w_X6_next_152
                  refine i_X6_digits iσ22_1 (kth.up (xτ2.trans (xσ19_1.trans xσ22_1))) (kp86.trans (kp79.trans (kp1.trans hX0))) (kX.up (xτ2.trans (xσ19_1.trans xσ22_1))) (((xτ2.trans (xσ19_1.trans xσ22_1)) tx kX.1).2.2.trans gX) (by omega) (by rw [xk22]; have a9 := ge64 (a := 48) r22 (by rw [← v22]; assumption); have b9 := le64 (a := 57) r22 (by rw [← v22]; assumption); have c9 : (48 : Int64).toInt = 48 := rfl; have d9 : (57 : Int64).toInt = 57 := rfl; omega) (fun σ24_2 _ iσ24_2 cσ24_2 pσ24_2 => ?_)
                  intro xσ24_2
                  have fσ24_2 : Fx [386, 387, 388, 389, 390] gr σ σ24_2 := fσ22_1.tr (cσ24_2.mo (by decide))
                  have kp109 : gI σ24_2 th 1 = gI σ22_1 th 1 := (cσ24_2.O (kth.up (xτ2.trans (xσ19_1.trans xσ22_1))) (by decide)).1
                  have kp110 : gI σ24_2 th 5 = gI σ22_1 th 5 := (cσ24_2.O (kth.up (xτ2.trans (xσ19_1.trans xσ22_1))) (by decide)).1
                  have kp111 : gP σ24_2 th 0 = gP σ22_1 th 0 := (cσ24_2.O (kth.up (xτ2.trans (xσ19_1.trans xσ22_1))) (by decide)).2.1
                  have q112 := I_6_2 iσ24_2.1 (kth.up (xτ2.trans (xσ19_1.trans (xσ22_1.trans xσ24_2))))
                  refine ⟨by (first | omega | with_reducible assumption | with_reducible exact rng_toInt _ | with_reducible exact rng_wr _ | (unfold rng; omega) | (unfold rng at *; omega) | assumption), ?_⟩
                  by_cases hc113 : (gI σ24_2 th 2 - gI σ24_2 th 5) ≤ 18
                  · rw [if_pos hc113]
                    unfold w_X6_next_209
                    exact hQ σ24_2 () iσ24_2 fσ24_2 (⟨by first | exact kvw | exact fun e => absurd e (by omega), by omega⟩)
                  · rw [if_neg hc113]
                    unfold w_X6_next_170
                    refine i_X6_refuse iσ24_2 (kth.up (xτ2.trans (xσ19_1.trans (xσ22_1.trans xσ24_2)))) (by (first | omega | with_reducible assumption | with_reducible exact rng_toInt _ | with_reducible exact rng_wr _ | (unfold rng; omega) | (unfold rng at *; omega) | assumption)) (by (first | omega | with_reducible assumption | with_reducible exact rng_toInt _ | with_reducible exact rng_wr _ | (unfold rng; omega) | (unfold rng at *; omega) | assumption)) (by (first | omega | with_reducible assumption | with_reducible exact rng_toInt _ | with_reducible exact rng_wr _ | (unfold rng; omega) | (unfold rng at *; omega) | assumption)) (fun σ25_2 _ iσ25_2 cσ25_2 pσ25_2 => ?_) (fun σx LLx Nx nux E ix cx ux px => hX σx LLx Nx nux E ix (fσ24_2.tr (cx.mo (by decide))) (ux) (by first | exact px | exact ⟨by have := px.1; omega, px.2⟩ | (first | omega | with_reducible assumption | with_reducible exact rng_toInt _ | with_reducible exact rng_wr _ | (unfold rng; omega) | (unfold rng at *; omega) | assumption)))
                    intro xσ25_2
                    exact pσ25_2.elim
            · rw [if_neg hc88]
              unfold w_X6_next_112
              by_cases hc114 : gJ σ22_1 th 4 > 122
              · rw [if_pos hc114]
                unfold w_X6_next_130
                by_cases hc115 : gJ σ22_1 th 4 < 48
                · rw [if_pos hc115]
                  unfold w_X6_next_178
                  refine i_X6_isSignByte iσ22_1 (fun r27_6 pσ26_6 => ?_)
                  intro xσ26_6
                  by_cases hc116 : r27_6 ≠ 0
                  · rw [if_pos hc116]
                    unfold w_X6_next_194
                    intro σ29_6 eσ29_6
                    have xσ29_6 : Ext σ22_1 σ29_6 := by rw [eσ29_6]; exact fun _ h => ⟨h, rfl, rfl⟩
                    have iσ29_6 : IV σ29_6 pl gq ci gr nc ot LL N nu := by rw [eσ29_6]; exact iσ22_1.wO (kth.up (xτ2.trans (xσ19_1.trans xσ22_1))) (by decide) (rngb (by first | exact rng_wr _ | (first | omega | with_reducible assumption | with_reducible exact rng_toInt _ | with_reducible exact rng_wr _ | (unfold rng; omega) | (unfold rng at *; omega) | assumption)))
                    have fσ29_6 : Fx [386, 387, 388, 389, 390] gr σ σ29_6 := fσ22_1.tr (Sk.fx (by rw [eσ29_6]; exact Sk.pI (by rw [fcdO (kth.up (xτ2.trans (xσ19_1.trans xσ22_1))) (by decide)]; decide)))
                    have wσ29_6 : gI σ29_6 th 3 = 5 := by rw [eσ29_6]; exact up2_s _ _ _ _
                    have kp117 : gI σ29_6 th 1 = gI σ22_1 th 1 := by rw [eσ29_6]; exact up2_n _ _ (fun q => absurd q.2 (by decide))
                    have kp118 : gI σ29_6 th 2 = gI σ22_1 th 2 := by rw [eσ29_6]; exact up2_n _ _ (fun q => absurd q.2 (by decide))
                    have kp119 : gI σ29_6 th 5 = gI σ22_1 th 5 := by rw [eσ29_6]; exact up2_n _ _ (fun q => absurd q.2 (by decide))
                    have kp120 : gP σ29_6 th 0 = gP σ22_1 th 0 := by rw [eσ29_6]
                    refine ⟨by (first | omega | with_reducible assumption | with_reducible exact rng_toInt _ | with_reducible exact rng_wr _ | (unfold rng; omega) | (unfold rng at *; omega) | assumption), ?_⟩
                    intro σ30_6 eσ30_6
                    have xσ30_6 : Ext σ29_6 σ30_6 := by rw [eσ30_6]; exact fun _ h => ⟨h, rfl, rfl⟩
                    have iσ30_6 : IV σ30_6 pl gq ci gr nc ot LL N nu := by rw [eσ30_6]; exact iσ29_6.wO (kth.up (xτ2.trans (xσ19_1.trans (xσ22_1.trans xσ29_6)))) (by decide) (show (0 : Int) ≤ (gI σ29_6 th 2 + 1) ∧ (gI σ29_6 th 2 + 1) ≤ 1500 from ⟨by (first | omega | with_reducible assumption | with_reducible exact rng_toInt _ | with_reducible exact rng_wr _ | (unfold rng; omega) | (unfold rng at *; omega) | assumption), by (first | omega | with_reducible assumption | with_reducible exact rng_toInt _ | with_reducible exact rng_wr _ | (unfold rng; omega) | (unfold rng at *; omega) | assumption)⟩)
                    have fσ30_6 : Fx [386, 387, 388, 389, 390] gr σ σ30_6 := fσ29_6.tr (Sk.fx (by rw [eσ30_6]; exact Sk.pI (by rw [fcdO (kth.up (xτ2.trans (xσ19_1.trans (xσ22_1.trans xσ29_6)))) (by decide)]; decide)))
                    have wσ30_6 : gI σ30_6 th 2 = (gI σ29_6 th 2 + 1) := by rw [eσ30_6]; exact up2_s _ _ _ _
                    have kp121 : gI σ30_6 th 1 = gI σ29_6 th 1 := by rw [eσ30_6]; exact up2_n _ _ (fun q => absurd q.2 (by decide))
                    have kp122 : gI σ30_6 th 3 = gI σ29_6 th 3 := by rw [eσ30_6]; exact up2_n _ _ (fun q => absurd q.2 (by decide))
                    have kp123 : gI σ30_6 th 5 = gI σ29_6 th 5 := by rw [eσ30_6]; exact up2_n _ _ (fun q => absurd q.2 (by decide))
                    have kp124 : gP σ30_6 th 0 = gP σ29_6 th 0 := by rw [eσ30_6]
                    unfold w_X6_next_209
                    exact hQ σ30_6 () iσ30_6 fσ30_6 (⟨by first | exact kvw | exact fun e => absurd e (by omega), by omega⟩)
                  · rw [if_neg hc116]
                    have hc116q := Classical.not_not.mp hc116
                    unfold w_X6_next_189
                    refine i_X6_refuse iσ22_1 (kth.up (xτ2.trans (xσ19_1.trans xσ22_1))) (by (first | omega | with_reducible assumption | with_reducible exact rng_toInt _ | with_reducible exact rng_wr _ | (unfold rng; omega) | (unfold rng at *; omega) | assumption)) (by (first | omega | with_reducible assumption | with_reducible exact rng_toInt _ | with_reducible exact rng_wr _ | (unfold rng; omega) | (unfold rng at *; omega) | assumption)) (by (first | omega | with_reducible assumption | with_reducible exact rng_toInt _ | with_reducible exact rng_wr _ | (unfold rng; omega) | (unfold rng at *; omega) | assumption)) (fun σ28_6 _ iσ28_6 cσ28_6 pσ28_6 => ?_) (fun σx LLx Nx nux E ix cx ux px => hX σx LLx Nx nux E ix (fσ22_1.tr (cx.mo (by decide))) (ux) (by first | exact px | exact ⟨by have := px.1; omega, px.2⟩ | (first | omega | with_reducible assumption | with_reducible exact rng_toInt _ | with_reducible exact rng_wr _ | (unfold rng; omega) | (unfold rng at *; omega) | assumption)))
                    intro xσ28_6
                    exact pσ28_6.elim
                · rw [if_neg hc115]
                  unfold w_X6_next_141
                  by_cases hc125 : gJ σ22_1 th 4 > 57
                  · rw [if_pos hc125]
                    unfold w_X6_next_178
                    refine i_X6_isSignByte iσ22_1 (fun r27_7 pσ26_7 => ?_)
                    intro xσ26_7
                    by_cases hc126 : r27_7 ≠ 0
                    · rw [if_pos hc126]
                      unfold w_X6_next_194
                      intro σ29_7 eσ29_7
                      have xσ29_7 : Ext σ22_1 σ29_7 := by rw [eσ29_7]; exact fun _ h => ⟨h, rfl, rfl⟩
                      have iσ29_7 : IV σ29_7 pl gq ci gr nc ot LL N nu := by rw [eσ29_7]; exact iσ22_1.wO (kth.up (xτ2.trans (xσ19_1.trans xσ22_1))) (by decide) (rngb (by first | exact rng_wr _ | (first | omega | with_reducible assumption | with_reducible exact rng_toInt _ | with_reducible exact rng_wr _ | (unfold rng; omega) | (unfold rng at *; omega) | assumption)))
                      have fσ29_7 : Fx [386, 387, 388, 389, 390] gr σ σ29_7 := fσ22_1.tr (Sk.fx (by rw [eσ29_7]; exact Sk.pI (by rw [fcdO (kth.up (xτ2.trans (xσ19_1.trans xσ22_1))) (by decide)]; decide)))
                      have wσ29_7 : gI σ29_7 th 3 = 5 := by rw [eσ29_7]; exact up2_s _ _ _ _
                      have kp127 : gI σ29_7 th 1 = gI σ22_1 th 1 := by rw [eσ29_7]; exact up2_n _ _ (fun q => absurd q.2 (by decide))
                      have kp128 : gI σ29_7 th 2 = gI σ22_1 th 2 := by rw [eσ29_7]; exact up2_n _ _ (fun q => absurd q.2 (by decide))
                      have kp129 : gI σ29_7 th 5 = gI σ22_1 th 5 := by rw [eσ29_7]; exact up2_n _ _ (fun q => absurd q.2 (by decide))
                      have kp130 : gP σ29_7 th 0 = gP σ22_1 th 0 := by rw [eσ29_7]
                      refine ⟨by (first | omega | with_reducible assumption | with_reducible exact rng_toInt _ | with_reducible exact rng_wr _ | (unfold rng; omega) | (unfold rng at *; omega) | assumption), ?_⟩
                      intro σ30_7 eσ30_7
                      have xσ30_7 : Ext σ29_7 σ30_7 := by rw [eσ30_7]; exact fun _ h => ⟨h, rfl, rfl⟩
                      have iσ30_7 : IV σ30_7 pl gq ci gr nc ot LL N nu := by rw [eσ30_7]; exact iσ29_7.wO (kth.up (xτ2.trans (xσ19_1.trans (xσ22_1.trans xσ29_7)))) (by decide) (show (0 : Int) ≤ (gI σ29_7 th 2 + 1) ∧ (gI σ29_7 th 2 + 1) ≤ 1500 from ⟨by (first | omega | with_reducible assumption | with_reducible exact rng_toInt _ | with_reducible exact rng_wr _ | (unfold rng; omega) | (unfold rng at *; omega) | assumption), by (first | omega | with_reducible assumption | with_reducible exact rng_toInt _ | with_reducible exact rng_wr _ | (unfold rng; omega) | (unfold rng at *; omega) | assumption)⟩)
                      have fσ30_7 : Fx [386, 387, 388, 389, 390] gr σ σ30_7 := fσ29_7.tr (Sk.fx (by rw [eσ30_7]; exact Sk.pI (by rw [fcdO (kth.up (xτ2.trans (xσ19_1.trans (xσ22_1.trans xσ29_7)))) (by decide)]; decide)))
                      have wσ30_7 : gI σ30_7 th 2 = (gI σ29_7 th 2 + 1) := by rw [eσ30_7]; exact up2_s _ _ _ _
                      have kp131 : gI σ30_7 th 1 = gI σ29_7 th 1 := by rw [eσ30_7]; exact up2_n _ _ (fun q => absurd q.2 (by decide))
                      have kp132 : gI σ30_7 th 3 = gI σ29_7 th 3 := by rw [eσ30_7]; exact up2_n _ _ (fun q => absurd q.2 (by decide))
                      have kp133 : gI σ30_7 th 5 = gI σ29_7 th 5 := by rw [eσ30_7]; exact up2_n _ _ (fun q => absurd q.2 (by decide))
                      have kp134 : gP σ30_7 th 0 = gP σ29_7 th 0 := by rw [eσ30_7]
                      unfold w_X6_next_209
                      exact hQ σ30_7 () iσ30_7 fσ30_7 (⟨by first | exact kvw | exact fun e => absurd e (by omega), by omega⟩)
                    · rw [if_neg hc126]
                      have hc126q := Classical.not_not.mp hc126
                      unfold w_X6_next_189
                      refine i_X6_refuse iσ22_1 (kth.up (xτ2.trans (xσ19_1.trans xσ22_1))) (by (first | omega | with_reducible assumption | with_reducible exact rng_toInt _ | with_reducible exact rng_wr _ | (unfold rng; omega) | (unfold rng at *; omega) | assumption)) (by (first | omega | with_reducible assumption | with_reducible exact rng_toInt _ | with_reducible exact rng_wr _ | (unfold rng; omega) | (unfold rng at *; omega) | assumption)) (by (first | omega | with_reducible assumption | with_reducible exact rng_toInt _ | with_reducible exact rng_wr _ | (unfold rng; omega) | (unfold rng at *; omega) | assumption)) (fun σ28_7 _ iσ28_7 cσ28_7 pσ28_7 => ?_) (fun σx LLx Nx nux E ix cx ux px => hX σx LLx Nx nux E ix (fσ22_1.tr (cx.mo (by decide))) (ux) (by first | exact px | exact ⟨by have := px.1; omega, px.2⟩ | (first | omega | with_reducible assumption | with_reducible exact rng_toInt _ | with_reducible exact rng_wr _ | (unfold rng; omega) | (unfold rng at *; omega) | assumption)))
                      intro xσ28_7
                      exact pσ28_7.elim
                  · rw [if_neg hc125]
                    unfold w_X6_next_152
                    refine i_X6_digits iσ22_1 (kth.up (xτ2.trans (xσ19_1.trans xσ22_1))) (kp86.trans (kp79.trans (kp1.trans hX0))) (kX.up (xτ2.trans (xσ19_1.trans xσ22_1))) (((xτ2.trans (xσ19_1.trans xσ22_1)) tx kX.1).2.2.trans gX) (by omega) (by rw [xk22]; have a9 := ge64 (a := 48) r22 (by rw [← v22]; assumption); have b9 := le64 (a := 57) r22 (by rw [← v22]; assumption); have c9 : (48 : Int64).toInt = 48 := rfl; have d9 : (57 : Int64).toInt = 57 := rfl; omega) (fun σ24_3 _ iσ24_3 cσ24_3 pσ24_3 => ?_)
                    intro xσ24_3
                    have fσ24_3 : Fx [386, 387, 388, 389, 390] gr σ σ24_3 := fσ22_1.tr (cσ24_3.mo (by decide))
                    have kp135 : gI σ24_3 th 1 = gI σ22_1 th 1 := (cσ24_3.O (kth.up (xτ2.trans (xσ19_1.trans xσ22_1))) (by decide)).1
                    have kp136 : gI σ24_3 th 5 = gI σ22_1 th 5 := (cσ24_3.O (kth.up (xτ2.trans (xσ19_1.trans xσ22_1))) (by decide)).1
                    have kp137 : gP σ24_3 th 0 = gP σ22_1 th 0 := (cσ24_3.O (kth.up (xτ2.trans (xσ19_1.trans xσ22_1))) (by decide)).2.1
                    have q138 := I_6_2 iσ24_3.1 (kth.up (xτ2.trans (xσ19_1.trans (xσ22_1.trans xσ24_3))))
                    refine ⟨by (first | omega | with_reducible assumption | with_reducible exact rng_toInt _ | with_reducible exact rng_wr _ | (unfold rng; omega) | (unfold rng at *; omega) | assumption), ?_⟩
                    by_cases hc139 : (gI σ24_3 th 2 - gI σ24_3 th 5) ≤ 18
                    · rw [if_pos hc139]
                      unfold w_X6_next_209
                      exact hQ σ24_3 () iσ24_3 fσ24_3 (⟨by first | exact kvw | exact fun e => absurd e (by omega), by omega⟩)
                    · rw [if_neg hc139]
                      unfold w_X6_next_170
                      refine i_X6_refuse iσ24_3 (kth.up (xτ2.trans (xσ19_1.trans (xσ22_1.trans xσ24_3)))) (by (first | omega | with_reducible assumption | with_reducible exact rng_toInt _ | with_reducible exact rng_wr _ | (unfold rng; omega) | (unfold rng at *; omega) | assumption)) (by (first | omega | with_reducible assumption | with_reducible exact rng_toInt _ | with_reducible exact rng_wr _ | (unfold rng; omega) | (unfold rng at *; omega) | assumption)) (by (first | omega | with_reducible assumption | with_reducible exact rng_toInt _ | with_reducible exact rng_wr _ | (unfold rng; omega) | (unfold rng at *; omega) | assumption)) (fun σ25_3 _ iσ25_3 cσ25_3 pσ25_3 => ?_) (fun σx LLx Nx nux E ix cx ux px => hX σx LLx Nx nux E ix (fσ24_3.tr (cx.mo (by decide))) (ux) (by first | exact px | exact ⟨by have := px.1; omega, px.2⟩ | (first | omega | with_reducible assumption | with_reducible exact rng_toInt _ | with_reducible exact rng_wr _ | (unfold rng; omega) | (unfold rng at *; omega) | assumption)))
                      intro xσ25_3
                      exact pσ25_3.elim
              · rw [if_neg hc114]
                unfold w_X6_next_123
                refine i_X6_word iσ22_1 (kth.up (xτ2.trans (xσ19_1.trans xσ22_1))) (kp86.trans (kp79.trans (kp1.trans hX0))) (kX.up (xτ2.trans (xσ19_1.trans xσ22_1))) (((xτ2.trans (xσ19_1.trans xσ22_1)) tx kX.1).2.2.trans gX) (by omega) (by rw [xk22]; have a9 := ge64 (a := 97) r22 (by rw [← v22]; assumption); have b9 := le64 (a := 122) r22 (by rw [← v22]; assumption); have c9 : (97 : Int64).toInt = 97 := rfl; have d9 : (122 : Int64).toInt = 122 := rfl; omega) (fun σ23_1 _ iσ23_1 cσ23_1 pσ23_1 => ?_)
                intro xσ23_1
                have fσ23_1 : Fx [386, 387, 388, 389, 390] gr σ σ23_1 := fσ22_1.tr (cσ23_1.mo (by decide))
                have kp140 : gI σ23_1 th 1 = gI σ22_1 th 1 := (cσ23_1.O (kth.up (xτ2.trans (xσ19_1.trans xσ22_1))) (by decide)).1
                have kp141 : gI σ23_1 th 5 = gI σ22_1 th 5 := (cσ23_1.O (kth.up (xτ2.trans (xσ19_1.trans xσ22_1))) (by decide)).1
                have kp142 : gP σ23_1 th 0 = gP σ22_1 th 0 := (cσ23_1.O (kth.up (xτ2.trans (xσ19_1.trans xσ22_1))) (by decide)).2.1
                have kvw := pσ23_1.1
                unfold w_X6_next_209
                exact hQ σ23_1 () iσ23_1 fσ23_1 (⟨by first | exact kvw | exact fun e => absurd e (by omega), by omega⟩)
          · rw [if_neg hc81]
            unfold w_X6_next_81
            intro σ20_1 eσ20_1
            have xσ20_1 : Ext σ19_1 σ20_1 := by rw [eσ20_1]; exact fun _ h => ⟨h, rfl, rfl⟩
            have iσ20_1 : IV σ20_1 pl gq ci gr nc ot LL N nu := by rw [eσ20_1]; exact iσ19_1.wO (kth.up (xτ2.trans xσ19_1)) (by decide) (rngb (by first | exact rng_wr _ | (first | omega | with_reducible assumption | with_reducible exact rng_toInt _ | with_reducible exact rng_wr _ | (unfold rng; omega) | (unfold rng at *; omega) | assumption)))
            have fσ20_1 : Fx [386, 387, 388, 389, 390] gr σ σ20_1 := fσ19_1.tr (Sk.fx (by rw [eσ20_1]; exact Sk.pI (by rw [fcdO (kth.up (xτ2.trans xσ19_1)) (by decide)]; decide)))
            have wσ20_1 : gI σ20_1 th 3 = 0 := by rw [eσ20_1]; exact up2_s _ _ _ _
            have kp143 : gI σ20_1 th 1 = gI σ19_1 th 1 := by rw [eσ20_1]; exact up2_n _ _ (fun q => absurd q.2 (by decide))
            have kp144 : gI σ20_1 th 2 = gI σ19_1 th 2 := by rw [eσ20_1]; exact up2_n _ _ (fun q => absurd q.2 (by decide))
            have kp145 : gI σ20_1 th 5 = gI σ19_1 th 5 := by rw [eσ20_1]; exact up2_n _ _ (fun q => absurd q.2 (by decide))
            have kp146 : gP σ20_1 th 0 = gP σ19_1 th 0 := by rw [eσ20_1]
            exact hQ σ20_1 () iσ20_1 fσ20_1 (⟨by first | exact kvw | exact fun e => absurd e (by omega), by omega⟩)
        · rw [if_neg hc74]
          unfold w_X6_next_20
          refine ⟨tx, (kp1.trans hX0), fun kk_tx_2 => ?_⟩
          have q147 := (xτ2 tx kX.1).2.2
          refine ⟨⟨by (first | omega | with_reducible assumption | with_reducible exact rng_toInt _ | with_reducible exact rng_wr _ | (unfold rng; omega) | (unfold rng at *; omega) | assumption), by (first | omega | with_reducible assumption | with_reducible exact rng_toInt _ | with_reducible exact rng_wr _ | (unfold rng; omega) | (unfold rng at *; omega) | assumption)⟩, ?_⟩
          have q149 := iτ2.rg tx (gI τ2 th 2).toNat; unfold rng at q149
          by_cases hc148 : (gI τ2 tx (gI τ2 th 2).toNat) < 0
          · rw [if_pos hc148]
            unfold w_X6_next_62
            intro σ19_2 eσ19_2
            have xσ19_2 : Ext τ2 σ19_2 := by rw [eσ19_2]; exact fun _ h => ⟨h, rfl, rfl⟩
            have iσ19_2 : IV σ19_2 pl gq ci gr nc ot LL N nu := by rw [eσ19_2]; exact iτ2.wO (kth.up xτ2) (by decide) (show (0 : Int) ≤ (gI τ2 th 2) ∧ (gI τ2 th 2) ≤ 1500 from ⟨by (first | omega | with_reducible assumption | with_reducible exact rng_toInt _ | with_reducible exact rng_wr _ | (unfold rng; omega) | (unfold rng at *; omega) | assumption), by (first | omega | with_reducible assumption | with_reducible exact rng_toInt _ | with_reducible exact rng_wr _ | (unfold rng; omega) | (unfold rng at *; omega) | assumption)⟩)
            have fσ19_2 : Fx [386, 387, 388, 389, 390] gr σ σ19_2 := fτ2.tr (Sk.fx (by rw [eσ19_2]; exact Sk.pI (by rw [fcdO (kth.up xτ2) (by decide)]; decide)))
            have wσ19_2 : gI σ19_2 th 5 = (gI τ2 th 2) := by rw [eσ19_2]; exact up2_s _ _ _ _
            have kp150 : gI σ19_2 th 1 = gI τ2 th 1 := by rw [eσ19_2]; exact up2_n _ _ (fun q => absurd q.2 (by decide))
            have kp151 : gI σ19_2 th 2 = gI τ2 th 2 := by rw [eσ19_2]; exact up2_n _ _ (fun q => absurd q.2 (by decide))
            have kp152 : gI σ19_2 tx (gI τ2 th 2).toNat = gI τ2 tx (gI τ2 th 2).toNat := by rw [eσ19_2]; exact up2_n _ _ (fun q => absurd q.1 (kO.ne (kX.up xτ2) (kth.up xτ2) (by decide)))
            have kp153 : gP σ19_2 th 0 = gP τ2 th 0 := by rw [eσ19_2]
            have kp154 : gI σ19_2 th 3 = gI τ2 th 3 := by rw [eσ19_2]; exact up2_n _ _ (fun q => absurd q.2 (by decide))
            by_cases hc155 : gI σ19_2 th 2 < gI σ19_2 th 1
            · rw [if_pos hc155]
              unfold w_X6_next_87
              refine ⟨tx, (kp153.trans (kp1.trans hX0)), fun kk_tx_3 => ?_⟩
              have q156 := ((xτ2.trans xσ19_2) tx kX.1).2.2
              refine ⟨⟨by (first | omega | with_reducible assumption | with_reducible exact rng_toInt _ | with_reducible exact rng_wr _ | (unfold rng; omega) | (unfold rng at *; omega) | assumption), by (first | omega | with_reducible assumption | with_reducible exact rng_toInt _ | with_reducible exact rng_wr _ | (unfold rng; omega) | (unfold rng at *; omega) | assumption)⟩, ?_⟩
              intro σ22_2 eσ22_2
              have xσ22_2 : Ext σ19_2 σ22_2 := by rw [eσ22_2]; exact fun _ h => ⟨h, rfl, rfl⟩
              have iσ22_2 : IV σ22_2 pl gq ci gr nc ot LL N nu := by rw [eσ22_2]; exact iσ19_2.wJ (kth.up (xτ2.trans xσ19_2)) (by decide)
              have fσ22_2 : Fx [386, 387, 388, 389, 390] gr σ σ22_2 := fσ19_2.tr (Sk.fx (by rw [eσ22_2]; exact Sk.pJ (by rw [fcdO (kth.up (xτ2.trans xσ19_2)) (by decide)]; decide)))
              have kp157 : gI σ22_2 th 1 = gI σ19_2 th 1 := by rw [eσ22_2]
              have kp158 : gI σ22_2 th 2 = gI σ19_2 th 2 := by rw [eσ22_2]
              have kp159 : gI σ22_2 th 5 = gI σ19_2 th 5 := by rw [eσ22_2]
              have kp160 : gI σ22_2 tx (gI τ2 th 2).toNat = gI σ19_2 tx (gI τ2 th 2).toNat := by rw [eσ22_2]
              have kp161 : gP σ22_2 th 0 = gP σ19_2 th 0 := by rw [eσ22_2]
              have kp162 : gI σ22_2 th 3 = gI σ19_2 th 3 := by rw [eσ22_2]
              have v22 : gJ σ22_2 th 4 = Int64.ofInt (gI σ19_2 tx (gI σ19_2 th 2).toNat) := by rw [eσ22_2]; exact up2_s _ _ _ _
              have r22 := iσ19_2.rg tx (gI σ19_2 th 2).toNat
              have xk22 : gI σ22_2 tx (gI σ22_2 th 2).toNat = gI σ19_2 tx (gI σ19_2 th 2).toNat := by rw [eσ22_2]
              by_cases hc163 : gJ σ22_2 th 4 < 97
              · rw [if_pos hc163]
                unfold w_X6_next_130
                by_cases hc164 : gJ σ22_2 th 4 < 48
                · rw [if_pos hc164]
                  unfold w_X6_next_178
                  refine i_X6_isSignByte iσ22_2 (fun r27_8 pσ26_8 => ?_)
                  intro xσ26_8
                  by_cases hc165 : r27_8 ≠ 0
                  · rw [if_pos hc165]
                    unfold w_X6_next_194
                    intro σ29_8 eσ29_8
                    have xσ29_8 : Ext σ22_2 σ29_8 := by rw [eσ29_8]; exact fun _ h => ⟨h, rfl, rfl⟩
                    have iσ29_8 : IV σ29_8 pl gq ci gr nc ot LL N nu := by rw [eσ29_8]; exact iσ22_2.wO (kth.up (xτ2.trans (xσ19_2.trans xσ22_2))) (by decide) (rngb (by first | exact rng_wr _ | (first | omega | with_reducible assumption | with_reducible exact rng_toInt _ | with_reducible exact rng_wr _ | (unfold rng; omega) | (unfold rng at *; omega) | assumption)))
                    have fσ29_8 : Fx [386, 387, 388, 389, 390] gr σ σ29_8 := fσ22_2.tr (Sk.fx (by rw [eσ29_8]; exact Sk.pI (by rw [fcdO (kth.up (xτ2.trans (xσ19_2.trans xσ22_2))) (by decide)]; decide)))
                    have wσ29_8 : gI σ29_8 th 3 = 5 := by rw [eσ29_8]; exact up2_s _ _ _ _
                    have kp166 : gI σ29_8 th 1 = gI σ22_2 th 1 := by rw [eσ29_8]; exact up2_n _ _ (fun q => absurd q.2 (by decide))
                    have kp167 : gI σ29_8 th 2 = gI σ22_2 th 2 := by rw [eσ29_8]; exact up2_n _ _ (fun q => absurd q.2 (by decide))
                    have kp168 : gI σ29_8 th 5 = gI σ22_2 th 5 := by rw [eσ29_8]; exact up2_n _ _ (fun q => absurd q.2 (by decide))
                    have kp169 : gI σ29_8 tx (gI τ2 th 2).toNat = gI σ22_2 tx (gI τ2 th 2).toNat := by rw [eσ29_8]; exact up2_n _ _ (fun q => absurd q.1 (kO.ne (kX.up (xτ2.trans (xσ19_2.trans xσ22_2))) (kth.up (xτ2.trans (xσ19_2.trans xσ22_2))) (by decide)))
                    have kp170 : gP σ29_8 th 0 = gP σ22_2 th 0 := by rw [eσ29_8]
                    refine ⟨by (first | omega | with_reducible assumption | with_reducible exact rng_toInt _ | with_reducible exact rng_wr _ | (unfold rng; omega) | (unfold rng at *; omega) | assumption), ?_⟩
                    intro σ30_8 eσ30_8
                    have xσ30_8 : Ext σ29_8 σ30_8 := by rw [eσ30_8]; exact fun _ h => ⟨h, rfl, rfl⟩
                    have iσ30_8 : IV σ30_8 pl gq ci gr nc ot LL N nu := by rw [eσ30_8]; exact iσ29_8.wO (kth.up (xτ2.trans (xσ19_2.trans (xσ22_2.trans xσ29_8)))) (by decide) (show (0 : Int) ≤ (gI σ29_8 th 2 + 1) ∧ (gI σ29_8 th 2 + 1) ≤ 1500 from ⟨by (first | omega | with_reducible assumption | with_reducible exact rng_toInt _ | with_reducible exact rng_wr _ | (unfold rng; omega) | (unfold rng at *; omega) | assumption), by (first | omega | with_reducible assumption | with_reducible exact rng_toInt _ | with_reducible exact rng_wr _ | (unfold rng; omega) | (unfold rng at *; omega) | assumption)⟩)
                    have fσ30_8 : Fx [386, 387, 388, 389, 390] gr σ σ30_8 := fσ29_8.tr (Sk.fx (by rw [eσ30_8]; exact Sk.pI (by rw [fcdO (kth.up (xτ2.trans (xσ19_2.trans (xσ22_2.trans xσ29_8)))) (by decide)]; decide)))
                    have wσ30_8 : gI σ30_8 th 2 = (gI σ29_8 th 2 + 1) := by rw [eσ30_8]; exact up2_s _ _ _ _
                    have kp171 : gI σ30_8 th 1 = gI σ29_8 th 1 := by rw [eσ30_8]; exact up2_n _ _ (fun q => absurd q.2 (by decide))
                    have kp172 : gI σ30_8 th 3 = gI σ29_8 th 3 := by rw [eσ30_8]; exact up2_n _ _ (fun q => absurd q.2 (by decide))
                    have kp173 : gI σ30_8 th 5 = gI σ29_8 th 5 := by rw [eσ30_8]; exact up2_n _ _ (fun q => absurd q.2 (by decide))
                    have kp174 : gI σ30_8 tx (gI τ2 th 2).toNat = gI σ29_8 tx (gI τ2 th 2).toNat := by rw [eσ30_8]; exact up2_n _ _ (fun q => absurd q.1 (kO.ne (kX.up (xτ2.trans (xσ19_2.trans (xσ22_2.trans xσ29_8)))) (kth.up (xτ2.trans (xσ19_2.trans (xσ22_2.trans xσ29_8)))) (by decide)))
                    have kp175 : gP σ30_8 th 0 = gP σ29_8 th 0 := by rw [eσ30_8]
                    unfold w_X6_next_209
                    exact hQ σ30_8 () iσ30_8 fσ30_8 (⟨by first | exact kvw | exact fun e => absurd e (by omega), by omega⟩)
                  · rw [if_neg hc165]
                    have hc165q := Classical.not_not.mp hc165
                    unfold w_X6_next_189
                    refine i_X6_refuse iσ22_2 (kth.up (xτ2.trans (xσ19_2.trans xσ22_2))) (by (first | omega | with_reducible assumption | with_reducible exact rng_toInt _ | with_reducible exact rng_wr _ | (unfold rng; omega) | (unfold rng at *; omega) | assumption)) (by (first | omega | with_reducible assumption | with_reducible exact rng_toInt _ | with_reducible exact rng_wr _ | (unfold rng; omega) | (unfold rng at *; omega) | assumption)) (by (first | omega | with_reducible assumption | with_reducible exact rng_toInt _ | with_reducible exact rng_wr _ | (unfold rng; omega) | (unfold rng at *; omega) | assumption)) (fun σ28_8 _ iσ28_8 cσ28_8 pσ28_8 => ?_) (fun σx LLx Nx nux E ix cx ux px => hX σx LLx Nx nux E ix (fσ22_2.tr (cx.mo (by decide))) (ux) (by first | exact px | exact ⟨by have := px.1; omega, px.2⟩ | (first | omega | with_reducible assumption | with_reducible exact rng_toInt _ | with_reducible exact rng_wr _ | (unfold rng; omega) | (unfold rng at *; omega) | assumption)))
                    intro xσ28_8
                    exact pσ28_8.elim
                · rw [if_neg hc164]
                  unfold w_X6_next_141
                  by_cases hc176 : gJ σ22_2 th 4 > 57
                  · rw [if_pos hc176]
                    unfold w_X6_next_178
                    refine i_X6_isSignByte iσ22_2 (fun r27_9 pσ26_9 => ?_)
                    intro xσ26_9
                    by_cases hc177 : r27_9 ≠ 0
                    · rw [if_pos hc177]
                      unfold w_X6_next_194
                      intro σ29_9 eσ29_9
                      have xσ29_9 : Ext σ22_2 σ29_9 := by rw [eσ29_9]; exact fun _ h => ⟨h, rfl, rfl⟩
                      have iσ29_9 : IV σ29_9 pl gq ci gr nc ot LL N nu := by rw [eσ29_9]; exact iσ22_2.wO (kth.up (xτ2.trans (xσ19_2.trans xσ22_2))) (by decide) (rngb (by first | exact rng_wr _ | (first | omega | with_reducible assumption | with_reducible exact rng_toInt _ | with_reducible exact rng_wr _ | (unfold rng; omega) | (unfold rng at *; omega) | assumption)))
                      have fσ29_9 : Fx [386, 387, 388, 389, 390] gr σ σ29_9 := fσ22_2.tr (Sk.fx (by rw [eσ29_9]; exact Sk.pI (by rw [fcdO (kth.up (xτ2.trans (xσ19_2.trans xσ22_2))) (by decide)]; decide)))
                      have wσ29_9 : gI σ29_9 th 3 = 5 := by rw [eσ29_9]; exact up2_s _ _ _ _
                      have kp178 : gI σ29_9 th 1 = gI σ22_2 th 1 := by rw [eσ29_9]; exact up2_n _ _ (fun q => absurd q.2 (by decide))
                      have kp179 : gI σ29_9 th 2 = gI σ22_2 th 2 := by rw [eσ29_9]; exact up2_n _ _ (fun q => absurd q.2 (by decide))
                      have kp180 : gI σ29_9 th 5 = gI σ22_2 th 5 := by rw [eσ29_9]; exact up2_n _ _ (fun q => absurd q.2 (by decide))
                      have kp181 : gI σ29_9 tx (gI τ2 th 2).toNat = gI σ22_2 tx (gI τ2 th 2).toNat := by rw [eσ29_9]; exact up2_n _ _ (fun q => absurd q.1 (kO.ne (kX.up (xτ2.trans (xσ19_2.trans xσ22_2))) (kth.up (xτ2.trans (xσ19_2.trans xσ22_2))) (by decide)))
                      have kp182 : gP σ29_9 th 0 = gP σ22_2 th 0 := by rw [eσ29_9]
                      refine ⟨by (first | omega | with_reducible assumption | with_reducible exact rng_toInt _ | with_reducible exact rng_wr _ | (unfold rng; omega) | (unfold rng at *; omega) | assumption), ?_⟩
                      intro σ30_9 eσ30_9
                      have xσ30_9 : Ext σ29_9 σ30_9 := by rw [eσ30_9]; exact fun _ h => ⟨h, rfl, rfl⟩
                      have iσ30_9 : IV σ30_9 pl gq ci gr nc ot LL N nu := by rw [eσ30_9]; exact iσ29_9.wO (kth.up (xτ2.trans (xσ19_2.trans (xσ22_2.trans xσ29_9)))) (by decide) (show (0 : Int) ≤ (gI σ29_9 th 2 + 1) ∧ (gI σ29_9 th 2 + 1) ≤ 1500 from ⟨by (first | omega | with_reducible assumption | with_reducible exact rng_toInt _ | with_reducible exact rng_wr _ | (unfold rng; omega) | (unfold rng at *; omega) | assumption), by (first | omega | with_reducible assumption | with_reducible exact rng_toInt _ | with_reducible exact rng_wr _ | (unfold rng; omega) | (unfold rng at *; omega) | assumption)⟩)
                      have fσ30_9 : Fx [386, 387, 388, 389, 390] gr σ σ30_9 := fσ29_9.tr (Sk.fx (by rw [eσ30_9]; exact Sk.pI (by rw [fcdO (kth.up (xτ2.trans (xσ19_2.trans (xσ22_2.trans xσ29_9)))) (by decide)]; decide)))
                      have wσ30_9 : gI σ30_9 th 2 = (gI σ29_9 th 2 + 1) := by rw [eσ30_9]; exact up2_s _ _ _ _
                      have kp183 : gI σ30_9 th 1 = gI σ29_9 th 1 := by rw [eσ30_9]; exact up2_n _ _ (fun q => absurd q.2 (by decide))
                      have kp184 : gI σ30_9 th 3 = gI σ29_9 th 3 := by rw [eσ30_9]; exact up2_n _ _ (fun q => absurd q.2 (by decide))
                      have kp185 : gI σ30_9 th 5 = gI σ29_9 th 5 := by rw [eσ30_9]; exact up2_n _ _ (fun q => absurd q.2 (by decide))
                      have kp186 : gI σ30_9 tx (gI τ2 th 2).toNat = gI σ29_9 tx (gI τ2 th 2).toNat := by rw [eσ30_9]; exact up2_n _ _ (fun q => absurd q.1 (kO.ne (kX.up (xτ2.trans (xσ19_2.trans (xσ22_2.trans xσ29_9)))) (kth.up (xτ2.trans (xσ19_2.trans (xσ22_2.trans xσ29_9)))) (by decide)))
                      have kp187 : gP σ30_9 th 0 = gP σ29_9 th 0 := by rw [eσ30_9]
                      unfold w_X6_next_209
                      exact hQ σ30_9 () iσ30_9 fσ30_9 (⟨by first | exact kvw | exact fun e => absurd e (by omega), by omega⟩)
                    · rw [if_neg hc177]
                      have hc177q := Classical.not_not.mp hc177
                      unfold w_X6_next_189
                      refine i_X6_refuse iσ22_2 (kth.up (xτ2.trans (xσ19_2.trans xσ22_2))) (by (first | omega | with_reducible assumption | with_reducible exact rng_toInt _ | with_reducible exact rng_wr _ | (unfold rng; omega) | (unfold rng at *; omega) | assumption)) (by (first | omega | with_reducible assumption | with_reducible exact rng_toInt _ | with_reducible exact rng_wr _ | (unfold rng; omega) | (unfold rng at *; omega) | assumption)) (by (first | omega | with_reducible assumption | with_reducible exact rng_toInt _ | with_reducible exact rng_wr _ | (unfold rng; omega) | (unfold rng at *; omega) | assumption)) (fun σ28_9 _ iσ28_9 cσ28_9 pσ28_9 => ?_) (fun σx LLx Nx nux E ix cx ux px => hX σx LLx Nx nux E ix (fσ22_2.tr (cx.mo (by decide))) (ux) (by first | exact px | exact ⟨by have := px.1; omega, px.2⟩ | (first | omega | with_reducible assumption | with_reducible exact rng_toInt _ | with_reducible exact rng_wr _ | (unfold rng; omega) | (unfold rng at *; omega) | assumption)))
                      intro xσ28_9
                      exact pσ28_9.elim
                  · rw [if_neg hc176]
                    unfold w_X6_next_152
                    refine i_X6_digits iσ22_2 (kth.up (xτ2.trans (xσ19_2.trans xσ22_2))) (kp161.trans (kp153.trans (kp1.trans hX0))) (kX.up (xτ2.trans (xσ19_2.trans xσ22_2))) (((xτ2.trans (xσ19_2.trans xσ22_2)) tx kX.1).2.2.trans gX) (by omega) (by rw [xk22]; have a9 := ge64 (a := 48) r22 (by rw [← v22]; assumption); have b9 := le64 (a := 57) r22 (by rw [← v22]; assumption); have c9 : (48 : Int64).toInt = 48 := rfl; have d9 : (57 : Int64).toInt = 57 := rfl; omega) (fun σ24_4 _ iσ24_4 cσ24_4 pσ24_4 => ?_)
                    intro xσ24_4
                    have fσ24_4 : Fx [386, 387, 388, 389, 390] gr σ σ24_4 := fσ22_2.tr (cσ24_4.mo (by decide))
                    have kp188 : gI σ24_4 th 1 = gI σ22_2 th 1 := (cσ24_4.O (kth.up (xτ2.trans (xσ19_2.trans xσ22_2))) (by decide)).1
                    have kp189 : gI σ24_4 th 5 = gI σ22_2 th 5 := (cσ24_4.O (kth.up (xτ2.trans (xσ19_2.trans xσ22_2))) (by decide)).1
                    have kp190 : gI σ24_4 tx (gI τ2 th 2).toNat = gI σ22_2 tx (gI τ2 th 2).toNat := (cσ24_4.A (kX.up (xτ2.trans (xσ19_2.trans xσ22_2))) (by decide)).1
                    have kp191 : gP σ24_4 th 0 = gP σ22_2 th 0 := (cσ24_4.O (kth.up (xτ2.trans (xσ19_2.trans xσ22_2))) (by decide)).2.1
                    have q192 := I_6_2 iσ24_4.1 (kth.up (xτ2.trans (xσ19_2.trans (xσ22_2.trans xσ24_4))))
                    refine ⟨by (first | omega | with_reducible assumption | with_reducible exact rng_toInt _ | with_reducible exact rng_wr _ | (unfold rng; omega) | (unfold rng at *; omega) | assumption), ?_⟩
                    by_cases hc193 : (gI σ24_4 th 2 - gI σ24_4 th 5) ≤ 18
                    · rw [if_pos hc193]
                      unfold w_X6_next_209
                      exact hQ σ24_4 () iσ24_4 fσ24_4 (⟨by first | exact kvw | exact fun e => absurd e (by omega), by omega⟩)
                    · rw [if_neg hc193]
                      unfold w_X6_next_170
                      refine i_X6_refuse iσ24_4 (kth.up (xτ2.trans (xσ19_2.trans (xσ22_2.trans xσ24_4)))) (by (first | omega | with_reducible assumption | with_reducible exact rng_toInt _ | with_reducible exact rng_wr _ | (unfold rng; omega) | (unfold rng at *; omega) | assumption)) (by (first | omega | with_reducible assumption | with_reducible exact rng_toInt _ | with_reducible exact rng_wr _ | (unfold rng; omega) | (unfold rng at *; omega) | assumption)) (by (first | omega | with_reducible assumption | with_reducible exact rng_toInt _ | with_reducible exact rng_wr _ | (unfold rng; omega) | (unfold rng at *; omega) | assumption)) (fun σ25_4 _ iσ25_4 cσ25_4 pσ25_4 => ?_) (fun σx LLx Nx nux E ix cx ux px => hX σx LLx Nx nux E ix (fσ24_4.tr (cx.mo (by decide))) (ux) (by first | exact px | exact ⟨by have := px.1; omega, px.2⟩ | (first | omega | with_reducible assumption | with_reducible exact rng_toInt _ | with_reducible exact rng_wr _ | (unfold rng; omega) | (unfold rng at *; omega) | assumption)))
                      intro xσ25_4
                      exact pσ25_4.elim
              · rw [if_neg hc163]
                unfold w_X6_next_112
                by_cases hc194 : gJ σ22_2 th 4 > 122
                · rw [if_pos hc194]
                  unfold w_X6_next_130
                  by_cases hc195 : gJ σ22_2 th 4 < 48
                  · rw [if_pos hc195]
                    unfold w_X6_next_178
                    refine i_X6_isSignByte iσ22_2 (fun r27_10 pσ26_10 => ?_)
                    intro xσ26_10
                    by_cases hc196 : r27_10 ≠ 0
                    · rw [if_pos hc196]
                      unfold w_X6_next_194
                      intro σ29_10 eσ29_10
                      have xσ29_10 : Ext σ22_2 σ29_10 := by rw [eσ29_10]; exact fun _ h => ⟨h, rfl, rfl⟩
                      have iσ29_10 : IV σ29_10 pl gq ci gr nc ot LL N nu := by rw [eσ29_10]; exact iσ22_2.wO (kth.up (xτ2.trans (xσ19_2.trans xσ22_2))) (by decide) (rngb (by first | exact rng_wr _ | (first | omega | with_reducible assumption | with_reducible exact rng_toInt _ | with_reducible exact rng_wr _ | (unfold rng; omega) | (unfold rng at *; omega) | assumption)))
                      have fσ29_10 : Fx [386, 387, 388, 389, 390] gr σ σ29_10 := fσ22_2.tr (Sk.fx (by rw [eσ29_10]; exact Sk.pI (by rw [fcdO (kth.up (xτ2.trans (xσ19_2.trans xσ22_2))) (by decide)]; decide)))
                      have wσ29_10 : gI σ29_10 th 3 = 5 := by rw [eσ29_10]; exact up2_s _ _ _ _
                      have kp197 : gI σ29_10 th 1 = gI σ22_2 th 1 := by rw [eσ29_10]; exact up2_n _ _ (fun q => absurd q.2 (by decide))
                      have kp198 : gI σ29_10 th 2 = gI σ22_2 th 2 := by rw [eσ29_10]; exact up2_n _ _ (fun q => absurd q.2 (by decide))
                      have kp199 : gI σ29_10 th 5 = gI σ22_2 th 5 := by rw [eσ29_10]; exact up2_n _ _ (fun q => absurd q.2 (by decide))
                      have kp200 : gI σ29_10 tx (gI τ2 th 2).toNat = gI σ22_2 tx (gI τ2 th 2).toNat := by rw [eσ29_10]; exact up2_n _ _ (fun q => absurd q.1 (kO.ne (kX.up (xτ2.trans (xσ19_2.trans xσ22_2))) (kth.up (xτ2.trans (xσ19_2.trans xσ22_2))) (by decide)))
                      have kp201 : gP σ29_10 th 0 = gP σ22_2 th 0 := by rw [eσ29_10]
                      refine ⟨by (first | omega | with_reducible assumption | with_reducible exact rng_toInt _ | with_reducible exact rng_wr _ | (unfold rng; omega) | (unfold rng at *; omega) | assumption), ?_⟩
                      intro σ30_10 eσ30_10
                      have xσ30_10 : Ext σ29_10 σ30_10 := by rw [eσ30_10]; exact fun _ h => ⟨h, rfl, rfl⟩
                      have iσ30_10 : IV σ30_10 pl gq ci gr nc ot LL N nu := by rw [eσ30_10]; exact iσ29_10.wO (kth.up (xτ2.trans (xσ19_2.trans (xσ22_2.trans xσ29_10)))) (by decide) (show (0 : Int) ≤ (gI σ29_10 th 2 + 1) ∧ (gI σ29_10 th 2 + 1) ≤ 1500 from ⟨by (first | omega | with_reducible assumption | with_reducible exact rng_toInt _ | with_reducible exact rng_wr _ | (unfold rng; omega) | (unfold rng at *; omega) | assumption), by (first | omega | with_reducible assumption | with_reducible exact rng_toInt _ | with_reducible exact rng_wr _ | (unfold rng; omega) | (unfold rng at *; omega) | assumption)⟩)
                      have fσ30_10 : Fx [386, 387, 388, 389, 390] gr σ σ30_10 := fσ29_10.tr (Sk.fx (by rw [eσ30_10]; exact Sk.pI (by rw [fcdO (kth.up (xτ2.trans (xσ19_2.trans (xσ22_2.trans xσ29_10)))) (by decide)]; decide)))
                      have wσ30_10 : gI σ30_10 th 2 = (gI σ29_10 th 2 + 1) := by rw [eσ30_10]; exact up2_s _ _ _ _
                      have kp202 : gI σ30_10 th 1 = gI σ29_10 th 1 := by rw [eσ30_10]; exact up2_n _ _ (fun q => absurd q.2 (by decide))
                      have kp203 : gI σ30_10 th 3 = gI σ29_10 th 3 := by rw [eσ30_10]; exact up2_n _ _ (fun q => absurd q.2 (by decide))
                      have kp204 : gI σ30_10 th 5 = gI σ29_10 th 5 := by rw [eσ30_10]; exact up2_n _ _ (fun q => absurd q.2 (by decide))
                      have kp205 : gI σ30_10 tx (gI τ2 th 2).toNat = gI σ29_10 tx (gI τ2 th 2).toNat := by rw [eσ30_10]; exact up2_n _ _ (fun q => absurd q.1 (kO.ne (kX.up (xτ2.trans (xσ19_2.trans (xσ22_2.trans xσ29_10)))) (kth.up (xτ2.trans (xσ19_2.trans (xσ22_2.trans xσ29_10)))) (by decide)))
                      have kp206 : gP σ30_10 th 0 = gP σ29_10 th 0 := by rw [eσ30_10]
                      unfold w_X6_next_209
                      exact hQ σ30_10 () iσ30_10 fσ30_10 (⟨by first | exact kvw | exact fun e => absurd e (by omega), by omega⟩)
                    · rw [if_neg hc196]
                      have hc196q := Classical.not_not.mp hc196
                      unfold w_X6_next_189
                      refine i_X6_refuse iσ22_2 (kth.up (xτ2.trans (xσ19_2.trans xσ22_2))) (by (first | omega | with_reducible assumption | with_reducible exact rng_toInt _ | with_reducible exact rng_wr _ | (unfold rng; omega) | (unfold rng at *; omega) | assumption)) (by (first | omega | with_reducible assumption | with_reducible exact rng_toInt _ | with_reducible exact rng_wr _ | (unfold rng; omega) | (unfold rng at *; omega) | assumption)) (by (first | omega | with_reducible assumption | with_reducible exact rng_toInt _ | with_reducible exact rng_wr _ | (unfold rng; omega) | (unfold rng at *; omega) | assumption)) (fun σ28_10 _ iσ28_10 cσ28_10 pσ28_10 => ?_) (fun σx LLx Nx nux E ix cx ux px => hX σx LLx Nx nux E ix (fσ22_2.tr (cx.mo (by decide))) (ux) (by first | exact px | exact ⟨by have := px.1; omega, px.2⟩ | (first | omega | with_reducible assumption | with_reducible exact rng_toInt _ | with_reducible exact rng_wr _ | (unfold rng; omega) | (unfold rng at *; omega) | assumption)))
                      intro xσ28_10
                      exact pσ28_10.elim
                  · rw [if_neg hc195]
                    unfold w_X6_next_141
                    by_cases hc207 : gJ σ22_2 th 4 > 57
                    · rw [if_pos hc207]
                      unfold w_X6_next_178
                      refine i_X6_isSignByte iσ22_2 (fun r27_11 pσ26_11 => ?_)
                      intro xσ26_11
                      by_cases hc208 : r27_11 ≠ 0
                      · rw [if_pos hc208]
                        unfold w_X6_next_194
                        intro σ29_11 eσ29_11
                        have xσ29_11 : Ext σ22_2 σ29_11 := by rw [eσ29_11]; exact fun _ h => ⟨h, rfl, rfl⟩
                        have iσ29_11 : IV σ29_11 pl gq ci gr nc ot LL N nu := by rw [eσ29_11]; exact iσ22_2.wO (kth.up (xτ2.trans (xσ19_2.trans xσ22_2))) (by decide) (rngb (by first | exact rng_wr _ | (first | omega | with_reducible assumption | with_reducible exact rng_toInt _ | with_reducible exact rng_wr _ | (unfold rng; omega) | (unfold rng at *; omega) | assumption)))
                        have fσ29_11 : Fx [386, 387, 388, 389, 390] gr σ σ29_11 := fσ22_2.tr (Sk.fx (by rw [eσ29_11]; exact Sk.pI (by rw [fcdO (kth.up (xτ2.trans (xσ19_2.trans xσ22_2))) (by decide)]; decide)))
                        have wσ29_11 : gI σ29_11 th 3 = 5 := by rw [eσ29_11]; exact up2_s _ _ _ _
                        have kp209 : gI σ29_11 th 1 = gI σ22_2 th 1 := by rw [eσ29_11]; exact up2_n _ _ (fun q => absurd q.2 (by decide))
                        have kp210 : gI σ29_11 th 2 = gI σ22_2 th 2 := by rw [eσ29_11]; exact up2_n _ _ (fun q => absurd q.2 (by decide))
                        have kp211 : gI σ29_11 th 5 = gI σ22_2 th 5 := by rw [eσ29_11]; exact up2_n _ _ (fun q => absurd q.2 (by decide))
                        have kp212 : gI σ29_11 tx (gI τ2 th 2).toNat = gI σ22_2 tx (gI τ2 th 2).toNat := by rw [eσ29_11]; exact up2_n _ _ (fun q => absurd q.1 (kO.ne (kX.up (xτ2.trans (xσ19_2.trans xσ22_2))) (kth.up (xτ2.trans (xσ19_2.trans xσ22_2))) (by decide)))
                        have kp213 : gP σ29_11 th 0 = gP σ22_2 th 0 := by rw [eσ29_11]
                        refine ⟨by (first | omega | with_reducible assumption | with_reducible exact rng_toInt _ | with_reducible exact rng_wr _ | (unfold rng; omega) | (unfold rng at *; omega) | assumption), ?_⟩
                        intro σ30_11 eσ30_11
                        have xσ30_11 : Ext σ29_11 σ30_11 := by rw [eσ30_11]; exact fun _ h => ⟨h, rfl, rfl⟩
                        have iσ30_11 : IV σ30_11 pl gq ci gr nc ot LL N nu := by rw [eσ30_11]; exact iσ29_11.wO (kth.up (xτ2.trans (xσ19_2.trans (xσ22_2.trans xσ29_11)))) (by decide) (show (0 : Int) ≤ (gI σ29_11 th 2 + 1) ∧ (gI σ29_11 th 2 + 1) ≤ 1500 from ⟨by (first | omega | with_reducible assumption | with_reducible exact rng_toInt _ | with_reducible exact rng_wr _ | (unfold rng; omega) | (unfold rng at *; omega) | assumption), by (first | omega | with_reducible assumption | with_reducible exact rng_toInt _ | with_reducible exact rng_wr _ | (unfold rng; omega) | (unfold rng at *; omega) | assumption)⟩)
                        have fσ30_11 : Fx [386, 387, 388, 389, 390] gr σ σ30_11 := fσ29_11.tr (Sk.fx (by rw [eσ30_11]; exact Sk.pI (by rw [fcdO (kth.up (xτ2.trans (xσ19_2.trans (xσ22_2.trans xσ29_11)))) (by decide)]; decide)))
                        have wσ30_11 : gI σ30_11 th 2 = (gI σ29_11 th 2 + 1) := by rw [eσ30_11]; exact up2_s _ _ _ _
                        have kp214 : gI σ30_11 th 1 = gI σ29_11 th 1 := by rw [eσ30_11]; exact up2_n _ _ (fun q => absurd q.2 (by decide))
                        have kp215 : gI σ30_11 th 3 = gI σ29_11 th 3 := by rw [eσ30_11]; exact up2_n _ _ (fun q => absurd q.2 (by decide))
                        have kp216 : gI σ30_11 th 5 = gI σ29_11 th 5 := by rw [eσ30_11]; exact up2_n _ _ (fun q => absurd q.2 (by decide))
                        have kp217 : gI σ30_11 tx (gI τ2 th 2).toNat = gI σ29_11 tx (gI τ2 th 2).toNat := by rw [eσ30_11]; exact up2_n _ _ (fun q => absurd q.1 (kO.ne (kX.up (xτ2.trans (xσ19_2.trans (xσ22_2.trans xσ29_11)))) (kth.up (xτ2.trans (xσ19_2.trans (xσ22_2.trans xσ29_11)))) (by decide)))
                        have kp218 : gP σ30_11 th 0 = gP σ29_11 th 0 := by rw [eσ30_11]
                        unfold w_X6_next_209
                        exact hQ σ30_11 () iσ30_11 fσ30_11 (⟨by first | exact kvw | exact fun e => absurd e (by omega), by omega⟩)
                      · rw [if_neg hc208]
                        have hc208q := Classical.not_not.mp hc208
                        unfold w_X6_next_189
                        refine i_X6_refuse iσ22_2 (kth.up (xτ2.trans (xσ19_2.trans xσ22_2))) (by (first | omega | with_reducible assumption | with_reducible exact rng_toInt _ | with_reducible exact rng_wr _ | (unfold rng; omega) | (unfold rng at *; omega) | assumption)) (by (first | omega | with_reducible assumption | with_reducible exact rng_toInt _ | with_reducible exact rng_wr _ | (unfold rng; omega) | (unfold rng at *; omega) | assumption)) (by (first | omega | with_reducible assumption | with_reducible exact rng_toInt _ | with_reducible exact rng_wr _ | (unfold rng; omega) | (unfold rng at *; omega) | assumption)) (fun σ28_11 _ iσ28_11 cσ28_11 pσ28_11 => ?_) (fun σx LLx Nx nux E ix cx ux px => hX σx LLx Nx nux E ix (fσ22_2.tr (cx.mo (by decide))) (ux) (by first | exact px | exact ⟨by have := px.1; omega, px.2⟩ | (first | omega | with_reducible assumption | with_reducible exact rng_toInt _ | with_reducible exact rng_wr _ | (unfold rng; omega) | (unfold rng at *; omega) | assumption)))
                        intro xσ28_11
                        exact pσ28_11.elim
                    · rw [if_neg hc207]
                      unfold w_X6_next_152
                      refine i_X6_digits iσ22_2 (kth.up (xτ2.trans (xσ19_2.trans xσ22_2))) (kp161.trans (kp153.trans (kp1.trans hX0))) (kX.up (xτ2.trans (xσ19_2.trans xσ22_2))) (((xτ2.trans (xσ19_2.trans xσ22_2)) tx kX.1).2.2.trans gX) (by omega) (by rw [xk22]; have a9 := ge64 (a := 48) r22 (by rw [← v22]; assumption); have b9 := le64 (a := 57) r22 (by rw [← v22]; assumption); have c9 : (48 : Int64).toInt = 48 := rfl; have d9 : (57 : Int64).toInt = 57 := rfl; omega) (fun σ24_5 _ iσ24_5 cσ24_5 pσ24_5 => ?_)
                      intro xσ24_5
                      have fσ24_5 : Fx [386, 387, 388, 389, 390] gr σ σ24_5 := fσ22_2.tr (cσ24_5.mo (by decide))
                      have kp219 : gI σ24_5 th 1 = gI σ22_2 th 1 := (cσ24_5.O (kth.up (xτ2.trans (xσ19_2.trans xσ22_2))) (by decide)).1
                      have kp220 : gI σ24_5 th 5 = gI σ22_2 th 5 := (cσ24_5.O (kth.up (xτ2.trans (xσ19_2.trans xσ22_2))) (by decide)).1
                      have kp221 : gI σ24_5 tx (gI τ2 th 2).toNat = gI σ22_2 tx (gI τ2 th 2).toNat := (cσ24_5.A (kX.up (xτ2.trans (xσ19_2.trans xσ22_2))) (by decide)).1
                      have kp222 : gP σ24_5 th 0 = gP σ22_2 th 0 := (cσ24_5.O (kth.up (xτ2.trans (xσ19_2.trans xσ22_2))) (by decide)).2.1
                      have q223 := I_6_2 iσ24_5.1 (kth.up (xτ2.trans (xσ19_2.trans (xσ22_2.trans xσ24_5))))
                      refine ⟨by (first | omega | with_reducible assumption | with_reducible exact rng_toInt _ | with_reducible exact rng_wr _ | (unfold rng; omega) | (unfold rng at *; omega) | assumption), ?_⟩
                      by_cases hc224 : (gI σ24_5 th 2 - gI σ24_5 th 5) ≤ 18
                      · rw [if_pos hc224]
                        unfold w_X6_next_209
                        exact hQ σ24_5 () iσ24_5 fσ24_5 (⟨by first | exact kvw | exact fun e => absurd e (by omega), by omega⟩)
                      · rw [if_neg hc224]
                        unfold w_X6_next_170
                        refine i_X6_refuse iσ24_5 (kth.up (xτ2.trans (xσ19_2.trans (xσ22_2.trans xσ24_5)))) (by (first | omega | with_reducible assumption | with_reducible exact rng_toInt _ | with_reducible exact rng_wr _ | (unfold rng; omega) | (unfold rng at *; omega) | assumption)) (by (first | omega | with_reducible assumption | with_reducible exact rng_toInt _ | with_reducible exact rng_wr _ | (unfold rng; omega) | (unfold rng at *; omega) | assumption)) (by (first | omega | with_reducible assumption | with_reducible exact rng_toInt _ | with_reducible exact rng_wr _ | (unfold rng; omega) | (unfold rng at *; omega) | assumption)) (fun σ25_5 _ iσ25_5 cσ25_5 pσ25_5 => ?_) (fun σx LLx Nx nux E ix cx ux px => hX σx LLx Nx nux E ix (fσ24_5.tr (cx.mo (by decide))) (ux) (by first | exact px | exact ⟨by have := px.1; omega, px.2⟩ | (first | omega | with_reducible assumption | with_reducible exact rng_toInt _ | with_reducible exact rng_wr _ | (unfold rng; omega) | (unfold rng at *; omega) | assumption)))
                        intro xσ25_5
                        exact pσ25_5.elim
                · rw [if_neg hc194]
                  unfold w_X6_next_123
                  refine i_X6_word iσ22_2 (kth.up (xτ2.trans (xσ19_2.trans xσ22_2))) (kp161.trans (kp153.trans (kp1.trans hX0))) (kX.up (xτ2.trans (xσ19_2.trans xσ22_2))) (((xτ2.trans (xσ19_2.trans xσ22_2)) tx kX.1).2.2.trans gX) (by omega) (by rw [xk22]; have a9 := ge64 (a := 97) r22 (by rw [← v22]; assumption); have b9 := le64 (a := 122) r22 (by rw [← v22]; assumption); have c9 : (97 : Int64).toInt = 97 := rfl; have d9 : (122 : Int64).toInt = 122 := rfl; omega) (fun σ23_2 _ iσ23_2 cσ23_2 pσ23_2 => ?_)
                  intro xσ23_2
                  have fσ23_2 : Fx [386, 387, 388, 389, 390] gr σ σ23_2 := fσ22_2.tr (cσ23_2.mo (by decide))
                  have kp225 : gI σ23_2 th 1 = gI σ22_2 th 1 := (cσ23_2.O (kth.up (xτ2.trans (xσ19_2.trans xσ22_2))) (by decide)).1
                  have kp226 : gI σ23_2 th 5 = gI σ22_2 th 5 := (cσ23_2.O (kth.up (xτ2.trans (xσ19_2.trans xσ22_2))) (by decide)).1
                  have kp227 : gI σ23_2 tx (gI τ2 th 2).toNat = gI σ22_2 tx (gI τ2 th 2).toNat := (cσ23_2.A (kX.up (xτ2.trans (xσ19_2.trans xσ22_2))) (by decide)).1
                  have kp228 : gP σ23_2 th 0 = gP σ22_2 th 0 := (cσ23_2.O (kth.up (xτ2.trans (xσ19_2.trans xσ22_2))) (by decide)).2.1
                  have kvw := pσ23_2.1
                  unfold w_X6_next_209
                  exact hQ σ23_2 () iσ23_2 fσ23_2 (⟨by first | exact kvw | exact fun e => absurd e (by omega), by omega⟩)
            · rw [if_neg hc155]
              unfold w_X6_next_81
              intro σ20_2 eσ20_2
              have xσ20_2 : Ext σ19_2 σ20_2 := by rw [eσ20_2]; exact fun _ h => ⟨h, rfl, rfl⟩
              have iσ20_2 : IV σ20_2 pl gq ci gr nc ot LL N nu := by rw [eσ20_2]; exact iσ19_2.wO (kth.up (xτ2.trans xσ19_2)) (by decide) (rngb (by first | exact rng_wr _ | (first | omega | with_reducible assumption | with_reducible exact rng_toInt _ | with_reducible exact rng_wr _ | (unfold rng; omega) | (unfold rng at *; omega) | assumption)))
              have fσ20_2 : Fx [386, 387, 388, 389, 390] gr σ σ20_2 := fσ19_2.tr (Sk.fx (by rw [eσ20_2]; exact Sk.pI (by rw [fcdO (kth.up (xτ2.trans xσ19_2)) (by decide)]; decide)))
              have wσ20_2 : gI σ20_2 th 3 = 0 := by rw [eσ20_2]; exact up2_s _ _ _ _
              have kp229 : gI σ20_2 th 1 = gI σ19_2 th 1 := by rw [eσ20_2]; exact up2_n _ _ (fun q => absurd q.2 (by decide))
              have kp230 : gI σ20_2 th 2 = gI σ19_2 th 2 := by rw [eσ20_2]; exact up2_n _ _ (fun q => absurd q.2 (by decide))
              have kp231 : gI σ20_2 th 5 = gI σ19_2 th 5 := by rw [eσ20_2]; exact up2_n _ _ (fun q => absurd q.2 (by decide))
              have kp232 : gI σ20_2 tx (gI τ2 th 2).toNat = gI σ19_2 tx (gI τ2 th 2).toNat := by rw [eσ20_2]; exact up2_n _ _ (fun q => absurd q.1 (kO.ne (kX.up (xτ2.trans xσ19_2)) (kth.up (xτ2.trans xσ19_2)) (by decide)))
              have kp233 : gP σ20_2 th 0 = gP σ19_2 th 0 := by rw [eσ20_2]
              exact hQ σ20_2 () iσ20_2 fσ20_2 (⟨by first | exact kvw | exact fun e => absurd e (by omega), by omega⟩)
          · rw [if_neg hc148]
            unfold w_X6_next_32
            refine ⟨tx, (kp1.trans hX0), fun kk_tx_4 => ?_⟩
            refine ⟨⟨by (first | omega | with_reducible assumption | with_reducible exact rng_toInt _ | with_reducible exact rng_wr _ | (unfold rng; omega) | (unfold rng at *; omega) | assumption), by (first | omega | with_reducible assumption | with_reducible exact rng_toInt _ | with_reducible exact rng_wr _ | (unfold rng; omega) | (unfold rng at *; omega) | assumption)⟩, ?_⟩
            by_cases hc234 : (gI τ2 tx (gI τ2 th 2).toNat) > 32
            · rw [if_pos hc234]
              unfold w_X6_next_62
              intro σ19_3 eσ19_3
              have xσ19_3 : Ext τ2 σ19_3 := by rw [eσ19_3]; exact fun _ h => ⟨h, rfl, rfl⟩
              have iσ19_3 : IV σ19_3 pl gq ci gr nc ot LL N nu := by rw [eσ19_3]; exact iτ2.wO (kth.up xτ2) (by decide) (show (0 : Int) ≤ (gI τ2 th 2) ∧ (gI τ2 th 2) ≤ 1500 from ⟨by (first | omega | with_reducible assumption | with_reducible exact rng_toInt _ | with_reducible exact rng_wr _ | (unfold rng; omega) | (unfold rng at *; omega) | assumption), by (first | omega | with_reducible assumption | with_reducible exact rng_toInt _ | with_reducible exact rng_wr _ | (unfold rng; omega) | (unfold rng at *; omega) | assumption)⟩)
              have fσ19_3 : Fx [386, 387, 388, 389, 390] gr σ σ19_3 := fτ2.tr (Sk.fx (by rw [eσ19_3]; exact Sk.pI (by rw [fcdO (kth.up xτ2) (by decide)]; decide)))
              have wσ19_3 : gI σ19_3 th 5 = (gI τ2 th 2) := by rw [eσ19_3]; exact up2_s _ _ _ _
              have kp235 : gI σ19_3 th 1 = gI τ2 th 1 := by rw [eσ19_3]; exact up2_n _ _ (fun q => absurd q.2 (by decide))
              have kp236 : gI σ19_3 th 2 = gI τ2 th 2 := by rw [eσ19_3]; exact up2_n _ _ (fun q => absurd q.2 (by decide))
              have kp237 : gI σ19_3 tx (gI τ2 th 2).toNat = gI τ2 tx (gI τ2 th 2).toNat := by rw [eσ19_3]; exact up2_n _ _ (fun q => absurd q.1 (kO.ne (kX.up xτ2) (kth.up xτ2) (by decide)))
              have kp238 : gP σ19_3 th 0 = gP τ2 th 0 := by rw [eσ19_3]
              have kp239 : gI σ19_3 th 3 = gI τ2 th 3 := by rw [eσ19_3]; exact up2_n _ _ (fun q => absurd q.2 (by decide))
              by_cases hc240 : gI σ19_3 th 2 < gI σ19_3 th 1
              · rw [if_pos hc240]
                unfold w_X6_next_87
                refine ⟨tx, (kp238.trans (kp1.trans hX0)), fun kk_tx_5 => ?_⟩
                have q241 := ((xτ2.trans xσ19_3) tx kX.1).2.2
                refine ⟨⟨by (first | omega | with_reducible assumption | with_reducible exact rng_toInt _ | with_reducible exact rng_wr _ | (unfold rng; omega) | (unfold rng at *; omega) | assumption), by (first | omega | with_reducible assumption | with_reducible exact rng_toInt _ | with_reducible exact rng_wr _ | (unfold rng; omega) | (unfold rng at *; omega) | assumption)⟩, ?_⟩
                intro σ22_3 eσ22_3
                have xσ22_3 : Ext σ19_3 σ22_3 := by rw [eσ22_3]; exact fun _ h => ⟨h, rfl, rfl⟩
                have iσ22_3 : IV σ22_3 pl gq ci gr nc ot LL N nu := by rw [eσ22_3]; exact iσ19_3.wJ (kth.up (xτ2.trans xσ19_3)) (by decide)
                have fσ22_3 : Fx [386, 387, 388, 389, 390] gr σ σ22_3 := fσ19_3.tr (Sk.fx (by rw [eσ22_3]; exact Sk.pJ (by rw [fcdO (kth.up (xτ2.trans xσ19_3)) (by decide)]; decide)))
                have kp242 : gI σ22_3 th 1 = gI σ19_3 th 1 := by rw [eσ22_3]
                have kp243 : gI σ22_3 th 2 = gI σ19_3 th 2 := by rw [eσ22_3]
                have kp244 : gI σ22_3 th 5 = gI σ19_3 th 5 := by rw [eσ22_3]
                have kp245 : gI σ22_3 tx (gI τ2 th 2).toNat = gI σ19_3 tx (gI τ2 th 2).toNat := by rw [eσ22_3]
                have kp246 : gP σ22_3 th 0 = gP σ19_3 th 0 := by rw [eσ22_3]
                have kp247 : gI σ22_3 th 3 = gI σ19_3 th 3 := by rw [eσ22_3]
                have v22 : gJ σ22_3 th 4 = Int64.ofInt (gI σ19_3 tx (gI σ19_3 th 2).toNat) := by rw [eσ22_3]; exact up2_s _ _ _ _
                have r22 := iσ19_3.rg tx (gI σ19_3 th 2).toNat
                have xk22 : gI σ22_3 tx (gI σ22_3 th 2).toNat = gI σ19_3 tx (gI σ19_3 th 2).toNat := by rw [eσ22_3]
                by_cases hc248 : gJ σ22_3 th 4 < 97
                · rw [if_pos hc248]
                  unfold w_X6_next_130
                  by_cases hc249 : gJ σ22_3 th 4 < 48
                  · rw [if_pos hc249]
                    unfold w_X6_next_178
                    refine i_X6_isSignByte iσ22_3 (fun r27_12 pσ26_12 => ?_)
                    intro xσ26_12
                    by_cases hc250 : r27_12 ≠ 0
                    · rw [if_pos hc250]
                      unfold w_X6_next_194
                      intro σ29_12 eσ29_12
                      have xσ29_12 : Ext σ22_3 σ29_12 := by rw [eσ29_12]; exact fun _ h => ⟨h, rfl, rfl⟩
                      have iσ29_12 : IV σ29_12 pl gq ci gr nc ot LL N nu := by rw [eσ29_12]; exact iσ22_3.wO (kth.up (xτ2.trans (xσ19_3.trans xσ22_3))) (by decide) (rngb (by first | exact rng_wr _ | (first | omega | with_reducible assumption | with_reducible exact rng_toInt _ | with_reducible exact rng_wr _ | (unfold rng; omega) | (unfold rng at *; omega) | assumption)))
                      have fσ29_12 : Fx [386, 387, 388, 389, 390] gr σ σ29_12 := fσ22_3.tr (Sk.fx (by rw [eσ29_12]; exact Sk.pI (by rw [fcdO (kth.up (xτ2.trans (xσ19_3.trans xσ22_3))) (by decide)]; decide)))
                      have wσ29_12 : gI σ29_12 th 3 = 5 := by rw [eσ29_12]; exact up2_s _ _ _ _
                      have kp251 : gI σ29_12 th 1 = gI σ22_3 th 1 := by rw [eσ29_12]; exact up2_n _ _ (fun q => absurd q.2 (by decide))
                      have kp252 : gI σ29_12 th 2 = gI σ22_3 th 2 := by rw [eσ29_12]; exact up2_n _ _ (fun q => absurd q.2 (by decide))
                      have kp253 : gI σ29_12 th 5 = gI σ22_3 th 5 := by rw [eσ29_12]; exact up2_n _ _ (fun q => absurd q.2 (by decide))
                      have kp254 : gI σ29_12 tx (gI τ2 th 2).toNat = gI σ22_3 tx (gI τ2 th 2).toNat := by rw [eσ29_12]; exact up2_n _ _ (fun q => absurd q.1 (kO.ne (kX.up (xτ2.trans (xσ19_3.trans xσ22_3))) (kth.up (xτ2.trans (xσ19_3.trans xσ22_3))) (by decide)))
                      have kp255 : gP σ29_12 th 0 = gP σ22_3 th 0 := by rw [eσ29_12]
                      refine ⟨by (first | omega | with_reducible assumption | with_reducible exact rng_toInt _ | with_reducible exact rng_wr _ | (unfold rng; omega) | (unfold rng at *; omega) | assumption), ?_⟩
                      intro σ30_12 eσ30_12
                      have xσ30_12 : Ext σ29_12 σ30_12 := by rw [eσ30_12]; exact fun _ h => ⟨h, rfl, rfl⟩
                      have iσ30_12 : IV σ30_12 pl gq ci gr nc ot LL N nu := by rw [eσ30_12]; exact iσ29_12.wO (kth.up (xτ2.trans (xσ19_3.trans (xσ22_3.trans xσ29_12)))) (by decide) (show (0 : Int) ≤ (gI σ29_12 th 2 + 1) ∧ (gI σ29_12 th 2 + 1) ≤ 1500 from ⟨by (first | omega | with_reducible assumption | with_reducible exact rng_toInt _ | with_reducible exact rng_wr _ | (unfold rng; omega) | (unfold rng at *; omega) | assumption), by (first | omega | with_reducible assumption | with_reducible exact rng_toInt _ | with_reducible exact rng_wr _ | (unfold rng; omega) | (unfold rng at *; omega) | assumption)⟩)
                      have fσ30_12 : Fx [386, 387, 388, 389, 390] gr σ σ30_12 := fσ29_12.tr (Sk.fx (by rw [eσ30_12]; exact Sk.pI (by rw [fcdO (kth.up (xτ2.trans (xσ19_3.trans (xσ22_3.trans xσ29_12)))) (by decide)]; decide)))
                      have wσ30_12 : gI σ30_12 th 2 = (gI σ29_12 th 2 + 1) := by rw [eσ30_12]; exact up2_s _ _ _ _
                      have kp256 : gI σ30_12 th 1 = gI σ29_12 th 1 := by rw [eσ30_12]; exact up2_n _ _ (fun q => absurd q.2 (by decide))
                      have kp257 : gI σ30_12 th 3 = gI σ29_12 th 3 := by rw [eσ30_12]; exact up2_n _ _ (fun q => absurd q.2 (by decide))
                      have kp258 : gI σ30_12 th 5 = gI σ29_12 th 5 := by rw [eσ30_12]; exact up2_n _ _ (fun q => absurd q.2 (by decide))
                      have kp259 : gI σ30_12 tx (gI τ2 th 2).toNat = gI σ29_12 tx (gI τ2 th 2).toNat := by rw [eσ30_12]; exact up2_n _ _ (fun q => absurd q.1 (kO.ne (kX.up (xτ2.trans (xσ19_3.trans (xσ22_3.trans xσ29_12)))) (kth.up (xτ2.trans (xσ19_3.trans (xσ22_3.trans xσ29_12)))) (by decide)))
                      have kp260 : gP σ30_12 th 0 = gP σ29_12 th 0 := by rw [eσ30_12]
                      unfold w_X6_next_209
                      exact hQ σ30_12 () iσ30_12 fσ30_12 (⟨by first | exact kvw | exact fun e => absurd e (by omega), by omega⟩)
                    · rw [if_neg hc250]
                      have hc250q := Classical.not_not.mp hc250
                      unfold w_X6_next_189
                      refine i_X6_refuse iσ22_3 (kth.up (xτ2.trans (xσ19_3.trans xσ22_3))) (by (first | omega | with_reducible assumption | with_reducible exact rng_toInt _ | with_reducible exact rng_wr _ | (unfold rng; omega) | (unfold rng at *; omega) | assumption)) (by (first | omega | with_reducible assumption | with_reducible exact rng_toInt _ | with_reducible exact rng_wr _ | (unfold rng; omega) | (unfold rng at *; omega) | assumption)) (by (first | omega | with_reducible assumption | with_reducible exact rng_toInt _ | with_reducible exact rng_wr _ | (unfold rng; omega) | (unfold rng at *; omega) | assumption)) (fun σ28_12 _ iσ28_12 cσ28_12 pσ28_12 => ?_) (fun σx LLx Nx nux E ix cx ux px => hX σx LLx Nx nux E ix (fσ22_3.tr (cx.mo (by decide))) (ux) (by first | exact px | exact ⟨by have := px.1; omega, px.2⟩ | (first | omega | with_reducible assumption | with_reducible exact rng_toInt _ | with_reducible exact rng_wr _ | (unfold rng; omega) | (unfold rng at *; omega) | assumption)))
                      intro xσ28_12
                      exact pσ28_12.elim
                  · rw [if_neg hc249]
                    unfold w_X6_next_141
                    by_cases hc261 : gJ σ22_3 th 4 > 57
                    · rw [if_pos hc261]
                      unfold w_X6_next_178
                      refine i_X6_isSignByte iσ22_3 (fun r27_13 pσ26_13 => ?_)
                      intro xσ26_13
                      by_cases hc262 : r27_13 ≠ 0
                      · rw [if_pos hc262]
                        unfold w_X6_next_194
                        intro σ29_13 eσ29_13
                        have xσ29_13 : Ext σ22_3 σ29_13 := by rw [eσ29_13]; exact fun _ h => ⟨h, rfl, rfl⟩
                        have iσ29_13 : IV σ29_13 pl gq ci gr nc ot LL N nu := by rw [eσ29_13]; exact iσ22_3.wO (kth.up (xτ2.trans (xσ19_3.trans xσ22_3))) (by decide) (rngb (by first | exact rng_wr _ | (first | omega | with_reducible assumption | with_reducible exact rng_toInt _ | with_reducible exact rng_wr _ | (unfold rng; omega) | (unfold rng at *; omega) | assumption)))
                        have fσ29_13 : Fx [386, 387, 388, 389, 390] gr σ σ29_13 := fσ22_3.tr (Sk.fx (by rw [eσ29_13]; exact Sk.pI (by rw [fcdO (kth.up (xτ2.trans (xσ19_3.trans xσ22_3))) (by decide)]; decide)))
                        have wσ29_13 : gI σ29_13 th 3 = 5 := by rw [eσ29_13]; exact up2_s _ _ _ _
                        have kp263 : gI σ29_13 th 1 = gI σ22_3 th 1 := by rw [eσ29_13]; exact up2_n _ _ (fun q => absurd q.2 (by decide))
                        have kp264 : gI σ29_13 th 2 = gI σ22_3 th 2 := by rw [eσ29_13]; exact up2_n _ _ (fun q => absurd q.2 (by decide))
                        have kp265 : gI σ29_13 th 5 = gI σ22_3 th 5 := by rw [eσ29_13]; exact up2_n _ _ (fun q => absurd q.2 (by decide))
                        have kp266 : gI σ29_13 tx (gI τ2 th 2).toNat = gI σ22_3 tx (gI τ2 th 2).toNat := by rw [eσ29_13]; exact up2_n _ _ (fun q => absurd q.1 (kO.ne (kX.up (xτ2.trans (xσ19_3.trans xσ22_3))) (kth.up (xτ2.trans (xσ19_3.trans xσ22_3))) (by decide)))
                        have kp267 : gP σ29_13 th 0 = gP σ22_3 th 0 := by rw [eσ29_13]
                        refine ⟨by (first | omega | with_reducible assumption | with_reducible exact rng_toInt _ | with_reducible exact rng_wr _ | (unfold rng; omega) | (unfold rng at *; omega) | assumption), ?_⟩
                        intro σ30_13 eσ30_13
                        have xσ30_13 : Ext σ29_13 σ30_13 := by rw [eσ30_13]; exact fun _ h => ⟨h, rfl, rfl⟩
                        have iσ30_13 : IV σ30_13 pl gq ci gr nc ot LL N nu := by rw [eσ30_13]; exact iσ29_13.wO (kth.up (xτ2.trans (xσ19_3.trans (xσ22_3.trans xσ29_13)))) (by decide) (show (0 : Int) ≤ (gI σ29_13 th 2 + 1) ∧ (gI σ29_13 th 2 + 1) ≤ 1500 from ⟨by (first | omega | with_reducible assumption | with_reducible exact rng_toInt _ | with_reducible exact rng_wr _ | (unfold rng; omega) | (unfold rng at *; omega) | assumption), by (first | omega | with_reducible assumption | with_reducible exact rng_toInt _ | with_reducible exact rng_wr _ | (unfold rng; omega) | (unfold rng at *; omega) | assumption)⟩)
                        have fσ30_13 : Fx [386, 387, 388, 389, 390] gr σ σ30_13 := fσ29_13.tr (Sk.fx (by rw [eσ30_13]; exact Sk.pI (by rw [fcdO (kth.up (xτ2.trans (xσ19_3.trans (xσ22_3.trans xσ29_13)))) (by decide)]; decide)))
                        have wσ30_13 : gI σ30_13 th 2 = (gI σ29_13 th 2 + 1) := by rw [eσ30_13]; exact up2_s _ _ _ _
                        have kp268 : gI σ30_13 th 1 = gI σ29_13 th 1 := by rw [eσ30_13]; exact up2_n _ _ (fun q => absurd q.2 (by decide))
                        have kp269 : gI σ30_13 th 3 = gI σ29_13 th 3 := by rw [eσ30_13]; exact up2_n _ _ (fun q => absurd q.2 (by decide))
                        have kp270 : gI σ30_13 th 5 = gI σ29_13 th 5 := by rw [eσ30_13]; exact up2_n _ _ (fun q => absurd q.2 (by decide))
                        have kp271 : gI σ30_13 tx (gI τ2 th 2).toNat = gI σ29_13 tx (gI τ2 th 2).toNat := by rw [eσ30_13]; exact up2_n _ _ (fun q => absurd q.1 (kO.ne (kX.up (xτ2.trans (xσ19_3.trans (xσ22_3.trans xσ29_13)))) (kth.up (xτ2.trans (xσ19_3.trans (xσ22_3.trans xσ29_13)))) (by decide)))
                        have kp272 : gP σ30_13 th 0 = gP σ29_13 th 0 := by rw [eσ30_13]
                        unfold w_X6_next_209
                        exact hQ σ30_13 () iσ30_13 fσ30_13 (⟨by first | exact kvw | exact fun e => absurd e (by omega), by omega⟩)
                      · rw [if_neg hc262]
                        have hc262q := Classical.not_not.mp hc262
                        unfold w_X6_next_189
                        refine i_X6_refuse iσ22_3 (kth.up (xτ2.trans (xσ19_3.trans xσ22_3))) (by (first | omega | with_reducible assumption | with_reducible exact rng_toInt _ | with_reducible exact rng_wr _ | (unfold rng; omega) | (unfold rng at *; omega) | assumption)) (by (first | omega | with_reducible assumption | with_reducible exact rng_toInt _ | with_reducible exact rng_wr _ | (unfold rng; omega) | (unfold rng at *; omega) | assumption)) (by (first | omega | with_reducible assumption | with_reducible exact rng_toInt _ | with_reducible exact rng_wr _ | (unfold rng; omega) | (unfold rng at *; omega) | assumption)) (fun σ28_13 _ iσ28_13 cσ28_13 pσ28_13 => ?_) (fun σx LLx Nx nux E ix cx ux px => hX σx LLx Nx nux E ix (fσ22_3.tr (cx.mo (by decide))) (ux) (by first | exact px | exact ⟨by have := px.1; omega, px.2⟩ | (first | omega | with_reducible assumption | with_reducible exact rng_toInt _ | with_reducible exact rng_wr _ | (unfold rng; omega) | (unfold rng at *; omega) | assumption)))
                        intro xσ28_13
                        exact pσ28_13.elim
                    · rw [if_neg hc261]
                      unfold w_X6_next_152
                      refine i_X6_digits iσ22_3 (kth.up (xτ2.trans (xσ19_3.trans xσ22_3))) (kp246.trans (kp238.trans (kp1.trans hX0))) (kX.up (xτ2.trans (xσ19_3.trans xσ22_3))) (((xτ2.trans (xσ19_3.trans xσ22_3)) tx kX.1).2.2.trans gX) (by omega) (by rw [xk22]; have a9 := ge64 (a := 48) r22 (by rw [← v22]; assumption); have b9 := le64 (a := 57) r22 (by rw [← v22]; assumption); have c9 : (48 : Int64).toInt = 48 := rfl; have d9 : (57 : Int64).toInt = 57 := rfl; omega) (fun σ24_6 _ iσ24_6 cσ24_6 pσ24_6 => ?_)
                      intro xσ24_6
                      have fσ24_6 : Fx [386, 387, 388, 389, 390] gr σ σ24_6 := fσ22_3.tr (cσ24_6.mo (by decide))
                      have kp273 : gI σ24_6 th 1 = gI σ22_3 th 1 := (cσ24_6.O (kth.up (xτ2.trans (xσ19_3.trans xσ22_3))) (by decide)).1
                      have kp274 : gI σ24_6 th 5 = gI σ22_3 th 5 := (cσ24_6.O (kth.up (xτ2.trans (xσ19_3.trans xσ22_3))) (by decide)).1
                      have kp275 : gI σ24_6 tx (gI τ2 th 2).toNat = gI σ22_3 tx (gI τ2 th 2).toNat := (cσ24_6.A (kX.up (xτ2.trans (xσ19_3.trans xσ22_3))) (by decide)).1
                      have kp276 : gP σ24_6 th 0 = gP σ22_3 th 0 := (cσ24_6.O (kth.up (xτ2.trans (xσ19_3.trans xσ22_3))) (by decide)).2.1
                      have q277 := I_6_2 iσ24_6.1 (kth.up (xτ2.trans (xσ19_3.trans (xσ22_3.trans xσ24_6))))
                      refine ⟨by (first | omega | with_reducible assumption | with_reducible exact rng_toInt _ | with_reducible exact rng_wr _ | (unfold rng; omega) | (unfold rng at *; omega) | assumption), ?_⟩
                      by_cases hc278 : (gI σ24_6 th 2 - gI σ24_6 th 5) ≤ 18
                      · rw [if_pos hc278]
                        unfold w_X6_next_209
                        exact hQ σ24_6 () iσ24_6 fσ24_6 (⟨by first | exact kvw | exact fun e => absurd e (by omega), by omega⟩)
                      · rw [if_neg hc278]
                        unfold w_X6_next_170
                        refine i_X6_refuse iσ24_6 (kth.up (xτ2.trans (xσ19_3.trans (xσ22_3.trans xσ24_6)))) (by (first | omega | with_reducible assumption | with_reducible exact rng_toInt _ | with_reducible exact rng_wr _ | (unfold rng; omega) | (unfold rng at *; omega) | assumption)) (by (first | omega | with_reducible assumption | with_reducible exact rng_toInt _ | with_reducible exact rng_wr _ | (unfold rng; omega) | (unfold rng at *; omega) | assumption)) (by (first | omega | with_reducible assumption | with_reducible exact rng_toInt _ | with_reducible exact rng_wr _ | (unfold rng; omega) | (unfold rng at *; omega) | assumption)) (fun σ25_6 _ iσ25_6 cσ25_6 pσ25_6 => ?_) (fun σx LLx Nx nux E ix cx ux px => hX σx LLx Nx nux E ix (fσ24_6.tr (cx.mo (by decide))) (ux) (by first | exact px | exact ⟨by have := px.1; omega, px.2⟩ | (first | omega | with_reducible assumption | with_reducible exact rng_toInt _ | with_reducible exact rng_wr _ | (unfold rng; omega) | (unfold rng at *; omega) | assumption)))
                        intro xσ25_6
                        exact pσ25_6.elim
                · rw [if_neg hc248]
                  unfold w_X6_next_112
                  by_cases hc279 : gJ σ22_3 th 4 > 122
                  · rw [if_pos hc279]
                    unfold w_X6_next_130
                    by_cases hc280 : gJ σ22_3 th 4 < 48
                    · rw [if_pos hc280]
                      unfold w_X6_next_178
                      refine i_X6_isSignByte iσ22_3 (fun r27_14 pσ26_14 => ?_)
                      intro xσ26_14
                      by_cases hc281 : r27_14 ≠ 0
                      · rw [if_pos hc281]
                        unfold w_X6_next_194
                        intro σ29_14 eσ29_14
                        have xσ29_14 : Ext σ22_3 σ29_14 := by rw [eσ29_14]; exact fun _ h => ⟨h, rfl, rfl⟩
                        have iσ29_14 : IV σ29_14 pl gq ci gr nc ot LL N nu := by rw [eσ29_14]; exact iσ22_3.wO (kth.up (xτ2.trans (xσ19_3.trans xσ22_3))) (by decide) (rngb (by first | exact rng_wr _ | (first | omega | with_reducible assumption | with_reducible exact rng_toInt _ | with_reducible exact rng_wr _ | (unfold rng; omega) | (unfold rng at *; omega) | assumption)))
                        have fσ29_14 : Fx [386, 387, 388, 389, 390] gr σ σ29_14 := fσ22_3.tr (Sk.fx (by rw [eσ29_14]; exact Sk.pI (by rw [fcdO (kth.up (xτ2.trans (xσ19_3.trans xσ22_3))) (by decide)]; decide)))
                        have wσ29_14 : gI σ29_14 th 3 = 5 := by rw [eσ29_14]; exact up2_s _ _ _ _
                        have kp282 : gI σ29_14 th 1 = gI σ22_3 th 1 := by rw [eσ29_14]; exact up2_n _ _ (fun q => absurd q.2 (by decide))
                        have kp283 : gI σ29_14 th 2 = gI σ22_3 th 2 := by rw [eσ29_14]; exact up2_n _ _ (fun q => absurd q.2 (by decide))
                        have kp284 : gI σ29_14 th 5 = gI σ22_3 th 5 := by rw [eσ29_14]; exact up2_n _ _ (fun q => absurd q.2 (by decide))
                        have kp285 : gI σ29_14 tx (gI τ2 th 2).toNat = gI σ22_3 tx (gI τ2 th 2).toNat := by rw [eσ29_14]; exact up2_n _ _ (fun q => absurd q.1 (kO.ne (kX.up (xτ2.trans (xσ19_3.trans xσ22_3))) (kth.up (xτ2.trans (xσ19_3.trans xσ22_3))) (by decide)))
                        have kp286 : gP σ29_14 th 0 = gP σ22_3 th 0 := by rw [eσ29_14]
                        refine ⟨by (first | omega | with_reducible assumption | with_reducible exact rng_toInt _ | with_reducible exact rng_wr _ | (unfold rng; omega) | (unfold rng at *; omega) | assumption), ?_⟩
                        intro σ30_14 eσ30_14
                        have xσ30_14 : Ext σ29_14 σ30_14 := by rw [eσ30_14]; exact fun _ h => ⟨h, rfl, rfl⟩
                        have iσ30_14 : IV σ30_14 pl gq ci gr nc ot LL N nu := by rw [eσ30_14]; exact iσ29_14.wO (kth.up (xτ2.trans (xσ19_3.trans (xσ22_3.trans xσ29_14)))) (by decide) (show (0 : Int) ≤ (gI σ29_14 th 2 + 1) ∧ (gI σ29_14 th 2 + 1) ≤ 1500 from ⟨by (first | omega | with_reducible assumption | with_reducible exact rng_toInt _ | with_reducible exact rng_wr _ | (unfold rng; omega) | (unfold rng at *; omega) | assumption), by (first | omega | with_reducible assumption | with_reducible exact rng_toInt _ | with_reducible exact rng_wr _ | (unfold rng; omega) | (unfold rng at *; omega) | assumption)⟩)
                        have fσ30_14 : Fx [386, 387, 388, 389, 390] gr σ σ30_14 := fσ29_14.tr (Sk.fx (by rw [eσ30_14]; exact Sk.pI (by rw [fcdO (kth.up (xτ2.trans (xσ19_3.trans (xσ22_3.trans xσ29_14)))) (by decide)]; decide)))
                        have wσ30_14 : gI σ30_14 th 2 = (gI σ29_14 th 2 + 1) := by rw [eσ30_14]; exact up2_s _ _ _ _
                        have kp287 : gI σ30_14 th 1 = gI σ29_14 th 1 := by rw [eσ30_14]; exact up2_n _ _ (fun q => absurd q.2 (by decide))
                        have kp288 : gI σ30_14 th 3 = gI σ29_14 th 3 := by rw [eσ30_14]; exact up2_n _ _ (fun q => absurd q.2 (by decide))
                        have kp289 : gI σ30_14 th 5 = gI σ29_14 th 5 := by rw [eσ30_14]; exact up2_n _ _ (fun q => absurd q.2 (by decide))
                        have kp290 : gI σ30_14 tx (gI τ2 th 2).toNat = gI σ29_14 tx (gI τ2 th 2).toNat := by rw [eσ30_14]; exact up2_n _ _ (fun q => absurd q.1 (kO.ne (kX.up (xτ2.trans (xσ19_3.trans (xσ22_3.trans xσ29_14)))) (kth.up (xτ2.trans (xσ19_3.trans (xσ22_3.trans xσ29_14)))) (by decide)))
                        have kp291 : gP σ30_14 th 0 = gP σ29_14 th 0 := by rw [eσ30_14]
                        unfold w_X6_next_209
                        exact hQ σ30_14 () iσ30_14 fσ30_14 (⟨by first | exact kvw | exact fun e => absurd e (by omega), by omega⟩)
                      · rw [if_neg hc281]
                        have hc281q := Classical.not_not.mp hc281
                        unfold w_X6_next_189
                        refine i_X6_refuse iσ22_3 (kth.up (xτ2.trans (xσ19_3.trans xσ22_3))) (by (first | omega | with_reducible assumption | with_reducible exact rng_toInt _ | with_reducible exact rng_wr _ | (unfold rng; omega) | (unfold rng at *; omega) | assumption)) (by (first | omega | with_reducible assumption | with_reducible exact rng_toInt _ | with_reducible exact rng_wr _ | (unfold rng; omega) | (unfold rng at *; omega) | assumption)) (by (first | omega | with_reducible assumption | with_reducible exact rng_toInt _ | with_reducible exact rng_wr _ | (unfold rng; omega) | (unfold rng at *; omega) | assumption)) (fun σ28_14 _ iσ28_14 cσ28_14 pσ28_14 => ?_) (fun σx LLx Nx nux E ix cx ux px => hX σx LLx Nx nux E ix (fσ22_3.tr (cx.mo (by decide))) (ux) (by first | exact px | exact ⟨by have := px.1; omega, px.2⟩ | (first | omega | with_reducible assumption | with_reducible exact rng_toInt _ | with_reducible exact rng_wr _ | (unfold rng; omega) | (unfold rng at *; omega) | assumption)))
                        intro xσ28_14
                        exact pσ28_14.elim
                    · rw [if_neg hc280]
                      unfold w_X6_next_141
                      by_cases hc292 : gJ σ22_3 th 4 > 57
                      · rw [if_pos hc292]
                        unfold w_X6_next_178
                        refine i_X6_isSignByte iσ22_3 (fun r27_15 pσ26_15 => ?_)
                        intro xσ26_15
                        by_cases hc293 : r27_15 ≠ 0
                        · rw [if_pos hc293]
                          unfold w_X6_next_194
                          intro σ29_15 eσ29_15
                          have xσ29_15 : Ext σ22_3 σ29_15 := by rw [eσ29_15]; exact fun _ h => ⟨h, rfl, rfl⟩
                          have iσ29_15 : IV σ29_15 pl gq ci gr nc ot LL N nu := by rw [eσ29_15]; exact iσ22_3.wO (kth.up (xτ2.trans (xσ19_3.trans xσ22_3))) (by decide) (rngb (by first | exact rng_wr _ | (first | omega | with_reducible assumption | with_reducible exact rng_toInt _ | with_reducible exact rng_wr _ | (unfold rng; omega) | (unfold rng at *; omega) | assumption)))
                          have fσ29_15 : Fx [386, 387, 388, 389, 390] gr σ σ29_15 := fσ22_3.tr (Sk.fx (by rw [eσ29_15]; exact Sk.pI (by rw [fcdO (kth.up (xτ2.trans (xσ19_3.trans xσ22_3))) (by decide)]; decide)))
                          have wσ29_15 : gI σ29_15 th 3 = 5 := by rw [eσ29_15]; exact up2_s _ _ _ _
                          have kp294 : gI σ29_15 th 1 = gI σ22_3 th 1 := by rw [eσ29_15]; exact up2_n _ _ (fun q => absurd q.2 (by decide))
                          have kp295 : gI σ29_15 th 2 = gI σ22_3 th 2 := by rw [eσ29_15]; exact up2_n _ _ (fun q => absurd q.2 (by decide))
                          have kp296 : gI σ29_15 th 5 = gI σ22_3 th 5 := by rw [eσ29_15]; exact up2_n _ _ (fun q => absurd q.2 (by decide))
                          have kp297 : gI σ29_15 tx (gI τ2 th 2).toNat = gI σ22_3 tx (gI τ2 th 2).toNat := by rw [eσ29_15]; exact up2_n _ _ (fun q => absurd q.1 (kO.ne (kX.up (xτ2.trans (xσ19_3.trans xσ22_3))) (kth.up (xτ2.trans (xσ19_3.trans xσ22_3))) (by decide)))
                          have kp298 : gP σ29_15 th 0 = gP σ22_3 th 0 := by rw [eσ29_15]
                          refine ⟨by (first | omega | with_reducible assumption | with_reducible exact rng_toInt _ | with_reducible exact rng_wr _ | (unfold rng; omega) | (unfold rng at *; omega) | assumption), ?_⟩
                          intro σ30_15 eσ30_15
                          have xσ30_15 : Ext σ29_15 σ30_15 := by rw [eσ30_15]; exact fun _ h => ⟨h, rfl, rfl⟩
                          have iσ30_15 : IV σ30_15 pl gq ci gr nc ot LL N nu := by rw [eσ30_15]; exact iσ29_15.wO (kth.up (xτ2.trans (xσ19_3.trans (xσ22_3.trans xσ29_15)))) (by decide) (show (0 : Int) ≤ (gI σ29_15 th 2 + 1) ∧ (gI σ29_15 th 2 + 1) ≤ 1500 from ⟨by (first | omega | with_reducible assumption | with_reducible exact rng_toInt _ | with_reducible exact rng_wr _ | (unfold rng; omega) | (unfold rng at *; omega) | assumption), by (first | omega | with_reducible assumption | with_reducible exact rng_toInt _ | with_reducible exact rng_wr _ | (unfold rng; omega) | (unfold rng at *; omega) | assumption)⟩)
                          have fσ30_15 : Fx [386, 387, 388, 389, 390] gr σ σ30_15 := fσ29_15.tr (Sk.fx (by rw [eσ30_15]; exact Sk.pI (by rw [fcdO (kth.up (xτ2.trans (xσ19_3.trans (xσ22_3.trans xσ29_15)))) (by decide)]; decide)))
                          have wσ30_15 : gI σ30_15 th 2 = (gI σ29_15 th 2 + 1) := by rw [eσ30_15]; exact up2_s _ _ _ _
                          have kp299 : gI σ30_15 th 1 = gI σ29_15 th 1 := by rw [eσ30_15]; exact up2_n _ _ (fun q => absurd q.2 (by decide))
                          have kp300 : gI σ30_15 th 3 = gI σ29_15 th 3 := by rw [eσ30_15]; exact up2_n _ _ (fun q => absurd q.2 (by decide))
                          have kp301 : gI σ30_15 th 5 = gI σ29_15 th 5 := by rw [eσ30_15]; exact up2_n _ _ (fun q => absurd q.2 (by decide))
                          have kp302 : gI σ30_15 tx (gI τ2 th 2).toNat = gI σ29_15 tx (gI τ2 th 2).toNat := by rw [eσ30_15]; exact up2_n _ _ (fun q => absurd q.1 (kO.ne (kX.up (xτ2.trans (xσ19_3.trans (xσ22_3.trans xσ29_15)))) (kth.up (xτ2.trans (xσ19_3.trans (xσ22_3.trans xσ29_15)))) (by decide)))
                          have kp303 : gP σ30_15 th 0 = gP σ29_15 th 0 := by rw [eσ30_15]
                          unfold w_X6_next_209
                          exact hQ σ30_15 () iσ30_15 fσ30_15 (⟨by first | exact kvw | exact fun e => absurd e (by omega), by omega⟩)
                        · rw [if_neg hc293]
                          have hc293q := Classical.not_not.mp hc293
                          unfold w_X6_next_189
                          refine i_X6_refuse iσ22_3 (kth.up (xτ2.trans (xσ19_3.trans xσ22_3))) (by (first | omega | with_reducible assumption | with_reducible exact rng_toInt _ | with_reducible exact rng_wr _ | (unfold rng; omega) | (unfold rng at *; omega) | assumption)) (by (first | omega | with_reducible assumption | with_reducible exact rng_toInt _ | with_reducible exact rng_wr _ | (unfold rng; omega) | (unfold rng at *; omega) | assumption)) (by (first | omega | with_reducible assumption | with_reducible exact rng_toInt _ | with_reducible exact rng_wr _ | (unfold rng; omega) | (unfold rng at *; omega) | assumption)) (fun σ28_15 _ iσ28_15 cσ28_15 pσ28_15 => ?_) (fun σx LLx Nx nux E ix cx ux px => hX σx LLx Nx nux E ix (fσ22_3.tr (cx.mo (by decide))) (ux) (by first | exact px | exact ⟨by have := px.1; omega, px.2⟩ | (first | omega | with_reducible assumption | with_reducible exact rng_toInt _ | with_reducible exact rng_wr _ | (unfold rng; omega) | (unfold rng at *; omega) | assumption)))
                          intro xσ28_15
                          exact pσ28_15.elim
                      · rw [if_neg hc292]
                        unfold w_X6_next_152
                        refine i_X6_digits iσ22_3 (kth.up (xτ2.trans (xσ19_3.trans xσ22_3))) (kp246.trans (kp238.trans (kp1.trans hX0))) (kX.up (xτ2.trans (xσ19_3.trans xσ22_3))) (((xτ2.trans (xσ19_3.trans xσ22_3)) tx kX.1).2.2.trans gX) (by omega) (by rw [xk22]; have a9 := ge64 (a := 48) r22 (by rw [← v22]; assumption); have b9 := le64 (a := 57) r22 (by rw [← v22]; assumption); have c9 : (48 : Int64).toInt = 48 := rfl; have d9 : (57 : Int64).toInt = 57 := rfl; omega) (fun σ24_7 _ iσ24_7 cσ24_7 pσ24_7 => ?_)
                        intro xσ24_7
                        have fσ24_7 : Fx [386, 387, 388, 389, 390] gr σ σ24_7 := fσ22_3.tr (cσ24_7.mo (by decide))
                        have kp304 : gI σ24_7 th 1 = gI σ22_3 th 1 := (cσ24_7.O (kth.up (xτ2.trans (xσ19_3.trans xσ22_3))) (by decide)).1
                        have kp305 : gI σ24_7 th 5 = gI σ22_3 th 5 := (cσ24_7.O (kth.up (xτ2.trans (xσ19_3.trans xσ22_3))) (by decide)).1
                        have kp306 : gI σ24_7 tx (gI τ2 th 2).toNat = gI σ22_3 tx (gI τ2 th 2).toNat := (cσ24_7.A (kX.up (xτ2.trans (xσ19_3.trans xσ22_3))) (by decide)).1
                        have kp307 : gP σ24_7 th 0 = gP σ22_3 th 0 := (cσ24_7.O (kth.up (xτ2.trans (xσ19_3.trans xσ22_3))) (by decide)).2.1
                        have q308 := I_6_2 iσ24_7.1 (kth.up (xτ2.trans (xσ19_3.trans (xσ22_3.trans xσ24_7))))
                        refine ⟨by (first | omega | with_reducible assumption | with_reducible exact rng_toInt _ | with_reducible exact rng_wr _ | (unfold rng; omega) | (unfold rng at *; omega) | assumption), ?_⟩
                        by_cases hc309 : (gI σ24_7 th 2 - gI σ24_7 th 5) ≤ 18
                        · rw [if_pos hc309]
                          unfold w_X6_next_209
                          exact hQ σ24_7 () iσ24_7 fσ24_7 (⟨by first | exact kvw | exact fun e => absurd e (by omega), by omega⟩)
                        · rw [if_neg hc309]
                          unfold w_X6_next_170
                          refine i_X6_refuse iσ24_7 (kth.up (xτ2.trans (xσ19_3.trans (xσ22_3.trans xσ24_7)))) (by (first | omega | with_reducible assumption | with_reducible exact rng_toInt _ | with_reducible exact rng_wr _ | (unfold rng; omega) | (unfold rng at *; omega) | assumption)) (by (first | omega | with_reducible assumption | with_reducible exact rng_toInt _ | with_reducible exact rng_wr _ | (unfold rng; omega) | (unfold rng at *; omega) | assumption)) (by (first | omega | with_reducible assumption | with_reducible exact rng_toInt _ | with_reducible exact rng_wr _ | (unfold rng; omega) | (unfold rng at *; omega) | assumption)) (fun σ25_7 _ iσ25_7 cσ25_7 pσ25_7 => ?_) (fun σx LLx Nx nux E ix cx ux px => hX σx LLx Nx nux E ix (fσ24_7.tr (cx.mo (by decide))) (ux) (by first | exact px | exact ⟨by have := px.1; omega, px.2⟩ | (first | omega | with_reducible assumption | with_reducible exact rng_toInt _ | with_reducible exact rng_wr _ | (unfold rng; omega) | (unfold rng at *; omega) | assumption)))
                          intro xσ25_7
                          exact pσ25_7.elim
                  · rw [if_neg hc279]
                    unfold w_X6_next_123
                    refine i_X6_word iσ22_3 (kth.up (xτ2.trans (xσ19_3.trans xσ22_3))) (kp246.trans (kp238.trans (kp1.trans hX0))) (kX.up (xτ2.trans (xσ19_3.trans xσ22_3))) (((xτ2.trans (xσ19_3.trans xσ22_3)) tx kX.1).2.2.trans gX) (by omega) (by rw [xk22]; have a9 := ge64 (a := 97) r22 (by rw [← v22]; assumption); have b9 := le64 (a := 122) r22 (by rw [← v22]; assumption); have c9 : (97 : Int64).toInt = 97 := rfl; have d9 : (122 : Int64).toInt = 122 := rfl; omega) (fun σ23_3 _ iσ23_3 cσ23_3 pσ23_3 => ?_)
                    intro xσ23_3
                    have fσ23_3 : Fx [386, 387, 388, 389, 390] gr σ σ23_3 := fσ22_3.tr (cσ23_3.mo (by decide))
                    have kp310 : gI σ23_3 th 1 = gI σ22_3 th 1 := (cσ23_3.O (kth.up (xτ2.trans (xσ19_3.trans xσ22_3))) (by decide)).1
                    have kp311 : gI σ23_3 th 5 = gI σ22_3 th 5 := (cσ23_3.O (kth.up (xτ2.trans (xσ19_3.trans xσ22_3))) (by decide)).1
                    have kp312 : gI σ23_3 tx (gI τ2 th 2).toNat = gI σ22_3 tx (gI τ2 th 2).toNat := (cσ23_3.A (kX.up (xτ2.trans (xσ19_3.trans xσ22_3))) (by decide)).1
                    have kp313 : gP σ23_3 th 0 = gP σ22_3 th 0 := (cσ23_3.O (kth.up (xτ2.trans (xσ19_3.trans xσ22_3))) (by decide)).2.1
                    have kvw := pσ23_3.1
                    unfold w_X6_next_209
                    exact hQ σ23_3 () iσ23_3 fσ23_3 (⟨by first | exact kvw | exact fun e => absurd e (by omega), by omega⟩)
              · rw [if_neg hc240]
                unfold w_X6_next_81
                intro σ20_3 eσ20_3
                have xσ20_3 : Ext σ19_3 σ20_3 := by rw [eσ20_3]; exact fun _ h => ⟨h, rfl, rfl⟩
                have iσ20_3 : IV σ20_3 pl gq ci gr nc ot LL N nu := by rw [eσ20_3]; exact iσ19_3.wO (kth.up (xτ2.trans xσ19_3)) (by decide) (rngb (by first | exact rng_wr _ | (first | omega | with_reducible assumption | with_reducible exact rng_toInt _ | with_reducible exact rng_wr _ | (unfold rng; omega) | (unfold rng at *; omega) | assumption)))
                have fσ20_3 : Fx [386, 387, 388, 389, 390] gr σ σ20_3 := fσ19_3.tr (Sk.fx (by rw [eσ20_3]; exact Sk.pI (by rw [fcdO (kth.up (xτ2.trans xσ19_3)) (by decide)]; decide)))
                have wσ20_3 : gI σ20_3 th 3 = 0 := by rw [eσ20_3]; exact up2_s _ _ _ _
                have kp314 : gI σ20_3 th 1 = gI σ19_3 th 1 := by rw [eσ20_3]; exact up2_n _ _ (fun q => absurd q.2 (by decide))
                have kp315 : gI σ20_3 th 2 = gI σ19_3 th 2 := by rw [eσ20_3]; exact up2_n _ _ (fun q => absurd q.2 (by decide))
                have kp316 : gI σ20_3 th 5 = gI σ19_3 th 5 := by rw [eσ20_3]; exact up2_n _ _ (fun q => absurd q.2 (by decide))
                have kp317 : gI σ20_3 tx (gI τ2 th 2).toNat = gI σ19_3 tx (gI τ2 th 2).toNat := by rw [eσ20_3]; exact up2_n _ _ (fun q => absurd q.1 (kO.ne (kX.up (xτ2.trans xσ19_3)) (kth.up (xτ2.trans xσ19_3)) (by decide)))
                have kp318 : gP σ20_3 th 0 = gP σ19_3 th 0 := by rw [eσ20_3]
                exact hQ σ20_3 () iσ20_3 fσ20_3 (⟨by first | exact kvw | exact fun e => absurd e (by omega), by omega⟩)
            · rw [if_neg hc234]
              unfold w_X6_next_46
              refine ⟨by (first | omega | with_reducible assumption | with_reducible exact rng_toInt _ | with_reducible exact rng_wr _ | (unfold rng; omega) | (unfold rng at *; omega) | assumption), ?_⟩
              intro σ18 eσ18
              have xσ18 : Ext τ2 σ18 := by rw [eσ18]; exact fun _ h => ⟨h, rfl, rfl⟩
              have iσ18 : IV σ18 pl gq ci gr nc ot LL N nu := by rw [eσ18]; exact iτ2.wO (kth.up xτ2) (by decide) (show (0 : Int) ≤ (gI τ2 th 2 + 1) ∧ (gI τ2 th 2 + 1) ≤ 1500 from ⟨by (first | omega | with_reducible assumption | with_reducible exact rng_toInt _ | with_reducible exact rng_wr _ | (unfold rng; omega) | (unfold rng at *; omega) | assumption), by (first | omega | with_reducible assumption | with_reducible exact rng_toInt _ | with_reducible exact rng_wr _ | (unfold rng; omega) | (unfold rng at *; omega) | assumption)⟩)
              have fσ18 : Fx [386, 387, 388, 389, 390] gr σ σ18 := fτ2.tr (Sk.fx (by rw [eσ18]; exact Sk.pI (by rw [fcdO (kth.up xτ2) (by decide)]; decide)))
              have wσ18 : gI σ18 th 2 = (gI τ2 th 2 + 1) := by rw [eσ18]; exact up2_s _ _ _ _
              have kp319 : gI σ18 th 1 = gI τ2 th 1 := by rw [eσ18]; exact up2_n _ _ (fun q => absurd q.2 (by decide))
              have kp320 : gI σ18 tx (gI τ2 th 2).toNat = gI τ2 tx (gI τ2 th 2).toNat := by rw [eσ18]; exact up2_n _ _ (fun q => absurd q.1 (kO.ne (kX.up xτ2) (kth.up xτ2) (by decide)))
              have kp321 : gP σ18 th 0 = gP τ2 th 0 := by rw [eσ18]
              have kp322 : gI σ18 th 3 = gI τ2 th 3 := by rw [eσ18]; exact up2_n _ _ (fun q => absurd q.2 (by decide))
              have kp323 : gI σ18 th 5 = gI τ2 th 5 := by rw [eσ18]; exact up2_n _ _ (fun q => absurd q.2 (by decide))
              refine ⟨by (first | omega | with_reducible assumption | with_reducible exact rng_toInt _ | with_reducible exact rng_wr _ | (unfold rng; omega) | (unfold rng at *; omega) | assumption), ?_⟩
              exact ih2 σ18 (v1 + 1) iσ18 fσ18 (xτ2.trans xσ18) (by (first | omega | with_reducible assumption | with_reducible exact rng_toInt _ | with_reducible exact rng_wr _ | (unfold rng; omega) | (unfold rng at *; omega) | assumption)) (by (first | omega | with_reducible assumption | with_reducible exact rng_toInt _ | with_reducible exact rng_wr _ | (unfold rng; omega) | (unfold rng at *; omega) | assumption))
  exact ⟨_, Lp2 _ σ _ iσ fσ (Ext.rfl' _) (by (first | omega | with_reducible assumption | with_reducible exact rng_toInt _ | with_reducible exact rng_wr _ | (unfold rng; omega) | (unfold rng at *; omega) | assumption)) (Nat.lt_succ_self _)⟩
set_option maxHeartbeats 1000000 in
theorem i_X6_wantWord {σ : Sg} {pl : Nat} {gq ci gr nc : Nat → Nat} {ot : Nat → Nat → Int} {LL : Nat → List Nat} {N nu : Nat → Nat} {th : Nat} {v1 : Int} {tx : Nat} (iσ : IV σ pl gq ci gr nc ot LL N nu) (kth : kO σ th 6) (hX0 : gP σ th 0 = some tx) (kX : kO σ tx 102) (gX : gn σ tx = 1500) (tf : gI σ th 5 ≤ gI σ th 2 ∧ (gI σ th 3 ≠ 0 → gI σ th 5 + 1 ≤ gI σ th 2)) (h5 : nu 5 < 24000) {Q : Sg → Unit → Prop} {X : Sg → String → Prop} (hQ : ∀ (σ' : Sg) (r : Unit), IV σ' pl gq ci gr nc ot LL N nu → Fx [386, 387, 388, 389, 390] gr σ σ' → (KV σ' th ∧ (gI σ' th 5 ≤ gI σ' th 2 ∧ (gI σ' th 3 ≠ 0 → gI σ' th 5 + 1 ≤ gI σ' th 2)) ∧ gI σ th 5 + 1 ≤ gI σ' th 5) → Q σ' r) (hX : ∀ (σ' : Sg) (LL' : Nat → List Nat) (N' nu' : Nat → Nat) (E : String), IV σ' pl gq ci gr nc ot LL' N' nu' → Fx [386, 387, 388, 389, 390] gr σ σ' → NCX nu nu' → (LL' = LL ∧ N' = N ∧ E = "java/lang/IllegalArgumentException" ∧ gI σ' th 6 ≠ 0) → X σ' E) : wp_X6_wantWord th v1 σ Q X := by
  have fσ : Fx [386, 387, 388, 389, 390] gr σ σ := Fx.rf
  have q1 := I_6_5 iσ.1 kth
  have q2 := I_6_2 iσ.1 kth
  have q3 := iσ.rg th 3; unfold rng at q3
  unfold wp_X6_wantWord
  unfold w_X6_wantWord_0
  refine i_X6_isWord iσ kth (fun r6 pσ5 => ?_)
  intro xσ5
  by_cases hc4 : r6 ≠ 0
  · rw [if_pos hc4]
    unfold w_X6_wantWord_12
    refine i_X6_next iσ kth hX0 kX (((Ext.rfl' _) tx kX.1).2.2.trans gX) (by (first | omega | with_reducible assumption | with_reducible exact rng_toInt _ | with_reducible exact rng_wr _ | (unfold rng; omega) | (unfold rng at *; omega) | assumption)) (by (first | omega | with_reducible assumption | with_reducible exact rng_toInt _ | with_reducible exact rng_wr _ | (unfold rng; omega) | (unfold rng at *; omega) | assumption)) (fun σ8 _ iσ8 cσ8 pσ8 => ?_) (fun σx LLx Nx nux E ix cx ux px => hX σx LLx Nx nux E ix (fσ.tr (cx.mo (by decide))) (ux) (by first | exact px | exact ⟨by have := px.1; omega, px.2⟩ | (first | omega | with_reducible assumption | with_reducible exact rng_toInt _ | with_reducible exact rng_wr _ | (unfold rng; omega) | (unfold rng at *; omega) | assumption)))
    intro xσ8
    have fσ8 : Fx [386, 387, 388, 389, 390] gr σ σ8 := fσ.tr (cσ8.mo (by decide))
    have kp5 : gP σ8 th 0 = gP σ th 0 := (cσ8.O kth (by decide)).2.1
    have kv9 := pσ8.1
    exact hQ σ8 () iσ8 fσ8 (⟨kv9, by omega⟩)
  · rw [if_neg hc4]
    have hc4q := Classical.not_not.mp hc4
    unfold w_X6_wantWord_8
    refine i_X6_cannotStand iσ kth (by (first | omega | with_reducible assumption | with_reducible exact rng_toInt _ | with_reducible exact rng_wr _ | (unfold rng; omega) | (unfold rng at *; omega) | assumption)) (fun σ7 _ iσ7 cσ7 pσ7 => ?_) (fun σx LLx Nx nux E ix cx ux px => hX σx LLx Nx nux E ix (fσ.tr (cx.mo (by decide))) (ux) (by first | exact px | exact ⟨by have := px.1; omega, px.2⟩ | (first | omega | with_reducible assumption | with_reducible exact rng_toInt _ | with_reducible exact rng_wr _ | (unfold rng; omega) | (unfold rng at *; omega) | assumption)))
    intro xσ7
    exact pσ7.elim
set_option maxHeartbeats 1000000 in
theorem i_X6_wantSign {σ : Sg} {pl : Nat} {gq ci gr nc : Nat → Nat} {ot : Nat → Nat → Int} {LL : Nat → List Nat} {N nu : Nat → Nat} {th : Nat} {v1 : Int} {tx : Nat} (iσ : IV σ pl gq ci gr nc ot LL N nu) (kth : kO σ th 6) (hX0 : gP σ th 0 = some tx) (kX : kO σ tx 102) (gX : gn σ tx = 1500) (tf : gI σ th 5 ≤ gI σ th 2 ∧ (gI σ th 3 ≠ 0 → gI σ th 5 + 1 ≤ gI σ th 2)) (h5 : nu 5 < 24000) {Q : Sg → Unit → Prop} {X : Sg → String → Prop} (hQ : ∀ (σ' : Sg) (r : Unit), IV σ' pl gq ci gr nc ot LL N nu → Fx [386, 387, 388, 389, 390] gr σ σ' → (KV σ' th ∧ (gI σ' th 5 ≤ gI σ' th 2 ∧ (gI σ' th 3 ≠ 0 → gI σ' th 5 + 1 ≤ gI σ' th 2)) ∧ gI σ th 5 + 1 ≤ gI σ' th 5) → Q σ' r) (hX : ∀ (σ' : Sg) (LL' : Nat → List Nat) (N' nu' : Nat → Nat) (E : String), IV σ' pl gq ci gr nc ot LL' N' nu' → Fx [386, 387, 388, 389, 390] gr σ σ' → NCX nu nu' → (LL' = LL ∧ N' = N ∧ E = "java/lang/IllegalArgumentException" ∧ gI σ' th 6 ≠ 0) → X σ' E) : wp_X6_wantSign th v1 σ Q X := by
  have fσ : Fx [386, 387, 388, 389, 390] gr σ σ := Fx.rf
  have q1 := I_6_5 iσ.1 kth
  have q2 := I_6_2 iσ.1 kth
  have q3 := iσ.rg th 3; unfold rng at q3
  unfold wp_X6_wantSign
  unfold w_X6_wantSign_0
  refine i_X6_isSign iσ kth (fun r6 pσ5 => ?_)
  intro xσ5
  by_cases hc4 : r6 ≠ 0
  · rw [if_pos hc4]
    unfold w_X6_wantSign_12
    refine i_X6_next iσ kth hX0 kX (((Ext.rfl' _) tx kX.1).2.2.trans gX) (by (first | omega | with_reducible assumption | with_reducible exact rng_toInt _ | with_reducible exact rng_wr _ | (unfold rng; omega) | (unfold rng at *; omega) | assumption)) (by (first | omega | with_reducible assumption | with_reducible exact rng_toInt _ | with_reducible exact rng_wr _ | (unfold rng; omega) | (unfold rng at *; omega) | assumption)) (fun σ8 _ iσ8 cσ8 pσ8 => ?_) (fun σx LLx Nx nux E ix cx ux px => hX σx LLx Nx nux E ix (fσ.tr (cx.mo (by decide))) (ux) (by first | exact px | exact ⟨by have := px.1; omega, px.2⟩ | (first | omega | with_reducible assumption | with_reducible exact rng_toInt _ | with_reducible exact rng_wr _ | (unfold rng; omega) | (unfold rng at *; omega) | assumption)))
    intro xσ8
    have fσ8 : Fx [386, 387, 388, 389, 390] gr σ σ8 := fσ.tr (cσ8.mo (by decide))
    have kp5 : gP σ8 th 0 = gP σ th 0 := (cσ8.O kth (by decide)).2.1
    have kv9 := pσ8.1
    exact hQ σ8 () iσ8 fσ8 (⟨kv9, by omega⟩)
  · rw [if_neg hc4]
    have hc4q := Classical.not_not.mp hc4
    unfold w_X6_wantSign_8
    refine i_X6_cannotStand iσ kth (by (first | omega | with_reducible assumption | with_reducible exact rng_toInt _ | with_reducible exact rng_wr _ | (unfold rng; omega) | (unfold rng at *; omega) | assumption)) (fun σ7 _ iσ7 cσ7 pσ7 => ?_) (fun σx LLx Nx nux E ix cx ux px => hX σx LLx Nx nux E ix (fσ.tr (cx.mo (by decide))) (ux) (by first | exact px | exact ⟨by have := px.1; omega, px.2⟩ | (first | omega | with_reducible assumption | with_reducible exact rng_toInt _ | with_reducible exact rng_wr _ | (unfold rng; omega) | (unfold rng at *; omega) | assumption)))
    intro xσ7
    exact pσ7.elim
set_option maxHeartbeats 1000000 in
theorem i_X6_number {σ : Sg} {pl : Nat} {gq ci gr nc : Nat → Nat} {ot : Nat → Nat → Int} {LL : Nat → List Nat} {N nu : Nat → Nat} {th : Nat} {v1 : Int} {v2 : Int} (iσ : IV σ pl gq ci gr nc ot LL N nu) (kth : kO σ th 6) (h5 : nu 5 < 24000) (hb : 0 ≤ v1 ∧ v1 ≤ v2 ∧ v2 ≤ 1000) {Q : Sg → Int → Prop} {X : Sg → String → Prop} (hQ : ∀ (σ' : Sg) (r : Int), IV σ' pl gq ci gr nc ot LL N nu → Fx [390] gr σ σ' → (v1 ≤ r ∧ r ≤ v2 ∧ gI σ th 3 = 4 ∧ gI σ' th 3 = gI σ th 3 ∧ gI σ' th 2 = gI σ th 2 ∧ gI σ' th 5 = gI σ th 5) → Q σ' r) (hX : ∀ (σ' : Sg) (LL' : Nat → List Nat) (N' nu' : Nat → Nat) (E : String), IV σ' pl gq ci gr nc ot LL' N' nu' → Fx [390] gr σ σ' → NCX nu nu' → (LL' = LL ∧ N' = N ∧ E = "java/lang/IllegalArgumentException" ∧ gI σ' th 6 ≠ 0) → X σ' E) : wp_X6_number th v1 v2 σ Q X := by
  have fσ : Fx [390] gr σ σ := Fx.rf
  unfold wp_X6_number
  unfold w_X6_number_0
  have q2 := iσ.rg th 3; unfold rng at q2
  by_cases hc1 : gI σ th 3 = 4
  · rw [if_pos hc1]
    unfold w_X6_number_12
    by_cases hc3 : gJ σ th 4 < (Int64.ofInt v1)
    · rw [if_pos hc3]
      unfold w_X6_number_32
      refine i_X6_refuse iσ kth (by (first | omega | with_reducible assumption | with_reducible exact rng_toInt _ | with_reducible exact rng_wr _ | (unfold rng; omega) | (unfold rng at *; omega) | assumption)) (by (first | omega | with_reducible assumption | with_reducible exact rng_toInt _ | with_reducible exact rng_wr _ | (unfold rng; omega) | (unfold rng at *; omega) | assumption)) (by (first | omega | with_reducible assumption | with_reducible exact rng_toInt _ | with_reducible exact rng_wr _ | (unfold rng; omega) | (unfold rng at *; omega) | assumption)) (fun σ4 _ iσ4 cσ4 pσ4 => ?_) (fun σx LLx Nx nux E ix cx ux px => hX σx LLx Nx nux E ix (fσ.tr (cx.mo (by decide))) (ux) (by first | exact px | exact ⟨by have := px.1; omega, px.2⟩ | (first | omega | with_reducible assumption | with_reducible exact rng_toInt _ | with_reducible exact rng_wr _ | (unfold rng; omega) | (unfold rng at *; omega) | assumption)))
      intro xσ4
      exact pσ4.elim
    · rw [if_neg hc3]
      unfold w_X6_number_22
      by_cases hc4 : gJ σ th 4 ≤ (Int64.ofInt v2)
      · rw [if_pos hc4]
        unfold w_X6_number_38
        exact hQ σ (gJ σ th 4).toInt32.toInt iσ fσ (⟨(num_b hb (by assumption) (by assumption)).1, (num_b hb (by assumption) (by assumption)).2, by omega, by omega, by omega, by omega⟩)
      · rw [if_neg hc4]
        unfold w_X6_number_32
        refine i_X6_refuse iσ kth (by (first | omega | with_reducible assumption | with_reducible exact rng_toInt _ | with_reducible exact rng_wr _ | (unfold rng; omega) | (unfold rng at *; omega) | assumption)) (by (first | omega | with_reducible assumption | with_reducible exact rng_toInt _ | with_reducible exact rng_wr _ | (unfold rng; omega) | (unfold rng at *; omega) | assumption)) (by (first | omega | with_reducible assumption | with_reducible exact rng_toInt _ | with_reducible exact rng_wr _ | (unfold rng; omega) | (unfold rng at *; omega) | assumption)) (fun σ4_1 _ iσ4_1 cσ4_1 pσ4_1 => ?_) (fun σx LLx Nx nux E ix cx ux px => hX σx LLx Nx nux E ix (fσ.tr (cx.mo (by decide))) (ux) (by first | exact px | exact ⟨by have := px.1; omega, px.2⟩ | (first | omega | with_reducible assumption | with_reducible exact rng_toInt _ | with_reducible exact rng_wr _ | (unfold rng; omega) | (unfold rng at *; omega) | assumption)))
        intro xσ4_1
        exact pσ4_1.elim
  · rw [if_neg hc1]
    unfold w_X6_number_8
    refine i_X6_cannotStand iσ kth (by (first | omega | with_reducible assumption | with_reducible exact rng_toInt _ | with_reducible exact rng_wr _ | (unfold rng; omega) | (unfold rng at *; omega) | assumption)) (fun σ3 _ iσ3 cσ3 pσ3 => ?_) (fun σx LLx Nx nux E ix cx ux px => hX σx LLx Nx nux E ix (fσ.tr (cx.mo (by decide))) (ux) (by first | exact px | exact ⟨by have := px.1; omega, px.2⟩ | (first | omega | with_reducible assumption | with_reducible exact rng_toInt _ | with_reducible exact rng_wr _ | (unfold rng; omega) | (unfold rng at *; omega) | assumption)))
    intro xσ3
    exact pσ3.elim
set_option maxHeartbeats 1000000 in
theorem i_X6_signedNumber {σ : Sg} {pl : Nat} {gq ci gr nc : Nat → Nat} {ot : Nat → Nat → Int} {LL : Nat → List Nat} {N nu : Nat → Nat} {th : Nat} {tx : Nat} (iσ : IV σ pl gq ci gr nc ot LL N nu) (kth : kO σ th 6) (hX0 : gP σ th 0 = some tx) (kX : kO σ tx 102) (gX : gn σ tx = 1500) (tf : gI σ th 5 ≤ gI σ th 2 ∧ (gI σ th 3 ≠ 0 → gI σ th 5 + 1 ≤ gI σ th 2)) (h5 : nu 5 < 24000) {Q : Sg → Int → Prop} {X : Sg → String → Prop} (hQ : ∀ (σ' : Sg) (r : Int), IV σ' pl gq ci gr nc ot LL N nu → Fx [386, 387, 388, 389, 390] gr σ σ' → ((-1000 ≤ r ∧ r ≤ 1000) ∧ gI σ' th 3 = 4 ∧ (gI σ' th 5 ≤ gI σ' th 2 ∧ (gI σ' th 3 ≠ 0 → gI σ' th 5 + 1 ≤ gI σ' th 2)) ∧ gI σ th 5 ≤ gI σ' th 5) → Q σ' r) (hX : ∀ (σ' : Sg) (LL' : Nat → List Nat) (N' nu' : Nat → Nat) (E : String), IV σ' pl gq ci gr nc ot LL' N' nu' → Fx [386, 387, 388, 389, 390] gr σ σ' → NCX nu nu' → (LL' = LL ∧ N' = N ∧ E = "java/lang/IllegalArgumentException" ∧ gI σ' th 6 ≠ 0) → X σ' E) : wp_X6_signedNumber th σ Q X := by
  have fσ : Fx [386, 387, 388, 389, 390] gr σ σ := Fx.rf
  have q1 := I_6_5 iσ.1 kth
  have q2 := I_6_2 iσ.1 kth
  have q3 := iσ.rg th 3; unfold rng at q3
  unfold wp_X6_signedNumber
  unfold w_X6_signedNumber_0
  refine i_X6_isSign iσ kth (fun r7 pσ6 => ?_)
  intro xσ6
  by_cases hc4 : r7 = 0
  · rw [if_pos hc4]
    unfold w_X6_signedNumber_15
    refine i_X6_number iσ kth (by (first | omega | with_reducible assumption | with_reducible exact rng_toInt _ | with_reducible exact rng_wr _ | (unfold rng; omega) | (unfold rng at *; omega) | assumption)) (by (first | omega | with_reducible assumption | with_reducible exact rng_toInt _ | with_reducible exact rng_wr _ | (unfold rng; omega) | (unfold rng at *; omega) | assumption)) (fun σ9 r10 iσ9 cσ9 pσ9 => ?_) (fun σx LLx Nx nux E ix cx ux px => hX σx LLx Nx nux E ix (fσ.tr (cx.mo (by decide))) (ux) (by first | exact px | exact ⟨by have := px.1; omega, px.2⟩ | (first | omega | with_reducible assumption | with_reducible exact rng_toInt _ | with_reducible exact rng_wr _ | (unfold rng; omega) | (unfold rng at *; omega) | assumption)))
    intro xσ9
    have fσ9 : Fx [386, 387, 388, 389, 390] gr σ σ9 := fσ.tr (cσ9.mo (by decide))
    have kp5 : gI σ9 th 2 = gI σ th 2 := (cσ9.O kth (by decide)).1
    have kp6 : gI σ9 th 3 = gI σ th 3 := (cσ9.O kth (by decide)).1
    have kp7 : gI σ9 th 5 = gI σ th 5 := (cσ9.O kth (by decide)).1
    have kp8 : gP σ9 th 0 = gP σ th 0 := (cσ9.O kth (by decide)).2.1
    rw [if_pos hc4]
    unfold w_X6_signedNumber_33
    unfold w_X6_signedNumber_34
    exact hQ σ9 r10 iσ9 fσ9 (by (first | omega | with_reducible assumption | with_reducible exact rng_toInt _ | with_reducible exact rng_wr _ | (unfold rng; omega) | (unfold rng at *; omega) | assumption))
  · rw [if_neg hc4]
    unfold w_X6_signedNumber_11
    refine i_X6_next iσ kth hX0 kX (((Ext.rfl' _) tx kX.1).2.2.trans gX) (by (first | omega | with_reducible assumption | with_reducible exact rng_toInt _ | with_reducible exact rng_wr _ | (unfold rng; omega) | (unfold rng at *; omega) | assumption)) (by (first | omega | with_reducible assumption | with_reducible exact rng_toInt _ | with_reducible exact rng_wr _ | (unfold rng; omega) | (unfold rng at *; omega) | assumption)) (fun σ8 _ iσ8 cσ8 pσ8 => ?_) (fun σx LLx Nx nux E ix cx ux px => hX σx LLx Nx nux E ix (fσ.tr (cx.mo (by decide))) (ux) (by first | exact px | exact ⟨by have := px.1; omega, px.2⟩ | (first | omega | with_reducible assumption | with_reducible exact rng_toInt _ | with_reducible exact rng_wr _ | (unfold rng; omega) | (unfold rng at *; omega) | assumption)))
    intro xσ8
    have fσ8 : Fx [386, 387, 388, 389, 390] gr σ σ8 := fσ.tr (cσ8.mo (by decide))
    have kp10 : gP σ8 th 0 = gP σ th 0 := (cσ8.O kth (by decide)).2.1
    unfold w_X6_signedNumber_15
    refine i_X6_number iσ8 (kth.up xσ8) (by (first | omega | with_reducible assumption | with_reducible exact rng_toInt _ | with_reducible exact rng_wr _ | (unfold rng; omega) | (unfold rng at *; omega) | assumption)) (by (first | omega | with_reducible assumption | with_reducible exact rng_toInt _ | with_reducible exact rng_wr _ | (unfold rng; omega) | (unfold rng at *; omega) | assumption)) (fun σ9_1 r10_1 iσ9_1 cσ9_1 pσ9_1 => ?_) (fun σx LLx Nx nux E ix cx ux px => hX σx LLx Nx nux E ix (fσ8.tr (cx.mo (by decide))) (ux) (by first | exact px | exact ⟨by have := px.1; omega, px.2⟩ | (first | omega | with_reducible assumption | with_reducible exact rng_toInt _ | with_reducible exact rng_wr _ | (unfold rng; omega) | (unfold rng at *; omega) | assumption)))
    intro xσ9_1
    have fσ9_1 : Fx [386, 387, 388, 389, 390] gr σ σ9_1 := fσ8.tr (cσ9_1.mo (by decide))
    have kp11 : gP σ9_1 th 0 = gP σ8 th 0 := (cσ9_1.O (kth.up xσ8) (by decide)).2.1
    have kp12 : gI σ9_1 th 2 = gI σ8 th 2 := (cσ9_1.O (kth.up xσ8) (by decide)).1
    have kp13 : gI σ9_1 th 3 = gI σ8 th 3 := (cσ9_1.O (kth.up xσ8) (by decide)).1
    have kp14 : gI σ9_1 th 5 = gI σ8 th 5 := (cσ9_1.O (kth.up xσ8) (by decide)).1
    rw [if_neg hc4]
    unfold w_X6_signedNumber_28
    refine ⟨by (first | omega | with_reducible assumption | with_reducible exact rng_toInt _ | with_reducible exact rng_wr _ | (unfold rng; omega) | (unfold rng at *; omega) | assumption), ?_⟩
    unfold w_X6_signedNumber_34
    exact hQ σ9_1 (-r10_1) iσ9_1 fσ9_1 (by (first | omega | with_reducible assumption | with_reducible exact rng_toInt _ | with_reducible exact rng_wr _ | (unfold rng; omega) | (unfold rng at *; omega) | assumption))
set_option maxHeartbeats 1000000 in
theorem i_X6_input {σ : Sg} {pl : Nat} {gq ci gr nc : Nat → Nat} {ot : Nat → Nat → Int} {LL : Nat → List Nat} {N nu : Nat → Nat} {th : Nat} {J : Nat} (iσ : IV σ pl gq ci gr nc ot LL N nu) (kth : kO σ th 6) (h7 : gP σ th 7 = some J) (kJ : kO σ J 4) (h5 : nu 5 < 24000) {Q : Sg → Int → Prop} {X : Sg → String → Prop} (hQ : ∀ (σ' : Sg) (r : Int), IV σ' pl gq ci gr nc ot LL N nu → Fx [390] gr σ σ' → ((0 ≤ r ∧ r < gI σ J 1) ∧ gI σ th 3 = 1 ∧ gI σ' th 3 = gI σ th 3 ∧ gI σ' th 2 = gI σ th 2 ∧ gI σ' th 5 = gI σ th 5) → Q σ' r) (hX : ∀ (σ' : Sg) (LL' : Nat → List Nat) (N' nu' : Nat → Nat) (E : String), IV σ' pl gq ci gr nc ot LL' N' nu' → Fx [390] gr σ σ' → NCX nu nu' → (LL' = LL ∧ N' = N ∧ E = "java/lang/IllegalArgumentException" ∧ gI σ' th 6 ≠ 0) → X σ' E) : wp_X6_input th σ Q X := by
  have fσ : Fx [390] gr σ σ := Fx.rf
  unfold wp_X6_input
  unfold w_X6_input_0
  have q2 := iσ.rg th 3; unfold rng at q2
  by_cases hc1 : gI σ th 3 = 1
  · rw [if_pos hc1]
    unfold w_X6_input_12
    refine ⟨J, h7, fun kk_J => ?_⟩
    refine i_X4_find iσ kJ (fun r8 pσ7 => ?_)
    intro xσ7
    by_cases hc3 : r8 ≠ (-1)
    · rw [if_pos hc3]
      unfold w_X6_input_34
      exact hQ σ r8 iσ fσ (by (first | omega | with_reducible assumption | with_reducible exact rng_toInt _ | with_reducible exact rng_wr _ | (unfold rng; omega) | (unfold rng at *; omega) | assumption))
    · rw [if_neg hc3]
      have hc3q := Classical.not_not.mp hc3
      unfold w_X6_input_29
      refine i_X6_refuse iσ kth (by (first | omega | with_reducible assumption | with_reducible exact rng_toInt _ | with_reducible exact rng_wr _ | (unfold rng; omega) | (unfold rng at *; omega) | assumption)) (by (first | omega | with_reducible assumption | with_reducible exact rng_toInt _ | with_reducible exact rng_wr _ | (unfold rng; omega) | (unfold rng at *; omega) | assumption)) (by (first | omega | with_reducible assumption | with_reducible exact rng_toInt _ | with_reducible exact rng_wr _ | (unfold rng; omega) | (unfold rng at *; omega) | assumption)) (fun σ10 _ iσ10 cσ10 pσ10 => ?_) (fun σx LLx Nx nux E ix cx ux px => hX σx LLx Nx nux E ix (fσ.tr (cx.mo (by decide))) (ux) (by first | exact px | exact ⟨by have := px.1; omega, px.2⟩ | (first | omega | with_reducible assumption | with_reducible exact rng_toInt _ | with_reducible exact rng_wr _ | (unfold rng; omega) | (unfold rng at *; omega) | assumption)))
      intro xσ10
      exact pσ10.elim
  · rw [if_neg hc1]
    unfold w_X6_input_8
    refine i_X6_cannotStand iσ kth (by (first | omega | with_reducible assumption | with_reducible exact rng_toInt _ | with_reducible exact rng_wr _ | (unfold rng; omega) | (unfold rng at *; omega) | assumption)) (fun σ6 _ iσ6 cσ6 pσ6 => ?_) (fun σx LLx Nx nux E ix cx ux px => hX σx LLx Nx nux E ix (fσ.tr (cx.mo (by decide))) (ux) (by first | exact px | exact ⟨by have := px.1; omega, px.2⟩ | (first | omega | with_reducible assumption | with_reducible exact rng_toInt _ | with_reducible exact rng_wr _ | (unfold rng; omega) | (unfold rng at *; omega) | assumption)))
    intro xσ6
    exact pσ6.elim
set_option maxHeartbeats 1000000 in
theorem i_X6_column {σ : Sg} {pl : Nat} {gq ci gr nc : Nat → Nat} {ot : Nat → Nat → Int} {LL : Nat → List Nat} {N nu : Nat → Nat} {th : Nat} {v1 : Option Nat} (iσ : IV σ pl gq ci gr nc ot LL N nu) (kth : kO σ th 6) {oc : Nat} (hv1 : v1 = some oc) (koc : kO σ oc 5) (h5 : nu 5 < 24000) {Q : Sg → Int → Prop} {X : Sg → String → Prop} (hQ : ∀ (σ' : Sg) (r : Int), IV σ' pl gq ci gr nc ot LL N nu → Fx [390] gr σ σ' → ((0 ≤ r ∧ r ≤ 7 ∧ r < gI σ oc 3) ∧ gI σ th 3 = 1 ∧ gI σ' th 3 = gI σ th 3 ∧ gI σ' th 2 = gI σ th 2 ∧ gI σ' th 5 = gI σ th 5) → Q σ' r) (hX : ∀ (σ' : Sg) (LL' : Nat → List Nat) (N' nu' : Nat → Nat) (E : String), IV σ' pl gq ci gr nc ot LL' N' nu' → Fx [390] gr σ σ' → NCX nu nu' → (LL' = LL ∧ N' = N ∧ E = "java/lang/IllegalArgumentException" ∧ gI σ' th 6 ≠ 0) → X σ' E) : wp_X6_column th v1 σ Q X := by
  have fσ : Fx [390] gr σ σ := Fx.rf
  unfold wp_X6_column
  unfold w_X6_column_0
  have q2 := iσ.rg th 3; unfold rng at q2
  by_cases hc1 : gI σ th 3 = 1
  · rw [if_pos hc1]
    unfold w_X6_column_12
    refine ⟨oc, hv1, fun kk_oc => ?_⟩
    refine i_X5_find iσ koc (fun r8 pσ7 => ?_)
    intro xσ7
    by_cases hc3 : r8 ≠ (-1)
    · rw [if_pos hc3]
      unfold w_X6_column_31
      exact hQ σ r8 iσ fσ (by (first | omega | with_reducible assumption | with_reducible exact rng_toInt _ | with_reducible exact rng_wr _ | (unfold rng; omega) | (unfold rng at *; omega) | assumption))
    · rw [if_neg hc3]
      have hc3q := Classical.not_not.mp hc3
      unfold w_X6_column_26
      refine i_X6_refuse iσ kth (by (first | omega | with_reducible assumption | with_reducible exact rng_toInt _ | with_reducible exact rng_wr _ | (unfold rng; omega) | (unfold rng at *; omega) | assumption)) (by (first | omega | with_reducible assumption | with_reducible exact rng_toInt _ | with_reducible exact rng_wr _ | (unfold rng; omega) | (unfold rng at *; omega) | assumption)) (by (first | omega | with_reducible assumption | with_reducible exact rng_toInt _ | with_reducible exact rng_wr _ | (unfold rng; omega) | (unfold rng at *; omega) | assumption)) (fun σ10 _ iσ10 cσ10 pσ10 => ?_) (fun σx LLx Nx nux E ix cx ux px => hX σx LLx Nx nux E ix (fσ.tr (cx.mo (by decide))) (ux) (by first | exact px | exact ⟨by have := px.1; omega, px.2⟩ | (first | omega | with_reducible assumption | with_reducible exact rng_toInt _ | with_reducible exact rng_wr _ | (unfold rng; omega) | (unfold rng at *; omega) | assumption)))
      intro xσ10
      exact pσ10.elim
  · rw [if_neg hc1]
    unfold w_X6_column_8
    refine i_X6_cannotStand iσ kth (by (first | omega | with_reducible assumption | with_reducible exact rng_toInt _ | with_reducible exact rng_wr _ | (unfold rng; omega) | (unfold rng at *; omega) | assumption)) (fun σ6 _ iσ6 cσ6 pσ6 => ?_) (fun σx LLx Nx nux E ix cx ux px => hX σx LLx Nx nux E ix (fσ.tr (cx.mo (by decide))) (ux) (by first | exact px | exact ⟨by have := px.1; omega, px.2⟩ | (first | omega | with_reducible assumption | with_reducible exact rng_toInt _ | with_reducible exact rng_wr _ | (unfold rng; omega) | (unfold rng at *; omega) | assumption)))
    intro xσ6
    exact pσ6.elim
set_option maxHeartbeats 1000000 in
theorem i_X5_addColumn {σ : Sg} {pl : Nat} {gq ci gr nc : Nat → Nat} {ot : Nat → Nat → Int} {LL : Nat → List Nat} {N nu : Nat → Nat} {th : Nat} {v1 : Int64} {q c : Nat} (iσ : IV σ pl gq ci gr nc ot LL N nu) (kth : kO σ th 5) (gth : gq th = 16 * q + c) (hq : q ≠ nc 0 ∧ q ≤ 1) (hc : c < 16) {Q : Sg → Unit → Prop} {X : Sg → String → Prop} (hQ : ∀ (σ' : Sg) (r : Unit), IV σ' pl gq ci gr nc ot LL N nu → Fx [323, 6464] gr σ σ' → OX th σ σ' → ((gI σ th 3 < 8 → gI σ' th 3 = gI σ th 3 + 1) ∧ (8 ≤ gI σ th 3 → gI σ' th 3 = gI σ th 3)) → Q σ' r) : wp_X5_addColumn th v1 σ Q X := by
  have fσ : Fx [323, 6464] gr σ σ := Fx.rf
  have oxσ : OX th σ σ := OX.rf
  have ncb := iσ.ncb
  unfold wp_X5_addColumn
  unfold w_X5_addColumn_0
  have q2 := I_5_3 iσ.1 kth
  by_cases hc1 : gI σ th 3 ≥ 8
  · rw [if_pos hc1]
    unfold w_X5_addColumn_29
    exact hQ σ () iσ fσ oxσ (by (first | omega | with_reducible assumption | with_reducible exact rng_toInt _ | with_reducible exact rng_wr _ | (unfold rng; omega) | (unfold rng at *; omega) | assumption))
  · rw [if_neg hc1]
    unfold w_X5_addColumn_9
    obtain ⟨b, eb, fb⟩ := P_5_0 iσ.1 kth
    have mb : kO σ b 101 := iσ.1.kd kth rfl eb rfl
    refine ⟨b, eb, fun kk_b => ?_⟩
    refine ⟨⟨by (first | omega | with_reducible assumption | with_reducible exact rng_toInt _ | with_reducible exact rng_wr _ | (unfold rng; omega) | (unfold rng at *; omega) | assumption), by (first | omega | with_reducible assumption | with_reducible exact rng_toInt _ | with_reducible exact rng_wr _ | (unfold rng; omega) | (unfold rng at *; omega) | assumption)⟩, ?_⟩
    intro σ5 eσ5
    have xσ5 : Ext σ σ5 := by rw [eσ5]; exact fun _ h => ⟨h, rfl, rfl⟩
    have iσ5 : IV σ5 pl gq ci gr nc ot LL N nu := by rw [eσ5]; exact iσ.wL mb (by omega)
    have fσ5 : Fx [323, 6464] gr σ σ5 := fσ.tr (Sk.fx (by rw [eσ5]; exact Sk.pJ (by rw [fcdA mb (by decide)]; decide)))
    have oxcσ5 : OX th σ σ5 := oxσ.tr (by rw [eσ5]; exact OX.pJ) (Ext.rfl' _)
    have kp3 : gI σ5 th 3 = gI σ th 3 := by rw [eσ5]
    have kp4 : gP σ5 th 0 = gP σ th 0 := by rw [eσ5]
    refine ⟨by (first | omega | with_reducible assumption | with_reducible exact rng_toInt _ | with_reducible exact rng_wr _ | (unfold rng; omega) | (unfold rng at *; omega) | assumption), ?_⟩
    intro σ6 eσ6
    have xσ6 : Ext σ5 σ6 := by rw [eσ6]; exact fun _ h => ⟨h, rfl, rfl⟩
    have iσ6 : IV σ6 pl gq ci gr nc ot LL N nu := by rw [eσ6]; exact iσ5.wSp (kth.up xσ5) (fun i hi => by omega) (by decide) (show (0 : Int) ≤ (gI σ5 th 3 + 1) ∧ (gI σ5 th 3 + 1) ≤ 8 from ⟨by omega, by omega⟩)
    have fσ6 : Fx [323, 6464] gr σ σ6 := fσ5.tr (Sk.fx (by rw [eσ6]; exact Sk.pI (by rw [fcdO (kth.up xσ5) (by decide)]; decide)))
    have oxcσ6 : OX th σ σ6 := oxcσ5.tr (by rw [eσ6]; exact OX.pI (kth.up xσ5) (Or.inr rfl)) (xσ5)
    have wσ6 : gI σ6 th 3 = (gI σ5 th 3 + 1) := by rw [eσ6]; exact up2_s _ _ _ _
    have kp5 : gP σ6 th 0 = gP σ5 th 0 := by rw [eσ6]
    unfold w_X5_addColumn_29
    exact hQ σ6 () iσ6 fσ6 oxcσ6 (by (first | omega | with_reducible assumption | with_reducible exact rng_toInt _ | with_reducible exact rng_wr _ | (unfold rng; omega) | (unfold rng at *; omega) | assumption))
set_option maxHeartbeats 1000000 in
theorem i_X5_addColumnsOf {σ : Sg} {pl : Nat} {gq ci gr nc : Nat → Nat} {ot : Nat → Nat → Int} {LL : Nat → List Nat} {N nu : Nat → Nat} {th : Nat} {v1 : Option Nat} {q c : Nat} (iσ : IV σ pl gq ci gr nc ot LL N nu) (kth : kO σ th 5) {oc : Nat} (hv1 : v1 = some oc) (koc : kO σ oc 5) (gth : gq th = 16 * q + c) (hq : q ≠ nc 0 ∧ q ≤ 1) (hc : c < 16) (hne : th ≠ oc) {Q : Sg → Unit → Prop} {X : Sg → String → Prop} (hQ : ∀ (σ' : Sg) (r : Unit), IV σ' pl gq ci gr nc ot LL N nu → Fx [323, 6464] gr σ σ' → OX th σ σ' → (gI σ th 3 ≤ gI σ' th 3 ∧ (gI σ' th 3 = 8 ∨ gI σ' th 3 = gI σ th 3 + gI σ oc 3)) → Q σ' r) : wp_X5_addColumnsOf th v1 σ Q X := by
  have fσ : Fx [323, 6464] gr σ σ := Fx.rf
  have oxσ : OX th σ σ := OX.rf
  have w0 := I_5_3 iσ.1 kth
  have w1 := I_5_3 iσ.1 koc
  unfold wp_X5_addColumnsOf
  unfold w_X5_addColumnsOf_0
  have Lp2 : ∀ (fu2 : Nat) (τ2 : Sg) (v2 : Int), IV τ2 pl gq ci gr nc ot LL N nu → Fx [323, 6464] gr σ τ2 → Ext σ τ2 → OX th σ τ2 → ((0 ≤ v2 ∧ v2 ≤ 8 ∧ v2 ≤ gI σ oc 3) ∧ gI τ2 oc 3 = gI σ oc 3 ∧ gI σ th 3 ≤ gI τ2 th 3 ∧ (gI τ2 th 3 = 8 ∨ gI τ2 th 3 = gI σ th 3 + v2)) → ((8 - v2).toNat) < fu2 → wl_X5_addColumnsOf_2 th Q X fu2 τ2 v1 v2 := by
    intro fu2
    induction fu2 with
    | zero => intro _ _ _ _ _ _ _ h9; omega
    | succ fu2 ih2 =>
      intro τ2 v2 iτ2 fτ2 xτ2 oxcτ2 hi2 hm2
      unfold wl_X5_addColumnsOf_2
      have w2 := I_5_3 iτ2.1 (kth.up xτ2)
      unfold w_X5_addColumnsOf_2
      refine ⟨oc, hv1, fun kk_oc => ?_⟩
      have q2 := I_5_3 iτ2.1 (koc.up xτ2)
      by_cases hc1 : v2 ≥ gI τ2 oc 3
      · rw [if_pos hc1]
        unfold w_X5_addColumnsOf_26
        exact hQ τ2 () iτ2 fτ2 oxcτ2 (by (first | omega | with_reducible assumption | with_reducible exact rng_toInt _ | with_reducible exact rng_wr _ | (unfold rng; omega) | (unfold rng at *; omega) | assumption))
      · rw [if_neg hc1]
        unfold w_X5_addColumnsOf_10
        refine ⟨oc, hv1, fun kk_oc_1 => ?_⟩
        obtain ⟨b, eb, fb⟩ := P_5_0 iτ2.1 (koc.up xτ2)
        have mb : kO τ2 b 101 := iτ2.1.kd (koc.up xτ2) rfl eb rfl
        refine ⟨b, eb, fun kk_b => ?_⟩
        refine ⟨⟨by (first | omega | with_reducible assumption | with_reducible exact rng_toInt _ | with_reducible exact rng_wr _ | (unfold rng; omega) | (unfold rng at *; omega) | assumption), by (first | omega | with_reducible assumption | with_reducible exact rng_toInt _ | with_reducible exact rng_wr _ | (unfold rng; omega) | (unfold rng at *; omega) | assumption)⟩, ?_⟩
        refine i_X5_addColumn iτ2 (kth.up xτ2) (by (first | omega | with_reducible assumption | with_reducible exact rng_toInt _ | with_reducible exact rng_wr _ | (unfold rng; omega) | (unfold rng at *; omega) | assumption)) (by (first | omega | with_reducible assumption | with_reducible exact rng_toInt _ | with_reducible exact rng_wr _ | (unfold rng; omega) | (unfold rng at *; omega) | assumption)) (by (first | omega | with_reducible assumption | with_reducible exact rng_toInt _ | with_reducible exact rng_wr _ | (unfold rng; omega) | (unfold rng at *; omega) | assumption)) (fun σ8 _ iσ8 cσ8 oxσ8 pσ8 => ?_)
        intro xσ8
        have fσ8 : Fx [323, 6464] gr σ σ8 := fτ2.tr (cσ8.mo (by decide))
        have oxcσ8 : OX th σ σ8 := oxcτ2.tr oxσ8 (xτ2)
        have kp3 : gP σ8 oc 0 = gP τ2 oc 0 := (cσ8.O (koc.up xτ2) (by decide)).2.1
        have ko3 := oxσ8 oc (koc.up xτ2) (fun e => hne e.symm) 3
        have w3 := I_5_3 iσ8.1 (kth.up (xτ2.trans xσ8))
        refine ⟨by (first | omega | with_reducible assumption | with_reducible exact rng_toInt _ | with_reducible exact rng_wr _ | (unfold rng; omega) | (unfold rng at *; omega) | assumption), ?_⟩
        exact ih2 σ8 (v2 + 1) iσ8 fσ8 (xτ2.trans xσ8) oxcσ8 (by (first | omega | with_reducible assumption | with_reducible exact rng_toInt _ | with_reducible exact rng_wr _ | (unfold rng; omega) | (unfold rng at *; omega) | assumption)) (by (first | omega | with_reducible assumption | with_reducible exact rng_toInt _ | with_reducible exact rng_wr _ | (unfold rng; omega) | (unfold rng at *; omega) | assumption))
  exact ⟨_, Lp2 _ σ _ iσ fσ (Ext.rfl' _) oxσ (by (first | omega | with_reducible assumption | with_reducible exact rng_toInt _ | with_reducible exact rng_wr _ | (unfold rng; omega) | (unfold rng at *; omega) | assumption)) (Nat.lt_succ_self _)⟩
set_option maxHeartbeats 1000000 in
theorem i_X5_forget {σ : Sg} {pl : Nat} {gq ci gr nc : Nat → Nat} {ot : Nat → Nat → Int} {LL : Nat → List Nat} {N nu : Nat → Nat} {th : Nat} {q c : Nat} (iσ : IV σ pl gq ci gr nc ot LL N nu) (kth : kO σ th 5) (gth : gq th = 16 * q + c) (hq : q ≠ nc 0 ∧ q ≤ 1) (hc : c < 16) {Q : Sg → Unit → Prop} {X : Sg → String → Prop} (hQ : ∀ (σ' : Sg) (r : Unit), IV σ' pl gq ci gr nc ot LL N nu → Fx [323, 324, 325, 326, 327, 328, 329, 330, 331, 332, 333, 334, 335, 336] gr σ σ' → OX th σ σ' → (gI σ' th 3 = 0 ∧ gI σ' th 4 = 0 ∧ gI σ' th 6 = 0 ∧ gI σ' th 7 = -1 ∧ gI σ' th 8 = -1 ∧ gI σ' th 9 = 0) → Q σ' r) : wp_X5_forget th σ Q X := by
  have fσ : Fx [323, 324, 325, 326, 327, 328, 329, 330, 331, 332, 333, 334, 335, 336] gr σ σ := Fx.rf
  have oxσ : OX th σ σ := OX.rf
  have ncb := iσ.ncb
  unfold wp_X5_forget
  unfold w_X5_forget_0
  intro σ15 eσ15
  have xσ15 : Ext σ σ15 := by rw [eσ15]; exact fun _ h => ⟨h, rfl, rfl⟩
  have iσ15 : IV σ15 pl gq ci gr nc ot LL N nu := by rw [eσ15]; exact iσ.wSp kth (fun i hi => by omega) (by decide) (show (0 : Int) ≤ 0 ∧ 0 ≤ 8 from ⟨by omega, by omega⟩)
  have fσ15 : Fx [323, 324, 325, 326, 327, 328, 329, 330, 331, 332, 333, 334, 335, 336] gr σ σ15 := fσ.tr (Sk.fx (by rw [eσ15]; exact Sk.pI (by rw [fcdO kth (by decide)]; decide)))
  have oxcσ15 : OX th σ σ15 := oxσ.tr (by rw [eσ15]; exact OX.pI kth (Or.inr rfl)) (Ext.rfl' _)
  have wσ15 : gI σ15 th 3 = 0 := by rw [eσ15]; exact up2_s _ _ _ _
  intro σ16 eσ16
  have xσ16 : Ext σ15 σ16 := by rw [eσ16]; exact fun _ h => ⟨h, rfl, rfl⟩
  have iσ16 : IV σ16 pl gq ci gr nc ot LL N nu := by rw [eσ16]; exact iσ15.wSp (kth.up xσ15) (fun i hi => by omega) (by decide) (show (0 : Int) ≤ 0 ∧ 0 ≤ 8 from ⟨by omega, by omega⟩)
  have fσ16 : Fx [323, 324, 325, 326, 327, 328, 329, 330, 331, 332, 333, 334, 335, 336] gr σ σ16 := fσ15.tr (Sk.fx (by rw [eσ16]; exact Sk.pI (by rw [fcdO (kth.up xσ15) (by decide)]; decide)))
  have oxcσ16 : OX th σ σ16 := oxcσ15.tr (by rw [eσ16]; exact OX.pI (kth.up xσ15) (Or.inr rfl)) (xσ15)
  have wσ16 : gI σ16 th 4 = 0 := by rw [eσ16]; exact up2_s _ _ _ _
  have kp1 : gI σ16 th 3 = gI σ15 th 3 := by rw [eσ16]; exact up2_n _ _ (fun q => absurd q.2 (by decide))
  intro σ17 eσ17
  have xσ17 : Ext σ16 σ17 := by rw [eσ17]; exact fun _ h => ⟨h, rfl, rfl⟩
  have iσ17 : IV σ17 pl gq ci gr nc ot LL N nu := by rw [eσ17]; exact iσ16.wJ (kth.up (xσ15.trans xσ16)) (by decide)
  have fσ17 : Fx [323, 324, 325, 326, 327, 328, 329, 330, 331, 332, 333, 334, 335, 336] gr σ σ17 := fσ16.tr (Sk.fx (by rw [eσ17]; exact Sk.pJ (by rw [fcdO (kth.up (xσ15.trans xσ16)) (by decide)]; decide)))
  have oxcσ17 : OX th σ σ17 := oxcσ16.tr (by rw [eσ17]; exact OX.pJ) (xσ15.trans xσ16)
  have kp2 : gI σ17 th 3 = gI σ16 th 3 := by rw [eσ17]
  have kp3 : gI σ17 th 4 = gI σ16 th 4 := by rw [eσ17]
  intro σ18 eσ18
  have xσ18 : Ext σ17 σ18 := by rw [eσ18]; exact fun _ h => ⟨h, rfl, rfl⟩
  have iσ18 : IV σ18 pl gq ci gr nc ot LL N nu := by rw [eσ18]; exact iσ17.wSp (kth.up (xσ15.trans (xσ16.trans xσ17))) (fun i hi => by omega) (by decide) (show (0 : Int) ≤ 0 ∧ 0 ≤ 11 from ⟨by omega, by omega⟩)
  have fσ18 : Fx [323, 324, 325, 326, 327, 328, 329, 330, 331, 332, 333, 334, 335, 336] gr σ σ18 := fσ17.tr (Sk.fx (by rw [eσ18]; exact Sk.pI (by rw [fcdO (kth.up (xσ15.trans (xσ16.trans xσ17))) (by decide)]; decide)))
  have oxcσ18 : OX th σ σ18 := oxcσ17.tr (by rw [eσ18]; exact OX.pI (kth.up (xσ15.trans (xσ16.trans xσ17))) (Or.inr rfl)) (xσ15.trans (xσ16.trans xσ17))
  have wσ18 : gI σ18 th 6 = 0 := by rw [eσ18]; exact up2_s _ _ _ _
  have kp4 : gI σ18 th 3 = gI σ17 th 3 := by rw [eσ18]; exact up2_n _ _ (fun q => absurd q.2 (by decide))
  have kp5 : gI σ18 th 4 = gI σ17 th 4 := by rw [eσ18]; exact up2_n _ _ (fun q => absurd q.2 (by decide))
  intro σ19 eσ19
  have xσ19 : Ext σ18 σ19 := by rw [eσ19]; exact fun _ h => ⟨h, rfl, rfl⟩
  have iσ19 : IV σ19 pl gq ci gr nc ot LL N nu := by rw [eσ19]; exact iσ18.wSp (kth.up (xσ15.trans (xσ16.trans (xσ17.trans xσ18)))) (fun i hi => by omega) (by decide) (show (-1 : Int) ≤ (-1) ∧ (-1) ≤ 15 from ⟨by omega, by omega⟩)
  have fσ19 : Fx [323, 324, 325, 326, 327, 328, 329, 330, 331, 332, 333, 334, 335, 336] gr σ σ19 := fσ18.tr (Sk.fx (by rw [eσ19]; exact Sk.pI (by rw [fcdO (kth.up (xσ15.trans (xσ16.trans (xσ17.trans xσ18)))) (by decide)]; decide)))
  have oxcσ19 : OX th σ σ19 := oxcσ18.tr (by rw [eσ19]; exact OX.pI (kth.up (xσ15.trans (xσ16.trans (xσ17.trans xσ18)))) (Or.inr rfl)) (xσ15.trans (xσ16.trans (xσ17.trans xσ18)))
  have wσ19 : gI σ19 th 7 = (-1) := by rw [eσ19]; exact up2_s _ _ _ _
  have kp6 : gI σ19 th 3 = gI σ18 th 3 := by rw [eσ19]; exact up2_n _ _ (fun q => absurd q.2 (by decide))
  have kp7 : gI σ19 th 4 = gI σ18 th 4 := by rw [eσ19]; exact up2_n _ _ (fun q => absurd q.2 (by decide))
  have kp8 : gI σ19 th 6 = gI σ18 th 6 := by rw [eσ19]; exact up2_n _ _ (fun q => absurd q.2 (by decide))
  intro σ20 eσ20
  have xσ20 : Ext σ19 σ20 := by rw [eσ20]; exact fun _ h => ⟨h, rfl, rfl⟩
  have iσ20 : IV σ20 pl gq ci gr nc ot LL N nu := by rw [eσ20]; exact iσ19.wSp (kth.up (xσ15.trans (xσ16.trans (xσ17.trans (xσ18.trans xσ19))))) (fun i hi => by omega) (by decide) (show (-1 : Int) ≤ (-1) ∧ (-1) ≤ 15 from ⟨by omega, by omega⟩)
  have fσ20 : Fx [323, 324, 325, 326, 327, 328, 329, 330, 331, 332, 333, 334, 335, 336] gr σ σ20 := fσ19.tr (Sk.fx (by rw [eσ20]; exact Sk.pI (by rw [fcdO (kth.up (xσ15.trans (xσ16.trans (xσ17.trans (xσ18.trans xσ19))))) (by decide)]; decide)))
  have oxcσ20 : OX th σ σ20 := oxcσ19.tr (by rw [eσ20]; exact OX.pI (kth.up (xσ15.trans (xσ16.trans (xσ17.trans (xσ18.trans xσ19))))) (Or.inr rfl)) (xσ15.trans (xσ16.trans (xσ17.trans (xσ18.trans xσ19))))
  have wσ20 : gI σ20 th 8 = (-1) := by rw [eσ20]; exact up2_s _ _ _ _
  have kp9 : gI σ20 th 3 = gI σ19 th 3 := by rw [eσ20]; exact up2_n _ _ (fun q => absurd q.2 (by decide))
  have kp10 : gI σ20 th 4 = gI σ19 th 4 := by rw [eσ20]; exact up2_n _ _ (fun q => absurd q.2 (by decide))
  have kp11 : gI σ20 th 6 = gI σ19 th 6 := by rw [eσ20]; exact up2_n _ _ (fun q => absurd q.2 (by decide))
  have kp12 : gI σ20 th 7 = gI σ19 th 7 := by rw [eσ20]; exact up2_n _ _ (fun q => absurd q.2 (by decide))
  intro σ21 eσ21
  have xσ21 : Ext σ20 σ21 := by rw [eσ21]; exact fun _ h => ⟨h, rfl, rfl⟩
  have iσ21 : IV σ21 pl gq ci gr nc ot LL N nu := by rw [eσ21]; exact iσ20.wSp (kth.up (xσ15.trans (xσ16.trans (xσ17.trans (xσ18.trans (xσ19.trans xσ20)))))) (fun i hi => by omega) (by decide) (show (0 : Int) ≤ 0 ∧ 0 ≤ 9 from ⟨by omega, by omega⟩)
  have fσ21 : Fx [323, 324, 325, 326, 327, 328, 329, 330, 331, 332, 333, 334, 335, 336] gr σ σ21 := fσ20.tr (Sk.fx (by rw [eσ21]; exact Sk.pI (by rw [fcdO (kth.up (xσ15.trans (xσ16.trans (xσ17.trans (xσ18.trans (xσ19.trans xσ20)))))) (by decide)]; decide)))
  have oxcσ21 : OX th σ σ21 := oxcσ20.tr (by rw [eσ21]; exact OX.pI (kth.up (xσ15.trans (xσ16.trans (xσ17.trans (xσ18.trans (xσ19.trans xσ20)))))) (Or.inr rfl)) (xσ15.trans (xσ16.trans (xσ17.trans (xσ18.trans (xσ19.trans xσ20)))))
  have wσ21 : gI σ21 th 9 = 0 := by rw [eσ21]; exact up2_s _ _ _ _
  have kp13 : gI σ21 th 3 = gI σ20 th 3 := by rw [eσ21]; exact up2_n _ _ (fun q => absurd q.2 (by decide))
  have kp14 : gI σ21 th 4 = gI σ20 th 4 := by rw [eσ21]; exact up2_n _ _ (fun q => absurd q.2 (by decide))
  have kp15 : gI σ21 th 6 = gI σ20 th 6 := by rw [eσ21]; exact up2_n _ _ (fun q => absurd q.2 (by decide))
  have kp16 : gI σ21 th 7 = gI σ20 th 7 := by rw [eσ21]; exact up2_n _ _ (fun q => absurd q.2 (by decide))
  have kp17 : gI σ21 th 8 = gI σ20 th 8 := by rw [eσ21]; exact up2_n _ _ (fun q => absurd q.2 (by decide))
  intro σ22 eσ22
  have xσ22 : Ext σ21 σ22 := by rw [eσ22]; exact fun _ h => ⟨h, rfl, rfl⟩
  have iσ22 : IV σ22 pl gq ci gr nc ot LL N nu := by rw [eσ22]; exact iσ21.wSp (kth.up (xσ15.trans (xσ16.trans (xσ17.trans (xσ18.trans (xσ19.trans (xσ20.trans xσ21))))))) (fun i hi => by omega) (by decide) (show (0 : Int) ≤ 0 ∧ 0 ≤ 1000 from ⟨by omega, by omega⟩)
  have fσ22 : Fx [323, 324, 325, 326, 327, 328, 329, 330, 331, 332, 333, 334, 335, 336] gr σ σ22 := fσ21.tr (Sk.fx (by rw [eσ22]; exact Sk.pI (by rw [fcdO (kth.up (xσ15.trans (xσ16.trans (xσ17.trans (xσ18.trans (xσ19.trans (xσ20.trans xσ21))))))) (by decide)]; decide)))
  have oxcσ22 : OX th σ σ22 := oxcσ21.tr (by rw [eσ22]; exact OX.pI (kth.up (xσ15.trans (xσ16.trans (xσ17.trans (xσ18.trans (xσ19.trans (xσ20.trans xσ21))))))) (Or.inr rfl)) (xσ15.trans (xσ16.trans (xσ17.trans (xσ18.trans (xσ19.trans (xσ20.trans xσ21))))))
  have wσ22 : gI σ22 th 10 = 0 := by rw [eσ22]; exact up2_s _ _ _ _
  have kp18 : gI σ22 th 3 = gI σ21 th 3 := by rw [eσ22]; exact up2_n _ _ (fun q => absurd q.2 (by decide))
  have kp19 : gI σ22 th 4 = gI σ21 th 4 := by rw [eσ22]; exact up2_n _ _ (fun q => absurd q.2 (by decide))
  have kp20 : gI σ22 th 6 = gI σ21 th 6 := by rw [eσ22]; exact up2_n _ _ (fun q => absurd q.2 (by decide))
  have kp21 : gI σ22 th 7 = gI σ21 th 7 := by rw [eσ22]; exact up2_n _ _ (fun q => absurd q.2 (by decide))
  have kp22 : gI σ22 th 8 = gI σ21 th 8 := by rw [eσ22]; exact up2_n _ _ (fun q => absurd q.2 (by decide))
  have kp23 : gI σ22 th 9 = gI σ21 th 9 := by rw [eσ22]; exact up2_n _ _ (fun q => absurd q.2 (by decide))
  intro σ23 eσ23
  have xσ23 : Ext σ22 σ23 := by rw [eσ23]; exact fun _ h => ⟨h, rfl, rfl⟩
  have iσ23 : IV σ23 pl gq ci gr nc ot LL N nu := by rw [eσ23]; exact iσ22.wSp (kth.up (xσ15.trans (xσ16.trans (xσ17.trans (xσ18.trans (xσ19.trans (xσ20.trans (xσ21.trans xσ22)))))))) (fun i hi => by omega) (by decide) (show (0 : Int) ≤ 1 ∧ 1 ≤ 1000 from ⟨by omega, by omega⟩)
  have fσ23 : Fx [323, 324, 325, 326, 327, 328, 329, 330, 331, 332, 333, 334, 335, 336] gr σ σ23 := fσ22.tr (Sk.fx (by rw [eσ23]; exact Sk.pI (by rw [fcdO (kth.up (xσ15.trans (xσ16.trans (xσ17.trans (xσ18.trans (xσ19.trans (xσ20.trans (xσ21.trans xσ22)))))))) (by decide)]; decide)))
  have oxcσ23 : OX th σ σ23 := oxcσ22.tr (by rw [eσ23]; exact OX.pI (kth.up (xσ15.trans (xσ16.trans (xσ17.trans (xσ18.trans (xσ19.trans (xσ20.trans (xσ21.trans xσ22)))))))) (Or.inr rfl)) (xσ15.trans (xσ16.trans (xσ17.trans (xσ18.trans (xσ19.trans (xσ20.trans (xσ21.trans xσ22)))))))
  have wσ23 : gI σ23 th 11 = 1 := by rw [eσ23]; exact up2_s _ _ _ _
  have kp24 : gI σ23 th 10 = gI σ22 th 10 := by rw [eσ23]; exact up2_n _ _ (fun q => absurd q.2 (by decide))
  have kp25 : gI σ23 th 3 = gI σ22 th 3 := by rw [eσ23]; exact up2_n _ _ (fun q => absurd q.2 (by decide))
  have kp26 : gI σ23 th 4 = gI σ22 th 4 := by rw [eσ23]; exact up2_n _ _ (fun q => absurd q.2 (by decide))
  have kp27 : gI σ23 th 6 = gI σ22 th 6 := by rw [eσ23]; exact up2_n _ _ (fun q => absurd q.2 (by decide))
  have kp28 : gI σ23 th 7 = gI σ22 th 7 := by rw [eσ23]; exact up2_n _ _ (fun q => absurd q.2 (by decide))
  have kp29 : gI σ23 th 8 = gI σ22 th 8 := by rw [eσ23]; exact up2_n _ _ (fun q => absurd q.2 (by decide))
  have kp30 : gI σ23 th 9 = gI σ22 th 9 := by rw [eσ23]; exact up2_n _ _ (fun q => absurd q.2 (by decide))
  intro σ24 eσ24
  have xσ24 : Ext σ23 σ24 := by rw [eσ24]; exact fun _ h => ⟨h, rfl, rfl⟩
  have iσ24 : IV σ24 pl gq ci gr nc ot LL N nu := by rw [eσ24]; exact iσ23.wSp (kth.up (xσ15.trans (xσ16.trans (xσ17.trans (xσ18.trans (xσ19.trans (xσ20.trans (xσ21.trans (xσ22.trans xσ23))))))))) (fun i hi => by omega) (by decide) (show (0 : Int) ≤ 1 ∧ 1 ≤ 1000 from ⟨by omega, by omega⟩)
  have fσ24 : Fx [323, 324, 325, 326, 327, 328, 329, 330, 331, 332, 333, 334, 335, 336] gr σ σ24 := fσ23.tr (Sk.fx (by rw [eσ24]; exact Sk.pI (by rw [fcdO (kth.up (xσ15.trans (xσ16.trans (xσ17.trans (xσ18.trans (xσ19.trans (xσ20.trans (xσ21.trans (xσ22.trans xσ23))))))))) (by decide)]; decide)))
  have oxcσ24 : OX th σ σ24 := oxcσ23.tr (by rw [eσ24]; exact OX.pI (kth.up (xσ15.trans (xσ16.trans (xσ17.trans (xσ18.trans (xσ19.trans (xσ20.trans (xσ21.trans (xσ22.trans xσ23))))))))) (Or.inr rfl)) (xσ15.trans (xσ16.trans (xσ17.trans (xσ18.trans (xσ19.trans (xσ20.trans (xσ21.trans (xσ22.trans xσ23))))))))
  have wσ24 : gI σ24 th 12 = 1 := by rw [eσ24]; exact up2_s _ _ _ _
  have kp31 : gI σ24 th 10 = gI σ23 th 10 := by rw [eσ24]; exact up2_n _ _ (fun q => absurd q.2 (by decide))
  have kp32 : gI σ24 th 11 = gI σ23 th 11 := by rw [eσ24]; exact up2_n _ _ (fun q => absurd q.2 (by decide))
  have kp33 : gI σ24 th 3 = gI σ23 th 3 := by rw [eσ24]; exact up2_n _ _ (fun q => absurd q.2 (by decide))
  have kp34 : gI σ24 th 4 = gI σ23 th 4 := by rw [eσ24]; exact up2_n _ _ (fun q => absurd q.2 (by decide))
  have kp35 : gI σ24 th 6 = gI σ23 th 6 := by rw [eσ24]; exact up2_n _ _ (fun q => absurd q.2 (by decide))
  have kp36 : gI σ24 th 7 = gI σ23 th 7 := by rw [eσ24]; exact up2_n _ _ (fun q => absurd q.2 (by decide))
  have kp37 : gI σ24 th 8 = gI σ23 th 8 := by rw [eσ24]; exact up2_n _ _ (fun q => absurd q.2 (by decide))
  have kp38 : gI σ24 th 9 = gI σ23 th 9 := by rw [eσ24]; exact up2_n _ _ (fun q => absurd q.2 (by decide))
  intro σ25 eσ25
  have xσ25 : Ext σ24 σ25 := by rw [eσ25]; exact fun _ h => ⟨h, rfl, rfl⟩
  have iσ25 : IV σ25 pl gq ci gr nc ot LL N nu := by rw [eσ25]; exact iσ24.wSp (kth.up (xσ15.trans (xσ16.trans (xσ17.trans (xσ18.trans (xσ19.trans (xσ20.trans (xσ21.trans (xσ22.trans (xσ23.trans xσ24)))))))))) (fun i hi => by omega) (by decide) (show (0 : Int) ≤ 0 ∧ 0 ≤ 7 from ⟨by omega, by omega⟩)
  have fσ25 : Fx [323, 324, 325, 326, 327, 328, 329, 330, 331, 332, 333, 334, 335, 336] gr σ σ25 := fσ24.tr (Sk.fx (by rw [eσ25]; exact Sk.pI (by rw [fcdO (kth.up (xσ15.trans (xσ16.trans (xσ17.trans (xσ18.trans (xσ19.trans (xσ20.trans (xσ21.trans (xσ22.trans (xσ23.trans xσ24)))))))))) (by decide)]; decide)))
  have oxcσ25 : OX th σ σ25 := oxcσ24.tr (by rw [eσ25]; exact OX.pI (kth.up (xσ15.trans (xσ16.trans (xσ17.trans (xσ18.trans (xσ19.trans (xσ20.trans (xσ21.trans (xσ22.trans (xσ23.trans xσ24)))))))))) (Or.inr rfl)) (xσ15.trans (xσ16.trans (xσ17.trans (xσ18.trans (xσ19.trans (xσ20.trans (xσ21.trans (xσ22.trans (xσ23.trans xσ24)))))))))
  have wσ25 : gI σ25 th 13 = 0 := by rw [eσ25]; exact up2_s _ _ _ _
  have kp39 : gI σ25 th 10 = gI σ24 th 10 := by rw [eσ25]; exact up2_n _ _ (fun q => absurd q.2 (by decide))
  have kp40 : gI σ25 th 11 = gI σ24 th 11 := by rw [eσ25]; exact up2_n _ _ (fun q => absurd q.2 (by decide))
  have kp41 : gI σ25 th 12 = gI σ24 th 12 := by rw [eσ25]; exact up2_n _ _ (fun q => absurd q.2 (by decide))
  have kp42 : gI σ25 th 3 = gI σ24 th 3 := by rw [eσ25]; exact up2_n _ _ (fun q => absurd q.2 (by decide))
  have kp43 : gI σ25 th 4 = gI σ24 th 4 := by rw [eσ25]; exact up2_n _ _ (fun q => absurd q.2 (by decide))
  have kp44 : gI σ25 th 6 = gI σ24 th 6 := by rw [eσ25]; exact up2_n _ _ (fun q => absurd q.2 (by decide))
  have kp45 : gI σ25 th 7 = gI σ24 th 7 := by rw [eσ25]; exact up2_n _ _ (fun q => absurd q.2 (by decide))
  have kp46 : gI σ25 th 8 = gI σ24 th 8 := by rw [eσ25]; exact up2_n _ _ (fun q => absurd q.2 (by decide))
  have kp47 : gI σ25 th 9 = gI σ24 th 9 := by rw [eσ25]; exact up2_n _ _ (fun q => absurd q.2 (by decide))
  intro σ26 eσ26
  have xσ26 : Ext σ25 σ26 := by rw [eσ26]; exact fun _ h => ⟨h, rfl, rfl⟩
  have iσ26 : IV σ26 pl gq ci gr nc ot LL N nu := by rw [eσ26]; exact iσ25.wSp (kth.up (xσ15.trans (xσ16.trans (xσ17.trans (xσ18.trans (xσ19.trans (xσ20.trans (xσ21.trans (xσ22.trans (xσ23.trans (xσ24.trans xσ25))))))))))) (fun i hi => by omega) (by decide) (show (0 : Int) ≤ 0 ∧ 0 ≤ 7 from ⟨by omega, by omega⟩)
  have fσ26 : Fx [323, 324, 325, 326, 327, 328, 329, 330, 331, 332, 333, 334, 335, 336] gr σ σ26 := fσ25.tr (Sk.fx (by rw [eσ26]; exact Sk.pI (by rw [fcdO (kth.up (xσ15.trans (xσ16.trans (xσ17.trans (xσ18.trans (xσ19.trans (xσ20.trans (xσ21.trans (xσ22.trans (xσ23.trans (xσ24.trans xσ25))))))))))) (by decide)]; decide)))
  have oxcσ26 : OX th σ σ26 := oxcσ25.tr (by rw [eσ26]; exact OX.pI (kth.up (xσ15.trans (xσ16.trans (xσ17.trans (xσ18.trans (xσ19.trans (xσ20.trans (xσ21.trans (xσ22.trans (xσ23.trans (xσ24.trans xσ25))))))))))) (Or.inr rfl)) (xσ15.trans (xσ16.trans (xσ17.trans (xσ18.trans (xσ19.trans (xσ20.trans (xσ21.trans (xσ22.trans (xσ23.trans (xσ24.trans xσ25))))))))))
  have wσ26 : gI σ26 th 14 = 0 := by rw [eσ26]; exact up2_s _ _ _ _
  have kp48 : gI σ26 th 10 = gI σ25 th 10 := by rw [eσ26]; exact up2_n _ _ (fun q => absurd q.2 (by decide))
  have kp49 : gI σ26 th 11 = gI σ25 th 11 := by rw [eσ26]; exact up2_n _ _ (fun q => absurd q.2 (by decide))
  have kp50 : gI σ26 th 12 = gI σ25 th 12 := by rw [eσ26]; exact up2_n _ _ (fun q => absurd q.2 (by decide))
  have kp51 : gI σ26 th 13 = gI σ25 th 13 := by rw [eσ26]; exact up2_n _ _ (fun q => absurd q.2 (by decide))
  have kp52 : gI σ26 th 3 = gI σ25 th 3 := by rw [eσ26]; exact up2_n _ _ (fun q => absurd q.2 (by decide))
  have kp53 : gI σ26 th 4 = gI σ25 th 4 := by rw [eσ26]; exact up2_n _ _ (fun q => absurd q.2 (by decide))
  have kp54 : gI σ26 th 6 = gI σ25 th 6 := by rw [eσ26]; exact up2_n _ _ (fun q => absurd q.2 (by decide))
  have kp55 : gI σ26 th 7 = gI σ25 th 7 := by rw [eσ26]; exact up2_n _ _ (fun q => absurd q.2 (by decide))
  have kp56 : gI σ26 th 8 = gI σ25 th 8 := by rw [eσ26]; exact up2_n _ _ (fun q => absurd q.2 (by decide))
  have kp57 : gI σ26 th 9 = gI σ25 th 9 := by rw [eσ26]; exact up2_n _ _ (fun q => absurd q.2 (by decide))
  intro σ27 eσ27
  have xσ27 : Ext σ26 σ27 := by rw [eσ27]; exact fun _ h => ⟨h, rfl, rfl⟩
  have iσ27 : IV σ27 pl gq ci gr nc ot LL N nu := by rw [eσ27]; exact iσ26.wSp (kth.up (xσ15.trans (xσ16.trans (xσ17.trans (xσ18.trans (xσ19.trans (xσ20.trans (xσ21.trans (xσ22.trans (xσ23.trans (xσ24.trans (xσ25.trans xσ26)))))))))))) (fun i hi => by omega) (by decide) (show (-1000 : Int) ≤ 0 ∧ 0 ≤ 1000 from ⟨by omega, by omega⟩)
  have fσ27 : Fx [323, 324, 325, 326, 327, 328, 329, 330, 331, 332, 333, 334, 335, 336] gr σ σ27 := fσ26.tr (Sk.fx (by rw [eσ27]; exact Sk.pI (by rw [fcdO (kth.up (xσ15.trans (xσ16.trans (xσ17.trans (xσ18.trans (xσ19.trans (xσ20.trans (xσ21.trans (xσ22.trans (xσ23.trans (xσ24.trans (xσ25.trans xσ26)))))))))))) (by decide)]; decide)))
  have oxcσ27 : OX th σ σ27 := oxcσ26.tr (by rw [eσ27]; exact OX.pI (kth.up (xσ15.trans (xσ16.trans (xσ17.trans (xσ18.trans (xσ19.trans (xσ20.trans (xσ21.trans (xσ22.trans (xσ23.trans (xσ24.trans (xσ25.trans xσ26)))))))))))) (Or.inr rfl)) (xσ15.trans (xσ16.trans (xσ17.trans (xσ18.trans (xσ19.trans (xσ20.trans (xσ21.trans (xσ22.trans (xσ23.trans (xσ24.trans (xσ25.trans xσ26)))))))))))
  have wσ27 : gI σ27 th 15 = 0 := by rw [eσ27]; exact up2_s _ _ _ _
  have kp58 : gI σ27 th 10 = gI σ26 th 10 := by rw [eσ27]; exact up2_n _ _ (fun q => absurd q.2 (by decide))
  have kp59 : gI σ27 th 11 = gI σ26 th 11 := by rw [eσ27]; exact up2_n _ _ (fun q => absurd q.2 (by decide))
  have kp60 : gI σ27 th 12 = gI σ26 th 12 := by rw [eσ27]; exact up2_n _ _ (fun q => absurd q.2 (by decide))
  have kp61 : gI σ27 th 13 = gI σ26 th 13 := by rw [eσ27]; exact up2_n _ _ (fun q => absurd q.2 (by decide))
  have kp62 : gI σ27 th 14 = gI σ26 th 14 := by rw [eσ27]; exact up2_n _ _ (fun q => absurd q.2 (by decide))
  have kp63 : gI σ27 th 3 = gI σ26 th 3 := by rw [eσ27]; exact up2_n _ _ (fun q => absurd q.2 (by decide))
  have kp64 : gI σ27 th 4 = gI σ26 th 4 := by rw [eσ27]; exact up2_n _ _ (fun q => absurd q.2 (by decide))
  have kp65 : gI σ27 th 6 = gI σ26 th 6 := by rw [eσ27]; exact up2_n _ _ (fun q => absurd q.2 (by decide))
  have kp66 : gI σ27 th 7 = gI σ26 th 7 := by rw [eσ27]; exact up2_n _ _ (fun q => absurd q.2 (by decide))
  have kp67 : gI σ27 th 8 = gI σ26 th 8 := by rw [eσ27]; exact up2_n _ _ (fun q => absurd q.2 (by decide))
  have kp68 : gI σ27 th 9 = gI σ26 th 9 := by rw [eσ27]; exact up2_n _ _ (fun q => absurd q.2 (by decide))
  intro σ28 eσ28
  have xσ28 : Ext σ27 σ28 := by rw [eσ28]; exact fun _ h => ⟨h, rfl, rfl⟩
  have iσ28 : IV σ28 pl gq ci gr nc ot LL N nu := by rw [eσ28]; exact iσ27.wSp (kth.up (xσ15.trans (xσ16.trans (xσ17.trans (xσ18.trans (xσ19.trans (xσ20.trans (xσ21.trans (xσ22.trans (xσ23.trans (xσ24.trans (xσ25.trans (xσ26.trans xσ27))))))))))))) (fun i hi => by omega) (by decide) (show (-1000 : Int) ≤ 0 ∧ 0 ≤ 1000 from ⟨by omega, by omega⟩)
  have fσ28 : Fx [323, 324, 325, 326, 327, 328, 329, 330, 331, 332, 333, 334, 335, 336] gr σ σ28 := fσ27.tr (Sk.fx (by rw [eσ28]; exact Sk.pI (by rw [fcdO (kth.up (xσ15.trans (xσ16.trans (xσ17.trans (xσ18.trans (xσ19.trans (xσ20.trans (xσ21.trans (xσ22.trans (xσ23.trans (xσ24.trans (xσ25.trans (xσ26.trans xσ27))))))))))))) (by decide)]; decide)))
  have oxcσ28 : OX th σ σ28 := oxcσ27.tr (by rw [eσ28]; exact OX.pI (kth.up (xσ15.trans (xσ16.trans (xσ17.trans (xσ18.trans (xσ19.trans (xσ20.trans (xσ21.trans (xσ22.trans (xσ23.trans (xσ24.trans (xσ25.trans (xσ26.trans xσ27))))))))))))) (Or.inr rfl)) (xσ15.trans (xσ16.trans (xσ17.trans (xσ18.trans (xσ19.trans (xσ20.trans (xσ21.trans (xσ22.trans (xσ23.trans (xσ24.trans (xσ25.trans (xσ26.trans xσ27))))))))))))
  have wσ28 : gI σ28 th 16 = 0 := by rw [eσ28]; exact up2_s _ _ _ _
  have kp69 : gI σ28 th 10 = gI σ27 th 10 := by rw [eσ28]; exact up2_n _ _ (fun q => absurd q.2 (by decide))
  have kp70 : gI σ28 th 11 = gI σ27 th 11 := by rw [eσ28]; exact up2_n _ _ (fun q => absurd q.2 (by decide))
  have kp71 : gI σ28 th 12 = gI σ27 th 12 := by rw [eσ28]; exact up2_n _ _ (fun q => absurd q.2 (by decide))
  have kp72 : gI σ28 th 13 = gI σ27 th 13 := by rw [eσ28]; exact up2_n _ _ (fun q => absurd q.2 (by decide))
  have kp73 : gI σ28 th 14 = gI σ27 th 14 := by rw [eσ28]; exact up2_n _ _ (fun q => absurd q.2 (by decide))
  have kp74 : gI σ28 th 15 = gI σ27 th 15 := by rw [eσ28]; exact up2_n _ _ (fun q => absurd q.2 (by decide))
  have kp75 : gI σ28 th 3 = gI σ27 th 3 := by rw [eσ28]; exact up2_n _ _ (fun q => absurd q.2 (by decide))
  have kp76 : gI σ28 th 4 = gI σ27 th 4 := by rw [eσ28]; exact up2_n _ _ (fun q => absurd q.2 (by decide))
  have kp77 : gI σ28 th 6 = gI σ27 th 6 := by rw [eσ28]; exact up2_n _ _ (fun q => absurd q.2 (by decide))
  have kp78 : gI σ28 th 7 = gI σ27 th 7 := by rw [eσ28]; exact up2_n _ _ (fun q => absurd q.2 (by decide))
  have kp79 : gI σ28 th 8 = gI σ27 th 8 := by rw [eσ28]; exact up2_n _ _ (fun q => absurd q.2 (by decide))
  have kp80 : gI σ28 th 9 = gI σ27 th 9 := by rw [eσ28]; exact up2_n _ _ (fun q => absurd q.2 (by decide))
  exact hQ σ28 () iσ28 fσ28 oxcσ28 (by (first | omega | with_reducible assumption | with_reducible exact rng_toInt _ | with_reducible exact rng_wr _ | (unfold rng; omega) | (unfold rng at *; omega) | assumption))
set_option maxHeartbeats 1000000 in
theorem i_X4_landHere {σ : Sg} {pl : Nat} {gq ci gr nc : Nat → Nat} {ot : Nat → Nat → Int} {LL : Nat → List Nat} {N nu : Nat → Nat} {th : Nat} {v1 : Int} (iσ : IV σ pl gq ci gr nc ot LL N nu) (kth : kO σ th 4) (h1 : 0 ≤ v1 ∧ v1 < gI σ th 7) {Q : Sg → Unit → Prop} {X : Sg → String → Prop} (hQ : ∀ (σ' : Sg) (r : Unit), IV σ' pl gq ci gr nc ot LL N nu → Fx [6464] gr σ σ' → (gI σ' th 7 = gI σ th 7) → Q σ' r) : wp_X4_landHere th v1 σ Q X := by
  have fσ : Fx [6464] gr σ σ := Fx.rf
  have q1 := I_4_7 iσ.1 kth
  unfold wp_X4_landHere
  unfold w_X4_landHere_0
  obtain ⟨b, eb, fb⟩ := P_4_6 iσ.1 kth
  have gb := iσ.code6 kth eb
  have mb : kO σ b 101 := iσ.1.kd kth rfl eb rfl
  refine ⟨b, eb, fun kk_b => ?_⟩
  refine ⟨⟨by (first | omega | with_reducible assumption | with_reducible exact rng_toInt _ | with_reducible exact rng_wr _ | (unfold rng; omega) | (unfold rng at *; omega) | assumption), by (first | omega | with_reducible assumption | with_reducible exact rng_toInt _ | with_reducible exact rng_wr _ | (unfold rng; omega) | (unfold rng at *; omega) | assumption)⟩, ?_⟩
  intro σ4 eσ4
  have xσ4 : Ext σ σ4 := by rw [eσ4]; exact fun _ h => ⟨h, rfl, rfl⟩
  have iσ4 : IV σ4 pl gq ci gr nc ot LL N nu := by rw [eσ4]; exact iσ.wL mb (by omega)
  have fσ4 : Fx [6464] gr σ σ4 := fσ.tr (Sk.fx (by rw [eσ4]; exact Sk.pJ (by rw [fcdA mb (by decide)]; decide)))
  have kp2 : gI σ4 th 7 = gI σ th 7 := by rw [eσ4]
  have kp3 : gP σ4 th 6 = gP σ th 6 := by rw [eσ4]
  exact hQ σ4 () iσ4 fσ4 (by (first | omega | with_reducible assumption | with_reducible exact rng_toInt _ | with_reducible exact rng_wr _ | (unfold rng; omega) | (unfold rng at *; omega) | assumption))
set_option maxHeartbeats 1000000 in
theorem i_X6_newColumn {σ : Sg} {pl : Nat} {gq ci gr nc : Nat → Nat} {ot : Nat → Nat → Int} {LL : Nat → List Nat} {N nu : Nat → Nat} {th : Nat} {v1 : Int} {tx o q c : Nat} (iσ : IV σ pl gq ci gr nc ot LL N nu) (kth : kO σ th 6) (hX0 : gP σ th 0 = some tx) (kX : kO σ tx 102) (gX : gn σ tx = 1500) (h8 : gP σ th 8 = some o) (ko : kO σ o 5) (hq : q ≠ nc 0 ∧ q ≤ 1) (go : gq o = 16 * q + c) (hc : c < 16) (tf : gI σ th 5 ≤ gI σ th 2 ∧ (gI σ th 3 ≠ 0 → gI σ th 5 + 1 ≤ gI σ th 2)) (h5 : nu 5 < 24000) {Q : Sg → Unit → Prop} {X : Sg → String → Prop} (hQ : ∀ (σ' : Sg) (r : Unit), IV σ' pl gq ci gr nc ot LL N nu → Fx [323, 386, 387, 388, 389, 390, 6464] gr σ σ' → OX o σ σ' → (gI σ o 3 < v1 ∧ (gI σ o 3 < 8 → gI σ' o 3 = gI σ o 3 + 1) ∧ (gI σ' th 5 ≤ gI σ' th 2 ∧ (gI σ' th 3 ≠ 0 → gI σ' th 5 + 1 ≤ gI σ' th 2)) ∧ gI σ th 5 + 1 ≤ gI σ' th 5) → Q σ' r) (hX : ∀ (σ' : Sg) (LL' : Nat → List Nat) (N' nu' : Nat → Nat) (E : String), IV σ' pl gq ci gr nc ot LL' N' nu' → Fx [323, 386, 387, 388, 389, 390, 6464] gr σ σ' → NCX nu nu' → (LL' = LL ∧ N' = N ∧ E = "java/lang/IllegalArgumentException" ∧ gI σ' th 6 ≠ 0) → X σ' E) : wp_X6_newColumn th v1 σ Q X := by
  have fσ : Fx [323, 386, 387, 388, 389, 390, 6464] gr σ σ := Fx.rf
  have oxσ : OX o σ σ := OX.rf
  have q1 := I_6_5 iσ.1 kth
  have q2 := I_6_2 iσ.1 kth
  have q3 := iσ.rg th 3; unfold rng at q3
  unfold wp_X6_newColumn
  unfold w_X6_newColumn_0
  by_cases hc4 : gI σ th 3 = 1
  · rw [if_pos hc4]
    unfold w_X6_newColumn_12
    refine ⟨o, h8, fun kk_o => ?_⟩
    refine i_X5_find iσ ko (fun r13 pσ12 => ?_)
    intro xσ12
    by_cases hc5 : r13 = (-1)
    · rw [if_pos hc5]
      unfold w_X6_newColumn_33
      refine ⟨o, h8, fun kk_o_1 => ?_⟩
      have q7 := I_5_3 iσ.1 ko
      by_cases hc6 : gI σ o 3 < v1
      · rw [if_pos hc6]
        unfold w_X6_newColumn_50
        refine ⟨o, h8, fun kk_o_2 => ?_⟩
        refine i_X5_addColumn iσ ko (by (first | omega | with_reducible assumption | with_reducible exact rng_toInt _ | with_reducible exact rng_wr _ | (unfold rng; omega) | (unfold rng at *; omega) | assumption)) (by (first | omega | with_reducible assumption | with_reducible exact rng_toInt _ | with_reducible exact rng_wr _ | (unfold rng; omega) | (unfold rng at *; omega) | assumption)) (by (first | omega | with_reducible assumption | with_reducible exact rng_toInt _ | with_reducible exact rng_wr _ | (unfold rng; omega) | (unfold rng at *; omega) | assumption)) (fun σ18 _ iσ18 cσ18 oxσ18 pσ18 => ?_)
        intro xσ18
        have fσ18 : Fx [323, 386, 387, 388, 389, 390, 6464] gr σ σ18 := fσ.tr (cσ18.mo (by decide))
        have oxcσ18 : OX o σ σ18 := oxσ.tr oxσ18 (Ext.rfl' _)
        have kp8 : gI σ18 th 2 = gI σ th 2 := (cσ18.O kth (by decide)).1
        have kp9 : gI σ18 th 3 = gI σ th 3 := (cσ18.O kth (by decide)).1
        have kp10 : gI σ18 th 5 = gI σ th 5 := (cσ18.O kth (by decide)).1
        have kp11 : gP σ18 th 0 = gP σ th 0 := (cσ18.O kth (by decide)).2.1
        have kp12 : gP σ18 th 8 = gP σ th 8 := (cσ18.O kth (by decide)).2.1
        refine i_X6_next iσ18 (kth.up xσ18) (kp11.trans hX0) (kX.up xσ18) (((xσ18) tx kX.1).2.2.trans gX) (by (first | omega | with_reducible assumption | with_reducible exact rng_toInt _ | with_reducible exact rng_wr _ | (unfold rng; omega) | (unfold rng at *; omega) | assumption)) (by (first | omega | with_reducible assumption | with_reducible exact rng_toInt _ | with_reducible exact rng_wr _ | (unfold rng; omega) | (unfold rng at *; omega) | assumption)) (fun σ20 _ iσ20 cσ20 pσ20 => ?_) (fun σx LLx Nx nux E ix cx ux px => hX σx LLx Nx nux E ix (fσ18.tr (cx.mo (by decide))) (ux) (by first | exact px | exact ⟨by have := px.1; omega, px.2⟩ | (first | omega | with_reducible assumption | with_reducible exact rng_toInt _ | with_reducible exact rng_wr _ | (unfold rng; omega) | (unfold rng at *; omega) | assumption)))
        intro xσ20
        have fσ20 : Fx [323, 386, 387, 388, 389, 390, 6464] gr σ σ20 := fσ18.tr (cσ20.mo (by decide))
        have oxcσ20 : OX o σ σ20 := oxcσ18.tr (OX.fx cσ20 (by decide) (by decide)) (xσ18)
        have kp13 : gP σ20 th 0 = gP σ18 th 0 := (cσ20.O (kth.up xσ18) (by decide)).2.1
        have kp14 : gP σ20 th 8 = gP σ18 th 8 := (cσ20.O (kth.up xσ18) (by decide)).2.1
        have kp15 : gI σ20 o 3 = gI σ18 o 3 := (cσ20.O (ko.up xσ18) (by decide)).1
        exact hQ σ20 () iσ20 fσ20 oxcσ20 (by (first | omega | with_reducible assumption | with_reducible exact rng_toInt _ | with_reducible exact rng_wr _ | (unfold rng; omega) | (unfold rng at *; omega) | assumption))
      · rw [if_neg hc6]
        unfold w_X6_newColumn_44
        refine i_X6_refuse iσ kth (by (first | omega | with_reducible assumption | with_reducible exact rng_toInt _ | with_reducible exact rng_wr _ | (unfold rng; omega) | (unfold rng at *; omega) | assumption)) (by (first | omega | with_reducible assumption | with_reducible exact rng_toInt _ | with_reducible exact rng_wr _ | (unfold rng; omega) | (unfold rng at *; omega) | assumption)) (by (first | omega | with_reducible assumption | with_reducible exact rng_toInt _ | with_reducible exact rng_wr _ | (unfold rng; omega) | (unfold rng at *; omega) | assumption)) (fun σ17 _ iσ17 cσ17 pσ17 => ?_) (fun σx LLx Nx nux E ix cx ux px => hX σx LLx Nx nux E ix (fσ.tr (cx.mo (by decide))) (ux) (by first | exact px | exact ⟨by have := px.1; omega, px.2⟩ | (first | omega | with_reducible assumption | with_reducible exact rng_toInt _ | with_reducible exact rng_wr _ | (unfold rng; omega) | (unfold rng at *; omega) | assumption)))
        intro xσ17
        exact pσ17.elim
    · rw [if_neg hc5]
      unfold w_X6_newColumn_27
      refine i_X6_refuse iσ kth (by (first | omega | with_reducible assumption | with_reducible exact rng_toInt _ | with_reducible exact rng_wr _ | (unfold rng; omega) | (unfold rng at *; omega) | assumption)) (by (first | omega | with_reducible assumption | with_reducible exact rng_toInt _ | with_reducible exact rng_wr _ | (unfold rng; omega) | (unfold rng at *; omega) | assumption)) (by (first | omega | with_reducible assumption | with_reducible exact rng_toInt _ | with_reducible exact rng_wr _ | (unfold rng; omega) | (unfold rng at *; omega) | assumption)) (fun σ15 _ iσ15 cσ15 pσ15 => ?_) (fun σx LLx Nx nux E ix cx ux px => hX σx LLx Nx nux E ix (fσ.tr (cx.mo (by decide))) (ux) (by first | exact px | exact ⟨by have := px.1; omega, px.2⟩ | (first | omega | with_reducible assumption | with_reducible exact rng_toInt _ | with_reducible exact rng_wr _ | (unfold rng; omega) | (unfold rng at *; omega) | assumption)))
      intro xσ15
      exact pσ15.elim
  · rw [if_neg hc4]
    unfold w_X6_newColumn_8
    refine i_X6_cannotStand iσ kth (by (first | omega | with_reducible assumption | with_reducible exact rng_toInt _ | with_reducible exact rng_wr _ | (unfold rng; omega) | (unfold rng at *; omega) | assumption)) (fun σ11 _ iσ11 cσ11 pσ11 => ?_) (fun σx LLx Nx nux E ix cx ux px => hX σx LLx Nx nux E ix (fσ.tr (cx.mo (by decide))) (ux) (by first | exact px | exact ⟨by have := px.1; omega, px.2⟩ | (first | omega | with_reducible assumption | with_reducible exact rng_toInt _ | with_reducible exact rng_wr _ | (unfold rng; omega) | (unfold rng at *; omega) | assumption)))
    intro xσ11
    exact pσ11.elim
set_option maxHeartbeats 1000000 in
theorem i_X6_newValue {σ : Sg} {pl : Nat} {gq ci gr nc : Nat → Nat} {ot : Nat → Nat → Int} {LL : Nat → List Nat} {N nu : Nat → Nat} {th : Nat} {J o q c : Nat} (iσ : IV σ pl gq ci gr nc ot LL N nu) (kth : kO σ th 6) (h7 : gP σ th 7 = some J) (kJ : kO σ J 4) (h8 : gP σ th 8 = some o) (ko : kO σ o 5) (hq : q ≠ nc 0 ∧ q ≤ 1) (go : gq o = 16 * q + c) (hc : c < 16) (h4 : gI σ o 4 ≤ 7) {Q : Sg → Unit → Prop} {X : Sg → String → Prop} (hQ : ∀ (σ' : Sg) (r : Unit), IV σ' pl gq ci gr nc ot LL N nu → Fx [324, 8320] gr σ σ' → OX o σ σ' → (gI σ' o 4 = gI σ o 4 + 1) → Q σ' r) : wp_X6_newValue th σ Q X := by
  have fσ : Fx [324, 8320] gr σ σ := Fx.rf
  have oxσ : OX o σ σ := OX.rf
  have q1 := I_5_4 iσ.1 ko
  have ncb := iσ.ncb
  unfold wp_X6_newValue
  unfold w_X6_newValue_0
  refine ⟨o, h8, fun kk_o => ?_⟩
  refine ⟨J, h7, fun kk_J => ?_⟩
  obtain ⟨b, eb, fb⟩ := P_5_1 iσ.1 ko
  have mb : kO σ b 100 := iσ.1.kd ko rfl eb rfl
  refine ⟨b, eb, fun kk_b => ?_⟩
  refine ⟨⟨by (first | omega | with_reducible assumption | with_reducible exact rng_toInt _ | with_reducible exact rng_wr _ | (unfold rng; omega) | (unfold rng at *; omega) | assumption), by (first | omega | with_reducible assumption | with_reducible exact rng_toInt _ | with_reducible exact rng_wr _ | (unfold rng; omega) | (unfold rng at *; omega) | assumption)⟩, ?_⟩
  intro σ10 eσ10
  have xσ10 : Ext σ σ10 := by rw [eσ10]; exact fun _ h => ⟨h, rfl, rfl⟩
  have q2 := I_4_7 iσ.1 kJ
  have iσ10 : IV σ10 pl gq ci gr nc ot LL N nu := by rw [eσ10]; exact iσ.wA0 mb (by (first | omega | with_reducible assumption | with_reducible exact rng_toInt _ | with_reducible exact rng_wr _ | (unfold rng; omega) | (unfold rng at *; omega) | assumption)) (by first | exact rng_wr _ | (first | omega | with_reducible assumption | with_reducible exact rng_toInt _ | with_reducible exact rng_wr _ | (unfold rng; omega) | (unfold rng at *; omega) | assumption))
  have fσ10 : Fx [324, 8320] gr σ σ10 := fσ.tr (Sk.fx (by rw [eσ10]; exact Sk.pI (by rw [fcdI mb, show gr b = 0 from by (first | omega | with_reducible assumption | with_reducible exact rng_toInt _ | with_reducible exact rng_wr _ | (unfold rng; omega) | (unfold rng at *; omega) | assumption)]; decide)))
  have oxcσ10 : OX o σ σ10 := oxσ.tr (by rw [eσ10]; exact OX.pI mb (Or.inl (by decide))) (Ext.rfl' _)
  have wσ10 : gI σ10 b (gI σ o 4).toNat = (gI σ J 7) := by rw [eσ10]; exact up2_s _ _ _ _
  have kp3 : gI σ10 J 7 = gI σ J 7 := by rw [eσ10]; exact up2_n _ _ (fun q => absurd q.1 (kO.ne kJ mb (by decide)))
  have kp4 : gI σ10 o 4 = gI σ o 4 := by rw [eσ10]; exact up2_n _ _ (fun q => absurd q.1 (kO.ne ko mb (by decide)))
  have kp5 : gP σ10 o 1 = gP σ o 1 := by rw [eσ10]
  have kp6 : gP σ10 th 7 = gP σ th 7 := by rw [eσ10]
  have kp7 : gP σ10 th 8 = gP σ th 8 := by rw [eσ10]
  have kp8 : gI σ10 th 2 = gI σ th 2 := by rw [eσ10]; exact up2_n _ _ (fun q => absurd q.1 (kO.ne kth mb (by decide)))
  have kp9 : gI σ10 th 3 = gI σ th 3 := by rw [eσ10]; exact up2_n _ _ (fun q => absurd q.1 (kO.ne kth mb (by decide)))
  have kp10 : gI σ10 th 5 = gI σ th 5 := by rw [eσ10]; exact up2_n _ _ (fun q => absurd q.1 (kO.ne kth mb (by decide)))
  refine ⟨o, (kp7.trans h8), fun kk_o_1 => ?_⟩
  refine ⟨by (first | omega | with_reducible assumption | with_reducible exact rng_toInt _ | with_reducible exact rng_wr _ | (unfold rng; omega) | (unfold rng at *; omega) | assumption), ?_⟩
  intro σ12 eσ12
  have xσ12 : Ext σ10 σ12 := by rw [eσ12]; exact fun _ h => ⟨h, rfl, rfl⟩
  have iσ12 : IV σ12 pl gq ci gr nc ot LL N nu := by rw [eσ12]; exact iσ10.wSp (ko.up xσ10) (fun i hi => by omega) (by decide) (show (0 : Int) ≤ (gI σ10 o 4 + 1) ∧ (gI σ10 o 4 + 1) ≤ 8 from ⟨by omega, by omega⟩)
  have fσ12 : Fx [324, 8320] gr σ σ12 := fσ10.tr (Sk.fx (by rw [eσ12]; exact Sk.pI (by rw [fcdO (ko.up xσ10) (by decide)]; decide)))
  have oxcσ12 : OX o σ σ12 := oxcσ10.tr (by rw [eσ12]; exact OX.pI (ko.up xσ10) (Or.inr rfl)) (xσ10)
  have wσ12 : gI σ12 o 4 = (gI σ10 o 4 + 1) := by rw [eσ12]; exact up2_s _ _ _ _
  have kp11 : gI σ12 J 7 = gI σ10 J 7 := by rw [eσ12]; exact up2_n _ _ (fun q => absurd q.2 (by decide))
  have kp12 : gP σ12 o 1 = gP σ10 o 1 := by rw [eσ12]
  have kp13 : gP σ12 th 7 = gP σ10 th 7 := by rw [eσ12]
  have kp14 : gP σ12 th 8 = gP σ10 th 8 := by rw [eσ12]
  have kp15 : gI σ12 th 2 = gI σ10 th 2 := by rw [eσ12]; exact up2_n _ _ (fun q => absurd q.2 (by decide))
  have kp16 : gI σ12 th 3 = gI σ10 th 3 := by rw [eσ12]; exact up2_n _ _ (fun q => absurd q.2 (by decide))
  have kp17 : gI σ12 th 5 = gI σ10 th 5 := by rw [eσ12]; exact up2_n _ _ (fun q => absurd q.2 (by decide))
  exact hQ σ12 () iσ12 fσ12 oxcσ12 (by (first | omega | with_reducible assumption | with_reducible exact rng_toInt _ | with_reducible exact rng_wr _ | (unfold rng; omega) | (unfold rng at *; omega) | assumption))
set_option maxHeartbeats 1000000 in
theorem i_X4_emit {σ : Sg} {pl : Nat} {gq ci gr nc : Nat → Nat} {ot : Nat → Nat → Int} {LL : Nat → List Nat} {N nu : Nat → Nat} {th : Nat} {v1 : Int} {v2 : Int64} {q : Nat} (iσ : IV σ pl gq ci gr nc ot LL N nu) (kth : kO σ th 4) (hJq : gq th = q) (hq : q ≠ nc 0 ∧ q ≤ 1) (h1 : rng v1) (hl : gI σ th 7 ≤ 6199) {Q : Sg → Int → Prop} {X : Sg → String → Prop} (hQ : ∀ (σ' : Sg) (nu' : Nat → Nat) (r : Int), IV σ' pl gq ci gr nc ot LL N nu' → Fx [261, 262, 263, 6464, 8320] gr σ σ' → NC nu nu' → (r = gI σ th 7 ∧ gI σ' th 7 = gI σ th 7 + 1) → Q σ' r) : wp_X4_emit th v1 v2 σ Q X := by
  have ncb := iσ.ncb
  obtain ⟨c, e5, f5⟩ := P_4_5 iσ.1 kth
  obtain ⟨m, e6, f6⟩ := P_4_6 iσ.1 kth
  have kc : kO σ c 100 := iσ.1.kd kth rfl e5 rfl
  have km : kO σ m 101 := iσ.1.kd kth rfl e6 rfl
  have l7 := I_4_7 iσ.1 kth
  have c5 := iσ.code5 kth e5
  have nm := (iσ.2.2.2.2.2.1.2.2.2.2.1 th kth c e5).2.2.1 m e6
  have fin : ∀ (σ0 : Sg) (nu0 : Nat → Nat) (c0 m0 : Nat), IV σ0 pl gq ci gr nc ot LL N nu0 → Fx [261, 262, 263, 6464, 8320] gr σ σ0 → NC nu nu0 → kO σ0 th 4 → gP σ0 th 5 = some c0 → gP σ0 th 6 = some m0 → gI σ0 th 7 = gI σ th 7 → gI σ th 7 < (gn σ0 c0 : Int) → w_X4_emit_46 th Q X σ0 v1 v2 := by
    intro σ0 nu0 c0 m0 i0 f0 u0 k0 p5 p6 g7 hlt
    have t5 := T_4_5 i0.1 k0 p5
    have t6 := T_4_6 i0.1 k0 p6
    have kc0 : kO σ0 c0 100 := i0.1.kd k0 rfl p5 rfl
    have km0 : kO σ0 m0 101 := i0.1.kd k0 rfl p6 rfl
    have nm0 := (i0.2.2.2.2.2.1.2.2.2.2.1 th k0 c0 p5).2.2.1 m0 p6
    unfold w_X4_emit_46
    refine ⟨c0, p5, fun _ => ⟨⟨by omega, by omega⟩, ?_⟩⟩
    intro σ21 e21
    have i21 : IV σ21 pl gq ci gr nc ot LL N nu0 := by rw [e21]; exact i0.wA0 kc0 t5.1 h1
    have g21 : gI σ21 th 7 = gI σ th 7 := by rw [e21, gI_pI, up2_n _ _ (fun z => absurd z.1 (k0.ne kc0 (by decide)))]; exact g7
    have n21 : gn σ21 m0 = gn σ0 m0 := by rw [e21]
    refine ⟨m0, by rw [e21]; exact p6, fun _ => ⟨⟨by omega, by rw [n21, g21]; omega⟩, ?_⟩⟩
    intro σ23 e23
    have i23 : IV σ23 pl gq ci gr nc ot LL N nu0 := by rw [e23]; exact i21.wL (by rw [e21]; exact km0) (by omega)
    have g23 : gI σ23 th 7 = gI σ th 7 := by rw [e23]; exact g21
    refine ⟨by rw [g23]; unfold rng; omega, ?_⟩
    intro σ24 e24
    have k23 : kO σ23 th 4 := by rw [e23, e21]; exact k0
    have p23 : gP σ23 th 5 = some c0 := by rw [e23, e21]; exact p5
    have n23 : gn σ23 c0 = gn σ0 c0 := by rw [e23, e21]
    have i24 : IV σ24 pl gq ci gr nc ot LL N nu0 := by
      rw [e24]; exact i23.wS7 k23 ⟨by omega, by omega⟩ (fun c' hc' => by rw [p23] at hc'; cases hc'; rw [n23]; omega)
    have g24 : gI σ24 th 7 = gI σ th 7 + 1 := by rw [e24, gI_pI, up2_s, g23]
    refine ⟨by rw [g24]; unfold rng; omega, ?_⟩
    refine hQ σ24 nu0 _ i24 (f0.tr ?_) u0 ⟨by omega, g24⟩
    have s21 : Fx [261, 262, 263, 6464, 8320] gr σ0 σ21 := Sk.fx (by rw [e21]; exact Sk.pI (by rw [fcdI kc0, t5.1]; decide))
    have s23 : Fx [261, 262, 263, 6464, 8320] gr σ21 σ23 := Sk.fx (by rw [e23]; exact Sk.pJ (by rw [fcdA (show kO σ21 m0 101 by rw [e21]; exact km0) (by decide)]; decide))
    have s24 : Fx [261, 262, 263, 6464, 8320] gr σ23 σ24 := Sk.fx (by rw [e24]; exact Sk.pI (by rw [fcdO k23 (by decide)]; decide))
    exact (s21.tr s23).tr s24
  unfold wp_X4_emit w_X4_emit_0
  refine ⟨c, e5, fun _ => ?_⟩
  by_cases hc : gI σ th 7 < (gn σ c : Int)
  · rw [if_pos hc]; exact fin σ nu c m iσ Fx.rf NC.rf kth e5 e6 rfl hc
  · rw [if_neg hc]
    unfold w_X4_emit_12
    have e7 : gI σ th 7 = (gn σ c : Int) := by omega
    have su := iσ.2.2.2.2.2.1
    have b0 := iσ.2.1.1
    have b10 := iσ.2.1.2.2.2.2.2.1.1
    have u1 := su.1; have u2 := su.2.1; have u3 := su.2.2.1
    unfold KC at u1; unfold KS at u2
    refine ⟨by unfold rng; omega, ?_⟩
    rw [e5]
    refine i_cpI (n := 2 * gn σ c) iσ.iw (by omega) (show gc σ + 1 ≤ 590000 ∧ gs σ + 2 * gn σ c ≤ 7000000 by omega) kc (by omega) (fun q1 σ14 g1 k1 n1 c1 s1 w1 => ?_)
    intro x14 ty14 σ16 e16
    have k14 := kth.up x14
    have gr1 : gr q1 = 0 := Classical.byContradiction (fun w => g1.new (by simp) (iσ.1.1 q1 w).1)
    have w16 : IW σ16 pl gq ci gr nc ot LL N nu := by
      rw [e16]; exact w1.wP k14 ⟨by decide, by decide⟩ (by simp) (fun b hb => by cases hb; exact (show gr q1 = 0 ∧ 64 ≤ gn σ14 q1 ∧ gn σ14 q1 ≤ 12400 by rw [n1]; omega)) (fun b hb => by cases hb; exact ⟨by rw [g1.1]; simp, k1⟩)
    have g16 : gI σ16 th 7 = gI σ th 7 := by rw [e16]; exact (g1.2.2.2 th kth.1 7).1
    have p16 : gP σ16 th 6 = some m := by rw [e16, gP_pP, up2_n _ _ (fun z => absurd z.2 (by decide)), (g1.2.2.2 th kth.1 6).2.1]; exact e6
    have x16 : Ext σ σ16 := by rw [e16]; exact fun b hb => x14 b hb
    have gc16 : gc σ16 = gc σ14 := by rw [e16]
    have gs16 : gs σ16 = gs σ14 := by rw [e16]
    refine ⟨by rw [g16]; unfold rng; omega, ?_⟩
    rw [p16]
    refine i_cpJ (n := 2 * gn σ c) w16 (by rw [g16]; omega) (show gc σ16 + 1 ≤ 590000 ∧ gs σ16 + 2 * gn σ c ≤ 7000000 by rw [gc16, gs16, c1, s1]; omega) (km.up x16) (by rw [(x16 m km.1).2.2, nm]; omega) (fun q2 σ17 g3 k3 n3 c3 s3 w3 => ?_)
    intro x17 ty17 σ19 e19
    have gr2 : gr q2 = 0 := Classical.byContradiction (fun w => g3.new (by simp) (x16 q2 (iσ.1.1 q2 w).1).1)
    have k17 := (kth.up x16).up x17
    have w19 : IW σ19 pl gq ci gr nc ot LL N nu := by
      rw [e19]; exact w3.wP k17 ⟨by decide, by decide⟩ (by simp) (fun b hb => by cases hb; exact (show gr q2 = 0 from gr2)) (fun b hb => by cases hb; exact ⟨by rw [g3.1]; simp, k3⟩)
    obtain ⟨nu9, i19, u19⟩ := iσ.grow kth (by omega) e5 e6 (by omega) c5 g1 k1 n1 c1 s1 e16 g3 k3 n3 c3 s3 e19 w19
    have x19 : Ext σ σ19 := by rw [e19]; exact fun b hb => (x16.trans x17) b hb
    have k19 := kth.up x19
    have p5 : gP σ19 th 5 = some q1 := by rw [e19, gP_pP, up2_n _ _ (fun z => absurd z.2 (by decide)), (g3.2.2.2 th (kth.up x16).1 5).2.1, e16, gP_pP, up2_s]
    have p6 : gP σ19 th 6 = some q2 := by rw [e19, gP_pP, up2_s]
    have g19 : gI σ19 th 7 = gI σ th 7 := by rw [e19]; show gI σ17 th 7 = _; rw [(g3.2.2.2 th (kth.up x16).1 7).1]; exact g16
    have nq : gn σ19 q1 = 2 * gn σ c := by
      rw [e19]; show gn σ17 q1 = _
      rw [(x17 q1 (by rw [e16]; show q1 ∈ gD σ14; rw [g1.1]; simp)).2.2, e16]; exact n1
    have f19 : Fx [261, 262, 263, 6464, 8320] gr σ σ19 := by
      refine ⟨x19, fun b hb k hk => ?_⟩
      have z5 : ¬ (b = th ∧ k = 5) := fun z => hk (by rw [z.1, z.2, fcdO kth (by decide)]; decide)
      have z6 : ¬ (b = th ∧ k = 6) := fun z => hk (by rw [z.1, z.2, fcdO kth (by decide)]; decide)
      have a1 := g1.2.2.2 b hb k
      have a3 := g3.2.2.2 b (x16 b hb).1 k
      refine ⟨?_, ?_, ?_⟩
      · rw [e19]; show gI σ17 b k = _; rw [a3.1, e16]; exact a1.1
      · rw [e19, gP_pP, up2_n _ _ z6, a3.2.1, e16, gP_pP, up2_n _ _ z5]; exact a1.2.1
      · rw [e19]; show gJ σ17 b k = _; rw [a3.2.2, e16]; exact a1.2.2
    exact fin σ19 nu9 q1 q2 i19 f19 u19 k19 p5 p6 g19 (by rw [nq]; omega)

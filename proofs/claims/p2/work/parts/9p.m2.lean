set_option maxHeartbeats 1000000 in
theorem i_X8_setOfRow {σ : Sg} {pl : Nat} {gq ci gr nc : Nat → Nat} {ot : Nat → Nat → Int} {LL : Nat → List Nat} {N nu : Nat → Nat} {th : Nat} {v1 : Int} {v2 : Int} (iσ : IV σ pl gq ci gr nc ot LL N nu) (kth : kO σ th 8) (h5 : nu 5 < 24000) (h1 : 0 ≤ v1 ∧ v1 < 4) {Q : Sg → Int → Prop} {X : Sg → String → Prop} (hQ : ∀ (σ' : Sg) (nu' : Nat → Nat) (r : Int), IV σ' pl gq ci gr nc ot LL N nu' → Fx [513, 514, 6464] gr σ σ' → NU nu nu' → (0 ≤ r ∧ r < (nu' 2 : Int)) → Q σ' r) (hX : ∀ (σ' : Sg) (LL' : Nat → List Nat) (N' nu' : Nat → Nat) (E : String), IV σ' pl gq ci gr nc ot LL' N' nu' → Fx [513, 514, 6464] gr σ σ' → NX nu nu' → ((N' 1 ≤ N 1 ∧ N' 5 = N 5 ∧ N' 3 = N 3 ∧ N' 14 = N 14 ∧ N' 44 = N 44 ∧ N' 74 = N 74) ∧ NZ N N' ∧ E = "java/lang/IllegalStateException") → X σ' E) : wp_X8_setOfRow th v1 v2 σ Q X := by
  have fσ : Fx [513, 514, 6464] gr σ σ := Fx.rf
  unfold wp_X8_setOfRow
  unfold w_X8_setOfRow_0
  refine i_X8_newSet iσ kth (by (first | omega | with_reducible assumption | with_reducible exact rng_toInt _ | with_reducible exact rng_wr _ | (unfold rng; omega) | (unfold rng at *; omega) | assumption)) (fun σ5 nuσ5 r6 iσ5 cσ5 uσ5 pσ5 => ?_) (fun σx LLx Nx nux E ix cx ux px => hX σx LLx Nx nux E ix (fσ.tr (cx.mo (by decide))) (ux) (by first | exact px | exact ⟨by have := px.1; omega, px.2.1, px.2.2⟩ | (first | omega | with_reducible assumption | with_reducible exact rng_toInt _ | with_reducible exact rng_wr _ | (unfold rng; omega) | (unfold rng at *; omega) | assumption)))
  intro xσ5
  have fσ5 : Fx [513, 514, 6464] gr σ σ5 := fσ.tr (cσ5.mo (by decide))
  have nu_σ5 : NU nu nuσ5 := uσ5
  have uσ5_0 := uσ5.1 0 (by decide)
  have uσ5_1 := uσ5.1 1 (by decide)
  have uσ5_2 := uσ5.2
  have uσ5_5 := uσ5.1 5 (by decide)
  have uσ5_15 := uσ5.1 15 (by decide)
  have uσ5_16 := uσ5.1 16 (by decide)
  have qn := iσ5.nu2
  refine ⟨by (first | omega | with_reducible assumption | with_reducible exact rng_toInt _ | with_reducible exact rng_wr _ | (unfold rng; omega) | (unfold rng at *; omega) | assumption), ?_⟩
  refine ⟨by (first | omega | with_reducible assumption | with_reducible exact rng_toInt _ | with_reducible exact rng_wr _ | (unfold rng; omega) | (unfold rng at *; omega) | assumption), ?_⟩
  obtain ⟨b, eb, fb⟩ := P_8_2 iσ5.1 (kth.up xσ5)
  have mb : kO σ5 b 101 := iσ5.1.kd (kth.up xσ5) rfl eb rfl
  refine ⟨b, eb, fun kk_b => ?_⟩
  refine ⟨⟨by (first | omega | with_reducible assumption | with_reducible exact rng_toInt _ | with_reducible exact rng_wr _ | (unfold rng; omega) | (unfold rng at *; omega) | assumption), by (first | omega | with_reducible assumption | with_reducible exact rng_toInt _ | with_reducible exact rng_wr _ | (unfold rng; omega) | (unfold rng at *; omega) | assumption)⟩, ?_⟩
  intro σ8 eσ8
  have xσ8 : Ext σ5 σ8 := by rw [eσ8]; exact fun _ h => ⟨h, rfl, rfl⟩
  have iσ8 : IV σ8 pl gq ci gr nc ot LL N nuσ5 := by rw [eσ8]; exact iσ5.wL mb (by omega)
  have fσ8 : Fx [513, 514, 6464] gr σ σ8 := fσ5.tr (Sk.fx (by rw [eσ8]; exact Sk.pJ (by rw [fcdA mb (by decide)]; decide)))
  have kp1 : gP σ8 th 2 = gP σ5 th 2 := by rw [eσ8]
  exact hQ σ8 nuσ5 r6 iσ8 fσ8 (nu_σ5) (by (first | omega | with_reducible assumption | with_reducible exact rng_toInt _ | with_reducible exact rng_wr _ | (unfold rng; omega) | (unfold rng at *; omega) | assumption))
set_option maxHeartbeats 1000000 in
theorem i_X8_together {σ : Sg} {pl : Nat} {gq ci gr nc : Nat → Nat} {ot : Nat → Nat → Int} {LL : Nat → List Nat} {N nu : Nat → Nat} {th : Nat} {v1 : Int} {v2 : Int} (iσ : IV σ pl gq ci gr nc ot LL N nu) (kth : kO σ th 8) (h5 : nu 5 < 24000) (h1 : -1 ≤ v1 ∧ v1 < (nu 2 : Int)) (h2 : -1 ≤ v2 ∧ v2 < (nu 2 : Int)) {Q : Sg → Int → Prop} {X : Sg → String → Prop} (hQ : ∀ (σ' : Sg) (nu' : Nat → Nat) (r : Int), IV σ' pl gq ci gr nc ot LL N nu' → Fx [513, 514, 6464] gr σ σ' → NU nu nu' → (-1 ≤ r ∧ r < (nu' 2 : Int)) → Q σ' r) (hX : ∀ (σ' : Sg) (LL' : Nat → List Nat) (N' nu' : Nat → Nat) (E : String), IV σ' pl gq ci gr nc ot LL' N' nu' → Fx [513, 514, 6464] gr σ σ' → NX nu nu' → ((N' 1 ≤ N 1 ∧ N' 5 = N 5 ∧ N' 3 = N 3 ∧ N' 14 = N 14 ∧ N' 44 = N 44 ∧ N' 74 = N 74) ∧ NZ N N' ∧ E = "java/lang/IllegalStateException") → X σ' E) : wp_X8_together th v1 v2 σ Q X := by
  have fσ : Fx [513, 514, 6464] gr σ σ := Fx.rf
  unfold wp_X8_together
  unfold w_X8_together_0
  by_cases hc1 : v1 = v2
  · rw [if_pos hc1]
    unfold w_X8_together_13
    exact hQ σ nu v1 iσ fσ (NU.rf) (by (first | omega | with_reducible assumption | with_reducible exact rng_toInt _ | with_reducible exact rng_wr _ | (unfold rng; omega) | (unfold rng at *; omega) | assumption))
  · rw [if_neg hc1]
    unfold w_X8_together_5
    by_cases hc2 : v1 < 0
    · rw [if_pos hc2]
      unfold w_X8_together_13
      exact hQ σ nu v1 iσ fσ (NU.rf) (by (first | omega | with_reducible assumption | with_reducible exact rng_toInt _ | with_reducible exact rng_wr _ | (unfold rng; omega) | (unfold rng at *; omega) | assumption))
    · rw [if_neg hc2]
      unfold w_X8_together_9
      by_cases hc3 : v2 ≥ 0
      · rw [if_pos hc3]
        unfold w_X8_together_15
        refine i_X8_newSet iσ kth (by (first | omega | with_reducible assumption | with_reducible exact rng_toInt _ | with_reducible exact rng_wr _ | (unfold rng; omega) | (unfold rng at *; omega) | assumption)) (fun σ5 nuσ5 r6 iσ5 cσ5 uσ5 pσ5 => ?_) (fun σx LLx Nx nux E ix cx ux px => hX σx LLx Nx nux E ix (fσ.tr (cx.mo (by decide))) (ux) (by first | exact px | exact ⟨by have := px.1; omega, px.2.1, px.2.2⟩ | (first | omega | with_reducible assumption | with_reducible exact rng_toInt _ | with_reducible exact rng_wr _ | (unfold rng; omega) | (unfold rng at *; omega) | assumption)))
        intro xσ5
        have fσ5 : Fx [513, 514, 6464] gr σ σ5 := fσ.tr (cσ5.mo (by decide))
        have nu_σ5 : NU nu nuσ5 := uσ5
        have uσ5_0 := uσ5.1 0 (by decide)
        have uσ5_1 := uσ5.1 1 (by decide)
        have uσ5_2 := uσ5.2
        have uσ5_5 := uσ5.1 5 (by decide)
        have uσ5_15 := uσ5.1 15 (by decide)
        have uσ5_16 := uσ5.1 16 (by decide)
        have qn := iσ5.nu2
        have Lp23 : ∀ (fu23 : Nat) (τ23 : Sg) (nut23 : Nat → Nat) (v4 : Int), IV τ23 pl gq ci gr nc ot LL N nut23 → Fx [513, 514, 6464] gr σ τ23 → Ext σ5 τ23 → NU nu nut23 → ((0 ≤ v4 ∧ v4 ≤ 4) ∧ r6 < (nut23 2 : Int)) → ((4 - v4).toNat) < fu23 → wl_X8_together_23 th Q X fu23 τ23 v1 v2 r6 v4 := by
          intro fu23
          induction fu23 with
          | zero => intro _ _ _ _ _ _ _ _ h9; omega
          | succ fu23 ih23 =>
            intro τ23 nut23 v4 iτ23 fτ23 xτ23 nu_τ23 hi23 hm23
            have uτ23_0 := nu_τ23.1 0 (by decide)
            have uτ23_1 := nu_τ23.1 1 (by decide)
            have uτ23_2 := nu_τ23.2
            have uτ23_5 := nu_τ23.1 5 (by decide)
            have uτ23_15 := nu_τ23.1 15 (by decide)
            have uτ23_16 := nu_τ23.1 16 (by decide)
            unfold wl_X8_together_23
            have qn := iτ23.nu2
            unfold w_X8_together_23
            by_cases hc4 : v4 ≥ 4
            · rw [if_pos hc4]
              unfold w_X8_together_69
              exact hQ τ23 nut23 r6 iτ23 fτ23 (nu_τ23) (by (first | omega | with_reducible assumption | with_reducible exact rng_toInt _ | with_reducible exact rng_wr _ | (unfold rng; omega) | (unfold rng at *; omega) | assumption))
            · rw [if_neg hc4]
              unfold w_X8_together_29
              refine ⟨by (first | omega | with_reducible assumption | with_reducible exact rng_toInt _ | with_reducible exact rng_wr _ | (unfold rng; omega) | (unfold rng at *; omega) | assumption), ?_⟩
              refine ⟨by (first | omega | with_reducible assumption | with_reducible exact rng_toInt _ | with_reducible exact rng_wr _ | (unfold rng; omega) | (unfold rng at *; omega) | assumption), ?_⟩
              refine ⟨by (first | omega | with_reducible assumption | with_reducible exact rng_toInt _ | with_reducible exact rng_wr _ | (unfold rng; omega) | (unfold rng at *; omega) | assumption), ?_⟩
              refine ⟨by (first | omega | with_reducible assumption | with_reducible exact rng_toInt _ | with_reducible exact rng_wr _ | (unfold rng; omega) | (unfold rng at *; omega) | assumption), ?_⟩
              obtain ⟨b, eb, fb⟩ := P_8_2 iτ23.1 (kth.up (xσ5.trans xτ23))
              have mb : kO τ23 b 101 := iτ23.1.kd (kth.up (xσ5.trans xτ23)) rfl eb rfl
              refine ⟨b, eb, fun kk_b => ?_⟩
              refine ⟨⟨by (first | omega | with_reducible assumption | with_reducible exact rng_toInt _ | with_reducible exact rng_wr _ | (unfold rng; omega) | (unfold rng at *; omega) | assumption), by (first | omega | with_reducible assumption | with_reducible exact rng_toInt _ | with_reducible exact rng_wr _ | (unfold rng; omega) | (unfold rng at *; omega) | assumption)⟩, ?_⟩
              refine ⟨by (first | omega | with_reducible assumption | with_reducible exact rng_toInt _ | with_reducible exact rng_wr _ | (unfold rng; omega) | (unfold rng at *; omega) | assumption), ?_⟩
              refine ⟨by (first | omega | with_reducible assumption | with_reducible exact rng_toInt _ | with_reducible exact rng_wr _ | (unfold rng; omega) | (unfold rng at *; omega) | assumption), ?_⟩
              refine ⟨⟨by (first | omega | with_reducible assumption | with_reducible exact rng_toInt _ | with_reducible exact rng_wr _ | (unfold rng; omega) | (unfold rng at *; omega) | assumption), by (first | omega | with_reducible assumption | with_reducible exact rng_toInt _ | with_reducible exact rng_wr _ | (unfold rng; omega) | (unfold rng at *; omega) | assumption)⟩, ?_⟩
              refine ⟨⟨by (first | omega | with_reducible assumption | with_reducible exact rng_toInt _ | with_reducible exact rng_wr _ | (unfold rng; omega) | (unfold rng at *; omega) | assumption), by (first | omega | with_reducible assumption | with_reducible exact rng_toInt _ | with_reducible exact rng_wr _ | (unfold rng; omega) | (unfold rng at *; omega) | assumption)⟩, ?_⟩
              intro σ8 eσ8
              have xσ8 : Ext τ23 σ8 := by rw [eσ8]; exact fun _ h => ⟨h, rfl, rfl⟩
              have iσ8 : IV σ8 pl gq ci gr nc ot LL N nut23 := by rw [eσ8]; exact iτ23.wL mb (by omega)
              have fσ8 : Fx [513, 514, 6464] gr σ σ8 := fτ23.tr (Sk.fx (by rw [eσ8]; exact Sk.pJ (by rw [fcdA mb (by decide)]; decide)))
              have kp5 : gP σ8 th 2 = gP τ23 th 2 := by rw [eσ8]
              refine ⟨by (first | omega | with_reducible assumption | with_reducible exact rng_toInt _ | with_reducible exact rng_wr _ | (unfold rng; omega) | (unfold rng at *; omega) | assumption), ?_⟩
              exact ih23 σ8 nut23 (v4 + 1) iσ8 fσ8 (xτ23.trans xσ8) nu_τ23 (by (first | omega | with_reducible assumption | with_reducible exact rng_toInt _ | with_reducible exact rng_wr _ | (unfold rng; omega) | (unfold rng at *; omega) | assumption)) (by (first | omega | with_reducible assumption | with_reducible exact rng_toInt _ | with_reducible exact rng_wr _ | (unfold rng; omega) | (unfold rng at *; omega) | assumption))
        exact ⟨_, Lp23 _ σ5 nuσ5 _ iσ5 fσ5 (Ext.rfl' _) nu_σ5 (by (first | omega | with_reducible assumption | with_reducible exact rng_toInt _ | with_reducible exact rng_wr _ | (unfold rng; omega) | (unfold rng at *; omega) | assumption)) (Nat.lt_succ_self _)⟩
      · rw [if_neg hc3]
        unfold w_X8_together_13
        exact hQ σ nu v1 iσ fσ (NU.rf) (by (first | omega | with_reducible assumption | with_reducible exact rng_toInt _ | with_reducible exact rng_wr _ | (unfold rng; omega) | (unfold rng at *; omega) | assumption))

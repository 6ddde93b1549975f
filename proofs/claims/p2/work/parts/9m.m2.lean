set_option maxHeartbeats 1000000 in
theorem i_X8_copyOf {σ : Sg} {pl : Nat} {gq ci gr nc : Nat → Nat} {ot : Nat → Nat → Int} {LL : Nat → List Nat} {N nu : Nat → Nat} {th : Nat} {v1 : Option Nat} (iσ : IV σ pl gq ci gr nc ot LL N nu) (kth : kO σ th 8) {c1 : Nat} (hv1 : v1 = some c1) (kc1 : kO σ c1 0) (hb : N 14 + N 44 + N 74 + N 1 ≤ 41000) {Q : Sg → Option Nat → Prop} {X : Sg → String → Prop} (hQ : ∀ (σ' : Sg) (LL' : Nat → List Nat) (N' nu' : Nat → Nat) (c : Nat), IV σ' pl gq ci gr nc ot LL' N' nu' → Fx [1, 2, 3, 4, 5, 6, 7, 64, 512, 6464] gr σ σ' → NU nu nu' → Hn (gD σ) [] [] gq LL LL' N N' → ((∀ x, c ∉ LL' x) ∧ (∀ d, kO σ d 0 → (∀ x, d ∉ LL x) → d ≠ c) ∧ (c ∉ gD σ ∨ ∃ y, c ∈ LL y) ∧ N' 1 = N 1 + 1) → Q σ' (some c)) : wp_X8_copyOf th v1 σ Q X := by
  have fσ : Fx [1, 2, 3, 4, 5, 6, 7, 64, 512, 6464] gr σ σ := Fx.rf
  have hnσ : Hn (gD σ) [] [] gq LL LL N N := Hn.rf
  unfold wp_X8_copyOf
  unfold w_X8_copyOf_0
  refine i_X8_fresh iσ kth (by (first | omega | with_reducible assumption | with_reducible exact rng_toInt _ | with_reducible exact rng_wr _ | (unfold rng; omega) | (unfold rng at *; omega) | assumption)) (fun σ13 LLσ13 Nσ13 nuσ13 c_σ13 iσ13 cσ13 uσ13 hσ13 pσ13 => ?_)
  intro xσ13
  have fσ13 : Fx [1, 2, 3, 4, 5, 6, 7, 64, 512, 6464] gr σ σ13 := fσ.tr (cσ13.mo (by decide))
  have hnσ13 : Hn (gD σ) [] [] gq LL LLσ13 N Nσ13 := hnσ.go hσ13 (fun d hd => (fσ.1 d hd).1) (by first | decide | exact fun _ h => h | (simp; done) | (intro x hx; simp only [List.mem_cons, List.mem_nil_iff, or_false] at hx ⊢; omega)) (fun d hd => absurd hd (by simp))
  have hf_c_σ13 : ∀ x, c_σ13 ∉ LLσ13 x := pσ13.1
  have lo_c_σ13 : Lo [] (gD σ) LL c_σ13 := hnσ.loc (fun d hd => (fσ.1 d hd).1) pσ13.2.2.1
  have nu_σ13 : NU nu nuσ13 := uσ13
  have uσ13_0 := uσ13.1 0 (by decide)
  have uσ13_1 := uσ13.1 1 (by decide)
  have uσ13_2 := uσ13.2
  have uσ13_5 := uσ13.1 5 (by decide)
  have uσ13_15 := uσ13.1 15 (by decide)
  have uσ13_16 := uσ13.1 16 (by decide)
  intro tyt
  have krc_σ13 : kO σ13 c_σ13 0 := tyt c_σ13 rfl
  refine ⟨c1, hv1, fun kk_c1 => ?_⟩
  refine ⟨c_σ13, rfl, fun kk_c_σ13 => ?_⟩
  intro σ17 eσ17
  have xσ17 : Ext σ13 σ17 := by rw [eσ17]; exact fun _ h => ⟨h, rfl, rfl⟩
  have q1 := iσ13.rg c1 2; unfold rng at q1
  have iσ17 : IV σ17 pl gq ci gr nc ot LLσ13 Nσ13 nuσ13 := by rw [eσ17]; exact iσ13.wO krc_σ13 (by decide) (rngb (by first | exact rng_wr _ | (first | omega | with_reducible assumption | with_reducible exact rng_toInt _ | with_reducible exact rng_wr _ | (unfold rng; omega) | (unfold rng at *; omega) | assumption)))
  have fσ17 : Fx [1, 2, 3, 4, 5, 6, 7, 64, 512, 6464] gr σ σ17 := fσ13.tr (Sk.fx (by rw [eσ17]; exact Sk.pI (by rw [fcdO krc_σ13 (by decide)]; decide)))
  have wσ17 : gI σ17 c_σ13 2 = (gI σ13 c1 2) := by rw [eσ17]; exact up2_s _ _ _ _
  intro σ18 eσ18
  have xσ18 : Ext σ17 σ18 := by rw [eσ18]; exact fun _ h => ⟨h, rfl, rfl⟩
  have q2 := I_0_4 iσ17.1 (kc1.up (xσ13.trans xσ17))
  have iσ18 : IV σ18 pl gq ci gr nc ot LLσ13 Nσ13 nuσ13 := by rw [eσ18]; exact iσ17.wO (krc_σ13.up xσ17) (by decide) (show (-1 : Int) ≤ (gI σ17 c1 4) ∧ (gI σ17 c1 4) ≤ (nuσ13 2 : Int) - 1 from ⟨by (first | omega | with_reducible assumption | with_reducible exact rng_toInt _ | with_reducible exact rng_wr _ | (unfold rng; omega) | (unfold rng at *; omega) | assumption), by (first | omega | with_reducible assumption | with_reducible exact rng_toInt _ | with_reducible exact rng_wr _ | (unfold rng; omega) | (unfold rng at *; omega) | assumption)⟩)
  have fσ18 : Fx [1, 2, 3, 4, 5, 6, 7, 64, 512, 6464] gr σ σ18 := fσ17.tr (Sk.fx (by rw [eσ18]; exact Sk.pI (by rw [fcdO (krc_σ13.up xσ17) (by decide)]; decide)))
  have wσ18 : gI σ18 c_σ13 4 = (gI σ17 c1 4) := by rw [eσ18]; exact up2_s _ _ _ _
  have kp3 : gI σ18 c_σ13 2 = gI σ17 c_σ13 2 := by rw [eσ18]; exact up2_n _ _ (fun q => absurd q.2 (by decide))
  intro σ19 eσ19
  have xσ19 : Ext σ18 σ19 := by rw [eσ19]; exact fun _ h => ⟨h, rfl, rfl⟩
  have iσ19 : IV σ19 pl gq ci gr nc ot LLσ13 Nσ13 nuσ13 := by rw [eσ19]; exact iσ18.wT (krc_σ13.up (xσ17.trans xσ18)) (by decide) (iσ18.t5 (kc1.up (xσ13.trans (xσ17.trans xσ18))))
  have fσ19 : Fx [1, 2, 3, 4, 5, 6, 7, 64, 512, 6464] gr σ σ19 := fσ18.tr (Sk.fx (by rw [eσ19]; exact Sk.pJ (by rw [fcdO (krc_σ13.up (xσ17.trans xσ18)) (by decide)]; decide)))
  have kp4 : gI σ19 c_σ13 2 = gI σ18 c_σ13 2 := by rw [eσ19]
  have kp5 : gI σ19 c_σ13 4 = gI σ18 c_σ13 4 := by rw [eσ19]
  intro σ20 eσ20
  have xσ20 : Ext σ19 σ20 := by rw [eσ20]; exact fun _ h => ⟨h, rfl, rfl⟩
  have iσ20 : IV σ20 pl gq ci gr nc ot LLσ13 Nσ13 nuσ13 := by rw [eσ20]; exact iσ19.wT (krc_σ13.up (xσ17.trans (xσ18.trans xσ19))) (by decide) (iσ19.t6 (kc1.up (xσ13.trans (xσ17.trans (xσ18.trans xσ19)))))
  have fσ20 : Fx [1, 2, 3, 4, 5, 6, 7, 64, 512, 6464] gr σ σ20 := fσ19.tr (Sk.fx (by rw [eσ20]; exact Sk.pJ (by rw [fcdO (krc_σ13.up (xσ17.trans (xσ18.trans xσ19))) (by decide)]; decide)))
  have kp6 : gI σ20 c_σ13 2 = gI σ19 c_σ13 2 := by rw [eσ20]
  have kp7 : gI σ20 c_σ13 4 = gI σ19 c_σ13 4 := by rw [eσ20]
  intro σ21 eσ21
  have xσ21 : Ext σ20 σ21 := by rw [eσ21]; exact fun _ h => ⟨h, rfl, rfl⟩
  have iσ21 : IV σ21 pl gq ci gr nc ot LLσ13 Nσ13 nuσ13 := by rw [eσ21]; exact iσ20.wJ (krc_σ13.up (xσ17.trans (xσ18.trans (xσ19.trans xσ20)))) (by decide)
  have fσ21 : Fx [1, 2, 3, 4, 5, 6, 7, 64, 512, 6464] gr σ σ21 := fσ20.tr (Sk.fx (by rw [eσ21]; exact Sk.pJ (by rw [fcdO (krc_σ13.up (xσ17.trans (xσ18.trans (xσ19.trans xσ20)))) (by decide)]; decide)))
  have kp8 : gI σ21 c_σ13 2 = gI σ20 c_σ13 2 := by rw [eσ21]
  have kp9 : gI σ21 c_σ13 4 = gI σ20 c_σ13 4 := by rw [eσ21]
  obtain ⟨b, eb, fb⟩ := P_0_0 iσ21.1 (kc1.up (xσ13.trans (xσ17.trans (xσ18.trans (xσ19.trans (xσ20.trans xσ21))))))
  have mb : kO σ21 b 101 := iσ21.1.kd (kc1.up (xσ13.trans (xσ17.trans (xσ18.trans (xσ19.trans (xσ20.trans xσ21)))))) rfl eb rfl
  refine ⟨b, eb, fun kk_b => ?_⟩
  obtain ⟨b_1, eb_1, fb_1⟩ := P_0_0 iσ21.1 (krc_σ13.up (xσ17.trans (xσ18.trans (xσ19.trans (xσ20.trans xσ21)))))
  have mb_1 : kO σ21 b_1 101 := iσ21.1.kd (krc_σ13.up (xσ17.trans (xσ18.trans (xσ19.trans (xσ20.trans xσ21))))) rfl eb_1 rfl
  refine ⟨b_1, eb_1, fun kk_b_1 => ?_⟩
  refine ⟨⟨⟨by (first | omega | with_reducible assumption | with_reducible exact rng_toInt _ | with_reducible exact rng_wr _ | (unfold rng; omega) | (unfold rng at *; omega) | assumption), by (first | omega | with_reducible assumption | with_reducible exact rng_toInt _ | with_reducible exact rng_wr _ | (unfold rng; omega) | (unfold rng at *; omega) | assumption), by (first | omega | with_reducible assumption | with_reducible exact rng_toInt _ | with_reducible exact rng_wr _ | (unfold rng; omega) | (unfold rng at *; omega) | assumption)⟩, by (first | omega | with_reducible assumption | with_reducible exact rng_toInt _ | with_reducible exact rng_wr _ | (unfold rng; omega) | (unfold rng at *; omega) | assumption), by (first | omega | with_reducible assumption | with_reducible exact rng_toInt _ | with_reducible exact rng_wr _ | (unfold rng; omega) | (unfold rng at *; omega) | assumption)⟩, ?_⟩
  intro σ24 eσ24
  have xσ24 : Ext σ21 σ24 := by rw [eσ24]; exact fun _ h => ⟨h, rfl, rfl⟩
  have iσ24 : IV σ24 pl gq ci gr nc ot LLσ13 Nσ13 nuσ13 := by rw [eσ24]; exact iσ21.wC mb_1 (by omega)
  have fσ24 : Fx [1, 2, 3, 4, 5, 6, 7, 64, 512, 6464] gr σ σ24 := fσ21.tr (Sk.fx (by rw [eσ24]; exact Sk.cpJ (fun _ => by rw [fcdA mb_1 (by decide)]; decide)))
  have kp10 : gI σ24 c_σ13 2 = gI σ21 c_σ13 2 := by rw [eσ24]; rfl
  have kp11 : gI σ24 c_σ13 4 = gI σ21 c_σ13 4 := by rw [eσ24]; rfl
  have kp12 : gP σ24 c1 0 = gP σ21 c1 0 := by rw [eσ24]; rfl
  have kp13 : gP σ24 c_σ13 0 = gP σ21 c_σ13 0 := by rw [eσ24]; rfl
  exact hQ σ24 LLσ13 Nσ13 nuσ13 c_σ13 iσ24 fσ24 (nu_σ13) hnσ13 (⟨hf_c_σ13, pσ13.2.1, pσ13.2.2.1, pσ13.2.2.2⟩)

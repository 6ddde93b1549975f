set_option maxHeartbeats 1000000 in
theorem i1_X11_addPair {σ : Sg} {pl : Nat} {gq ci gr nc : Nat → Nat} {ot : Nat → Nat → Int} {LL : Nat → List Nat} {N nu : Nat → Nat} {th : Nat} {v1 : Option Nat} {v2 : Option Nat} {v3 : Option Nat} {v4 : Int64} {J i : Nat} (iσ : IV σ pl gq ci gr nc ot LL N nu) (kth : kO σ th 11) {o : Nat} (hv1 : v1 = some o) (ko : kO σ o 5) {f : Nat} (hv2 : v2 = some f) (kf : kO σ f 0) {s : Nat} (hv3 : v3 = some s) (ks : kO σ s 0) (hq : gq th = 1) (hj : gP σ th 5 = some J) (kJ : kO σ J 4) (hJ : gq J = nc 0) (ho : gq o = 16 * nc 0 + i) (hi : i < nc 1) (hk : ot i 6 = 6 ∨ ot i 6 = 7) (h5 : nu 5 < 24000) (hb : N 14 + N 44 + N 74 + N 1 ≤ 41000) (hv : tb (N 3) v4) {Q : Sg → Unit → Prop} {X : Sg → String → Prop} (hQ : ∀ (σ' : Sg) (LL' : Nat → List Nat) (N' nu' : Nat → Nat) (r : Unit), IV σ' pl gq ci gr nc ot LL' N' nu' → Fx [1, 2, 3, 4, 5, 6, 7, 64, 512, 513, 514, 6464] gr σ σ' → NU nu nu' → Hn (gD σ) [14] [] gq LL LL' N N' → (N' 1 = N 1 ∧ N' 14 = N 14 + 1) → Q σ' r) (hX : ∀ (σ' : Sg) (LL' : Nat → List Nat) (N' nu' : Nat → Nat) (E : String), IV σ' pl gq ci gr nc ot LL' N' nu' → Fx [1, 2, 3, 4, 5, 6, 7, 64, 512, 513, 514, 6464] gr σ σ' → NX nu nu' → ((N' 1 ≤ N 1 + 0 ∧ N' 5 = N 5 ∧ N' 3 = N 3 ∧ N' 44 = N 44 ∧ N' 74 = N 74) ∧ NZ N N' ∧ E = "java/lang/IllegalStateException") → X σ' E) : wp_X11_addPair th v1 v2 v3 v4 σ Q X := by
  have fσ : Fx [1, 2, 3, 4, 5, 6, 7, 64, 512, 513, 514, 6464] gr σ σ := Fx.rf
  have hnσ : Hn (gD σ) [14] [] gq LL LL N N := Hn.rf
  have ok := iσ.opok hi
  have q7 := iσ.op ko ho hi 7 (by decide)
  have h7 : 0 ≤ ot i 7 := ok.2.2.2.1 (by omega)
  have hw := ok.2.2.2.2.2.1 hk
  have h7i := ok.2.1
  have w3 := ok.2.2.2.2.2.2.2.2.2.1
  unfold wp_X11_addPair
  unfold w_X11_addPair_0
  refine ⟨J, hj, fun kk_J => ?_⟩
  refine ⟨o, hv1, fun kk_o => ?_⟩
  obtain ⟨b, eb, fb⟩ := P_4_0 iσ.1 kJ
  have mb : kO σ b 115 := iσ.1.kd kJ rfl eb rfl
  refine ⟨b, eb, fun kk_b => ?_⟩
  have q1 := I_5_7 iσ.1 ko
  refine ⟨⟨by (first | omega | with_reducible assumption | with_reducible exact rng_toInt _ | with_reducible exact rng_wr _ | (unfold rng; omega) | (unfold rng at *; omega) | assumption), by (first | omega | with_reducible assumption | with_reducible exact rng_toInt _ | with_reducible exact rng_wr _ | (unfold rng; omega) | (unfold rng at *; omega) | assumption)⟩, ?_⟩
  obtain ⟨b_1, eb_1⟩ := P_115 iσ.1 mb (k := (gI σ o 7).toNat) (by (first | omega | with_reducible assumption | with_reducible exact rng_toInt _ | with_reducible exact rng_wr _ | (unfold rng; omega) | (unfold rng at *; omega) | assumption))
  have fb_1 := T_115 iσ.1 mb eb_1
  have mb_1 : kO σ b_1 5 := iσ.1.kd mb rfl eb_1 rfl
  refine ⟨b_1, eb_1, fun kk_b_1 => ?_⟩
  refine ⟨f, hv2, fun kk_f => ?_⟩
  refine ⟨s, hv3, fun kk_s => ?_⟩
  obtain ⟨b_2, eb_2⟩ := P_11_0 iσ.1 kth
  refine ⟨b_2, eb_2, fun kk_b_2 => ?_⟩
  have q2 := I_0_4 iσ.1 kf
  have q3 := I_0_4 iσ.1 ks
  refine i_X8_together iσ kk_b_2 (by (first | omega | with_reducible assumption | with_reducible exact rng_toInt _ | with_reducible exact rng_wr _ | (unfold rng; omega) | (unfold rng at *; omega) | assumption)) (by (first | omega | with_reducible assumption | with_reducible exact rng_toInt _ | with_reducible exact rng_wr _ | (unfold rng; omega) | (unfold rng at *; omega) | assumption)) (by (first | omega | with_reducible assumption | with_reducible exact rng_toInt _ | with_reducible exact rng_wr _ | (unfold rng; omega) | (unfold rng at *; omega) | assumption)) (fun σ30 nuσ30 r31 iσ30 cσ30 uσ30 pσ30 => ?_) (fun σx LLx Nx nux E ix cx ux px => hX σx LLx Nx nux E ix (fσ.tr (cx.mo (by decide))) (ux) (by first | exact px | exact ⟨by have := px.1; omega, px.2.1, px.2.2⟩ | (first | omega | with_reducible assumption | with_reducible exact rng_toInt _ | with_reducible exact rng_wr _ | (unfold rng; omega) | (unfold rng at *; omega) | assumption)))
  intro xσ30
  have fσ30 : Fx [1, 2, 3, 4, 5, 6, 7, 64, 512, 513, 514, 6464] gr σ σ30 := fσ.tr (cσ30.mo (by decide))
  have nu_σ30 : NU nu nuσ30 := uσ30
  have uσ30_0 := uσ30.1 0 (by decide)
  have uσ30_1 := uσ30.1 1 (by decide)
  have uσ30_2 := uσ30.2
  have uσ30_5 := uσ30.1 5 (by decide)
  have uσ30_15 := uσ30.1 15 (by decide)
  have uσ30_16 := uσ30.1 16 (by decide)
  have kp4 : gI σ30 f 4 = gI σ f 4 := (cσ30.O kf (by decide)).1
  have kp5 : gI σ30 o 7 = gI σ o 7 := (cσ30.O ko (by decide)).1
  have kp6 : gI σ30 s 4 = gI σ s 4 := (cσ30.O ks (by decide)).1
  have kp7 : gP σ30 J 0 = gP σ J 0 := (cσ30.O kJ (by decide)).2.1
  have kp8 : gP σ30 b (gI σ o 7).toNat = gP σ b (gI σ o 7).toNat := (cσ30.A mb (by decide)).2.1
  have kp9 : gP σ30 th 0 = gP σ th 0 := (cσ30.O kth (by decide)).2.1
  have kp10 : gP σ30 th 5 = gP σ th 5 := (cσ30.O kth (by decide)).2.1
  have w9 := iσ.op mb_1 (i := (ot i 7).toNat) (by omega) (by omega) 3 (by decide)
  have w8 := (iσ30.opok (i := (ot i 7).toNat) (by omega)).2.2.2.2.2.2.2.2.2.1
  refine ⟨b_2, (kp9.trans eb_2), fun kk_b_2_1 => ?_⟩
  refine i_X8_fresh iσ30 (kk_b_2.up xσ30) (by (first | omega | with_reducible assumption | with_reducible exact rng_toInt _ | with_reducible exact rng_wr _ | (unfold rng; omega) | (unfold rng at *; omega) | assumption)) (fun σ33 LLσ33 Nσ33 nuσ33 c_σ33 iσ33 cσ33 uσ33 hσ33 pσ33 => ?_)
  intro xσ33
  have fσ33 : Fx [1, 2, 3, 4, 5, 6, 7, 64, 512, 513, 514, 6464] gr σ σ33 := fσ30.tr (cσ33.mo (by decide))
  have hnσ33 : Hn (gD σ) [14] [] gq LL LLσ33 N Nσ33 := hnσ.go hσ33 (fun d hd => (fσ30.1 d hd).1) (by first | decide | exact fun _ h => h | (simp; done) | (intro x hx; simp only [List.mem_cons, List.mem_nil_iff, or_false] at hx ⊢; omega)) (fun d hd => absurd hd (by simp))
  have hf_c_σ33 : ∀ x, c_σ33 ∉ LLσ33 x := pσ33.1
  have lo_c_σ33 : Lo [] (gD σ) LL c_σ33 := hnσ.loc (fun d hd => (fσ30.1 d hd).1) pσ33.2.2.1
  have nσ33_3 := hσ33.2.2 3 (by first | decide | (simp; done) | (simp only [List.mem_cons, List.mem_nil_iff, or_false, not_or]; omega)) (by first | decide | omega) (by first | decide | omega) (by first | decide | omega)
  have nσ33_5 := hσ33.2.2 5 (by first | decide | (simp; done) | (simp only [List.mem_cons, List.mem_nil_iff, or_false, not_or]; omega)) (by first | decide | omega) (by first | decide | omega) (by first | decide | omega)
  have nσ33_14 := hσ33.2.2 14 (by first | decide | (simp; done) | (simp only [List.mem_cons, List.mem_nil_iff, or_false, not_or]; omega)) (by first | decide | omega) (by first | decide | omega) (by first | decide | omega)
  have nσ33_44 := hσ33.2.2 44 (by first | decide | (simp; done) | (simp only [List.mem_cons, List.mem_nil_iff, or_false, not_or]; omega)) (by first | decide | omega) (by first | decide | omega) (by first | decide | omega)
  have nσ33_74 := hσ33.2.2 74 (by first | decide | (simp; done) | (simp only [List.mem_cons, List.mem_nil_iff, or_false, not_or]; omega)) (by first | decide | omega) (by first | decide | omega) (by first | decide | omega)
  have nσ33_11 := hσ33.2.2 11 (by first | decide | (simp; done) | (simp only [List.mem_cons, List.mem_nil_iff, or_false, not_or]; omega)) (by first | decide | omega) (by first | decide | omega) (by first | decide | omega)
  have nσ33_12 := hσ33.2.2 12 (by first | decide | (simp; done) | (simp only [List.mem_cons, List.mem_nil_iff, or_false, not_or]; omega)) (by first | decide | omega) (by first | decide | omega) (by first | decide | omega)
  have nσ33_41 := hσ33.2.2 41 (by first | decide | (simp; done) | (simp only [List.mem_cons, List.mem_nil_iff, or_false, not_or]; omega)) (by first | decide | omega) (by first | decide | omega) (by first | decide | omega)
  have nσ33_42 := hσ33.2.2 42 (by first | decide | (simp; done) | (simp only [List.mem_cons, List.mem_nil_iff, or_false, not_or]; omega)) (by first | decide | omega) (by first | decide | omega) (by first | decide | omega)
  have nσ33_13 := hσ33.2.2 13 (by first | decide | (simp; done) | (simp only [List.mem_cons, List.mem_nil_iff, or_false, not_or]; omega)) (by first | decide | omega) (by first | decide | omega) (by first | decide | omega)
  have nu_σ33 : NU nu nuσ33 := nu_σ30.tr uσ33
  have uσ33_0 := uσ33.1 0 (by decide)
  have uσ33_1 := uσ33.1 1 (by decide)
  have uσ33_2 := uσ33.2
  have uσ33_5 := uσ33.1 5 (by decide)
  have uσ33_15 := uσ33.1 15 (by decide)
  have uσ33_16 := uσ33.1 16 (by decide)
  have kp11 : gI σ33 o 7 = gI σ30 o 7 := (cσ33.O (ko.up xσ30) (by decide)).1
  have kp12 : gP σ33 J 0 = gP σ30 J 0 := (cσ33.O (kJ.up xσ30) (by decide)).2.1
  have kp13 : gP σ33 b (gI σ o 7).toNat = gP σ30 b (gI σ o 7).toNat := (cσ33.A (mb.up xσ30) (by decide)).2.1
  have kp14 : gP σ33 th 0 = gP σ30 th 0 := (cσ33.O (kth.up xσ30) (by decide)).2.1
  have kp15 : gP σ33 th 5 = gP σ30 th 5 := (cσ33.O (kth.up xσ30) (by decide)).2.1
  intro tyt
  have krc_σ33 : kO σ33 c_σ33 0 := tyt c_σ33 rfl
  refine ⟨c_σ33, rfl, fun kk_c_σ33 => ?_⟩
  intro σ37 eσ37
  have xσ37 : Ext σ33 σ37 := by rw [eσ37]; exact fun _ h => ⟨h, rfl, rfl⟩
  have iσ37 : IV σ37 pl gq ci gr nc ot LLσ33 Nσ33 nuσ33 := by rw [eσ37]; exact iσ33.wT krc_σ33 (by decide) (by have q9 := hv; unfold tb at q9 ⊢; omega)
  have fσ37 : Fx [1, 2, 3, 4, 5, 6, 7, 64, 512, 513, 514, 6464] gr σ σ37 := fσ33.tr (Sk.fx (by rw [eσ37]; exact Sk.pJ (by rw [fcdO krc_σ33 (by decide)]; decide)))
  have kp16 : gI σ37 o 7 = gI σ33 o 7 := by rw [eσ37]
  have kp17 : gP σ37 J 0 = gP σ33 J 0 := by rw [eσ37]
  have kp18 : gP σ37 b (gI σ o 7).toNat = gP σ33 b (gI σ o 7).toNat := by rw [eσ37]
  have kp19 : gP σ37 th 0 = gP σ33 th 0 := by rw [eσ37]
  have kp20 : gP σ37 th 5 = gP σ33 th 5 := by rw [eσ37]
  intro σ38 eσ38
  have xσ38 : Ext σ37 σ38 := by rw [eσ38]; exact fun _ h => ⟨h, rfl, rfl⟩
  have iσ38 : IV σ38 pl gq ci gr nc ot LLσ33 Nσ33 nuσ33 := by rw [eσ38]; exact iσ37.wO (krc_σ33.up xσ37) (by decide) (show (-1 : Int) ≤ r31 ∧ r31 ≤ (nuσ33 2 : Int) - 1 from ⟨by (first | omega | with_reducible assumption | with_reducible exact rng_toInt _ | with_reducible exact rng_wr _ | (unfold rng; omega) | (unfold rng at *; omega) | assumption), by (first | omega | with_reducible assumption | with_reducible exact rng_toInt _ | with_reducible exact rng_wr _ | (unfold rng; omega) | (unfold rng at *; omega) | assumption)⟩)
  have fσ38 : Fx [1, 2, 3, 4, 5, 6, 7, 64, 512, 513, 514, 6464] gr σ σ38 := fσ37.tr (Sk.fx (by rw [eσ38]; exact Sk.pI (by rw [fcdO (krc_σ33.up xσ37) (by decide)]; decide)))
  have wσ38 : gI σ38 c_σ33 4 = r31 := by rw [eσ38]; exact up2_s _ _ _ _
  have kp21 : gI σ38 o 7 = gI σ37 o 7 := by rw [eσ38]; exact up2_n _ _ (fun q => absurd q.2 (by decide))
  have kp22 : gP σ38 J 0 = gP σ37 J 0 := by rw [eσ38]
  have kp23 : gP σ38 b (gI σ o 7).toNat = gP σ37 b (gI σ o 7).toNat := by rw [eσ38]
  have kp24 : gP σ38 th 0 = gP σ37 th 0 := by rw [eσ38]
  have kp25 : gP σ38 th 5 = gP σ37 th 5 := by rw [eσ38]
  obtain ⟨b_3, eb_3, fb_3⟩ := P_0_0 iσ38.1 (kf.up (xσ30.trans (xσ33.trans (xσ37.trans xσ38))))
  have mb_3 : kO σ38 b_3 101 := iσ38.1.kd (kf.up (xσ30.trans (xσ33.trans (xσ37.trans xσ38)))) rfl eb_3 rfl
  refine ⟨b_3, eb_3, fun kk_b_3 => ?_⟩
  obtain ⟨b_4, eb_4, fb_4⟩ := P_0_0 iσ38.1 (krc_σ33.up (xσ37.trans xσ38))
  have mb_4 : kO σ38 b_4 101 := iσ38.1.kd (krc_σ33.up (xσ37.trans xσ38)) rfl eb_4 rfl
  refine ⟨b_4, eb_4, fun kk_b_4 => ?_⟩
  have q26 := I_5_3 iσ.1 mb_1
  refine ⟨⟨⟨by (first | omega | with_reducible assumption | with_reducible exact rng_toInt _ | with_reducible exact rng_wr _ | (unfold rng; omega) | (unfold rng at *; omega) | assumption), by (first | omega | with_reducible assumption | with_reducible exact rng_toInt _ | with_reducible exact rng_wr _ | (unfold rng; omega) | (unfold rng at *; omega) | assumption), by (first | omega | with_reducible assumption | with_reducible exact rng_toInt _ | with_reducible exact rng_wr _ | (unfold rng; omega) | (unfold rng at *; omega) | assumption)⟩, by (first | omega | with_reducible assumption | with_reducible exact rng_toInt _ | with_reducible exact rng_wr _ | (unfold rng; omega) | (unfold rng at *; omega) | assumption), by (first | omega | with_reducible assumption | with_reducible exact rng_toInt _ | with_reducible exact rng_wr _ | (unfold rng; omega) | (unfold rng at *; omega) | assumption)⟩, ?_⟩
  intro σ41 eσ41
  have xσ41 : Ext σ38 σ41 := by rw [eσ41]; exact fun _ h => ⟨h, rfl, rfl⟩
  have iσ41 : IV σ41 pl gq ci gr nc ot LLσ33 Nσ33 nuσ33 := by rw [eσ41]; exact iσ38.wC mb_4 (by omega)
  have fσ41 : Fx [1, 2, 3, 4, 5, 6, 7, 64, 512, 513, 514, 6464] gr σ σ41 := fσ38.tr (Sk.fx (by rw [eσ41]; exact Sk.cpJ (fun _ => by rw [fcdA mb_4 (by decide)]; decide)))
  have kp27 : gI σ41 c_σ33 4 = gI σ38 c_σ33 4 := by rw [eσ41]; rfl
  have kp28 : gI σ41 o 7 = gI σ38 o 7 := by rw [eσ41]; rfl
  have kp29 : gP σ41 J 0 = gP σ38 J 0 := by rw [eσ41]; rfl
  have kp30 : gP σ41 b (gI σ o 7).toNat = gP σ38 b (gI σ o 7).toNat := by rw [eσ41]; rfl
  have kp31 : gP σ41 c_σ33 0 = gP σ38 c_σ33 0 := by rw [eσ41]; rfl
  have kp32 : gP σ41 f 0 = gP σ38 f 0 := by rw [eσ41]; rfl
  have kp33 : gP σ41 th 0 = gP σ38 th 0 := by rw [eσ41]; rfl
  have kp34 : gP σ41 th 5 = gP σ38 th 5 := by rw [eσ41]; rfl
  have w7 := iσ41.op (ko.up (xσ30.trans (xσ33.trans (xσ37.trans (xσ38.trans xσ41))))) ho hi 3 (by decide)
  have q35 := I_5_3 iσ41.1 (ko.up (xσ30.trans (xσ33.trans (xσ37.trans (xσ38.trans xσ41)))))
  refine ⟨by (first | omega | with_reducible assumption | with_reducible exact rng_toInt _ | with_reducible exact rng_wr _ | (unfold rng; omega) | (unfold rng at *; omega) | assumption), ?_⟩
  obtain ⟨b_5, eb_5, fb_5⟩ := P_0_0 iσ41.1 (ks.up (xσ30.trans (xσ33.trans (xσ37.trans (xσ38.trans xσ41)))))
  have mb_5 : kO σ41 b_5 101 := iσ41.1.kd (ks.up (xσ30.trans (xσ33.trans (xσ37.trans (xσ38.trans xσ41))))) rfl eb_5 rfl
  refine ⟨b_5, eb_5, fun kk_b_5 => ?_⟩
  refine ⟨b_4, (kp31.trans eb_4), fun kk_b_4_1 => ?_⟩
  have q36 := (xσ41 b_4 mb_4.1).2.2
  refine ⟨⟨⟨by (first | omega | with_reducible assumption | with_reducible exact rng_toInt _ | with_reducible exact rng_wr _ | (unfold rng; omega) | (unfold rng at *; omega) | assumption), by (first | omega | with_reducible assumption | with_reducible exact rng_toInt _ | with_reducible exact rng_wr _ | (unfold rng; omega) | (unfold rng at *; omega) | assumption), by (first | omega | with_reducible assumption | with_reducible exact rng_toInt _ | with_reducible exact rng_wr _ | (unfold rng; omega) | (unfold rng at *; omega) | assumption)⟩, by (first | omega | with_reducible assumption | with_reducible exact rng_toInt _ | with_reducible exact rng_wr _ | (unfold rng; omega) | (unfold rng at *; omega) | assumption), by (first | omega | with_reducible assumption | with_reducible exact rng_toInt _ | with_reducible exact rng_wr _ | (unfold rng; omega) | (unfold rng at *; omega) | assumption)⟩, ?_⟩
  intro σ44 eσ44
  have xσ44 : Ext σ41 σ44 := by rw [eσ44]; exact fun _ h => ⟨h, rfl, rfl⟩
  have iσ44 : IV σ44 pl gq ci gr nc ot LLσ33 Nσ33 nuσ33 := by rw [eσ44]; exact iσ41.wC (mb_4.up xσ41) (by omega)
  have fσ44 : Fx [1, 2, 3, 4, 5, 6, 7, 64, 512, 513, 514, 6464] gr σ σ44 := fσ41.tr (Sk.fx (by rw [eσ44]; exact Sk.cpJ (fun _ => by rw [fcdA (mb_4.up xσ41) (by decide)]; decide)))
  have kp37 : gI σ44 c_σ33 4 = gI σ41 c_σ33 4 := by rw [eσ44]; rfl
  have kp38 : gI σ44 o 3 = gI σ41 o 3 := by rw [eσ44]; rfl
  have kp39 : gI σ44 o 7 = gI σ41 o 7 := by rw [eσ44]; rfl
  have kp40 : gP σ44 J 0 = gP σ41 J 0 := by rw [eσ44]; rfl
  have kp41 : gP σ44 b (gI σ o 7).toNat = gP σ41 b (gI σ o 7).toNat := by rw [eσ44]; rfl
  have kp42 : gP σ44 c_σ33 0 = gP σ41 c_σ33 0 := by rw [eσ44]; rfl
  have kp43 : gP σ44 f 0 = gP σ41 f 0 := by rw [eσ44]; rfl
  have kp44 : gP σ44 s 0 = gP σ41 s 0 := by rw [eσ44]; rfl
  have kp45 : gP σ44 th 0 = gP σ41 th 0 := by rw [eσ44]; rfl
  have kp46 : gP σ44 th 5 = gP σ41 th 5 := by rw [eσ44]; rfl
  obtain ⟨b_6, eb_6, fb_6⟩ := P_11_2 iσ44.1 (kth.up (xσ30.trans (xσ33.trans (xσ37.trans (xσ38.trans (xσ41.trans xσ44))))))
  have mb_6 : kO σ44 b_6 1 := iσ44.1.kd (kth.up (xσ30.trans (xσ33.trans (xσ37.trans (xσ38.trans (xσ41.trans xσ44)))))) rfl eb_6 rfl
  refine ⟨b_6, eb_6, fun kk_b_6 => ?_⟩
  refine i_X1_add (G0 := 14) iσ44 mb_6 rfl (krc_σ33.up (xσ37.trans (xσ38.trans (xσ41.trans xσ44)))) (by omega) (by (first | omega | with_reducible assumption | with_reducible exact rng_toInt _ | with_reducible exact rng_wr _ | (unfold rng; omega) | (unfold rng at *; omega) | assumption)) (by (first | omega | with_reducible assumption | with_reducible exact rng_toInt _ | with_reducible exact rng_wr _ | (unfold rng; omega) | (unfold rng at *; omega) | assumption)) (plc_y (G := 14) (by omega) (by decide)) (no50 (by decide)) (no13 (by decide)) (fun N9 n1 _ => iσ44.2.2.1.made (by decide) n1) (fun σ45 LLσ45 Nσ45 nuσ45 _ iσ45 cσ45 uσ45 hσ45 pσ45 => ?_)
  intro xσ45
  have fσ45 : Fx [1, 2, 3, 4, 5, 6, 7, 64, 512, 513, 514, 6464] gr σ σ45 := fσ44.tr (cσ45.mo (by decide))
  have hnσ45 : Hn (gD σ) [14] [] gq LL LLσ45 N Nσ45 := hnσ33.go hσ45 (fun d hd => (fσ44.1 d hd).1) (by first | decide | exact fun _ h => h | (simp; done) | (intro x hx; simp only [List.mem_cons, List.mem_nil_iff, or_false] at hx ⊢; omega)) (fun d hd => by rw [List.mem_singleton.mp hd]; exact lo_c_σ33)
  have nσ45_3 := hσ45.2.2 3 (by first | decide | (simp; done) | (simp only [List.mem_cons, List.mem_nil_iff, or_false, not_or]; omega)) (by first | decide | omega) (by first | decide | omega) (by first | decide | omega)
  have nσ45_5 := hσ45.2.2 5 (by first | decide | (simp; done) | (simp only [List.mem_cons, List.mem_nil_iff, or_false, not_or]; omega)) (by first | decide | omega) (by first | decide | omega) (by first | decide | omega)
  have nσ45_44 := hσ45.2.2 44 (by first | decide | (simp; done) | (simp only [List.mem_cons, List.mem_nil_iff, or_false, not_or]; omega)) (by first | decide | omega) (by first | decide | omega) (by first | decide | omega)
  have nσ45_74 := hσ45.2.2 74 (by first | decide | (simp; done) | (simp only [List.mem_cons, List.mem_nil_iff, or_false, not_or]; omega)) (by first | decide | omega) (by first | decide | omega) (by first | decide | omega)
  have nσ45_11 := hσ45.2.2 11 (by first | decide | (simp; done) | (simp only [List.mem_cons, List.mem_nil_iff, or_false, not_or]; omega)) (by first | decide | omega) (by first | decide | omega) (by first | decide | omega)
  have nσ45_12 := hσ45.2.2 12 (by first | decide | (simp; done) | (simp only [List.mem_cons, List.mem_nil_iff, or_false, not_or]; omega)) (by first | decide | omega) (by first | decide | omega) (by first | decide | omega)
  have nσ45_41 := hσ45.2.2 41 (by first | decide | (simp; done) | (simp only [List.mem_cons, List.mem_nil_iff, or_false, not_or]; omega)) (by first | decide | omega) (by first | decide | omega) (by first | decide | omega)
  have nσ45_42 := hσ45.2.2 42 (by first | decide | (simp; done) | (simp only [List.mem_cons, List.mem_nil_iff, or_false, not_or]; omega)) (by first | decide | omega) (by first | decide | omega) (by first | decide | omega)
  have nσ45_13 := hσ45.2.2 13 (by first | decide | (simp; done) | (simp only [List.mem_cons, List.mem_nil_iff, or_false, not_or]; omega)) (by first | decide | omega) (by first | decide | omega) (by first | decide | omega)
  have nu_σ45 : NU nu nuσ45 := nu_σ33.tr uσ45
  have uσ45_0 := uσ45.1 0 (by decide)
  have uσ45_1 := uσ45.1 1 (by decide)
  have uσ45_2 := uσ45.2
  have uσ45_5 := uσ45.1 5 (by decide)
  have uσ45_15 := uσ45.1 15 (by decide)
  have uσ45_16 := uσ45.1 16 (by decide)
  have kp47 : gI σ45 c_σ33 4 = gI σ44 c_σ33 4 := (cσ45.O (krc_σ33.up (xσ37.trans (xσ38.trans (xσ41.trans xσ44)))) (by decide)).1
  have kp48 : gI σ45 o 3 = gI σ44 o 3 := (cσ45.O (ko.up (xσ30.trans (xσ33.trans (xσ37.trans (xσ38.trans (xσ41.trans xσ44)))))) (by decide)).1
  have kp49 : gI σ45 o 7 = gI σ44 o 7 := (cσ45.O (ko.up (xσ30.trans (xσ33.trans (xσ37.trans (xσ38.trans (xσ41.trans xσ44)))))) (by decide)).1
  have kp50 : gP σ45 J 0 = gP σ44 J 0 := (cσ45.O (kJ.up (xσ30.trans (xσ33.trans (xσ37.trans (xσ38.trans (xσ41.trans xσ44)))))) (by decide)).2.1
  have kp51 : gP σ45 b (gI σ o 7).toNat = gP σ44 b (gI σ o 7).toNat := (cσ45.A (mb.up (xσ30.trans (xσ33.trans (xσ37.trans (xσ38.trans (xσ41.trans xσ44)))))) (by decide)).2.1
  have kp52 : gP σ45 c_σ33 0 = gP σ44 c_σ33 0 := (cσ45.O (krc_σ33.up (xσ37.trans (xσ38.trans (xσ41.trans xσ44)))) (by decide)).2.1
  have kp53 : gP σ45 f 0 = gP σ44 f 0 := (cσ45.O (kf.up (xσ30.trans (xσ33.trans (xσ37.trans (xσ38.trans (xσ41.trans xσ44)))))) (by decide)).2.1
  have kp54 : gP σ45 s 0 = gP σ44 s 0 := (cσ45.O (ks.up (xσ30.trans (xσ33.trans (xσ37.trans (xσ38.trans (xσ41.trans xσ44)))))) (by decide)).2.1
  have kp55 : gP σ45 th 0 = gP σ44 th 0 := (cσ45.O (kth.up (xσ30.trans (xσ33.trans (xσ37.trans (xσ38.trans (xσ41.trans xσ44)))))) (by decide)).2.1
  have kp56 : gP σ45 th 2 = gP σ44 th 2 := (cσ45.O (kth.up (xσ30.trans (xσ33.trans (xσ37.trans (xσ38.trans (xσ41.trans xσ44)))))) (by decide)).2.1
  have kp57 : gP σ45 th 5 = gP σ44 th 5 := (cσ45.O (kth.up (xσ30.trans (xσ33.trans (xσ37.trans (xσ38.trans (xσ41.trans xσ44)))))) (by decide)).2.1
  exact hQ σ45 LLσ45 Nσ45 nuσ45 () iσ45 fσ45 (nu_σ45) hnσ45 (by (first | omega | with_reducible assumption | with_reducible exact rng_toInt _ | with_reducible exact rng_wr _ | (unfold rng; omega) | (unfold rng at *; omega) | assumption))
set_option maxHeartbeats 1000000 in
theorem i1_X11_joinRow {σ : Sg} {pl : Nat} {gq ci gr nc : Nat → Nat} {ot : Nat → Nat → Int} {LL : Nat → List Nat} {N nu : Nat → Nat} {th : Nat} {v1 : Option Nat} {v2 : Option Nat} {v3 : Int} {v4 : Option Nat} {J i : Nat} (iσ : IV σ pl gq ci gr nc ot LL N nu) (kth : kO σ th 11) {o : Nat} (hv1 : v1 = some o) (ko : kO σ o 5) {t : Nat} (hv2 : v2 = some t) (kt : kO σ t 10) {c : Nat} (hv4 : v4 = some c) (kc : kO σ c 0) (hq : gq th = 1) (hf : ∀ x, c ∉ LL x) (h1 : 1 ≤ N 1) (hj : gP σ th 5 = some J) (kJ : kO σ J 4) (hJ : gq J = nc 0) (ho : gq o = 16 * nc 0 + i) (hi : i < nc 1) (hk : ot i 6 = 6) (ht : gq t = 1) (hl : ci t < nu 15) (hto : gI σ t 0 = (i : Int)) (h5 : nu 5 < 24000) (hb : N 14 + N 44 + N 74 + N 1 ≤ 30000) {Q : Sg → Unit → Prop} {X : Sg → String → Prop} (hQ : ∀ (σ' : Sg) (LL' : Nat → List Nat) (N' nu' : Nat → Nat) (r : Unit), IV σ' pl gq ci gr nc ot LL' N' nu' → Fx [1, 2, 3, 4, 5, 6, 7, 64, 512, 513, 514, 708, 6464] gr σ σ' → NU nu nu' → Hn (gD σ) [14, 11, 12] [c] gq LL LL' N N' → (N' 1 + 1 = N 1 ∧ N' 14 ≤ N 14 + 4001) → Q σ' r) (hX : ∀ (σ' : Sg) (LL' : Nat → List Nat) (N' nu' : Nat → Nat) (E : String), IV σ' pl gq ci gr nc ot LL' N' nu' → Fx [1, 2, 3, 4, 5, 6, 7, 64, 512, 513, 514, 708, 6464] gr σ σ' → NX nu nu' → ((N' 1 ≤ N 1 + 0 ∧ N' 5 = N 5 ∧ N' 3 = N 3 ∧ N' 44 = N 44 ∧ N' 74 = N 74) ∧ NZ N N' ∧ E = "java/lang/IllegalStateException") → X σ' E) : wp_X11_joinRow th v1 v2 v3 v4 σ Q X := by
  have fσ : Fx [1, 2, 3, 4, 5, 6, 7, 64, 512, 513, 514, 708, 6464] gr σ σ := Fx.rf
  have hnσ : Hn (gD σ) [14, 11, 12] [c] gq LL LL N N := Hn.rf
  have lo_c : Lo [c] (gD σ) LL c := Or.inl (by simp)
  have q1 := I_10_0 iσ.1 kt
  have ok := iσ.opok hi
  have q7 := iσ.op ko ho hi 7 (by decide)
  have h7 : 0 ≤ ot i 7 := ok.2.2.2.1 (by omega)
  unfold wp_X11_joinRow
  unfold w_X11_joinRow_0
  refine ⟨c, hv4, fun kk_c => ?_⟩
  by_cases hc2 : v3 ≠ 0
  · rw [if_pos hc2]
    unfold w_X11_joinRow_18
    refine ⟨o, hv1, fun kk_o => ?_⟩
    unfold w_X11_joinRow_22
    obtain ⟨b, eb, fb⟩ := P_0_0 iσ.1 kc
    have mb : kO σ b 101 := iσ.1.kd kc rfl eb rfl
    refine ⟨b, eb, fun kk_b => ?_⟩
    have q3 := I_5_14 iσ.1 ko
    refine ⟨⟨by (first | omega | with_reducible assumption | with_reducible exact rng_toInt _ | with_reducible exact rng_wr _ | (unfold rng; omega) | (unfold rng at *; omega) | assumption), by (first | omega | with_reducible assumption | with_reducible exact rng_toInt _ | with_reducible exact rng_wr _ | (unfold rng; omega) | (unfold rng at *; omega) | assumption)⟩, ?_⟩
    refine ⟨c, hv4, fun kk_c_1 => ?_⟩
    intro σ30 eσ30
    have xσ30 : Ext σ σ30 := by rw [eσ30]; exact fun _ h => ⟨h, rfl, rfl⟩
    have iσ30 : IV σ30 pl gq ci gr nc ot LL N nu := by rw [eσ30]; exact iσ.wJ kc (by decide)
    have fσ30 : Fx [1, 2, 3, 4, 5, 6, 7, 64, 512, 513, 514, 708, 6464] gr σ σ30 := fσ.tr (Sk.fx (by rw [eσ30]; exact Sk.pJ (by rw [fcdO kc (by decide)]; decide)))
    have kp4 : gI σ30 o 14 = gI σ o 14 := by rw [eσ30]
    have kp5 : gI σ30 t 0 = gI σ t 0 := by rw [eσ30]
    have kp6 : gP σ30 c 0 = gP σ c 0 := by rw [eσ30]
    have kp7 : gP σ30 th 5 = gP σ th 5 := by rw [eσ30]
    rw [if_pos hc2]
    unfold w_X11_joinRow_40
    refine ⟨t, hv2, fun kk_t => ?_⟩
    obtain ⟨b_1, eb_1, fb_1⟩ := P_10_2 iσ30.1 (kt.up xσ30)
    have mb_1 : kO σ30 b_1 1 := iσ30.1.kd (kt.up xσ30) rfl eb_1 rfl
    refine ⟨b_1, eb_1, fun kk_b_1 => ?_⟩
    unfold w_X11_joinRow_47
    have rc9 := iσ30.recs1 (kth.up xσ30) (by omega)
    have q4 := I_11_4 iσ30.1 (kth.up xσ30)
    have le9 : (LL b_1).length ≤ N 11 + N 12 := by rcases (show gq b_1 = 11 ∨ gq b_1 = 12 by omega) with e | e <;> (have := iσ30.le mb_1.1 (by omega); rw [e] at this; omega)
    have Lp49 : ∀ (fu49 : Nat) (τ49 : Sg) (LLt49 : Nat → List Nat) (Nt49 nut49 : Nat → Nat) (v5 : Option Nat), IV τ49 pl gq ci gr nc ot LLt49 Nt49 nut49 → Fx [1, 2, 3, 4, 5, 6, 7, 64, 512, 513, 514, 708, 6464] gr σ τ49 → Ext σ30 τ49 → NU nu nut49 → Hn (gD σ) [14, 11, 12] [c] gq LL LLt49 N Nt49 → (∀ x, c ∉ LLt49 x) → (∃ (A B : List Nat), ((LLt49 b_1 = A ++ B ∧ v5 = B.head?) ∧ Nt49 1 = N 1 ∧ Nt49 14 + B.length ≤ N 14 + 4001 ∧ Nt49 11 = N 11 ∧ Nt49 12 = N 12) ∧ (B.length) < fu49) → wl_X11_joinRow_49 th Q X fu49 τ49 v1 v2 v3 v4 v5 := by
      intro fu49
      induction fu49 with
      | zero => intro _ _ _ _ _ _ _ _ _ _ _ h9; obtain ⟨_, _, _, h9⟩ := h9; omega
      | succ fu49 ih49 =>
        intro τ49 LLt49 Nt49 nut49 v5 iτ49 fτ49 xτ49 nu_τ49 hnτ49 hg_c_τ49 hi49
        obtain ⟨A, B, hi49, hm49⟩ := hi49
        have nτ49_3 := hnτ49.2.2 3 (by first | decide | (simp; done) | (simp only [List.mem_cons, List.mem_nil_iff, or_false, not_or]; omega)) (by first | decide | omega) (by first | decide | omega) (by first | decide | omega)
        have nτ49_5 := hnτ49.2.2 5 (by first | decide | (simp; done) | (simp only [List.mem_cons, List.mem_nil_iff, or_false, not_or]; omega)) (by first | decide | omega) (by first | decide | omega) (by first | decide | omega)
        have nτ49_44 := hnτ49.2.2 44 (by first | decide | (simp; done) | (simp only [List.mem_cons, List.mem_nil_iff, or_false, not_or]; omega)) (by first | decide | omega) (by first | decide | omega) (by first | decide | omega)
        have nτ49_74 := hnτ49.2.2 74 (by first | decide | (simp; done) | (simp only [List.mem_cons, List.mem_nil_iff, or_false, not_or]; omega)) (by first | decide | omega) (by first | decide | omega) (by first | decide | omega)
        have nτ49_41 := hnτ49.2.2 41 (by first | decide | (simp; done) | (simp only [List.mem_cons, List.mem_nil_iff, or_false, not_or]; omega)) (by first | decide | omega) (by first | decide | omega) (by first | decide | omega)
        have nτ49_42 := hnτ49.2.2 42 (by first | decide | (simp; done) | (simp only [List.mem_cons, List.mem_nil_iff, or_false, not_or]; omega)) (by first | decide | omega) (by first | decide | omega) (by first | decide | omega)
        have nτ49_13 := hnτ49.2.2 13 (by first | decide | (simp; done) | (simp only [List.mem_cons, List.mem_nil_iff, or_false, not_or]; omega)) (by first | decide | omega) (by first | decide | omega) (by first | decide | omega)
        have uτ49_0 := nu_τ49.1 0 (by decide)
        have uτ49_1 := nu_τ49.1 1 (by decide)
        have uτ49_2 := nu_τ49.2
        have uτ49_5 := nu_τ49.1 5 (by decide)
        have uτ49_15 := nu_τ49.1 15 (by decide)
        have uτ49_16 := nu_τ49.1 16 (by decide)
        unfold wl_X11_joinRow_49
        have kp9 : gI τ49 o 14 = gI σ o 14 := (fτ49.O ko (by decide)).1
        have kp10 : gI τ49 t 0 = gI σ t 0 := (fτ49.O kt (by decide)).1
        have kp11 : gP τ49 c 0 = gP σ c 0 := (fτ49.O kc (by decide)).2.1
        have kp12 : gP τ49 th 5 = gP σ th 5 := (fτ49.O kth (by decide)).2.1
        have kp13 : gI τ49 o 14 = gI σ30 o 14 := (fτ49.O ko (by decide)).1.trans (fσ30.O ko (by decide)).1.symm
        have kp14 : gI τ49 t 0 = gI σ30 t 0 := (fτ49.O kt (by decide)).1.trans (fσ30.O kt (by decide)).1.symm
        have kp15 : gP τ49 t 2 = gP σ30 t 2 := (fτ49.O kt (by decide)).2.1.trans (fσ30.O kt (by decide)).2.1.symm
        unfold w_X11_joinRow_49
        by_cases hc16 : v5 = none
        · rw [if_pos hc16]
          unfold w_X11_joinRow_171
          refine i1_keep2 iτ49 (kth.up (xσ30.trans xτ49)) hv1 (ko.up (xσ30.trans xτ49)) hv2 (kt.up (xσ30.trans xτ49)) hv4 (kc.up (xσ30.trans xτ49)) (by (first | omega | with_reducible assumption | with_reducible exact rng_toInt _ | with_reducible exact rng_wr _ | (unfold rng; omega) | (unfold rng at *; omega) | assumption)) (by (first | omega | with_reducible assumption | with_reducible exact rng_toInt _ | with_reducible exact rng_wr _ | (unfold rng; omega) | (unfold rng at *; omega) | assumption)) (by (first | omega | with_reducible assumption | with_reducible exact rng_toInt _ | with_reducible exact rng_wr _ | (unfold rng; omega) | (unfold rng at *; omega) | assumption)) (kp12.trans hj) (kJ.up (xσ30.trans xτ49)) (by (first | omega | with_reducible assumption | with_reducible exact rng_toInt _ | with_reducible exact rng_wr _ | (unfold rng; omega) | (unfold rng at *; omega) | assumption)) (by (first | omega | with_reducible assumption | with_reducible exact rng_toInt _ | with_reducible exact rng_wr _ | (unfold rng; omega) | (unfold rng at *; omega) | assumption)) (by (first | omega | with_reducible assumption | with_reducible exact rng_toInt _ | with_reducible exact rng_wr _ | (unfold rng; omega) | (unfold rng at *; omega) | assumption)) (by (first | omega | with_reducible assumption | with_reducible exact rng_toInt _ | with_reducible exact rng_wr _ | (unfold rng; omega) | (unfold rng at *; omega) | assumption)) (by (first | omega | with_reducible assumption | with_reducible exact rng_toInt _ | with_reducible exact rng_wr _ | (unfold rng; omega) | (unfold rng at *; omega) | assumption)) (by (first | omega | with_reducible assumption | with_reducible exact rng_toInt _ | with_reducible exact rng_wr _ | (unfold rng; omega) | (unfold rng at *; omega) | assumption)) (by (first | omega | with_reducible assumption | with_reducible exact rng_toInt _ | with_reducible exact rng_wr _ | (unfold rng; omega) | (unfold rng at *; omega) | assumption)) (by (first | omega | with_reducible assumption | with_reducible exact rng_toInt _ | with_reducible exact rng_wr _ | (unfold rng; omega) | (unfold rng at *; omega) | assumption)) (fun σ47 LLσ47 Nσ47 nuσ47 _ iσ47 cσ47 uσ47 hσ47 pσ47 => ?_) (fun σx LLx Nx nux E ix cx ux px => hX σx LLx Nx nux E ix (fτ49.tr (cx.mo (by decide))) (nu_τ49.x ux) (by first | exact px | exact ⟨by have := px.1; omega, (Hn.nz hnτ49 (by first | decide | (intro x hx; simp only [List.mem_cons, List.mem_nil_iff, or_false] at hx; omega))).tr px.2.1, px.2.2⟩ | (first | omega | with_reducible assumption | with_reducible exact rng_toInt _ | with_reducible exact rng_wr _ | (unfold rng; omega) | (unfold rng at *; omega) | assumption)))
          intro xσ47
          have fσ47 : Fx [1, 2, 3, 4, 5, 6, 7, 64, 512, 513, 514, 708, 6464] gr σ σ47 := fτ49.tr (cσ47.mo (by decide))
          have hnσ47 : Hn (gD σ) [14, 11, 12] [c] gq LL LLσ47 N Nσ47 := hnτ49.go hσ47 (fun d hd => (fτ49.1 d hd).1) (by first | decide | exact fun _ h => h | (simp; done) | (intro x hx; simp only [List.mem_cons, List.mem_nil_iff, or_false] at hx ⊢; omega)) (fun d hd => by rw [List.mem_singleton.mp hd]; exact lo_c)
          have nσ47_3 := hσ47.2.2 3 (by first | decide | (simp; done) | (simp only [List.mem_cons, List.mem_nil_iff, or_false, not_or]; omega)) (by first | decide | omega) (by first | decide | omega) (by first | decide | omega)
          have nσ47_5 := hσ47.2.2 5 (by first | decide | (simp; done) | (simp only [List.mem_cons, List.mem_nil_iff, or_false, not_or]; omega)) (by first | decide | omega) (by first | decide | omega) (by first | decide | omega)
          have nσ47_14 := hσ47.2.2 14 (by first | decide | (simp; done) | (simp only [List.mem_cons, List.mem_nil_iff, or_false, not_or]; omega)) (by first | decide | omega) (by first | decide | omega) (by first | decide | omega)
          have nσ47_44 := hσ47.2.2 44 (by first | decide | (simp; done) | (simp only [List.mem_cons, List.mem_nil_iff, or_false, not_or]; omega)) (by first | decide | omega) (by first | decide | omega) (by first | decide | omega)
          have nσ47_74 := hσ47.2.2 74 (by first | decide | (simp; done) | (simp only [List.mem_cons, List.mem_nil_iff, or_false, not_or]; omega)) (by first | decide | omega) (by first | decide | omega) (by first | decide | omega)
          have nσ47_41 := hσ47.2.2 41 (by first | decide | (simp; done) | (simp only [List.mem_cons, List.mem_nil_iff, or_false, not_or]; omega)) (by first | decide | omega) (by first | decide | omega) (by first | decide | omega)
          have nσ47_42 := hσ47.2.2 42 (by first | decide | (simp; done) | (simp only [List.mem_cons, List.mem_nil_iff, or_false, not_or]; omega)) (by first | decide | omega) (by first | decide | omega) (by first | decide | omega)
          have nσ47_13 := hσ47.2.2 13 (by first | decide | (simp; done) | (simp only [List.mem_cons, List.mem_nil_iff, or_false, not_or]; omega)) (by first | decide | omega) (by first | decide | omega) (by first | decide | omega)
          have nu_σ47 : NU nu nuσ47 := nu_τ49.tr uσ47
          have uσ47_0 := uσ47.1 0 (by decide)
          have uσ47_1 := uσ47.1 1 (by decide)
          have uσ47_2 := uσ47.2
          have uσ47_5 := uσ47.1 5 (by decide)
          have uσ47_15 := uσ47.1 15 (by decide)
          have uσ47_16 := uσ47.1 16 (by decide)
          have kp17 : gI σ47 o 14 = gI τ49 o 14 := (cσ47.O (ko.up (xσ30.trans xτ49)) (by decide)).1
          have kp18 : gI σ47 t 0 = gI τ49 t 0 := (cσ47.O (kt.up (xσ30.trans xτ49)) (by decide)).1
          have kp19 : gP σ47 c 0 = gP τ49 c 0 := (cσ47.O (kc.up (xσ30.trans xτ49)) (by decide)).2.1
          have kp20 : gP σ47 t 2 = gP τ49 t 2 := (cσ47.O (kt.up (xσ30.trans xτ49)) (by decide)).2.1
          have kp21 : gP σ47 th 5 = gP τ49 th 5 := (cσ47.O (kth.up (xσ30.trans xτ49)) (by decide)).2.1
          exact hQ σ47 LLσ47 Nσ47 nuσ47 () iσ47 fσ47 (nu_σ47) hnσ47 (by (first | omega | with_reducible assumption | with_reducible exact rng_toInt _ | with_reducible exact rng_wr _ | (unfold rng; omega) | (unfold rng at *; omega) | assumption))
        · rw [if_neg hc16]
          unfold w_X11_joinRow_54
          rw [if_pos hc2]
          unfold w_X11_joinRow_72
          refine ⟨c, hv4, fun kk_c_2 => ?_⟩
          obtain ⟨b_2, eb_2⟩ := Option.ne_none_iff_exists'.mp hc16
          refine ⟨b_2, eb_2, fun kk_b_2 => ?_⟩
          unfold w_X11_joinRow_83
          refine ⟨b_2, eb_2, fun kk_b_2_1 => ?_⟩
          refine ⟨c, hv4, fun kk_c_3 => ?_⟩
          by_cases hc23 : gJ τ49 b_2 7 ≠ gJ τ49 c 7
          · rw [if_pos hc23]
            unfold w_X11_joinRow_161
            obtain ⟨A1, B1, p1, p2, p3, p4⟩ := it_step iτ49 (mb_1.up xτ49) ⟨by first | exact hi49.1.1 | (rw [hLc]; exact hi49.1.1), hi49.1.2⟩ eb_2
            refine ⟨b_2, eb_2, fun kk_b_2_2 => ?_⟩
            exact ih49 τ49 LLt49 Nt49 nut49 (gP τ49 b_2 1) iτ49 fτ49 xτ49 nu_τ49 hnτ49 hg_c_τ49 (⟨A1, B1, ⟨⟨p1, p2⟩, by omega, by omega, by omega, by omega⟩, by omega⟩)
          · rw [if_neg hc23]
            have hc23q := Classical.not_not.mp hc23
            unfold w_X11_joinRow_99
            refine ⟨o, hv1, fun kk_o_1 => ?_⟩
            have q25 := I_5_15 iτ49.1 (ko.up (xσ30.trans xτ49))
            by_cases hc24 : (gJ τ49 c 5 - gJ τ49 b_2 5) < (Int64.ofInt (gI τ49 o 15))
            · rw [if_pos hc24]
              unfold w_X11_joinRow_161
              obtain ⟨A1, B1, p1, p2, p3, p4⟩ := it_step iτ49 (mb_1.up xτ49) ⟨by first | exact hi49.1.1 | (rw [hLc]; exact hi49.1.1), hi49.1.2⟩ eb_2
              refine ⟨b_2, eb_2, fun kk_b_2_3 => ?_⟩
              exact ih49 τ49 LLt49 Nt49 nut49 (gP τ49 b_2 1) iτ49 fτ49 xτ49 nu_τ49 hnτ49 hg_c_τ49 (⟨A1, B1, ⟨⟨p1, p2⟩, by omega, by omega, by omega, by omega⟩, by omega⟩)
            · rw [if_neg hc24]
              unfold w_X11_joinRow_110
              refine ⟨o, hv1, fun kk_o_2 => ?_⟩
              have q27 := I_5_16 iτ49.1 (ko.up (xσ30.trans xτ49))
              by_cases hc26 : (gJ τ49 c 5 - gJ τ49 b_2 5) > (Int64.ofInt (gI τ49 o 16))
              · rw [if_pos hc26]
                unfold w_X11_joinRow_161
                obtain ⟨A1, B1, p1, p2, p3, p4⟩ := it_step iτ49 (mb_1.up xτ49) ⟨by first | exact hi49.1.1 | (rw [hLc]; exact hi49.1.1), hi49.1.2⟩ eb_2
                refine ⟨b_2, eb_2, fun kk_b_2_4 => ?_⟩
                exact ih49 τ49 LLt49 Nt49 nut49 (gP τ49 b_2 1) iτ49 fτ49 xτ49 nu_τ49 hnτ49 hg_c_τ49 (⟨A1, B1, ⟨⟨p1, p2⟩, by omega, by omega, by omega, by omega⟩, by omega⟩)
              · rw [if_neg hc26]
                unfold w_X11_joinRow_121
                rw [if_pos hc2]
                unfold w_X11_joinRow_132
                unfold w_X11_joinRow_134
                rw [if_pos hc2]
                unfold w_X11_joinRow_143
                unfold w_X11_joinRow_145
                refine ⟨b_2, eb_2, fun kk_b_2_5 => ?_⟩
                refine ⟨c, hv4, fun kk_c_4 => ?_⟩
                refine i_J9_max_f86c9 iτ49 (fun r42 pσ41 => ?_)
                intro xσ41
                refine i1_X11_addPair iτ49 (kth.up (xσ30.trans xτ49)) hv1 (ko.up (xσ30.trans xτ49)) eb_2 kk_b_2 hv4 (kc.up (xσ30.trans xτ49)) (by (first | omega | with_reducible assumption | with_reducible exact rng_toInt _ | with_reducible exact rng_wr _ | (unfold rng; omega) | (unfold rng at *; omega) | assumption)) (kp12.trans hj) (kJ.up (xσ30.trans xτ49)) (by (first | omega | with_reducible assumption | with_reducible exact rng_toInt _ | with_reducible exact rng_wr _ | (unfold rng; omega) | (unfold rng at *; omega) | assumption)) (by (first | omega | with_reducible assumption | with_reducible exact rng_toInt _ | with_reducible exact rng_wr _ | (unfold rng; omega) | (unfold rng at *; omega) | assumption)) (by (first | omega | with_reducible assumption | with_reducible exact rng_toInt _ | with_reducible exact rng_wr _ | (unfold rng; omega) | (unfold rng at *; omega) | assumption)) (by omega) (by (first | omega | with_reducible assumption | with_reducible exact rng_toInt _ | with_reducible exact rng_wr _ | (unfold rng; omega) | (unfold rng at *; omega) | assumption)) (by (first | omega | with_reducible assumption | with_reducible exact rng_toInt _ | with_reducible exact rng_wr _ | (unfold rng; omega) | (unfold rng at *; omega) | assumption)) (by rcases pσ41 with e9 | e9 <;> rw [e9]; exact iτ49.t5 kk_b_2; exact iτ49.t5 (kc.up (xσ30.trans xτ49))) (fun σ43 LLσ43 Nσ43 nuσ43 _ iσ43 cσ43 uσ43 hσ43 pσ43 => ?_) (fun σx LLx Nx nux E ix cx ux px => hX σx LLx Nx nux E ix (fτ49.tr (cx.mo (by decide))) (nu_τ49.x ux) (by first | exact px | exact ⟨by have := px.1; omega, (Hn.nz hnτ49 (by first | decide | (intro x hx; simp only [List.mem_cons, List.mem_nil_iff, or_false] at hx; omega))).tr px.2.1, px.2.2⟩ | (first | omega | with_reducible assumption | with_reducible exact rng_toInt _ | with_reducible exact rng_wr _ | (unfold rng; omega) | (unfold rng at *; omega) | assumption)))
                intro xσ43
                have fσ43 : Fx [1, 2, 3, 4, 5, 6, 7, 64, 512, 513, 514, 708, 6464] gr σ σ43 := fτ49.tr (cσ43.mo (by decide))
                have hnσ43 : Hn (gD σ) [14, 11, 12] [c] gq LL LLσ43 N Nσ43 := hnτ49.go hσ43 (fun d hd => (fτ49.1 d hd).1) (by first | decide | exact fun _ h => h | (simp; done) | (intro x hx; simp only [List.mem_cons, List.mem_nil_iff, or_false] at hx ⊢; omega)) (fun d hd => absurd hd (by simp))
                have hg_c_σ43 : ∀ x, c ∉ LLσ43 x := hσ43.2.1 c (kc.up (xσ30.trans xτ49)).1 (by simp) hg_c_τ49
                have nσ43_3 := hσ43.2.2 3 (by first | decide | (simp; done) | (simp only [List.mem_cons, List.mem_nil_iff, or_false, not_or]; omega)) (by first | decide | omega) (by first | decide | omega) (by first | decide | omega)
                have nσ43_5 := hσ43.2.2 5 (by first | decide | (simp; done) | (simp only [List.mem_cons, List.mem_nil_iff, or_false, not_or]; omega)) (by first | decide | omega) (by first | decide | omega) (by first | decide | omega)
                have nσ43_44 := hσ43.2.2 44 (by first | decide | (simp; done) | (simp only [List.mem_cons, List.mem_nil_iff, or_false, not_or]; omega)) (by first | decide | omega) (by first | decide | omega) (by first | decide | omega)
                have nσ43_74 := hσ43.2.2 74 (by first | decide | (simp; done) | (simp only [List.mem_cons, List.mem_nil_iff, or_false, not_or]; omega)) (by first | decide | omega) (by first | decide | omega) (by first | decide | omega)
                have nσ43_11 := hσ43.2.2 11 (by first | decide | (simp; done) | (simp only [List.mem_cons, List.mem_nil_iff, or_false, not_or]; omega)) (by first | decide | omega) (by first | decide | omega) (by first | decide | omega)
                have nσ43_12 := hσ43.2.2 12 (by first | decide | (simp; done) | (simp only [List.mem_cons, List.mem_nil_iff, or_false, not_or]; omega)) (by first | decide | omega) (by first | decide | omega) (by first | decide | omega)
                have nσ43_41 := hσ43.2.2 41 (by first | decide | (simp; done) | (simp only [List.mem_cons, List.mem_nil_iff, or_false, not_or]; omega)) (by first | decide | omega) (by first | decide | omega) (by first | decide | omega)
                have nσ43_42 := hσ43.2.2 42 (by first | decide | (simp; done) | (simp only [List.mem_cons, List.mem_nil_iff, or_false, not_or]; omega)) (by first | decide | omega) (by first | decide | omega) (by first | decide | omega)
                have nσ43_13 := hσ43.2.2 13 (by first | decide | (simp; done) | (simp only [List.mem_cons, List.mem_nil_iff, or_false, not_or]; omega)) (by first | decide | omega) (by first | decide | omega) (by first | decide | omega)
                have nu_σ43 : NU nu nuσ43 := nu_τ49.tr uσ43
                have uσ43_0 := uσ43.1 0 (by decide)
                have uσ43_1 := uσ43.1 1 (by decide)
                have uσ43_2 := uσ43.2
                have uσ43_5 := uσ43.1 5 (by decide)
                have uσ43_15 := uσ43.1 15 (by decide)
                have uσ43_16 := uσ43.1 16 (by decide)
                have kp30 : gI σ43 o 14 = gI τ49 o 14 := (cσ43.O (ko.up (xσ30.trans xτ49)) (by decide)).1
                have kp31 : gI σ43 o 15 = gI τ49 o 15 := (cσ43.O (ko.up (xσ30.trans xτ49)) (by decide)).1
                have kp32 : gI σ43 o 16 = gI τ49 o 16 := (cσ43.O (ko.up (xσ30.trans xτ49)) (by decide)).1
                have kp33 : gI σ43 t 0 = gI τ49 t 0 := (cσ43.O (kt.up (xσ30.trans xτ49)) (by decide)).1
                have kp34 : gP σ43 c 0 = gP τ49 c 0 := (cσ43.O (kc.up (xσ30.trans xτ49)) (by decide)).2.1
                have kp35 : gP σ43 t 2 = gP τ49 t 2 := (cσ43.O (kt.up (xσ30.trans xτ49)) (by decide)).2.1
                have kp36 : gP σ43 th 5 = gP τ49 th 5 := (cσ43.O (kth.up (xσ30.trans xτ49)) (by decide)).2.1
                have hLc := hσ43.1 b_1 (mb_1.up xτ49).1 (by first | (simp; done) | (simp only [List.mem_cons, List.mem_nil_iff, or_false, not_or]; omega)) (by omega)
                unfold w_X11_joinRow_161
                obtain ⟨A1, B1, p1, p2, p3, p4⟩ := it_step iσ43 (mb_1.up (xτ49.trans xσ43)) ⟨by first | exact hi49.1.1 | (rw [hLc]; exact hi49.1.1), hi49.1.2⟩ eb_2
                refine ⟨b_2, eb_2, fun kk_b_2_6 => ?_⟩
                exact ih49 σ43 LLσ43 Nσ43 nuσ43 (gP σ43 b_2 1) iσ43 fσ43 (xτ49.trans xσ43) nu_σ43 hnσ43 hg_c_σ43 (⟨A1, B1, ⟨⟨p1, p2⟩, by omega, by omega, by omega, by omega⟩, by omega⟩)
    exact ⟨(LL b_1).length + 1, Lp49 _ σ30 LL N nu _ iσ30 fσ30 (Ext.rfl' _) NU.rf hnσ hf (⟨[], LL b_1, ⟨⟨by simp, iσ30.first mb_1⟩, rfl, by omega, rfl, rfl⟩, Nat.lt_succ_self _⟩)⟩
  · rw [if_neg hc2]
    have hc2q := Classical.not_not.mp hc2
    unfold w_X11_joinRow_11
    refine ⟨o, hv1, fun kk_o_3 => ?_⟩
    unfold w_X11_joinRow_22
    obtain ⟨b_3, eb_3, fb_3⟩ := P_0_0 iσ.1 kc
    have mb_3 : kO σ b_3 101 := iσ.1.kd kc rfl eb_3 rfl
    refine ⟨b_3, eb_3, fun kk_b_3 => ?_⟩
    have q37 := I_5_13 iσ.1 ko
    refine ⟨⟨by (first | omega | with_reducible assumption | with_reducible exact rng_toInt _ | with_reducible exact rng_wr _ | (unfold rng; omega) | (unfold rng at *; omega) | assumption), by (first | omega | with_reducible assumption | with_reducible exact rng_toInt _ | with_reducible exact rng_wr _ | (unfold rng; omega) | (unfold rng at *; omega) | assumption)⟩, ?_⟩
    refine ⟨c, hv4, fun kk_c_5 => ?_⟩
    intro σ30_1 eσ30_1
    have xσ30_1 : Ext σ σ30_1 := by rw [eσ30_1]; exact fun _ h => ⟨h, rfl, rfl⟩
    have iσ30_1 : IV σ30_1 pl gq ci gr nc ot LL N nu := by rw [eσ30_1]; exact iσ.wJ kc (by decide)
    have fσ30_1 : Fx [1, 2, 3, 4, 5, 6, 7, 64, 512, 513, 514, 708, 6464] gr σ σ30_1 := fσ.tr (Sk.fx (by rw [eσ30_1]; exact Sk.pJ (by rw [fcdO kc (by decide)]; decide)))
    have kp38 : gI σ30_1 o 13 = gI σ o 13 := by rw [eσ30_1]
    have kp39 : gI σ30_1 t 0 = gI σ t 0 := by rw [eσ30_1]
    have kp40 : gP σ30_1 c 0 = gP σ c 0 := by rw [eσ30_1]
    have kp41 : gP σ30_1 th 5 = gP σ th 5 := by rw [eσ30_1]
    rw [if_neg hc2]
    unfold w_X11_joinRow_30
    refine ⟨t, hv2, fun kk_t_1 => ?_⟩
    obtain ⟨b_4, eb_4, fb_4⟩ := P_10_3 iσ30_1.1 (kt.up xσ30_1)
    have mb_4 : kO σ30_1 b_4 1 := iσ30_1.1.kd (kt.up xσ30_1) rfl eb_4 rfl
    refine ⟨b_4, eb_4, fun kk_b_4 => ?_⟩
    unfold w_X11_joinRow_47
    have rc9 := iσ30_1.recs1 (kth.up xσ30_1) (by omega)
    have q4 := I_11_4 iσ30_1.1 (kth.up xσ30_1)
    have le9 : (LL b_4).length ≤ N 11 + N 12 := by rcases (show gq b_4 = 11 ∨ gq b_4 = 12 by omega) with e | e <;> (have := iσ30_1.le mb_4.1 (by omega); rw [e] at this; omega)
    have Lp49 : ∀ (fu49 : Nat) (τ49 : Sg) (LLt49 : Nat → List Nat) (Nt49 nut49 : Nat → Nat) (v5 : Option Nat), IV τ49 pl gq ci gr nc ot LLt49 Nt49 nut49 → Fx [1, 2, 3, 4, 5, 6, 7, 64, 512, 513, 514, 708, 6464] gr σ τ49 → Ext σ30_1 τ49 → NU nu nut49 → Hn (gD σ) [14, 11, 12] [c] gq LL LLt49 N Nt49 → (∀ x, c ∉ LLt49 x) → (∃ (A B : List Nat), ((LLt49 b_4 = A ++ B ∧ v5 = B.head?) ∧ Nt49 1 = N 1 ∧ Nt49 14 + B.length ≤ N 14 + 4001 ∧ Nt49 11 = N 11 ∧ Nt49 12 = N 12) ∧ (B.length) < fu49) → wl_X11_joinRow_49 th Q X fu49 τ49 v1 v2 v3 v4 v5 := by
      intro fu49
      induction fu49 with
      | zero => intro _ _ _ _ _ _ _ _ _ _ _ h9; obtain ⟨_, _, _, h9⟩ := h9; omega
      | succ fu49 ih49 =>
        intro τ49 LLt49 Nt49 nut49 v5 iτ49 fτ49 xτ49 nu_τ49 hnτ49 hg_c_τ49 hi49
        obtain ⟨A, B, hi49, hm49⟩ := hi49
        have nτ49_3 := hnτ49.2.2 3 (by first | decide | (simp; done) | (simp only [List.mem_cons, List.mem_nil_iff, or_false, not_or]; omega)) (by first | decide | omega) (by first | decide | omega) (by first | decide | omega)
        have nτ49_5 := hnτ49.2.2 5 (by first | decide | (simp; done) | (simp only [List.mem_cons, List.mem_nil_iff, or_false, not_or]; omega)) (by first | decide | omega) (by first | decide | omega) (by first | decide | omega)
        have nτ49_44 := hnτ49.2.2 44 (by first | decide | (simp; done) | (simp only [List.mem_cons, List.mem_nil_iff, or_false, not_or]; omega)) (by first | decide | omega) (by first | decide | omega) (by first | decide | omega)
        have nτ49_74 := hnτ49.2.2 74 (by first | decide | (simp; done) | (simp only [List.mem_cons, List.mem_nil_iff, or_false, not_or]; omega)) (by first | decide | omega) (by first | decide | omega) (by first | decide | omega)
        have nτ49_41 := hnτ49.2.2 41 (by first | decide | (simp; done) | (simp only [List.mem_cons, List.mem_nil_iff, or_false, not_or]; omega)) (by first | decide | omega) (by first | decide | omega) (by first | decide | omega)
        have nτ49_42 := hnτ49.2.2 42 (by first | decide | (simp; done) | (simp only [List.mem_cons, List.mem_nil_iff, or_false, not_or]; omega)) (by first | decide | omega) (by first | decide | omega) (by first | decide | omega)
        have nτ49_13 := hnτ49.2.2 13 (by first | decide | (simp; done) | (simp only [List.mem_cons, List.mem_nil_iff, or_false, not_or]; omega)) (by first | decide | omega) (by first | decide | omega) (by first | decide | omega)
        have uτ49_0 := nu_τ49.1 0 (by decide)
        have uτ49_1 := nu_τ49.1 1 (by decide)
        have uτ49_2 := nu_τ49.2
        have uτ49_5 := nu_τ49.1 5 (by decide)
        have uτ49_15 := nu_τ49.1 15 (by decide)
        have uτ49_16 := nu_τ49.1 16 (by decide)
        unfold wl_X11_joinRow_49
        have kp43 : gI τ49 o 13 = gI σ o 13 := (fτ49.O ko (by decide)).1
        have kp44 : gI τ49 t 0 = gI σ t 0 := (fτ49.O kt (by decide)).1
        have kp45 : gP τ49 c 0 = gP σ c 0 := (fτ49.O kc (by decide)).2.1
        have kp46 : gP τ49 th 5 = gP σ th 5 := (fτ49.O kth (by decide)).2.1
        have kp47 : gI τ49 o 13 = gI σ30_1 o 13 := (fτ49.O ko (by decide)).1.trans (fσ30_1.O ko (by decide)).1.symm
        have kp48 : gI τ49 t 0 = gI σ30_1 t 0 := (fτ49.O kt (by decide)).1.trans (fσ30_1.O kt (by decide)).1.symm
        have kp49 : gP τ49 t 3 = gP σ30_1 t 3 := (fτ49.O kt (by decide)).2.1.trans (fσ30_1.O kt (by decide)).2.1.symm
        unfold w_X11_joinRow_49
        by_cases hc50 : v5 = none
        · rw [if_pos hc50]
          unfold w_X11_joinRow_171
          refine i1_keep2 iτ49 (kth.up (xσ30_1.trans xτ49)) hv1 (ko.up (xσ30_1.trans xτ49)) hv2 (kt.up (xσ30_1.trans xτ49)) hv4 (kc.up (xσ30_1.trans xτ49)) (by (first | omega | with_reducible assumption | with_reducible exact rng_toInt _ | with_reducible exact rng_wr _ | (unfold rng; omega) | (unfold rng at *; omega) | assumption)) (by (first | omega | with_reducible assumption | with_reducible exact rng_toInt _ | with_reducible exact rng_wr _ | (unfold rng; omega) | (unfold rng at *; omega) | assumption)) (by (first | omega | with_reducible assumption | with_reducible exact rng_toInt _ | with_reducible exact rng_wr _ | (unfold rng; omega) | (unfold rng at *; omega) | assumption)) (kp46.trans hj) (kJ.up (xσ30_1.trans xτ49)) (by (first | omega | with_reducible assumption | with_reducible exact rng_toInt _ | with_reducible exact rng_wr _ | (unfold rng; omega) | (unfold rng at *; omega) | assumption)) (by (first | omega | with_reducible assumption | with_reducible exact rng_toInt _ | with_reducible exact rng_wr _ | (unfold rng; omega) | (unfold rng at *; omega) | assumption)) (by (first | omega | with_reducible assumption | with_reducible exact rng_toInt _ | with_reducible exact rng_wr _ | (unfold rng; omega) | (unfold rng at *; omega) | assumption)) (by (first | omega | with_reducible assumption | with_reducible exact rng_toInt _ | with_reducible exact rng_wr _ | (unfold rng; omega) | (unfold rng at *; omega) | assumption)) (by (first | omega | with_reducible assumption | with_reducible exact rng_toInt _ | with_reducible exact rng_wr _ | (unfold rng; omega) | (unfold rng at *; omega) | assumption)) (by (first | omega | with_reducible assumption | with_reducible exact rng_toInt _ | with_reducible exact rng_wr _ | (unfold rng; omega) | (unfold rng at *; omega) | assumption)) (by (first | omega | with_reducible assumption | with_reducible exact rng_toInt _ | with_reducible exact rng_wr _ | (unfold rng; omega) | (unfold rng at *; omega) | assumption)) (by (first | omega | with_reducible assumption | with_reducible exact rng_toInt _ | with_reducible exact rng_wr _ | (unfold rng; omega) | (unfold rng at *; omega) | assumption)) (fun σ47_1 LLσ47_1 Nσ47_1 nuσ47_1 _ iσ47_1 cσ47_1 uσ47_1 hσ47_1 pσ47_1 => ?_) (fun σx LLx Nx nux E ix cx ux px => hX σx LLx Nx nux E ix (fτ49.tr (cx.mo (by decide))) (nu_τ49.x ux) (by first | exact px | exact ⟨by have := px.1; omega, (Hn.nz hnτ49 (by first | decide | (intro x hx; simp only [List.mem_cons, List.mem_nil_iff, or_false] at hx; omega))).tr px.2.1, px.2.2⟩ | (first | omega | with_reducible assumption | with_reducible exact rng_toInt _ | with_reducible exact rng_wr _ | (unfold rng; omega) | (unfold rng at *; omega) | assumption)))
          intro xσ47_1
          have fσ47_1 : Fx [1, 2, 3, 4, 5, 6, 7, 64, 512, 513, 514, 708, 6464] gr σ σ47_1 := fτ49.tr (cσ47_1.mo (by decide))
          have hnσ47_1 : Hn (gD σ) [14, 11, 12] [c] gq LL LLσ47_1 N Nσ47_1 := hnτ49.go hσ47_1 (fun d hd => (fτ49.1 d hd).1) (by first | decide | exact fun _ h => h | (simp; done) | (intro x hx; simp only [List.mem_cons, List.mem_nil_iff, or_false] at hx ⊢; omega)) (fun d hd => by rw [List.mem_singleton.mp hd]; exact lo_c)
          have nσ47_1_3 := hσ47_1.2.2 3 (by first | decide | (simp; done) | (simp only [List.mem_cons, List.mem_nil_iff, or_false, not_or]; omega)) (by first | decide | omega) (by first | decide | omega) (by first | decide | omega)
          have nσ47_1_5 := hσ47_1.2.2 5 (by first | decide | (simp; done) | (simp only [List.mem_cons, List.mem_nil_iff, or_false, not_or]; omega)) (by first | decide | omega) (by first | decide | omega) (by first | decide | omega)
          have nσ47_1_14 := hσ47_1.2.2 14 (by first | decide | (simp; done) | (simp only [List.mem_cons, List.mem_nil_iff, or_false, not_or]; omega)) (by first | decide | omega) (by first | decide | omega) (by first | decide | omega)
          have nσ47_1_44 := hσ47_1.2.2 44 (by first | decide | (simp; done) | (simp only [List.mem_cons, List.mem_nil_iff, or_false, not_or]; omega)) (by first | decide | omega) (by first | decide | omega) (by first | decide | omega)
          have nσ47_1_74 := hσ47_1.2.2 74 (by first | decide | (simp; done) | (simp only [List.mem_cons, List.mem_nil_iff, or_false, not_or]; omega)) (by first | decide | omega) (by first | decide | omega) (by first | decide | omega)
          have nσ47_1_41 := hσ47_1.2.2 41 (by first | decide | (simp; done) | (simp only [List.mem_cons, List.mem_nil_iff, or_false, not_or]; omega)) (by first | decide | omega) (by first | decide | omega) (by first | decide | omega)
          have nσ47_1_42 := hσ47_1.2.2 42 (by first | decide | (simp; done) | (simp only [List.mem_cons, List.mem_nil_iff, or_false, not_or]; omega)) (by first | decide | omega) (by first | decide | omega) (by first | decide | omega)
          have nσ47_1_13 := hσ47_1.2.2 13 (by first | decide | (simp; done) | (simp only [List.mem_cons, List.mem_nil_iff, or_false, not_or]; omega)) (by first | decide | omega) (by first | decide | omega) (by first | decide | omega)
          have nu_σ47_1 : NU nu nuσ47_1 := nu_τ49.tr uσ47_1
          have uσ47_1_0 := uσ47_1.1 0 (by decide)
          have uσ47_1_1 := uσ47_1.1 1 (by decide)
          have uσ47_1_2 := uσ47_1.2
          have uσ47_1_5 := uσ47_1.1 5 (by decide)
          have uσ47_1_15 := uσ47_1.1 15 (by decide)
          have uσ47_1_16 := uσ47_1.1 16 (by decide)
          have kp51 : gI σ47_1 o 13 = gI τ49 o 13 := (cσ47_1.O (ko.up (xσ30_1.trans xτ49)) (by decide)).1
          have kp52 : gI σ47_1 t 0 = gI τ49 t 0 := (cσ47_1.O (kt.up (xσ30_1.trans xτ49)) (by decide)).1
          have kp53 : gP σ47_1 c 0 = gP τ49 c 0 := (cσ47_1.O (kc.up (xσ30_1.trans xτ49)) (by decide)).2.1
          have kp54 : gP σ47_1 t 3 = gP τ49 t 3 := (cσ47_1.O (kt.up (xσ30_1.trans xτ49)) (by decide)).2.1
          have kp55 : gP σ47_1 th 5 = gP τ49 th 5 := (cσ47_1.O (kth.up (xσ30_1.trans xτ49)) (by decide)).2.1
          exact hQ σ47_1 LLσ47_1 Nσ47_1 nuσ47_1 () iσ47_1 fσ47_1 (nu_σ47_1) hnσ47_1 (by (first | omega | with_reducible assumption | with_reducible exact rng_toInt _ | with_reducible exact rng_wr _ | (unfold rng; omega) | (unfold rng at *; omega) | assumption))
        · rw [if_neg hc50]
          unfold w_X11_joinRow_54
          rw [if_neg hc2]
          unfold w_X11_joinRow_58
          obtain ⟨b_5, eb_5⟩ := Option.ne_none_iff_exists'.mp hc50
          refine ⟨b_5, eb_5, fun kk_b_5 => ?_⟩
          refine ⟨c, hv4, fun kk_c_6 => ?_⟩
          unfold w_X11_joinRow_83
          refine ⟨b_5, eb_5, fun kk_b_5_1 => ?_⟩
          refine ⟨c, hv4, fun kk_c_7 => ?_⟩
          by_cases hc57 : gJ τ49 b_5 7 ≠ gJ τ49 c 7
          · rw [if_pos hc57]
            unfold w_X11_joinRow_161
            obtain ⟨A1, B1, p1, p2, p3, p4⟩ := it_step iτ49 (mb_4.up xτ49) ⟨by first | exact hi49.1.1 | (rw [hLc]; exact hi49.1.1), hi49.1.2⟩ eb_5
            refine ⟨b_5, eb_5, fun kk_b_5_2 => ?_⟩
            exact ih49 τ49 LLt49 Nt49 nut49 (gP τ49 b_5 1) iτ49 fτ49 xτ49 nu_τ49 hnτ49 hg_c_τ49 (⟨A1, B1, ⟨⟨p1, p2⟩, by omega, by omega, by omega, by omega⟩, by omega⟩)
          · rw [if_neg hc57]
            have hc57q := Classical.not_not.mp hc57
            unfold w_X11_joinRow_99
            refine ⟨o, hv1, fun kk_o_4 => ?_⟩
            have q59 := I_5_15 iτ49.1 (ko.up (xσ30_1.trans xτ49))
            by_cases hc58 : (gJ τ49 b_5 5 - gJ τ49 c 5) < (Int64.ofInt (gI τ49 o 15))
            · rw [if_pos hc58]
              unfold w_X11_joinRow_161
              obtain ⟨A1, B1, p1, p2, p3, p4⟩ := it_step iτ49 (mb_4.up xτ49) ⟨by first | exact hi49.1.1 | (rw [hLc]; exact hi49.1.1), hi49.1.2⟩ eb_5
              refine ⟨b_5, eb_5, fun kk_b_5_3 => ?_⟩
              exact ih49 τ49 LLt49 Nt49 nut49 (gP τ49 b_5 1) iτ49 fτ49 xτ49 nu_τ49 hnτ49 hg_c_τ49 (⟨A1, B1, ⟨⟨p1, p2⟩, by omega, by omega, by omega, by omega⟩, by omega⟩)
            · rw [if_neg hc58]
              unfold w_X11_joinRow_110
              refine ⟨o, hv1, fun kk_o_5 => ?_⟩
              have q61 := I_5_16 iτ49.1 (ko.up (xσ30_1.trans xτ49))
              by_cases hc60 : (gJ τ49 b_5 5 - gJ τ49 c 5) > (Int64.ofInt (gI τ49 o 16))
              · rw [if_pos hc60]
                unfold w_X11_joinRow_161
                obtain ⟨A1, B1, p1, p2, p3, p4⟩ := it_step iτ49 (mb_4.up xτ49) ⟨by first | exact hi49.1.1 | (rw [hLc]; exact hi49.1.1), hi49.1.2⟩ eb_5
                refine ⟨b_5, eb_5, fun kk_b_5_4 => ?_⟩
                exact ih49 τ49 LLt49 Nt49 nut49 (gP τ49 b_5 1) iτ49 fτ49 xτ49 nu_τ49 hnτ49 hg_c_τ49 (⟨A1, B1, ⟨⟨p1, p2⟩, by omega, by omega, by omega, by omega⟩, by omega⟩)
              · rw [if_neg hc60]
                unfold w_X11_joinRow_121
                rw [if_neg hc2]
                unfold w_X11_joinRow_127
                unfold w_X11_joinRow_134
                rw [if_neg hc2]
                unfold w_X11_joinRow_138
                unfold w_X11_joinRow_145
                refine ⟨b_5, eb_5, fun kk_b_5_5 => ?_⟩
                refine ⟨c, hv4, fun kk_c_8 => ?_⟩
                refine i_J9_max_f86c9 iτ49 (fun r42_1 pσ41_1 => ?_)
                intro xσ41_1
                refine i1_X11_addPair iτ49 (kth.up (xσ30_1.trans xτ49)) hv1 (ko.up (xσ30_1.trans xτ49)) hv4 (kc.up (xσ30_1.trans xτ49)) eb_5 kk_b_5 (by (first | omega | with_reducible assumption | with_reducible exact rng_toInt _ | with_reducible exact rng_wr _ | (unfold rng; omega) | (unfold rng at *; omega) | assumption)) (kp46.trans hj) (kJ.up (xσ30_1.trans xτ49)) (by (first | omega | with_reducible assumption | with_reducible exact rng_toInt _ | with_reducible exact rng_wr _ | (unfold rng; omega) | (unfold rng at *; omega) | assumption)) (by (first | omega | with_reducible assumption | with_reducible exact rng_toInt _ | with_reducible exact rng_wr _ | (unfold rng; omega) | (unfold rng at *; omega) | assumption)) (by (first | omega | with_reducible assumption | with_reducible exact rng_toInt _ | with_reducible exact rng_wr _ | (unfold rng; omega) | (unfold rng at *; omega) | assumption)) (by omega) (by (first | omega | with_reducible assumption | with_reducible exact rng_toInt _ | with_reducible exact rng_wr _ | (unfold rng; omega) | (unfold rng at *; omega) | assumption)) (by (first | omega | with_reducible assumption | with_reducible exact rng_toInt _ | with_reducible exact rng_wr _ | (unfold rng; omega) | (unfold rng at *; omega) | assumption)) (by rcases pσ41_1 with e9 | e9 <;> rw [e9]; exact iτ49.t5 kk_b_5; exact iτ49.t5 (kc.up (xσ30_1.trans xτ49))) (fun σ43_1 LLσ43_1 Nσ43_1 nuσ43_1 _ iσ43_1 cσ43_1 uσ43_1 hσ43_1 pσ43_1 => ?_) (fun σx LLx Nx nux E ix cx ux px => hX σx LLx Nx nux E ix (fτ49.tr (cx.mo (by decide))) (nu_τ49.x ux) (by first | exact px | exact ⟨by have := px.1; omega, (Hn.nz hnτ49 (by first | decide | (intro x hx; simp only [List.mem_cons, List.mem_nil_iff, or_false] at hx; omega))).tr px.2.1, px.2.2⟩ | (first | omega | with_reducible assumption | with_reducible exact rng_toInt _ | with_reducible exact rng_wr _ | (unfold rng; omega) | (unfold rng at *; omega) | assumption)))
                intro xσ43_1
                have fσ43_1 : Fx [1, 2, 3, 4, 5, 6, 7, 64, 512, 513, 514, 708, 6464] gr σ σ43_1 := fτ49.tr (cσ43_1.mo (by decide))
                have hnσ43_1 : Hn (gD σ) [14, 11, 12] [c] gq LL LLσ43_1 N Nσ43_1 := hnτ49.go hσ43_1 (fun d hd => (fτ49.1 d hd).1) (by first | decide | exact fun _ h => h | (simp; done) | (intro x hx; simp only [List.mem_cons, List.mem_nil_iff, or_false] at hx ⊢; omega)) (fun d hd => absurd hd (by simp))
                have hg_c_σ43_1 : ∀ x, c ∉ LLσ43_1 x := hσ43_1.2.1 c (kc.up (xσ30_1.trans xτ49)).1 (by simp) hg_c_τ49
                have nσ43_1_3 := hσ43_1.2.2 3 (by first | decide | (simp; done) | (simp only [List.mem_cons, List.mem_nil_iff, or_false, not_or]; omega)) (by first | decide | omega) (by first | decide | omega) (by first | decide | omega)
                have nσ43_1_5 := hσ43_1.2.2 5 (by first | decide | (simp; done) | (simp only [List.mem_cons, List.mem_nil_iff, or_false, not_or]; omega)) (by first | decide | omega) (by first | decide | omega) (by first | decide | omega)
                have nσ43_1_44 := hσ43_1.2.2 44 (by first | decide | (simp; done) | (simp only [List.mem_cons, List.mem_nil_iff, or_false, not_or]; omega)) (by first | decide | omega) (by first | decide | omega) (by first | decide | omega)
                have nσ43_1_74 := hσ43_1.2.2 74 (by first | decide | (simp; done) | (simp only [List.mem_cons, List.mem_nil_iff, or_false, not_or]; omega)) (by first | decide | omega) (by first | decide | omega) (by first | decide | omega)
                have nσ43_1_11 := hσ43_1.2.2 11 (by first | decide | (simp; done) | (simp only [List.mem_cons, List.mem_nil_iff, or_false, not_or]; omega)) (by first | decide | omega) (by first | decide | omega) (by first | decide | omega)
                have nσ43_1_12 := hσ43_1.2.2 12 (by first | decide | (simp; done) | (simp only [List.mem_cons, List.mem_nil_iff, or_false, not_or]; omega)) (by first | decide | omega) (by first | decide | omega) (by first | decide | omega)
                have nσ43_1_41 := hσ43_1.2.2 41 (by first | decide | (simp; done) | (simp only [List.mem_cons, List.mem_nil_iff, or_false, not_or]; omega)) (by first | decide | omega) (by first | decide | omega) (by first | decide | omega)
                have nσ43_1_42 := hσ43_1.2.2 42 (by first | decide | (simp; done) | (simp only [List.mem_cons, List.mem_nil_iff, or_false, not_or]; omega)) (by first | decide | omega) (by first | decide | omega) (by first | decide | omega)
                have nσ43_1_13 := hσ43_1.2.2 13 (by first | decide | (simp; done) | (simp only [List.mem_cons, List.mem_nil_iff, or_false, not_or]; omega)) (by first | decide | omega) (by first | decide | omega) (by first | decide | omega)
                have nu_σ43_1 : NU nu nuσ43_1 := nu_τ49.tr uσ43_1
                have uσ43_1_0 := uσ43_1.1 0 (by decide)
                have uσ43_1_1 := uσ43_1.1 1 (by decide)
                have uσ43_1_2 := uσ43_1.2
                have uσ43_1_5 := uσ43_1.1 5 (by decide)
                have uσ43_1_15 := uσ43_1.1 15 (by decide)
                have uσ43_1_16 := uσ43_1.1 16 (by decide)
                have kp64 : gI σ43_1 o 13 = gI τ49 o 13 := (cσ43_1.O (ko.up (xσ30_1.trans xτ49)) (by decide)).1
                have kp65 : gI σ43_1 o 15 = gI τ49 o 15 := (cσ43_1.O (ko.up (xσ30_1.trans xτ49)) (by decide)).1
                have kp66 : gI σ43_1 o 16 = gI τ49 o 16 := (cσ43_1.O (ko.up (xσ30_1.trans xτ49)) (by decide)).1
                have kp67 : gI σ43_1 t 0 = gI τ49 t 0 := (cσ43_1.O (kt.up (xσ30_1.trans xτ49)) (by decide)).1
                have kp68 : gP σ43_1 c 0 = gP τ49 c 0 := (cσ43_1.O (kc.up (xσ30_1.trans xτ49)) (by decide)).2.1
                have kp69 : gP σ43_1 t 3 = gP τ49 t 3 := (cσ43_1.O (kt.up (xσ30_1.trans xτ49)) (by decide)).2.1
                have kp70 : gP σ43_1 th 5 = gP τ49 th 5 := (cσ43_1.O (kth.up (xσ30_1.trans xτ49)) (by decide)).2.1
                have hLc := hσ43_1.1 b_4 (mb_4.up xτ49).1 (by first | (simp; done) | (simp only [List.mem_cons, List.mem_nil_iff, or_false, not_or]; omega)) (by omega)
                unfold w_X11_joinRow_161
                obtain ⟨A1, B1, p1, p2, p3, p4⟩ := it_step iσ43_1 (mb_4.up (xτ49.trans xσ43_1)) ⟨by first | exact hi49.1.1 | (rw [hLc]; exact hi49.1.1), hi49.1.2⟩ eb_5
                refine ⟨b_5, eb_5, fun kk_b_5_6 => ?_⟩
                exact ih49 σ43_1 LLσ43_1 Nσ43_1 nuσ43_1 (gP σ43_1 b_5 1) iσ43_1 fσ43_1 (xτ49.trans xσ43_1) nu_σ43_1 hnσ43_1 hg_c_σ43_1 (⟨A1, B1, ⟨⟨p1, p2⟩, by omega, by omega, by omega, by omega⟩, by omega⟩)
    exact ⟨(LL b_4).length + 1, Lp49 _ σ30_1 LL N nu _ iσ30_1 fσ30_1 (Ext.rfl' _) NU.rf hnσ hf (⟨[], LL b_4, ⟨⟨by simp, iσ30_1.first mb_4⟩, rfl, by omega, rfl, rfl⟩, Nat.lt_succ_self _⟩)⟩

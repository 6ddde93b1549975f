set_option maxHeartbeats 1000000 in
theorem i4_X11_addPair {σ : Sg} {pl : Nat} {gq ci gr nc : Nat → Nat} {ot : Nat → Nat → Int} {LL : Nat → List Nat} {N nu : Nat → Nat} {th : Nat} {v1 : Option Nat} {v2 : Option Nat} {v3 : Option Nat} {v4 : Int64} {J i : Nat} (iσ : IV σ pl gq ci gr nc ot LL N nu) (kth : kO σ th 11) {o : Nat} (hv1 : v1 = some o) (ko : kO σ o 5) {f : Nat} (hv2 : v2 = some f) (kf : kO σ f 0) {s : Nat} (hv3 : v3 = some s) (ks : kO σ s 0) (hq : gq th = 4) (hj : gP σ th 5 = some J) (kJ : kO σ J 4) (hJ : gq J = nc 0) (ho : gq o = 16 * nc 0 + i) (hi : i < nc 1) (hk : ot i 6 = 6 ∨ ot i 6 = 7) (h5 : nu 5 < 24000) (hb : N 14 + N 44 + N 74 + N 1 ≤ 41000) (hv : tb (N 3) v4) {Q : Sg → Unit → Prop} {X : Sg → String → Prop} (hQ : ∀ (σ' : Sg) (LL' : Nat → List Nat) (N' nu' : Nat → Nat) (r : Unit), IV σ' pl gq ci gr nc ot LL' N' nu' → Fx [1, 2, 3, 4, 5, 6, 7, 64, 512, 513, 514, 6464] gr σ σ' → NU nu nu' → Hn (gD σ) [44] [] gq LL LL' N N' → (N' 1 = N 1 ∧ N' 44 = N 44 + 1) → Q σ' r) (hX : ∀ (σ' : Sg) (LL' : Nat → List Nat) (N' nu' : Nat → Nat) (E : String), IV σ' pl gq ci gr nc ot LL' N' nu' → Fx [1, 2, 3, 4, 5, 6, 7, 64, 512, 513, 514, 6464] gr σ σ' → NX nu nu' → ((N' 1 ≤ N 1 + 0 ∧ N' 5 = N 5 ∧ N' 3 = N 3 ∧ N' 14 = N 14 ∧ N' 74 = N 74) ∧ NZ N N' ∧ E = "java/lang/IllegalStateException") → X σ' E) : wp_X11_addPair th v1 v2 v3 v4 σ Q X := by
  have fσ : Fx [1, 2, 3, 4, 5, 6, 7, 64, 512, 513, 514, 6464] gr σ σ := Fx.rf
  have hnσ : Hn (gD σ) [44] [] gq LL LL N N := Hn.rf
  have ok := iσ.opok hi
  have q7 := iσ.op ko ho hi 7 (by decide)
  have h7 : 0 ≤ ot i 7 := ok.2.2.2.1 (by omega)
  have hw := ok.2.2.2.2.2.1 hk
  have h7i := ok.2.1
  have w3 := ok.2.2.2.2.2.2.2.2.2.1
  unfold wp_X11_addPair
  unfold w_X11_addPair_0
  refine ⟨J, hj, fun kk_J => ?_⟩
  refine ⟨o, hv1, fun kk_o => ?_⟩
  obtain ⟨b, eb, fb⟩ := P_4_0 iσ.1 kJ
  have mb : kO σ b 115 := iσ.1.kd kJ rfl eb rfl
  refine ⟨b, eb, fun kk_b => ?_⟩
  have q1 := I_5_7 iσ.1 ko
  refine ⟨⟨by (first | omega | with_reducible assumption | with_reducible exact rng_toInt _ | with_reducible exact rng_wr _ | (unfold rng; omega) | (unfold rng at *; omega) | assumption), by (first | omega | with_reducible assumption | with_reducible exact rng_toInt _ | with_reducible exact rng_wr _ | (unfold rng; omega) | (unfold rng at *; omega) | assumption)⟩, ?_⟩
  obtain ⟨b_1, eb_1⟩ := P_115 iσ.1 mb (k := (gI σ o 7).toNat) (by (first | omega | with_reducible assumption | with_reducible exact rng_toInt _ | with_reducible exact rng_wr _ | (unfold rng; omega) | (unfold rng at *; omega) | assumption))
  have fb_1 := T_115 iσ.1 mb eb_1
  have mb_1 : kO σ b_1 5 := iσ.1.kd mb rfl eb_1 rfl
  refine ⟨b_1, eb_1, fun kk_b_1 => ?_⟩
  refine ⟨f, hv2, fun kk_f => ?_⟩
  refine ⟨s, hv3, fun kk_s => ?_⟩
  obtain ⟨b_2, eb_2⟩ := P_11_0 iσ.1 kth
  refine ⟨b_2, eb_2, fun kk_b_2 => ?_⟩
  have q2 := I_0_4 iσ.1 kf
  have q3 := I_0_4 iσ.1 ks
  refine i_X8_together iσ kk_b_2 (by (first | omega | with_reducible assumption | with_reducible exact rng_toInt _ | with_reducible exact rng_wr _ | (unfold rng; omega) | (unfold rng at *; omega) | assumption)) (by (first | omega | with_reducible assumption | with_reducible exact rng_toInt _ | with_reducible exact rng_wr _ | (unfold rng; omega) | (unfold rng at *; omega) | assumption)) (by (first | omega | with_reducible assumption | with_reducible exact rng_toInt _ | with_reducible exact rng_wr _ | (unfold rng; omega) | (unfold rng at *; omega) | assumption)) (fun σ30 nuσ30 r31 iσ30 cσ30 uσ30 pσ30 => ?_) (fun σx LLx Nx nux E ix cx ux px => hX σx LLx Nx nux E ix (fσ.tr (cx.mo (by decide))) (ux) (by first | exact px | exact ⟨by have := px.1; omega, px.2.1, px.2.2⟩ | (first | omega | with_reducible assumption | with_reducible exact rng_toInt _ | with_reducible exact rng_wr _ | (unfold rng; omega) | (unfold rng at *; omega) | assumption)))
  intro xσ30
  have fσ30 : Fx [1, 2, 3, 4, 5, 6, 7, 64, 512, 513, 514, 6464] gr σ σ30 := fσ.tr (cσ30.mo (by decide))
  have nu_σ30 : NU nu nuσ30 := uσ30
  have uσ30_0 := uσ30.1 0 (by decide)
  have uσ30_1 := uσ30.1 1 (by decide)
  have uσ30_2 := uσ30.2
  have uσ30_5 := uσ30.1 5 (by decide)
  have uσ30_15 := uσ30.1 15 (by decide)
  have uσ30_16 := uσ30.1 16 (by decide)
  have kp4 : gI σ30 f 4 = gI σ f 4 := (cσ30.O kf (by decide)).1
  have kp5 : gI σ30 o 7 = gI σ o 7 := (cσ30.O ko (by decide)).1
  have kp6 : gI σ30 s 4 = gI σ s 4 := (cσ30.O ks (by decide)).1
  have kp7 : gP σ30 J 0 = gP σ J 0 := (cσ30.O kJ (by decide)).2.1
  have kp8 : gP σ30 b (gI σ o 7).toNat = gP σ b (gI σ o 7).toNat := (cσ30.A mb (by decide)).2.1
  have kp9 : gP σ30 th 0 = gP σ th 0 := (cσ30.O kth (by decide)).2.1
  have kp10 : gP σ30 th 5 = gP σ th 5 := (cσ30.O kth (by decide)).2.1
  have w9 := iσ.op mb_1 (i := (ot i 7).toNat) (by omega) (by omega) 3 (by decide)
  have w8 := (iσ30.opok (i := (ot i 7).toNat) (by omega)).2.2.2.2.2.2.2.2.2.1
  refine ⟨b_2, (kp9.trans eb_2), fun kk_b_2_1 => ?_⟩
  refine i_X8_fresh iσ30 (kk_b_2.up xσ30) (by (first | omega | with_reducible assumption | with_reducible exact rng_toInt _ | with_reducible exact rng_wr _ | (unfold rng; omega) | (unfold rng at *; omega) | assumption)) (fun σ33 LLσ33 Nσ33 nuσ33 c_σ33 iσ33 cσ33 uσ33 hσ33 pσ33 => ?_)
  intro xσ33
  have fσ33 : Fx [1, 2, 3, 4, 5, 6, 7, 64, 512, 513, 514, 6464] gr σ σ33 := fσ30.tr (cσ33.mo (by decide))
  have hnσ33 : Hn (gD σ) [44] [] gq LL LLσ33 N Nσ33 := hnσ.go hσ33 (fun d hd => (fσ30.1 d hd).1) (by first | decide | exact fun _ h => h | (simp; done) | (intro x hx; simp only [List.mem_cons, List.mem_nil_iff, or_false] at hx ⊢; omega)) (fun d hd => absurd hd (by simp))
  have hf_c_σ33 : ∀ x, c_σ33 ∉ LLσ33 x := pσ33.1
  have lo_c_σ33 : Lo [] (gD σ) LL c_σ33 := hnσ.loc (fun d hd => (fσ30.1 d hd).1) pσ33.2.2.1
  have nσ33_3 := hσ33.2.2 3 (by first | decide | (simp; done) | (simp only [List.mem_cons, List.mem_nil_iff, or_false, not_or]; omega)) (by first | decide | omega) (by first | decide | omega) (by first | decide | omega)
  have nσ33_5 := hσ33.2.2 5 (by first | decide | (simp; done) | (simp only [List.mem_cons, List.mem_nil_iff, or_false, not_or]; omega)) (by first | decide | omega) (by first | decide | omega) (by first | decide | omega)
  have nσ33_14 := hσ33.2.2 14 (by first | decide | (simp; done) | (simp only [List.mem_cons, List.mem_nil_iff, or_false, not_or]; omega)) (by first | decide | omega) (by first | decide | omega) (by first | decide | omega)
  have nσ33_44 := hσ33.2.2 44 (by first | decide | (simp; done) | (simp only [List.mem_cons, List.mem_nil_iff, or_false, not_or]; omega)) (by first | decide | omega) (by first | decide | omega) (by first | decide | omega)
  have nσ33_74 := hσ33.2.2 74 (by first | decide | (simp; done) | (simp only [List.mem_cons, List.mem_nil_iff, or_false, not_or]; omega)) (by first | decide | omega) (by first | decide | omega) (by first | decide | omega)
  have nσ33_11 := hσ33.2.2 11 (by first | decide | (simp; done) | (simp only [List.mem_cons, List.mem_nil_iff, or_false, not_or]; omega)) (by first | decide | omega) (by first | decide | omega) (by first | decide | omega)
  have nσ33_12 := hσ33.2.2 12 (by first | decide | (simp; done) | (simp only [List.mem_cons, List.mem_nil_iff, or_false, not_or]; omega)) (by first | decide | omega) (by first | decide | omega) (by first | decide | omega)
  have nσ33_41 := hσ33.2.2 41 (by first | decide | (simp; done) | (simp only [List.mem_cons, List.mem_nil_iff, or_false, not_or]; omega)) (by first | decide | omega) (by first | decide | omega) (by first | decide | omega)
  have nσ33_42 := hσ33.2.2 42 (by first | decide | (simp; done) | (simp only [List.mem_cons, List.mem_nil_iff, or_false, not_or]; omega)) (by first | decide | omega) (by first | decide | omega) (by first | decide | omega)
  have nσ33_13 := hσ33.2.2 13 (by first | decide | (simp; done) | (simp only [List.mem_cons, List.mem_nil_iff, or_false, not_or]; omega)) (by first | decide | omega) (by first | decide | omega) (by first | decide | omega)
  have nu_σ33 : NU nu nuσ33 := nu_σ30.tr uσ33
  have uσ33_0 := uσ33.1 0 (by decide)
  have uσ33_1 := uσ33.1 1 (by decide)
  have uσ33_2 := uσ33.2
  have uσ33_5 := uσ33.1 5 (by decide)
  have uσ33_15 := uσ33.1 15 (by decide)
  have uσ33_16 := uσ33.1 16 (by decide)
  have kp11 : gI σ33 o 7 = gI σ30 o 7 := (cσ33.O (ko.up xσ30) (by decide)).1
  have kp12 : gP σ33 J 0 = gP σ30 J 0 := (cσ33.O (kJ.up xσ30) (by decide)).2.1
  have kp13 : gP σ33 b (gI σ o 7).toNat = gP σ30 b (gI σ o 7).toNat := (cσ33.A (mb.up xσ30) (by decide)).2.1
  have kp14 : gP σ33 th 0 = gP σ30 th 0 := (cσ33.O (kth.up xσ30) (by decide)).2.1
  have kp15 : gP σ33 th 5 = gP σ30 th 5 := (cσ33.O (kth.up xσ30) (by decide)).2.1
  intro tyt
  have krc_σ33 : kO σ33 c_σ33 0 := tyt c_σ33 rfl
  refine ⟨c_σ33, rfl, fun kk_c_σ33 => ?_⟩
  intro σ37 eσ37
  have xσ37 : Ext σ33 σ37 := by rw [eσ37]; exact fun _ h => ⟨h, rfl, rfl⟩
  have iσ37 : IV σ37 pl gq ci gr nc ot LLσ33 Nσ33 nuσ33 := by rw [eσ37]; exact iσ33.wT krc_σ33 (by decide) (by have q9 := hv; unfold tb at q9 ⊢; omega)
  have fσ37 : Fx [1, 2, 3, 4, 5, 6, 7, 64, 512, 513, 514, 6464] gr σ σ37 := fσ33.tr (Sk.fx (by rw [eσ37]; exact Sk.pJ (by rw [fcdO krc_σ33 (by decide)]; decide)))
  have kp16 : gI σ37 o 7 = gI σ33 o 7 := by rw [eσ37]
  have kp17 : gP σ37 J 0 = gP σ33 J 0 := by rw [eσ37]
  have kp18 : gP σ37 b (gI σ o 7).toNat = gP σ33 b (gI σ o 7).toNat := by rw [eσ37]
  have kp19 : gP σ37 th 0 = gP σ33 th 0 := by rw [eσ37]
  have kp20 : gP σ37 th 5 = gP σ33 th 5 := by rw [eσ37]
  intro σ38 eσ38
  have xσ38 : Ext σ37 σ38 := by rw [eσ38]; exact fun _ h => ⟨h, rfl, rfl⟩
  have iσ38 : IV σ38 pl gq ci gr nc ot LLσ33 Nσ33 nuσ33 := by rw [eσ38]; exact iσ37.wO (krc_σ33.up xσ37) (by decide) (show (-1 : Int) ≤ r31 ∧ r31 ≤ (nuσ33 2 : Int) - 1 from ⟨by (first | omega | with_reducible assumption | with_reducible exact rng_toInt _ | with_reducible exact rng_wr _ | (unfold rng; omega) | (unfold rng at *; omega) | assumption), by (first | omega | with_reducible assumption | with_reducible exact rng_toInt _ | with_reducible exact rng_wr _ | (unfold rng; omega) | (unfold rng at *; omega) | assumption)⟩)
  have fσ38 : Fx [1, 2, 3, 4, 5, 6, 7, 64, 512, 513, 514, 6464] gr σ σ38 := fσ37.tr (Sk.fx (by rw [eσ38]; exact Sk.pI (by rw [fcdO (krc_σ33.up xσ37) (by decide)]; decide)))
  have wσ38 : gI σ38 c_σ33 4 = r31 := by rw [eσ38]; exact up2_s _ _ _ _
  have kp21 : gI σ38 o 7 = gI σ37 o 7 := by rw [eσ38]; exact up2_n _ _ (fun q => absurd q.2 (by decide))
  have kp22 : gP σ38 J 0 = gP σ37 J 0 := by rw [eσ38]
  have kp23 : gP σ38 b (gI σ o 7).toNat = gP σ37 b (gI σ o 7).toNat := by rw [eσ38]
  have kp24 : gP σ38 th 0 = gP σ37 th 0 := by rw [eσ38]
  have kp25 : gP σ38 th 5 = gP σ37 th 5 := by rw [eσ38]
  obtain ⟨b_3, eb_3, fb_3⟩ := P_0_0 iσ38.1 (kf.up (xσ30.trans (xσ33.trans (xσ37.trans xσ38))))
  have mb_3 : kO σ38 b_3 101 := iσ38.1.kd (kf.up (xσ30.trans (xσ33.trans (xσ37.trans xσ38)))) rfl eb_3 rfl
  refine ⟨b_3, eb_3, fun kk_b_3 => ?_⟩
  obtain ⟨b_4, eb_4, fb_4⟩ := P_0_0 iσ38.1 (krc_σ33.up (xσ37.trans xσ38))
  have mb_4 : kO σ38 b_4 101 := iσ38.1.kd (krc_σ33.up (xσ37.trans xσ38)) rfl eb_4 rfl
  refine ⟨b_4, eb_4, fun kk_b_4 => ?_⟩
  have q26 := I_5_3 iσ.1 mb_1
  refine ⟨⟨⟨by (first | omega | with_reducible assumption | with_reducible exact rng_toInt _ | with_reducible exact rng_wr _ | (unfold rng; omega) | (unfold rng at *; omega) | assumption), by (first | omega | with_reducible assumption | with_reducible exact rng_toInt _ | with_reducible exact rng_wr _ | (unfold rng; omega) | (unfold rng at *; omega) | assumption), by (first | omega | with_reducible assumption | with_reducible exact rng_toInt _ | with_reducible exact rng_wr _ | (unfold rng; omega) | (unfold rng at *; omega) | assumption)⟩, by (first | omega | with_reducible assumption | with_reducible exact rng_toInt _ | with_reducible exact rng_wr _ | (unfold rng; omega) | (unfold rng at *; omega) | assumption), by (first | omega | with_reducible assumption | with_reducible exact rng_toInt _ | with_reducible exact rng_wr _ | (unfold rng; omega) | (unfold rng at *; omega) | assumption)⟩, ?_⟩
  intro σ41 eσ41
  have xσ41 : Ext σ38 σ41 := by rw [eσ41]; exact fun _ h => ⟨h, rfl, rfl⟩
  have iσ41 : IV σ41 pl gq ci gr nc ot LLσ33 Nσ33 nuσ33 := by rw [eσ41]; exact iσ38.wC mb_4 (by omega)
  have fσ41 : Fx [1, 2, 3, 4, 5, 6, 7, 64, 512, 513, 514, 6464] gr σ σ41 := fσ38.tr (Sk.fx (by rw [eσ41]; exact Sk.cpJ (fun _ => by rw [fcdA mb_4 (by decide)]; decide)))
  have kp27 : gI σ41 c_σ33 4 = gI σ38 c_σ33 4 := by rw [eσ41]; rfl
  have kp28 : gI σ41 o 7 = gI σ38 o 7 := by rw [eσ41]; rfl
  have kp29 : gP σ41 J 0 = gP σ38 J 0 := by rw [eσ41]; rfl
  have kp30 : gP σ41 b (gI σ o 7).toNat = gP σ38 b (gI σ o 7).toNat := by rw [eσ41]; rfl
  have kp31 : gP σ41 c_σ33 0 = gP σ38 c_σ33 0 := by rw [eσ41]; rfl
  have kp32 : gP σ41 f 0 = gP σ38 f 0 := by rw [eσ41]; rfl
  have kp33 : gP σ41 th 0 = gP σ38 th 0 := by rw [eσ41]; rfl
  have kp34 : gP σ41 th 5 = gP σ38 th 5 := by rw [eσ41]; rfl
  have w7 := iσ41.op (ko.up (xσ30.trans (xσ33.trans (xσ37.trans (xσ38.trans xσ41))))) ho hi 3 (by decide)
  have q35 := I_5_3 iσ41.1 (ko.up (xσ30.trans (xσ33.trans (xσ37.trans (xσ38.trans xσ41)))))
  refine ⟨by (first | omega | with_reducible assumption | with_reducible exact rng_toInt _ | with_reducible exact rng_wr _ | (unfold rng; omega) | (unfold rng at *; omega) | assumption), ?_⟩
  obtain ⟨b_5, eb_5, fb_5⟩ := P_0_0 iσ41.1 (ks.up (xσ30.trans (xσ33.trans (xσ37.trans (xσ38.trans xσ41)))))
  have mb_5 : kO σ41 b_5 101 := iσ41.1.kd (ks.up (xσ30.trans (xσ33.trans (xσ37.trans (xσ38.trans xσ41))))) rfl eb_5 rfl
  refine ⟨b_5, eb_5, fun kk_b_5 => ?_⟩
  refine ⟨b_4, (kp31.trans eb_4), fun kk_b_4_1 => ?_⟩
  have q36 := (xσ41 b_4 mb_4.1).2.2
  refine ⟨⟨⟨by (first | omega | with_reducible assumption | with_reducible exact rng_toInt _ | with_reducible exact rng_wr _ | (unfold rng; omega) | (unfold rng at *; omega) | assumption), by (first | omega | with_reducible assumption | with_reducible exact rng_toInt _ | with_reducible exact rng_wr _ | (unfold rng; omega) | (unfold rng at *; omega) | assumption), by (first | omega | with_reducible assumption | with_reducible exact rng_toInt _ | with_reducible exact rng_wr _ | (unfold rng; omega) | (unfold rng at *; omega) | assumption)⟩, by (first | omega | with_reducible assumption | with_reducible exact rng_toInt _ | with_reducible exact rng_wr _ | (unfold rng; omega) | (unfold rng at *; omega) | assumption), by (first | omega | with_reducible assumption | with_reducible exact rng_toInt _ | with_reducible exact rng_wr _ | (unfold rng; omega) | (unfold rng at *; omega) | assumption)⟩, ?_⟩
  intro σ44 eσ44
  have xσ44 : Ext σ41 σ44 := by rw [eσ44]; exact fun _ h => ⟨h, rfl, rfl⟩
  have iσ44 : IV σ44 pl gq ci gr nc ot LLσ33 Nσ33 nuσ33 := by rw [eσ44]; exact iσ41.wC (mb_4.up xσ41) (by omega)
  have fσ44 : Fx [1, 2, 3, 4, 5, 6, 7, 64, 512, 513, 514, 6464] gr σ σ44 := fσ41.tr (Sk.fx (by rw [eσ44]; exact Sk.cpJ (fun _ => by rw [fcdA (mb_4.up xσ41) (by decide)]; decide)))
  have kp37 : gI σ44 c_σ33 4 = gI σ41 c_σ33 4 := by rw [eσ44]; rfl
  have kp38 : gI σ44 o 3 = gI σ41 o 3 := by rw [eσ44]; rfl
  have kp39 : gI σ44 o 7 = gI σ41 o 7 := by rw [eσ44]; rfl
  have kp40 : gP σ44 J 0 = gP σ41 J 0 := by rw [eσ44]; rfl
  have kp41 : gP σ44 b (gI σ o 7).toNat = gP σ41 b (gI σ o 7).toNat := by rw [eσ44]; rfl
  have kp42 : gP σ44 c_σ33 0 = gP σ41 c_σ33 0 := by rw [eσ44]; rfl
  have kp43 : gP σ44 f 0 = gP σ41 f 0 := by rw [eσ44]; rfl
  have kp44 : gP σ44 s 0 = gP σ41 s 0 := by rw [eσ44]; rfl
  have kp45 : gP σ44 th 0 = gP σ41 th 0 := by rw [eσ44]; rfl
  have kp46 : gP σ44 th 5 = gP σ41 th 5 := by rw [eσ44]; rfl
  obtain ⟨b_6, eb_6, fb_6⟩ := P_11_2 iσ44.1 (kth.up (xσ30.trans (xσ33.trans (xσ37.trans (xσ38.trans (xσ41.trans xσ44))))))
  have mb_6 : kO σ44 b_6 1 := iσ44.1.kd (kth.up (xσ30.trans (xσ33.trans (xσ37.trans (xσ38.trans (xσ41.trans xσ44)))))) rfl eb_6 rfl
  refine ⟨b_6, eb_6, fun kk_b_6 => ?_⟩
  refine i_X1_add (G0 := 44) iσ44 mb_6 rfl (krc_σ33.up (xσ37.trans (xσ38.trans (xσ41.trans xσ44)))) (by omega) (by (first | omega | with_reducible assumption | with_reducible exact rng_toInt _ | with_reducible exact rng_wr _ | (unfold rng; omega) | (unfold rng at *; omega) | assumption)) (by (first | omega | with_reducible assumption | with_reducible exact rng_toInt _ | with_reducible exact rng_wr _ | (unfold rng; omega) | (unfold rng at *; omega) | assumption)) (plc_y (G := 44) (by omega) (by decide)) (no50 (by decide)) (no13 (by decide)) (fun N9 n1 _ => iσ44.2.2.1.made (by decide) n1) (fun σ45 LLσ45 Nσ45 nuσ45 _ iσ45 cσ45 uσ45 hσ45 pσ45 => ?_)
  intro xσ45
  have fσ45 : Fx [1, 2, 3, 4, 5, 6, 7, 64, 512, 513, 514, 6464] gr σ σ45 := fσ44.tr (cσ45.mo (by decide))
  have hnσ45 : Hn (gD σ) [44] [] gq LL LLσ45 N Nσ45 := hnσ33.go hσ45 (fun d hd => (fσ44.1 d hd).1) (by first | decide | exact fun _ h => h | (simp; done) | (intro x hx; simp only [List.mem_cons, List.mem_nil_iff, or_false] at hx ⊢; omega)) (fun d hd => by rw [List.mem_singleton.mp hd]; exact lo_c_σ33)
  have nσ45_3 := hσ45.2.2 3 (by first | decide | (simp; done) | (simp only [List.mem_cons, List.mem_nil_iff, or_false, not_or]; omega)) (by first | decide | omega) (by first | decide | omega) (by first | decide | omega)
  have nσ45_5 := hσ45.2.2 5 (by first | decide | (simp; done) | (simp only [List.mem_cons, List.mem_nil_iff, or_false, not_or]; omega)) (by first | decide | omega) (by first | decide | omega) (by first | decide | omega)
  have nσ45_14 := hσ45.2.2 14 (by first | decide | (simp; done) | (simp only [List.mem_cons, List.mem_nil_iff, or_false, not_or]; omega)) (by first | decide | omega) (by first | decide | omega) (by first | decide | omega)
  have nσ45_74 := hσ45.2.2 74 (by first | decide | (simp; done) | (simp only [List.mem_cons, List.mem_nil_iff, or_false, not_or]; omega)) (by first | decide | omega) (by first | decide | omega) (by first | decide | omega)
  have nσ45_11 := hσ45.2.2 11 (by first | decide | (simp; done) | (simp only [List.mem_cons, List.mem_nil_iff, or_false, not_or]; omega)) (by first | decide | omega) (by first | decide | omega) (by first | decide | omega)
  have nσ45_12 := hσ45.2.2 12 (by first | decide | (simp; done) | (simp only [List.mem_cons, List.mem_nil_iff, or_false, not_or]; omega)) (by first | decide | omega) (by first | decide | omega) (by first | decide | omega)
  have nσ45_41 := hσ45.2.2 41 (by first | decide | (simp; done) | (simp only [List.mem_cons, List.mem_nil_iff, or_false, not_or]; omega)) (by first | decide | omega) (by first | decide | omega) (by first | decide | omega)
  have nσ45_42 := hσ45.2.2 42 (by first | decide | (simp; done) | (simp only [List.mem_cons, List.mem_nil_iff, or_false, not_or]; omega)) (by first | decide | omega) (by first | decide | omega) (by first | decide | omega)
  have nσ45_13 := hσ45.2.2 13 (by first | decide | (simp; done) | (simp only [List.mem_cons, List.mem_nil_iff, or_false, not_or]; omega)) (by first | decide | omega) (by first | decide | omega) (by first | decide | omega)
  have nu_σ45 : NU nu nuσ45 := nu_σ33.tr uσ45
  have uσ45_0 := uσ45.1 0 (by decide)
  have uσ45_1 := uσ45.1 1 (by decide)
  have uσ45_2 := uσ45.2
  have uσ45_5 := uσ45.1 5 (by decide)
  have uσ45_15 := uσ45.1 15 (by decide)
  have uσ45_16 := uσ45.1 16 (by decide)
  have kp47 : gI σ45 c_σ33 4 = gI σ44 c_σ33 4 := (cσ45.O (krc_σ33.up (xσ37.trans (xσ38.trans (xσ41.trans xσ44)))) (by decide)).1
  have kp48 : gI σ45 o 3 = gI σ44 o 3 := (cσ45.O (ko.up (xσ30.trans (xσ33.trans (xσ37.trans (xσ38.trans (xσ41.trans xσ44)))))) (by decide)).1
  have kp49 : gI σ45 o 7 = gI σ44 o 7 := (cσ45.O (ko.up (xσ30.trans (xσ33.trans (xσ37.trans (xσ38.trans (xσ41.trans xσ44)))))) (by decide)).1
  have kp50 : gP σ45 J 0 = gP σ44 J 0 := (cσ45.O (kJ.up (xσ30.trans (xσ33.trans (xσ37.trans (xσ38.trans (xσ41.trans xσ44)))))) (by decide)).2.1
  have kp51 : gP σ45 b (gI σ o 7).toNat = gP σ44 b (gI σ o 7).toNat := (cσ45.A (mb.up (xσ30.trans (xσ33.trans (xσ37.trans (xσ38.trans (xσ41.trans xσ44)))))) (by decide)).2.1
  have kp52 : gP σ45 c_σ33 0 = gP σ44 c_σ33 0 := (cσ45.O (krc_σ33.up (xσ37.trans (xσ38.trans (xσ41.trans xσ44)))) (by decide)).2.1
  have kp53 : gP σ45 f 0 = gP σ44 f 0 := (cσ45.O (kf.up (xσ30.trans (xσ33.trans (xσ37.trans (xσ38.trans (xσ41.trans xσ44)))))) (by decide)).2.1
  have kp54 : gP σ45 s 0 = gP σ44 s 0 := (cσ45.O (ks.up (xσ30.trans (xσ33.trans (xσ37.trans (xσ38.trans (xσ41.trans xσ44)))))) (by decide)).2.1
  have kp55 : gP σ45 th 0 = gP σ44 th 0 := (cσ45.O (kth.up (xσ30.trans (xσ33.trans (xσ37.trans (xσ38.trans (xσ41.trans xσ44)))))) (by decide)).2.1
  have kp56 : gP σ45 th 2 = gP σ44 th 2 := (cσ45.O (kth.up (xσ30.trans (xσ33.trans (xσ37.trans (xσ38.trans (xσ41.trans xσ44)))))) (by decide)).2.1
  have kp57 : gP σ45 th 5 = gP σ44 th 5 := (cσ45.O (kth.up (xσ30.trans (xσ33.trans (xσ37.trans (xσ38.trans (xσ41.trans xσ44)))))) (by decide)).2.1
  exact hQ σ45 LLσ45 Nσ45 nuσ45 () iσ45 fσ45 (nu_σ45) hnσ45 (by (first | omega | with_reducible assumption | with_reducible exact rng_toInt _ | with_reducible exact rng_wr _ | (unfold rng; omega) | (unfold rng at *; omega) | assumption))
set_option maxHeartbeats 1000000 in
theorem i4_X11_joinRow {σ : Sg} {pl : Nat} {gq ci gr nc : Nat → Nat} {ot : Nat → Nat → Int} {LL : Nat → List Nat} {N nu : Nat → Nat} {th : Nat} {v1 : Option Nat} {v2 : Option Nat} {v3 : Int} {v4 : Option Nat} {J i : Nat} (iσ : IV σ pl gq ci gr nc ot LL N nu) (kth : kO σ th 11) {o : Nat} (hv1 : v1 = some o) (ko : kO σ o 5) {t : Nat} (hv2 : v2 = some t) (kt : kO σ t 10) {c : Nat} (hv4 : v4 = some c) (kc : kO σ c 0) (hq : gq th = 4) (hf : ∀ x, c ∉ LL x) (h1 : 1 ≤ N 1) (hj : gP σ th 5 = some J) (kJ : kO σ J 4) (hJ : gq J = nc 0) (ho : gq o = 16 * nc 0 + i) (hi : i < nc 1) (hk : ot i 6 = 6) (ht : gq t = 4) (h5 : nu 5 < 24000) (hb : N 14 + N 44 + N 74 + N 1 ≤ 30000) {Q : Sg → Unit → Prop} {X : Sg → String → Prop} (hQ : ∀ (σ' : Sg) (LL' : Nat → List Nat) (N' nu' : Nat → Nat) (r : Unit), IV σ' pl gq ci gr nc ot LL' N' nu' → Fx [1, 2, 3, 4, 5, 6, 7, 64, 512, 513, 514, 708, 6464] gr σ σ' → NU nu nu' → Hn (gD σ) [44, 41, 42] [c] gq LL LL' N N' → (N' 1 + 1 = N 1 ∧ N' 44 ≤ N 44 + 4001) → Q σ' r) (hX : ∀ (σ' : Sg) (LL' : Nat → List Nat) (N' nu' : Nat → Nat) (E : String), IV σ' pl gq ci gr nc ot LL' N' nu' → Fx [1, 2, 3, 4, 5, 6, 7, 64, 512, 513, 514, 708, 6464] gr σ σ' → NX nu nu' → ((N' 1 ≤ N 1 + 0 ∧ N' 5 = N 5 ∧ N' 3 = N 3 ∧ N' 14 = N 14 ∧ N' 74 = N 74) ∧ NZ N N' ∧ E = "java/lang/IllegalStateException") → X σ' E) : wp_X11_joinRow th v1 v2 v3 v4 σ Q X := by
  have fσ : Fx [1, 2, 3, 4, 5, 6, 7, 64, 512, 513, 514, 708, 6464] gr σ σ := Fx.rf
  have hnσ : Hn (gD σ) [44, 41, 42] [c] gq LL LL N N := Hn.rf
  have lo_c : Lo [c] (gD σ) LL c := Or.inl (by simp)
  have ok := iσ.opok hi
  have q7 := iσ.op ko ho hi 7 (by decide)
  have h7 : 0 ≤ ot i 7 := ok.2.2.2.1 (by omega)
  unfold wp_X11_joinRow
  unfold w_X11_joinRow_0
  refine ⟨c, hv4, fun kk_c => ?_⟩
  by_cases hc1 : v3 ≠ 0
  · rw [if_pos hc1]
    unfold w_X11_joinRow_18
    refine ⟨o, hv1, fun kk_o => ?_⟩
    unfold w_X11_joinRow_22
    obtain ⟨b, eb, fb⟩ := P_0_0 iσ.1 kc
    have mb : kO σ b 101 := iσ.1.kd kc rfl eb rfl
    refine ⟨b, eb, fun kk_b => ?_⟩
    have q2 := I_5_14 iσ.1 ko
    refine ⟨⟨by (first | omega | with_reducible assumption | with_reducible exact rng_toInt _ | with_reducible exact rng_wr _ | (unfold rng; omega) | (unfold rng at *; omega) | assumption), by (first | omega | with_reducible assumption | with_reducible exact rng_toInt _ | with_reducible exact rng_wr _ | (unfold rng; omega) | (unfold rng at *; omega) | assumption)⟩, ?_⟩
    refine ⟨c, hv4, fun kk_c_1 => ?_⟩
    intro σ30 eσ30
    have xσ30 : Ext σ σ30 := by rw [eσ30]; exact fun _ h => ⟨h, rfl, rfl⟩
    have iσ30 : IV σ30 pl gq ci gr nc ot LL N nu := by rw [eσ30]; exact iσ.wJ kc (by decide)
    have fσ30 : Fx [1, 2, 3, 4, 5, 6, 7, 64, 512, 513, 514, 708, 6464] gr σ σ30 := fσ.tr (Sk.fx (by rw [eσ30]; exact Sk.pJ (by rw [fcdO kc (by decide)]; decide)))
    have kp3 : gI σ30 o 14 = gI σ o 14 := by rw [eσ30]
    have kp4 : gP σ30 c 0 = gP σ c 0 := by rw [eσ30]
    have kp5 : gP σ30 th 5 = gP σ th 5 := by rw [eσ30]
    have kp6 : gI σ30 t 0 = gI σ t 0 := by rw [eσ30]
    rw [if_pos hc1]
    unfold w_X11_joinRow_40
    refine ⟨t, hv2, fun kk_t => ?_⟩
    obtain ⟨b_1, eb_1, fb_1⟩ := P_10_2 iσ30.1 (kt.up xσ30)
    have mb_1 : kO σ30 b_1 1 := iσ30.1.kd (kt.up xσ30) rfl eb_1 rfl
    refine ⟨b_1, eb_1, fun kk_b_1 => ?_⟩
    unfold w_X11_joinRow_47
    have rc9 := iσ30.recs4 (kth.up xσ30) (by omega)
    have q4 := I_11_4 iσ30.1 (kth.up xσ30)
    have le9 : (LL b_1).length ≤ N 41 + N 42 := by rcases (show gq b_1 = 41 ∨ gq b_1 = 42 by omega) with e | e <;> (have := iσ30.le mb_1.1 (by omega); rw [e] at this; omega)
    have Lp49 : ∀ (fu49 : Nat) (τ49 : Sg) (LLt49 : Nat → List Nat) (Nt49 nut49 : Nat → Nat) (v5 : Option Nat), IV τ49 pl gq ci gr nc ot LLt49 Nt49 nut49 → Fx [1, 2, 3, 4, 5, 6, 7, 64, 512, 513, 514, 708, 6464] gr σ τ49 → Ext σ30 τ49 → NU nu nut49 → Hn (gD σ) [44, 41, 42] [c] gq LL LLt49 N Nt49 → (∀ x, c ∉ LLt49 x) → (∃ (A B : List Nat), ((LLt49 b_1 = A ++ B ∧ v5 = B.head?) ∧ Nt49 1 = N 1 ∧ Nt49 44 + B.length ≤ N 44 + 4001 ∧ Nt49 41 = N 41 ∧ Nt49 42 = N 42) ∧ (B.length) < fu49) → wl_X11_joinRow_49 th Q X fu49 τ49 v1 v2 v3 v4 v5 := by
      intro fu49
      induction fu49 with
      | zero => intro _ _ _ _ _ _ _ _ _ _ _ h9; obtain ⟨_, _, _, h9⟩ := h9; omega
      | succ fu49 ih49 =>
        intro τ49 LLt49 Nt49 nut49 v5 iτ49 fτ49 xτ49 nu_τ49 hnτ49 hg_c_τ49 hi49
        obtain ⟨A, B, hi49, hm49⟩ := hi49
        have nτ49_3 := hnτ49.2.2 3 (by first | decide | (simp; done) | (simp only [List.mem_cons, List.mem_nil_iff, or_false, not_or]; omega)) (by first | decide | omega) (by first | decide | omega) (by first | decide | omega)
        have nτ49_5 := hnτ49.2.2 5 (by first | decide | (simp; done) | (simp only [List.mem_cons, List.mem_nil_iff, or_false, not_or]; omega)) (by first | decide | omega) (by first | decide | omega) (by first | decide | omega)
        have nτ49_14 := hnτ49.2.2 14 (by first | decide | (simp; done) | (simp only [List.mem_cons, List.mem_nil_iff, or_false, not_or]; omega)) (by first | decide | omega) (by first | decide | omega) (by first | decide | omega)
        have nτ49_74 := hnτ49.2.2 74 (by first | decide | (simp; done) | (simp only [List.mem_cons, List.mem_nil_iff, or_false, not_or]; omega)) (by first | decide | omega) (by first | decide | omega) (by first | decide | omega)
        have nτ49_11 := hnτ49.2.2 11 (by first | decide | (simp; done) | (simp only [List.mem_cons, List.mem_nil_iff, or_false, not_or]; omega)) (by first | decide | omega) (by first | decide | omega) (by first | decide | omega)
        have nτ49_12 := hnτ49.2.2 12 (by first | decide | (simp; done) | (simp only [List.mem_cons, List.mem_nil_iff, or_false, not_or]; omega)) (by first | decide | omega) (by first | decide | omega) (by first | decide | omega)
        have nτ49_13 := hnτ49.2.2 13 (by first | decide | (simp; done) | (simp only [List.mem_cons, List.mem_nil_iff, or_false, not_or]; omega)) (by first | decide | omega) (by first | decide | omega) (by first | decide | omega)
        have uτ49_0 := nu_τ49.1 0 (by decide)
        have uτ49_1 := nu_τ49.1 1 (by decide)
        have uτ49_2 := nu_τ49.2
        have uτ49_5 := nu_τ49.1 5 (by decide)
        have uτ49_15 := nu_τ49.1 15 (by decide)
        have uτ49_16 := nu_τ49.1 16 (by decide)
        unfold wl_X11_joinRow_49
        have kp8 : gI τ49 o 14 = gI σ o 14 := (fτ49.O ko (by decide)).1
        have kp9 : gP τ49 c 0 = gP σ c 0 := (fτ49.O kc (by decide)).2.1
        have kp10 : gP τ49 th 5 = gP σ th 5 := (fτ49.O kth (by decide)).2.1
        have kp11 : gI τ49 t 0 = gI σ t 0 := (fτ49.O kt (by decide)).1
        have kp12 : gI τ49 o 14 = gI σ30 o 14 := (fτ49.O ko (by decide)).1.trans (fσ30.O ko (by decide)).1.symm
        have kp13 : gP τ49 t 2 = gP σ30 t 2 := (fτ49.O kt (by decide)).2.1.trans (fσ30.O kt (by decide)).2.1.symm
        have kp14 : gI τ49 t 0 = gI σ30 t 0 := (fτ49.O kt (by decide)).1.trans (fσ30.O kt (by decide)).1.symm
        unfold w_X11_joinRow_49
        by_cases hc15 : v5 = none
        · rw [if_pos hc15]
          unfold w_X11_joinRow_171
          refine i4_keep2 iτ49 (kth.up (xσ30.trans xτ49)) hv1 (ko.up (xσ30.trans xτ49)) hv2 (kt.up (xσ30.trans xτ49)) hv4 (kc.up (xσ30.trans xτ49)) (by (first | omega | with_reducible assumption | with_reducible exact rng_toInt _ | with_reducible exact rng_wr _ | (unfold rng; omega) | (unfold rng at *; omega) | assumption)) (by (first | omega | with_reducible assumption | with_reducible exact rng_toInt _ | with_reducible exact rng_wr _ | (unfold rng; omega) | (unfold rng at *; omega) | assumption)) (by (first | omega | with_reducible assumption | with_reducible exact rng_toInt _ | with_reducible exact rng_wr _ | (unfold rng; omega) | (unfold rng at *; omega) | assumption)) (kp10.trans hj) (kJ.up (xσ30.trans xτ49)) (by (first | omega | with_reducible assumption | with_reducible exact rng_toInt _ | with_reducible exact rng_wr _ | (unfold rng; omega) | (unfold rng at *; omega) | assumption)) (by (first | omega | with_reducible assumption | with_reducible exact rng_toInt _ | with_reducible exact rng_wr _ | (unfold rng; omega) | (unfold rng at *; omega) | assumption)) (by (first | omega | with_reducible assumption | with_reducible exact rng_toInt _ | with_reducible exact rng_wr _ | (unfold rng; omega) | (unfold rng at *; omega) | assumption)) (by (first | omega | with_reducible assumption | with_reducible exact rng_toInt _ | with_reducible exact rng_wr _ | (unfold rng; omega) | (unfold rng at *; omega) | assumption)) (by (first | omega | with_reducible assumption | with_reducible exact rng_toInt _ | with_reducible exact rng_wr _ | (unfold rng; omega) | (unfold rng at *; omega) | assumption)) (by (first | omega | with_reducible assumption | with_reducible exact rng_toInt _ | with_reducible exact rng_wr _ | (unfold rng; omega) | (unfold rng at *; omega) | assumption)) (fun σ47 LLσ47 Nσ47 nuσ47 _ iσ47 cσ47 uσ47 hσ47 pσ47 => ?_) (fun σx LLx Nx nux E ix cx ux px => hX σx LLx Nx nux E ix (fτ49.tr (cx.mo (by decide))) (nu_τ49.x ux) (by first | exact px | exact ⟨by have := px.1; omega, (Hn.nz hnτ49 (by first | decide | (intro x hx; simp only [List.mem_cons, List.mem_nil_iff, or_false] at hx; omega))).tr px.2.1, px.2.2⟩ | (first | omega | with_reducible assumption | with_reducible exact rng_toInt _ | with_reducible exact rng_wr _ | (unfold rng; omega) | (unfold rng at *; omega) | assumption)))
          intro xσ47
          have fσ47 : Fx [1, 2, 3, 4, 5, 6, 7, 64, 512, 513, 514, 708, 6464] gr σ σ47 := fτ49.tr (cσ47.mo (by decide))
          have hnσ47 : Hn (gD σ) [44, 41, 42] [c] gq LL LLσ47 N Nσ47 := hnτ49.go hσ47 (fun d hd => (fτ49.1 d hd).1) (by first | decide | exact fun _ h => h | (simp; done) | (intro x hx; simp only [List.mem_cons, List.mem_nil_iff, or_false] at hx ⊢; omega)) (fun d hd => by rw [List.mem_singleton.mp hd]; exact lo_c)
          have nσ47_3 := hσ47.2.2 3 (by first | decide | (simp; done) | (simp only [List.mem_cons, List.mem_nil_iff, or_false, not_or]; omega)) (by first | decide | omega) (by first | decide | omega) (by first | decide | omega)
          have nσ47_5 := hσ47.2.2 5 (by first | decide | (simp; done) | (simp only [List.mem_cons, List.mem_nil_iff, or_false, not_or]; omega)) (by first | decide | omega) (by first | decide | omega) (by first | decide | omega)
          have nσ47_14 := hσ47.2.2 14 (by first | decide | (simp; done) | (simp only [List.mem_cons, List.mem_nil_iff, or_false, not_or]; omega)) (by first | decide | omega) (by first | decide | omega) (by first | decide | omega)
          have nσ47_44 := hσ47.2.2 44 (by first | decide | (simp; done) | (simp only [List.mem_cons, List.mem_nil_iff, or_false, not_or]; omega)) (by first | decide | omega) (by first | decide | omega) (by first | decide | omega)
          have nσ47_74 := hσ47.2.2 74 (by first | decide | (simp; done) | (simp only [List.mem_cons, List.mem_nil_iff, or_false, not_or]; omega)) (by first | decide | omega) (by first | decide | omega) (by first | decide | omega)
          have nσ47_11 := hσ47.2.2 11 (by first | decide | (simp; done) | (simp only [List.mem_cons, List.mem_nil_iff, or_false, not_or]; omega)) (by first | decide | omega) (by first | decide | omega) (by first | decide | omega)
          have nσ47_12 := hσ47.2.2 12 (by first | decide | (simp; done) | (simp only [List.mem_cons, List.mem_nil_iff, or_false, not_or]; omega)) (by first | decide | omega) (by first | decide | omega) (by first | decide | omega)
          have nσ47_13 := hσ47.2.2 13 (by first | decide | (simp; done) | (simp only [List.mem_cons, List.mem_nil_iff, or_false, not_or]; omega)) (by first | decide | omega) (by first | decide | omega) (by first | decide | omega)
          have nu_σ47 : NU nu nuσ47 := nu_τ49.tr uσ47
          have uσ47_0 := uσ47.1 0 (by decide)
          have uσ47_1 := uσ47.1 1 (by decide)
          have uσ47_2 := uσ47.2
          have uσ47_5 := uσ47.1 5 (by decide)
          have uσ47_15 := uσ47.1 15 (by decide)
          have uσ47_16 := uσ47.1 16 (by decide)
          have kp16 : gI σ47 o 14 = gI τ49 o 14 := (cσ47.O (ko.up (xσ30.trans xτ49)) (by decide)).1
          have kp17 : gP σ47 c 0 = gP τ49 c 0 := (cσ47.O (kc.up (xσ30.trans xτ49)) (by decide)).2.1
          have kp18 : gP σ47 t 2 = gP τ49 t 2 := (cσ47.O (kt.up (xσ30.trans xτ49)) (by decide)).2.1
          have kp19 : gP σ47 th 5 = gP τ49 th 5 := (cσ47.O (kth.up (xσ30.trans xτ49)) (by decide)).2.1
          have kp20 : gI σ47 t 0 = gI τ49 t 0 := (cσ47.O (kt.up (xσ30.trans xτ49)) (by decide)).1
          exact hQ σ47 LLσ47 Nσ47 nuσ47 () iσ47 fσ47 (nu_σ47) hnσ47 (by (first | omega | with_reducible assumption | with_reducible exact rng_toInt _ | with_reducible exact rng_wr _ | (unfold rng; omega) | (unfold rng at *; omega) | assumption))
        · rw [if_neg hc15]
          unfold w_X11_joinRow_54
          rw [if_pos hc1]
          unfold w_X11_joinRow_72
          refine ⟨c, hv4, fun kk_c_2 => ?_⟩
          obtain ⟨b_2, eb_2⟩ := Option.ne_none_iff_exists'.mp hc15
          refine ⟨b_2, eb_2, fun kk_b_2 => ?_⟩
          unfold w_X11_joinRow_83
          refine ⟨b_2, eb_2, fun kk_b_2_1 => ?_⟩
          refine ⟨c, hv4, fun kk_c_3 => ?_⟩
          by_cases hc22 : gJ τ49 b_2 7 ≠ gJ τ49 c 7
          · rw [if_pos hc22]
            unfold w_X11_joinRow_161
            obtain ⟨A1, B1, p1, p2, p3, p4⟩ := it_step iτ49 (mb_1.up xτ49) ⟨by first | exact hi49.1.1 | (rw [hLc]; exact hi49.1.1), hi49.1.2⟩ eb_2
            refine ⟨b_2, eb_2, fun kk_b_2_2 => ?_⟩
            exact ih49 τ49 LLt49 Nt49 nut49 (gP τ49 b_2 1) iτ49 fτ49 xτ49 nu_τ49 hnτ49 hg_c_τ49 (⟨A1, B1, ⟨⟨p1, p2⟩, by omega, by omega, by omega, by omega⟩, by omega⟩)
          · rw [if_neg hc22]
            have hc22q := Classical.not_not.mp hc22
            unfold w_X11_joinRow_99
            refine ⟨o, hv1, fun kk_o_1 => ?_⟩
            have q24 := I_5_15 iτ49.1 (ko.up (xσ30.trans xτ49))
            by_cases hc23 : (gJ τ49 c 5 - gJ τ49 b_2 5) < (Int64.ofInt (gI τ49 o 15))
            · rw [if_pos hc23]
              unfold w_X11_joinRow_161
              obtain ⟨A1, B1, p1, p2, p3, p4⟩ := it_step iτ49 (mb_1.up xτ49) ⟨by first | exact hi49.1.1 | (rw [hLc]; exact hi49.1.1), hi49.1.2⟩ eb_2
              refine ⟨b_2, eb_2, fun kk_b_2_3 => ?_⟩
              exact ih49 τ49 LLt49 Nt49 nut49 (gP τ49 b_2 1) iτ49 fτ49 xτ49 nu_τ49 hnτ49 hg_c_τ49 (⟨A1, B1, ⟨⟨p1, p2⟩, by omega, by omega, by omega, by omega⟩, by omega⟩)
            · rw [if_neg hc23]
              unfold w_X11_joinRow_110
              refine ⟨o, hv1, fun kk_o_2 => ?_⟩
              have q26 := I_5_16 iτ49.1 (ko.up (xσ30.trans xτ49))
              by_cases hc25 : (gJ τ49 c 5 - gJ τ49 b_2 5) > (Int64.ofInt (gI τ49 o 16))
              · rw [if_pos hc25]
                unfold w_X11_joinRow_161
                obtain ⟨A1, B1, p1, p2, p3, p4⟩ := it_step iτ49 (mb_1.up xτ49) ⟨by first | exact hi49.1.1 | (rw [hLc]; exact hi49.1.1), hi49.1.2⟩ eb_2
                refine ⟨b_2, eb_2, fun kk_b_2_4 => ?_⟩
                exact ih49 τ49 LLt49 Nt49 nut49 (gP τ49 b_2 1) iτ49 fτ49 xτ49 nu_τ49 hnτ49 hg_c_τ49 (⟨A1, B1, ⟨⟨p1, p2⟩, by omega, by omega, by omega, by omega⟩, by omega⟩)
              · rw [if_neg hc25]
                unfold w_X11_joinRow_121
                rw [if_pos hc1]
                unfold w_X11_joinRow_132
                unfold w_X11_joinRow_134
                rw [if_pos hc1]
                unfold w_X11_joinRow_143
                unfold w_X11_joinRow_145
                refine ⟨b_2, eb_2, fun kk_b_2_5 => ?_⟩
                refine ⟨c, hv4, fun kk_c_4 => ?_⟩
                refine i_J9_max_f86c9 iτ49 (fun r42 pσ41 => ?_)
                intro xσ41
                refine i4_X11_addPair iτ49 (kth.up (xσ30.trans xτ49)) hv1 (ko.up (xσ30.trans xτ49)) eb_2 kk_b_2 hv4 (kc.up (xσ30.trans xτ49)) (by (first | omega | with_reducible assumption | with_reducible exact rng_toInt _ | with_reducible exact rng_wr _ | (unfold rng; omega) | (unfold rng at *; omega) | assumption)) (kp10.trans hj) (kJ.up (xσ30.trans xτ49)) (by (first | omega | with_reducible assumption | with_reducible exact rng_toInt _ | with_reducible exact rng_wr _ | (unfold rng; omega) | (unfold rng at *; omega) | assumption)) (by (first | omega | with_reducible assumption | with_reducible exact rng_toInt _ | with_reducible exact rng_wr _ | (unfold rng; omega) | (unfold rng at *; omega) | assumption)) (by (first | omega | with_reducible assumption | with_reducible exact rng_toInt _ | with_reducible exact rng_wr _ | (unfold rng; omega) | (unfold rng at *; omega) | assumption)) (by omega) (by (first | omega | with_reducible assumption | with_reducible exact rng_toInt _ | with_reducible exact rng_wr _ | (unfold rng; omega) | (unfold rng at *; omega) | assumption)) (by (first | omega | with_reducible assumption | with_reducible exact rng_toInt _ | with_reducible exact rng_wr _ | (unfold rng; omega) | (unfold rng at *; omega) | assumption)) (by rcases pσ41 with e9 | e9 <;> rw [e9]; exact iτ49.t5 kk_b_2; exact iτ49.t5 (kc.up (xσ30.trans xτ49))) (fun σ43 LLσ43 Nσ43 nuσ43 _ iσ43 cσ43 uσ43 hσ43 pσ43 => ?_) (fun σx LLx Nx nux E ix cx ux px => hX σx LLx Nx nux E ix (fτ49.tr (cx.mo (by decide))) (nu_τ49.x ux) (by first | exact px | exact ⟨by have := px.1; omega, (Hn.nz hnτ49 (by first | decide | (intro x hx; simp only [List.mem_cons, List.mem_nil_iff, or_false] at hx; omega))).tr px.2.1, px.2.2⟩ | (first | omega | with_reducible assumption | with_reducible exact rng_toInt _ | with_reducible exact rng_wr _ | (unfold rng; omega) | (unfold rng at *; omega) | assumption)))
                intro xσ43
                have fσ43 : Fx [1, 2, 3, 4, 5, 6, 7, 64, 512, 513, 514, 708, 6464] gr σ σ43 := fτ49.tr (cσ43.mo (by decide))
                have hnσ43 : Hn (gD σ) [44, 41, 42] [c] gq LL LLσ43 N Nσ43 := hnτ49.go hσ43 (fun d hd => (fτ49.1 d hd).1) (by first | decide | exact fun _ h => h | (simp; done) | (intro x hx; simp only [List.mem_cons, List.mem_nil_iff, or_false] at hx ⊢; omega)) (fun d hd => absurd hd (by simp))
                have hg_c_σ43 : ∀ x, c ∉ LLσ43 x := hσ43.2.1 c (kc.up (xσ30.trans xτ49)).1 (by simp) hg_c_τ49
                have nσ43_3 := hσ43.2.2 3 (by first | decide | (simp; done) | (simp only [List.mem_cons, List.mem_nil_iff, or_false, not_or]; omega)) (by first | decide | omega) (by first | decide | omega) (by first | decide | omega)
                have nσ43_5 := hσ43.2.2 5 (by first | decide | (simp; done) | (simp only [List.mem_cons, List.mem_nil_iff, or_false, not_or]; omega)) (by first | decide | omega) (by first | decide | omega) (by first | decide | omega)
                have nσ43_14 := hσ43.2.2 14 (by first | decide | (simp; done) | (simp only [List.mem_cons, List.mem_nil_iff, or_false, not_or]; omega)) (by first | decide | omega) (by first | decide | omega) (by first | decide | omega)
                have nσ43_74 := hσ43.2.2 74 (by first | decide | (simp; done) | (simp only [List.mem_cons, List.mem_nil_iff, or_false, not_or]; omega)) (by first | decide | omega) (by first | decide | omega) (by first | decide | omega)
                have nσ43_11 := hσ43.2.2 11 (by first | decide | (simp; done) | (simp only [List.mem_cons, List.mem_nil_iff, or_false, not_or]; omega)) (by first | decide | omega) (by first | decide | omega) (by first | decide | omega)
                have nσ43_12 := hσ43.2.2 12 (by first | decide | (simp; done) | (simp only [List.mem_cons, List.mem_nil_iff, or_false, not_or]; omega)) (by first | decide | omega) (by first | decide | omega) (by first | decide | omega)
                have nσ43_41 := hσ43.2.2 41 (by first | decide | (simp; done) | (simp only [List.mem_cons, List.mem_nil_iff, or_false, not_or]; omega)) (by first | decide | omega) (by first | decide | omega) (by first | decide | omega)
                have nσ43_42 := hσ43.2.2 42 (by first | decide | (simp; done) | (simp only [List.mem_cons, List.mem_nil_iff, or_false, not_or]; omega)) (by first | decide | omega) (by first | decide | omega) (by first | decide | omega)
                have nσ43_13 := hσ43.2.2 13 (by first | decide | (simp; done) | (simp only [List.mem_cons, List.mem_nil_iff, or_false, not_or]; omega)) (by first | decide | omega) (by first | decide | omega) (by first | decide | omega)
                have nu_σ43 : NU nu nuσ43 := nu_τ49.tr uσ43
                have uσ43_0 := uσ43.1 0 (by decide)
                have uσ43_1 := uσ43.1 1 (by decide)
                have uσ43_2 := uσ43.2
                have uσ43_5 := uσ43.1 5 (by decide)
                have uσ43_15 := uσ43.1 15 (by decide)
                have uσ43_16 := uσ43.1 16 (by decide)
                have kp29 : gI σ43 o 14 = gI τ49 o 14 := (cσ43.O (ko.up (xσ30.trans xτ49)) (by decide)).1
                have kp30 : gI σ43 o 15 = gI τ49 o 15 := (cσ43.O (ko.up (xσ30.trans xτ49)) (by decide)).1
                have kp31 : gI σ43 o 16 = gI τ49 o 16 := (cσ43.O (ko.up (xσ30.trans xτ49)) (by decide)).1
                have kp32 : gP σ43 c 0 = gP τ49 c 0 := (cσ43.O (kc.up (xσ30.trans xτ49)) (by decide)).2.1
                have kp33 : gP σ43 t 2 = gP τ49 t 2 := (cσ43.O (kt.up (xσ30.trans xτ49)) (by decide)).2.1
                have kp34 : gP σ43 th 5 = gP τ49 th 5 := (cσ43.O (kth.up (xσ30.trans xτ49)) (by decide)).2.1
                have kp35 : gI σ43 t 0 = gI τ49 t 0 := (cσ43.O (kt.up (xσ30.trans xτ49)) (by decide)).1
                have hLc := hσ43.1 b_1 (mb_1.up xτ49).1 (by first | (simp; done) | (simp only [List.mem_cons, List.mem_nil_iff, or_false, not_or]; omega)) (by omega)
                unfold w_X11_joinRow_161
                obtain ⟨A1, B1, p1, p2, p3, p4⟩ := it_step iσ43 (mb_1.up (xτ49.trans xσ43)) ⟨by first | exact hi49.1.1 | (rw [hLc]; exact hi49.1.1), hi49.1.2⟩ eb_2
                refine ⟨b_2, eb_2, fun kk_b_2_6 => ?_⟩
                exact ih49 σ43 LLσ43 Nσ43 nuσ43 (gP σ43 b_2 1) iσ43 fσ43 (xτ49.trans xσ43) nu_σ43 hnσ43 hg_c_σ43 (⟨A1, B1, ⟨⟨p1, p2⟩, by omega, by omega, by omega, by omega⟩, by omega⟩)
    exact ⟨(LL b_1).length + 1, Lp49 _ σ30 LL N nu _ iσ30 fσ30 (Ext.rfl' _) NU.rf hnσ hf (⟨[], LL b_1, ⟨⟨by simp, iσ30.first mb_1⟩, rfl, by omega, rfl, rfl⟩, Nat.lt_succ_self _⟩)⟩
  · rw [if_neg hc1]
    have hc1q := Classical.not_not.mp hc1
    unfold w_X11_joinRow_11
    refine ⟨o, hv1, fun kk_o_3 => ?_⟩
    unfold w_X11_joinRow_22
    obtain ⟨b_3, eb_3, fb_3⟩ := P_0_0 iσ.1 kc
    have mb_3 : kO σ b_3 101 := iσ.1.kd kc rfl eb_3 rfl
    refine ⟨b_3, eb_3, fun kk_b_3 => ?_⟩
    have q36 := I_5_13 iσ.1 ko
    refine ⟨⟨by (first | omega | with_reducible assumption | with_reducible exact rng_toInt _ | with_reducible exact rng_wr _ | (unfold rng; omega) | (unfold rng at *; omega) | assumption), by (first | omega | with_reducible assumption | with_reducible exact rng_toInt _ | with_reducible exact rng_wr _ | (unfold rng; omega) | (unfold rng at *; omega) | assumption)⟩, ?_⟩
    refine ⟨c, hv4, fun kk_c_5 => ?_⟩
    intro σ30_1 eσ30_1
    have xσ30_1 : Ext σ σ30_1 := by rw [eσ30_1]; exact fun _ h => ⟨h, rfl, rfl⟩
    have iσ30_1 : IV σ30_1 pl gq ci gr nc ot LL N nu := by rw [eσ30_1]; exact iσ.wJ kc (by decide)
    have fσ30_1 : Fx [1, 2, 3, 4, 5, 6, 7, 64, 512, 513, 514, 708, 6464] gr σ σ30_1 := fσ.tr (Sk.fx (by rw [eσ30_1]; exact Sk.pJ (by rw [fcdO kc (by decide)]; decide)))
    have kp37 : gI σ30_1 o 13 = gI σ o 13 := by rw [eσ30_1]
    have kp38 : gP σ30_1 c 0 = gP σ c 0 := by rw [eσ30_1]
    have kp39 : gP σ30_1 th 5 = gP σ th 5 := by rw [eσ30_1]
    have kp40 : gI σ30_1 t 0 = gI σ t 0 := by rw [eσ30_1]
    rw [if_neg hc1]
    unfold w_X11_joinRow_30
    refine ⟨t, hv2, fun kk_t_1 => ?_⟩
    obtain ⟨b_4, eb_4, fb_4⟩ := P_10_3 iσ30_1.1 (kt.up xσ30_1)
    have mb_4 : kO σ30_1 b_4 1 := iσ30_1.1.kd (kt.up xσ30_1) rfl eb_4 rfl
    refine ⟨b_4, eb_4, fun kk_b_4 => ?_⟩
    unfold w_X11_joinRow_47
    have rc9 := iσ30_1.recs4 (kth.up xσ30_1) (by omega)
    have q4 := I_11_4 iσ30_1.1 (kth.up xσ30_1)
    have le9 : (LL b_4).length ≤ N 41 + N 42 := by rcases (show gq b_4 = 41 ∨ gq b_4 = 42 by omega) with e | e <;> (have := iσ30_1.le mb_4.1 (by omega); rw [e] at this; omega)
    have Lp49 : ∀ (fu49 : Nat) (τ49 : Sg) (LLt49 : Nat → List Nat) (Nt49 nut49 : Nat → Nat) (v5 : Option Nat), IV τ49 pl gq ci gr nc ot LLt49 Nt49 nut49 → Fx [1, 2, 3, 4, 5, 6, 7, 64, 512, 513, 514, 708, 6464] gr σ τ49 → Ext σ30_1 τ49 → NU nu nut49 → Hn (gD σ) [44, 41, 42] [c] gq LL LLt49 N Nt49 → (∀ x, c ∉ LLt49 x) → (∃ (A B : List Nat), ((LLt49 b_4 = A ++ B ∧ v5 = B.head?) ∧ Nt49 1 = N 1 ∧ Nt49 44 + B.length ≤ N 44 + 4001 ∧ Nt49 41 = N 41 ∧ Nt49 42 = N 42) ∧ (B.length) < fu49) → wl_X11_joinRow_49 th Q X fu49 τ49 v1 v2 v3 v4 v5 := by
      intro fu49
      induction fu49 with
      | zero => intro _ _ _ _ _ _ _ _ _ _ _ h9; obtain ⟨_, _, _, h9⟩ := h9; omega
      | succ fu49 ih49 =>
        intro τ49 LLt49 Nt49 nut49 v5 iτ49 fτ49 xτ49 nu_τ49 hnτ49 hg_c_τ49 hi49
        obtain ⟨A, B, hi49, hm49⟩ := hi49
        have nτ49_3 := hnτ49.2.2 3 (by first | decide | (simp; done) | (simp only [List.mem_cons, List.mem_nil_iff, or_false, not_or]; omega)) (by first | decide | omega) (by first | decide | omega) (by first | decide | omega)
        have nτ49_5 := hnτ49.2.2 5 (by first | decide | (simp; done) | (simp only [List.mem_cons, List.mem_nil_iff, or_false, not_or]; omega)) (by first | decide | omega) (by first | decide | omega) (by first | decide | omega)
        have nτ49_14 := hnτ49.2.2 14 (by first | decide | (simp; done) | (simp only [List.mem_cons, List.mem_nil_iff, or_false, not_or]; omega)) (by first | decide | omega) (by first | decide | omega) (by first | decide | omega)
        have nτ49_74 := hnτ49.2.2 74 (by first | decide | (simp; done) | (simp only [List.mem_cons, List.mem_nil_iff, or_false, not_or]; omega)) (by first | decide | omega) (by first | decide | omega) (by first | decide | omega)
        have nτ49_11 := hnτ49.2.2 11 (by first | decide | (simp; done) | (simp only [List.mem_cons, List.mem_nil_iff, or_false, not_or]; omega)) (by first | decide | omega) (by first | decide | omega) (by first | decide | omega)
        have nτ49_12 := hnτ49.2.2 12 (by first | decide | (simp; done) | (simp only [List.mem_cons, List.mem_nil_iff, or_false, not_or]; omega)) (by first | decide | omega) (by first | decide | omega) (by first | decide | omega)
        have nτ49_13 := hnτ49.2.2 13 (by first | decide | (simp; done) | (simp only [List.mem_cons, List.mem_nil_iff, or_false, not_or]; omega)) (by first | decide | omega) (by first | decide | omega) (by first | decide | omega)
        have uτ49_0 := nu_τ49.1 0 (by decide)
        have uτ49_1 := nu_τ49.1 1 (by decide)
        have uτ49_2 := nu_τ49.2
        have uτ49_5 := nu_τ49.1 5 (by decide)
        have uτ49_15 := nu_τ49.1 15 (by decide)
        have uτ49_16 := nu_τ49.1 16 (by decide)
        unfold wl_X11_joinRow_49
        have kp42 : gI τ49 o 13 = gI σ o 13 := (fτ49.O ko (by decide)).1
        have kp43 : gP τ49 c 0 = gP σ c 0 := (fτ49.O kc (by decide)).2.1
        have kp44 : gP τ49 th 5 = gP σ th 5 := (fτ49.O kth (by decide)).2.1
        have kp45 : gI τ49 t 0 = gI σ t 0 := (fτ49.O kt (by decide)).1
        have kp46 : gI τ49 o 13 = gI σ30_1 o 13 := (fτ49.O ko (by decide)).1.trans (fσ30_1.O ko (by decide)).1.symm
        have kp47 : gP τ49 t 3 = gP σ30_1 t 3 := (fτ49.O kt (by decide)).2.1.trans (fσ30_1.O kt (by decide)).2.1.symm
        have kp48 : gI τ49 t 0 = gI σ30_1 t 0 := (fτ49.O kt (by decide)).1.trans (fσ30_1.O kt (by decide)).1.symm
        unfold w_X11_joinRow_49
        by_cases hc49 : v5 = none
        · rw [if_pos hc49]
          unfold w_X11_joinRow_171
          refine i4_keep2 iτ49 (kth.up (xσ30_1.trans xτ49)) hv1 (ko.up (xσ30_1.trans xτ49)) hv2 (kt.up (xσ30_1.trans xτ49)) hv4 (kc.up (xσ30_1.trans xτ49)) (by (first | omega | with_reducible assumption | with_reducible exact rng_toInt _ | with_reducible exact rng_wr _ | (unfold rng; omega) | (unfold rng at *; omega) | assumption)) (by (first | omega | with_reducible assumption | with_reducible exact rng_toInt _ | with_reducible exact rng_wr _ | (unfold rng; omega) | (unfold rng at *; omega) | assumption)) (by (first | omega | with_reducible assumption | with_reducible exact rng_toInt _ | with_reducible exact rng_wr _ | (unfold rng; omega) | (unfold rng at *; omega) | assumption)) (kp44.trans hj) (kJ.up (xσ30_1.trans xτ49)) (by (first | omega | with_reducible assumption | with_reducible exact rng_toInt _ | with_reducible exact rng_wr _ | (unfold rng; omega) | (unfold rng at *; omega) | assumption)) (by (first | omega | with_reducible assumption | with_reducible exact rng_toInt _ | with_reducible exact rng_wr _ | (unfold rng; omega) | (unfold rng at *; omega) | assumption)) (by (first | omega | with_reducible assumption | with_reducible exact rng_toInt _ | with_reducible exact rng_wr _ | (unfold rng; omega) | (unfold rng at *; omega) | assumption)) (by (first | omega | with_reducible assumption | with_reducible exact rng_toInt _ | with_reducible exact rng_wr _ | (unfold rng; omega) | (unfold rng at *; omega) | assumption)) (by (first | omega | with_reducible assumption | with_reducible exact rng_toInt _ | with_reducible exact rng_wr _ | (unfold rng; omega) | (unfold rng at *; omega) | assumption)) (by (first | omega | with_reducible assumption | with_reducible exact rng_toInt _ | with_reducible exact rng_wr _ | (unfold rng; omega) | (unfold rng at *; omega) | assumption)) (fun σ47_1 LLσ47_1 Nσ47_1 nuσ47_1 _ iσ47_1 cσ47_1 uσ47_1 hσ47_1 pσ47_1 => ?_) (fun σx LLx Nx nux E ix cx ux px => hX σx LLx Nx nux E ix (fτ49.tr (cx.mo (by decide))) (nu_τ49.x ux) (by first | exact px | exact ⟨by have := px.1; omega, (Hn.nz hnτ49 (by first | decide | (intro x hx; simp only [List.mem_cons, List.mem_nil_iff, or_false] at hx; omega))).tr px.2.1, px.2.2⟩ | (first | omega | with_reducible assumption | with_reducible exact rng_toInt _ | with_reducible exact rng_wr _ | (unfold rng; omega) | (unfold rng at *; omega) | assumption)))
          intro xσ47_1
          have fσ47_1 : Fx [1, 2, 3, 4, 5, 6, 7, 64, 512, 513, 514, 708, 6464] gr σ σ47_1 := fτ49.tr (cσ47_1.mo (by decide))
          have hnσ47_1 : Hn (gD σ) [44, 41, 42] [c] gq LL LLσ47_1 N Nσ47_1 := hnτ49.go hσ47_1 (fun d hd => (fτ49.1 d hd).1) (by first | decide | exact fun _ h => h | (simp; done) | (intro x hx; simp only [List.mem_cons, List.mem_nil_iff, or_false] at hx ⊢; omega)) (fun d hd => by rw [List.mem_singleton.mp hd]; exact lo_c)
          have nσ47_1_3 := hσ47_1.2.2 3 (by first | decide | (simp; done) | (simp only [List.mem_cons, List.mem_nil_iff, or_false, not_or]; omega)) (by first | decide | omega) (by first | decide | omega) (by first | decide | omega)
          have nσ47_1_5 := hσ47_1.2.2 5 (by first | decide | (simp; done) | (simp only [List.mem_cons, List.mem_nil_iff, or_false, not_or]; omega)) (by first | decide | omega) (by first | decide | omega) (by first | decide | omega)
          have nσ47_1_14 := hσ47_1.2.2 14 (by first | decide | (simp; done) | (simp only [List.mem_cons, List.mem_nil_iff, or_false, not_or]; omega)) (by first | decide | omega) (by first | decide | omega) (by first | decide | omega)
          have nσ47_1_44 := hσ47_1.2.2 44 (by first | decide | (simp; done) | (simp only [List.mem_cons, List.mem_nil_iff, or_false, not_or]; omega)) (by first | decide | omega) (by first | decide | omega) (by first | decide | omega)
          have nσ47_1_74 := hσ47_1.2.2 74 (by first | decide | (simp; done) | (simp only [List.mem_cons, List.mem_nil_iff, or_false, not_or]; omega)) (by first | decide | omega) (by first | decide | omega) (by first | decide | omega)
          have nσ47_1_11 := hσ47_1.2.2 11 (by first | decide | (simp; done) | (simp only [List.mem_cons, List.mem_nil_iff, or_false, not_or]; omega)) (by first | decide | omega) (by first | decide | omega) (by first | decide | omega)
          have nσ47_1_12 := hσ47_1.2.2 12 (by first | decide | (simp; done) | (simp only [List.mem_cons, List.mem_nil_iff, or_false, not_or]; omega)) (by first | decide | omega) (by first | decide | omega) (by first | decide | omega)
          have nσ47_1_13 := hσ47_1.2.2 13 (by first | decide | (simp; done) | (simp only [List.mem_cons, List.mem_nil_iff, or_false, not_or]; omega)) (by first | decide | omega) (by first | decide | omega) (by first | decide | omega)
          have nu_σ47_1 : NU nu nuσ47_1 := nu_τ49.tr uσ47_1
          have uσ47_1_0 := uσ47_1.1 0 (by decide)
          have uσ47_1_1 := uσ47_1.1 1 (by decide)
          have uσ47_1_2 := uσ47_1.2
          have uσ47_1_5 := uσ47_1.1 5 (by decide)
          have uσ47_1_15 := uσ47_1.1 15 (by decide)
          have uσ47_1_16 := uσ47_1.1 16 (by decide)
          have kp50 : gI σ47_1 o 13 = gI τ49 o 13 := (cσ47_1.O (ko.up (xσ30_1.trans xτ49)) (by decide)).1
          have kp51 : gP σ47_1 c 0 = gP τ49 c 0 := (cσ47_1.O (kc.up (xσ30_1.trans xτ49)) (by decide)).2.1
          have kp52 : gP σ47_1 t 3 = gP τ49 t 3 := (cσ47_1.O (kt.up (xσ30_1.trans xτ49)) (by decide)).2.1
          have kp53 : gP σ47_1 th 5 = gP τ49 th 5 := (cσ47_1.O (kth.up (xσ30_1.trans xτ49)) (by decide)).2.1
          have kp54 : gI σ47_1 t 0 = gI τ49 t 0 := (cσ47_1.O (kt.up (xσ30_1.trans xτ49)) (by decide)).1
          exact hQ σ47_1 LLσ47_1 Nσ47_1 nuσ47_1 () iσ47_1 fσ47_1 (nu_σ47_1) hnσ47_1 (by (first | omega | with_reducible assumption | with_reducible exact rng_toInt _ | with_reducible exact rng_wr _ | (unfold rng; omega) | (unfold rng at *; omega) | assumption))
        · rw [if_neg hc49]
          unfold w_X11_joinRow_54
          rw [if_neg hc1]
          unfold w_X11_joinRow_58
          obtain ⟨b_5, eb_5⟩ := Option.ne_none_iff_exists'.mp hc49
          refine ⟨b_5, eb_5, fun kk_b_5 => ?_⟩
          refine ⟨c, hv4, fun kk_c_6 => ?_⟩
          unfold w_X11_joinRow_83
          refine ⟨b_5, eb_5, fun kk_b_5_1 => ?_⟩
          refine ⟨c, hv4, fun kk_c_7 => ?_⟩
          by_cases hc56 : gJ τ49 b_5 7 ≠ gJ τ49 c 7
          · rw [if_pos hc56]
            unfold w_X11_joinRow_161
            obtain ⟨A1, B1, p1, p2, p3, p4⟩ := it_step iτ49 (mb_4.up xτ49) ⟨by first | exact hi49.1.1 | (rw [hLc]; exact hi49.1.1), hi49.1.2⟩ eb_5
            refine ⟨b_5, eb_5, fun kk_b_5_2 => ?_⟩
            exact ih49 τ49 LLt49 Nt49 nut49 (gP τ49 b_5 1) iτ49 fτ49 xτ49 nu_τ49 hnτ49 hg_c_τ49 (⟨A1, B1, ⟨⟨p1, p2⟩, by omega, by omega, by omega, by omega⟩, by omega⟩)
          · rw [if_neg hc56]
            have hc56q := Classical.not_not.mp hc56
            unfold w_X11_joinRow_99
            refine ⟨o, hv1, fun kk_o_4 => ?_⟩
            have q58 := I_5_15 iτ49.1 (ko.up (xσ30_1.trans xτ49))
            by_cases hc57 : (gJ τ49 b_5 5 - gJ τ49 c 5) < (Int64.ofInt (gI τ49 o 15))
            · rw [if_pos hc57]
              unfold w_X11_joinRow_161
              obtain ⟨A1, B1, p1, p2, p3, p4⟩ := it_step iτ49 (mb_4.up xτ49) ⟨by first | exact hi49.1.1 | (rw [hLc]; exact hi49.1.1), hi49.1.2⟩ eb_5
              refine ⟨b_5, eb_5, fun kk_b_5_3 => ?_⟩
              exact ih49 τ49 LLt49 Nt49 nut49 (gP τ49 b_5 1) iτ49 fτ49 xτ49 nu_τ49 hnτ49 hg_c_τ49 (⟨A1, B1, ⟨⟨p1, p2⟩, by omega, by omega, by omega, by omega⟩, by omega⟩)
            · rw [if_neg hc57]
              unfold w_X11_joinRow_110
              refine ⟨o, hv1, fun kk_o_5 => ?_⟩
              have q60 := I_5_16 iτ49.1 (ko.up (xσ30_1.trans xτ49))
              by_cases hc59 : (gJ τ49 b_5 5 - gJ τ49 c 5) > (Int64.ofInt (gI τ49 o 16))
              · rw [if_pos hc59]
                unfold w_X11_joinRow_161
                obtain ⟨A1, B1, p1, p2, p3, p4⟩ := it_step iτ49 (mb_4.up xτ49) ⟨by first | exact hi49.1.1 | (rw [hLc]; exact hi49.1.1), hi49.1.2⟩ eb_5
                refine ⟨b_5, eb_5, fun kk_b_5_4 => ?_⟩
                exact ih49 τ49 LLt49 Nt49 nut49 (gP τ49 b_5 1) iτ49 fτ49 xτ49 nu_τ49 hnτ49 hg_c_τ49 (⟨A1, B1, ⟨⟨p1, p2⟩, by omega, by omega, by omega, by omega⟩, by omega⟩)
              · rw [if_neg hc59]
                unfold w_X11_joinRow_121
                rw [if_neg hc1]
                unfold w_X11_joinRow_127
                unfold w_X11_joinRow_134
                rw [if_neg hc1]
                unfold w_X11_joinRow_138
                unfold w_X11_joinRow_145
                refine ⟨b_5, eb_5, fun kk_b_5_5 => ?_⟩
                refine ⟨c, hv4, fun kk_c_8 => ?_⟩
                refine i_J9_max_f86c9 iτ49 (fun r42_1 pσ41_1 => ?_)
                intro xσ41_1
                refine i4_X11_addPair iτ49 (kth.up (xσ30_1.trans xτ49)) hv1 (ko.up (xσ30_1.trans xτ49)) hv4 (kc.up (xσ30_1.trans xτ49)) eb_5 kk_b_5 (by (first | omega | with_reducible assumption | with_reducible exact rng_toInt _ | with_reducible exact rng_wr _ | (unfold rng; omega) | (unfold rng at *; omega) | assumption)) (kp44.trans hj) (kJ.up (xσ30_1.trans xτ49)) (by (first | omega | with_reducible assumption | with_reducible exact rng_toInt _ | with_reducible exact rng_wr _ | (unfold rng; omega) | (unfold rng at *; omega) | assumption)) (by (first | omega | with_reducible assumption | with_reducible exact rng_toInt _ | with_reducible exact rng_wr _ | (unfold rng; omega) | (unfold rng at *; omega) | assumption)) (by (first | omega | with_reducible assumption | with_reducible exact rng_toInt _ | with_reducible exact rng_wr _ | (unfold rng; omega) | (unfold rng at *; omega) | assumption)) (by omega) (by (first | omega | with_reducible assumption | with_reducible exact rng_toInt _ | with_reducible exact rng_wr _ | (unfold rng; omega) | (unfold rng at *; omega) | assumption)) (by (first | omega | with_reducible assumption | with_reducible exact rng_toInt _ | with_reducible exact rng_wr _ | (unfold rng; omega) | (unfold rng at *; omega) | assumption)) (by rcases pσ41_1 with e9 | e9 <;> rw [e9]; exact iτ49.t5 kk_b_5; exact iτ49.t5 (kc.up (xσ30_1.trans xτ49))) (fun σ43_1 LLσ43_1 Nσ43_1 nuσ43_1 _ iσ43_1 cσ43_1 uσ43_1 hσ43_1 pσ43_1 => ?_) (fun σx LLx Nx nux E ix cx ux px => hX σx LLx Nx nux E ix (fτ49.tr (cx.mo (by decide))) (nu_τ49.x ux) (by first | exact px | exact ⟨by have := px.1; omega, (Hn.nz hnτ49 (by first | decide | (intro x hx; simp only [List.mem_cons, List.mem_nil_iff, or_false] at hx; omega))).tr px.2.1, px.2.2⟩ | (first | omega | with_reducible assumption | with_reducible exact rng_toInt _ | with_reducible exact rng_wr _ | (unfold rng; omega) | (unfold rng at *; omega) | assumption)))
                intro xσ43_1
                have fσ43_1 : Fx [1, 2, 3, 4, 5, 6, 7, 64, 512, 513, 514, 708, 6464] gr σ σ43_1 := fτ49.tr (cσ43_1.mo (by decide))
                have hnσ43_1 : Hn (gD σ) [44, 41, 42] [c] gq LL LLσ43_1 N Nσ43_1 := hnτ49.go hσ43_1 (fun d hd => (fτ49.1 d hd).1) (by first | decide | exact fun _ h => h | (simp; done) | (intro x hx; simp only [List.mem_cons, List.mem_nil_iff, or_false] at hx ⊢; omega)) (fun d hd => absurd hd (by simp))
                have hg_c_σ43_1 : ∀ x, c ∉ LLσ43_1 x := hσ43_1.2.1 c (kc.up (xσ30_1.trans xτ49)).1 (by simp) hg_c_τ49
                have nσ43_1_3 := hσ43_1.2.2 3 (by first | decide | (simp; done) | (simp only [List.mem_cons, List.mem_nil_iff, or_false, not_or]; omega)) (by first | decide | omega) (by first | decide | omega) (by first | decide | omega)
                have nσ43_1_5 := hσ43_1.2.2 5 (by first | decide | (simp; done) | (simp only [List.mem_cons, List.mem_nil_iff, or_false, not_or]; omega)) (by first | decide | omega) (by first | decide | omega) (by first | decide | omega)
                have nσ43_1_14 := hσ43_1.2.2 14 (by first | decide | (simp; done) | (simp only [List.mem_cons, List.mem_nil_iff, or_false, not_or]; omega)) (by first | decide | omega) (by first | decide | omega) (by first | decide | omega)
                have nσ43_1_74 := hσ43_1.2.2 74 (by first | decide | (simp; done) | (simp only [List.mem_cons, List.mem_nil_iff, or_false, not_or]; omega)) (by first | decide | omega) (by first | decide | omega) (by first | decide | omega)
                have nσ43_1_11 := hσ43_1.2.2 11 (by first | decide | (simp; done) | (simp only [List.mem_cons, List.mem_nil_iff, or_false, not_or]; omega)) (by first | decide | omega) (by first | decide | omega) (by first | decide | omega)
                have nσ43_1_12 := hσ43_1.2.2 12 (by first | decide | (simp; done) | (simp only [List.mem_cons, List.mem_nil_iff, or_false, not_or]; omega)) (by first | decide | omega) (by first | decide | omega) (by first | decide | omega)
                have nσ43_1_41 := hσ43_1.2.2 41 (by first | decide | (simp; done) | (simp only [List.mem_cons, List.mem_nil_iff, or_false, not_or]; omega)) (by first | decide | omega) (by first | decide | omega) (by first | decide | omega)
                have nσ43_1_42 := hσ43_1.2.2 42 (by first | decide | (simp; done) | (simp only [List.mem_cons, List.mem_nil_iff, or_false, not_or]; omega)) (by first | decide | omega) (by first | decide | omega) (by first | decide | omega)
                have nσ43_1_13 := hσ43_1.2.2 13 (by first | decide | (simp; done) | (simp only [List.mem_cons, List.mem_nil_iff, or_false, not_or]; omega)) (by first | decide | omega) (by first | decide | omega) (by first | decide | omega)
                have nu_σ43_1 : NU nu nuσ43_1 := nu_τ49.tr uσ43_1
                have uσ43_1_0 := uσ43_1.1 0 (by decide)
                have uσ43_1_1 := uσ43_1.1 1 (by decide)
                have uσ43_1_2 := uσ43_1.2
                have uσ43_1_5 := uσ43_1.1 5 (by decide)
                have uσ43_1_15 := uσ43_1.1 15 (by decide)
                have uσ43_1_16 := uσ43_1.1 16 (by decide)
                have kp63 : gI σ43_1 o 13 = gI τ49 o 13 := (cσ43_1.O (ko.up (xσ30_1.trans xτ49)) (by decide)).1
                have kp64 : gI σ43_1 o 15 = gI τ49 o 15 := (cσ43_1.O (ko.up (xσ30_1.trans xτ49)) (by decide)).1
                have kp65 : gI σ43_1 o 16 = gI τ49 o 16 := (cσ43_1.O (ko.up (xσ30_1.trans xτ49)) (by decide)).1
                have kp66 : gP σ43_1 c 0 = gP τ49 c 0 := (cσ43_1.O (kc.up (xσ30_1.trans xτ49)) (by decide)).2.1
                have kp67 : gP σ43_1 t 3 = gP τ49 t 3 := (cσ43_1.O (kt.up (xσ30_1.trans xτ49)) (by decide)).2.1
                have kp68 : gP σ43_1 th 5 = gP τ49 th 5 := (cσ43_1.O (kth.up (xσ30_1.trans xτ49)) (by decide)).2.1
                have kp69 : gI σ43_1 t 0 = gI τ49 t 0 := (cσ43_1.O (kt.up (xσ30_1.trans xτ49)) (by decide)).1
                have hLc := hσ43_1.1 b_4 (mb_4.up xτ49).1 (by first | (simp; done) | (simp only [List.mem_cons, List.mem_nil_iff, or_false, not_or]; omega)) (by omega)
                unfold w_X11_joinRow_161
                obtain ⟨A1, B1, p1, p2, p3, p4⟩ := it_step iσ43_1 (mb_4.up (xτ49.trans xσ43_1)) ⟨by first | exact hi49.1.1 | (rw [hLc]; exact hi49.1.1), hi49.1.2⟩ eb_5
                refine ⟨b_5, eb_5, fun kk_b_5_6 => ?_⟩
                exact ih49 σ43_1 LLσ43_1 Nσ43_1 nuσ43_1 (gP σ43_1 b_5 1) iσ43_1 fσ43_1 (xτ49.trans xσ43_1) nu_σ43_1 hnσ43_1 hg_c_σ43_1 (⟨A1, B1, ⟨⟨p1, p2⟩, by omega, by omega, by omega, by omega⟩, by omega⟩)
    exact ⟨(LL b_4).length + 1, Lp49 _ σ30_1 LL N nu _ iσ30_1 fσ30_1 (Ext.rfl' _) NU.rf hnσ hf (⟨[], LL b_4, ⟨⟨by simp, iσ30_1.first mb_4⟩, rfl, by omega, rfl, rfl⟩, Nat.lt_succ_self _⟩)⟩
set_option maxHeartbeats 1000000 in
theorem i4_X11_topUpTo {σ : Sg} {pl : Nat} {gq ci gr nc : Nat → Nat} {ot : Nat → Nat → Int} {LL : Nat → List Nat} {N nu : Nat → Nat} {th : Nat} {v1 : Option Nat} {v2 : Option Nat} {v3 : Int64} {J i : Nat} (iσ : IV σ pl gq ci gr nc ot LL N nu) (kth : kO σ th 11) {o : Nat} (hv1 : v1 = some o) (ko : kO σ o 5) {t : Nat} (hv2 : v2 = some t) (kt : kO σ t 10) (hq : gq th = 4) (hj : gP σ th 5 = some J) (kJ : kO σ J 4) (hJ : gq J = nc 0) (ho : gq o = 16 * nc 0 + i) (hi : i < nc 1) (hk : ot i 6 = 10) (ht : gq t = 4) {Q : Sg → Unit → Prop} {X : Sg → String → Prop} (hQ : ∀ (σ' : Sg) (LL' : Nat → List Nat) (N' nu' : Nat → Nat) (r : Unit), IV σ' pl gq ci gr nc ot LL' N' nu' → Fx [1, 5, 64, 512, 708, 6464] gr σ σ' → NU nu nu' → Hn (gD σ) [44, 41] [] gq LL LL' N N' → (N' 1 = N 1 ∧ N' 44 ≤ N 44 + N 41) → Q σ' r) : wp_X11_topUpTo th v1 v2 v3 σ Q X := by
  have fσ : Fx [1, 5, 64, 512, 708, 6464] gr σ σ := Fx.rf
  have hnσ : Hn (gD σ) [44, 41] [] gq LL LL N N := Hn.rf
  have ok := iσ.opok hi
  have q7 := iσ.op ko ho hi 7 (by decide)
  have h7 : 0 ≤ ot i 7 := ok.2.2.2.1 (by omega)
  have h7i := ok.2.1
  have hw := ok.2.2.2.2.2.2.1 hk
  unfold wp_X11_topUpTo
  unfold w_X11_topUpTo_0
  refine ⟨J, hj, fun kk_J => ?_⟩
  refine ⟨o, hv1, fun kk_o => ?_⟩
  obtain ⟨b, eb, fb⟩ := P_4_0 iσ.1 kJ
  have mb : kO σ b 115 := iσ.1.kd kJ rfl eb rfl
  refine ⟨b, eb, fun kk_b => ?_⟩
  have q1 := I_5_7 iσ.1 ko
  refine ⟨⟨by (first | omega | with_reducible assumption | with_reducible exact rng_toInt _ | with_reducible exact rng_wr _ | (unfold rng; omega) | (unfold rng at *; omega) | assumption), by (first | omega | with_reducible assumption | with_reducible exact rng_toInt _ | with_reducible exact rng_wr _ | (unfold rng; omega) | (unfold rng at *; omega) | assumption)⟩, ?_⟩
  obtain ⟨b_1, eb_1⟩ := P_115 iσ.1 mb (k := (gI σ o 7).toNat) (by (first | omega | with_reducible assumption | with_reducible exact rng_toInt _ | with_reducible exact rng_wr _ | (unfold rng; omega) | (unfold rng at *; omega) | assumption))
  have fb_1 := T_115 iσ.1 mb eb_1
  have mb_1 : kO σ b_1 5 := iσ.1.kd mb rfl eb_1 rfl
  refine ⟨b_1, eb_1, fun kk_b_1 => ?_⟩
  refine ⟨t, hv2, fun kk_t => ?_⟩
  obtain ⟨b_2, eb_2, fb_2⟩ := P_10_2 iσ.1 kt
  have mb_2 : kO σ b_2 1 := iσ.1.kd kt rfl eb_2 rfl
  refine ⟨b_2, eb_2, fun kk_b_2 => ?_⟩
  have w9 := iσ.op mb_1 (i := (ot i 7).toNat) (by omega) (by omega) 3 (by decide)
  have Lp34 : ∀ (fu34 : Nat) (τ34 : Sg) (LLt34 : Nat → List Nat) (Nt34 nut34 : Nat → Nat) (v6 : Int64) (v8 : Int) (v9 : Option Nat), IV τ34 pl gq ci gr nc ot LLt34 Nt34 nut34 → Fx [1, 5, 64, 512, 708, 6464] gr σ τ34 → Ext σ τ34 → NU nu nut34 → Hn (gD σ) [44, 41] [] gq LL LLt34 N Nt34 → (v9 = (LLt34 b_2).head? ∧ Nt34 1 = N 1 ∧ Nt34 44 + Nt34 41 ≤ N 44 + N 41 ∧ tb (N 3) v6 ∧ Nt34 3 = N 3) → ((LLt34 b_2).length) < fu34 → wl_X11_topUpTo_34 th Q X fu34 τ34 v1 v2 v3 (gI σ b_1 3) v6 v8 v9 := by
    intro fu34
    induction fu34 with
    | zero => intro _ _ _ _ _ _ _ _ _ _ _ _ _ h9; omega
    | succ fu34 ih34 =>
      intro τ34 LLt34 Nt34 nut34 v6 v8 v9 iτ34 fτ34 xτ34 nu_τ34 hnτ34 hi34 hm34
      have nτ34_3 := hnτ34.2.2 3 (by first | decide | (simp; done) | (simp only [List.mem_cons, List.mem_nil_iff, or_false, not_or]; omega)) (by first | decide | omega) (by first | decide | omega) (by first | decide | omega)
      have nτ34_5 := hnτ34.2.2 5 (by first | decide | (simp; done) | (simp only [List.mem_cons, List.mem_nil_iff, or_false, not_or]; omega)) (by first | decide | omega) (by first | decide | omega) (by first | decide | omega)
      have nτ34_14 := hnτ34.2.2 14 (by first | decide | (simp; done) | (simp only [List.mem_cons, List.mem_nil_iff, or_false, not_or]; omega)) (by first | decide | omega) (by first | decide | omega) (by first | decide | omega)
      have nτ34_74 := hnτ34.2.2 74 (by first | decide | (simp; done) | (simp only [List.mem_cons, List.mem_nil_iff, or_false, not_or]; omega)) (by first | decide | omega) (by first | decide | omega) (by first | decide | omega)
      have nτ34_11 := hnτ34.2.2 11 (by first | decide | (simp; done) | (simp only [List.mem_cons, List.mem_nil_iff, or_false, not_or]; omega)) (by first | decide | omega) (by first | decide | omega) (by first | decide | omega)
      have nτ34_12 := hnτ34.2.2 12 (by first | decide | (simp; done) | (simp only [List.mem_cons, List.mem_nil_iff, or_false, not_or]; omega)) (by first | decide | omega) (by first | decide | omega) (by first | decide | omega)
      have nτ34_42 := hnτ34.2.2 42 (by first | decide | (simp; done) | (simp only [List.mem_cons, List.mem_nil_iff, or_false, not_or]; omega)) (by first | decide | omega) (by first | decide | omega) (by first | decide | omega)
      have nτ34_13 := hnτ34.2.2 13 (by first | decide | (simp; done) | (simp only [List.mem_cons, List.mem_nil_iff, or_false, not_or]; omega)) (by first | decide | omega) (by first | decide | omega) (by first | decide | omega)
      have uτ34_0 := nu_τ34.1 0 (by decide)
      have uτ34_1 := nu_τ34.1 1 (by decide)
      have uτ34_2 := nu_τ34.2
      have uτ34_5 := nu_τ34.1 5 (by decide)
      have uτ34_15 := nu_τ34.1 15 (by decide)
      have uτ34_16 := nu_τ34.1 16 (by decide)
      unfold wl_X11_topUpTo_34
      have kp2 : gI τ34 o 7 = gI σ o 7 := (fτ34.O ko (by decide)).1
      have kp3 : gP τ34 J 0 = gP σ J 0 := (fτ34.O kJ (by decide)).2.1
      have kp4 : gP τ34 b (gI σ o 7).toNat = gP σ b (gI σ o 7).toNat := (fτ34.A mb (by decide)).2.1
      have kp5 : gP τ34 t 2 = gP σ t 2 := (fτ34.O kt (by decide)).2.1
      have kp6 : gP τ34 th 5 = gP σ th 5 := (fτ34.O kth (by decide)).2.1
      unfold w_X11_topUpTo_34
      by_cases hc7 : v9 = none
      · rw [if_pos hc7]
        unfold w_X11_topUpTo_155
        exact hQ τ34 LLt34 Nt34 nut34 () iτ34 fτ34 (nu_τ34) hnτ34 (by (first | omega | with_reducible assumption | with_reducible exact rng_toInt _ | with_reducible exact rng_wr _ | (unfold rng; omega) | (unfold rng at *; omega) | assumption))
      · rw [if_neg hc7]
        unfold w_X11_topUpTo_39
        obtain ⟨b_3, eb_3⟩ := Option.ne_none_iff_exists'.mp hc7
        refine ⟨b_3, eb_3, fun kk_b_3 => ?_⟩
        by_cases hc8 : gJ τ34 b_3 6 > v3
        · rw [if_pos hc8]
          unfold w_X11_topUpTo_155
          exact hQ τ34 LLt34 Nt34 nut34 () iτ34 fτ34 (nu_τ34) hnτ34 (by (first | omega | with_reducible assumption | with_reducible exact rng_toInt _ | with_reducible exact rng_wr _ | (unfold rng; omega) | (unfold rng at *; omega) | assumption))
        · rw [if_neg hc8]
          unfold w_X11_topUpTo_49
          refine ⟨t, hv2, fun kk_t_1 => ?_⟩
          refine ⟨b_2, (kp5.trans eb_2), fun kk_b_2_1 => ?_⟩
          obtain ⟨T9, eT⟩ := it_cons hi34.1 eb_3
          have lo_b_3 : Lo [] (gD σ) LL b_3 := hnτ34.loc (fun d hd => (fτ34.1 d hd).1) (Or.inr ⟨b_2, by rw [eT]; exact List.mem_cons_self⟩)
          have rc9 := iτ34.recs4 (kth.up xτ34) (by omega)
          refine i_X1_takeFirst (G0 := 41) iτ34 (mb_2.up xτ34) (by omega) (fun σ34 LLσ34 Nσ34 nuσ34 r35 iσ34 cσ34 uσ34 hσ34 pσ34 => ?_)
          intro xσ34
          have fσ34 : Fx [1, 5, 64, 512, 708, 6464] gr σ σ34 := fτ34.tr (cσ34.mo (by decide))
          have hnσ34 : Hn (gD σ) [44, 41] [] gq LL LLσ34 N Nσ34 := hnτ34.go hσ34 (fun d hd => (fτ34.1 d hd).1) (by first | decide | exact fun _ h => h | (simp; done) | (intro x hx; simp only [List.mem_cons, List.mem_nil_iff, or_false] at hx ⊢; omega)) (fun d hd => absurd hd (by simp))
          have nσ34_3 := hσ34.2.2 3 (by first | decide | (simp; done) | (simp only [List.mem_cons, List.mem_nil_iff, or_false, not_or]; omega)) (by first | decide | omega) (by first | decide | omega) (by first | decide | omega)
          have nσ34_5 := hσ34.2.2 5 (by first | decide | (simp; done) | (simp only [List.mem_cons, List.mem_nil_iff, or_false, not_or]; omega)) (by first | decide | omega) (by first | decide | omega) (by first | decide | omega)
          have nσ34_14 := hσ34.2.2 14 (by first | decide | (simp; done) | (simp only [List.mem_cons, List.mem_nil_iff, or_false, not_or]; omega)) (by first | decide | omega) (by first | decide | omega) (by first | decide | omega)
          have nσ34_44 := hσ34.2.2 44 (by first | decide | (simp; done) | (simp only [List.mem_cons, List.mem_nil_iff, or_false, not_or]; omega)) (by first | decide | omega) (by first | decide | omega) (by first | decide | omega)
          have nσ34_74 := hσ34.2.2 74 (by first | decide | (simp; done) | (simp only [List.mem_cons, List.mem_nil_iff, or_false, not_or]; omega)) (by first | decide | omega) (by first | decide | omega) (by first | decide | omega)
          have nσ34_11 := hσ34.2.2 11 (by first | decide | (simp; done) | (simp only [List.mem_cons, List.mem_nil_iff, or_false, not_or]; omega)) (by first | decide | omega) (by first | decide | omega) (by first | decide | omega)
          have nσ34_12 := hσ34.2.2 12 (by first | decide | (simp; done) | (simp only [List.mem_cons, List.mem_nil_iff, or_false, not_or]; omega)) (by first | decide | omega) (by first | decide | omega) (by first | decide | omega)
          have nσ34_42 := hσ34.2.2 42 (by first | decide | (simp; done) | (simp only [List.mem_cons, List.mem_nil_iff, or_false, not_or]; omega)) (by first | decide | omega) (by first | decide | omega) (by first | decide | omega)
          have nσ34_13 := hσ34.2.2 13 (by first | decide | (simp; done) | (simp only [List.mem_cons, List.mem_nil_iff, or_false, not_or]; omega)) (by first | decide | omega) (by first | decide | omega) (by first | decide | omega)
          have nu_σ34 : NU nu nuσ34 := nu_τ34.tr uσ34
          have uσ34_0 := uσ34.1 0 (by decide)
          have uσ34_1 := uσ34.1 1 (by decide)
          have uσ34_2 := uσ34.2
          have uσ34_5 := uσ34.1 5 (by decide)
          have uσ34_15 := uσ34.1 15 (by decide)
          have uσ34_16 := uσ34.1 16 (by decide)
          have kp9 : gI σ34 o 7 = gI τ34 o 7 := (cσ34.O (ko.up xτ34) (by decide)).1
          have kp10 : gP σ34 J 0 = gP τ34 J 0 := (cσ34.O (kJ.up xτ34) (by decide)).2.1
          have kp11 : gP σ34 b (gI σ o 7).toNat = gP τ34 b (gI σ o 7).toNat := (cσ34.A (mb.up xτ34) (by decide)).2.1
          have kp12 : gP σ34 t 2 = gP τ34 t 2 := (cσ34.O (kt.up xτ34) (by decide)).2.1
          have kp13 : gP σ34 th 5 = gP τ34 th 5 := (cσ34.O (kth.up xτ34) (by decide)).2.1
          have kp14 : gI σ34 th 4 = gI τ34 th 4 := (cσ34.O (kth.up xτ34) (by decide)).1
          obtain ⟨r9, eL9, hb9, n9a, n9b⟩ := take_r eT pσ34
          have laσ34 : (LLσ34 b_2).length + 1 = (LLt34 b_2).length := by rw [eL9, up1_s, eT]; rfl
          intro tyt
          have q15 := I_11_4 iσ34.1 (kth.up (xτ34.trans xσ34))
          refine ⟨by (first | omega | with_reducible assumption | with_reducible exact rng_toInt _ | with_reducible exact rng_wr _ | (unfold rng; omega) | (unfold rng at *; omega) | assumption), ?_⟩
          intro σ37 eσ37
          have xσ37 : Ext σ34 σ37 := by rw [eσ37]; exact fun _ h => ⟨h, rfl, rfl⟩
          have iσ37 : IV σ37 pl gq ci gr nc ot LLσ34 Nσ34 nuσ34 := by rw [eσ37]; exact iσ34.rec4 (kth.up (xτ34.trans xσ34)) (by omega) (by omega) (by omega)
          have fσ37 : Fx [1, 5, 64, 512, 708, 6464] gr σ σ37 := fσ34.tr (Sk.fx (by rw [eσ37]; exact Sk.pI (by rw [fcdO (kth.up (xτ34.trans xσ34)) (by decide)]; decide)))
          have wσ37 : gI σ37 th 4 = (gI σ34 th 4 - 1) := by rw [eσ37]; exact up2_s _ _ _ _
          have kp16 : gI σ37 o 7 = gI σ34 o 7 := by rw [eσ37]; exact up2_n _ _ (fun q => absurd q.2 (by decide))
          have kp17 : gP σ37 J 0 = gP σ34 J 0 := by rw [eσ37]
          have kp18 : gP σ37 b (gI σ o 7).toNat = gP σ34 b (gI σ o 7).toNat := by rw [eσ37]
          have kp19 : gP σ37 t 2 = gP σ34 t 2 := by rw [eσ37]
          have kp20 : gP σ37 th 5 = gP σ34 th 5 := by rw [eσ37]
          refine ⟨b_3, eb_3, fun kk_b_3_1 => ?_⟩
          by_cases hc21 : gJ σ37 b_3 6 ≠ v6
          · rw [if_pos hc21]
            unfold w_X11_topUpTo_85
            unfold w_X11_topUpTo_86
            refine ⟨b_3, eb_3, fun kk_b_3_2 => ?_⟩
            refine ⟨o, hv1, fun kk_o_1 => ?_⟩
            have q23 := I_5_9 iσ37.1 (ko.up (xτ34.trans (xσ34.trans xσ37)))
            by_cases hc22 : (1 : Int) ≤ gI σ37 o 9
            · rw [if_pos hc22]
              unfold w_X11_topUpTo_116
              refine ⟨b_3, eb_3, fun kk_b_3_3 => ?_⟩
              intro σ46 eσ46
              have xσ46 : Ext σ37 σ46 := by rw [eσ46]; exact fun _ h => ⟨h, rfl, rfl⟩
              have iσ46 : IV σ46 pl gq ci gr nc ot LLσ34 Nσ34 nuσ34 := by rw [eσ46]; exact iσ37.wT (kk_b_3.up (xσ34.trans xσ37)) (by decide) (iσ37.t6 (kk_b_3.up (xσ34.trans xσ37)))
              have fσ46 : Fx [1, 5, 64, 512, 708, 6464] gr σ σ46 := fσ37.tr (Sk.fx (by rw [eσ46]; exact Sk.pJ (by rw [fcdO (kk_b_3.up (xσ34.trans xσ37)) (by decide)]; decide)))
              have kp24 : gI σ46 o 7 = gI σ37 o 7 := by rw [eσ46]
              have kp25 : gI σ46 o 9 = gI σ37 o 9 := by rw [eσ46]
              have kp26 : gI σ46 th 4 = gI σ37 th 4 := by rw [eσ46]
              have kp27 : gP σ46 J 0 = gP σ37 J 0 := by rw [eσ46]
              have kp28 : gP σ46 b (gI σ o 7).toNat = gP σ37 b (gI σ o 7).toNat := by rw [eσ46]
              have kp29 : gP σ46 t 2 = gP σ37 t 2 := by rw [eσ46]
              have kp30 : gP σ46 th 5 = gP σ37 th 5 := by rw [eσ46]
              obtain ⟨b_4, eb_4, fb_4⟩ := P_0_0 iσ46.1 (kk_b_3.up (xσ34.trans (xσ37.trans xσ46)))
              have mb_4 : kO σ46 b_4 101 := iσ46.1.kd (kk_b_3.up (xσ34.trans (xσ37.trans xσ46))) rfl eb_4 rfl
              refine ⟨b_4, eb_4, fun kk_b_4 => ?_⟩
              have q31 := I_5_3 iσ.1 mb_1
              refine ⟨⟨by (first | omega | with_reducible assumption | with_reducible exact rng_toInt _ | with_reducible exact rng_wr _ | (unfold rng; omega) | (unfold rng at *; omega) | assumption), by (first | omega | with_reducible assumption | with_reducible exact rng_toInt _ | with_reducible exact rng_wr _ | (unfold rng; omega) | (unfold rng at *; omega) | assumption)⟩, ?_⟩
              intro σ48 eσ48
              have xσ48 : Ext σ46 σ48 := by rw [eσ48]; exact fun _ h => ⟨h, rfl, rfl⟩
              have iσ48 : IV σ48 pl gq ci gr nc ot LLσ34 Nσ34 nuσ34 := by rw [eσ48]; exact iσ46.wL mb_4 (by omega)
              have fσ48 : Fx [1, 5, 64, 512, 708, 6464] gr σ σ48 := fσ46.tr (Sk.fx (by rw [eσ48]; exact Sk.pJ (by rw [fcdA mb_4 (by decide)]; decide)))
              have kp32 : gI σ48 o 7 = gI σ46 o 7 := by rw [eσ48]
              have kp33 : gI σ48 o 9 = gI σ46 o 9 := by rw [eσ48]
              have kp34 : gI σ48 th 4 = gI σ46 th 4 := by rw [eσ48]
              have kp35 : gP σ48 J 0 = gP σ46 J 0 := by rw [eσ48]
              have kp36 : gP σ48 b (gI σ o 7).toNat = gP σ46 b (gI σ o 7).toNat := by rw [eσ48]
              have kp37 : gP σ48 b_3 0 = gP σ46 b_3 0 := by rw [eσ48]
              have kp38 : gP σ48 t 2 = gP σ46 t 2 := by rw [eσ48]
              have kp39 : gP σ48 th 5 = gP σ46 th 5 := by rw [eσ48]
              obtain ⟨b_5, eb_5, fb_5⟩ := P_11_2 iσ48.1 (kth.up (xτ34.trans (xσ34.trans (xσ37.trans (xσ46.trans xσ48)))))
              have mb_5 : kO σ48 b_5 1 := iσ48.1.kd (kth.up (xτ34.trans (xσ34.trans (xσ37.trans (xσ46.trans xσ48))))) rfl eb_5 rfl
              refine ⟨b_5, eb_5, fun kk_b_5 => ?_⟩
              refine i_X1_add (G0 := 44) iσ48 mb_5 eb_3 (kk_b_3.up (xσ34.trans (xσ37.trans (xσ46.trans xσ48)))) (by omega) (by (first | omega | with_reducible assumption | with_reducible exact rng_toInt _ | with_reducible exact rng_wr _ | (unfold rng; omega) | (unfold rng at *; omega) | assumption)) (by (first | omega | with_reducible assumption | with_reducible exact rng_toInt _ | with_reducible exact rng_wr _ | (unfold rng; omega) | (unfold rng at *; omega) | assumption)) (plc_y (G := 44) (by omega) (by decide)) (no50 (by decide)) (no13 (by decide)) (fun N9 n1 _ => iσ48.2.2.1.made (by decide) n1) (fun σ49 LLσ49 Nσ49 nuσ49 _ iσ49 cσ49 uσ49 hσ49 pσ49 => ?_)
              intro xσ49
              have fσ49 : Fx [1, 5, 64, 512, 708, 6464] gr σ σ49 := fσ48.tr (cσ49.mo (by decide))
              have hnσ49 : Hn (gD σ) [44, 41] [] gq LL LLσ49 N Nσ49 := hnσ34.go hσ49 (fun d hd => (fσ48.1 d hd).1) (by first | decide | exact fun _ h => h | (simp; done) | (intro x hx; simp only [List.mem_cons, List.mem_nil_iff, or_false] at hx ⊢; omega)) (fun d hd => by rw [List.mem_singleton.mp hd]; exact lo_b_3)
              have nσ49_3 := hσ49.2.2 3 (by first | decide | (simp; done) | (simp only [List.mem_cons, List.mem_nil_iff, or_false, not_or]; omega)) (by first | decide | omega) (by first | decide | omega) (by first | decide | omega)
              have nσ49_5 := hσ49.2.2 5 (by first | decide | (simp; done) | (simp only [List.mem_cons, List.mem_nil_iff, or_false, not_or]; omega)) (by first | decide | omega) (by first | decide | omega) (by first | decide | omega)
              have nσ49_14 := hσ49.2.2 14 (by first | decide | (simp; done) | (simp only [List.mem_cons, List.mem_nil_iff, or_false, not_or]; omega)) (by first | decide | omega) (by first | decide | omega) (by first | decide | omega)
              have nσ49_74 := hσ49.2.2 74 (by first | decide | (simp; done) | (simp only [List.mem_cons, List.mem_nil_iff, or_false, not_or]; omega)) (by first | decide | omega) (by first | decide | omega) (by first | decide | omega)
              have nσ49_11 := hσ49.2.2 11 (by first | decide | (simp; done) | (simp only [List.mem_cons, List.mem_nil_iff, or_false, not_or]; omega)) (by first | decide | omega) (by first | decide | omega) (by first | decide | omega)
              have nσ49_12 := hσ49.2.2 12 (by first | decide | (simp; done) | (simp only [List.mem_cons, List.mem_nil_iff, or_false, not_or]; omega)) (by first | decide | omega) (by first | decide | omega) (by first | decide | omega)
              have nσ49_41 := hσ49.2.2 41 (by first | decide | (simp; done) | (simp only [List.mem_cons, List.mem_nil_iff, or_false, not_or]; omega)) (by first | decide | omega) (by first | decide | omega) (by first | decide | omega)
              have nσ49_42 := hσ49.2.2 42 (by first | decide | (simp; done) | (simp only [List.mem_cons, List.mem_nil_iff, or_false, not_or]; omega)) (by first | decide | omega) (by first | decide | omega) (by first | decide | omega)
              have nσ49_13 := hσ49.2.2 13 (by first | decide | (simp; done) | (simp only [List.mem_cons, List.mem_nil_iff, or_false, not_or]; omega)) (by first | decide | omega) (by first | decide | omega) (by first | decide | omega)
              have nu_σ49 : NU nu nuσ49 := nu_σ34.tr uσ49
              have uσ49_0 := uσ49.1 0 (by decide)
              have uσ49_1 := uσ49.1 1 (by decide)
              have uσ49_2 := uσ49.2
              have uσ49_5 := uσ49.1 5 (by decide)
              have uσ49_15 := uσ49.1 15 (by decide)
              have uσ49_16 := uσ49.1 16 (by decide)
              have kp40 : gI σ49 o 7 = gI σ48 o 7 := (cσ49.O (ko.up (xτ34.trans (xσ34.trans (xσ37.trans (xσ46.trans xσ48))))) (by decide)).1
              have kp41 : gI σ49 o 9 = gI σ48 o 9 := (cσ49.O (ko.up (xτ34.trans (xσ34.trans (xσ37.trans (xσ46.trans xσ48))))) (by decide)).1
              have kp42 : gI σ49 th 4 = gI σ48 th 4 := (cσ49.O (kth.up (xτ34.trans (xσ34.trans (xσ37.trans (xσ46.trans xσ48))))) (by decide)).1
              have kp43 : gP σ49 J 0 = gP σ48 J 0 := (cσ49.O (kJ.up (xτ34.trans (xσ34.trans (xσ37.trans (xσ46.trans xσ48))))) (by decide)).2.1
              have kp44 : gP σ49 b (gI σ o 7).toNat = gP σ48 b (gI σ o 7).toNat := (cσ49.A (mb.up (xτ34.trans (xσ34.trans (xσ37.trans (xσ46.trans xσ48))))) (by decide)).2.1
              have kp45 : gP σ49 b_3 0 = gP σ48 b_3 0 := (cσ49.O (kk_b_3.up (xσ34.trans (xσ37.trans (xσ46.trans xσ48)))) (by decide)).2.1
              have kp46 : gP σ49 t 2 = gP σ48 t 2 := (cσ49.O (kt.up (xτ34.trans (xσ34.trans (xσ37.trans (xσ46.trans xσ48))))) (by decide)).2.1
              have kp47 : gP σ49 th 2 = gP σ48 th 2 := (cσ49.O (kth.up (xτ34.trans (xσ34.trans (xσ37.trans (xσ46.trans xσ48))))) (by decide)).2.1
              have kp48 : gP σ49 th 5 = gP σ48 th 5 := (cσ49.O (kth.up (xτ34.trans (xσ34.trans (xσ37.trans (xσ46.trans xσ48))))) (by decide)).2.1
              have laσ49 : (LLσ49 b_2).length = (LLσ34 b_2).length := by rw [hσ49.1 b_2 (mb_2.up (xτ34.trans (xσ34.trans (xσ37.trans (xσ46.trans xσ48))))).1 (by first | (simp; done) | (simp only [List.mem_cons, List.mem_nil_iff, or_false, not_or]; omega)) (by omega)]
              unfold w_X11_topUpTo_143
              refine ⟨t, hv2, fun kk_t_2 => ?_⟩
              refine ⟨b_2, (kp46.trans (kp38.trans (kp29.trans (kp19.trans (kp12.trans (kp5.trans eb_2)))))), fun kk_b_2_2 => ?_⟩
              exact ih34 σ49 LLσ49 Nσ49 nuσ49 (gJ σ37 b_3 6) 1 (gP σ49 b_2 0) iσ49 fσ49 (xτ34.trans (xσ34.trans (xσ37.trans (xσ46.trans (xσ48.trans xσ49))))) nu_σ49 hnσ49 (⟨iσ49.first (mb_2.up (xτ34.trans (xσ34.trans (xσ37.trans (xσ46.trans (xσ48.trans xσ49)))))), by omega, by omega, by have q9 := iσ37.t6 (show kO σ37 b_3 0 by assumption); unfold tb at q9 ⊢; omega, by omega⟩) (by (first | omega | with_reducible assumption | with_reducible exact rng_toInt _ | with_reducible exact rng_wr _ | (unfold rng; omega) | (unfold rng at *; omega) | assumption))
            · rw [if_neg hc22]
              unfold w_X11_topUpTo_104
              obtain ⟨b_6, eb_6⟩ := P_11_0 iσ37.1 (kth.up (xτ34.trans (xσ34.trans xσ37)))
              refine ⟨b_6, eb_6, fun kk_b_6 => ?_⟩
              refine i_X8_release iσ37 kk_b_6 eb_3 (kk_b_3.up (xσ34.trans xσ37)) (by (first | omega | with_reducible assumption | with_reducible exact rng_toInt _ | with_reducible exact rng_wr _ | (unfold rng; omega) | (unfold rng at *; omega) | assumption)) (by (first | omega | with_reducible assumption | with_reducible exact rng_toInt _ | with_reducible exact rng_wr _ | (unfold rng; omega) | (unfold rng at *; omega) | assumption)) (fun σ41 LLσ41 Nσ41 nuσ41 _ iσ41 cσ41 uσ41 hσ41 pσ41 => ?_)
              intro xσ41
              have fσ41 : Fx [1, 5, 64, 512, 708, 6464] gr σ σ41 := fσ37.tr (cσ41.mo (by decide))
              have hnσ41 : Hn (gD σ) [44, 41] [] gq LL LLσ41 N Nσ41 := hnσ34.go hσ41 (fun d hd => (fσ37.1 d hd).1) (by first | decide | exact fun _ h => h | (simp; done) | (intro x hx; simp only [List.mem_cons, List.mem_nil_iff, or_false] at hx ⊢; omega)) (fun d hd => by rw [List.mem_singleton.mp hd]; exact lo_b_3)
              have nσ41_3 := hσ41.2.2 3 (by first | decide | (simp; done) | (simp only [List.mem_cons, List.mem_nil_iff, or_false, not_or]; omega)) (by first | decide | omega) (by first | decide | omega) (by first | decide | omega)
              have nσ41_5 := hσ41.2.2 5 (by first | decide | (simp; done) | (simp only [List.mem_cons, List.mem_nil_iff, or_false, not_or]; omega)) (by first | decide | omega) (by first | decide | omega) (by first | decide | omega)
              have nσ41_14 := hσ41.2.2 14 (by first | decide | (simp; done) | (simp only [List.mem_cons, List.mem_nil_iff, or_false, not_or]; omega)) (by first | decide | omega) (by first | decide | omega) (by first | decide | omega)
              have nσ41_44 := hσ41.2.2 44 (by first | decide | (simp; done) | (simp only [List.mem_cons, List.mem_nil_iff, or_false, not_or]; omega)) (by first | decide | omega) (by first | decide | omega) (by first | decide | omega)
              have nσ41_74 := hσ41.2.2 74 (by first | decide | (simp; done) | (simp only [List.mem_cons, List.mem_nil_iff, or_false, not_or]; omega)) (by first | decide | omega) (by first | decide | omega) (by first | decide | omega)
              have nσ41_11 := hσ41.2.2 11 (by first | decide | (simp; done) | (simp only [List.mem_cons, List.mem_nil_iff, or_false, not_or]; omega)) (by first | decide | omega) (by first | decide | omega) (by first | decide | omega)
              have nσ41_12 := hσ41.2.2 12 (by first | decide | (simp; done) | (simp only [List.mem_cons, List.mem_nil_iff, or_false, not_or]; omega)) (by first | decide | omega) (by first | decide | omega) (by first | decide | omega)
              have nσ41_41 := hσ41.2.2 41 (by first | decide | (simp; done) | (simp only [List.mem_cons, List.mem_nil_iff, or_false, not_or]; omega)) (by first | decide | omega) (by first | decide | omega) (by first | decide | omega)
              have nσ41_42 := hσ41.2.2 42 (by first | decide | (simp; done) | (simp only [List.mem_cons, List.mem_nil_iff, or_false, not_or]; omega)) (by first | decide | omega) (by first | decide | omega) (by first | decide | omega)
              have nσ41_13 := hσ41.2.2 13 (by first | decide | (simp; done) | (simp only [List.mem_cons, List.mem_nil_iff, or_false, not_or]; omega)) (by first | decide | omega) (by first | decide | omega) (by first | decide | omega)
              have nu_σ41 : NU nu nuσ41 := nu_σ34.tr uσ41
              have uσ41_0 := uσ41.1 0 (by decide)
              have uσ41_1 := uσ41.1 1 (by decide)
              have uσ41_2 := uσ41.2
              have uσ41_5 := uσ41.1 5 (by decide)
              have uσ41_15 := uσ41.1 15 (by decide)
              have uσ41_16 := uσ41.1 16 (by decide)
              have kp49 : gI σ41 o 7 = gI σ37 o 7 := (cσ41.O (ko.up (xτ34.trans (xσ34.trans xσ37))) (by decide)).1
              have kp50 : gI σ41 o 9 = gI σ37 o 9 := (cσ41.O (ko.up (xτ34.trans (xσ34.trans xσ37))) (by decide)).1
              have kp51 : gI σ41 th 4 = gI σ37 th 4 := (cσ41.O (kth.up (xτ34.trans (xσ34.trans xσ37))) (by decide)).1
              have kp52 : gP σ41 J 0 = gP σ37 J 0 := (cσ41.O (kJ.up (xτ34.trans (xσ34.trans xσ37))) (by decide)).2.1
              have kp53 : gP σ41 b (gI σ o 7).toNat = gP σ37 b (gI σ o 7).toNat := (cσ41.A (mb.up (xτ34.trans (xσ34.trans xσ37))) (by decide)).2.1
              have kp54 : gP σ41 t 2 = gP σ37 t 2 := (cσ41.O (kt.up (xτ34.trans (xσ34.trans xσ37))) (by decide)).2.1
              have kp55 : gP σ41 th 0 = gP σ37 th 0 := (cσ41.O (kth.up (xτ34.trans (xσ34.trans xσ37))) (by decide)).2.1
              have kp56 : gP σ41 th 5 = gP σ37 th 5 := (cσ41.O (kth.up (xτ34.trans (xσ34.trans xσ37))) (by decide)).2.1
              have laσ41 : (LLσ41 b_2).length = (LLσ34 b_2).length := by rw [hσ41.1 b_2 (mb_2.up (xτ34.trans (xσ34.trans xσ37))).1 (by first | (simp; done) | (simp only [List.mem_cons, List.mem_nil_iff, or_false, not_or]; omega)) (by omega)]
              unfold w_X11_topUpTo_143
              refine ⟨t, hv2, fun kk_t_3 => ?_⟩
              refine ⟨b_2, (kp54.trans (kp19.trans (kp12.trans (kp5.trans eb_2)))), fun kk_b_2_3 => ?_⟩
              exact ih34 σ41 LLσ41 Nσ41 nuσ41 (gJ σ37 b_3 6) 1 (gP σ41 b_2 0) iσ41 fσ41 (xτ34.trans (xσ34.trans (xσ37.trans xσ41))) nu_σ41 hnσ41 (⟨iσ41.first (mb_2.up (xτ34.trans (xσ34.trans (xσ37.trans xσ41)))), by omega, by omega, by have q9 := iσ37.t6 (show kO σ37 b_3 0 by assumption); unfold tb at q9 ⊢; omega, by omega⟩) (by (first | omega | with_reducible assumption | with_reducible exact rng_toInt _ | with_reducible exact rng_wr _ | (unfold rng; omega) | (unfold rng at *; omega) | assumption))
          · rw [if_neg hc21]
            have hc21q := Classical.not_not.mp hc21
            unfold w_X11_topUpTo_78
            unfold w_X11_topUpTo_86
            refine ⟨b_3, eb_3, fun kk_b_3_4 => ?_⟩
            refine ⟨o, hv1, fun kk_o_2 => ?_⟩
            have q58 := I_5_9 iσ37.1 (ko.up (xτ34.trans (xσ34.trans xσ37)))
            by_cases hc57 : (wr (v8 + 1)) ≤ gI σ37 o 9
            · rw [if_pos hc57]
              unfold w_X11_topUpTo_116
              refine ⟨b_3, eb_3, fun kk_b_3_5 => ?_⟩
              intro σ46_1 eσ46_1
              have xσ46_1 : Ext σ37 σ46_1 := by rw [eσ46_1]; exact fun _ h => ⟨h, rfl, rfl⟩
              have iσ46_1 : IV σ46_1 pl gq ci gr nc ot LLσ34 Nσ34 nuσ34 := by rw [eσ46_1]; exact iσ37.wT (kk_b_3.up (xσ34.trans xσ37)) (by decide) (iσ37.t6 (kk_b_3.up (xσ34.trans xσ37)))
              have fσ46_1 : Fx [1, 5, 64, 512, 708, 6464] gr σ σ46_1 := fσ37.tr (Sk.fx (by rw [eσ46_1]; exact Sk.pJ (by rw [fcdO (kk_b_3.up (xσ34.trans xσ37)) (by decide)]; decide)))
              have kp59 : gI σ46_1 o 7 = gI σ37 o 7 := by rw [eσ46_1]
              have kp60 : gI σ46_1 o 9 = gI σ37 o 9 := by rw [eσ46_1]
              have kp61 : gI σ46_1 th 4 = gI σ37 th 4 := by rw [eσ46_1]
              have kp62 : gP σ46_1 J 0 = gP σ37 J 0 := by rw [eσ46_1]
              have kp63 : gP σ46_1 b (gI σ o 7).toNat = gP σ37 b (gI σ o 7).toNat := by rw [eσ46_1]
              have kp64 : gP σ46_1 t 2 = gP σ37 t 2 := by rw [eσ46_1]
              have kp65 : gP σ46_1 th 5 = gP σ37 th 5 := by rw [eσ46_1]
              obtain ⟨b_7, eb_7, fb_7⟩ := P_0_0 iσ46_1.1 (kk_b_3.up (xσ34.trans (xσ37.trans xσ46_1)))
              have mb_7 : kO σ46_1 b_7 101 := iσ46_1.1.kd (kk_b_3.up (xσ34.trans (xσ37.trans xσ46_1))) rfl eb_7 rfl
              refine ⟨b_7, eb_7, fun kk_b_7 => ?_⟩
              have q66 := I_5_3 iσ.1 mb_1
              refine ⟨⟨by (first | omega | with_reducible assumption | with_reducible exact rng_toInt _ | with_reducible exact rng_wr _ | (unfold rng; omega) | (unfold rng at *; omega) | assumption), by (first | omega | with_reducible assumption | with_reducible exact rng_toInt _ | with_reducible exact rng_wr _ | (unfold rng; omega) | (unfold rng at *; omega) | assumption)⟩, ?_⟩
              intro σ48_1 eσ48_1
              have xσ48_1 : Ext σ46_1 σ48_1 := by rw [eσ48_1]; exact fun _ h => ⟨h, rfl, rfl⟩
              have iσ48_1 : IV σ48_1 pl gq ci gr nc ot LLσ34 Nσ34 nuσ34 := by rw [eσ48_1]; exact iσ46_1.wL mb_7 (by omega)
              have fσ48_1 : Fx [1, 5, 64, 512, 708, 6464] gr σ σ48_1 := fσ46_1.tr (Sk.fx (by rw [eσ48_1]; exact Sk.pJ (by rw [fcdA mb_7 (by decide)]; decide)))
              have kp67 : gI σ48_1 o 7 = gI σ46_1 o 7 := by rw [eσ48_1]
              have kp68 : gI σ48_1 o 9 = gI σ46_1 o 9 := by rw [eσ48_1]
              have kp69 : gI σ48_1 th 4 = gI σ46_1 th 4 := by rw [eσ48_1]
              have kp70 : gP σ48_1 J 0 = gP σ46_1 J 0 := by rw [eσ48_1]
              have kp71 : gP σ48_1 b (gI σ o 7).toNat = gP σ46_1 b (gI σ o 7).toNat := by rw [eσ48_1]
              have kp72 : gP σ48_1 b_3 0 = gP σ46_1 b_3 0 := by rw [eσ48_1]
              have kp73 : gP σ48_1 t 2 = gP σ46_1 t 2 := by rw [eσ48_1]
              have kp74 : gP σ48_1 th 5 = gP σ46_1 th 5 := by rw [eσ48_1]
              obtain ⟨b_8, eb_8, fb_8⟩ := P_11_2 iσ48_1.1 (kth.up (xτ34.trans (xσ34.trans (xσ37.trans (xσ46_1.trans xσ48_1)))))
              have mb_8 : kO σ48_1 b_8 1 := iσ48_1.1.kd (kth.up (xτ34.trans (xσ34.trans (xσ37.trans (xσ46_1.trans xσ48_1))))) rfl eb_8 rfl
              refine ⟨b_8, eb_8, fun kk_b_8 => ?_⟩
              refine i_X1_add (G0 := 44) iσ48_1 mb_8 eb_3 (kk_b_3.up (xσ34.trans (xσ37.trans (xσ46_1.trans xσ48_1)))) (by omega) (by (first | omega | with_reducible assumption | with_reducible exact rng_toInt _ | with_reducible exact rng_wr _ | (unfold rng; omega) | (unfold rng at *; omega) | assumption)) (by (first | omega | with_reducible assumption | with_reducible exact rng_toInt _ | with_reducible exact rng_wr _ | (unfold rng; omega) | (unfold rng at *; omega) | assumption)) (plc_y (G := 44) (by omega) (by decide)) (no50 (by decide)) (no13 (by decide)) (fun N9 n1 _ => iσ48_1.2.2.1.made (by decide) n1) (fun σ49_1 LLσ49_1 Nσ49_1 nuσ49_1 _ iσ49_1 cσ49_1 uσ49_1 hσ49_1 pσ49_1 => ?_)
              intro xσ49_1
              have fσ49_1 : Fx [1, 5, 64, 512, 708, 6464] gr σ σ49_1 := fσ48_1.tr (cσ49_1.mo (by decide))
              have hnσ49_1 : Hn (gD σ) [44, 41] [] gq LL LLσ49_1 N Nσ49_1 := hnσ34.go hσ49_1 (fun d hd => (fσ48_1.1 d hd).1) (by first | decide | exact fun _ h => h | (simp; done) | (intro x hx; simp only [List.mem_cons, List.mem_nil_iff, or_false] at hx ⊢; omega)) (fun d hd => by rw [List.mem_singleton.mp hd]; exact lo_b_3)
              have nσ49_1_3 := hσ49_1.2.2 3 (by first | decide | (simp; done) | (simp only [List.mem_cons, List.mem_nil_iff, or_false, not_or]; omega)) (by first | decide | omega) (by first | decide | omega) (by first | decide | omega)
              have nσ49_1_5 := hσ49_1.2.2 5 (by first | decide | (simp; done) | (simp only [List.mem_cons, List.mem_nil_iff, or_false, not_or]; omega)) (by first | decide | omega) (by first | decide | omega) (by first | decide | omega)
              have nσ49_1_14 := hσ49_1.2.2 14 (by first | decide | (simp; done) | (simp only [List.mem_cons, List.mem_nil_iff, or_false, not_or]; omega)) (by first | decide | omega) (by first | decide | omega) (by first | decide | omega)
              have nσ49_1_74 := hσ49_1.2.2 74 (by first | decide | (simp; done) | (simp only [List.mem_cons, List.mem_nil_iff, or_false, not_or]; omega)) (by first | decide | omega) (by first | decide | omega) (by first | decide | omega)
              have nσ49_1_11 := hσ49_1.2.2 11 (by first | decide | (simp; done) | (simp only [List.mem_cons, List.mem_nil_iff, or_false, not_or]; omega)) (by first | decide | omega) (by first | decide | omega) (by first | decide | omega)
              have nσ49_1_12 := hσ49_1.2.2 12 (by first | decide | (simp; done) | (simp only [List.mem_cons, List.mem_nil_iff, or_false, not_or]; omega)) (by first | decide | omega) (by first | decide | omega) (by first | decide | omega)
              have nσ49_1_41 := hσ49_1.2.2 41 (by first | decide | (simp; done) | (simp only [List.mem_cons, List.mem_nil_iff, or_false, not_or]; omega)) (by first | decide | omega) (by first | decide | omega) (by first | decide | omega)
              have nσ49_1_42 := hσ49_1.2.2 42 (by first | decide | (simp; done) | (simp only [List.mem_cons, List.mem_nil_iff, or_false, not_or]; omega)) (by first | decide | omega) (by first | decide | omega) (by first | decide | omega)
              have nσ49_1_13 := hσ49_1.2.2 13 (by first | decide | (simp; done) | (simp only [List.mem_cons, List.mem_nil_iff, or_false, not_or]; omega)) (by first | decide | omega) (by first | decide | omega) (by first | decide | omega)
              have nu_σ49_1 : NU nu nuσ49_1 := nu_σ34.tr uσ49_1
              have uσ49_1_0 := uσ49_1.1 0 (by decide)
              have uσ49_1_1 := uσ49_1.1 1 (by decide)
              have uσ49_1_2 := uσ49_1.2
              have uσ49_1_5 := uσ49_1.1 5 (by decide)
              have uσ49_1_15 := uσ49_1.1 15 (by decide)
              have uσ49_1_16 := uσ49_1.1 16 (by decide)
              have kp75 : gI σ49_1 o 7 = gI σ48_1 o 7 := (cσ49_1.O (ko.up (xτ34.trans (xσ34.trans (xσ37.trans (xσ46_1.trans xσ48_1))))) (by decide)).1
              have kp76 : gI σ49_1 o 9 = gI σ48_1 o 9 := (cσ49_1.O (ko.up (xτ34.trans (xσ34.trans (xσ37.trans (xσ46_1.trans xσ48_1))))) (by decide)).1
              have kp77 : gI σ49_1 th 4 = gI σ48_1 th 4 := (cσ49_1.O (kth.up (xτ34.trans (xσ34.trans (xσ37.trans (xσ46_1.trans xσ48_1))))) (by decide)).1
              have kp78 : gP σ49_1 J 0 = gP σ48_1 J 0 := (cσ49_1.O (kJ.up (xτ34.trans (xσ34.trans (xσ37.trans (xσ46_1.trans xσ48_1))))) (by decide)).2.1
              have kp79 : gP σ49_1 b (gI σ o 7).toNat = gP σ48_1 b (gI σ o 7).toNat := (cσ49_1.A (mb.up (xτ34.trans (xσ34.trans (xσ37.trans (xσ46_1.trans xσ48_1))))) (by decide)).2.1
              have kp80 : gP σ49_1 b_3 0 = gP σ48_1 b_3 0 := (cσ49_1.O (kk_b_3.up (xσ34.trans (xσ37.trans (xσ46_1.trans xσ48_1)))) (by decide)).2.1
              have kp81 : gP σ49_1 t 2 = gP σ48_1 t 2 := (cσ49_1.O (kt.up (xτ34.trans (xσ34.trans (xσ37.trans (xσ46_1.trans xσ48_1))))) (by decide)).2.1
              have kp82 : gP σ49_1 th 2 = gP σ48_1 th 2 := (cσ49_1.O (kth.up (xτ34.trans (xσ34.trans (xσ37.trans (xσ46_1.trans xσ48_1))))) (by decide)).2.1
              have kp83 : gP σ49_1 th 5 = gP σ48_1 th 5 := (cσ49_1.O (kth.up (xτ34.trans (xσ34.trans (xσ37.trans (xσ46_1.trans xσ48_1))))) (by decide)).2.1
              have laσ49_1 : (LLσ49_1 b_2).length = (LLσ34 b_2).length := by rw [hσ49_1.1 b_2 (mb_2.up (xτ34.trans (xσ34.trans (xσ37.trans (xσ46_1.trans xσ48_1))))).1 (by first | (simp; done) | (simp only [List.mem_cons, List.mem_nil_iff, or_false, not_or]; omega)) (by omega)]
              unfold w_X11_topUpTo_143
              refine ⟨t, hv2, fun kk_t_4 => ?_⟩
              refine ⟨b_2, (kp81.trans (kp73.trans (kp64.trans (kp19.trans (kp12.trans (kp5.trans eb_2)))))), fun kk_b_2_4 => ?_⟩
              exact ih34 σ49_1 LLσ49_1 Nσ49_1 nuσ49_1 (gJ σ37 b_3 6) (wr (v8 + 1)) (gP σ49_1 b_2 0) iσ49_1 fσ49_1 (xτ34.trans (xσ34.trans (xσ37.trans (xσ46_1.trans (xσ48_1.trans xσ49_1))))) nu_σ49_1 hnσ49_1 (⟨iσ49_1.first (mb_2.up (xτ34.trans (xσ34.trans (xσ37.trans (xσ46_1.trans (xσ48_1.trans xσ49_1)))))), by omega, by omega, by have q9 := iσ37.t6 (show kO σ37 b_3 0 by assumption); unfold tb at q9 ⊢; omega, by omega⟩) (by (first | omega | with_reducible assumption | with_reducible exact rng_toInt _ | with_reducible exact rng_wr _ | (unfold rng; omega) | (unfold rng at *; omega) | assumption))
            · rw [if_neg hc57]
              unfold w_X11_topUpTo_104
              obtain ⟨b_9, eb_9⟩ := P_11_0 iσ37.1 (kth.up (xτ34.trans (xσ34.trans xσ37)))
              refine ⟨b_9, eb_9, fun kk_b_9 => ?_⟩
              refine i_X8_release iσ37 kk_b_9 eb_3 (kk_b_3.up (xσ34.trans xσ37)) (by (first | omega | with_reducible assumption | with_reducible exact rng_toInt _ | with_reducible exact rng_wr _ | (unfold rng; omega) | (unfold rng at *; omega) | assumption)) (by (first | omega | with_reducible assumption | with_reducible exact rng_toInt _ | with_reducible exact rng_wr _ | (unfold rng; omega) | (unfold rng at *; omega) | assumption)) (fun σ41_1 LLσ41_1 Nσ41_1 nuσ41_1 _ iσ41_1 cσ41_1 uσ41_1 hσ41_1 pσ41_1 => ?_)
              intro xσ41_1
              have fσ41_1 : Fx [1, 5, 64, 512, 708, 6464] gr σ σ41_1 := fσ37.tr (cσ41_1.mo (by decide))
              have hnσ41_1 : Hn (gD σ) [44, 41] [] gq LL LLσ41_1 N Nσ41_1 := hnσ34.go hσ41_1 (fun d hd => (fσ37.1 d hd).1) (by first | decide | exact fun _ h => h | (simp; done) | (intro x hx; simp only [List.mem_cons, List.mem_nil_iff, or_false] at hx ⊢; omega)) (fun d hd => by rw [List.mem_singleton.mp hd]; exact lo_b_3)
              have nσ41_1_3 := hσ41_1.2.2 3 (by first | decide | (simp; done) | (simp only [List.mem_cons, List.mem_nil_iff, or_false, not_or]; omega)) (by first | decide | omega) (by first | decide | omega) (by first | decide | omega)
              have nσ41_1_5 := hσ41_1.2.2 5 (by first | decide | (simp; done) | (simp only [List.mem_cons, List.mem_nil_iff, or_false, not_or]; omega)) (by first | decide | omega) (by first | decide | omega) (by first | decide | omega)
              have nσ41_1_14 := hσ41_1.2.2 14 (by first | decide | (simp; done) | (simp only [List.mem_cons, List.mem_nil_iff, or_false, not_or]; omega)) (by first | decide | omega) (by first | decide | omega) (by first | decide | omega)
              have nσ41_1_44 := hσ41_1.2.2 44 (by first | decide | (simp; done) | (simp only [List.mem_cons, List.mem_nil_iff, or_false, not_or]; omega)) (by first | decide | omega) (by first | decide | omega) (by first | decide | omega)
              have nσ41_1_74 := hσ41_1.2.2 74 (by first | decide | (simp; done) | (simp only [List.mem_cons, List.mem_nil_iff, or_false, not_or]; omega)) (by first | decide | omega) (by first | decide | omega) (by first | decide | omega)
              have nσ41_1_11 := hσ41_1.2.2 11 (by first | decide | (simp; done) | (simp only [List.mem_cons, List.mem_nil_iff, or_false, not_or]; omega)) (by first | decide | omega) (by first | decide | omega) (by first | decide | omega)
              have nσ41_1_12 := hσ41_1.2.2 12 (by first | decide | (simp; done) | (simp only [List.mem_cons, List.mem_nil_iff, or_false, not_or]; omega)) (by first | decide | omega) (by first | decide | omega) (by first | decide | omega)
              have nσ41_1_41 := hσ41_1.2.2 41 (by first | decide | (simp; done) | (simp only [List.mem_cons, List.mem_nil_iff, or_false, not_or]; omega)) (by first | decide | omega) (by first | decide | omega) (by first | decide | omega)
              have nσ41_1_42 := hσ41_1.2.2 42 (by first | decide | (simp; done) | (simp only [List.mem_cons, List.mem_nil_iff, or_false, not_or]; omega)) (by first | decide | omega) (by first | decide | omega) (by first | decide | omega)
              have nσ41_1_13 := hσ41_1.2.2 13 (by first | decide | (simp; done) | (simp only [List.mem_cons, List.mem_nil_iff, or_false, not_or]; omega)) (by first | decide | omega) (by first | decide | omega) (by first | decide | omega)
              have nu_σ41_1 : NU nu nuσ41_1 := nu_σ34.tr uσ41_1
              have uσ41_1_0 := uσ41_1.1 0 (by decide)
              have uσ41_1_1 := uσ41_1.1 1 (by decide)
              have uσ41_1_2 := uσ41_1.2
              have uσ41_1_5 := uσ41_1.1 5 (by decide)
              have uσ41_1_15 := uσ41_1.1 15 (by decide)
              have uσ41_1_16 := uσ41_1.1 16 (by decide)
              have kp84 : gI σ41_1 o 7 = gI σ37 o 7 := (cσ41_1.O (ko.up (xτ34.trans (xσ34.trans xσ37))) (by decide)).1
              have kp85 : gI σ41_1 o 9 = gI σ37 o 9 := (cσ41_1.O (ko.up (xτ34.trans (xσ34.trans xσ37))) (by decide)).1
              have kp86 : gI σ41_1 th 4 = gI σ37 th 4 := (cσ41_1.O (kth.up (xτ34.trans (xσ34.trans xσ37))) (by decide)).1
              have kp87 : gP σ41_1 J 0 = gP σ37 J 0 := (cσ41_1.O (kJ.up (xτ34.trans (xσ34.trans xσ37))) (by decide)).2.1
              have kp88 : gP σ41_1 b (gI σ o 7).toNat = gP σ37 b (gI σ o 7).toNat := (cσ41_1.A (mb.up (xτ34.trans (xσ34.trans xσ37))) (by decide)).2.1
              have kp89 : gP σ41_1 t 2 = gP σ37 t 2 := (cσ41_1.O (kt.up (xτ34.trans (xσ34.trans xσ37))) (by decide)).2.1
              have kp90 : gP σ41_1 th 0 = gP σ37 th 0 := (cσ41_1.O (kth.up (xτ34.trans (xσ34.trans xσ37))) (by decide)).2.1
              have kp91 : gP σ41_1 th 5 = gP σ37 th 5 := (cσ41_1.O (kth.up (xτ34.trans (xσ34.trans xσ37))) (by decide)).2.1
              have laσ41_1 : (LLσ41_1 b_2).length = (LLσ34 b_2).length := by rw [hσ41_1.1 b_2 (mb_2.up (xτ34.trans (xσ34.trans xσ37))).1 (by first | (simp; done) | (simp only [List.mem_cons, List.mem_nil_iff, or_false, not_or]; omega)) (by omega)]
              unfold w_X11_topUpTo_143
              refine ⟨t, hv2, fun kk_t_5 => ?_⟩
              refine ⟨b_2, (kp89.trans (kp19.trans (kp12.trans (kp5.trans eb_2)))), fun kk_b_2_5 => ?_⟩
              exact ih34 σ41_1 LLσ41_1 Nσ41_1 nuσ41_1 (gJ σ37 b_3 6) (wr (v8 + 1)) (gP σ41_1 b_2 0) iσ41_1 fσ41_1 (xτ34.trans (xσ34.trans (xσ37.trans xσ41_1))) nu_σ41_1 hnσ41_1 (⟨iσ41_1.first (mb_2.up (xτ34.trans (xσ34.trans (xσ37.trans xσ41_1)))), by omega, by omega, by have q9 := iσ37.t6 (show kO σ37 b_3 0 by assumption); unfold tb at q9 ⊢; omega, by omega⟩) (by (first | omega | with_reducible assumption | with_reducible exact rng_toInt _ | with_reducible exact rng_wr _ | (unfold rng; omega) | (unfold rng at *; omega) | assumption))
  have q92 := I_5_3 iσ.1 mb_1
  exact ⟨_, Lp34 _ σ LL N nu _ _ _ iσ fσ (Ext.rfl' _) NU.rf hnσ (⟨iσ.first mb_2, rfl, by omega, tbm1 iσ, rfl⟩) (Nat.lt_succ_self _)⟩
set_option maxHeartbeats 1000000 in
theorem i4_X11_lookUpTo {σ : Sg} {pl : Nat} {gq ci gr nc : Nat → Nat} {ot : Nat → Nat → Int} {LL : Nat → List Nat} {N nu : Nat → Nat} {th : Nat} {v1 : Option Nat} {v2 : Option Nat} {v3 : Int64} {J i : Nat} (iσ : IV σ pl gq ci gr nc ot LL N nu) (kth : kO σ th 11) {o : Nat} (hv1 : v1 = some o) (ko : kO σ o 5) {t : Nat} (hv2 : v2 = some t) (kt : kO σ t 10) (hq : gq th = 4) (hj : gP σ th 5 = some J) (kJ : kO σ J 4) (hJ : gq J = nc 0) (ho : gq o = 16 * nc 0 + i) (hi : i < nc 1) (hk : ot i 6 = 7) (ht : gq t = 4) (h5 : nu 5 < 24000) (hb : N 14 + N 44 + N 74 + N 1 ≤ 30000) {Q : Sg → Unit → Prop} {X : Sg → String → Prop} (hQ : ∀ (σ' : Sg) (LL' : Nat → List Nat) (N' nu' : Nat → Nat) (r : Unit), IV σ' pl gq ci gr nc ot LL' N' nu' → Fx [1, 2, 3, 4, 5, 6, 7, 64, 512, 513, 514, 708, 6464] gr σ σ' → NU nu nu' → Hn (gD σ) [44, 41, 42] [] gq LL LL' N N' → (N' 1 = N 1 ∧ N' 44 ≤ N 44 + N 41) → Q σ' r) (hX : ∀ (σ' : Sg) (LL' : Nat → List Nat) (N' nu' : Nat → Nat) (E : String), IV σ' pl gq ci gr nc ot LL' N' nu' → Fx [1, 2, 3, 4, 5, 6, 7, 64, 512, 513, 514, 708, 6464] gr σ σ' → NX nu nu' → ((N' 1 ≤ N 1 + 1 ∧ N' 5 = N 5 ∧ N' 3 = N 3 ∧ N' 14 = N 14 ∧ N' 74 = N 74) ∧ NZ N N' ∧ E = "java/lang/IllegalStateException") → X σ' E) : wp_X11_lookUpTo th v1 v2 v3 σ Q X := by
  have fσ : Fx [1, 2, 3, 4, 5, 6, 7, 64, 512, 513, 514, 708, 6464] gr σ σ := Fx.rf
  have hnσ : Hn (gD σ) [44, 41, 42] [] gq LL LL N N := Hn.rf
  have ok := iσ.opok hi
  have q7 := iσ.op ko ho hi 7 (by decide)
  have q8 := iσ.op ko ho hi 8 (by decide)
  have h8 : 0 ≤ ot i 8 := ok.2.2.2.2.1 (by omega)
  have rc := iσ.recs4 kth (by omega)
  have q4 := I_11_4 iσ.1 kth
  unfold wp_X11_lookUpTo
  unfold w_X11_lookUpTo_0
  refine ⟨J, hj, fun kk_J => ?_⟩
  refine ⟨o, hv1, fun kk_o => ?_⟩
  obtain ⟨b, eb, fb⟩ := P_4_0 iσ.1 kJ
  have mb : kO σ b 115 := iσ.1.kd kJ rfl eb rfl
  refine ⟨b, eb, fun kk_b => ?_⟩
  have q1 := I_5_8 iσ.1 ko
  refine ⟨⟨by (first | omega | with_reducible assumption | with_reducible exact rng_toInt _ | with_reducible exact rng_wr _ | (unfold rng; omega) | (unfold rng at *; omega) | assumption), by (first | omega | with_reducible assumption | with_reducible exact rng_toInt _ | with_reducible exact rng_wr _ | (unfold rng; omega) | (unfold rng at *; omega) | assumption)⟩, ?_⟩
  obtain ⟨b_1, eb_1⟩ := P_115 iσ.1 mb (k := (gI σ o 8).toNat) (by (first | omega | with_reducible assumption | with_reducible exact rng_toInt _ | with_reducible exact rng_wr _ | (unfold rng; omega) | (unfold rng at *; omega) | assumption))
  have fb_1 := T_115 iσ.1 mb eb_1
  have mb_1 : kO σ b_1 5 := iσ.1.kd mb rfl eb_1 rfl
  refine ⟨b_1, eb_1, fun kk_b_1 => ?_⟩
  refine ⟨t, hv2, fun kk_t => ?_⟩
  obtain ⟨b_2, eb_2, fb_2⟩ := P_10_2 iσ.1 kt
  have mb_2 : kO σ b_2 1 := iσ.1.kd kt rfl eb_2 rfl
  refine ⟨b_2, eb_2, fun kk_b_2 => ?_⟩
  have Lp26 : ∀ (fu26 : Nat) (τ26 : Sg) (LLt26 : Nat → List Nat) (Nt26 nut26 : Nat → Nat) (v6 : Option Nat), IV τ26 pl gq ci gr nc ot LLt26 Nt26 nut26 → Fx [1, 2, 3, 4, 5, 6, 7, 64, 512, 513, 514, 708, 6464] gr σ τ26 → Ext σ τ26 → NU nu nut26 → Hn (gD σ) [44, 41, 42] [] gq LL LLt26 N Nt26 → (v6 = (LLt26 b_2).head? ∧ Nt26 1 = N 1 ∧ Nt26 44 + Nt26 41 ≤ N 44 + N 41) → ((LLt26 b_2).length) < fu26 → wl_X11_lookUpTo_26 th Q X fu26 τ26 v1 v2 v3 (gI σ b_1 3) v6 := by
    intro fu26
    induction fu26 with
    | zero => intro _ _ _ _ _ _ _ _ _ _ _ h9; omega
    | succ fu26 ih26 =>
      intro τ26 LLt26 Nt26 nut26 v6 iτ26 fτ26 xτ26 nu_τ26 hnτ26 hi26 hm26
      have nτ26_3 := hnτ26.2.2 3 (by first | decide | (simp; done) | (simp only [List.mem_cons, List.mem_nil_iff, or_false, not_or]; omega)) (by first | decide | omega) (by first | decide | omega) (by first | decide | omega)
      have nτ26_5 := hnτ26.2.2 5 (by first | decide | (simp; done) | (simp only [List.mem_cons, List.mem_nil_iff, or_false, not_or]; omega)) (by first | decide | omega) (by first | decide | omega) (by first | decide | omega)
      have nτ26_14 := hnτ26.2.2 14 (by first | decide | (simp; done) | (simp only [List.mem_cons, List.mem_nil_iff, or_false, not_or]; omega)) (by first | decide | omega) (by first | decide | omega) (by first | decide | omega)
      have nτ26_74 := hnτ26.2.2 74 (by first | decide | (simp; done) | (simp only [List.mem_cons, List.mem_nil_iff, or_false, not_or]; omega)) (by first | decide | omega) (by first | decide | omega) (by first | decide | omega)
      have nτ26_11 := hnτ26.2.2 11 (by first | decide | (simp; done) | (simp only [List.mem_cons, List.mem_nil_iff, or_false, not_or]; omega)) (by first | decide | omega) (by first | decide | omega) (by first | decide | omega)
      have nτ26_12 := hnτ26.2.2 12 (by first | decide | (simp; done) | (simp only [List.mem_cons, List.mem_nil_iff, or_false, not_or]; omega)) (by first | decide | omega) (by first | decide | omega) (by first | decide | omega)
      have nτ26_13 := hnτ26.2.2 13 (by first | decide | (simp; done) | (simp only [List.mem_cons, List.mem_nil_iff, or_false, not_or]; omega)) (by first | decide | omega) (by first | decide | omega) (by first | decide | omega)
      have uτ26_0 := nu_τ26.1 0 (by decide)
      have uτ26_1 := nu_τ26.1 1 (by decide)
      have uτ26_2 := nu_τ26.2
      have uτ26_5 := nu_τ26.1 5 (by decide)
      have uτ26_15 := nu_τ26.1 15 (by decide)
      have uτ26_16 := nu_τ26.1 16 (by decide)
      unfold wl_X11_lookUpTo_26
      have kp2 : gI τ26 o 8 = gI σ o 8 := (fτ26.O ko (by decide)).1
      have kp3 : gP τ26 J 0 = gP σ J 0 := (fτ26.O kJ (by decide)).2.1
      have kp4 : gP τ26 b (gI σ o 8).toNat = gP σ b (gI σ o 8).toNat := (fτ26.A mb (by decide)).2.1
      have kp5 : gP τ26 t 2 = gP σ t 2 := (fτ26.O kt (by decide)).2.1
      have kp6 : gP τ26 th 5 = gP σ th 5 := (fτ26.O kth (by decide)).2.1
      have kp7 : gI τ26 t 0 = gI σ t 0 := (fτ26.O kt (by decide)).1
      unfold w_X11_lookUpTo_26
      by_cases hc8 : v6 = none
      · rw [if_pos hc8]
        unfold w_X11_lookUpTo_176
        refine ⟨t, hv2, fun kk_t_1 => ?_⟩
        have q9 := I_5_3 iσ.1 mb_1
        obtain ⟨b_3, eb_3, fb_3⟩ := P_10_3 iτ26.1 (kt.up xτ26)
        have mb_3 : kO τ26 b_3 1 := iτ26.1.kd (kt.up xτ26) rfl eb_3 rfl
        refine i4_X11_dropOutdone (G0 := 42) iτ26 (kth.up xτ26) eb_3 mb_3 (by (first | omega | with_reducible assumption | with_reducible exact rng_toInt _ | with_reducible exact rng_wr _ | (unfold rng; omega) | (unfold rng at *; omega) | assumption)) (by omega) (by decide) (fun σ62 LLσ62 Nσ62 nuσ62 _ iσ62 cσ62 uσ62 hσ62 pσ62 => ?_)
        intro xσ62
        have fσ62 : Fx [1, 2, 3, 4, 5, 6, 7, 64, 512, 513, 514, 708, 6464] gr σ σ62 := fτ26.tr (cσ62.mo (by decide))
        have hnσ62 : Hn (gD σ) [44, 41, 42] [] gq LL LLσ62 N Nσ62 := hnτ26.go hσ62 (fun d hd => (fτ26.1 d hd).1) (by first | decide | exact fun _ h => h | (simp; done) | (intro x hx; simp only [List.mem_cons, List.mem_nil_iff, or_false] at hx ⊢; omega)) (fun d hd => absurd hd (by simp))
        have nσ62_3 := hσ62.2.2 3 (by first | decide | (simp; done) | (simp only [List.mem_cons, List.mem_nil_iff, or_false, not_or]; omega)) (by first | decide | omega) (by first | decide | omega) (by first | decide | omega)
        have nσ62_5 := hσ62.2.2 5 (by first | decide | (simp; done) | (simp only [List.mem_cons, List.mem_nil_iff, or_false, not_or]; omega)) (by first | decide | omega) (by first | decide | omega) (by first | decide | omega)
        have nσ62_14 := hσ62.2.2 14 (by first | decide | (simp; done) | (simp only [List.mem_cons, List.mem_nil_iff, or_false, not_or]; omega)) (by first | decide | omega) (by first | decide | omega) (by first | decide | omega)
        have nσ62_44 := hσ62.2.2 44 (by first | decide | (simp; done) | (simp only [List.mem_cons, List.mem_nil_iff, or_false, not_or]; omega)) (by first | decide | omega) (by first | decide | omega) (by first | decide | omega)
        have nσ62_74 := hσ62.2.2 74 (by first | decide | (simp; done) | (simp only [List.mem_cons, List.mem_nil_iff, or_false, not_or]; omega)) (by first | decide | omega) (by first | decide | omega) (by first | decide | omega)
        have nσ62_11 := hσ62.2.2 11 (by first | decide | (simp; done) | (simp only [List.mem_cons, List.mem_nil_iff, or_false, not_or]; omega)) (by first | decide | omega) (by first | decide | omega) (by first | decide | omega)
        have nσ62_12 := hσ62.2.2 12 (by first | decide | (simp; done) | (simp only [List.mem_cons, List.mem_nil_iff, or_false, not_or]; omega)) (by first | decide | omega) (by first | decide | omega) (by first | decide | omega)
        have nσ62_41 := hσ62.2.2 41 (by first | decide | (simp; done) | (simp only [List.mem_cons, List.mem_nil_iff, or_false, not_or]; omega)) (by first | decide | omega) (by first | decide | omega) (by first | decide | omega)
        have nσ62_13 := hσ62.2.2 13 (by first | decide | (simp; done) | (simp only [List.mem_cons, List.mem_nil_iff, or_false, not_or]; omega)) (by first | decide | omega) (by first | decide | omega) (by first | decide | omega)
        have nu_σ62 : NU nu nuσ62 := nu_τ26.tr uσ62
        have uσ62_0 := uσ62.1 0 (by decide)
        have uσ62_1 := uσ62.1 1 (by decide)
        have uσ62_2 := uσ62.2
        have uσ62_5 := uσ62.1 5 (by decide)
        have uσ62_15 := uσ62.1 15 (by decide)
        have uσ62_16 := uσ62.1 16 (by decide)
        have kp10 : gI σ62 o 8 = gI τ26 o 8 := (cσ62.O (ko.up xτ26) (by decide)).1
        have kp11 : gP σ62 J 0 = gP τ26 J 0 := (cσ62.O (kJ.up xτ26) (by decide)).2.1
        have kp12 : gP σ62 b (gI σ o 8).toNat = gP τ26 b (gI σ o 8).toNat := (cσ62.A (mb.up xτ26) (by decide)).2.1
        have kp13 : gP σ62 t 2 = gP τ26 t 2 := (cσ62.O (kt.up xτ26) (by decide)).2.1
        have kp14 : gP σ62 t 3 = gP τ26 t 3 := (cσ62.O (kt.up xτ26) (by decide)).2.1
        have kp15 : gP σ62 th 5 = gP τ26 th 5 := (cσ62.O (kth.up xτ26) (by decide)).2.1
        have kp16 : gI σ62 t 0 = gI τ26 t 0 := (cσ62.O (kt.up xτ26) (by decide)).1
        exact hQ σ62 LLσ62 Nσ62 nuσ62 () iσ62 fσ62 (nu_σ62) hnσ62 (by (first | omega | with_reducible assumption | with_reducible exact rng_toInt _ | with_reducible exact rng_wr _ | (unfold rng; omega) | (unfold rng at *; omega) | assumption))
      · rw [if_neg hc8]
        unfold w_X11_lookUpTo_31
        obtain ⟨b_4, eb_4⟩ := Option.ne_none_iff_exists'.mp hc8
        refine ⟨b_4, eb_4, fun kk_b_4 => ?_⟩
        by_cases hc17 : gJ τ26 b_4 5 > v3
        · rw [if_pos hc17]
          unfold w_X11_lookUpTo_176
          refine ⟨t, hv2, fun kk_t_2 => ?_⟩
          have q18 := I_5_3 iσ.1 mb_1
          obtain ⟨b_5, eb_5, fb_5⟩ := P_10_3 iτ26.1 (kt.up xτ26)
          have mb_5 : kO τ26 b_5 1 := iτ26.1.kd (kt.up xτ26) rfl eb_5 rfl
          refine i4_X11_dropOutdone (G0 := 42) iτ26 (kth.up xτ26) eb_5 mb_5 (by (first | omega | with_reducible assumption | with_reducible exact rng_toInt _ | with_reducible exact rng_wr _ | (unfold rng; omega) | (unfold rng at *; omega) | assumption)) (by omega) (by decide) (fun σ62_1 LLσ62_1 Nσ62_1 nuσ62_1 _ iσ62_1 cσ62_1 uσ62_1 hσ62_1 pσ62_1 => ?_)
          intro xσ62_1
          have fσ62_1 : Fx [1, 2, 3, 4, 5, 6, 7, 64, 512, 513, 514, 708, 6464] gr σ σ62_1 := fτ26.tr (cσ62_1.mo (by decide))
          have hnσ62_1 : Hn (gD σ) [44, 41, 42] [] gq LL LLσ62_1 N Nσ62_1 := hnτ26.go hσ62_1 (fun d hd => (fτ26.1 d hd).1) (by first | decide | exact fun _ h => h | (simp; done) | (intro x hx; simp only [List.mem_cons, List.mem_nil_iff, or_false] at hx ⊢; omega)) (fun d hd => absurd hd (by simp))
          have nσ62_1_3 := hσ62_1.2.2 3 (by first | decide | (simp; done) | (simp only [List.mem_cons, List.mem_nil_iff, or_false, not_or]; omega)) (by first | decide | omega) (by first | decide | omega) (by first | decide | omega)
          have nσ62_1_5 := hσ62_1.2.2 5 (by first | decide | (simp; done) | (simp only [List.mem_cons, List.mem_nil_iff, or_false, not_or]; omega)) (by first | decide | omega) (by first | decide | omega) (by first | decide | omega)
          have nσ62_1_14 := hσ62_1.2.2 14 (by first | decide | (simp; done) | (simp only [List.mem_cons, List.mem_nil_iff, or_false, not_or]; omega)) (by first | decide | omega) (by first | decide | omega) (by first | decide | omega)
          have nσ62_1_44 := hσ62_1.2.2 44 (by first | decide | (simp; done) | (simp only [List.mem_cons, List.mem_nil_iff, or_false, not_or]; omega)) (by first | decide | omega) (by first | decide | omega) (by first | decide | omega)
          have nσ62_1_74 := hσ62_1.2.2 74 (by first | decide | (simp; done) | (simp only [List.mem_cons, List.mem_nil_iff, or_false, not_or]; omega)) (by first | decide | omega) (by first | decide | omega) (by first | decide | omega)
          have nσ62_1_11 := hσ62_1.2.2 11 (by first | decide | (simp; done) | (simp only [List.mem_cons, List.mem_nil_iff, or_false, not_or]; omega)) (by first | decide | omega) (by first | decide | omega) (by first | decide | omega)
          have nσ62_1_12 := hσ62_1.2.2 12 (by first | decide | (simp; done) | (simp only [List.mem_cons, List.mem_nil_iff, or_false, not_or]; omega)) (by first | decide | omega) (by first | decide | omega) (by first | decide | omega)
          have nσ62_1_41 := hσ62_1.2.2 41 (by first | decide | (simp; done) | (simp only [List.mem_cons, List.mem_nil_iff, or_false, not_or]; omega)) (by first | decide | omega) (by first | decide | omega) (by first | decide | omega)
          have nσ62_1_13 := hσ62_1.2.2 13 (by first | decide | (simp; done) | (simp only [List.mem_cons, List.mem_nil_iff, or_false, not_or]; omega)) (by first | decide | omega) (by first | decide | omega) (by first | decide | omega)
          have nu_σ62_1 : NU nu nuσ62_1 := nu_τ26.tr uσ62_1
          have uσ62_1_0 := uσ62_1.1 0 (by decide)
          have uσ62_1_1 := uσ62_1.1 1 (by decide)
          have uσ62_1_2 := uσ62_1.2
          have uσ62_1_5 := uσ62_1.1 5 (by decide)
          have uσ62_1_15 := uσ62_1.1 15 (by decide)
          have uσ62_1_16 := uσ62_1.1 16 (by decide)
          have kp19 : gI σ62_1 o 8 = gI τ26 o 8 := (cσ62_1.O (ko.up xτ26) (by decide)).1
          have kp20 : gP σ62_1 J 0 = gP τ26 J 0 := (cσ62_1.O (kJ.up xτ26) (by decide)).2.1
          have kp21 : gP σ62_1 b (gI σ o 8).toNat = gP τ26 b (gI σ o 8).toNat := (cσ62_1.A (mb.up xτ26) (by decide)).2.1
          have kp22 : gP σ62_1 t 2 = gP τ26 t 2 := (cσ62_1.O (kt.up xτ26) (by decide)).2.1
          have kp23 : gP σ62_1 t 3 = gP τ26 t 3 := (cσ62_1.O (kt.up xτ26) (by decide)).2.1
          have kp24 : gP σ62_1 th 5 = gP τ26 th 5 := (cσ62_1.O (kth.up xτ26) (by decide)).2.1
          have kp25 : gI σ62_1 t 0 = gI τ26 t 0 := (cσ62_1.O (kt.up xτ26) (by decide)).1
          exact hQ σ62_1 LLσ62_1 Nσ62_1 nuσ62_1 () iσ62_1 fσ62_1 (nu_σ62_1) hnσ62_1 (by (first | omega | with_reducible assumption | with_reducible exact rng_toInt _ | with_reducible exact rng_wr _ | (unfold rng; omega) | (unfold rng at *; omega) | assumption))
        · rw [if_neg hc17]
          unfold w_X11_lookUpTo_41
          refine ⟨t, hv2, fun kk_t_3 => ?_⟩
          refine ⟨b_2, (kp5.trans eb_2), fun kk_b_2_1 => ?_⟩
          obtain ⟨T9, eT⟩ := it_cons hi26.1 eb_4
          have lo_b_4 : Lo [] (gD σ) LL b_4 := hnτ26.loc (fun d hd => (fτ26.1 d hd).1) (Or.inr ⟨b_2, by rw [eT]; exact List.mem_cons_self⟩)
          have rc9 := iτ26.recs4 (kth.up xτ26) (by omega)
          refine i_X1_takeFirst (G0 := 41) iτ26 (mb_2.up xτ26) (by omega) (fun σ43 LLσ43 Nσ43 nuσ43 r44 iσ43 cσ43 uσ43 hσ43 pσ43 => ?_)
          intro xσ43
          have fσ43 : Fx [1, 2, 3, 4, 5, 6, 7, 64, 512, 513, 514, 708, 6464] gr σ σ43 := fτ26.tr (cσ43.mo (by decide))
          have hnσ43 : Hn (gD σ) [44, 41, 42] [] gq LL LLσ43 N Nσ43 := hnτ26.go hσ43 (fun d hd => (fτ26.1 d hd).1) (by first | decide | exact fun _ h => h | (simp; done) | (intro x hx; simp only [List.mem_cons, List.mem_nil_iff, or_false] at hx ⊢; omega)) (fun d hd => absurd hd (by simp))
          have nσ43_3 := hσ43.2.2 3 (by first | decide | (simp; done) | (simp only [List.mem_cons, List.mem_nil_iff, or_false, not_or]; omega)) (by first | decide | omega) (by first | decide | omega) (by first | decide | omega)
          have nσ43_5 := hσ43.2.2 5 (by first | decide | (simp; done) | (simp only [List.mem_cons, List.mem_nil_iff, or_false, not_or]; omega)) (by first | decide | omega) (by first | decide | omega) (by first | decide | omega)
          have nσ43_14 := hσ43.2.2 14 (by first | decide | (simp; done) | (simp only [List.mem_cons, List.mem_nil_iff, or_false, not_or]; omega)) (by first | decide | omega) (by first | decide | omega) (by first | decide | omega)
          have nσ43_44 := hσ43.2.2 44 (by first | decide | (simp; done) | (simp only [List.mem_cons, List.mem_nil_iff, or_false, not_or]; omega)) (by first | decide | omega) (by first | decide | omega) (by first | decide | omega)
          have nσ43_74 := hσ43.2.2 74 (by first | decide | (simp; done) | (simp only [List.mem_cons, List.mem_nil_iff, or_false, not_or]; omega)) (by first | decide | omega) (by first | decide | omega) (by first | decide | omega)
          have nσ43_11 := hσ43.2.2 11 (by first | decide | (simp; done) | (simp only [List.mem_cons, List.mem_nil_iff, or_false, not_or]; omega)) (by first | decide | omega) (by first | decide | omega) (by first | decide | omega)
          have nσ43_12 := hσ43.2.2 12 (by first | decide | (simp; done) | (simp only [List.mem_cons, List.mem_nil_iff, or_false, not_or]; omega)) (by first | decide | omega) (by first | decide | omega) (by first | decide | omega)
          have nσ43_42 := hσ43.2.2 42 (by first | decide | (simp; done) | (simp only [List.mem_cons, List.mem_nil_iff, or_false, not_or]; omega)) (by first | decide | omega) (by first | decide | omega) (by first | decide | omega)
          have nσ43_13 := hσ43.2.2 13 (by first | decide | (simp; done) | (simp only [List.mem_cons, List.mem_nil_iff, or_false, not_or]; omega)) (by first | decide | omega) (by first | decide | omega) (by first | decide | omega)
          have nu_σ43 : NU nu nuσ43 := nu_τ26.tr uσ43
          have uσ43_0 := uσ43.1 0 (by decide)
          have uσ43_1 := uσ43.1 1 (by decide)
          have uσ43_2 := uσ43.2
          have uσ43_5 := uσ43.1 5 (by decide)
          have uσ43_15 := uσ43.1 15 (by decide)
          have uσ43_16 := uσ43.1 16 (by decide)
          have kp26 : gI σ43 o 8 = gI τ26 o 8 := (cσ43.O (ko.up xτ26) (by decide)).1
          have kp27 : gP σ43 J 0 = gP τ26 J 0 := (cσ43.O (kJ.up xτ26) (by decide)).2.1
          have kp28 : gP σ43 b (gI σ o 8).toNat = gP τ26 b (gI σ o 8).toNat := (cσ43.A (mb.up xτ26) (by decide)).2.1
          have kp29 : gP σ43 t 2 = gP τ26 t 2 := (cσ43.O (kt.up xτ26) (by decide)).2.1
          have kp30 : gP σ43 th 5 = gP τ26 th 5 := (cσ43.O (kth.up xτ26) (by decide)).2.1
          have kp31 : gI σ43 t 0 = gI τ26 t 0 := (cσ43.O (kt.up xτ26) (by decide)).1
          have kp32 : gI σ43 th 4 = gI τ26 th 4 := (cσ43.O (kth.up xτ26) (by decide)).1
          obtain ⟨r9, eL9, hb9, n9a, n9b⟩ := take_r eT pσ43
          have laσ43 : (LLσ43 b_2).length + 1 = (LLt26 b_2).length := by rw [eL9, up1_s, eT]; rfl
          intro tyt
          have q33 := I_11_4 iσ43.1 (kth.up (xτ26.trans xσ43))
          refine ⟨by (first | omega | with_reducible assumption | with_reducible exact rng_toInt _ | with_reducible exact rng_wr _ | (unfold rng; omega) | (unfold rng at *; omega) | assumption), ?_⟩
          intro σ46 eσ46
          have xσ46 : Ext σ43 σ46 := by rw [eσ46]; exact fun _ h => ⟨h, rfl, rfl⟩
          have iσ46 : IV σ46 pl gq ci gr nc ot LLσ43 Nσ43 nuσ43 := by rw [eσ46]; exact iσ43.rec4 (kth.up (xτ26.trans xσ43)) (by omega) (by omega) (by omega)
          have fσ46 : Fx [1, 2, 3, 4, 5, 6, 7, 64, 512, 513, 514, 708, 6464] gr σ σ46 := fσ43.tr (Sk.fx (by rw [eσ46]; exact Sk.pI (by rw [fcdO (kth.up (xτ26.trans xσ43)) (by decide)]; decide)))
          have wσ46 : gI σ46 th 4 = (gI σ43 th 4 - 1) := by rw [eσ46]; exact up2_s _ _ _ _
          have kp34 : gI σ46 o 8 = gI σ43 o 8 := by rw [eσ46]; exact up2_n _ _ (fun q => absurd q.2 (by decide))
          have kp35 : gP σ46 J 0 = gP σ43 J 0 := by rw [eσ46]
          have kp36 : gP σ46 b (gI σ o 8).toNat = gP σ43 b (gI σ o 8).toNat := by rw [eσ46]
          have kp37 : gP σ46 t 2 = gP σ43 t 2 := by rw [eσ46]
          have kp38 : gP σ46 th 5 = gP σ43 th 5 := by rw [eσ46]
          have kp39 : gI σ46 t 0 = gI σ43 t 0 := by rw [eσ46]; exact up2_n _ _ (fun q => absurd q.2 (by decide))
          obtain ⟨b_6, eb_6, fb_6⟩ := P_10_3 iσ46.1 (kt.up (xτ26.trans (xσ43.trans xσ46)))
          have mb_6 : kO σ46 b_6 1 := iσ46.1.kd (kt.up (xτ26.trans (xσ43.trans xσ46))) rfl eb_6 rfl
          refine ⟨b_6, eb_6, fun kk_b_6 => ?_⟩
          have Lp71 : ∀ (fu71 : Nat) (v7 : Option Nat) (v8 : Option Nat), (∃ (A B : List Nat), ((LLσ43 b_6 = A ++ B ∧ v8 = B.head?) ∧ (∀ c9, v7 = some c9 → kO σ46 c9 0)) ∧ (B.length) < fu71) → wl_X11_lookUpTo_71 th (wl_X11_lookUpTo_26 th Q X fu26) Q X fu71 σ46 v1 v2 v3 (gI σ b_1 3) v6 v7 v8 := by
            intro fu71
            induction fu71 with
            | zero => intro _ _ h9; obtain ⟨_, _, _, h9⟩ := h9; omega
            | succ fu71 ih71 =>
              intro v7 v8 hi71
              obtain ⟨A, B, hi71, hm71⟩ := hi71
              unfold wl_X11_lookUpTo_71
              unfold w_X11_lookUpTo_71
              by_cases hc40 : v8 = none
              · rw [if_pos hc40]
                unfold w_X11_lookUpTo_136
                by_cases hc41 : v7 = none
                · rw [if_pos hc41]
                  unfold w_X11_lookUpTo_155
                  obtain ⟨b_7, eb_7⟩ := P_11_0 iσ46.1 (kth.up (xτ26.trans (xσ43.trans xσ46)))
                  refine ⟨b_7, eb_7, fun kk_b_7 => ?_⟩
                  refine i_X8_release iσ46 kk_b_7 eb_4 (kk_b_4.up (xσ43.trans xσ46)) (by (first | omega | with_reducible assumption | with_reducible exact rng_toInt _ | with_reducible exact rng_wr _ | (unfold rng; omega) | (unfold rng at *; omega) | assumption)) (by (first | omega | with_reducible assumption | with_reducible exact rng_toInt _ | with_reducible exact rng_wr _ | (unfold rng; omega) | (unfold rng at *; omega) | assumption)) (fun σ57 LLσ57 Nσ57 nuσ57 _ iσ57 cσ57 uσ57 hσ57 pσ57 => ?_)
                  intro xσ57
                  have fσ57 : Fx [1, 2, 3, 4, 5, 6, 7, 64, 512, 513, 514, 708, 6464] gr σ σ57 := fσ46.tr (cσ57.mo (by decide))
                  have hnσ57 : Hn (gD σ) [44, 41, 42] [] gq LL LLσ57 N Nσ57 := hnσ43.go hσ57 (fun d hd => (fσ46.1 d hd).1) (by first | decide | exact fun _ h => h | (simp; done) | (intro x hx; simp only [List.mem_cons, List.mem_nil_iff, or_false] at hx ⊢; omega)) (fun d hd => by rw [List.mem_singleton.mp hd]; exact lo_b_4)
                  have nσ57_3 := hσ57.2.2 3 (by first | decide | (simp; done) | (simp only [List.mem_cons, List.mem_nil_iff, or_false, not_or]; omega)) (by first | decide | omega) (by first | decide | omega) (by first | decide | omega)
                  have nσ57_5 := hσ57.2.2 5 (by first | decide | (simp; done) | (simp only [List.mem_cons, List.mem_nil_iff, or_false, not_or]; omega)) (by first | decide | omega) (by first | decide | omega) (by first | decide | omega)
                  have nσ57_14 := hσ57.2.2 14 (by first | decide | (simp; done) | (simp only [List.mem_cons, List.mem_nil_iff, or_false, not_or]; omega)) (by first | decide | omega) (by first | decide | omega) (by first | decide | omega)
                  have nσ57_44 := hσ57.2.2 44 (by first | decide | (simp; done) | (simp only [List.mem_cons, List.mem_nil_iff, or_false, not_or]; omega)) (by first | decide | omega) (by first | decide | omega) (by first | decide | omega)
                  have nσ57_74 := hσ57.2.2 74 (by first | decide | (simp; done) | (simp only [List.mem_cons, List.mem_nil_iff, or_false, not_or]; omega)) (by first | decide | omega) (by first | decide | omega) (by first | decide | omega)
                  have nσ57_11 := hσ57.2.2 11 (by first | decide | (simp; done) | (simp only [List.mem_cons, List.mem_nil_iff, or_false, not_or]; omega)) (by first | decide | omega) (by first | decide | omega) (by first | decide | omega)
                  have nσ57_12 := hσ57.2.2 12 (by first | decide | (simp; done) | (simp only [List.mem_cons, List.mem_nil_iff, or_false, not_or]; omega)) (by first | decide | omega) (by first | decide | omega) (by first | decide | omega)
                  have nσ57_41 := hσ57.2.2 41 (by first | decide | (simp; done) | (simp only [List.mem_cons, List.mem_nil_iff, or_false, not_or]; omega)) (by first | decide | omega) (by first | decide | omega) (by first | decide | omega)
                  have nσ57_42 := hσ57.2.2 42 (by first | decide | (simp; done) | (simp only [List.mem_cons, List.mem_nil_iff, or_false, not_or]; omega)) (by first | decide | omega) (by first | decide | omega) (by first | decide | omega)
                  have nσ57_13 := hσ57.2.2 13 (by first | decide | (simp; done) | (simp only [List.mem_cons, List.mem_nil_iff, or_false, not_or]; omega)) (by first | decide | omega) (by first | decide | omega) (by first | decide | omega)
                  have nu_σ57 : NU nu nuσ57 := nu_σ43.tr uσ57
                  have uσ57_0 := uσ57.1 0 (by decide)
                  have uσ57_1 := uσ57.1 1 (by decide)
                  have uσ57_2 := uσ57.2
                  have uσ57_5 := uσ57.1 5 (by decide)
                  have uσ57_15 := uσ57.1 15 (by decide)
                  have uσ57_16 := uσ57.1 16 (by decide)
                  have kp42 : gI σ57 o 8 = gI σ46 o 8 := (cσ57.O (ko.up (xτ26.trans (xσ43.trans xσ46))) (by decide)).1
                  have kp43 : gI σ57 th 4 = gI σ46 th 4 := (cσ57.O (kth.up (xτ26.trans (xσ43.trans xσ46))) (by decide)).1
                  have kp44 : gP σ57 J 0 = gP σ46 J 0 := (cσ57.O (kJ.up (xτ26.trans (xσ43.trans xσ46))) (by decide)).2.1
                  have kp45 : gP σ57 b (gI σ o 8).toNat = gP σ46 b (gI σ o 8).toNat := (cσ57.A (mb.up (xτ26.trans (xσ43.trans xσ46))) (by decide)).2.1
                  have kp46 : gP σ57 t 2 = gP σ46 t 2 := (cσ57.O (kt.up (xτ26.trans (xσ43.trans xσ46))) (by decide)).2.1
                  have kp47 : gP σ57 t 3 = gP σ46 t 3 := (cσ57.O (kt.up (xτ26.trans (xσ43.trans xσ46))) (by decide)).2.1
                  have kp48 : gP σ57 th 0 = gP σ46 th 0 := (cσ57.O (kth.up (xτ26.trans (xσ43.trans xσ46))) (by decide)).2.1
                  have kp49 : gP σ57 th 5 = gP σ46 th 5 := (cσ57.O (kth.up (xτ26.trans (xσ43.trans xσ46))) (by decide)).2.1
                  have kp50 : gI σ57 t 0 = gI σ46 t 0 := (cσ57.O (kt.up (xτ26.trans (xσ43.trans xσ46))) (by decide)).1
                  have laσ57 : (LLσ57 b_2).length = (LLσ43 b_2).length := by rw [hσ57.1 b_2 (mb_2.up (xτ26.trans (xσ43.trans xσ46))).1 (by first | (simp; done) | (simp only [List.mem_cons, List.mem_nil_iff, or_false, not_or]; omega)) (by omega)]
                  refine ⟨t, hv2, fun kk_t_4 => ?_⟩
                  refine ⟨b_2, (kp46.trans (kp37.trans (kp29.trans (kp5.trans eb_2)))), fun kk_b_2_2 => ?_⟩
                  exact ih26 σ57 LLσ57 Nσ57 nuσ57 (gP σ57 b_2 0) iσ57 fσ57 (xτ26.trans (xσ43.trans (xσ46.trans xσ57))) nu_σ57 hnσ57 (⟨iσ57.first (mb_2.up (xτ26.trans (xσ43.trans (xσ46.trans xσ57)))), by omega, by omega⟩) (by (first | omega | with_reducible assumption | with_reducible exact rng_toInt _ | with_reducible exact rng_wr _ | (unfold rng; omega) | (unfold rng at *; omega) | assumption))
                · rw [if_neg hc41]
                  unfold w_X11_lookUpTo_141
                  refine ⟨b_4, eb_4, fun kk_b_4_1 => ?_⟩
                  obtain ⟨b_8, eb_8⟩ := Option.ne_none_iff_exists'.mp hc41
                  have knb_8 : kO σ46 b_8 0 := hi71.2 _ eb_8
                  refine i4_X11_addPair iσ46 (kth.up (xτ26.trans (xσ43.trans xσ46))) hv1 (ko.up (xτ26.trans (xσ43.trans xσ46))) eb_4 (kk_b_4.up (xσ43.trans xσ46)) eb_8 knb_8 (by (first | omega | with_reducible assumption | with_reducible exact rng_toInt _ | with_reducible exact rng_wr _ | (unfold rng; omega) | (unfold rng at *; omega) | assumption)) (kp38.trans (kp30.trans (kp6.trans hj))) (kJ.up (xτ26.trans (xσ43.trans xσ46))) (by (first | omega | with_reducible assumption | with_reducible exact rng_toInt _ | with_reducible exact rng_wr _ | (unfold rng; omega) | (unfold rng at *; omega) | assumption)) (by (first | omega | with_reducible assumption | with_reducible exact rng_toInt _ | with_reducible exact rng_wr _ | (unfold rng; omega) | (unfold rng at *; omega) | assumption)) (by (first | omega | with_reducible assumption | with_reducible exact rng_toInt _ | with_reducible exact rng_wr _ | (unfold rng; omega) | (unfold rng at *; omega) | assumption)) (by omega) (by (first | omega | with_reducible assumption | with_reducible exact rng_toInt _ | with_reducible exact rng_wr _ | (unfold rng; omega) | (unfold rng at *; omega) | assumption)) (by (first | omega | with_reducible assumption | with_reducible exact rng_toInt _ | with_reducible exact rng_wr _ | (unfold rng; omega) | (unfold rng at *; omega) | assumption)) (iσ46.t5 (kk_b_4.up (xσ43.trans xσ46))) (fun σ56 LLσ56 Nσ56 nuσ56 _ iσ56 cσ56 uσ56 hσ56 pσ56 => ?_) (fun σx LLx Nx nux E ix cx ux px => hX σx LLx Nx nux E ix (fσ46.tr (cx.mo (by decide))) (nu_σ43.x ux) (by first | exact px | exact ⟨by have := px.1; omega, (Hn.nz hnσ43 (by first | decide | (intro x hx; simp only [List.mem_cons, List.mem_nil_iff, or_false] at hx; omega))).tr px.2.1, px.2.2⟩ | (first | omega | with_reducible assumption | with_reducible exact rng_toInt _ | with_reducible exact rng_wr _ | (unfold rng; omega) | (unfold rng at *; omega) | assumption)))
                  intro xσ56
                  have fσ56 : Fx [1, 2, 3, 4, 5, 6, 7, 64, 512, 513, 514, 708, 6464] gr σ σ56 := fσ46.tr (cσ56.mo (by decide))
                  have hnσ56 : Hn (gD σ) [44, 41, 42] [] gq LL LLσ56 N Nσ56 := hnσ43.go hσ56 (fun d hd => (fσ46.1 d hd).1) (by first | decide | exact fun _ h => h | (simp; done) | (intro x hx; simp only [List.mem_cons, List.mem_nil_iff, or_false] at hx ⊢; omega)) (fun d hd => absurd hd (by simp))
                  have hg_b_4_σ56 : ∀ x, b_4 ∉ LLσ56 x := hσ56.2.1 b_4 (kk_b_4.up (xσ43.trans xσ46)).1 (by simp) hb9
                  have nσ56_3 := hσ56.2.2 3 (by first | decide | (simp; done) | (simp only [List.mem_cons, List.mem_nil_iff, or_false, not_or]; omega)) (by first | decide | omega) (by first | decide | omega) (by first | decide | omega)
                  have nσ56_5 := hσ56.2.2 5 (by first | decide | (simp; done) | (simp only [List.mem_cons, List.mem_nil_iff, or_false, not_or]; omega)) (by first | decide | omega) (by first | decide | omega) (by first | decide | omega)
                  have nσ56_14 := hσ56.2.2 14 (by first | decide | (simp; done) | (simp only [List.mem_cons, List.mem_nil_iff, or_false, not_or]; omega)) (by first | decide | omega) (by first | decide | omega) (by first | decide | omega)
                  have nσ56_74 := hσ56.2.2 74 (by first | decide | (simp; done) | (simp only [List.mem_cons, List.mem_nil_iff, or_false, not_or]; omega)) (by first | decide | omega) (by first | decide | omega) (by first | decide | omega)
                  have nσ56_11 := hσ56.2.2 11 (by first | decide | (simp; done) | (simp only [List.mem_cons, List.mem_nil_iff, or_false, not_or]; omega)) (by first | decide | omega) (by first | decide | omega) (by first | decide | omega)
                  have nσ56_12 := hσ56.2.2 12 (by first | decide | (simp; done) | (simp only [List.mem_cons, List.mem_nil_iff, or_false, not_or]; omega)) (by first | decide | omega) (by first | decide | omega) (by first | decide | omega)
                  have nσ56_41 := hσ56.2.2 41 (by first | decide | (simp; done) | (simp only [List.mem_cons, List.mem_nil_iff, or_false, not_or]; omega)) (by first | decide | omega) (by first | decide | omega) (by first | decide | omega)
                  have nσ56_42 := hσ56.2.2 42 (by first | decide | (simp; done) | (simp only [List.mem_cons, List.mem_nil_iff, or_false, not_or]; omega)) (by first | decide | omega) (by first | decide | omega) (by first | decide | omega)
                  have nσ56_13 := hσ56.2.2 13 (by first | decide | (simp; done) | (simp only [List.mem_cons, List.mem_nil_iff, or_false, not_or]; omega)) (by first | decide | omega) (by first | decide | omega) (by first | decide | omega)
                  have nu_σ56 : NU nu nuσ56 := nu_σ43.tr uσ56
                  have uσ56_0 := uσ56.1 0 (by decide)
                  have uσ56_1 := uσ56.1 1 (by decide)
                  have uσ56_2 := uσ56.2
                  have uσ56_5 := uσ56.1 5 (by decide)
                  have uσ56_15 := uσ56.1 15 (by decide)
                  have uσ56_16 := uσ56.1 16 (by decide)
                  have kp51 : gI σ56 o 8 = gI σ46 o 8 := (cσ56.O (ko.up (xτ26.trans (xσ43.trans xσ46))) (by decide)).1
                  have kp52 : gI σ56 th 4 = gI σ46 th 4 := (cσ56.O (kth.up (xτ26.trans (xσ43.trans xσ46))) (by decide)).1
                  have kp53 : gP σ56 J 0 = gP σ46 J 0 := (cσ56.O (kJ.up (xτ26.trans (xσ43.trans xσ46))) (by decide)).2.1
                  have kp54 : gP σ56 b (gI σ o 8).toNat = gP σ46 b (gI σ o 8).toNat := (cσ56.A (mb.up (xτ26.trans (xσ43.trans xσ46))) (by decide)).2.1
                  have kp55 : gP σ56 t 2 = gP σ46 t 2 := (cσ56.O (kt.up (xτ26.trans (xσ43.trans xσ46))) (by decide)).2.1
                  have kp56 : gP σ56 t 3 = gP σ46 t 3 := (cσ56.O (kt.up (xτ26.trans (xσ43.trans xσ46))) (by decide)).2.1
                  have kp57 : gP σ56 th 5 = gP σ46 th 5 := (cσ56.O (kth.up (xτ26.trans (xσ43.trans xσ46))) (by decide)).2.1
                  have kp58 : gI σ56 t 0 = gI σ46 t 0 := (cσ56.O (kt.up (xτ26.trans (xσ43.trans xσ46))) (by decide)).1
                  have laσ56 : (LLσ56 b_2).length = (LLσ43 b_2).length := by rw [hσ56.1 b_2 (mb_2.up (xτ26.trans (xσ43.trans xσ46))).1 (by first | (simp; done) | (simp only [List.mem_cons, List.mem_nil_iff, or_false, not_or]; omega)) (by omega)]
                  unfold w_X11_lookUpTo_155
                  obtain ⟨b_9, eb_9⟩ := P_11_0 iσ56.1 (kth.up (xτ26.trans (xσ43.trans (xσ46.trans xσ56))))
                  refine ⟨b_9, eb_9, fun kk_b_9 => ?_⟩
                  refine i_X8_release iσ56 kk_b_9 eb_4 (kk_b_4.up (xσ43.trans (xσ46.trans xσ56))) (by (first | omega | with_reducible assumption | with_reducible exact rng_toInt _ | with_reducible exact rng_wr _ | (unfold rng; omega) | (unfold rng at *; omega) | assumption)) (by (first | omega | with_reducible assumption | with_reducible exact rng_toInt _ | with_reducible exact rng_wr _ | (unfold rng; omega) | (unfold rng at *; omega) | assumption)) (fun σ57_1 LLσ57_1 Nσ57_1 nuσ57_1 _ iσ57_1 cσ57_1 uσ57_1 hσ57_1 pσ57_1 => ?_)
                  intro xσ57_1
                  have fσ57_1 : Fx [1, 2, 3, 4, 5, 6, 7, 64, 512, 513, 514, 708, 6464] gr σ σ57_1 := fσ56.tr (cσ57_1.mo (by decide))
                  have hnσ57_1 : Hn (gD σ) [44, 41, 42] [] gq LL LLσ57_1 N Nσ57_1 := hnσ56.go hσ57_1 (fun d hd => (fσ56.1 d hd).1) (by first | decide | exact fun _ h => h | (simp; done) | (intro x hx; simp only [List.mem_cons, List.mem_nil_iff, or_false] at hx ⊢; omega)) (fun d hd => by rw [List.mem_singleton.mp hd]; exact lo_b_4)
                  have nσ57_1_3 := hσ57_1.2.2 3 (by first | decide | (simp; done) | (simp only [List.mem_cons, List.mem_nil_iff, or_false, not_or]; omega)) (by first | decide | omega) (by first | decide | omega) (by first | decide | omega)
                  have nσ57_1_5 := hσ57_1.2.2 5 (by first | decide | (simp; done) | (simp only [List.mem_cons, List.mem_nil_iff, or_false, not_or]; omega)) (by first | decide | omega) (by first | decide | omega) (by first | decide | omega)
                  have nσ57_1_14 := hσ57_1.2.2 14 (by first | decide | (simp; done) | (simp only [List.mem_cons, List.mem_nil_iff, or_false, not_or]; omega)) (by first | decide | omega) (by first | decide | omega) (by first | decide | omega)
                  have nσ57_1_44 := hσ57_1.2.2 44 (by first | decide | (simp; done) | (simp only [List.mem_cons, List.mem_nil_iff, or_false, not_or]; omega)) (by first | decide | omega) (by first | decide | omega) (by first | decide | omega)
                  have nσ57_1_74 := hσ57_1.2.2 74 (by first | decide | (simp; done) | (simp only [List.mem_cons, List.mem_nil_iff, or_false, not_or]; omega)) (by first | decide | omega) (by first | decide | omega) (by first | decide | omega)
                  have nσ57_1_11 := hσ57_1.2.2 11 (by first | decide | (simp; done) | (simp only [List.mem_cons, List.mem_nil_iff, or_false, not_or]; omega)) (by first | decide | omega) (by first | decide | omega) (by first | decide | omega)
                  have nσ57_1_12 := hσ57_1.2.2 12 (by first | decide | (simp; done) | (simp only [List.mem_cons, List.mem_nil_iff, or_false, not_or]; omega)) (by first | decide | omega) (by first | decide | omega) (by first | decide | omega)
                  have nσ57_1_41 := hσ57_1.2.2 41 (by first | decide | (simp; done) | (simp only [List.mem_cons, List.mem_nil_iff, or_false, not_or]; omega)) (by first | decide | omega) (by first | decide | omega) (by first | decide | omega)
                  have nσ57_1_42 := hσ57_1.2.2 42 (by first | decide | (simp; done) | (simp only [List.mem_cons, List.mem_nil_iff, or_false, not_or]; omega)) (by first | decide | omega) (by first | decide | omega) (by first | decide | omega)
                  have nσ57_1_13 := hσ57_1.2.2 13 (by first | decide | (simp; done) | (simp only [List.mem_cons, List.mem_nil_iff, or_false, not_or]; omega)) (by first | decide | omega) (by first | decide | omega) (by first | decide | omega)
                  have nu_σ57_1 : NU nu nuσ57_1 := nu_σ56.tr uσ57_1
                  have uσ57_1_0 := uσ57_1.1 0 (by decide)
                  have uσ57_1_1 := uσ57_1.1 1 (by decide)
                  have uσ57_1_2 := uσ57_1.2
                  have uσ57_1_5 := uσ57_1.1 5 (by decide)
                  have uσ57_1_15 := uσ57_1.1 15 (by decide)
                  have uσ57_1_16 := uσ57_1.1 16 (by decide)
                  have kp59 : gI σ57_1 o 8 = gI σ56 o 8 := (cσ57_1.O (ko.up (xτ26.trans (xσ43.trans (xσ46.trans xσ56)))) (by decide)).1
                  have kp60 : gI σ57_1 th 4 = gI σ56 th 4 := (cσ57_1.O (kth.up (xτ26.trans (xσ43.trans (xσ46.trans xσ56)))) (by decide)).1
                  have kp61 : gP σ57_1 J 0 = gP σ56 J 0 := (cσ57_1.O (kJ.up (xτ26.trans (xσ43.trans (xσ46.trans xσ56)))) (by decide)).2.1
                  have kp62 : gP σ57_1 b (gI σ o 8).toNat = gP σ56 b (gI σ o 8).toNat := (cσ57_1.A (mb.up (xτ26.trans (xσ43.trans (xσ46.trans xσ56)))) (by decide)).2.1
                  have kp63 : gP σ57_1 t 2 = gP σ56 t 2 := (cσ57_1.O (kt.up (xτ26.trans (xσ43.trans (xσ46.trans xσ56)))) (by decide)).2.1
                  have kp64 : gP σ57_1 t 3 = gP σ56 t 3 := (cσ57_1.O (kt.up (xτ26.trans (xσ43.trans (xσ46.trans xσ56)))) (by decide)).2.1
                  have kp65 : gP σ57_1 th 0 = gP σ56 th 0 := (cσ57_1.O (kth.up (xτ26.trans (xσ43.trans (xσ46.trans xσ56)))) (by decide)).2.1
                  have kp66 : gP σ57_1 th 5 = gP σ56 th 5 := (cσ57_1.O (kth.up (xτ26.trans (xσ43.trans (xσ46.trans xσ56)))) (by decide)).2.1
                  have kp67 : gI σ57_1 t 0 = gI σ56 t 0 := (cσ57_1.O (kt.up (xτ26.trans (xσ43.trans (xσ46.trans xσ56)))) (by decide)).1
                  have laσ57_1 : (LLσ57_1 b_2).length = (LLσ56 b_2).length := by rw [hσ57_1.1 b_2 (mb_2.up (xτ26.trans (xσ43.trans (xσ46.trans xσ56)))).1 (by first | (simp; done) | (simp only [List.mem_cons, List.mem_nil_iff, or_false, not_or]; omega)) (by omega)]
                  refine ⟨t, hv2, fun kk_t_5 => ?_⟩
                  refine ⟨b_2, (kp63.trans (kp55.trans (kp37.trans (kp29.trans (kp5.trans eb_2))))), fun kk_b_2_3 => ?_⟩
                  exact ih26 σ57_1 LLσ57_1 Nσ57_1 nuσ57_1 (gP σ57_1 b_2 0) iσ57_1 fσ57_1 (xτ26.trans (xσ43.trans (xσ46.trans (xσ56.trans xσ57_1)))) nu_σ57_1 hnσ57_1 (⟨iσ57_1.first (mb_2.up (xτ26.trans (xσ43.trans (xσ46.trans (xσ56.trans xσ57_1))))), by omega, by omega⟩) (by (first | omega | with_reducible assumption | with_reducible exact rng_toInt _ | with_reducible exact rng_wr _ | (unfold rng; omega) | (unfold rng at *; omega) | assumption))
              · rw [if_neg hc40]
                unfold w_X11_lookUpTo_76
                obtain ⟨b_10, eb_10⟩ := Option.ne_none_iff_exists'.mp hc40
                refine ⟨b_10, eb_10, fun kk_b_10 => ?_⟩
                refine ⟨b_4, eb_4, fun kk_b_4_2 => ?_⟩
                by_cases hc68 : gJ σ46 b_10 5 > gJ σ46 b_4 5
                · rw [if_pos hc68]
                  unfold w_X11_lookUpTo_136
                  by_cases hc69 : v7 = none
                  · rw [if_pos hc69]
                    unfold w_X11_lookUpTo_155
                    obtain ⟨b_11, eb_11⟩ := P_11_0 iσ46.1 (kth.up (xτ26.trans (xσ43.trans xσ46)))
                    refine ⟨b_11, eb_11, fun kk_b_11 => ?_⟩
                    refine i_X8_release iσ46 kk_b_11 eb_4 (kk_b_4.up (xσ43.trans xσ46)) (by (first | omega | with_reducible assumption | with_reducible exact rng_toInt _ | with_reducible exact rng_wr _ | (unfold rng; omega) | (unfold rng at *; omega) | assumption)) (by (first | omega | with_reducible assumption | with_reducible exact rng_toInt _ | with_reducible exact rng_wr _ | (unfold rng; omega) | (unfold rng at *; omega) | assumption)) (fun σ57_2 LLσ57_2 Nσ57_2 nuσ57_2 _ iσ57_2 cσ57_2 uσ57_2 hσ57_2 pσ57_2 => ?_)
                    intro xσ57_2
                    have fσ57_2 : Fx [1, 2, 3, 4, 5, 6, 7, 64, 512, 513, 514, 708, 6464] gr σ σ57_2 := fσ46.tr (cσ57_2.mo (by decide))
                    have hnσ57_2 : Hn (gD σ) [44, 41, 42] [] gq LL LLσ57_2 N Nσ57_2 := hnσ43.go hσ57_2 (fun d hd => (fσ46.1 d hd).1) (by first | decide | exact fun _ h => h | (simp; done) | (intro x hx; simp only [List.mem_cons, List.mem_nil_iff, or_false] at hx ⊢; omega)) (fun d hd => by rw [List.mem_singleton.mp hd]; exact lo_b_4)
                    have nσ57_2_3 := hσ57_2.2.2 3 (by first | decide | (simp; done) | (simp only [List.mem_cons, List.mem_nil_iff, or_false, not_or]; omega)) (by first | decide | omega) (by first | decide | omega) (by first | decide | omega)
                    have nσ57_2_5 := hσ57_2.2.2 5 (by first | decide | (simp; done) | (simp only [List.mem_cons, List.mem_nil_iff, or_false, not_or]; omega)) (by first | decide | omega) (by first | decide | omega) (by first | decide | omega)
                    have nσ57_2_14 := hσ57_2.2.2 14 (by first | decide | (simp; done) | (simp only [List.mem_cons, List.mem_nil_iff, or_false, not_or]; omega)) (by first | decide | omega) (by first | decide | omega) (by first | decide | omega)
                    have nσ57_2_44 := hσ57_2.2.2 44 (by first | decide | (simp; done) | (simp only [List.mem_cons, List.mem_nil_iff, or_false, not_or]; omega)) (by first | decide | omega) (by first | decide | omega) (by first | decide | omega)
                    have nσ57_2_74 := hσ57_2.2.2 74 (by first | decide | (simp; done) | (simp only [List.mem_cons, List.mem_nil_iff, or_false, not_or]; omega)) (by first | decide | omega) (by first | decide | omega) (by first | decide | omega)
                    have nσ57_2_11 := hσ57_2.2.2 11 (by first | decide | (simp; done) | (simp only [List.mem_cons, List.mem_nil_iff, or_false, not_or]; omega)) (by first | decide | omega) (by first | decide | omega) (by first | decide | omega)
                    have nσ57_2_12 := hσ57_2.2.2 12 (by first | decide | (simp; done) | (simp only [List.mem_cons, List.mem_nil_iff, or_false, not_or]; omega)) (by first | decide | omega) (by first | decide | omega) (by first | decide | omega)
                    have nσ57_2_41 := hσ57_2.2.2 41 (by first | decide | (simp; done) | (simp only [List.mem_cons, List.mem_nil_iff, or_false, not_or]; omega)) (by first | decide | omega) (by first | decide | omega) (by first | decide | omega)
                    have nσ57_2_42 := hσ57_2.2.2 42 (by first | decide | (simp; done) | (simp only [List.mem_cons, List.mem_nil_iff, or_false, not_or]; omega)) (by first | decide | omega) (by first | decide | omega) (by first | decide | omega)
                    have nσ57_2_13 := hσ57_2.2.2 13 (by first | decide | (simp; done) | (simp only [List.mem_cons, List.mem_nil_iff, or_false, not_or]; omega)) (by first | decide | omega) (by first | decide | omega) (by first | decide | omega)
                    have nu_σ57_2 : NU nu nuσ57_2 := nu_σ43.tr uσ57_2
                    have uσ57_2_0 := uσ57_2.1 0 (by decide)
                    have uσ57_2_1 := uσ57_2.1 1 (by decide)
                    have uσ57_2_2 := uσ57_2.2
                    have uσ57_2_5 := uσ57_2.1 5 (by decide)
                    have uσ57_2_15 := uσ57_2.1 15 (by decide)
                    have uσ57_2_16 := uσ57_2.1 16 (by decide)
                    have kp70 : gI σ57_2 o 8 = gI σ46 o 8 := (cσ57_2.O (ko.up (xτ26.trans (xσ43.trans xσ46))) (by decide)).1
                    have kp71 : gI σ57_2 th 4 = gI σ46 th 4 := (cσ57_2.O (kth.up (xτ26.trans (xσ43.trans xσ46))) (by decide)).1
                    have kp72 : gP σ57_2 J 0 = gP σ46 J 0 := (cσ57_2.O (kJ.up (xτ26.trans (xσ43.trans xσ46))) (by decide)).2.1
                    have kp73 : gP σ57_2 b (gI σ o 8).toNat = gP σ46 b (gI σ o 8).toNat := (cσ57_2.A (mb.up (xτ26.trans (xσ43.trans xσ46))) (by decide)).2.1
                    have kp74 : gP σ57_2 t 2 = gP σ46 t 2 := (cσ57_2.O (kt.up (xτ26.trans (xσ43.trans xσ46))) (by decide)).2.1
                    have kp75 : gP σ57_2 t 3 = gP σ46 t 3 := (cσ57_2.O (kt.up (xτ26.trans (xσ43.trans xσ46))) (by decide)).2.1
                    have kp76 : gP σ57_2 th 0 = gP σ46 th 0 := (cσ57_2.O (kth.up (xτ26.trans (xσ43.trans xσ46))) (by decide)).2.1
                    have kp77 : gP σ57_2 th 5 = gP σ46 th 5 := (cσ57_2.O (kth.up (xτ26.trans (xσ43.trans xσ46))) (by decide)).2.1
                    have kp78 : gI σ57_2 t 0 = gI σ46 t 0 := (cσ57_2.O (kt.up (xτ26.trans (xσ43.trans xσ46))) (by decide)).1
                    have laσ57_2 : (LLσ57_2 b_2).length = (LLσ43 b_2).length := by rw [hσ57_2.1 b_2 (mb_2.up (xτ26.trans (xσ43.trans xσ46))).1 (by first | (simp; done) | (simp only [List.mem_cons, List.mem_nil_iff, or_false, not_or]; omega)) (by omega)]
                    refine ⟨t, hv2, fun kk_t_6 => ?_⟩
                    refine ⟨b_2, (kp74.trans (kp37.trans (kp29.trans (kp5.trans eb_2)))), fun kk_b_2_4 => ?_⟩
                    exact ih26 σ57_2 LLσ57_2 Nσ57_2 nuσ57_2 (gP σ57_2 b_2 0) iσ57_2 fσ57_2 (xτ26.trans (xσ43.trans (xσ46.trans xσ57_2))) nu_σ57_2 hnσ57_2 (⟨iσ57_2.first (mb_2.up (xτ26.trans (xσ43.trans (xσ46.trans xσ57_2)))), by omega, by omega⟩) (by (first | omega | with_reducible assumption | with_reducible exact rng_toInt _ | with_reducible exact rng_wr _ | (unfold rng; omega) | (unfold rng at *; omega) | assumption))
                  · rw [if_neg hc69]
                    unfold w_X11_lookUpTo_141
                    refine ⟨b_4, eb_4, fun kk_b_4_3 => ?_⟩
                    obtain ⟨b_12, eb_12⟩ := Option.ne_none_iff_exists'.mp hc69
                    have knb_12 : kO σ46 b_12 0 := hi71.2 _ eb_12
                    refine i4_X11_addPair iσ46 (kth.up (xτ26.trans (xσ43.trans xσ46))) hv1 (ko.up (xτ26.trans (xσ43.trans xσ46))) eb_4 (kk_b_4.up (xσ43.trans xσ46)) eb_12 knb_12 (by (first | omega | with_reducible assumption | with_reducible exact rng_toInt _ | with_reducible exact rng_wr _ | (unfold rng; omega) | (unfold rng at *; omega) | assumption)) (kp38.trans (kp30.trans (kp6.trans hj))) (kJ.up (xτ26.trans (xσ43.trans xσ46))) (by (first | omega | with_reducible assumption | with_reducible exact rng_toInt _ | with_reducible exact rng_wr _ | (unfold rng; omega) | (unfold rng at *; omega) | assumption)) (by (first | omega | with_reducible assumption | with_reducible exact rng_toInt _ | with_reducible exact rng_wr _ | (unfold rng; omega) | (unfold rng at *; omega) | assumption)) (by (first | omega | with_reducible assumption | with_reducible exact rng_toInt _ | with_reducible exact rng_wr _ | (unfold rng; omega) | (unfold rng at *; omega) | assumption)) (by omega) (by (first | omega | with_reducible assumption | with_reducible exact rng_toInt _ | with_reducible exact rng_wr _ | (unfold rng; omega) | (unfold rng at *; omega) | assumption)) (by (first | omega | with_reducible assumption | with_reducible exact rng_toInt _ | with_reducible exact rng_wr _ | (unfold rng; omega) | (unfold rng at *; omega) | assumption)) (iσ46.t5 (kk_b_4.up (xσ43.trans xσ46))) (fun σ56_1 LLσ56_1 Nσ56_1 nuσ56_1 _ iσ56_1 cσ56_1 uσ56_1 hσ56_1 pσ56_1 => ?_) (fun σx LLx Nx nux E ix cx ux px => hX σx LLx Nx nux E ix (fσ46.tr (cx.mo (by decide))) (nu_σ43.x ux) (by first | exact px | exact ⟨by have := px.1; omega, (Hn.nz hnσ43 (by first | decide | (intro x hx; simp only [List.mem_cons, List.mem_nil_iff, or_false] at hx; omega))).tr px.2.1, px.2.2⟩ | (first | omega | with_reducible assumption | with_reducible exact rng_toInt _ | with_reducible exact rng_wr _ | (unfold rng; omega) | (unfold rng at *; omega) | assumption)))
                    intro xσ56_1
                    have fσ56_1 : Fx [1, 2, 3, 4, 5, 6, 7, 64, 512, 513, 514, 708, 6464] gr σ σ56_1 := fσ46.tr (cσ56_1.mo (by decide))
                    have hnσ56_1 : Hn (gD σ) [44, 41, 42] [] gq LL LLσ56_1 N Nσ56_1 := hnσ43.go hσ56_1 (fun d hd => (fσ46.1 d hd).1) (by first | decide | exact fun _ h => h | (simp; done) | (intro x hx; simp only [List.mem_cons, List.mem_nil_iff, or_false] at hx ⊢; omega)) (fun d hd => absurd hd (by simp))
                    have hg_b_4_σ56_1 : ∀ x, b_4 ∉ LLσ56_1 x := hσ56_1.2.1 b_4 (kk_b_4.up (xσ43.trans xσ46)).1 (by simp) hb9
                    have nσ56_1_3 := hσ56_1.2.2 3 (by first | decide | (simp; done) | (simp only [List.mem_cons, List.mem_nil_iff, or_false, not_or]; omega)) (by first | decide | omega) (by first | decide | omega) (by first | decide | omega)
                    have nσ56_1_5 := hσ56_1.2.2 5 (by first | decide | (simp; done) | (simp only [List.mem_cons, List.mem_nil_iff, or_false, not_or]; omega)) (by first | decide | omega) (by first | decide | omega) (by first | decide | omega)
                    have nσ56_1_14 := hσ56_1.2.2 14 (by first | decide | (simp; done) | (simp only [List.mem_cons, List.mem_nil_iff, or_false, not_or]; omega)) (by first | decide | omega) (by first | decide | omega) (by first | decide | omega)
                    have nσ56_1_74 := hσ56_1.2.2 74 (by first | decide | (simp; done) | (simp only [List.mem_cons, List.mem_nil_iff, or_false, not_or]; omega)) (by first | decide | omega) (by first | decide | omega) (by first | decide | omega)
                    have nσ56_1_11 := hσ56_1.2.2 11 (by first | decide | (simp; done) | (simp only [List.mem_cons, List.mem_nil_iff, or_false, not_or]; omega)) (by first | decide | omega) (by first | decide | omega) (by first | decide | omega)
                    have nσ56_1_12 := hσ56_1.2.2 12 (by first | decide | (simp; done) | (simp only [List.mem_cons, List.mem_nil_iff, or_false, not_or]; omega)) (by first | decide | omega) (by first | decide | omega) (by first | decide | omega)
                    have nσ56_1_41 := hσ56_1.2.2 41 (by first | decide | (simp; done) | (simp only [List.mem_cons, List.mem_nil_iff, or_false, not_or]; omega)) (by first | decide | omega) (by first | decide | omega) (by first | decide | omega)
                    have nσ56_1_42 := hσ56_1.2.2 42 (by first | decide | (simp; done) | (simp only [List.mem_cons, List.mem_nil_iff, or_false, not_or]; omega)) (by first | decide | omega) (by first | decide | omega) (by first | decide | omega)
                    have nσ56_1_13 := hσ56_1.2.2 13 (by first | decide | (simp; done) | (simp only [List.mem_cons, List.mem_nil_iff, or_false, not_or]; omega)) (by first | decide | omega) (by first | decide | omega) (by first | decide | omega)
                    have nu_σ56_1 : NU nu nuσ56_1 := nu_σ43.tr uσ56_1
                    have uσ56_1_0 := uσ56_1.1 0 (by decide)
                    have uσ56_1_1 := uσ56_1.1 1 (by decide)
                    have uσ56_1_2 := uσ56_1.2
                    have uσ56_1_5 := uσ56_1.1 5 (by decide)
                    have uσ56_1_15 := uσ56_1.1 15 (by decide)
                    have uσ56_1_16 := uσ56_1.1 16 (by decide)
                    have kp79 : gI σ56_1 o 8 = gI σ46 o 8 := (cσ56_1.O (ko.up (xτ26.trans (xσ43.trans xσ46))) (by decide)).1
                    have kp80 : gI σ56_1 th 4 = gI σ46 th 4 := (cσ56_1.O (kth.up (xτ26.trans (xσ43.trans xσ46))) (by decide)).1
                    have kp81 : gP σ56_1 J 0 = gP σ46 J 0 := (cσ56_1.O (kJ.up (xτ26.trans (xσ43.trans xσ46))) (by decide)).2.1
                    have kp82 : gP σ56_1 b (gI σ o 8).toNat = gP σ46 b (gI σ o 8).toNat := (cσ56_1.A (mb.up (xτ26.trans (xσ43.trans xσ46))) (by decide)).2.1
                    have kp83 : gP σ56_1 t 2 = gP σ46 t 2 := (cσ56_1.O (kt.up (xτ26.trans (xσ43.trans xσ46))) (by decide)).2.1
                    have kp84 : gP σ56_1 t 3 = gP σ46 t 3 := (cσ56_1.O (kt.up (xτ26.trans (xσ43.trans xσ46))) (by decide)).2.1
                    have kp85 : gP σ56_1 th 5 = gP σ46 th 5 := (cσ56_1.O (kth.up (xτ26.trans (xσ43.trans xσ46))) (by decide)).2.1
                    have kp86 : gI σ56_1 t 0 = gI σ46 t 0 := (cσ56_1.O (kt.up (xτ26.trans (xσ43.trans xσ46))) (by decide)).1
                    have laσ56_1 : (LLσ56_1 b_2).length = (LLσ43 b_2).length := by rw [hσ56_1.1 b_2 (mb_2.up (xτ26.trans (xσ43.trans xσ46))).1 (by first | (simp; done) | (simp only [List.mem_cons, List.mem_nil_iff, or_false, not_or]; omega)) (by omega)]
                    unfold w_X11_lookUpTo_155
                    obtain ⟨b_13, eb_13⟩ := P_11_0 iσ56_1.1 (kth.up (xτ26.trans (xσ43.trans (xσ46.trans xσ56_1))))
                    refine ⟨b_13, eb_13, fun kk_b_13 => ?_⟩
                    refine i_X8_release iσ56_1 kk_b_13 eb_4 (kk_b_4.up (xσ43.trans (xσ46.trans xσ56_1))) (by (first | omega | with_reducible assumption | with_reducible exact rng_toInt _ | with_reducible exact rng_wr _ | (unfold rng; omega) | (unfold rng at *; omega) | assumption)) (by (first | omega | with_reducible assumption | with_reducible exact rng_toInt _ | with_reducible exact rng_wr _ | (unfold rng; omega) | (unfold rng at *; omega) | assumption)) (fun σ57_3 LLσ57_3 Nσ57_3 nuσ57_3 _ iσ57_3 cσ57_3 uσ57_3 hσ57_3 pσ57_3 => ?_)
                    intro xσ57_3
                    have fσ57_3 : Fx [1, 2, 3, 4, 5, 6, 7, 64, 512, 513, 514, 708, 6464] gr σ σ57_3 := fσ56_1.tr (cσ57_3.mo (by decide))
                    have hnσ57_3 : Hn (gD σ) [44, 41, 42] [] gq LL LLσ57_3 N Nσ57_3 := hnσ56_1.go hσ57_3 (fun d hd => (fσ56_1.1 d hd).1) (by first | decide | exact fun _ h => h | (simp; done) | (intro x hx; simp only [List.mem_cons, List.mem_nil_iff, or_false] at hx ⊢; omega)) (fun d hd => by rw [List.mem_singleton.mp hd]; exact lo_b_4)
                    have nσ57_3_3 := hσ57_3.2.2 3 (by first | decide | (simp; done) | (simp only [List.mem_cons, List.mem_nil_iff, or_false, not_or]; omega)) (by first | decide | omega) (by first | decide | omega) (by first | decide | omega)
                    have nσ57_3_5 := hσ57_3.2.2 5 (by first | decide | (simp; done) | (simp only [List.mem_cons, List.mem_nil_iff, or_false, not_or]; omega)) (by first | decide | omega) (by first | decide | omega) (by first | decide | omega)
                    have nσ57_3_14 := hσ57_3.2.2 14 (by first | decide | (simp; done) | (simp only [List.mem_cons, List.mem_nil_iff, or_false, not_or]; omega)) (by first | decide | omega) (by first | decide | omega) (by first | decide | omega)
                    have nσ57_3_44 := hσ57_3.2.2 44 (by first | decide | (simp; done) | (simp only [List.mem_cons, List.mem_nil_iff, or_false, not_or]; omega)) (by first | decide | omega) (by first | decide | omega) (by first | decide | omega)
                    have nσ57_3_74 := hσ57_3.2.2 74 (by first | decide | (simp; done) | (simp only [List.mem_cons, List.mem_nil_iff, or_false, not_or]; omega)) (by first | decide | omega) (by first | decide | omega) (by first | decide | omega)
                    have nσ57_3_11 := hσ57_3.2.2 11 (by first | decide | (simp; done) | (simp only [List.mem_cons, List.mem_nil_iff, or_false, not_or]; omega)) (by first | decide | omega) (by first | decide | omega) (by first | decide | omega)
                    have nσ57_3_12 := hσ57_3.2.2 12 (by first | decide | (simp; done) | (simp only [List.mem_cons, List.mem_nil_iff, or_false, not_or]; omega)) (by first | decide | omega) (by first | decide | omega) (by first | decide | omega)
                    have nσ57_3_41 := hσ57_3.2.2 41 (by first | decide | (simp; done) | (simp only [List.mem_cons, List.mem_nil_iff, or_false, not_or]; omega)) (by first | decide | omega) (by first | decide | omega) (by first | decide | omega)
                    have nσ57_3_42 := hσ57_3.2.2 42 (by first | decide | (simp; done) | (simp only [List.mem_cons, List.mem_nil_iff, or_false, not_or]; omega)) (by first | decide | omega) (by first | decide | omega) (by first | decide | omega)
                    have nσ57_3_13 := hσ57_3.2.2 13 (by first | decide | (simp; done) | (simp only [List.mem_cons, List.mem_nil_iff, or_false, not_or]; omega)) (by first | decide | omega) (by first | decide | omega) (by first | decide | omega)
                    have nu_σ57_3 : NU nu nuσ57_3 := nu_σ56_1.tr uσ57_3
                    have uσ57_3_0 := uσ57_3.1 0 (by decide)
                    have uσ57_3_1 := uσ57_3.1 1 (by decide)
                    have uσ57_3_2 := uσ57_3.2
                    have uσ57_3_5 := uσ57_3.1 5 (by decide)
                    have uσ57_3_15 := uσ57_3.1 15 (by decide)
                    have uσ57_3_16 := uσ57_3.1 16 (by decide)
                    have kp87 : gI σ57_3 o 8 = gI σ56_1 o 8 := (cσ57_3.O (ko.up (xτ26.trans (xσ43.trans (xσ46.trans xσ56_1)))) (by decide)).1
                    have kp88 : gI σ57_3 th 4 = gI σ56_1 th 4 := (cσ57_3.O (kth.up (xτ26.trans (xσ43.trans (xσ46.trans xσ56_1)))) (by decide)).1
                    have kp89 : gP σ57_3 J 0 = gP σ56_1 J 0 := (cσ57_3.O (kJ.up (xτ26.trans (xσ43.trans (xσ46.trans xσ56_1)))) (by decide)).2.1
                    have kp90 : gP σ57_3 b (gI σ o 8).toNat = gP σ56_1 b (gI σ o 8).toNat := (cσ57_3.A (mb.up (xτ26.trans (xσ43.trans (xσ46.trans xσ56_1)))) (by decide)).2.1
                    have kp91 : gP σ57_3 t 2 = gP σ56_1 t 2 := (cσ57_3.O (kt.up (xτ26.trans (xσ43.trans (xσ46.trans xσ56_1)))) (by decide)).2.1
                    have kp92 : gP σ57_3 t 3 = gP σ56_1 t 3 := (cσ57_3.O (kt.up (xτ26.trans (xσ43.trans (xσ46.trans xσ56_1)))) (by decide)).2.1
                    have kp93 : gP σ57_3 th 0 = gP σ56_1 th 0 := (cσ57_3.O (kth.up (xτ26.trans (xσ43.trans (xσ46.trans xσ56_1)))) (by decide)).2.1
                    have kp94 : gP σ57_3 th 5 = gP σ56_1 th 5 := (cσ57_3.O (kth.up (xτ26.trans (xσ43.trans (xσ46.trans xσ56_1)))) (by decide)).2.1
                    have kp95 : gI σ57_3 t 0 = gI σ56_1 t 0 := (cσ57_3.O (kt.up (xτ26.trans (xσ43.trans (xσ46.trans xσ56_1)))) (by decide)).1
                    have laσ57_3 : (LLσ57_3 b_2).length = (LLσ56_1 b_2).length := by rw [hσ57_3.1 b_2 (mb_2.up (xτ26.trans (xσ43.trans (xσ46.trans xσ56_1)))).1 (by first | (simp; done) | (simp only [List.mem_cons, List.mem_nil_iff, or_false, not_or]; omega)) (by omega)]
                    refine ⟨t, hv2, fun kk_t_7 => ?_⟩
                    refine ⟨b_2, (kp91.trans (kp83.trans (kp37.trans (kp29.trans (kp5.trans eb_2))))), fun kk_b_2_5 => ?_⟩
                    exact ih26 σ57_3 LLσ57_3 Nσ57_3 nuσ57_3 (gP σ57_3 b_2 0) iσ57_3 fσ57_3 (xτ26.trans (xσ43.trans (xσ46.trans (xσ56_1.trans xσ57_3)))) nu_σ57_3 hnσ57_3 (⟨iσ57_3.first (mb_2.up (xτ26.trans (xσ43.trans (xσ46.trans (xσ56_1.trans xσ57_3))))), by omega, by omega⟩) (by (first | omega | with_reducible assumption | with_reducible exact rng_toInt _ | with_reducible exact rng_wr _ | (unfold rng; omega) | (unfold rng at *; omega) | assumption))
                · rw [if_neg hc68]
                  unfold w_X11_lookUpTo_90
                  refine ⟨b_10, eb_10, fun kk_b_10_1 => ?_⟩
                  refine ⟨b_4, eb_4, fun kk_b_4_4 => ?_⟩
                  by_cases hc96 : gJ σ46 b_10 7 ≠ gJ σ46 b_4 7
                  · rw [if_pos hc96]
                    unfold w_X11_lookUpTo_126
                    obtain ⟨A1, B1, p1, p2, p3, p4⟩ := it_step iσ46 mb_6 hi71.1 eb_10
                    refine ⟨b_10, eb_10, fun kk_b_10_2 => ?_⟩
                    exact ih71 v7 (gP σ46 b_10 1) (⟨A1, B1, ⟨⟨p1, p2⟩, by first | exact hi71.2 | (intro c9 q9; rw [eb_10] at q9; cases q9; exact kk_b_10)⟩, by omega⟩)
                  · rw [if_neg hc96]
                    have hc96q := Classical.not_not.mp hc96
                    unfold w_X11_lookUpTo_104
                    by_cases hc97 : v7 = none
                    · rw [if_pos hc97]
                      unfold w_X11_lookUpTo_122
                      unfold w_X11_lookUpTo_126
                      obtain ⟨A1, B1, p1, p2, p3, p4⟩ := it_step iσ46 mb_6 hi71.1 eb_10
                      refine ⟨b_10, eb_10, fun kk_b_10_3 => ?_⟩
                      exact ih71 v8 (gP σ46 b_10 1) (⟨A1, B1, ⟨⟨p1, p2⟩, by first | exact hi71.2 | (intro c9 q9; rw [eb_10] at q9; cases q9; exact kk_b_10)⟩, by omega⟩)
                    · rw [if_neg hc97]
                      unfold w_X11_lookUpTo_109
                      have q98 := I_5_3 iσ.1 mb_1
                      obtain ⟨b_14, eb_14⟩ := Option.ne_none_iff_exists'.mp hc97
                      have knb_14 : kO σ46 b_14 0 := hi71.2 _ eb_14
                      refine i_X1_compare iσ46 eb_10 kk_b_10 eb_14 knb_14 (fun r53 pσ52 => ?_)
                      intro xσ52
                      by_cases hc99 : r53 ≤ 0
                      · rw [if_pos hc99]
                        unfold w_X11_lookUpTo_126
                        obtain ⟨A1, B1, p1, p2, p3, p4⟩ := it_step iσ46 mb_6 hi71.1 eb_10
                        refine ⟨b_10, eb_10, fun kk_b_10_4 => ?_⟩
                        exact ih71 v7 (gP σ46 b_10 1) (⟨A1, B1, ⟨⟨p1, p2⟩, by first | exact hi71.2 | (intro c9 q9; rw [eb_10] at q9; cases q9; exact kk_b_10)⟩, by omega⟩)
                      · rw [if_neg hc99]
                        unfold w_X11_lookUpTo_122
                        unfold w_X11_lookUpTo_126
                        obtain ⟨A1, B1, p1, p2, p3, p4⟩ := it_step iσ46 mb_6 hi71.1 eb_10
                        refine ⟨b_10, eb_10, fun kk_b_10_5 => ?_⟩
                        exact ih71 v8 (gP σ46 b_10 1) (⟨A1, B1, ⟨⟨p1, p2⟩, by first | exact hi71.2 | (intro c9 q9; rw [eb_10] at q9; cases q9; exact kk_b_10)⟩, by omega⟩)
          have q100 := I_5_3 iσ.1 mb_1
          exact ⟨(LLσ43 b_6).length + 1, Lp71 _ _ _ (⟨[], LLσ43 b_6, ⟨⟨by simp, iσ46.first mb_6⟩, fun _ q => nomatch q⟩, Nat.lt_succ_self _⟩)⟩
  have q101 := I_5_3 iσ.1 mb_1
  exact ⟨_, Lp26 _ σ LL N nu _ iσ fσ (Ext.rfl' _) NU.rf hnσ (⟨iσ.first mb_2, rfl, by omega⟩) (Nat.lt_succ_self _)⟩
set_option maxHeartbeats 1000000 in
theorem i4_X11_endFolds {σ : Sg} {pl : Nat} {gq ci gr nc : Nat → Nat} {ot : Nat → Nat → Int} {LL : Nat → List Nat} {N nu : Nat → Nat} {th : Nat} {v1 : Option Nat} {v2 : Option Nat} {v3 : Int64} {v5 : Int} (iσ : IV σ pl gq ci gr nc ot LL N nu) (kth : kO σ th 11) {o : Nat} (hv1 : v1 = some o) (ko : kO σ o 5) {t : Nat} (hv2 : v2 = some t) (kt : kO σ t 10) (hq : gq th = 4) (ht : gq t = 4) (hm : -1 ≤ v5 ∧ v5 ≤ 1000) (hn : N 44 ≤ 8000) (h3 : N 3 ≤ 1152921504606846976) {Q : Sg → Unit → Prop} {X : Sg → String → Prop} (hQ : ∀ (σ' : Sg) (LL' : Nat → List Nat) (N' nu' : Nat → Nat) (r : Unit), IV σ' pl gq ci gr nc ot LL' N' nu' → Fx [1, 5, 64, 512, 708, 6464] gr σ σ' → NU nu nu' → Hn (gD σ) [44, 41, 3] [] gq LL LL' N N' → (N' 1 = N 1 ∧ N' 44 ≤ N 44 + N 41 ∧ N' 3 ≤ N 3 + 40000000) → Q σ' r) : wp_X11_endFolds th v1 v2 v3 v5 σ Q X := by
  have fσ : Fx [1, 5, 64, 512, 708, 6464] gr σ σ := Fx.rf
  have hnσ : Hn (gD σ) [44, 41, 3] [] gq LL LL N N := Hn.rf
  have rc := iσ.recs4 kth (by omega)
  have q4 := I_11_4 iσ.1 kth
  unfold wp_X11_endFolds
  unfold w_X11_endFolds_0
  refine ⟨t, hv2, fun kk_t => ?_⟩
  obtain ⟨b, eb, fb⟩ := P_10_2 iσ.1 kt
  have mb : kO σ b 1 := iσ.1.kd kt rfl eb rfl
  refine ⟨b, eb, fun kk_b => ?_⟩
  have Lp12 : ∀ (fu12 : Nat) (τ12 : Sg) (LLt12 : Nat → List Nat) (Nt12 nut12 : Nat → Nat) (v6 : Option Nat) (v7 : Option Nat), IV τ12 pl gq ci gr nc ot LLt12 Nt12 nut12 → Fx [1, 5, 64, 512, 708, 6464] gr σ τ12 → Ext σ τ12 → NU nu nut12 → Hn (gD σ) [44, 41, 3] [] gq LL LLt12 N Nt12 → (∃ (A B : List Nat), ((LLt12 b = A ++ B ∧ v7 = B.head?) ∧ v6 = A.getLast? ∧ Nt12 1 = N 1 ∧ Nt12 44 + Nt12 41 ≤ N 44 + N 41 ∧ Nt12 3 = N 3) ∧ (B.length) < fu12) → wl_X11_endFolds_12 th Q X fu12 τ12 v1 v2 v3 v5 v6 v7 := by
    intro fu12
    induction fu12 with
    | zero => intro _ _ _ _ _ _ _ _ _ _ _ h9; obtain ⟨_, _, _, h9⟩ := h9; omega
    | succ fu12 ih12 =>
      intro τ12 LLt12 Nt12 nut12 v6 v7 iτ12 fτ12 xτ12 nu_τ12 hnτ12 hi12
      obtain ⟨A, B, hi12, hm12⟩ := hi12
      have nτ12_5 := hnτ12.2.2 5 (by first | decide | (simp; done) | (simp only [List.mem_cons, List.mem_nil_iff, or_false, not_or]; omega)) (by first | decide | omega) (by first | decide | omega) (by first | decide | omega)
      have nτ12_14 := hnτ12.2.2 14 (by first | decide | (simp; done) | (simp only [List.mem_cons, List.mem_nil_iff, or_false, not_or]; omega)) (by first | decide | omega) (by first | decide | omega) (by first | decide | omega)
      have nτ12_74 := hnτ12.2.2 74 (by first | decide | (simp; done) | (simp only [List.mem_cons, List.mem_nil_iff, or_false, not_or]; omega)) (by first | decide | omega) (by first | decide | omega) (by first | decide | omega)
      have nτ12_11 := hnτ12.2.2 11 (by first | decide | (simp; done) | (simp only [List.mem_cons, List.mem_nil_iff, or_false, not_or]; omega)) (by first | decide | omega) (by first | decide | omega) (by first | decide | omega)
      have nτ12_12 := hnτ12.2.2 12 (by first | decide | (simp; done) | (simp only [List.mem_cons, List.mem_nil_iff, or_false, not_or]; omega)) (by first | decide | omega) (by first | decide | omega) (by first | decide | omega)
      have nτ12_42 := hnτ12.2.2 42 (by first | decide | (simp; done) | (simp only [List.mem_cons, List.mem_nil_iff, or_false, not_or]; omega)) (by first | decide | omega) (by first | decide | omega) (by first | decide | omega)
      have nτ12_13 := hnτ12.2.2 13 (by first | decide | (simp; done) | (simp only [List.mem_cons, List.mem_nil_iff, or_false, not_or]; omega)) (by first | decide | omega) (by first | decide | omega) (by first | decide | omega)
      have uτ12_0 := nu_τ12.1 0 (by decide)
      have uτ12_1 := nu_τ12.1 1 (by decide)
      have uτ12_2 := nu_τ12.2
      have uτ12_5 := nu_τ12.1 5 (by decide)
      have uτ12_15 := nu_τ12.1 15 (by decide)
      have uτ12_16 := nu_τ12.1 16 (by decide)
      unfold wl_X11_endFolds_12
      have kp1 : gP τ12 t 2 = gP σ t 2 := (fτ12.O kt (by decide)).2.1
      unfold w_X11_endFolds_12
      by_cases hc2 : v7 = none
      · rw [if_pos hc2]
        unfold w_X11_endFolds_83
        obtain ⟨b_1, eb_1, fb_1⟩ := P_11_2 iτ12.1 (kth.up xτ12)
        have mb_1 : kO τ12 b_1 1 := iτ12.1.kd (kth.up xτ12) rfl eb_1 rfl
        refine ⟨b_1, eb_1, fun kk_b_1 => ?_⟩
        have le9 := iτ12.le mb_1.1 (by omega)
        rw [show gq b_1 = 44 by omega] at le9
        have Lp92 : ∀ (fu92 : Nat) (τ92 : Sg) (LLt92 : Nat → List Nat) (Nt92 nut92 : Nat → Nat) (v8 : Option Nat), IV τ92 pl gq ci gr nc ot LLt92 Nt92 nut92 → Fx [1, 5, 64, 512, 708, 6464] gr σ τ92 → Ext τ12 τ92 → NU nu nut92 → Hn (gD σ) [44, 41, 3] [] gq LL LLt92 N Nt92 → (∃ (A B : List Nat), ((LLt92 b_1 = A ++ B ∧ v8 = B.head?) ∧ Nt92 1 = N 1 ∧ Nt92 44 ≤ N 44 + N 41 ∧ Nt92 3 + 2000 * B.length ≤ N 3 + 40000000) ∧ (B.length) < fu92) → wl_X11_endFolds_92 th Q X fu92 τ92 v1 v5 v8 := by
          intro fu92
          induction fu92 with
          | zero => intro _ _ _ _ _ _ _ _ _ _ h9; obtain ⟨_, _, _, h9⟩ := h9; omega
          | succ fu92 ih92 =>
            intro τ92 LLt92 Nt92 nut92 v8 iτ92 fτ92 xτ92 nu_τ92 hnτ92 hi92
            obtain ⟨A, B, hi92, hm92⟩ := hi92
            have nτ92_5 := hnτ92.2.2 5 (by first | decide | (simp; done) | (simp only [List.mem_cons, List.mem_nil_iff, or_false, not_or]; omega)) (by first | decide | omega) (by first | decide | omega) (by first | decide | omega)
            have nτ92_14 := hnτ92.2.2 14 (by first | decide | (simp; done) | (simp only [List.mem_cons, List.mem_nil_iff, or_false, not_or]; omega)) (by first | decide | omega) (by first | decide | omega) (by first | decide | omega)
            have nτ92_74 := hnτ92.2.2 74 (by first | decide | (simp; done) | (simp only [List.mem_cons, List.mem_nil_iff, or_false, not_or]; omega)) (by first | decide | omega) (by first | decide | omega) (by first | decide | omega)
            have nτ92_11 := hnτ92.2.2 11 (by first | decide | (simp; done) | (simp only [List.mem_cons, List.mem_nil_iff, or_false, not_or]; omega)) (by first | decide | omega) (by first | decide | omega) (by first | decide | omega)
            have nτ92_12 := hnτ92.2.2 12 (by first | decide | (simp; done) | (simp only [List.mem_cons, List.mem_nil_iff, or_false, not_or]; omega)) (by first | decide | omega) (by first | decide | omega) (by first | decide | omega)
            have nτ92_42 := hnτ92.2.2 42 (by first | decide | (simp; done) | (simp only [List.mem_cons, List.mem_nil_iff, or_false, not_or]; omega)) (by first | decide | omega) (by first | decide | omega) (by first | decide | omega)
            have nτ92_13 := hnτ92.2.2 13 (by first | decide | (simp; done) | (simp only [List.mem_cons, List.mem_nil_iff, or_false, not_or]; omega)) (by first | decide | omega) (by first | decide | omega) (by first | decide | omega)
            have uτ92_0 := nu_τ92.1 0 (by decide)
            have uτ92_1 := nu_τ92.1 1 (by decide)
            have uτ92_2 := nu_τ92.2
            have uτ92_5 := nu_τ92.1 5 (by decide)
            have uτ92_15 := nu_τ92.1 15 (by decide)
            have uτ92_16 := nu_τ92.1 16 (by decide)
            unfold wl_X11_endFolds_92
            have kp3 : gP τ92 t 2 = gP σ t 2 := (fτ92.O kt (by decide)).2.1
            have kp4 : gP τ92 th 2 = gP τ12 th 2 := (fτ92.O kth (by decide)).2.1.trans (fτ12.O kth (by decide)).2.1.symm
            unfold w_X11_endFolds_92
            by_cases hc5 : v8 = none
            · rw [if_pos hc5]
              unfold w_X11_endFolds_115
              exact hQ τ92 LLt92 Nt92 nut92 () iτ92 fτ92 (nu_τ92) hnτ92 (by (first | omega | with_reducible assumption | with_reducible exact rng_toInt _ | with_reducible exact rng_wr _ | (unfold rng; omega) | (unfold rng at *; omega) | assumption))
            · rw [if_neg hc5]
              unfold w_X11_endFolds_97
              obtain ⟨b_2, eb_2⟩ := Option.ne_none_iff_exists'.mp hc5
              have kb8 : kO τ92 b_2 0 := iτ92.cell (it_mem hi92.1 eb_2)
              have q58 := iτ92.t5 kb8
              unfold tb at q58
              obtain ⟨N9, iτ92, hN9, hN93⟩ := iτ92.raise 2000 (by omega)
              have hn9 := hnτ92.n3 hN9 (by decide)
              have e9m := hN9 44 (by decide)
              have e91 := hN9 1 (by decide)
              have e9a := hN9 41 (by decide)
              have e9b := hN9 42 (by decide)
              refine i_X11_becomeRow iτ92 hv1 (ko.up (xτ12.trans xτ92)) eb_2 kb8 (by (first | omega | with_reducible assumption | with_reducible exact rng_toInt _ | with_reducible exact rng_wr _ | (unfold rng; omega) | (unfold rng at *; omega) | assumption)) (by omega) (fun σ33 _ iσ33 cσ33 pσ33 => ?_)
              intro xσ33
              have fσ33 : Fx [1, 5, 64, 512, 708, 6464] gr σ σ33 := fτ92.tr (cσ33.mo (by decide))
              have kp6 : gP σ33 t 2 = gP τ92 t 2 := (cσ33.O (kt.up (xτ12.trans xτ92)) (by decide)).2.1
              have kp7 : gP σ33 th 2 = gP τ92 th 2 := (cσ33.O (kth.up (xτ12.trans xτ92)) (by decide)).2.1
              have kp8 : gI σ33 th 4 = gI τ92 th 4 := (cσ33.O (kth.up (xτ12.trans xτ92)) (by decide)).1
              obtain ⟨A1, B1, p1, p2, p3, p4⟩ := it_step iσ33 (mb_1.up (xτ92.trans xσ33)) hi92.1 eb_2
              refine ⟨b_2, eb_2, fun kk_b_2 => ?_⟩
              exact ih92 σ33 LLt92 N9 nut92 (gP σ33 b_2 1) iσ33 fσ33 (xτ92.trans xσ33) nu_τ92 hn9 (⟨A1, B1, ⟨⟨p1, p2⟩, by omega, by omega, by omega⟩, by omega⟩)
        exact ⟨(LLt12 b_1).length + 1, Lp92 _ τ12 LLt12 Nt12 nut12 _ iτ12 fτ12 (Ext.rfl' _) nu_τ12 hnτ12 (⟨[], LLt12 b_1, ⟨⟨by simp, iτ12.first mb_1⟩, by omega, by omega, by omega⟩, Nat.lt_succ_self _⟩)⟩
      · rw [if_neg hc2]
        unfold w_X11_endFolds_17
        obtain ⟨b_3, eb_3⟩ := Option.ne_none_iff_exists'.mp hc2
        obtain ⟨A1, B1, p1, p2, p3, p4⟩ := it_step iτ12 (mb.up xτ12) hi12.1 eb_3
        obtain ⟨B2, eB⟩ := it_cons hi12.1.2 eb_3
        have rc9 := iτ12.recs4 (kth.up xτ12) (by omega)
        have lb2 : B.length = B2.length + 1 := by rw [eB]; rfl
        have nx2 := iτ12.next (mb.up xτ12) (show _ = A ++ b_3 :: B2 by rw [← eB]; exact hi12.1.1)
        refine ⟨b_3, eb_3, fun kk_b_3 => ?_⟩
        by_cases hc9 : (gJ τ12 b_3 5 + (Int64.ofInt v5)) > v3
        · rw [if_pos hc9]
          unfold w_X11_endFolds_72
          unfold w_X11_endFolds_76
          exact ih12 τ12 LLt12 Nt12 nut12 v7 (gP τ12 b_3 1) iτ12 fτ12 xτ12 nu_τ12 hnτ12 (by first | exact ⟨A1, B1, ⟨⟨p1, p2⟩, by rw [p4]; assumption, by omega, by omega, by omega⟩, by omega⟩ | exact ⟨A, B2, ⟨⟨by rw [hLi, eL9]; exact up1_s _ _ _, nx2⟩, hi12.2.1, by omega, by omega, by omega⟩, by omega⟩)
        · rw [if_neg hc9]
          unfold w_X11_endFolds_38
          refine ⟨t, hv2, fun kk_t_1 => ?_⟩
          refine ⟨b, (kp1.trans eb), fun kk_b_4 => ?_⟩
          have lo_b_3 : Lo [] (gD σ) LL b_3 := hnτ12.loc (fun d hd => (fτ12.1 d hd).1) (Or.inr ⟨b, it_mem hi12.1 eb_3⟩)
          refine i_X1_cutBehind (G0 := 41) (A := A) (B := B) iτ12 (mb.up xτ12) (by omega) hi12.1.1 hi12.2.1 (fun σ26 LLσ26 Nσ26 nuσ26 r27 iσ26 cσ26 uσ26 hσ26 pσ26 => ?_)
          intro xσ26
          have fσ26 : Fx [1, 5, 64, 512, 708, 6464] gr σ σ26 := fτ12.tr (cσ26.mo (by decide))
          have hnσ26 : Hn (gD σ) [44, 41, 3] [] gq LL LLσ26 N Nσ26 := hnτ12.go hσ26 (fun d hd => (fτ12.1 d hd).1) (by first | decide | exact fun _ h => h | (simp; done) | (intro x hx; simp only [List.mem_cons, List.mem_nil_iff, or_false] at hx ⊢; omega)) (fun d hd => absurd hd (by simp))
          have nσ26_3 := hσ26.2.2 3 (by first | decide | (simp; done) | (simp only [List.mem_cons, List.mem_nil_iff, or_false, not_or]; omega)) (by first | decide | omega) (by first | decide | omega) (by first | decide | omega)
          have nσ26_5 := hσ26.2.2 5 (by first | decide | (simp; done) | (simp only [List.mem_cons, List.mem_nil_iff, or_false, not_or]; omega)) (by first | decide | omega) (by first | decide | omega) (by first | decide | omega)
          have nσ26_14 := hσ26.2.2 14 (by first | decide | (simp; done) | (simp only [List.mem_cons, List.mem_nil_iff, or_false, not_or]; omega)) (by first | decide | omega) (by first | decide | omega) (by first | decide | omega)
          have nσ26_44 := hσ26.2.2 44 (by first | decide | (simp; done) | (simp only [List.mem_cons, List.mem_nil_iff, or_false, not_or]; omega)) (by first | decide | omega) (by first | decide | omega) (by first | decide | omega)
          have nσ26_74 := hσ26.2.2 74 (by first | decide | (simp; done) | (simp only [List.mem_cons, List.mem_nil_iff, or_false, not_or]; omega)) (by first | decide | omega) (by first | decide | omega) (by first | decide | omega)
          have nσ26_11 := hσ26.2.2 11 (by first | decide | (simp; done) | (simp only [List.mem_cons, List.mem_nil_iff, or_false, not_or]; omega)) (by first | decide | omega) (by first | decide | omega) (by first | decide | omega)
          have nσ26_12 := hσ26.2.2 12 (by first | decide | (simp; done) | (simp only [List.mem_cons, List.mem_nil_iff, or_false, not_or]; omega)) (by first | decide | omega) (by first | decide | omega) (by first | decide | omega)
          have nσ26_42 := hσ26.2.2 42 (by first | decide | (simp; done) | (simp only [List.mem_cons, List.mem_nil_iff, or_false, not_or]; omega)) (by first | decide | omega) (by first | decide | omega) (by first | decide | omega)
          have nσ26_13 := hσ26.2.2 13 (by first | decide | (simp; done) | (simp only [List.mem_cons, List.mem_nil_iff, or_false, not_or]; omega)) (by first | decide | omega) (by first | decide | omega) (by first | decide | omega)
          have nu_σ26 : NU nu nuσ26 := nu_τ12.tr uσ26
          have uσ26_0 := uσ26.1 0 (by decide)
          have uσ26_1 := uσ26.1 1 (by decide)
          have uσ26_2 := uσ26.2
          have uσ26_5 := uσ26.1 5 (by decide)
          have uσ26_15 := uσ26.1 15 (by decide)
          have uσ26_16 := uσ26.1 16 (by decide)
          have kp10 : gP σ26 t 2 = gP τ12 t 2 := (cσ26.O (kt.up xτ12) (by decide)).2.1
          have kp11 : gI σ26 th 4 = gI τ12 th 4 := (cσ26.O (kth.up xτ12) (by decide)).1
          obtain ⟨r9, eL9, hb9, n9a, n9b⟩ := cut_r (N0 := 0) eB pσ26
          intro tyt
          have q12 := I_11_4 iσ26.1 (kth.up (xτ12.trans xσ26))
          refine ⟨by (first | omega | with_reducible assumption | with_reducible exact rng_toInt _ | with_reducible exact rng_wr _ | (unfold rng; omega) | (unfold rng at *; omega) | assumption), ?_⟩
          intro σ29 eσ29
          have xσ29 : Ext σ26 σ29 := by rw [eσ29]; exact fun _ h => ⟨h, rfl, rfl⟩
          have iσ29 : IV σ29 pl gq ci gr nc ot LLσ26 Nσ26 nuσ26 := by rw [eσ29]; exact iσ26.rec4 (kth.up (xτ12.trans xσ26)) (by omega) (by omega) (by omega)
          have fσ29 : Fx [1, 5, 64, 512, 708, 6464] gr σ σ29 := fσ26.tr (Sk.fx (by rw [eσ29]; exact Sk.pI (by rw [fcdO (kth.up (xτ12.trans xσ26)) (by decide)]; decide)))
          have wσ29 : gI σ29 th 4 = (gI σ26 th 4 - 1) := by rw [eσ29]; exact up2_s _ _ _ _
          have kp13 : gP σ29 t 2 = gP σ26 t 2 := by rw [eσ29]
          obtain ⟨b_4, eb_4, fb_4⟩ := P_11_2 iσ29.1 (kth.up (xτ12.trans (xσ26.trans xσ29)))
          have mb_4 : kO σ29 b_4 1 := iσ29.1.kd (kth.up (xτ12.trans (xσ26.trans xσ29))) rfl eb_4 rfl
          refine ⟨b_4, eb_4, fun kk_b_4_1 => ?_⟩
          refine i_X1_insert (G0 := 44) iσ29 mb_4 eb_3 (kk_b_3.up (xσ26.trans xσ29)) (by omega) (by (first | omega | with_reducible assumption | with_reducible exact rng_toInt _ | with_reducible exact rng_wr _ | (unfold rng; omega) | (unfold rng at *; omega) | assumption)) (by (first | omega | with_reducible assumption | with_reducible exact rng_toInt _ | with_reducible exact rng_wr _ | (unfold rng; omega) | (unfold rng at *; omega) | assumption)) (plc_y (G := 44) (by omega) (by decide)) (no50 (by decide)) (no13 (by decide)) (fun N9 n1 _ => iσ29.2.2.1.made (by decide) n1) (fun σ30 LLσ30 Nσ30 nuσ30 _ iσ30 cσ30 uσ30 hσ30 pσ30 => ?_)
          intro xσ30
          have fσ30 : Fx [1, 5, 64, 512, 708, 6464] gr σ σ30 := fσ29.tr (cσ30.mo (by decide))
          have hnσ30 : Hn (gD σ) [44, 41, 3] [] gq LL LLσ30 N Nσ30 := hnσ26.go hσ30 (fun d hd => (fσ29.1 d hd).1) (by first | decide | exact fun _ h => h | (simp; done) | (intro x hx; simp only [List.mem_cons, List.mem_nil_iff, or_false] at hx ⊢; omega)) (fun d hd => by rw [List.mem_singleton.mp hd]; exact lo_b_3)
          have nσ30_3 := hσ30.2.2 3 (by first | decide | (simp; done) | (simp only [List.mem_cons, List.mem_nil_iff, or_false, not_or]; omega)) (by first | decide | omega) (by first | decide | omega) (by first | decide | omega)
          have nσ30_5 := hσ30.2.2 5 (by first | decide | (simp; done) | (simp only [List.mem_cons, List.mem_nil_iff, or_false, not_or]; omega)) (by first | decide | omega) (by first | decide | omega) (by first | decide | omega)
          have nσ30_14 := hσ30.2.2 14 (by first | decide | (simp; done) | (simp only [List.mem_cons, List.mem_nil_iff, or_false, not_or]; omega)) (by first | decide | omega) (by first | decide | omega) (by first | decide | omega)
          have nσ30_74 := hσ30.2.2 74 (by first | decide | (simp; done) | (simp only [List.mem_cons, List.mem_nil_iff, or_false, not_or]; omega)) (by first | decide | omega) (by first | decide | omega) (by first | decide | omega)
          have nσ30_11 := hσ30.2.2 11 (by first | decide | (simp; done) | (simp only [List.mem_cons, List.mem_nil_iff, or_false, not_or]; omega)) (by first | decide | omega) (by first | decide | omega) (by first | decide | omega)
          have nσ30_12 := hσ30.2.2 12 (by first | decide | (simp; done) | (simp only [List.mem_cons, List.mem_nil_iff, or_false, not_or]; omega)) (by first | decide | omega) (by first | decide | omega) (by first | decide | omega)
          have nσ30_41 := hσ30.2.2 41 (by first | decide | (simp; done) | (simp only [List.mem_cons, List.mem_nil_iff, or_false, not_or]; omega)) (by first | decide | omega) (by first | decide | omega) (by first | decide | omega)
          have nσ30_42 := hσ30.2.2 42 (by first | decide | (simp; done) | (simp only [List.mem_cons, List.mem_nil_iff, or_false, not_or]; omega)) (by first | decide | omega) (by first | decide | omega) (by first | decide | omega)
          have nσ30_13 := hσ30.2.2 13 (by first | decide | (simp; done) | (simp only [List.mem_cons, List.mem_nil_iff, or_false, not_or]; omega)) (by first | decide | omega) (by first | decide | omega) (by first | decide | omega)
          have nu_σ30 : NU nu nuσ30 := nu_σ26.tr uσ30
          have uσ30_0 := uσ30.1 0 (by decide)
          have uσ30_1 := uσ30.1 1 (by decide)
          have uσ30_2 := uσ30.2
          have uσ30_5 := uσ30.1 5 (by decide)
          have uσ30_15 := uσ30.1 15 (by decide)
          have uσ30_16 := uσ30.1 16 (by decide)
          have kp14 : gI σ30 th 4 = gI σ29 th 4 := (cσ30.O (kth.up (xτ12.trans (xσ26.trans xσ29))) (by decide)).1
          have kp15 : gP σ30 t 2 = gP σ29 t 2 := (cσ30.O (kt.up (xτ12.trans (xσ26.trans xσ29))) (by decide)).2.1
          have kp16 : gP σ30 th 2 = gP σ29 th 2 := (cσ30.O (kth.up (xτ12.trans (xσ26.trans xσ29))) (by decide)).2.1
          have hLi := hσ30.1 b (mb.up (xτ12.trans (xσ26.trans xσ29))).1 (by first | (simp; done) | (simp only [List.mem_cons, List.mem_nil_iff, or_false, not_or]; omega)) (by omega)
          unfold w_X11_endFolds_76
          exact ih12 σ30 LLσ30 Nσ30 nuσ30 v6 (gP τ12 b_3 1) iσ30 fσ30 (xτ12.trans (xσ26.trans (xσ29.trans xσ30))) nu_σ30 hnσ30 (by first | exact ⟨A1, B1, ⟨⟨p1, p2⟩, by rw [p4]; assumption, by omega, by omega, by omega⟩, by omega⟩ | exact ⟨A, B2, ⟨⟨by rw [hLi, eL9]; exact up1_s _ _ _, nx2⟩, hi12.2.1, by omega, by omega, by omega⟩, by omega⟩)
  exact ⟨(LL b).length + 1, Lp12 _ σ LL N nu _ _ iσ fσ (Ext.rfl' _) NU.rf hnσ (⟨[], LL b, ⟨⟨by simp, iσ.first mb⟩, rfl, rfl, Nat.le_refl _, rfl⟩, Nat.lt_succ_self _⟩)⟩

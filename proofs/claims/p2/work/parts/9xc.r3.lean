set_option maxHeartbeats 1000000 in
theorem i2_X4_readInto {σ : Sg} {pl : Nat} {gq ci gr nc : Nat → Nat} {ot : Nat → Nat → Int} {LL : Nat → List Nat} {N nu : Nat → Nat} {th : Nat} {v1 : Option Nat} {v2 : Int} {v3 : Int} (iσ : IV σ pl gq ci gr nc ot LL N nu) (kth : kO σ th 4) {c1 : Nat} (hv1 : v1 = some c1) (kc1 : kO σ c1 0) (h2 : 0 ≤ v2 ∧ v2 < 4) (h3 : 0 ≤ v3 ∧ v3 < 64) {Q : Sg → Unit → Prop} {X : Sg → String → Prop} (hQ : ∀ (σ' : Sg) (r : Unit), IV σ' pl gq ci gr nc ot LL N nu → Fx [5, 6464] gr σ σ' → (0 ≤ (gJ σ' c1 5).toInt ∧ (gJ σ' c1 5).toInt ≤ 1000000) → Q σ' r) : wp_X4_readInto th v1 v2 v3 σ Q X := by
  have fσ : Fx [5, 6464] gr σ σ := Fx.rf
  unfold wp_X4_readInto
  unfold w_X4_readInto_0
  refine ⟨by (first | omega | with_reducible assumption | with_reducible exact rng_toInt _ | with_reducible exact rng_wr _ | (unfold rng; omega) | (unfold rng at *; omega) | assumption), ?_⟩
  obtain ⟨b, eb, fb⟩ := P_4_11 iσ.1 kth
  have mb : kO σ b 200 := iσ.1.kd kth rfl eb rfl
  refine ⟨b, eb, fun kk_b => ?_⟩
  refine ⟨⟨by (first | omega | with_reducible assumption | with_reducible exact rng_toInt _ | with_reducible exact rng_wr _ | (unfold rng; omega) | (unfold rng at *; omega) | assumption), by (first | omega | with_reducible assumption | with_reducible exact rng_toInt _ | with_reducible exact rng_wr _ | (unfold rng; omega) | (unfold rng at *; omega) | assumption)⟩, ?_⟩
  obtain ⟨b_1, eb_1⟩ := P_200 iσ.1 mb (k := v2.toNat) (by (first | omega | with_reducible assumption | with_reducible exact rng_toInt _ | with_reducible exact rng_wr _ | (unfold rng; omega) | (unfold rng at *; omega) | assumption))
  have fb_1 := T_200 iσ.1 mb eb_1
  have mb_1 : kO σ b_1 101 := iσ.1.kd mb rfl eb_1 rfl
  refine ⟨b_1, eb_1, fun kk_b_1 => ?_⟩
  refine ⟨⟨by (first | omega | with_reducible assumption | with_reducible exact rng_toInt _ | with_reducible exact rng_wr _ | (unfold rng; omega) | (unfold rng at *; omega) | assumption), by (first | omega | with_reducible assumption | with_reducible exact rng_toInt _ | with_reducible exact rng_wr _ | (unfold rng; omega) | (unfold rng at *; omega) | assumption)⟩, ?_⟩
  refine ⟨c1, hv1, fun kk_c1 => ?_⟩
  intro σ12 eσ12
  have xσ12 : Ext σ σ12 := by rw [eσ12]; exact fun _ h => ⟨h, rfl, rfl⟩
  have iσ12 : IV σ12 pl gq ci gr nc ot LL N nu := by rw [eσ12]; exact iσ.wT kc1 (by decide) (iσ.tg mb_1 (by omega) (by omega))
  have fσ12 : Fx [5, 6464] gr σ σ12 := fσ.tr (Sk.fx (by rw [eσ12]; exact Sk.pJ (by rw [fcdO kc1 (by decide)]; decide)))
  have kp1 : gP σ12 b v2.toNat = gP σ b v2.toNat := by rw [eσ12]
  have kp2 : gP σ12 th 11 = gP σ th 11 := by rw [eσ12]
  refine ⟨b, (kp2.trans eb), fun kk_b_2 => ?_⟩
  have q3 := (xσ12 b mb.1).2.2
  refine ⟨⟨by (first | omega | with_reducible assumption | with_reducible exact rng_toInt _ | with_reducible exact rng_wr _ | (unfold rng; omega) | (unfold rng at *; omega) | assumption), by (first | omega | with_reducible assumption | with_reducible exact rng_toInt _ | with_reducible exact rng_wr _ | (unfold rng; omega) | (unfold rng at *; omega) | assumption)⟩, ?_⟩
  refine ⟨by (first | omega | with_reducible assumption | with_reducible exact rng_toInt _ | with_reducible exact rng_wr _ | (unfold rng; omega) | (unfold rng at *; omega) | assumption), ?_⟩
  refine ⟨b_1, (kp1.trans eb_1), fun kk_b_1_1 => ?_⟩
  obtain ⟨b_2, eb_2, fb_2⟩ := P_0_0 iσ12.1 (kc1.up xσ12)
  have mb_2 : kO σ12 b_2 101 := iσ12.1.kd (kc1.up xσ12) rfl eb_2 rfl
  refine ⟨b_2, eb_2, fun kk_b_2_1 => ?_⟩
  have q4 := (xσ12 b_1 mb_1.1).2.2
  refine ⟨⟨⟨by (first | omega | with_reducible assumption | with_reducible exact rng_toInt _ | with_reducible exact rng_wr _ | (unfold rng; omega) | (unfold rng at *; omega) | assumption), by (first | omega | with_reducible assumption | with_reducible exact rng_toInt _ | with_reducible exact rng_wr _ | (unfold rng; omega) | (unfold rng at *; omega) | assumption), by (first | omega | with_reducible assumption | with_reducible exact rng_toInt _ | with_reducible exact rng_wr _ | (unfold rng; omega) | (unfold rng at *; omega) | assumption)⟩, by (first | omega | with_reducible assumption | with_reducible exact rng_toInt _ | with_reducible exact rng_wr _ | (unfold rng; omega) | (unfold rng at *; omega) | assumption), by (first | omega | with_reducible assumption | with_reducible exact rng_toInt _ | with_reducible exact rng_wr _ | (unfold rng; omega) | (unfold rng at *; omega) | assumption)⟩, ?_⟩
  intro σ16 eσ16
  have xσ16 : Ext σ12 σ16 := by rw [eσ16]; exact fun _ h => ⟨h, rfl, rfl⟩
  have iσ16 : IV σ16 pl gq ci gr nc ot LL N nu := by rw [eσ16]; exact iσ12.wC mb_2 (by omega)
  have fσ16 : Fx [5, 6464] gr σ σ16 := fσ12.tr (Sk.fx (by rw [eσ16]; exact Sk.cpJ (fun _ => by rw [fcdA mb_2 (by decide)]; decide)))
  have kp5 : gP σ16 b v2.toNat = gP σ12 b v2.toNat := by rw [eσ16]; rfl
  have kp6 : gP σ16 c1 0 = gP σ12 c1 0 := by rw [eσ16]; rfl
  have kp7 : gP σ16 th 11 = gP σ12 th 11 := by rw [eσ16]; rfl
  exact hQ σ16 () iσ16 fσ16 (by have g9 := iσ.sj.2.2.2.1 b_1 mb_1 (by omega) v3.toNat (by omega); have e9 : gJ σ16 c1 5 = gJ σ b_1 (v3 * 5).toNat := by { rw [eσ16]; show (if c1 = b_2 ∧ _ then _ else gJ σ12 c1 5) = _; rw [if_neg (fun q => (kO.ne (kc1.up xσ12) mb_2 (by decide)) q.1), eσ12]; exact up2_s _ _ _ _ }; rw [e9, show (v3 * 5).toNat = 5 * v3.toNat by omega]; exact g9)
set_option maxHeartbeats 1000000 in
theorem i_X9_readRow {σ : Sg} {pl : Nat} {gq ci gr nc : Nat → Nat} {ot : Nat → Nat → Int} {LL : Nat → List Nat} {N nu : Nat → Nat} {th : Nat} {v1 : Option Nat} {v2 : Option Nat} {J i : Nat} (iσ : IV σ pl gq ci gr nc ot LL N nu) (kth : kO σ th 9) {t : Nat} (hv1 : v1 = some t) (kt : kO σ t 10) {o : Nat} (hv2 : v2 = some o) (ko : kO σ o 5) (ht : gq t = 1) (hl : ci t < nu 15) (hj : gP σ th 9 = some J) (kJ : kO σ J 4) (hJ : gq J = nc 0) (ho : gq o = 16 * nc 0 + i) (hi : i < nc 1) (hk : ot i 6 = 0) (hp : 1 ≤ gI σ th 12) (h5 : nu 5 < 24000) (hb : N 14 + N 44 + N 74 + N 1 ≤ 40000) (hpl : gI σ t 6 < 64) {Q : Sg → Unit → Prop} {X : Sg → String → Prop} (hQ : ∀ (σ' : Sg) (LL' : Nat → List Nat) (N' nu' : Nat → Nat) (r : Unit), IV σ' pl gq ci gr nc ot LL' N' nu' → Fx [1, 2, 3, 4, 5, 6, 7, 64, 512, 513, 514, 590, 645, 646, 647, 648, 649, 6464] gr σ σ' → NU nu nu' → Hn (gD σ) [13] [] gq LL LL' N N' → (N' 1 = N 1) → Q σ' r) (hX : ∀ (σ' : Sg) (LL' : Nat → List Nat) (N' nu' : Nat → Nat) (E : String), IV σ' pl gq ci gr nc ot LL' N' nu' → Fx [1, 2, 3, 4, 5, 6, 7, 64, 512, 513, 514, 590, 645, 646, 647, 648, 649, 6464] gr σ σ' → NX nu nu' → ((N' 1 ≤ N 1 + 2 ∧ N' 5 = N 5 ∧ N' 3 = N 3 ∧ N' 44 = N 44 ∧ N' 74 = N 74) ∧ NZ N N' ∧ E = "java/lang/IllegalStateException") → X σ' E) : wp_X9_readRow th v1 v2 σ Q X := by
  have fσ : Fx [1, 2, 3, 4, 5, 6, 7, 64, 512, 513, 514, 590, 645, 646, 647, 648, 649, 6464] gr σ σ := Fx.rf
  have hnσ : Hn (gD σ) [13] [] gq LL LL N N := Hn.rf
  have q1 := I_9_12 iσ.1 kth
  have q2 := I_10_6 iσ.1 kt
  have n16 := iσ.n16
  have m3 := iσ.m3
  have ok := iσ.opok hi
  have h9 := ok.2.2.2.2.2.2.2.2.1 (by omega)
  have h90 := ok.2.2.2.2.2.2.2.2.2.2.2
  unfold wp_X9_readRow
  unfold w_X9_readRow_0
  refine ⟨t, hv1, fun kk_t => ?_⟩
  refine ⟨by (first | omega | with_reducible assumption | with_reducible exact rng_toInt _ | with_reducible exact rng_wr _ | (unfold rng; omega) | (unfold rng at *; omega) | assumption), ?_⟩
  intro σ27 eσ27
  have xσ27 : Ext σ σ27 := by rw [eσ27]; exact fun _ h => ⟨h, rfl, rfl⟩
  have iσ27 : IV σ27 pl gq ci gr nc ot LL N nu := by rw [eσ27]; exact iσ.wO kt (by decide) (show (0 : Int) ≤ (gI σ t 6 + 1) ∧ (gI σ t 6 + 1) ≤ 64 from ⟨by (first | omega | with_reducible assumption | with_reducible exact rng_toInt _ | with_reducible exact rng_wr _ | (unfold rng; omega) | (unfold rng at *; omega) | assumption), by (first | omega | with_reducible assumption | with_reducible exact rng_toInt _ | with_reducible exact rng_wr _ | (unfold rng; omega) | (unfold rng at *; omega) | assumption)⟩)
  have fσ27 : Fx [1, 2, 3, 4, 5, 6, 7, 64, 512, 513, 514, 590, 645, 646, 647, 648, 649, 6464] gr σ σ27 := fσ.tr (Sk.fx (by rw [eσ27]; exact Sk.pI (by rw [fcdO kt (by decide)]; decide)))
  have wσ27 : gI σ27 t 6 = (gI σ t 6 + 1) := by rw [eσ27]; exact up2_s _ _ _ _
  have kp3 : gI σ27 th 12 = gI σ th 12 := by rw [eσ27]; exact up2_n _ _ (fun q => absurd q.2 (by decide))
  have kp4 : gP σ27 th 9 = gP σ th 9 := by rw [eσ27]
  intro σ28 eσ28
  have xσ28 : Ext σ27 σ28 := by rw [eσ28]; exact fun _ h => ⟨h, rfl, rfl⟩
  have q5 := iσ27.rg t 8; unfold rng at q5
  have iσ28 : IV σ28 pl gq ci gr nc ot LL N nu := by rw [eσ28]; exact iσ27.wO (kt.up xσ27) (by decide) (rngb (by first | exact rng_wr _ | (first | omega | with_reducible assumption | with_reducible exact rng_toInt _ | with_reducible exact rng_wr _ | (unfold rng; omega) | (unfold rng at *; omega) | assumption)))
  have fσ28 : Fx [1, 2, 3, 4, 5, 6, 7, 64, 512, 513, 514, 590, 645, 646, 647, 648, 649, 6464] gr σ σ28 := fσ27.tr (Sk.fx (by rw [eσ28]; exact Sk.pI (by rw [fcdO (kt.up xσ27) (by decide)]; decide)))
  have wσ28 : gI σ28 t 8 = (wr (gI σ27 t 8 + 1)) := by rw [eσ28]; exact up2_s _ _ _ _
  have kp6 : gI σ28 t 6 = gI σ27 t 6 := by rw [eσ28]; exact up2_n _ _ (fun q => absurd q.2 (by decide))
  have kp7 : gI σ28 th 12 = gI σ27 th 12 := by rw [eσ28]; exact up2_n _ _ (fun q => absurd q.2 (by decide))
  have kp8 : gP σ28 th 9 = gP σ27 th 9 := by rw [eσ28]
  have q9b := iσ28.op (ko.up (xσ27.trans xσ28)) ho hi 9 (by decide)
  refine ⟨J, (kp8.trans (kp4.trans hj)), fun kk_J => ?_⟩
  refine ⟨o, hv2, fun kk_o => ?_⟩
  obtain ⟨b, eb, fb⟩ := P_4_11 iσ28.1 (kJ.up (xσ27.trans xσ28))
  have mb : kO σ28 b 200 := iσ28.1.kd (kJ.up (xσ27.trans xσ28)) rfl eb rfl
  refine ⟨b, eb, fun kk_b => ?_⟩
  have q9 := I_5_9 iσ28.1 (ko.up (xσ27.trans xσ28))
  refine ⟨⟨by (first | omega | with_reducible assumption | with_reducible exact rng_toInt _ | with_reducible exact rng_wr _ | (unfold rng; omega) | (unfold rng at *; omega) | assumption), by (first | omega | with_reducible assumption | with_reducible exact rng_toInt _ | with_reducible exact rng_wr _ | (unfold rng; omega) | (unfold rng at *; omega) | assumption)⟩, ?_⟩
  refine ⟨by (first | omega | with_reducible assumption | with_reducible exact rng_toInt _ | with_reducible exact rng_wr _ | (unfold rng; omega) | (unfold rng at *; omega) | assumption), ?_⟩
  obtain ⟨b_1, eb_1⟩ := P_200 iσ28.1 mb (k := (gI σ28 o 9).toNat) (by (first | omega | with_reducible assumption | with_reducible exact rng_toInt _ | with_reducible exact rng_wr _ | (unfold rng; omega) | (unfold rng at *; omega) | assumption))
  have fb_1 := T_200 iσ28.1 mb eb_1
  have mb_1 : kO σ28 b_1 101 := iσ28.1.kd mb rfl eb_1 rfl
  refine ⟨b_1, eb_1, fun kk_b_1 => ?_⟩
  refine ⟨⟨by (first | omega | with_reducible assumption | with_reducible exact rng_toInt _ | with_reducible exact rng_wr _ | (unfold rng; omega) | (unfold rng at *; omega) | assumption), by (first | omega | with_reducible assumption | with_reducible exact rng_toInt _ | with_reducible exact rng_wr _ | (unfold rng; omega) | (unfold rng at *; omega) | assumption)⟩, ?_⟩
  by_cases hc10 : (gJ σ28 b_1 (gI σ t 6 * 5).toNat) > gJ σ28 t 7
  · rw [if_pos hc10]
    unfold w_X9_readRow_60
    refine ⟨o, hv2, fun kk_o_1 => ?_⟩
    obtain ⟨b_2, eb_2⟩ := P_9_0 iσ28.1 (kth.up (xσ27.trans xσ28))
    refine ⟨b_2, eb_2, fun kk_b_2 => ?_⟩
    refine i_X8_setOfRow iσ28 kk_b_2 (by (first | omega | with_reducible assumption | with_reducible exact rng_toInt _ | with_reducible exact rng_wr _ | (unfold rng; omega) | (unfold rng at *; omega) | assumption)) (by (first | omega | with_reducible assumption | with_reducible exact rng_toInt _ | with_reducible exact rng_wr _ | (unfold rng; omega) | (unfold rng at *; omega) | assumption)) (fun σ36 nuσ36 r37 iσ36 cσ36 uσ36 pσ36 => ?_) (fun σx LLx Nx nux E ix cx ux px => hX σx LLx Nx nux E ix (fσ28.tr (cx.mo (by decide))) (ux) (by first | exact px | exact ⟨by have := px.1; omega, px.2.1, px.2.2⟩ | (first | omega | with_reducible assumption | with_reducible exact rng_toInt _ | with_reducible exact rng_wr _ | (unfold rng; omega) | (unfold rng at *; omega) | assumption)))
    intro xσ36
    have fσ36 : Fx [1, 2, 3, 4, 5, 6, 7, 64, 512, 513, 514, 590, 645, 646, 647, 648, 649, 6464] gr σ σ36 := fσ28.tr (cσ36.mo (by decide))
    have nu_σ36 : NU nu nuσ36 := uσ36
    have uσ36_0 := uσ36.1 0 (by decide)
    have uσ36_1 := uσ36.1 1 (by decide)
    have uσ36_2 := uσ36.2
    have uσ36_5 := uσ36.1 5 (by decide)
    have uσ36_15 := uσ36.1 15 (by decide)
    have uσ36_16 := uσ36.1 16 (by decide)
    have kp11 : gI σ36 o 9 = gI σ28 o 9 := (cσ36.O (ko.up (xσ27.trans xσ28)) (by decide)).1
    have kp12 : gI σ36 t 6 = gI σ28 t 6 := (cσ36.O (kt.up (xσ27.trans xσ28)) (by decide)).1
    have kp13 : gI σ36 t 8 = gI σ28 t 8 := (cσ36.O (kt.up (xσ27.trans xσ28)) (by decide)).1
    have kp14 : gI σ36 th 12 = gI σ28 th 12 := (cσ36.O (kth.up (xσ27.trans xσ28)) (by decide)).1
    have kp15 : gP σ36 J 11 = gP σ28 J 11 := (cσ36.O (kJ.up (xσ27.trans xσ28)) (by decide)).2.1
    have kp16 : gP σ36 b (gI σ28 o 9).toNat = gP σ28 b (gI σ28 o 9).toNat := (cσ36.A mb (by decide)).2.1
    have kp17 : gP σ36 th 0 = gP σ28 th 0 := (cσ36.O (kth.up (xσ27.trans xσ28)) (by decide)).2.1
    have kp18 : gP σ36 th 9 = gP σ28 th 9 := (cσ36.O (kth.up (xσ27.trans xσ28)) (by decide)).2.1
    refine ⟨b_2, (kp17.trans eb_2), fun kk_b_2_1 => ?_⟩
    refine i_X8_fresh iσ36 (kk_b_2.up xσ36) (by (first | omega | with_reducible assumption | with_reducible exact rng_toInt _ | with_reducible exact rng_wr _ | (unfold rng; omega) | (unfold rng at *; omega) | assumption)) (fun σ39 LLσ39 Nσ39 nuσ39 c_σ39 iσ39 cσ39 uσ39 hσ39 pσ39 => ?_)
    intro xσ39
    have fσ39 : Fx [1, 2, 3, 4, 5, 6, 7, 64, 512, 513, 514, 590, 645, 646, 647, 648, 649, 6464] gr σ σ39 := fσ36.tr (cσ39.mo (by decide))
    have hnσ39 : Hn (gD σ) [13] [] gq LL LLσ39 N Nσ39 := hnσ.go hσ39 (fun d hd => (fσ36.1 d hd).1) (by first | decide | exact fun _ h => h | (simp; done) | (intro x hx; simp only [List.mem_cons, List.mem_nil_iff, or_false] at hx ⊢; omega)) (fun d hd => absurd hd (by simp))
    have hf_c_σ39 : ∀ x, c_σ39 ∉ LLσ39 x := pσ39.1
    have lo_c_σ39 : Lo [] (gD σ) LL c_σ39 := hnσ.loc (fun d hd => (fσ36.1 d hd).1) pσ39.2.2.1
    have nσ39_3 := hσ39.2.2 3 (by first | decide | (simp; done) | (simp only [List.mem_cons, List.mem_nil_iff, or_false, not_or]; omega)) (by first | decide | omega) (by first | decide | omega) (by first | decide | omega)
    have nσ39_5 := hσ39.2.2 5 (by first | decide | (simp; done) | (simp only [List.mem_cons, List.mem_nil_iff, or_false, not_or]; omega)) (by first | decide | omega) (by first | decide | omega) (by first | decide | omega)
    have nσ39_14 := hσ39.2.2 14 (by first | decide | (simp; done) | (simp only [List.mem_cons, List.mem_nil_iff, or_false, not_or]; omega)) (by first | decide | omega) (by first | decide | omega) (by first | decide | omega)
    have nσ39_44 := hσ39.2.2 44 (by first | decide | (simp; done) | (simp only [List.mem_cons, List.mem_nil_iff, or_false, not_or]; omega)) (by first | decide | omega) (by first | decide | omega) (by first | decide | omega)
    have nσ39_74 := hσ39.2.2 74 (by first | decide | (simp; done) | (simp only [List.mem_cons, List.mem_nil_iff, or_false, not_or]; omega)) (by first | decide | omega) (by first | decide | omega) (by first | decide | omega)
    have nσ39_11 := hσ39.2.2 11 (by first | decide | (simp; done) | (simp only [List.mem_cons, List.mem_nil_iff, or_false, not_or]; omega)) (by first | decide | omega) (by first | decide | omega) (by first | decide | omega)
    have nσ39_12 := hσ39.2.2 12 (by first | decide | (simp; done) | (simp only [List.mem_cons, List.mem_nil_iff, or_false, not_or]; omega)) (by first | decide | omega) (by first | decide | omega) (by first | decide | omega)
    have nσ39_41 := hσ39.2.2 41 (by first | decide | (simp; done) | (simp only [List.mem_cons, List.mem_nil_iff, or_false, not_or]; omega)) (by first | decide | omega) (by first | decide | omega) (by first | decide | omega)
    have nσ39_42 := hσ39.2.2 42 (by first | decide | (simp; done) | (simp only [List.mem_cons, List.mem_nil_iff, or_false, not_or]; omega)) (by first | decide | omega) (by first | decide | omega) (by first | decide | omega)
    have nσ39_13 := hσ39.2.2 13 (by first | decide | (simp; done) | (simp only [List.mem_cons, List.mem_nil_iff, or_false, not_or]; omega)) (by first | decide | omega) (by first | decide | omega) (by first | decide | omega)
    have nσ39_50 := hσ39.2.2 50 (by first | decide | (simp; done) | (simp only [List.mem_cons, List.mem_nil_iff, or_false, not_or]; omega)) (by first | decide | omega) (by first | decide | omega) (by first | decide | omega)
    have nu_σ39 : NU nu nuσ39 := nu_σ36.tr uσ39
    have uσ39_0 := uσ39.1 0 (by decide)
    have uσ39_1 := uσ39.1 1 (by decide)
    have uσ39_2 := uσ39.2
    have uσ39_5 := uσ39.1 5 (by decide)
    have uσ39_15 := uσ39.1 15 (by decide)
    have uσ39_16 := uσ39.1 16 (by decide)
    have kp19 : gI σ39 o 9 = gI σ36 o 9 := (cσ39.O (ko.up (xσ27.trans (xσ28.trans xσ36))) (by decide)).1
    have kp20 : gI σ39 t 6 = gI σ36 t 6 := (cσ39.O (kt.up (xσ27.trans (xσ28.trans xσ36))) (by decide)).1
    have kp21 : gI σ39 t 8 = gI σ36 t 8 := (cσ39.O (kt.up (xσ27.trans (xσ28.trans xσ36))) (by decide)).1
    have kp22 : gI σ39 th 12 = gI σ36 th 12 := (cσ39.O (kth.up (xσ27.trans (xσ28.trans xσ36))) (by decide)).1
    have kp23 : gP σ39 J 11 = gP σ36 J 11 := (cσ39.O (kJ.up (xσ27.trans (xσ28.trans xσ36))) (by decide)).2.1
    have kp24 : gP σ39 b (gI σ28 o 9).toNat = gP σ36 b (gI σ28 o 9).toNat := (cσ39.A (mb.up xσ36) (by decide)).2.1
    have kp25 : gP σ39 th 0 = gP σ36 th 0 := (cσ39.O (kth.up (xσ27.trans (xσ28.trans xσ36))) (by decide)).2.1
    have kp26 : gP σ39 th 9 = gP σ36 th 9 := (cσ39.O (kth.up (xσ27.trans (xσ28.trans xσ36))) (by decide)).2.1
    intro tyt
    have krc_σ39 : kO σ39 c_σ39 0 := tyt c_σ39 rfl
    refine ⟨c_σ39, rfl, fun kk_c_σ39 => ?_⟩
    intro σ43 eσ43
    have xσ43 : Ext σ39 σ43 := by rw [eσ43]; exact fun _ h => ⟨h, rfl, rfl⟩
    have iσ43 : IV σ43 pl gq ci gr nc ot LLσ39 Nσ39 nuσ39 := by rw [eσ43]; exact iσ39.wO krc_σ39 (by decide) (show (-1 : Int) ≤ r37 ∧ r37 ≤ (nuσ39 2 : Int) - 1 from ⟨by (first | omega | with_reducible assumption | with_reducible exact rng_toInt _ | with_reducible exact rng_wr _ | (unfold rng; omega) | (unfold rng at *; omega) | assumption), by (first | omega | with_reducible assumption | with_reducible exact rng_toInt _ | with_reducible exact rng_wr _ | (unfold rng; omega) | (unfold rng at *; omega) | assumption)⟩)
    have fσ43 : Fx [1, 2, 3, 4, 5, 6, 7, 64, 512, 513, 514, 590, 645, 646, 647, 648, 649, 6464] gr σ σ43 := fσ39.tr (Sk.fx (by rw [eσ43]; exact Sk.pI (by rw [fcdO krc_σ39 (by decide)]; decide)))
    have wσ43 : gI σ43 c_σ39 4 = r37 := by rw [eσ43]; exact up2_s _ _ _ _
    have kp27 : gI σ43 o 9 = gI σ39 o 9 := by rw [eσ43]; exact up2_n _ _ (fun q => absurd q.2 (by decide))
    have kp28 : gI σ43 t 6 = gI σ39 t 6 := by rw [eσ43]; exact up2_n _ _ (fun q => absurd q.2 (by decide))
    have kp29 : gI σ43 t 8 = gI σ39 t 8 := by rw [eσ43]; exact up2_n _ _ (fun q => absurd q.2 (by decide))
    have kp30 : gI σ43 th 12 = gI σ39 th 12 := by rw [eσ43]; exact up2_n _ _ (fun q => absurd q.2 (by decide))
    have kp31 : gP σ43 J 11 = gP σ39 J 11 := by rw [eσ43]
    have kp32 : gP σ43 b (gI σ28 o 9).toNat = gP σ39 b (gI σ28 o 9).toNat := by rw [eσ43]
    have kp33 : gP σ43 th 0 = gP σ39 th 0 := by rw [eσ43]
    have kp34 : gP σ43 th 9 = gP σ39 th 9 := by rw [eσ43]
    have q9d := iσ43.op (ko.up (xσ27.trans (xσ28.trans (xσ36.trans (xσ39.trans xσ43))))) ho hi 9 (by decide)
    refine ⟨J, (kp34.trans (kp26.trans (kp18.trans (kp8.trans (kp4.trans hj))))), fun kk_J_1 => ?_⟩
    refine i2_X4_readInto iσ43 (kJ.up (xσ27.trans (xσ28.trans (xσ36.trans (xσ39.trans xσ43))))) rfl (krc_σ39.up xσ43) (by (first | omega | with_reducible assumption | with_reducible exact rng_toInt _ | with_reducible exact rng_wr _ | (unfold rng; omega) | (unfold rng at *; omega) | assumption)) (by (first | omega | with_reducible assumption | with_reducible exact rng_toInt _ | with_reducible exact rng_wr _ | (unfold rng; omega) | (unfold rng at *; omega) | assumption)) (fun σ44 _ iσ44 cσ44 pσ44 => ?_)
    intro xσ44
    have fσ44 : Fx [1, 2, 3, 4, 5, 6, 7, 64, 512, 513, 514, 590, 645, 646, 647, 648, 649, 6464] gr σ σ44 := fσ43.tr (cσ44.mo (by decide))
    have kp35 : gI σ44 c_σ39 4 = gI σ43 c_σ39 4 := (cσ44.O (krc_σ39.up xσ43) (by decide)).1
    have kp36 : gI σ44 o 9 = gI σ43 o 9 := (cσ44.O (ko.up (xσ27.trans (xσ28.trans (xσ36.trans (xσ39.trans xσ43))))) (by decide)).1
    have kp37 : gI σ44 t 6 = gI σ43 t 6 := (cσ44.O (kt.up (xσ27.trans (xσ28.trans (xσ36.trans (xσ39.trans xσ43))))) (by decide)).1
    have kp38 : gI σ44 t 8 = gI σ43 t 8 := (cσ44.O (kt.up (xσ27.trans (xσ28.trans (xσ36.trans (xσ39.trans xσ43))))) (by decide)).1
    have kp39 : gI σ44 th 12 = gI σ43 th 12 := (cσ44.O (kth.up (xσ27.trans (xσ28.trans (xσ36.trans (xσ39.trans xσ43))))) (by decide)).1
    have kp40 : gP σ44 J 11 = gP σ43 J 11 := (cσ44.O (kJ.up (xσ27.trans (xσ28.trans (xσ36.trans (xσ39.trans xσ43))))) (by decide)).2.1
    have kp41 : gP σ44 b (gI σ28 o 9).toNat = gP σ43 b (gI σ28 o 9).toNat := (cσ44.A (mb.up (xσ36.trans (xσ39.trans xσ43))) (by decide)).2.1
    have kp42 : gP σ44 th 0 = gP σ43 th 0 := (cσ44.O (kth.up (xσ27.trans (xσ28.trans (xσ36.trans (xσ39.trans xσ43))))) (by decide)).2.1
    have kp43 : gP σ44 th 9 = gP σ43 th 9 := (cσ44.O (kth.up (xσ27.trans (xσ28.trans (xσ36.trans (xσ39.trans xσ43))))) (by decide)).2.1
    have ql := I_5_10 iσ44.1 (ko.up (xσ27.trans (xσ28.trans (xσ36.trans (xσ39.trans (xσ43.trans xσ44))))))
    refine i_X9_sendRow iσ44 (kth.up (xσ27.trans (xσ28.trans (xσ36.trans (xσ39.trans (xσ43.trans xσ44)))))) hv1 (kt.up (xσ27.trans (xσ28.trans (xσ36.trans (xσ39.trans (xσ43.trans xσ44)))))) rfl (krc_σ39.up (xσ43.trans xσ44)) (by (first | omega | with_reducible assumption | with_reducible exact rng_toInt _ | with_reducible exact rng_wr _ | (unfold rng; omega) | (unfold rng at *; omega) | assumption)) (by (first | omega | with_reducible assumption | with_reducible exact rng_toInt _ | with_reducible exact rng_wr _ | (unfold rng; omega) | (unfold rng at *; omega) | assumption)) (by (first | omega | with_reducible assumption | with_reducible exact rng_toInt _ | with_reducible exact rng_wr _ | (unfold rng; omega) | (unfold rng at *; omega) | assumption)) (by (first | omega | with_reducible assumption | with_reducible exact rng_toInt _ | with_reducible exact rng_wr _ | (unfold rng; omega) | (unfold rng at *; omega) | assumption)) (kp43.trans (kp34.trans (kp26.trans (kp18.trans (kp8.trans (kp4.trans hj)))))) (kJ.up (xσ27.trans (xσ28.trans (xσ36.trans (xσ39.trans (xσ43.trans xσ44)))))) (by (first | omega | with_reducible assumption | with_reducible exact rng_toInt _ | with_reducible exact rng_wr _ | (unfold rng; omega) | (unfold rng at *; omega) | assumption)) (by (first | omega | with_reducible assumption | with_reducible exact rng_toInt _ | with_reducible exact rng_wr _ | (unfold rng; omega) | (unfold rng at *; omega) | assumption)) (by (first | omega | with_reducible assumption | with_reducible exact rng_toInt _ | with_reducible exact rng_wr _ | (unfold rng; omega) | (unfold rng at *; omega) | assumption)) (by (first | omega | with_reducible assumption | with_reducible exact rng_toInt _ | with_reducible exact rng_wr _ | (unfold rng; omega) | (unfold rng at *; omega) | assumption)) (fun σ46 LLσ46 Nσ46 nuσ46 _ iσ46 cσ46 uσ46 hσ46 pσ46 => ?_) (fun σx LLx Nx nux E ix cx ux px => hX σx LLx Nx nux E ix (fσ44.tr (cx.mo (by decide))) (nu_σ39.x ux) (by first | exact px | exact ⟨by have := px.1; omega, (Hn.nz hnσ39 (by first | decide | (intro x hx; simp only [List.mem_cons, List.mem_nil_iff, or_false] at hx; omega))).tr px.2.1, px.2.2⟩ | (first | omega | with_reducible assumption | with_reducible exact rng_toInt _ | with_reducible exact rng_wr _ | (unfold rng; omega) | (unfold rng at *; omega) | assumption)))
    intro xσ46
    have fσ46 : Fx [1, 2, 3, 4, 5, 6, 7, 64, 512, 513, 514, 590, 645, 646, 647, 648, 649, 6464] gr σ σ46 := fσ44.tr (cσ46.mo (by decide))
    have hnσ46 : Hn (gD σ) [13] [] gq LL LLσ46 N Nσ46 := hnσ39.go hσ46 (fun d hd => (fσ44.1 d hd).1) (by first | decide | exact fun _ h => h | (simp; done) | (intro x hx; simp only [List.mem_cons, List.mem_nil_iff, or_false] at hx ⊢; omega)) (fun d hd => by rw [List.mem_singleton.mp hd]; exact lo_c_σ39)
    have nσ46_3 := hσ46.2.2 3 (by first | decide | (simp; done) | (simp only [List.mem_cons, List.mem_nil_iff, or_false, not_or]; omega)) (by first | decide | omega) (by first | decide | omega) (by first | decide | omega)
    have nσ46_5 := hσ46.2.2 5 (by first | decide | (simp; done) | (simp only [List.mem_cons, List.mem_nil_iff, or_false, not_or]; omega)) (by first | decide | omega) (by first | decide | omega) (by first | decide | omega)
    have nσ46_14 := hσ46.2.2 14 (by first | decide | (simp; done) | (simp only [List.mem_cons, List.mem_nil_iff, or_false, not_or]; omega)) (by first | decide | omega) (by first | decide | omega) (by first | decide | omega)
    have nσ46_44 := hσ46.2.2 44 (by first | decide | (simp; done) | (simp only [List.mem_cons, List.mem_nil_iff, or_false, not_or]; omega)) (by first | decide | omega) (by first | decide | omega) (by first | decide | omega)
    have nσ46_74 := hσ46.2.2 74 (by first | decide | (simp; done) | (simp only [List.mem_cons, List.mem_nil_iff, or_false, not_or]; omega)) (by first | decide | omega) (by first | decide | omega) (by first | decide | omega)
    have nσ46_11 := hσ46.2.2 11 (by first | decide | (simp; done) | (simp only [List.mem_cons, List.mem_nil_iff, or_false, not_or]; omega)) (by first | decide | omega) (by first | decide | omega) (by first | decide | omega)
    have nσ46_12 := hσ46.2.2 12 (by first | decide | (simp; done) | (simp only [List.mem_cons, List.mem_nil_iff, or_false, not_or]; omega)) (by first | decide | omega) (by first | decide | omega) (by first | decide | omega)
    have nσ46_41 := hσ46.2.2 41 (by first | decide | (simp; done) | (simp only [List.mem_cons, List.mem_nil_iff, or_false, not_or]; omega)) (by first | decide | omega) (by first | decide | omega) (by first | decide | omega)
    have nσ46_42 := hσ46.2.2 42 (by first | decide | (simp; done) | (simp only [List.mem_cons, List.mem_nil_iff, or_false, not_or]; omega)) (by first | decide | omega) (by first | decide | omega) (by first | decide | omega)
    have nσ46_50 := hσ46.2.2 50 (by first | decide | (simp; done) | (simp only [List.mem_cons, List.mem_nil_iff, or_false, not_or]; omega)) (by first | decide | omega) (by first | decide | omega) (by first | decide | omega)
    have nu_σ46 : NU nu nuσ46 := nu_σ39.tr uσ46
    have uσ46_0 := uσ46.1 0 (by decide)
    have uσ46_1 := uσ46.1 1 (by decide)
    have uσ46_2 := uσ46.2
    have uσ46_5 := uσ46.1 5 (by decide)
    have uσ46_15 := uσ46.1 15 (by decide)
    have uσ46_16 := uσ46.1 16 (by decide)
    have kp44 : gI σ46 o 9 = gI σ44 o 9 := (cσ46.O (ko.up (xσ27.trans (xσ28.trans (xσ36.trans (xσ39.trans (xσ43.trans xσ44)))))) (by decide)).1
    have kp45 : gI σ46 t 6 = gI σ44 t 6 := (cσ46.O (kt.up (xσ27.trans (xσ28.trans (xσ36.trans (xσ39.trans (xσ43.trans xσ44)))))) (by decide)).1
    have kp46 : gI σ46 t 8 = gI σ44 t 8 := (cσ46.O (kt.up (xσ27.trans (xσ28.trans (xσ36.trans (xσ39.trans (xσ43.trans xσ44)))))) (by decide)).1
    have kp47 : gI σ46 th 12 = gI σ44 th 12 := (cσ46.O (kth.up (xσ27.trans (xσ28.trans (xσ36.trans (xσ39.trans (xσ43.trans xσ44)))))) (by decide)).1
    have kp48 : gP σ46 J 11 = gP σ44 J 11 := (cσ46.O (kJ.up (xσ27.trans (xσ28.trans (xσ36.trans (xσ39.trans (xσ43.trans xσ44)))))) (by decide)).2.1
    have kp49 : gP σ46 b (gI σ28 o 9).toNat = gP σ44 b (gI σ28 o 9).toNat := (cσ46.A (mb.up (xσ36.trans (xσ39.trans (xσ43.trans xσ44)))) (by decide)).2.1
    have kp50 : gP σ46 th 0 = gP σ44 th 0 := (cσ46.O (kth.up (xσ27.trans (xσ28.trans (xσ36.trans (xσ39.trans (xσ43.trans xσ44)))))) (by decide)).2.1
    have kp51 : gP σ46 th 9 = gP σ44 th 9 := (cσ46.O (kth.up (xσ27.trans (xσ28.trans (xσ36.trans (xσ39.trans (xσ43.trans xσ44)))))) (by decide)).2.1
    refine ⟨t, hv1, fun kk_t_1 => ?_⟩
    have q53 := I_5_10 iσ44.1 (ko.up (xσ27.trans (xσ28.trans (xσ36.trans (xσ39.trans (xσ43.trans xσ44))))))
    by_cases hc52 : ((gJ σ44 c_σ39 5 - (Int64.ofInt (gI σ44 o 10))) - 1) ≤ gJ σ46 t 7
    · rw [if_pos hc52]
      unfold w_X9_readRow_150
      exact hQ σ46 LLσ46 Nσ46 nuσ46 () iσ46 fσ46 (nu_σ46) hnσ46 (by (first | omega | with_reducible assumption | with_reducible exact rng_toInt _ | with_reducible exact rng_wr _ | (unfold rng; omega) | (unfold rng at *; omega) | assumption))
    · rw [if_neg hc52]
      unfold w_X9_readRow_136
      have wm : tb (N 3) ((gJ σ44 c_σ39 5 - Int64.ofInt (gI σ44 o 10)) - 1) := tb_wm pσ44 (by omega) m3.1
      refine ⟨t, hv1, fun kk_t_2 => ?_⟩
      intro σ49 eσ49
      have xσ49 : Ext σ46 σ49 := by rw [eσ49]; exact fun _ h => ⟨h, rfl, rfl⟩
      have iσ49 : IV σ49 pl gq ci gr nc ot LLσ46 Nσ46 nuσ46 := by rw [eσ49]; exact iσ46.wT (kt.up (xσ27.trans (xσ28.trans (xσ36.trans (xσ39.trans (xσ43.trans (xσ44.trans xσ46))))))) (by decide) (by have q9 := wm; unfold tb at q9 ⊢; omega)
      have fσ49 : Fx [1, 2, 3, 4, 5, 6, 7, 64, 512, 513, 514, 590, 645, 646, 647, 648, 649, 6464] gr σ σ49 := fσ46.tr (Sk.fx (by rw [eσ49]; exact Sk.pJ (by rw [fcdO (kt.up (xσ27.trans (xσ28.trans (xσ36.trans (xσ39.trans (xσ43.trans (xσ44.trans xσ46))))))) (by decide)]; decide)))
      have kp54 : gI σ49 o 9 = gI σ46 o 9 := by rw [eσ49]
      have kp55 : gI σ49 t 6 = gI σ46 t 6 := by rw [eσ49]
      have kp56 : gI σ49 t 8 = gI σ46 t 8 := by rw [eσ49]
      have kp57 : gI σ49 th 12 = gI σ46 th 12 := by rw [eσ49]
      have kp58 : gP σ49 J 11 = gP σ46 J 11 := by rw [eσ49]
      have kp59 : gP σ49 b (gI σ28 o 9).toNat = gP σ46 b (gI σ28 o 9).toNat := by rw [eσ49]
      have kp60 : gP σ49 th 0 = gP σ46 th 0 := by rw [eσ49]
      have kp61 : gP σ49 th 9 = gP σ46 th 9 := by rw [eσ49]
      refine i_X9_sendToAll iσ49 (kth.up (xσ27.trans (xσ28.trans (xσ36.trans (xσ39.trans (xσ43.trans (xσ44.trans (xσ46.trans xσ49)))))))) hv1 (kt.up (xσ27.trans (xσ28.trans (xσ36.trans (xσ39.trans (xσ43.trans (xσ44.trans (xσ46.trans xσ49)))))))) (by (first | omega | with_reducible assumption | with_reducible exact rng_toInt _ | with_reducible exact rng_wr _ | (unfold rng; omega) | (unfold rng at *; omega) | assumption)) (by (first | omega | with_reducible assumption | with_reducible exact rng_toInt _ | with_reducible exact rng_wr _ | (unfold rng; omega) | (unfold rng at *; omega) | assumption)) (by (first | omega | with_reducible assumption | with_reducible exact rng_toInt _ | with_reducible exact rng_wr _ | (unfold rng; omega) | (unfold rng at *; omega) | assumption)) (by (first | omega | with_reducible assumption | with_reducible exact rng_toInt _ | with_reducible exact rng_wr _ | (unfold rng; omega) | (unfold rng at *; omega) | assumption)) (by unfold rng; omega) (by have q9 := wm; unfold tb at q9 ⊢; omega) (fun σ50 LLσ50 Nσ50 nuσ50 _ iσ50 cσ50 uσ50 hσ50 pσ50 => ?_) (fun σx LLx Nx nux E ix cx ux px => hX σx LLx Nx nux E ix (fσ49.tr (cx.mo (by decide))) (nu_σ46.x ux) (by first | exact px | exact ⟨by have := px.1; omega, (Hn.nz hnσ46 (by first | decide | (intro x hx; simp only [List.mem_cons, List.mem_nil_iff, or_false] at hx; omega))).tr px.2.1, px.2.2⟩ | (first | omega | with_reducible assumption | with_reducible exact rng_toInt _ | with_reducible exact rng_wr _ | (unfold rng; omega) | (unfold rng at *; omega) | assumption)))
      intro xσ50
      have fσ50 : Fx [1, 2, 3, 4, 5, 6, 7, 64, 512, 513, 514, 590, 645, 646, 647, 648, 649, 6464] gr σ σ50 := fσ49.tr (cσ50.mo (by decide))
      have hnσ50 : Hn (gD σ) [13] [] gq LL LLσ50 N Nσ50 := hnσ46.go hσ50 (fun d hd => (fσ49.1 d hd).1) (by first | decide | exact fun _ h => h | (simp; done) | (intro x hx; simp only [List.mem_cons, List.mem_nil_iff, or_false] at hx ⊢; omega)) (fun d hd => absurd hd (by simp))
      have nσ50_3 := hσ50.2.2 3 (by first | decide | (simp; done) | (simp only [List.mem_cons, List.mem_nil_iff, or_false, not_or]; omega)) (by first | decide | omega) (by first | decide | omega) (by first | decide | omega)
      have nσ50_5 := hσ50.2.2 5 (by first | decide | (simp; done) | (simp only [List.mem_cons, List.mem_nil_iff, or_false, not_or]; omega)) (by first | decide | omega) (by first | decide | omega) (by first | decide | omega)
      have nσ50_14 := hσ50.2.2 14 (by first | decide | (simp; done) | (simp only [List.mem_cons, List.mem_nil_iff, or_false, not_or]; omega)) (by first | decide | omega) (by first | decide | omega) (by first | decide | omega)
      have nσ50_44 := hσ50.2.2 44 (by first | decide | (simp; done) | (simp only [List.mem_cons, List.mem_nil_iff, or_false, not_or]; omega)) (by first | decide | omega) (by first | decide | omega) (by first | decide | omega)
      have nσ50_74 := hσ50.2.2 74 (by first | decide | (simp; done) | (simp only [List.mem_cons, List.mem_nil_iff, or_false, not_or]; omega)) (by first | decide | omega) (by first | decide | omega) (by first | decide | omega)
      have nσ50_11 := hσ50.2.2 11 (by first | decide | (simp; done) | (simp only [List.mem_cons, List.mem_nil_iff, or_false, not_or]; omega)) (by first | decide | omega) (by first | decide | omega) (by first | decide | omega)
      have nσ50_12 := hσ50.2.2 12 (by first | decide | (simp; done) | (simp only [List.mem_cons, List.mem_nil_iff, or_false, not_or]; omega)) (by first | decide | omega) (by first | decide | omega) (by first | decide | omega)
      have nσ50_41 := hσ50.2.2 41 (by first | decide | (simp; done) | (simp only [List.mem_cons, List.mem_nil_iff, or_false, not_or]; omega)) (by first | decide | omega) (by first | decide | omega) (by first | decide | omega)
      have nσ50_42 := hσ50.2.2 42 (by first | decide | (simp; done) | (simp only [List.mem_cons, List.mem_nil_iff, or_false, not_or]; omega)) (by first | decide | omega) (by first | decide | omega) (by first | decide | omega)
      have nσ50_50 := hσ50.2.2 50 (by first | decide | (simp; done) | (simp only [List.mem_cons, List.mem_nil_iff, or_false, not_or]; omega)) (by first | decide | omega) (by first | decide | omega) (by first | decide | omega)
      have nu_σ50 : NU nu nuσ50 := nu_σ46.tr uσ50
      have uσ50_0 := uσ50.1 0 (by decide)
      have uσ50_1 := uσ50.1 1 (by decide)
      have uσ50_2 := uσ50.2
      have uσ50_5 := uσ50.1 5 (by decide)
      have uσ50_15 := uσ50.1 15 (by decide)
      have uσ50_16 := uσ50.1 16 (by decide)
      have kp62 : gI σ50 o 9 = gI σ49 o 9 := (cσ50.O (ko.up (xσ27.trans (xσ28.trans (xσ36.trans (xσ39.trans (xσ43.trans (xσ44.trans (xσ46.trans xσ49)))))))) (by decide)).1
      have kp63 : gI σ50 t 6 = gI σ49 t 6 := (cσ50.O (kt.up (xσ27.trans (xσ28.trans (xσ36.trans (xσ39.trans (xσ43.trans (xσ44.trans (xσ46.trans xσ49)))))))) (by decide)).1
      have kp64 : gI σ50 t 8 = gI σ49 t 8 := (cσ50.O (kt.up (xσ27.trans (xσ28.trans (xσ36.trans (xσ39.trans (xσ43.trans (xσ44.trans (xσ46.trans xσ49)))))))) (by decide)).1
      have kp65 : gI σ50 th 12 = gI σ49 th 12 := (cσ50.O (kth.up (xσ27.trans (xσ28.trans (xσ36.trans (xσ39.trans (xσ43.trans (xσ44.trans (xσ46.trans xσ49)))))))) (by decide)).1
      have kp66 : gP σ50 J 11 = gP σ49 J 11 := (cσ50.O (kJ.up (xσ27.trans (xσ28.trans (xσ36.trans (xσ39.trans (xσ43.trans (xσ44.trans (xσ46.trans xσ49)))))))) (by decide)).2.1
      have kp67 : gP σ50 b (gI σ28 o 9).toNat = gP σ49 b (gI σ28 o 9).toNat := (cσ50.A (mb.up (xσ36.trans (xσ39.trans (xσ43.trans (xσ44.trans (xσ46.trans xσ49)))))) (by decide)).2.1
      have kp68 : gP σ50 th 0 = gP σ49 th 0 := (cσ50.O (kth.up (xσ27.trans (xσ28.trans (xσ36.trans (xσ39.trans (xσ43.trans (xσ44.trans (xσ46.trans xσ49)))))))) (by decide)).2.1
      have kp69 : gP σ50 th 9 = gP σ49 th 9 := (cσ50.O (kth.up (xσ27.trans (xσ28.trans (xσ36.trans (xσ39.trans (xσ43.trans (xσ44.trans (xσ46.trans xσ49)))))))) (by decide)).2.1
      unfold w_X9_readRow_150
      exact hQ σ50 LLσ50 Nσ50 nuσ50 () iσ50 fσ50 (nu_σ50) hnσ50 (by (first | omega | with_reducible assumption | with_reducible exact rng_toInt _ | with_reducible exact rng_wr _ | (unfold rng; omega) | (unfold rng at *; omega) | assumption))
  · rw [if_neg hc10]
    unfold w_X9_readRow_49
    refine ⟨t, hv1, fun kk_t_3 => ?_⟩
    intro σ34 eσ34
    have xσ34 : Ext σ28 σ34 := by rw [eσ34]; exact fun _ h => ⟨h, rfl, rfl⟩
    have q70 := iσ28.rg t 5; unfold rng at q70
    have iσ34 : IV σ34 pl gq ci gr nc ot LL N nu := by rw [eσ34]; exact iσ28.wO (kt.up (xσ27.trans xσ28)) (by decide) (rngb (by first | exact rng_wr _ | (first | omega | with_reducible assumption | with_reducible exact rng_toInt _ | with_reducible exact rng_wr _ | (unfold rng; omega) | (unfold rng at *; omega) | assumption)))
    have fσ34 : Fx [1, 2, 3, 4, 5, 6, 7, 64, 512, 513, 514, 590, 645, 646, 647, 648, 649, 6464] gr σ σ34 := fσ28.tr (Sk.fx (by rw [eσ34]; exact Sk.pI (by rw [fcdO (kt.up (xσ27.trans xσ28)) (by decide)]; decide)))
    have wσ34 : gI σ34 t 5 = (wr (gI σ28 t 5 + 1)) := by rw [eσ34]; exact up2_s _ _ _ _
    have kp71 : gI σ34 o 9 = gI σ28 o 9 := by rw [eσ34]; exact up2_n _ _ (fun q => absurd q.2 (by decide))
    have kp72 : gI σ34 t 6 = gI σ28 t 6 := by rw [eσ34]; exact up2_n _ _ (fun q => absurd q.2 (by decide))
    have kp73 : gI σ34 t 8 = gI σ28 t 8 := by rw [eσ34]; exact up2_n _ _ (fun q => absurd q.2 (by decide))
    have kp74 : gI σ34 th 12 = gI σ28 th 12 := by rw [eσ34]; exact up2_n _ _ (fun q => absurd q.2 (by decide))
    have kp75 : gP σ34 J 11 = gP σ28 J 11 := by rw [eσ34]
    have kp76 : gP σ34 b (gI σ28 o 9).toNat = gP σ28 b (gI σ28 o 9).toNat := by rw [eσ34]
    have kp77 : gP σ34 th 9 = gP σ28 th 9 := by rw [eσ34]
    exact hQ σ34 LL N nu () iσ34 fσ34 (NU.rf) hnσ (by (first | omega | with_reducible assumption | with_reducible exact rng_toInt _ | with_reducible exact rng_wr _ | (unfold rng; omega) | (unfold rng at *; omega) | assumption))

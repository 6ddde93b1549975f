set_option maxHeartbeats 1000000 in
theorem i2_X4_outputOp {σ : Sg} {pl : Nat} {gq ci gr nc : Nat → Nat} {ot : Nat → Nat → Int} {LL : Nat → List Nat} {N nu : Nat → Nat} {th : Nat} {v1 : Int} (iσ : IV σ pl gq ci gr nc ot LL N nu) (kth : kO σ th 4) (h1 : 0 ≤ v1 ∧ v1 < (nc 2 : Int)) (hJ : gq th = nc 0) {Q : Sg → Option Nat → Prop} {X : Sg → String → Prop} (hQ : ∀ (co : Nat), (gq co = 16 * nc 0 + (ot 16 v1.toNat).toNat ∧ (ot 16 v1.toNat).toNat < nc 1 ∧ ot (ot 16 v1.toNat).toNat 6 = 11) → Q σ (some co)) : wp_X4_outputOp th v1 σ Q X := by
  have ncb := iσ.2.2.2.2.1.1
  have oo := iσ.2.2.2.2.1.2.2.1 v1.toNat (by omega)
  have jj := (iσ.2.2.2.2.1.2.2.2.2 th kth hJ).2.2
  unfold wp_X4_outputOp
  unfold w_X4_outputOp_0
  obtain ⟨b, eb, fb⟩ := P_4_3 iσ.1 kth
  have mb : kO σ b 100 := iσ.1.kd kth rfl eb rfl
  refine ⟨b, eb, fun kk_b => ?_⟩
  refine ⟨⟨by (first | omega | with_reducible assumption | (have jx := jj _ (by assumption) v1.toNat (by omega); omega) | assumption), by (first | omega | with_reducible assumption | (have jx := jj _ (by assumption) v1.toNat (by omega); omega) | assumption)⟩, ?_⟩
  obtain ⟨b_1, eb_1, fb_1⟩ := P_4_0 iσ.1 kth
  have mb_1 : kO σ b_1 115 := iσ.1.kd kth rfl eb_1 rfl
  refine ⟨b_1, eb_1, fun kk_b_1 => ?_⟩
  have q1 := I_131 iσ.1 mb (by omega) v1.toNat
  refine ⟨⟨by (first | omega | with_reducible assumption | (have jx := jj _ (by assumption) v1.toNat (by omega); omega) | assumption), by (first | omega | with_reducible assumption | (have jx := jj _ (by assumption) v1.toNat (by omega); omega) | assumption)⟩, ?_⟩
  obtain ⟨b_2, eb_2⟩ := P_115 iσ.1 mb_1 (k := (gI σ b v1.toNat).toNat) (by (first | omega | with_reducible assumption | (have jx := jj _ (by assumption) v1.toNat (by omega); omega) | assumption))
  have fb_2 := T_115 iσ.1 mb_1 eb_2
  have mb_2 : kO σ b_2 5 := iσ.1.kd mb_1 rfl eb_2 rfl
  rw [show (gP σ b_1 (gI σ b v1.toNat).toNat) = some b_2 from eb_2]
  exact hQ b_2 (by have jx := jj _ (by assumption) v1.toNat (by omega); exact ⟨by omega, by omega, oo.2.2⟩)
set_option maxHeartbeats 1000000 in
theorem i_X7_isRight {σ : Sg} {pl : Nat} {gq ci gr nc : Nat → Nat} {ot : Nat → Nat → Int} {LL : Nat → List Nat} {N nu : Nat → Nat} {th : Nat} {v1 : Option Nat} {v2 : Option Nat} {W : Nat} (iσ : IV σ pl gq ci gr nc ot LL N nu) (kth : kO σ th 7) {J : Nat} (hv1 : v1 = some J) (kJ : kO σ J 4) {vr : Nat} (hv2 : v2 = some vr) (kvr : kO σ vr 111) (hw : gP σ th 1 = some W) (kW : kO σ W 11) (hJ : gq J = nc 0) (hvr : gq vr = 153 ∧ gn σ vr = 4) (h5 : nu 5 < 24000) (hb : N 14 + N 44 + N 74 + N 1 ≤ 10000) (h3 : N 3 + 4000000000 ≤ 1152921504606846976) (n44 : N 44 = 0) (z80 : ∀ g, 80 ≤ g → g ≤ 95 → N g = 0) {Q : Sg → Int → Prop} {X : Sg → String → Prop} (hQ : ∀ (σ' : Sg) (gq' ci' : Nat → Nat) (LL' : Nat → List Nat) (N' nu' : Nat → Nat) (r : Int), IV σ' pl gq' ci' gr nc ot LL' N' nu' → GE (gD σ) gq ci gq' ci' → Fx [1, 2, 3, 4, 5, 6, 7, 64, 265, 266, 453, 454, 512, 513, 514, 645, 708, 709, 6464] gr σ σ' → NX nu nu' → ((r = 0 ∨ r = 1) ∧ N' 1 ≤ N 1 + 3 ∧ N' 5 = N 5 ∧ N' 3 ≤ N 3 + 2000000000 ∧ N' 14 = N 14) → Q σ' r) : wp_X7_isRight th v1 v2 σ Q X := by
  have fσ : Fx [1, 2, 3, 4, 5, 6, 7, 64, 265, 266, 453, 454, 512, 513, 514, 645, 708, 709, 6464] gr σ σ := Fx.rf
  have geσ : GE (gD σ) gq ci gq ci := GE.rf
  have hnσ : Hn (gD σ) [3, 41, 42, 44, 74, 80, 81, 82, 83, 84, 85, 86, 87, 88, 89, 90, 91, 92, 93, 94, 95] [] gq LL LL N N := Hn.rf
  have fW := T_7_1 iσ.1 kth hw
  have ncb := iσ.2.2.2.2.1.1
  have jc0 := iσ.2.2.2.2.1.2.2.2.2 J kJ hJ
  unfold wp_X7_isRight
  unfold w_X7_isRight_0
  intro σ23 eσ23
  have xσ23 : Ext σ σ23 := by rw [eσ23]; exact fun _ h => ⟨h, rfl, rfl⟩
  have iσ23 : IV σ23 pl gq ci gr nc ot LL N nu := by rw [eσ23]; exact iσ.wP kth (by decide) (by intro q; exact absurd q (by simp [lbN])) (by intro _ _; trivial) (by intro q; exact absurd q (by decide))
  have fσ23 : Fx [1, 2, 3, 4, 5, 6, 7, 64, 265, 266, 453, 454, 512, 513, 514, 645, 708, 709, 6464] gr σ σ23 := fσ.tr (Sk.fx (by rw [eσ23]; exact Sk.pP (by rw [fcdO kth (by decide)]; decide)))
  have wσ23 : gP σ23 th 5 = v1 := by rw [eσ23]; exact up2_s _ _ _ _
  have kp1 : gP σ23 th 1 = gP σ th 1 := by rw [eσ23]; exact up2_n _ _ (fun q => absurd q.2 (by decide))
  refine ⟨W, (kp1.trans hw), fun kk_W => ?_⟩
  intro σ25 eσ25
  have xσ25 : Ext σ23 σ25 := by rw [eσ25]; exact fun _ h => ⟨h, rfl, rfl⟩
  have iσ25 : IV σ25 pl gq ci gr nc ot LL N nu := by rw [eσ25]; exact iσ23.wP (kW.up xσ23) (by decide) (by intro q; exact absurd q (by simp [lbN])) (by intro _ _; trivial) (by intro q; exact absurd q (by decide))
  have fσ25 : Fx [1, 2, 3, 4, 5, 6, 7, 64, 265, 266, 453, 454, 512, 513, 514, 645, 708, 709, 6464] gr σ σ25 := fσ23.tr (Sk.fx (by rw [eσ25]; exact Sk.pP (by rw [fcdO (kW.up xσ23) (by decide)]; decide)))
  have wσ25 : gP σ25 W 5 = v1 := by rw [eσ25]; exact up2_s _ _ _ _
  have kp2 : gI σ25 th 5 = gI σ23 th 5 := by rw [eσ25]
  have kp3 : gP σ25 th 1 = gP σ23 th 1 := by rw [eσ25]; exact up2_n _ _ (fun q => absurd q.2 (by decide))
  have kp4 : gP σ25 th 5 = gP σ23 th 5 := by rw [eσ25]; exact up2_n _ _ (fun q => absurd q.1 (kO.ne (kth.up xσ23) (kW.up xσ23) (by decide)))
  intro σ26 eσ26
  have xσ26 : Ext σ25 σ26 := by rw [eσ26]; exact fun _ h => ⟨h, rfl, rfl⟩
  have iσ26 : IV σ26 pl gq ci gr nc ot LL N nu := by rw [eσ26]; exact iσ25.tot7 (kth.up (xσ23.trans xσ25)) ⟨by rw [S16.zero z80]; omega, by omega⟩
  have fσ26 : Fx [1, 2, 3, 4, 5, 6, 7, 64, 265, 266, 453, 454, 512, 513, 514, 645, 708, 709, 6464] gr σ σ26 := fσ25.tr (Sk.fx (by rw [eσ26]; exact Sk.pI (by rw [fcdO (kth.up (xσ23.trans xσ25)) (by decide)]; decide)))
  have wσ26 : gI σ26 th 6 = 0 := by rw [eσ26]; exact up2_s _ _ _ _
  have kp5 : gI σ26 W 5 = gI σ25 W 5 := by rw [eσ26]; exact up2_n _ _ (fun q => absurd q.2 (by decide))
  have kp6 : gI σ26 th 5 = gI σ25 th 5 := by rw [eσ26]; exact up2_n _ _ (fun q => absurd q.2 (by decide))
  have kp7 : gP σ26 W 5 = gP σ25 W 5 := by rw [eσ26]
  have kp8 : gP σ26 th 1 = gP σ25 th 1 := by rw [eσ26]
  have kp9 : gP σ26 th 5 = gP σ25 th 5 := by rw [eσ26]
  unfold w_X7_isRight_18
  have Lp20 : ∀ (fu20 : Nat) (τ20 : Sg) (gqt20 cit20 : Nat → Nat) (LLt20 : Nat → List Nat) (Nt20 nut20 : Nat → Nat) (v3 : Int), IV τ20 pl gqt20 cit20 gr nc ot LLt20 Nt20 nut20 → Fx [1, 2, 3, 4, 5, 6, 7, 64, 265, 266, 453, 454, 512, 513, 514, 645, 708, 709, 6464] gr σ τ20 → Ext σ26 τ20 → GE (gD σ26) gq ci gqt20 cit20 → NU nu nut20 → Hn (gD σ) [3, 41, 42, 44, 74, 80, 81, 82, 83, 84, 85, 86, 87, 88, 89, 90, 91, 92, 93, 94, 95] [] gq LL LLt20 N Nt20 → (((0 ≤ v3 ∧ v3 ≤ 16) ∧ Nt20 1 = N 1 ∧ Nt20 44 = 0 ∧ Nt20 5 = N 5 ∧ Nt20 3 ≤ N 3 + 110000000 * v3.toNat ∧ Nt20 14 = N 14 ∧ Nt20 74 = N 74) ∧ gP τ20 th 5 = some J ∧ gP τ20 W 5 = some J) → ((16 - v3).toNat) < fu20 → wl_X7_isRight_20 th Q X fu20 τ20 v2 v3 := by
    intro fu20
    induction fu20 with
    | zero => intro _ _ _ _ _ _ _ _ _ _ _ _ _ _ h9; omega
    | succ fu20 ih20 =>
      intro τ20 gqt20 cit20 LLt20 Nt20 nut20 v3 iτ20 fτ20 xτ20 giτ20 nu_τ20 hnτ20 hi20 hm20
      have geτ20 : GE (gD σ) gq ci gqt20 cit20 := geσ.tr giτ20 (fun d hd => (fσ26.1 d hd).1)
      have gl10 := giτ20 J (kJ.up (xσ23.trans (xσ25.trans xσ26))).1
      have gl11 := giτ20 vr (kvr.up (xσ23.trans (xσ25.trans xσ26))).1
      have gl12 := giτ20 W (kW.up (xσ23.trans (xσ25.trans xσ26))).1
      have nτ20_5 := hnτ20.2.2 5 (by first | decide | (simp; done) | (simp only [List.mem_cons, List.mem_nil_iff, or_false, not_or]; omega)) (by first | decide | omega) (by first | decide | omega) (by first | decide | omega)
      have nτ20_14 := hnτ20.2.2 14 (by first | decide | (simp; done) | (simp only [List.mem_cons, List.mem_nil_iff, or_false, not_or]; omega)) (by first | decide | omega) (by first | decide | omega) (by first | decide | omega)
      have nτ20_11 := hnτ20.2.2 11 (by first | decide | (simp; done) | (simp only [List.mem_cons, List.mem_nil_iff, or_false, not_or]; omega)) (by first | decide | omega) (by first | decide | omega) (by first | decide | omega)
      have nτ20_12 := hnτ20.2.2 12 (by first | decide | (simp; done) | (simp only [List.mem_cons, List.mem_nil_iff, or_false, not_or]; omega)) (by first | decide | omega) (by first | decide | omega) (by first | decide | omega)
      have nτ20_13 := hnτ20.2.2 13 (by first | decide | (simp; done) | (simp only [List.mem_cons, List.mem_nil_iff, or_false, not_or]; omega)) (by first | decide | omega) (by first | decide | omega) (by first | decide | omega)
      have uτ20_0 := nu_τ20.1 0 (by decide)
      have uτ20_1 := nu_τ20.1 1 (by decide)
      have uτ20_2 := nu_τ20.2
      have uτ20_5 := nu_τ20.1 5 (by decide)
      have uτ20_15 := nu_τ20.1 15 (by decide)
      have uτ20_16 := nu_τ20.1 16 (by decide)
      unfold wl_X7_isRight_20
      have kp13 : gP τ20 th 1 = gP σ th 1 := (fτ20.O kth (by decide)).2.1
      have jc20 := (iτ20.2.2.2.2.1.2.2.2.2 J (kJ.up (xσ23.trans (xσ25.trans (xσ26.trans xτ20)))) (by omega)).1
      unfold w_X7_isRight_20
      refine ⟨J, hi20.2.1, fun kk_J => ?_⟩
      have q15 := I_4_1 iτ20.1 (kJ.up (xσ23.trans (xσ25.trans (xσ26.trans xτ20))))
      by_cases hc14 : v3 ≥ gI τ20 J 1
      · rw [if_pos hc14]
        unfold w_X7_isRight_95
        unfold w_X7_isRight_101
        have Lp103 : ∀ (fu103 : Nat) (τ103 : Sg) (gqt103 cit103 : Nat → Nat) (LLt103 : Nat → List Nat) (Nt103 nut103 : Nat → Nat) (v3 : Int), IV τ103 pl gqt103 cit103 gr nc ot LLt103 Nt103 nut103 → Fx [1, 2, 3, 4, 5, 6, 7, 64, 265, 266, 453, 454, 512, 513, 514, 645, 708, 709, 6464] gr σ τ103 → Ext τ20 τ103 → GE (gD τ20) gqt20 cit20 gqt103 cit103 → NU nu nut103 → Hn (gD σ) [3, 41, 42, 44, 74, 80, 81, 82, 83, 84, 85, 86, 87, 88, 89, 90, 91, 92, 93, 94, 95] [] gq LL LLt103 N Nt103 → (((0 ≤ v3 ∧ v3 ≤ 4) ∧ Nt103 1 = N 1 ∧ Nt103 44 = 0 ∧ Nt103 5 = N 5 ∧ Nt103 3 ≤ N 3 + 2000000000 ∧ Nt103 14 = N 14 ∧ Nt103 74 ≤ 10000) ∧ gP τ103 th 5 = some J) → ((4 - v3).toNat) < fu103 → wl_X7_isRight_103 th Q X fu103 τ103 v2 v3 := by
          intro fu103
          induction fu103 with
          | zero => intro _ _ _ _ _ _ _ _ _ _ _ _ _ _ h9; omega
          | succ fu103 ih103 =>
            intro τ103 gqt103 cit103 LLt103 Nt103 nut103 v3 iτ103 fτ103 xτ103 giτ103 nu_τ103 hnτ103 hi103 hm103
            have geτ103 : GE (gD σ) gq ci gqt103 cit103 := geτ20.tr giτ103 (fun d hd => (fτ20.1 d hd).1)
            have gl16 := giτ103 J (kJ.up (xσ23.trans (xσ25.trans (xσ26.trans xτ20)))).1
            have gl17 := giτ103 vr (kvr.up (xσ23.trans (xσ25.trans (xσ26.trans xτ20)))).1
            have gl18 := giτ103 W (kW.up (xσ23.trans (xσ25.trans (xσ26.trans xτ20)))).1
            have nτ103_5 := hnτ103.2.2 5 (by first | decide | (simp; done) | (simp only [List.mem_cons, List.mem_nil_iff, or_false, not_or]; omega)) (by first | decide | omega) (by first | decide | omega) (by first | decide | omega)
            have nτ103_14 := hnτ103.2.2 14 (by first | decide | (simp; done) | (simp only [List.mem_cons, List.mem_nil_iff, or_false, not_or]; omega)) (by first | decide | omega) (by first | decide | omega) (by first | decide | omega)
            have nτ103_11 := hnτ103.2.2 11 (by first | decide | (simp; done) | (simp only [List.mem_cons, List.mem_nil_iff, or_false, not_or]; omega)) (by first | decide | omega) (by first | decide | omega) (by first | decide | omega)
            have nτ103_12 := hnτ103.2.2 12 (by first | decide | (simp; done) | (simp only [List.mem_cons, List.mem_nil_iff, or_false, not_or]; omega)) (by first | decide | omega) (by first | decide | omega) (by first | decide | omega)
            have nτ103_13 := hnτ103.2.2 13 (by first | decide | (simp; done) | (simp only [List.mem_cons, List.mem_nil_iff, or_false, not_or]; omega)) (by first | decide | omega) (by first | decide | omega) (by first | decide | omega)
            have uτ103_0 := nu_τ103.1 0 (by decide)
            have uτ103_1 := nu_τ103.1 1 (by decide)
            have uτ103_2 := nu_τ103.2
            have uτ103_5 := nu_τ103.1 5 (by decide)
            have uτ103_15 := nu_τ103.1 15 (by decide)
            have uτ103_16 := nu_τ103.1 16 (by decide)
            unfold wl_X7_isRight_103
            have kp19 : gP τ103 th 1 = gP σ th 1 := (fτ103.O kth (by decide)).2.1
            have kp20 : gI τ103 J 1 = gI τ20 J 1 := (fτ103.O kJ (by decide)).1.trans (fτ20.O kJ (by decide)).1.symm
            have jc103 := (iτ103.2.2.2.2.1.2.2.2.2 J (kJ.up (xσ23.trans (xσ25.trans (xσ26.trans (xτ20.trans xτ103))))) (by omega)).2.1
            unfold w_X7_isRight_103
            refine ⟨J, hi103.2, fun kk_J_1 => ?_⟩
            have q22 := I_4_2 iτ103.1 (kJ.up (xσ23.trans (xσ25.trans (xσ26.trans (xτ20.trans xτ103)))))
            by_cases hc21 : v3 ≥ gI τ103 J 2
            · rw [if_pos hc21]
              unfold w_X7_isRight_157
              exact hQ τ103 gqt103 cit103 LLt103 Nt103 nut103 1 iτ103 geτ103 fτ103 (nu_τ103.nx)  (by (first | omega | with_reducible assumption | with_reducible exact rng_toInt _ | with_reducible exact rng_wr _ | (unfold rng; omega) | (unfold rng at *; omega) | assumption))
            · rw [if_neg hc21]
              unfold w_X7_isRight_114
              refine ⟨J, hi103.2, fun kk_J_2 => ?_⟩
              refine i2_X4_outputOp iτ103 (kJ.up (xσ23.trans (xσ25.trans (xσ26.trans (xτ20.trans xτ103))))) (by (first | omega | with_reducible assumption | with_reducible exact rng_toInt _ | with_reducible exact rng_wr _ | (unfold rng; omega) | (unfold rng at *; omega) | assumption)) (by (first | omega | with_reducible assumption | with_reducible exact rng_toInt _ | with_reducible exact rng_wr _ | (unfold rng; omega) | (unfold rng at *; omega) | assumption)) (fun c_σ37 pσ37 => ?_)
              intro xσ37
              intro tyt
              have krc_σ37 : kO τ103 c_σ37 5 := tyt c_σ37 rfl
              have o7 := iτ103.op krc_σ37 pσ37.1 pσ37.2.1 7 (by decide)
              have ok7 := iτ103.opok pσ37.2.1
              have ok6 := pσ37.2.2
              have ok71 := ok7.2.2.2.1 (by omega)
              have ok72 := ok7.2.1
              refine ⟨c_σ37, rfl, fun kk_c_σ37 => ?_⟩
              obtain ⟨b, eb, fb⟩ := P_7_3 iτ103.1 (kth.up (xσ23.trans (xσ25.trans (xσ26.trans (xτ20.trans xτ103)))))
              have mb : kO τ103 b 111 := iτ103.1.kd (kth.up (xσ23.trans (xσ25.trans (xσ26.trans (xτ20.trans xτ103))))) rfl eb rfl
              refine ⟨b, eb, fun kk_b => ?_⟩
              have q23 := I_5_7 iτ103.1 krc_σ37
              refine ⟨⟨by (first | omega | with_reducible assumption | with_reducible exact rng_toInt _ | with_reducible exact rng_wr _ | (unfold rng; omega) | (unfold rng at *; omega) | assumption), by (first | omega | with_reducible assumption | with_reducible exact rng_toInt _ | with_reducible exact rng_wr _ | (unfold rng; omega) | (unfold rng at *; omega) | assumption)⟩, ?_⟩
              refine ⟨vr, hv2, fun kk_vr => ?_⟩
              have q24 := ((xσ23.trans (xσ25.trans (xσ26.trans (xτ20.trans xτ103)))) vr kvr.1).2.2
              refine ⟨⟨by (first | omega | with_reducible assumption | with_reducible exact rng_toInt _ | with_reducible exact rng_wr _ | (unfold rng; omega) | (unfold rng at *; omega) | assumption), by (first | omega | with_reducible assumption | with_reducible exact rng_toInt _ | with_reducible exact rng_wr _ | (unfold rng; omega) | (unfold rng at *; omega) | assumption)⟩, ?_⟩
              have q25 := I_5_3 iτ103.1 krc_σ37
              obtain ⟨b_1, eb_1⟩ := P_111 iτ103.1 mb (k := (gI τ103 c_σ37 7).toNat) (by (first | omega | with_reducible assumption | with_reducible exact rng_toInt _ | with_reducible exact rng_wr _ | (unfold rng; omega) | (unfold rng at *; omega) | assumption))
              have fb_1 := T_111 iτ103.1 mb eb_1
              have mb_1 : kO τ103 b_1 1 := iτ103.1.kd mb rfl eb_1 rfl
              obtain ⟨b_2, eb_2⟩ := P_111 iτ103.1 (kvr.up (xσ23.trans (xσ25.trans (xσ26.trans (xτ20.trans xτ103))))) (k := v3.toNat) (by (first | omega | with_reducible assumption | with_reducible exact rng_toInt _ | with_reducible exact rng_wr _ | (unfold rng; omega) | (unfold rng at *; omega) | assumption))
              have fb_2 := T_111 iτ103.1 (kvr.up (xσ23.trans (xσ25.trans (xσ26.trans (xτ20.trans xτ103))))) eb_2
              have mb_2 : kO τ103 b_2 1 := iτ103.1.kd (kvr.up (xσ23.trans (xσ25.trans (xσ26.trans (xτ20.trans xτ103))))) rfl eb_2 rfl
              refine i_X7_hasSameRows iτ103 (kth.up (xσ23.trans (xσ25.trans (xσ26.trans (xτ20.trans xτ103))))) eb_1 mb_1 eb_2 mb_2 (kp19.trans hw) (kW.up (xσ23.trans (xσ25.trans (xσ26.trans (xτ20.trans xτ103))))) (by (first | omega | with_reducible assumption | with_reducible exact rng_toInt _ | with_reducible exact rng_wr _ | (unfold rng; omega) | (unfold rng at *; omega) | assumption)) (by (first | omega | with_reducible assumption | with_reducible exact rng_toInt _ | with_reducible exact rng_wr _ | (unfold rng; omega) | (unfold rng at *; omega) | assumption)) (by (first | omega | with_reducible assumption | with_reducible exact rng_toInt _ | with_reducible exact rng_wr _ | (unfold rng; omega) | (unfold rng at *; omega) | assumption)) (by (first | omega | with_reducible assumption | with_reducible exact rng_toInt _ | with_reducible exact rng_wr _ | (unfold rng; omega) | (unfold rng at *; omega) | assumption)) (fun σ43 LLσ43 Nσ43 nuσ43 r44 iσ43 cσ43 uσ43 hσ43 pσ43 => ?_)
              intro xσ43
              have fσ43 : Fx [1, 2, 3, 4, 5, 6, 7, 64, 265, 266, 453, 454, 512, 513, 514, 645, 708, 709, 6464] gr σ σ43 := fτ103.tr (cσ43.mo (by decide))
              have hnσ43 : Hn (gD σ) [3, 41, 42, 44, 74, 80, 81, 82, 83, 84, 85, 86, 87, 88, 89, 90, 91, 92, 93, 94, 95] [] gq LL LLσ43 N Nσ43 := hnτ103.go (hσ43.ge (fun a ha => (geτ103 a ha).1) (fun d hd => (fτ103.1 d hd).1)) (fun _ hd => hd) (by first | decide | exact fun _ h => h | (simp; done) | (intro x hx; simp only [List.mem_cons, List.mem_nil_iff, or_false] at hx ⊢; omega)) (fun d hd => absurd hd (by simp))
              have nσ43_3 := hσ43.2.2 3 (by first | decide | (simp; done) | (simp only [List.mem_cons, List.mem_nil_iff, or_false, not_or]; omega)) (by first | decide | omega) (by first | decide | omega) (by first | decide | omega)
              have nσ43_5 := hσ43.2.2 5 (by first | decide | (simp; done) | (simp only [List.mem_cons, List.mem_nil_iff, or_false, not_or]; omega)) (by first | decide | omega) (by first | decide | omega) (by first | decide | omega)
              have nσ43_14 := hσ43.2.2 14 (by first | decide | (simp; done) | (simp only [List.mem_cons, List.mem_nil_iff, or_false, not_or]; omega)) (by first | decide | omega) (by first | decide | omega) (by first | decide | omega)
              have nσ43_41 := hσ43.2.2 41 (by first | decide | (simp; done) | (simp only [List.mem_cons, List.mem_nil_iff, or_false, not_or]; omega)) (by first | decide | omega) (by first | decide | omega) (by first | decide | omega)
              have nσ43_42 := hσ43.2.2 42 (by first | decide | (simp; done) | (simp only [List.mem_cons, List.mem_nil_iff, or_false, not_or]; omega)) (by first | decide | omega) (by first | decide | omega) (by first | decide | omega)
              have nσ43_11 := hσ43.2.2 11 (by first | decide | (simp; done) | (simp only [List.mem_cons, List.mem_nil_iff, or_false, not_or]; omega)) (by first | decide | omega) (by first | decide | omega) (by first | decide | omega)
              have nσ43_12 := hσ43.2.2 12 (by first | decide | (simp; done) | (simp only [List.mem_cons, List.mem_nil_iff, or_false, not_or]; omega)) (by first | decide | omega) (by first | decide | omega) (by first | decide | omega)
              have nσ43_13 := hσ43.2.2 13 (by first | decide | (simp; done) | (simp only [List.mem_cons, List.mem_nil_iff, or_false, not_or]; omega)) (by first | decide | omega) (by first | decide | omega) (by first | decide | omega)
              have nu_σ43 : NU nu nuσ43 := nu_τ103.tr uσ43
              have uσ43_0 := uσ43.1 0 (by decide)
              have uσ43_1 := uσ43.1 1 (by decide)
              have uσ43_2 := uσ43.2
              have uσ43_5 := uσ43.1 5 (by decide)
              have uσ43_15 := uσ43.1 15 (by decide)
              have uσ43_16 := uσ43.1 16 (by decide)
              have kp26 : gI σ43 J 1 = gI τ103 J 1 := (cσ43.O (kJ.up (xσ23.trans (xσ25.trans (xσ26.trans (xτ20.trans xτ103))))) (by decide)).1
              have kp27 : gI σ43 J 2 = gI τ103 J 2 := (cσ43.O (kJ.up (xσ23.trans (xσ25.trans (xσ26.trans (xτ20.trans xτ103))))) (by decide)).1
              have kp28 : gI σ43 c_σ37 3 = gI τ103 c_σ37 3 := (cσ43.O krc_σ37 (by decide)).1
              have kp29 : gI σ43 c_σ37 7 = gI τ103 c_σ37 7 := (cσ43.O krc_σ37 (by decide)).1
              have kp30 : gP σ43 b (gI τ103 c_σ37 7).toNat = gP τ103 b (gI τ103 c_σ37 7).toNat := (cσ43.A mb (by decide)).2.1
              have kp31 : gP σ43 th 1 = gP τ103 th 1 := (cσ43.O (kth.up (xσ23.trans (xσ25.trans (xσ26.trans (xτ20.trans xτ103))))) (by decide)).2.1
              have kp32 : gP σ43 th 3 = gP τ103 th 3 := (cσ43.O (kth.up (xσ23.trans (xσ25.trans (xσ26.trans (xτ20.trans xτ103))))) (by decide)).2.1
              have kp33 : gP σ43 th 5 = gP τ103 th 5 := (cσ43.O (kth.up (xσ23.trans (xσ25.trans (xσ26.trans (xτ20.trans xτ103))))) (by decide)).2.1
              have kp34 : gP σ43 vr v3.toNat = gP τ103 vr v3.toNat := (cσ43.A (kvr.up (xσ23.trans (xσ25.trans (xσ26.trans (xτ20.trans xτ103))))) (by decide)).2.1
              by_cases hc35 : r44 ≠ 0
              · rw [if_pos hc35]
                unfold w_X7_isRight_151
                refine ⟨by (first | omega | with_reducible assumption | with_reducible exact rng_toInt _ | with_reducible exact rng_wr _ | (unfold rng; omega) | (unfold rng at *; omega) | assumption), ?_⟩
                exact ih103 σ43 gqt103 cit103 LLσ43 Nσ43 nuσ43 (v3 + 1) iσ43 fσ43 (xτ103.trans xσ43) ((GE.rf).tr giτ103 (fun d hd => ((Ext.rfl' _) d hd).1)) nu_σ43 hnσ43 (⟨by omega, (kp33.trans hi103.2)⟩) (by (first | omega | with_reducible assumption | with_reducible exact rng_toInt _ | with_reducible exact rng_wr _ | (unfold rng; omega) | (unfold rng at *; omega) | assumption))
              · rw [if_neg hc35]
                have hc35q := Classical.not_not.mp hc35
                unfold w_X7_isRight_149
                exact hQ σ43 gqt103 cit103 LLσ43 Nσ43 nuσ43 0 iσ43 geτ103 fσ43 (nu_σ43.nx)  (by (first | omega | with_reducible assumption | with_reducible exact rng_toInt _ | with_reducible exact rng_wr _ | (unfold rng; omega) | (unfold rng at *; omega) | assumption))
        exact ⟨_, Lp103 _ τ20 gqt20 cit20 LLt20 Nt20 nut20 _ iτ20 fτ20 (Ext.rfl' _) GE.rf nu_τ20 hnτ20 (⟨by omega, hi20.2.1⟩) (Nat.lt_succ_self _)⟩
      · rw [if_neg hc14]
        unfold w_X7_isRight_31
        refine ⟨J, hi20.2.1, fun kk_J_3 => ?_⟩
        obtain ⟨b_3, eb_3, fb_3⟩ := P_4_0 iτ20.1 (kJ.up (xσ23.trans (xσ25.trans (xσ26.trans xτ20))))
        have mb_3 : kO τ20 b_3 115 := iτ20.1.kd (kJ.up (xσ23.trans (xσ25.trans (xσ26.trans xτ20)))) rfl eb_3 rfl
        refine ⟨b_3, eb_3, fun kk_b_3 => ?_⟩
        refine ⟨⟨by (first | omega | with_reducible assumption | with_reducible exact rng_toInt _ | with_reducible exact rng_wr _ | (unfold rng; omega) | (unfold rng at *; omega) | assumption), by (first | omega | with_reducible assumption | with_reducible exact rng_toInt _ | with_reducible exact rng_wr _ | (unfold rng; omega) | (unfold rng at *; omega) | assumption)⟩, ?_⟩
        obtain ⟨b_4, eb_4⟩ := P_115 iτ20.1 mb_3 (k := v3.toNat) (by (first | omega | with_reducible assumption | with_reducible exact rng_toInt _ | with_reducible exact rng_wr _ | (unfold rng; omega) | (unfold rng at *; omega) | assumption))
        have fb_4 := T_115 iτ20.1 mb_3 eb_4
        have mb_4 : kO τ20 b_4 5 := iτ20.1.kd mb_3 rfl eb_4 rfl
        refine ⟨b_4, eb_4, fun kk_b_4 => ?_⟩
        have o7 := iτ20.op mb_4 (i := v3.toNat) (by omega) (by omega) 7 (by decide)
        have q36 := I_5_7 iτ20.1 mb_4
        refine i_X7_acceptAll (i := v3.toNat) iτ20 (kth.up (xσ23.trans (xσ25.trans (xσ26.trans xτ20)))) eb_4 mb_4 hi20.2.1 (kp13.trans hw) (kW.up (xσ23.trans (xσ25.trans (xσ26.trans xτ20)))) hi20.2.2 (kJ.up (xσ23.trans (xσ25.trans (xσ26.trans xτ20)))) (by (first | omega | with_reducible assumption | with_reducible exact rng_toInt _ | with_reducible exact rng_wr _ | (unfold rng; omega) | (unfold rng at *; omega) | assumption)) (by (first | omega | with_reducible assumption | with_reducible exact rng_toInt _ | with_reducible exact rng_wr _ | (unfold rng; omega) | (unfold rng at *; omega) | assumption)) (by (first | omega | with_reducible assumption | with_reducible exact rng_toInt _ | with_reducible exact rng_wr _ | (unfold rng; omega) | (unfold rng at *; omega) | assumption)) (by (first | omega | with_reducible assumption | with_reducible exact rng_toInt _ | with_reducible exact rng_wr _ | (unfold rng; omega) | (unfold rng at *; omega) | assumption)) (by (first | omega | with_reducible assumption | with_reducible exact rng_toInt _ | with_reducible exact rng_wr _ | (unfold rng; omega) | (unfold rng at *; omega) | assumption)) (by (first | omega | with_reducible assumption | with_reducible exact rng_toInt _ | with_reducible exact rng_wr _ | (unfold rng; omega) | (unfold rng at *; omega) | assumption)) (by (first | omega | with_reducible assumption | with_reducible exact rng_toInt _ | with_reducible exact rng_wr _ | (unfold rng; omega) | (unfold rng at *; omega) | assumption)) (by (first | omega | with_reducible assumption | with_reducible exact rng_toInt _ | with_reducible exact rng_wr _ | (unfold rng; omega) | (unfold rng at *; omega) | assumption)) (fun σ31 LLσ31 Nσ31 nuσ31 _ iσ31 cσ31 uσ31 hσ31 pσ31 => ?_) ?_
        · skip
          intro xσ31
          have fσ31 : Fx [1, 2, 3, 4, 5, 6, 7, 64, 265, 266, 453, 454, 512, 513, 514, 645, 708, 709, 6464] gr σ σ31 := fτ20.tr (cσ31.mo (by decide))
          have hnσ31 : Hn (gD σ) [3, 41, 42, 44, 74, 80, 81, 82, 83, 84, 85, 86, 87, 88, 89, 90, 91, 92, 93, 94, 95] [] gq LL LLσ31 N Nσ31 := hnτ20.go (hσ31.ge (fun a ha => (geτ20 a ha).1) (fun d hd => (fτ20.1 d hd).1)) (fun _ hd => hd) (by first | decide | exact fun _ h => h | (simp; done) | (intro x hx; simp only [List.mem_cons, List.mem_nil_iff, or_false] at hx ⊢; omega)) (fun d hd => absurd hd (by simp))
          have nσ31_5 := hσ31.2.2 5 (by first | decide | (simp; done) | (simp only [List.mem_cons, List.mem_nil_iff, or_false, not_or]; omega)) (by first | decide | omega) (by first | decide | omega) (by first | decide | omega)
          have nσ31_14 := hσ31.2.2 14 (by first | decide | (simp; done) | (simp only [List.mem_cons, List.mem_nil_iff, or_false, not_or]; omega)) (by first | decide | omega) (by first | decide | omega) (by first | decide | omega)
          have nσ31_74 := hσ31.2.2 74 (by first | decide | (simp; done) | (simp only [List.mem_cons, List.mem_nil_iff, or_false, not_or]; omega)) (by first | decide | omega) (by first | decide | omega) (by first | decide | omega)
          have nσ31_11 := hσ31.2.2 11 (by first | decide | (simp; done) | (simp only [List.mem_cons, List.mem_nil_iff, or_false, not_or]; omega)) (by first | decide | omega) (by first | decide | omega) (by first | decide | omega)
          have nσ31_12 := hσ31.2.2 12 (by first | decide | (simp; done) | (simp only [List.mem_cons, List.mem_nil_iff, or_false, not_or]; omega)) (by first | decide | omega) (by first | decide | omega) (by first | decide | omega)
          have nσ31_13 := hσ31.2.2 13 (by first | decide | (simp; done) | (simp only [List.mem_cons, List.mem_nil_iff, or_false, not_or]; omega)) (by first | decide | omega) (by first | decide | omega) (by first | decide | omega)
          have nu_σ31 : NU nu nuσ31 := nu_τ20.tr uσ31
          have uσ31_0 := uσ31.1 0 (by decide)
          have uσ31_1 := uσ31.1 1 (by decide)
          have uσ31_2 := uσ31.2
          have uσ31_5 := uσ31.1 5 (by decide)
          have uσ31_15 := uσ31.1 15 (by decide)
          have uσ31_16 := uσ31.1 16 (by decide)
          have kp37 : gI σ31 J 1 = gI τ20 J 1 := (cσ31.O (kJ.up (xσ23.trans (xσ25.trans (xσ26.trans xτ20)))) (by decide)).1
          have kp38 : gI σ31 b_4 7 = gI τ20 b_4 7 := (cσ31.O mb_4 (by decide)).1
          have kp39 : gP σ31 J 0 = gP τ20 J 0 := (cσ31.O (kJ.up (xσ23.trans (xσ25.trans (xσ26.trans xτ20)))) (by decide)).2.1
          have kp40 : gP σ31 W 5 = gP τ20 W 5 := (cσ31.O (kW.up (xσ23.trans (xσ25.trans (xσ26.trans xτ20)))) (by decide)).2.1
          have kp41 : gP σ31 b_3 v3.toNat = gP τ20 b_3 v3.toNat := (cσ31.A mb_3 (by decide)).2.1
          have kp42 : gP σ31 th 1 = gP τ20 th 1 := (cσ31.O (kth.up (xσ23.trans (xσ25.trans (xσ26.trans xτ20)))) (by decide)).2.1
          have kp43 : gP σ31 th 5 = gP τ20 th 5 := (cσ31.O (kth.up (xσ23.trans (xσ25.trans (xσ26.trans xτ20)))) (by decide)).2.1
          have o8 := iσ31.op (mb_4.up xσ31) (i := v3.toNat) (by omega) (by omega) 8 (by decide)
          have q44 := I_5_8 iσ31.1 (mb_4.up xσ31)
          refine i_X7_acceptAll (i := v3.toNat) iσ31 (kth.up (xσ23.trans (xσ25.trans (xσ26.trans (xτ20.trans xσ31))))) eb_4 (mb_4.up xσ31) (kp43.trans hi20.2.1) (kp42.trans (kp13.trans hw)) (kW.up (xσ23.trans (xσ25.trans (xσ26.trans (xτ20.trans xσ31))))) (kp40.trans hi20.2.2) (kJ.up (xσ23.trans (xσ25.trans (xσ26.trans (xτ20.trans xσ31))))) (by (first | omega | with_reducible assumption | with_reducible exact rng_toInt _ | with_reducible exact rng_wr _ | (unfold rng; omega) | (unfold rng at *; omega) | assumption)) (by (first | omega | with_reducible assumption | with_reducible exact rng_toInt _ | with_reducible exact rng_wr _ | (unfold rng; omega) | (unfold rng at *; omega) | assumption)) (by (first | omega | with_reducible assumption | with_reducible exact rng_toInt _ | with_reducible exact rng_wr _ | (unfold rng; omega) | (unfold rng at *; omega) | assumption)) (by (first | omega | with_reducible assumption | with_reducible exact rng_toInt _ | with_reducible exact rng_wr _ | (unfold rng; omega) | (unfold rng at *; omega) | assumption)) (by (first | omega | with_reducible assumption | with_reducible exact rng_toInt _ | with_reducible exact rng_wr _ | (unfold rng; omega) | (unfold rng at *; omega) | assumption)) (by (first | omega | with_reducible assumption | with_reducible exact rng_toInt _ | with_reducible exact rng_wr _ | (unfold rng; omega) | (unfold rng at *; omega) | assumption)) (by (first | omega | with_reducible assumption | with_reducible exact rng_toInt _ | with_reducible exact rng_wr _ | (unfold rng; omega) | (unfold rng at *; omega) | assumption)) (by (first | omega | with_reducible assumption | with_reducible exact rng_toInt _ | with_reducible exact rng_wr _ | (unfold rng; omega) | (unfold rng at *; omega) | assumption)) (fun σ32 LLσ32 Nσ32 nuσ32 _ iσ32 cσ32 uσ32 hσ32 pσ32 => ?_) ?_
          · skip
            intro xσ32
            have fσ32 : Fx [1, 2, 3, 4, 5, 6, 7, 64, 265, 266, 453, 454, 512, 513, 514, 645, 708, 709, 6464] gr σ σ32 := fσ31.tr (cσ32.mo (by decide))
            have hnσ32 : Hn (gD σ) [3, 41, 42, 44, 74, 80, 81, 82, 83, 84, 85, 86, 87, 88, 89, 90, 91, 92, 93, 94, 95] [] gq LL LLσ32 N Nσ32 := hnσ31.go (hσ32.ge (fun a ha => (geτ20 a ha).1) (fun d hd => (fσ31.1 d hd).1)) (fun _ hd => hd) (by first | decide | exact fun _ h => h | (simp; done) | (intro x hx; simp only [List.mem_cons, List.mem_nil_iff, or_false] at hx ⊢; omega)) (fun d hd => absurd hd (by simp))
            have nσ32_5 := hσ32.2.2 5 (by first | decide | (simp; done) | (simp only [List.mem_cons, List.mem_nil_iff, or_false, not_or]; omega)) (by first | decide | omega) (by first | decide | omega) (by first | decide | omega)
            have nσ32_14 := hσ32.2.2 14 (by first | decide | (simp; done) | (simp only [List.mem_cons, List.mem_nil_iff, or_false, not_or]; omega)) (by first | decide | omega) (by first | decide | omega) (by first | decide | omega)
            have nσ32_74 := hσ32.2.2 74 (by first | decide | (simp; done) | (simp only [List.mem_cons, List.mem_nil_iff, or_false, not_or]; omega)) (by first | decide | omega) (by first | decide | omega) (by first | decide | omega)
            have nσ32_11 := hσ32.2.2 11 (by first | decide | (simp; done) | (simp only [List.mem_cons, List.mem_nil_iff, or_false, not_or]; omega)) (by first | decide | omega) (by first | decide | omega) (by first | decide | omega)
            have nσ32_12 := hσ32.2.2 12 (by first | decide | (simp; done) | (simp only [List.mem_cons, List.mem_nil_iff, or_false, not_or]; omega)) (by first | decide | omega) (by first | decide | omega) (by first | decide | omega)
            have nσ32_13 := hσ32.2.2 13 (by first | decide | (simp; done) | (simp only [List.mem_cons, List.mem_nil_iff, or_false, not_or]; omega)) (by first | decide | omega) (by first | decide | omega) (by first | decide | omega)
            have nu_σ32 : NU nu nuσ32 := nu_σ31.tr uσ32
            have uσ32_0 := uσ32.1 0 (by decide)
            have uσ32_1 := uσ32.1 1 (by decide)
            have uσ32_2 := uσ32.2
            have uσ32_5 := uσ32.1 5 (by decide)
            have uσ32_15 := uσ32.1 15 (by decide)
            have uσ32_16 := uσ32.1 16 (by decide)
            have kp45 : gI σ32 J 1 = gI σ31 J 1 := (cσ32.O (kJ.up (xσ23.trans (xσ25.trans (xσ26.trans (xτ20.trans xσ31))))) (by decide)).1
            have kp46 : gI σ32 b_4 7 = gI σ31 b_4 7 := (cσ32.O (mb_4.up xσ31) (by decide)).1
            have kp47 : gI σ32 b_4 8 = gI σ31 b_4 8 := (cσ32.O (mb_4.up xσ31) (by decide)).1
            have kp48 : gP σ32 J 0 = gP σ31 J 0 := (cσ32.O (kJ.up (xσ23.trans (xσ25.trans (xσ26.trans (xτ20.trans xσ31))))) (by decide)).2.1
            have kp49 : gP σ32 W 5 = gP σ31 W 5 := (cσ32.O (kW.up (xσ23.trans (xσ25.trans (xσ26.trans (xτ20.trans xσ31))))) (by decide)).2.1
            have kp50 : gP σ32 b_3 v3.toNat = gP σ31 b_3 v3.toNat := (cσ32.A (mb_3.up xσ31) (by decide)).2.1
            have kp51 : gP σ32 th 1 = gP σ31 th 1 := (cσ32.O (kth.up (xσ23.trans (xσ25.trans (xσ26.trans (xτ20.trans xσ31))))) (by decide)).2.1
            have kp52 : gP σ32 th 5 = gP σ31 th 5 := (cσ32.O (kth.up (xσ23.trans (xσ25.trans (xσ26.trans (xτ20.trans xσ31))))) (by decide)).2.1
            refine ⟨W, (kp51.trans (kp42.trans (kp13.trans hw))), fun kk_W_1 => ?_⟩
            obtain ⟨b_5, eb_5, fb_5⟩ := P_7_2 iσ32.1 (kth.up (xσ23.trans (xσ25.trans (xσ26.trans (xτ20.trans (xσ31.trans xσ32))))))
            have mb_5 : kO σ32 b_5 10 := iσ32.1.kd (kth.up (xσ23.trans (xσ25.trans (xσ26.trans (xτ20.trans (xσ31.trans xσ32)))))) rfl eb_5 rfl
            refine i4_X11_advance (i := v3.toNat) iσ32 (kW.up (xσ23.trans (xσ25.trans (xσ26.trans (xτ20.trans (xσ31.trans xσ32)))))) eb_4 (mb_4.up (xσ31.trans xσ32)) eb_5 mb_5 (by (first | omega | with_reducible assumption | with_reducible exact rng_toInt _ | with_reducible exact rng_wr _ | (unfold rng; omega) | (unfold rng at *; omega) | assumption)) (kp49.trans (kp40.trans hi20.2.2)) (kJ.up (xσ23.trans (xσ25.trans (xσ26.trans (xτ20.trans (xσ31.trans xσ32)))))) (by (first | omega | with_reducible assumption | with_reducible exact rng_toInt _ | with_reducible exact rng_wr _ | (unfold rng; omega) | (unfold rng at *; omega) | assumption)) (by (first | omega | with_reducible assumption | with_reducible exact rng_toInt _ | with_reducible exact rng_wr _ | (unfold rng; omega) | (unfold rng at *; omega) | assumption)) (by (first | omega | with_reducible assumption | with_reducible exact rng_toInt _ | with_reducible exact rng_wr _ | (unfold rng; omega) | (unfold rng at *; omega) | assumption)) (by (first | omega | with_reducible assumption | with_reducible exact rng_toInt _ | with_reducible exact rng_wr _ | (unfold rng; omega) | (unfold rng at *; omega) | assumption)) (by (first | omega | with_reducible assumption | with_reducible exact rng_toInt _ | with_reducible exact rng_wr _ | (unfold rng; omega) | (unfold rng at *; omega) | assumption)) (by (first | omega | with_reducible assumption | with_reducible exact rng_toInt _ | with_reducible exact rng_wr _ | (unfold rng; omega) | (unfold rng at *; omega) | assumption)) (by (first | omega | with_reducible assumption | with_reducible exact rng_toInt _ | with_reducible exact rng_wr _ | (unfold rng; omega) | (unfold rng at *; omega) | assumption)) (by (first | omega | with_reducible assumption | with_reducible exact rng_toInt _ | with_reducible exact rng_wr _ | (unfold rng; omega) | (unfold rng at *; omega) | assumption)) (fun σ33 LLσ33 Nσ33 nuσ33 _ iσ33 cσ33 uσ33 hσ33 pσ33 => ?_) ?_
            · skip
              intro xσ33
              have fσ33 : Fx [1, 2, 3, 4, 5, 6, 7, 64, 265, 266, 453, 454, 512, 513, 514, 645, 708, 709, 6464] gr σ σ33 := fσ32.tr (cσ33.mo (by decide))
              have hnσ33 : Hn (gD σ) [3, 41, 42, 44, 74, 80, 81, 82, 83, 84, 85, 86, 87, 88, 89, 90, 91, 92, 93, 94, 95] [] gq LL LLσ33 N Nσ33 := hnσ32.go (hσ33.ge (fun a ha => (geτ20 a ha).1) (fun d hd => (fσ32.1 d hd).1)) (fun _ hd => hd) (by first | decide | exact fun _ h => h | (simp; done) | (intro x hx; simp only [List.mem_cons, List.mem_nil_iff, or_false] at hx ⊢; omega)) (fun d hd => absurd hd (by simp))
              have nσ33_5 := hσ33.2.2 5 (by first | decide | (simp; done) | (simp only [List.mem_cons, List.mem_nil_iff, or_false, not_or]; omega)) (by first | decide | omega) (by first | decide | omega) (by first | decide | omega)
              have nσ33_14 := hσ33.2.2 14 (by first | decide | (simp; done) | (simp only [List.mem_cons, List.mem_nil_iff, or_false, not_or]; omega)) (by first | decide | omega) (by first | decide | omega) (by first | decide | omega)
              have nσ33_74 := hσ33.2.2 74 (by first | decide | (simp; done) | (simp only [List.mem_cons, List.mem_nil_iff, or_false, not_or]; omega)) (by first | decide | omega) (by first | decide | omega) (by first | decide | omega)
              have nσ33_11 := hσ33.2.2 11 (by first | decide | (simp; done) | (simp only [List.mem_cons, List.mem_nil_iff, or_false, not_or]; omega)) (by first | decide | omega) (by first | decide | omega) (by first | decide | omega)
              have nσ33_12 := hσ33.2.2 12 (by first | decide | (simp; done) | (simp only [List.mem_cons, List.mem_nil_iff, or_false, not_or]; omega)) (by first | decide | omega) (by first | decide | omega) (by first | decide | omega)
              have nσ33_13 := hσ33.2.2 13 (by first | decide | (simp; done) | (simp only [List.mem_cons, List.mem_nil_iff, or_false, not_or]; omega)) (by first | decide | omega) (by first | decide | omega) (by first | decide | omega)
              have nu_σ33 : NU nu nuσ33 := nu_σ32.tr uσ33
              have uσ33_0 := uσ33.1 0 (by decide)
              have uσ33_1 := uσ33.1 1 (by decide)
              have uσ33_2 := uσ33.2
              have uσ33_5 := uσ33.1 5 (by decide)
              have uσ33_15 := uσ33.1 15 (by decide)
              have uσ33_16 := uσ33.1 16 (by decide)
              have kp53 : gI σ33 J 1 = gI σ32 J 1 := (cσ33.O (kJ.up (xσ23.trans (xσ25.trans (xσ26.trans (xτ20.trans (xσ31.trans xσ32)))))) (by decide)).1
              have kp54 : gI σ33 b_4 7 = gI σ32 b_4 7 := (cσ33.O (mb_4.up (xσ31.trans xσ32)) (by decide)).1
              have kp55 : gI σ33 b_4 8 = gI σ32 b_4 8 := (cσ33.O (mb_4.up (xσ31.trans xσ32)) (by decide)).1
              have kp56 : gP σ33 J 0 = gP σ32 J 0 := (cσ33.O (kJ.up (xσ23.trans (xσ25.trans (xσ26.trans (xτ20.trans (xσ31.trans xσ32)))))) (by decide)).2.1
              have kp57 : gP σ33 W 5 = gP σ32 W 5 := (cσ33.O (kW.up (xσ23.trans (xσ25.trans (xσ26.trans (xτ20.trans (xσ31.trans xσ32)))))) (by decide)).2.1
              have kp58 : gP σ33 b_3 v3.toNat = gP σ32 b_3 v3.toNat := (cσ33.A (mb_3.up (xσ31.trans xσ32)) (by decide)).2.1
              have kp59 : gP σ33 th 1 = gP σ32 th 1 := (cσ33.O (kth.up (xσ23.trans (xσ25.trans (xσ26.trans (xτ20.trans (xσ31.trans xσ32)))))) (by decide)).2.1
              have kp60 : gP σ33 th 2 = gP σ32 th 2 := (cσ33.O (kth.up (xσ23.trans (xσ25.trans (xσ26.trans (xτ20.trans (xσ31.trans xσ32)))))) (by decide)).2.1
              have kp61 : gP σ33 th 5 = gP σ32 th 5 := (cσ33.O (kth.up (xσ23.trans (xσ25.trans (xσ26.trans (xτ20.trans (xσ31.trans xσ32)))))) (by decide)).2.1
              refine i_X7_keepMade (i := v3.toNat) iσ33 (kth.up (xσ23.trans (xσ25.trans (xσ26.trans (xτ20.trans (xσ31.trans (xσ32.trans xσ33))))))) eb_4 (mb_4.up (xσ31.trans (xσ32.trans xσ33))) (kp61.trans (kp52.trans (kp43.trans hi20.2.1))) (kp59.trans (kp51.trans (kp42.trans (kp13.trans hw)))) (kW.up (xσ23.trans (xσ25.trans (xσ26.trans (xτ20.trans (xσ31.trans (xσ32.trans xσ33))))))) (kp57.trans (kp49.trans (kp40.trans hi20.2.2))) (kJ.up (xσ23.trans (xσ25.trans (xσ26.trans (xτ20.trans (xσ31.trans (xσ32.trans xσ33))))))) (by (first | omega | with_reducible assumption | with_reducible exact rng_toInt _ | with_reducible exact rng_wr _ | (unfold rng; omega) | (unfold rng at *; omega) | assumption)) (by (first | omega | with_reducible assumption | with_reducible exact rng_toInt _ | with_reducible exact rng_wr _ | (unfold rng; omega) | (unfold rng at *; omega) | assumption)) (by (first | omega | with_reducible assumption | with_reducible exact rng_toInt _ | with_reducible exact rng_wr _ | (unfold rng; omega) | (unfold rng at *; omega) | assumption)) (by (first | omega | with_reducible assumption | with_reducible exact rng_toInt _ | with_reducible exact rng_wr _ | (unfold rng; omega) | (unfold rng at *; omega) | assumption)) (by (first | omega | with_reducible assumption | with_reducible exact rng_toInt _ | with_reducible exact rng_wr _ | (unfold rng; omega) | (unfold rng at *; omega) | assumption)) (by (first | omega | with_reducible assumption | with_reducible exact rng_toInt _ | with_reducible exact rng_wr _ | (unfold rng; omega) | (unfold rng at *; omega) | assumption)) (fun σ35 LLσ35 Nσ35 nuσ35 _ iσ35 cσ35 uσ35 hσ35 pσ35 => ?_) ?_
              · skip
                intro xσ35
                have fσ35 : Fx [1, 2, 3, 4, 5, 6, 7, 64, 265, 266, 453, 454, 512, 513, 514, 645, 708, 709, 6464] gr σ σ35 := fσ33.tr (cσ35.mo (by decide))
                have hnσ35 : Hn (gD σ) [3, 41, 42, 44, 74, 80, 81, 82, 83, 84, 85, 86, 87, 88, 89, 90, 91, 92, 93, 94, 95] [] gq LL LLσ35 N Nσ35 := hnσ33.go (hσ35.ge (fun a ha => (geτ20 a ha).1) (fun d hd => (fσ33.1 d hd).1)) (fun _ hd => hd) (by first | decide | exact fun _ h => h | (simp; done) | (intro x hx; simp only [List.mem_cons, List.mem_nil_iff, or_false] at hx ⊢; omega)) (fun d hd => absurd hd (by simp))
                have nσ35_3 := hσ35.2.2 3 (by first | decide | (simp; done) | (simp only [List.mem_cons, List.mem_nil_iff, or_false, not_or]; omega)) (by first | decide | omega) (by first | decide | omega) (by first | decide | omega)
                have nσ35_5 := hσ35.2.2 5 (by first | decide | (simp; done) | (simp only [List.mem_cons, List.mem_nil_iff, or_false, not_or]; omega)) (by first | decide | omega) (by first | decide | omega) (by first | decide | omega)
                have nσ35_14 := hσ35.2.2 14 (by first | decide | (simp; done) | (simp only [List.mem_cons, List.mem_nil_iff, or_false, not_or]; omega)) (by first | decide | omega) (by first | decide | omega) (by first | decide | omega)
                have nσ35_74 := hσ35.2.2 74 (by first | decide | (simp; done) | (simp only [List.mem_cons, List.mem_nil_iff, or_false, not_or]; omega)) (by first | decide | omega) (by first | decide | omega) (by first | decide | omega)
                have nσ35_11 := hσ35.2.2 11 (by first | decide | (simp; done) | (simp only [List.mem_cons, List.mem_nil_iff, or_false, not_or]; omega)) (by first | decide | omega) (by first | decide | omega) (by first | decide | omega)
                have nσ35_12 := hσ35.2.2 12 (by first | decide | (simp; done) | (simp only [List.mem_cons, List.mem_nil_iff, or_false, not_or]; omega)) (by first | decide | omega) (by first | decide | omega) (by first | decide | omega)
                have nσ35_13 := hσ35.2.2 13 (by first | decide | (simp; done) | (simp only [List.mem_cons, List.mem_nil_iff, or_false, not_or]; omega)) (by first | decide | omega) (by first | decide | omega) (by first | decide | omega)
                have nu_σ35 : NU nu nuσ35 := nu_σ33.tr uσ35
                have uσ35_0 := uσ35.1 0 (by decide)
                have uσ35_1 := uσ35.1 1 (by decide)
                have uσ35_2 := uσ35.2
                have uσ35_5 := uσ35.1 5 (by decide)
                have uσ35_15 := uσ35.1 15 (by decide)
                have uσ35_16 := uσ35.1 16 (by decide)
                have kp62 : gI σ35 J 1 = gI σ33 J 1 := (cσ35.O (kJ.up (xσ23.trans (xσ25.trans (xσ26.trans (xτ20.trans (xσ31.trans (xσ32.trans xσ33))))))) (by decide)).1
                have kp63 : gI σ35 b_4 7 = gI σ33 b_4 7 := (cσ35.O (mb_4.up (xσ31.trans (xσ32.trans xσ33))) (by decide)).1
                have kp64 : gI σ35 b_4 8 = gI σ33 b_4 8 := (cσ35.O (mb_4.up (xσ31.trans (xσ32.trans xσ33))) (by decide)).1
                have kp65 : gP σ35 J 0 = gP σ33 J 0 := (cσ35.O (kJ.up (xσ23.trans (xσ25.trans (xσ26.trans (xτ20.trans (xσ31.trans (xσ32.trans xσ33))))))) (by decide)).2.1
                have kp66 : gP σ35 W 5 = gP σ33 W 5 := (cσ35.O (kW.up (xσ23.trans (xσ25.trans (xσ26.trans (xτ20.trans (xσ31.trans (xσ32.trans xσ33))))))) (by decide)).2.1
                have kp67 : gP σ35 b_3 v3.toNat = gP σ33 b_3 v3.toNat := (cσ35.A (mb_3.up (xσ31.trans (xσ32.trans xσ33))) (by decide)).2.1
                have kp68 : gP σ35 th 1 = gP σ33 th 1 := (cσ35.O (kth.up (xσ23.trans (xσ25.trans (xσ26.trans (xτ20.trans (xσ31.trans (xσ32.trans xσ33))))))) (by decide)).2.1
                have kp69 : gP σ35 th 2 = gP σ33 th 2 := (cσ35.O (kth.up (xσ23.trans (xσ25.trans (xσ26.trans (xτ20.trans (xσ31.trans (xσ32.trans xσ33))))))) (by decide)).2.1
                have kp70 : gP σ35 th 5 = gP σ33 th 5 := (cσ35.O (kth.up (xσ23.trans (xσ25.trans (xσ26.trans (xτ20.trans (xσ31.trans (xσ32.trans xσ33))))))) (by decide)).2.1
                refine ⟨by (first | omega | with_reducible assumption | with_reducible exact rng_toInt _ | with_reducible exact rng_wr _ | (unfold rng; omega) | (unfold rng at *; omega) | assumption), ?_⟩
                exact ih20 σ35 gqt20 cit20 LLσ35 Nσ35 nuσ35 (v3 + 1) iσ35 fσ35 (xτ20.trans (xσ31.trans (xσ32.trans (xσ33.trans xσ35)))) ((GE.rf).tr giτ20 (fun d hd => ((Ext.rfl' _) d hd).1)) nu_σ35 hnσ35 (⟨by omega, (kp70.trans (kp61.trans (kp52.trans (kp43.trans hi20.2.1)))), (kp66.trans (kp57.trans (kp49.trans (kp40.trans hi20.2.2))))⟩) (by (first | omega | with_reducible assumption | with_reducible exact rng_toInt _ | with_reducible exact rng_wr _ | (unfold rng; omega) | (unfold rng at *; omega) | assumption))
              · intro σx LLσx Nσx nuσx Eσx iσx cσx uσx pσx xσx
                unfold wx_X7_isRight_98
                refine ⟨by first | exact pσx | exact pσx.1 | exact pσx.2 | exact pσx.2.2.1 | exact pσx.2.2 | (first | omega | with_reducible assumption | with_reducible exact rng_toInt _ | with_reducible exact rng_wr _ | (unfold rng; omega) | (unfold rng at *; omega) | assumption), fun u0 => ?_⟩
                have hnuσx : NX nu nuσx := nu_σ33.x uσx
                have ux2σx := hnuσx.2.1
                have ux5σx := hnuσx.2.2
                have ux15σx := hnuσx.1 15 (by decide)
                have ux16σx := hnuσx.1 16 (by decide)
                have fσx : Fx [1, 2, 3, 4, 5, 6, 7, 64, 265, 266, 453, 454, 512, 513, 514, 645, 708, 709, 6464] gr σ σx := fσ33.tr (cσx.mo (by decide))
                have kp71 : gI σx J 1 = gI σ33 J 1 := (cσx.O (kJ.up (xσ23.trans (xσ25.trans (xσ26.trans (xτ20.trans (xσ31.trans (xσ32.trans xσ33))))))) (by decide)).1
                have kp72 : gI σx b_4 7 = gI σ33 b_4 7 := (cσx.O (mb_4.up (xσ31.trans (xσ32.trans xσ33))) (by decide)).1
                have kp73 : gI σx b_4 8 = gI σ33 b_4 8 := (cσx.O (mb_4.up (xσ31.trans (xσ32.trans xσ33))) (by decide)).1
                have kp74 : gP σx J 0 = gP σ33 J 0 := (cσx.O (kJ.up (xσ23.trans (xσ25.trans (xσ26.trans (xτ20.trans (xσ31.trans (xσ32.trans xσ33))))))) (by decide)).2.1
                have kp75 : gP σx W 5 = gP σ33 W 5 := (cσx.O (kW.up (xσ23.trans (xσ25.trans (xσ26.trans (xτ20.trans (xσ31.trans (xσ32.trans xσ33))))))) (by decide)).2.1
                have kp76 : gP σx th 1 = gP σ33 th 1 := (cσx.O (kth.up (xσ23.trans (xσ25.trans (xσ26.trans (xτ20.trans (xσ31.trans (xσ32.trans xσ33))))))) (by decide)).2.1
                have kp77 : gP σx th 2 = gP σ33 th 2 := (cσx.O (kth.up (xσ23.trans (xσ25.trans (xσ26.trans (xτ20.trans (xσ31.trans (xσ32.trans xσ33))))))) (by decide)).2.1
                have kp78 : gP σx th 5 = gP σ33 th 5 := (cσx.O (kth.up (xσ23.trans (xσ25.trans (xσ26.trans (xτ20.trans (xσ31.trans (xσ32.trans xσ33))))))) (by decide)).2.1
                unfold w_X7_isRight_98
                exact hQ σx gqt20 cit20 LLσx Nσx nuσx 0 iσx geτ20 fσx (hnuσx)  (by (first | omega | with_reducible assumption | with_reducible exact rng_toInt _ | with_reducible exact rng_wr _ | (unfold rng; omega) | (unfold rng at *; omega) | assumption))
            · intro σx_1 LLσx_1 Nσx_1 nuσx_1 Eσx_1 iσx_1 cσx_1 uσx_1 pσx_1 xσx_1
              unfold wx_X7_isRight_98
              refine ⟨by first | exact pσx_1 | exact pσx_1.1 | exact pσx_1.2 | exact pσx_1.2.2.1 | exact pσx_1.2.2 | (first | omega | with_reducible assumption | with_reducible exact rng_toInt _ | with_reducible exact rng_wr _ | (unfold rng; omega) | (unfold rng at *; omega) | assumption), fun u0 => ?_⟩
              have hnuσx_1 : NX nu nuσx_1 := nu_σ32.x uσx_1
              have ux2σx_1 := hnuσx_1.2.1
              have ux5σx_1 := hnuσx_1.2.2
              have ux15σx_1 := hnuσx_1.1 15 (by decide)
              have ux16σx_1 := hnuσx_1.1 16 (by decide)
              have fσx_1 : Fx [1, 2, 3, 4, 5, 6, 7, 64, 265, 266, 453, 454, 512, 513, 514, 645, 708, 709, 6464] gr σ σx_1 := fσ32.tr (cσx_1.mo (by decide))
              have kp79 : gI σx_1 J 1 = gI σ32 J 1 := (cσx_1.O (kJ.up (xσ23.trans (xσ25.trans (xσ26.trans (xτ20.trans (xσ31.trans xσ32)))))) (by decide)).1
              have kp80 : gI σx_1 b_4 7 = gI σ32 b_4 7 := (cσx_1.O (mb_4.up (xσ31.trans xσ32)) (by decide)).1
              have kp81 : gI σx_1 b_4 8 = gI σ32 b_4 8 := (cσx_1.O (mb_4.up (xσ31.trans xσ32)) (by decide)).1
              have kp82 : gP σx_1 J 0 = gP σ32 J 0 := (cσx_1.O (kJ.up (xσ23.trans (xσ25.trans (xσ26.trans (xτ20.trans (xσ31.trans xσ32)))))) (by decide)).2.1
              have kp83 : gP σx_1 W 5 = gP σ32 W 5 := (cσx_1.O (kW.up (xσ23.trans (xσ25.trans (xσ26.trans (xτ20.trans (xσ31.trans xσ32)))))) (by decide)).2.1
              have kp84 : gP σx_1 th 1 = gP σ32 th 1 := (cσx_1.O (kth.up (xσ23.trans (xσ25.trans (xσ26.trans (xτ20.trans (xσ31.trans xσ32)))))) (by decide)).2.1
              have kp85 : gP σx_1 th 2 = gP σ32 th 2 := (cσx_1.O (kth.up (xσ23.trans (xσ25.trans (xσ26.trans (xτ20.trans (xσ31.trans xσ32)))))) (by decide)).2.1
              have kp86 : gP σx_1 th 5 = gP σ32 th 5 := (cσx_1.O (kth.up (xσ23.trans (xσ25.trans (xσ26.trans (xτ20.trans (xσ31.trans xσ32)))))) (by decide)).2.1
              unfold w_X7_isRight_98
              exact hQ σx_1 gqt20 cit20 LLσx_1 Nσx_1 nuσx_1 0 iσx_1 geτ20 fσx_1 (hnuσx_1)  (by (first | omega | with_reducible assumption | with_reducible exact rng_toInt _ | with_reducible exact rng_wr _ | (unfold rng; omega) | (unfold rng at *; omega) | assumption))
          · intro σx_2 LLσx_2 Nσx_2 nuσx_2 Eσx_2 iσx_2 cσx_2 uσx_2 pσx_2 xσx_2
            unfold wx_X7_isRight_98
            refine ⟨by first | exact pσx_2 | exact pσx_2.1 | exact pσx_2.2 | exact pσx_2.2.2.1 | exact pσx_2.2.2 | (first | omega | with_reducible assumption | with_reducible exact rng_toInt _ | with_reducible exact rng_wr _ | (unfold rng; omega) | (unfold rng at *; omega) | assumption), fun u0 => ?_⟩
            have hnuσx_2 : NX nu nuσx_2 := nu_σ31.x uσx_2
            have ux2σx_2 := hnuσx_2.2.1
            have ux5σx_2 := hnuσx_2.2.2
            have ux15σx_2 := hnuσx_2.1 15 (by decide)
            have ux16σx_2 := hnuσx_2.1 16 (by decide)
            have fσx_2 : Fx [1, 2, 3, 4, 5, 6, 7, 64, 265, 266, 453, 454, 512, 513, 514, 645, 708, 709, 6464] gr σ σx_2 := fσ31.tr (cσx_2.mo (by decide))
            have kp87 : gI σx_2 J 1 = gI σ31 J 1 := (cσx_2.O (kJ.up (xσ23.trans (xσ25.trans (xσ26.trans (xτ20.trans xσ31))))) (by decide)).1
            have kp88 : gI σx_2 b_4 7 = gI σ31 b_4 7 := (cσx_2.O (mb_4.up xσ31) (by decide)).1
            have kp89 : gI σx_2 b_4 8 = gI σ31 b_4 8 := (cσx_2.O (mb_4.up xσ31) (by decide)).1
            have kp90 : gP σx_2 J 0 = gP σ31 J 0 := (cσx_2.O (kJ.up (xσ23.trans (xσ25.trans (xσ26.trans (xτ20.trans xσ31))))) (by decide)).2.1
            have kp91 : gP σx_2 W 5 = gP σ31 W 5 := (cσx_2.O (kW.up (xσ23.trans (xσ25.trans (xσ26.trans (xτ20.trans xσ31))))) (by decide)).2.1
            have kp92 : gP σx_2 th 1 = gP σ31 th 1 := (cσx_2.O (kth.up (xσ23.trans (xσ25.trans (xσ26.trans (xτ20.trans xσ31))))) (by decide)).2.1
            have kp93 : gP σx_2 th 5 = gP σ31 th 5 := (cσx_2.O (kth.up (xσ23.trans (xσ25.trans (xσ26.trans (xτ20.trans xσ31))))) (by decide)).2.1
            unfold w_X7_isRight_98
            exact hQ σx_2 gqt20 cit20 LLσx_2 Nσx_2 nuσx_2 0 iσx_2 geτ20 fσx_2 (hnuσx_2)  (by (first | omega | with_reducible assumption | with_reducible exact rng_toInt _ | with_reducible exact rng_wr _ | (unfold rng; omega) | (unfold rng at *; omega) | assumption))
        · intro σx_3 LLσx_3 Nσx_3 nuσx_3 Eσx_3 iσx_3 cσx_3 uσx_3 pσx_3 xσx_3
          unfold wx_X7_isRight_98
          refine ⟨by first | exact pσx_3 | exact pσx_3.1 | exact pσx_3.2 | exact pσx_3.2.2.1 | exact pσx_3.2.2 | (first | omega | with_reducible assumption | with_reducible exact rng_toInt _ | with_reducible exact rng_wr _ | (unfold rng; omega) | (unfold rng at *; omega) | assumption), fun u0 => ?_⟩
          have hnuσx_3 : NX nu nuσx_3 := nu_τ20.x uσx_3
          have ux2σx_3 := hnuσx_3.2.1
          have ux5σx_3 := hnuσx_3.2.2
          have ux15σx_3 := hnuσx_3.1 15 (by decide)
          have ux16σx_3 := hnuσx_3.1 16 (by decide)
          have fσx_3 : Fx [1, 2, 3, 4, 5, 6, 7, 64, 265, 266, 453, 454, 512, 513, 514, 645, 708, 709, 6464] gr σ σx_3 := fτ20.tr (cσx_3.mo (by decide))
          have kp94 : gI σx_3 J 1 = gI τ20 J 1 := (cσx_3.O (kJ.up (xσ23.trans (xσ25.trans (xσ26.trans xτ20)))) (by decide)).1
          have kp95 : gI σx_3 b_4 7 = gI τ20 b_4 7 := (cσx_3.O mb_4 (by decide)).1
          have kp96 : gP σx_3 J 0 = gP τ20 J 0 := (cσx_3.O (kJ.up (xσ23.trans (xσ25.trans (xσ26.trans xτ20)))) (by decide)).2.1
          have kp97 : gP σx_3 W 5 = gP τ20 W 5 := (cσx_3.O (kW.up (xσ23.trans (xσ25.trans (xσ26.trans xτ20)))) (by decide)).2.1
          have kp98 : gP σx_3 th 1 = gP τ20 th 1 := (cσx_3.O (kth.up (xσ23.trans (xσ25.trans (xσ26.trans xτ20)))) (by decide)).2.1
          have kp99 : gP σx_3 th 5 = gP τ20 th 5 := (cσx_3.O (kth.up (xσ23.trans (xσ25.trans (xσ26.trans xτ20)))) (by decide)).2.1
          unfold w_X7_isRight_98
          exact hQ σx_3 gqt20 cit20 LLσx_3 Nσx_3 nuσx_3 0 iσx_3 geτ20 fσx_3 (hnuσx_3)  (by (first | omega | with_reducible assumption | with_reducible exact rng_toInt _ | with_reducible exact rng_wr _ | (unfold rng; omega) | (unfold rng at *; omega) | assumption))
  exact ⟨_, Lp20 _ σ26 gq ci LL N nu _ iσ26 fσ26 (Ext.rfl' _) GE.rf NU.rf hnσ (⟨by omega, (kp9.trans (kp4.trans (wσ23.trans hv1))), (kp7.trans (wσ25.trans hv1))⟩) (Nat.lt_succ_self _)⟩

set_option maxHeartbeats 4000000 in
theorem i_X9_layOut {σ : Sg} {pl : Nat} {gq ci gr nc : Nat → Nat} {ot : Nat → Nat → Int} {LL : Nat → List Nat} {N nu : Nat → Nat} {th : Nat} {v1 : Int} {J F : Nat} (iσ : IV σ pl gq ci gr nc ot LL N nu) (kth : kO σ th 9) (hj : gP σ th 9 = some J) (kJ : kO σ J 4) (hJ : gq J = nc 0) (hF : gP σ th 5 = some F) (kF : kO σ F 100) (gF : gr F = 3) (hv : 1 ≤ v1 ∧ v1 ≤ 4) (z : N 11 = 0 ∧ N 12 = 0 ∧ N 13 = 0 ∧ N 50 = 0) {Q : Sg → Unit → Prop} {X : Sg → String → Prop} (hQ : ∀ (σ' : Sg) (gq' ci' : Nat → Nat) (LL' : Nat → List Nat) (N' nu' : Nat → Nat) (r : Unit), IV σ' pl gq' ci' gr nc ot LL' N' nu' → GE (gD σ) gq ci gq' ci' → Fx [129, 130, 131, 132, 133, 134, 135, 586, 587, 588, 640, 641, 645, 646, 647, 648, 649, 650, 651, 652, 653, 654, 655, 7168, 7680, 8512] gr σ σ' → NW nu nu' → Hn (gD σ) [] [] gq LL LL' N N' → ((nu' 15 = bsO ot v1.toNat (nc 1) ∧ nu' 17 = nc 1 ∧ gI σ' th 12 = v1) ∧ LT1 σ' gq' ci' nu' ot v1.toNat ∧ FT1 σ' F ot v1.toNat (nc 1 + 1) ∧ LL' = LL ∧ N' = N) → Q σ' r) : wp_X9_layOut th v1 σ Q X := by
  have fσ : Fx [129, 130, 131, 132, 133, 134, 135, 586, 587, 588, 640, 641, 645, 646, 647, 648, 649, 650, 651, 652, 653, 654, 655, 7168, 7680, 8512] gr σ σ := Fx.rf
  have geσ : GE (gD σ) gq ci gq ci := GE.rf
  have hnσ : Hn (gD σ) [] [] gq LL LL N N := Hn.rf
  have ncb := iσ.ncb
  have hv2 : 1 ≤ v1.toNat ∧ v1.toNat ≤ 4 := by omega
  have gF8 := (T_9_5 iσ.1 kth hF).1
  unfold wp_X9_layOut
  unfold w_X9_layOut_0
  intro σ43 eσ43
  have xσ43 : Ext σ σ43 := by rw [eσ43]; exact fun _ h => ⟨h, rfl, rfl⟩
  have iσ43 : IV σ43 pl gq ci gr nc ot LL N nu := by rw [eσ43]; exact iσ.wO kth (by decide) (show (0 : Int) ≤ v1 ∧ v1 ≤ 4 from ⟨by (first | omega | with_reducible assumption | with_reducible exact rng_toInt _ | with_reducible exact rng_wr _ | (unfold rng; omega) | (unfold rng at *; omega) | assumption), by (first | omega | with_reducible assumption | with_reducible exact rng_toInt _ | with_reducible exact rng_wr _ | (unfold rng; omega) | (unfold rng at *; omega) | assumption)⟩)
  have fσ43 : Fx [129, 130, 131, 132, 133, 134, 135, 586, 587, 588, 640, 641, 645, 646, 647, 648, 649, 650, 651, 652, 653, 654, 655, 7168, 7680, 8512] gr σ σ43 := fσ.tr (Sk.fx (by rw [eσ43]; exact Sk.pI (by rw [fcdO kth (by decide)]; decide)))
  have wσ43 : gI σ43 th 12 = v1 := by rw [eσ43]; exact up2_s _ _ _ _
  have kp1 : gP σ43 th 5 = gP σ th 5 := by rw [eσ43]
  have kp2 : gP σ43 th 9 = gP σ th 9 := by rw [eσ43]
  have kp3 : gI σ43 th 11 = gI σ th 11 := by rw [eσ43]; exact up2_n _ _ (fun q => absurd q.2 (by decide))
  have kp4 : gI σ43 th 10 = gI σ th 10 := by rw [eσ43]; exact up2_n _ _ (fun q => absurd q.2 (by decide))
  intro σ44 eσ44
  have xσ44 : Ext σ43 σ44 := by rw [eσ44]; exact fun _ h => ⟨h, rfl, rfl⟩
  obtain ⟨nuσ44, iσ44, enuσ44⟩ : ∃ nu9 : Nat → Nat, IV σ44 pl gq ci gr nc ot LL N nu9 ∧ nu9 = up1 (up1 nu 15 0) 17 (nc 1) := ⟨_, by rw [eσ44]; exact iσ43.tc0 (kth.up xσ43) ⟨by omega, by omega, by omega⟩ (nc 1), rfl⟩
  have uσ44 : NW nu nuσ44 := by rw [enuσ44]; exact nw15
  have fσ44 : Fx [129, 130, 131, 132, 133, 134, 135, 586, 587, 588, 640, 641, 645, 646, 647, 648, 649, 650, 651, 652, 653, 654, 655, 7168, 7680, 8512] gr σ σ44 := fσ43.tr (Sk.fx (by rw [eσ44]; exact Sk.pI (by rw [fcdO (kth.up xσ43) (by decide)]; decide)))
  have nu_σ44 : NW nu nuσ44 := uσ44
  have n15z : nuσ44 15 = 0 := by rw [enuσ44, up1_n _ _ (by decide), up1_s]
  have n17z : nuσ44 17 = (nc 1) := by rw [enuσ44, up1_s]
  have wσ44 : gI σ44 th 10 = 0 := by rw [eσ44]; exact up2_s _ _ _ _
  have kp5 : gI σ44 th 12 = gI σ43 th 12 := by rw [eσ44]; exact up2_n _ _ (fun q => absurd q.2 (by decide))
  have kp6 : gP σ44 th 5 = gP σ43 th 5 := by rw [eσ44]
  have kp7 : gP σ44 th 9 = gP σ43 th 9 := by rw [eσ44]
  have kp8 : gI σ44 th 11 = gI σ43 th 11 := by rw [eσ44]; exact up2_n _ _ (fun q => absurd q.2 (by decide))
  intro σ45 eσ45
  have xσ45 : Ext σ44 σ45 := by rw [eσ45]; exact fun _ h => ⟨h, rfl, rfl⟩
  obtain ⟨nuσ45, iσ45, enuσ45⟩ : ∃ nu9 : Nat → Nat, IV σ45 pl gq ci gr nc ot LL N nu9 ∧ nu9 = up1 nuσ44 16 0 := ⟨_, by rw [eσ45]; exact iσ44.cc0 (kth.up (xσ43.trans xσ44)) (by omega) ⟨by omega, by omega⟩, rfl⟩
  have uσ45 : NW nuσ44 nuσ45 := by rw [enuσ45]; exact nw16
  have fσ45 : Fx [129, 130, 131, 132, 133, 134, 135, 586, 587, 588, 640, 641, 645, 646, 647, 648, 649, 650, 651, 652, 653, 654, 655, 7168, 7680, 8512] gr σ σ45 := fσ44.tr (Sk.fx (by rw [eσ45]; exact Sk.pI (by rw [fcdO (kth.up (xσ43.trans xσ44)) (by decide)]; decide)))
  have nu_σ45 : NW nu nuσ45 := nu_σ44.tr uσ45
  have n16z : nuσ45 16 = 0 := by rw [enuσ45, up1_s]
  have n15y : nuσ45 15 = 0 := by rw [enuσ45, up1_n _ _ (by decide)]; exact n15z
  have n17y : nuσ45 17 = nc 1 := by rw [enuσ45, up1_n _ _ (by decide)]; exact n17z
  have wσ45 : gI σ45 th 11 = 0 := by rw [eσ45]; exact up2_s _ _ _ _
  have kp9 : gI σ45 th 10 = gI σ44 th 10 := by rw [eσ45]; exact up2_n _ _ (fun q => absurd q.2 (by decide))
  have kp10 : gI σ45 th 12 = gI σ44 th 12 := by rw [eσ45]; exact up2_n _ _ (fun q => absurd q.2 (by decide))
  have kp11 : gP σ45 th 5 = gP σ44 th 5 := by rw [eσ45]
  have kp12 : gP σ45 th 9 = gP σ44 th 9 := by rw [eσ45]
  have Lp17 : ∀ (fu17 : Nat) (τ17 : Sg) (gqt17 cit17 : Nat → Nat) (LLt17 : Nat → List Nat) (Nt17 nut17 : Nat → Nat) (v2 : Int), IV τ17 pl gqt17 cit17 gr nc ot LLt17 Nt17 nut17 → Fx [129, 130, 131, 132, 133, 134, 135, 586, 587, 588, 640, 641, 645, 646, 647, 648, 649, 650, 651, 652, 653, 654, 655, 7168, 7680, 8512] gr σ τ17 → Ext σ45 τ17 → GE (gD σ45) gq ci gqt17 cit17 → NW nu nut17 → Hn (gD σ) [] [] gq LL LLt17 N Nt17 → (((0 ≤ v2 ∧ v2 ≤ (nc 1 : Int)) ∧ nut17 15 = bsO ot v1.toNat v2.toNat ∧ nut17 16 = 0 ∧ nut17 17 = nc 1 ∧ gI τ17 th 12 = v1) ∧ LT1 τ17 gqt17 cit17 nut17 ot v1.toNat ∧ FT1 τ17 F ot v1.toNat v2.toNat ∧ Z12 τ17 gqt17 cit17 nut17 0 ∧ LLt17 = LL ∧ Nt17 = N) → (((nc 1 : Int) - v2).toNat) < fu17 → wl_X9_layOut_17 th Q X fu17 τ17 v2 := by
    intro fu17
    induction fu17 with
    | zero => intro _ _ _ _ _ _ _ _ _ _ _ _ _ _ h9; omega
    | succ fu17 ih17 =>
      intro τ17 gqt17 cit17 LLt17 Nt17 nut17 v2 iτ17 fτ17 xτ17 giτ17 nu_τ17 hnτ17 hi17 hm17
      have geτ17 : GE (gD σ) gq ci gqt17 cit17 := geσ.tr giτ17 (fun d hd => (fσ45.1 d hd).1)
      have gl13 := giτ17 J (kJ.up (xσ43.trans (xσ44.trans xσ45))).1
      have uτ17_5 := nu_τ17.1 5 (by decide)
      have uτ17_0 := nu_τ17.2
      unfold wl_X9_layOut_17
      have kp14 : gP τ17 th 5 = gP σ th 5 := (fτ17.O kth (by decide)).2.1
      have kp15 : gP τ17 th 9 = gP σ th 9 := (fτ17.O kth (by decide)).2.1
      have jc17 := iτ17.jc (kJ.up (xσ43.trans (xσ44.trans (xσ45.trans xτ17)))) (by omega)
      unfold w_X9_layOut_17
      refine ⟨J, (kp15.trans hj), fun kk_J => ?_⟩
      have q17 := I_4_1 iτ17.1 (kJ.up (xσ43.trans (xσ44.trans (xσ45.trans xτ17))))
      by_cases hc16 : v2 ≥ gI τ17 J 1
      · rw [if_pos hc16]
        unfold w_X9_layOut_148
        have tc148 := iτ17.tc (kth.up (xσ43.trans (xσ44.trans (xσ45.trans xτ17))))
        have n148 := iτ17.n16
        refine ⟨J, (kp15.trans hj), fun kk_J_1 => ?_⟩
        refine ⟨F, (kp14.trans hF), fun kk_F => ?_⟩
        have q18 := ((xσ43.trans (xσ44.trans (xσ45.trans xτ17))) F kF.1).2.2
        refine ⟨⟨by (first | omega | with_reducible assumption | with_reducible exact rng_toInt _ | with_reducible exact rng_wr _ | (unfold rng; omega) | (unfold rng at *; omega) | assumption), by (first | omega | with_reducible assumption | with_reducible exact rng_toInt _ | with_reducible exact rng_wr _ | (unfold rng; omega) | (unfold rng at *; omega) | assumption)⟩, ?_⟩
        intro σ66 eσ66
        have xσ66 : Ext τ17 σ66 := by rw [eσ66]; exact fun _ h => ⟨h, rfl, rfl⟩
        have q19 := iτ17.tc (kth.up (xσ43.trans (xσ44.trans (xσ45.trans xτ17))))
        have q20 := I_9_10 iτ17.1 (kth.up (xσ43.trans (xσ44.trans (xσ45.trans xτ17))))
        have iσ66 : IV σ66 pl gqt17 cit17 gr nc ot LLt17 Nt17 nut17 := by rw [eσ66]; exact iτ17.wA3 (kF.up (xσ43.trans (xσ44.trans (xσ45.trans xτ17)))) (gF) ⟨by (first | omega | with_reducible assumption | with_reducible exact rng_toInt _ | with_reducible exact rng_wr _ | (unfold rng; omega) | (unfold rng at *; omega) | assumption), by (first | omega | with_reducible assumption | with_reducible exact rng_toInt _ | with_reducible exact rng_wr _ | (unfold rng; omega) | (unfold rng at *; omega) | assumption)⟩
        have fσ66 : Fx [129, 130, 131, 132, 133, 134, 135, 586, 587, 588, 640, 641, 645, 646, 647, 648, 649, 650, 651, 652, 653, 654, 655, 7168, 7680, 8512] gr σ σ66 := fτ17.tr (Sk.fx (by rw [eσ66]; exact Sk.pI (by rw [fcdI (kF.up (xσ43.trans (xσ44.trans (xσ45.trans xτ17)))), show gr F = 3 from gF]; decide)))
        have wσ66 : gI σ66 F (gI τ17 J 1).toNat = (gI τ17 th 10) := by rw [eσ66]; exact up2_s _ _ _ _
        have kp21 : gI σ66 J 1 = gI τ17 J 1 := by rw [eσ66]; exact up2_n _ _ (fun q => absurd q.1 (kO.ne (kJ.up (xσ43.trans (xσ44.trans (xσ45.trans xτ17)))) (kF.up (xσ43.trans (xσ44.trans (xσ45.trans xτ17)))) (by decide)))
        have kp22 : gI σ66 th 10 = gI τ17 th 10 := by rw [eσ66]; exact up2_n _ _ (fun q => absurd q.1 (kO.ne (kth.up (xσ43.trans (xσ44.trans (xσ45.trans xτ17)))) (kF.up (xσ43.trans (xσ44.trans (xσ45.trans xτ17)))) (by decide)))
        have kp23 : gP σ66 th 5 = gP τ17 th 5 := by rw [eσ66]
        have kp24 : gP σ66 th 9 = gP τ17 th 9 := by rw [eσ66]
        have kp25 : gI σ66 th 12 = gI τ17 th 12 := by rw [eσ66]; exact up2_n _ _ (fun q => absurd q.1 (kO.ne (kth.up (xσ43.trans (xσ44.trans (xσ45.trans xτ17)))) (kF.up (xσ43.trans (xσ44.trans (xσ45.trans xτ17)))) (by decide)))
        have kp26 : gI σ66 th 11 = gI τ17 th 11 := by rw [eσ66]; exact up2_n _ _ (fun q => absurd q.1 (kO.ne (kth.up (xσ43.trans (xσ44.trans (xσ45.trans xτ17)))) (kF.up (xσ43.trans (xσ44.trans (xσ45.trans xτ17)))) (by decide)))
        have w66 : FT1 (pI τ17 F (nc 1) (gI τ17 th 10)) F ot v1.toNat (nc 1 + 1) := FT1.put (by rw [show nc 1 = v2.toNat by omega]; exact hi17.2.2.1) (by rw [show nc 1 = v2.toNat by omega]; omega)
        have ft66 : FT1 σ66 F ot v1.toNat (nc 1 + 1) := by rw [eσ66, show (gI τ17 J 1).toNat = nc 1 by omega]; exact w66
        have fx66 : Fx [8512] gr τ17 σ66 := Sk.fx (by rw [eσ66]; exact Sk.pI (by rw [fcdI (kF.up (xσ43.trans (xσ44.trans (xσ45.trans xτ17)))), gF]; decide))
        have lt66 := hi17.2.1.fx iτ17 iσ66 GE.rf fx66 rfl (by decide)
        have z66 := hi17.2.2.2.1.fx iτ17 iσ66 GE.rf fx66 rfl (by decide)
        have jcE := iσ66.jc (kJ.up (xσ43.trans (xσ44.trans (xσ45.trans (xτ17.trans xσ66))))) (by omega)
        exact i_X9_layOut_166 (J := J) (F := F) iσ66 (kth.up (xσ43.trans (xσ44.trans (xσ45.trans (xτ17.trans xσ66))))) (kp24.trans (kp15.trans hj)) (kJ.up (xσ43.trans (xσ44.trans (xσ45.trans (xτ17.trans xσ66))))) (by omega) (kp23.trans (kp14.trans hF)) (kF.up (xσ43.trans (xσ44.trans (xσ45.trans (xτ17.trans xσ66))))) gF hv (by rw [show nc 1 = v2.toNat by omega]; omega) (by omega) (by omega) lt66 ft66 z66 (fun σ9 gq9 ci9 LL9 N9 nu9 r9 i9 g9 f9 u9 h9 p9 => hQ σ9 gq9 ci9 LL9 N9 nu9 r9 i9 (geτ17.tr g9 (fun d hd => (fσ66.1 d hd).1)) (fσ66.tr f9) (nu_τ17.tr u9) (hnτ17.go (h9.ge (fun a ha => (geτ17 a ha).1) (fun d hd => (fσ66.1 d hd).1)) (fun _ hd => hd) (fun _ h => h) (fun d hd => absurd hd (by simp))) ⟨p9.1, p9.2.1, p9.2.2.1, p9.2.2.2.1.trans hi17.2.2.2.2.1, p9.2.2.2.2.trans hi17.2.2.2.2.2⟩)
      · rw [if_neg hc16]
        unfold w_X9_layOut_28
        have tc28 := iτ17.tc (kth.up (xσ43.trans (xσ44.trans (xσ45.trans xτ17))))
        have n28 := iτ17.n16
        have bl28 := bsO_le (ot := ot) hv2 v2.toNat
        refine ⟨F, (kp14.trans hF), fun kk_F_1 => ?_⟩
        have q27 := ((xσ43.trans (xσ44.trans (xσ45.trans xτ17))) F kF.1).2.2
        refine ⟨⟨by (first | omega | with_reducible assumption | with_reducible exact rng_toInt _ | with_reducible exact rng_wr _ | (unfold rng; omega) | (unfold rng at *; omega) | assumption), by (first | omega | with_reducible assumption | with_reducible exact rng_toInt _ | with_reducible exact rng_wr _ | (unfold rng; omega) | (unfold rng at *; omega) | assumption)⟩, ?_⟩
        intro σ48 eσ48
        have xσ48 : Ext τ17 σ48 := by rw [eσ48]; exact fun _ h => ⟨h, rfl, rfl⟩
        have q28 := iτ17.tc (kth.up (xσ43.trans (xσ44.trans (xσ45.trans xτ17))))
        have q29 := I_9_10 iτ17.1 (kth.up (xσ43.trans (xσ44.trans (xσ45.trans xτ17))))
        have iσ48 : IV σ48 pl gqt17 cit17 gr nc ot LLt17 Nt17 nut17 := by rw [eσ48]; exact iτ17.wA3 (kF.up (xσ43.trans (xσ44.trans (xσ45.trans xτ17)))) (gF) ⟨by (first | omega | with_reducible assumption | with_reducible exact rng_toInt _ | with_reducible exact rng_wr _ | (unfold rng; omega) | (unfold rng at *; omega) | assumption), by (first | omega | with_reducible assumption | with_reducible exact rng_toInt _ | with_reducible exact rng_wr _ | (unfold rng; omega) | (unfold rng at *; omega) | assumption)⟩
        have fσ48 : Fx [129, 130, 131, 132, 133, 134, 135, 586, 587, 588, 640, 641, 645, 646, 647, 648, 649, 650, 651, 652, 653, 654, 655, 7168, 7680, 8512] gr σ σ48 := fτ17.tr (Sk.fx (by rw [eσ48]; exact Sk.pI (by rw [fcdI (kF.up (xσ43.trans (xσ44.trans (xσ45.trans xτ17)))), show gr F = 3 from gF]; decide)))
        have wσ48 : gI σ48 F v2.toNat = (gI τ17 th 10) := by rw [eσ48]; exact up2_s _ _ _ _
        have kp30 : gI σ48 J 1 = gI τ17 J 1 := by rw [eσ48]; exact up2_n _ _ (fun q => absurd q.1 (kO.ne (kJ.up (xσ43.trans (xσ44.trans (xσ45.trans xτ17)))) (kF.up (xσ43.trans (xσ44.trans (xσ45.trans xτ17)))) (by decide)))
        have kp31 : gI σ48 th 10 = gI τ17 th 10 := by rw [eσ48]; exact up2_n _ _ (fun q => absurd q.1 (kO.ne (kth.up (xσ43.trans (xσ44.trans (xσ45.trans xτ17)))) (kF.up (xσ43.trans (xσ44.trans (xσ45.trans xτ17)))) (by decide)))
        have kp32 : gP σ48 th 5 = gP τ17 th 5 := by rw [eσ48]
        have kp33 : gP σ48 th 9 = gP τ17 th 9 := by rw [eσ48]
        have kp34 : gI σ48 th 12 = gI τ17 th 12 := by rw [eσ48]; exact up2_n _ _ (fun q => absurd q.1 (kO.ne (kth.up (xσ43.trans (xσ44.trans (xσ45.trans xτ17)))) (kF.up (xσ43.trans (xσ44.trans (xσ45.trans xτ17)))) (by decide)))
        have kp35 : gI σ48 th 11 = gI τ17 th 11 := by rw [eσ48]; exact up2_n _ _ (fun q => absurd q.1 (kO.ne (kth.up (xσ43.trans (xσ44.trans (xσ45.trans xτ17)))) (kF.up (xσ43.trans (xσ44.trans (xσ45.trans xτ17)))) (by decide)))
        have fx48 : Fx [8512] gr τ17 σ48 := Sk.fx (by rw [eσ48]; exact Sk.pI (by rw [fcdI (kF.up (xσ43.trans (xσ44.trans (xσ45.trans xτ17)))), gF]; decide))
        have ft48 : FT1 σ48 F ot v1.toNat (v2.toNat + 1) := by rw [eσ48]; exact hi17.2.2.1.put (by omega)
        have lt48 := hi17.2.1.fx iτ17 iσ48 GE.rf fx48 rfl (by decide)
        have z48 := hi17.2.2.2.1.fx iτ17 iσ48 GE.rf fx48 rfl (by decide)
        refine ⟨J, (kp33.trans (kp15.trans hj)), fun kk_J_2 => ?_⟩
        obtain ⟨b, eb, fb⟩ := P_4_0 iσ48.1 (kJ.up (xσ43.trans (xσ44.trans (xσ45.trans (xτ17.trans xσ48)))))
        have mb : kO σ48 b 115 := iσ48.1.kd (kJ.up (xσ43.trans (xσ44.trans (xσ45.trans (xτ17.trans xσ48))))) rfl eb rfl
        refine ⟨b, eb, fun kk_b => ?_⟩
        refine ⟨⟨by (first | omega | with_reducible assumption | with_reducible exact rng_toInt _ | with_reducible exact rng_wr _ | (unfold rng; omega) | (unfold rng at *; omega) | assumption), by (first | omega | with_reducible assumption | with_reducible exact rng_toInt _ | with_reducible exact rng_wr _ | (unfold rng; omega) | (unfold rng at *; omega) | assumption)⟩, ?_⟩
        obtain ⟨b_1, eb_1⟩ := P_115 iσ48.1 mb (k := v2.toNat) (by (first | omega | with_reducible assumption | with_reducible exact rng_toInt _ | with_reducible exact rng_wr _ | (unfold rng; omega) | (unfold rng at *; omega) | assumption))
        have fb_1 := T_115 iσ48.1 mb eb_1
        have mb_1 : kO σ48 b_1 5 := iσ48.1.kd mb rfl eb_1 rfl
        refine ⟨b_1, eb_1, fun kk_b_1 => ?_⟩
        have q36 := I_5_6 iσ48.1 mb_1
        refine i_X12_hasOneTask iσ48 (fun r53 pσ52 => ?_)
        intro xσ52
        have o6 := iσ48.op mb_1 (i := v2.toNat) (by omega) (by omega) 6 (by decide)
        by_cases hc37 : r53 = 0
        · rw [if_pos hc37]
          unfold w_X9_layOut_60
          unfold w_X9_layOut_64
          have bq : (bsO ot v1.toNat (v2.toNat + 1) : Int) = bsO ot v1.toNat v2.toNat + (gI σ48 th 12) := by first | (have := bsO_one (ot := ot) (P := v1.toNat) (j := v2.toNat) (by omega); omega) | (have := bsO_P (ot := ot) (P := v1.toNat) (j := v2.toNat) (by omega); omega)
          have bl := bsO_le (ot := ot) hv2 (v2.toNat + 1)
          have bv : 1 ≤ (gI σ48 th 12) ∧ (gI σ48 th 12) ≤ v1 := by omega
          exact i_X9_layOut_68 (F := F) (K17 := wl_X9_layOut_17 th Q X fu17) iσ48 (kth.up (xσ43.trans (xσ44.trans (xσ45.trans (xτ17.trans xσ48))))) (kp32.trans (kp14.trans hF)) (kF.up (xσ43.trans (xσ44.trans (xσ45.trans (xτ17.trans xσ48))))) gF hv (by omega) bq (by omega) (by omega) (by omega) (by omega) (by omega) lt48 ft48 z48 (fun σ9 gq9 ci9 LL9 N9 nu9 i9 g9 f9 u9 h9 p9 => ih17 σ9 gq9 ci9 LL9 N9 nu9 (v2 + 1) i9 (fσ48.tr f9) ((xτ17.trans xσ48).trans f9.1) (((GE.rf).tr giτ17 (fun d hd => ((Ext.rfl' _) d hd).1)).tr g9 (fun d hd => ((xτ17.trans xσ48) d hd).1)) (nu_τ17.tr u9) (hnτ17.go (h9.ge (fun a ha => (geτ17 a ha).1) (fun d hd => (fσ48.1 d hd).1)) (fun _ hd => hd) (fun _ h => h) (fun d hd => absurd hd (by simp))) ⟨⟨by omega, by rw [show (v2 + 1).toNat = v2.toNat + 1 by omega]; exact p9.1.1, by omega, by omega, by omega⟩, p9.2.1, by rw [show (v2 + 1).toNat = v2.toNat + 1 by omega]; exact p9.2.2.1, p9.2.2.2.1, p9.2.2.2.2.1.trans hi17.2.2.2.2.1, p9.2.2.2.2.2.trans hi17.2.2.2.2.2⟩ (by omega))
        · rw [if_neg hc37]
          unfold w_X9_layOut_56
          unfold w_X9_layOut_64
          have bq : (bsO ot v1.toNat (v2.toNat + 1) : Int) = bsO ot v1.toNat v2.toNat + 1 := by first | (have := bsO_one (ot := ot) (P := v1.toNat) (j := v2.toNat) (by omega); omega) | (have := bsO_P (ot := ot) (P := v1.toNat) (j := v2.toNat) (by omega); omega)
          have bl := bsO_le (ot := ot) hv2 (v2.toNat + 1)
          have bv : 1 ≤ 1 ∧ 1 ≤ v1 := by omega
          exact i_X9_layOut_68 (F := F) (K17 := wl_X9_layOut_17 th Q X fu17) iσ48 (kth.up (xσ43.trans (xσ44.trans (xσ45.trans (xτ17.trans xσ48))))) (kp32.trans (kp14.trans hF)) (kF.up (xσ43.trans (xσ44.trans (xσ45.trans (xτ17.trans xσ48))))) gF hv (by omega) bq (by omega) (by omega) (by omega) (by omega) (by omega) lt48 ft48 z48 (fun σ9 gq9 ci9 LL9 N9 nu9 i9 g9 f9 u9 h9 p9 => ih17 σ9 gq9 ci9 LL9 N9 nu9 (v2 + 1) i9 (fσ48.tr f9) ((xτ17.trans xσ48).trans f9.1) (((GE.rf).tr giτ17 (fun d hd => ((Ext.rfl' _) d hd).1)).tr g9 (fun d hd => ((xτ17.trans xσ48) d hd).1)) (nu_τ17.tr u9) (hnτ17.go (h9.ge (fun a ha => (geτ17 a ha).1) (fun d hd => (fσ48.1 d hd).1)) (fun _ hd => hd) (fun _ h => h) (fun d hd => absurd hd (by simp))) ⟨⟨by omega, by rw [show (v2 + 1).toNat = v2.toNat + 1 by omega]; exact p9.1.1, by omega, by omega, by omega⟩, p9.2.1, by rw [show (v2 + 1).toNat = v2.toNat + 1 by omega]; exact p9.2.2.1, p9.2.2.2.1, p9.2.2.2.2.1.trans hi17.2.2.2.2.1, p9.2.2.2.2.2.trans hi17.2.2.2.2.2⟩ (by omega))
  exact ⟨_, Lp17 _ σ45 gq ci LL N nuσ45 _ iσ45 fσ45 (Ext.rfl' _) GE.rf nu_σ45 hnσ (⟨⟨by omega, (show nuσ45 15 = 0 by omega), by omega, by omega, by omega⟩, fun t kt hq hc => absurd hc (by omega), fun j hj => absurd hj (by omega), fun t kt hq hn hc => absurd hc (by omega), rfl, rfl⟩) (Nat.lt_succ_self _)⟩

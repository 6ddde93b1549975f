set_option maxHeartbeats 4000000 in
theorem i_X9_layOut {σ : Sg} {pl : Nat} {gq ci gr nc : Nat → Nat} {ot : Nat → Nat → Int} {LL : Nat → List Nat} {N nu : Nat → Nat} {th : Nat} {v1 : Int} {J F : Nat} (iσ : IV σ pl gq ci gr nc ot LL N nu) (kth : kO σ th 9) (hj : gP σ th 9 = some J) (kJ : kO σ J 4) (hJ : gq J = nc 0) (hF : gP σ th 5 = some F) (kF : kO σ F 100) (gF : gr F = 3) (hv : 1 ≤ v1 ∧ v1 ≤ 4) (z : N 11 = 0 ∧ N 12 = 0 ∧ N 13 = 0 ∧ N 50 = 0) {Q : Sg → Unit → Prop} {X : Sg → String → Prop} (hQ : ∀ (σ' : Sg) (gq' ci' : Nat → Nat) (LL' : Nat → List Nat) (N' nu' : Nat → Nat) (r : Unit), IV σ' pl gq' ci' gr nc ot LL' N' nu' → GE (gD σ) gq ci gq' ci' → Fx [129, 130, 131, 132, 133, 134, 135, 586, 587, 588, 640, 641, 645, 646, 647, 648, 649, 650, 651, 652, 653, 654, 655, 7168, 7680, 8512] gr σ σ' → NW nu nu' → Hn (gD σ) [] [] gq LL LL' N N' → ((nu' 15 = bsO ot v1.toNat (nc 1) ∧ nu' 17 = nc 1 ∧ gI σ' th 12 = v1) ∧ LT1 σ' gq' ci' nu' ot v1.toNat ∧ FT1 σ' F ot v1.toNat (nc 1 + 1) ∧ LL' = LL ∧ N' = N) → Q σ' r) : wp_X9_layOut th v1 σ Q X := by
  have fσ : Fx [129, 130, 131, 132, 133, 134, 135, 586, 587, 588, 640, 641, 645, 646, 647, 648, 649, 650, 651, 652, 653, 654, 655, 7168, 7680, 8512] gr σ σ := Fx.rf
  have geσ : GE (gD σ) gq ci gq ci := GE.rf
  have hnσ : Hn (gD σ) [] [] gq LL LL N N := Hn.rf
  have ncb := iσ.ncb
  have hv2 : 1 ≤ v1.toNat ∧ v1.toNat ≤ 4 := by omega
  have gF8 := (T_9_5 iσ.1 kth hF).1
  unfold wp_X9_layOut
  unfold w_X9_layOut_0
  intro σ43 eσ43
  have xσ43 : Ext σ σ43 := by rw [eσ43]; exact fun _ h => ⟨h, rfl, rfl⟩
  have iσ43 : IV σ43 pl gq ci gr nc ot LL N nu := by rw [eσ43]; exact iσ.wO kth (by decide) (show (0 : Int) ≤ v1 ∧ v1 ≤ 4 from ⟨by (first | omega | with_reducible assumption | with_reducible exact rng_toInt _ | with_reducible exact rng_wr _ | (unfold rng; omega) | (unfold rng at *; omega) | assumption), by (first | omega | with_reducible assumption | with_reducible exact rng_toInt _ | with_reducible exact rng_wr _ | (unfold rng; omega) | (unfold rng at *; omega) | assumption)⟩)
  have fσ43 : Fx [129, 130, 131, 132, 133, 134, 135, 586, 587, 588, 640, 641, 645, 646, 647, 648, 649, 650, 651, 652, 653, 654, 655, 7168, 7680, 8512] gr σ σ43 := fσ.tr (Sk.fx (by rw [eσ43]; exact Sk.pI (by rw [fcdO kth (by decide)]; decide)))
  have wσ43 : gI σ43 th 12 = v1 := by rw [eσ43]; exact up2_s _ _ _ _
  have kp1 : gP σ43 th 5 = gP σ th 5 := by rw [eσ43]
  have kp2 : gP σ43 th 9 = gP σ th 9 := by rw [eσ43]
  have kp3 : gI σ43 th 11 = gI σ th 11 := by rw [eσ43]; exact up2_n _ _ (fun q => absurd q.2 (by decide))
  have kp4 : gI σ43 th 10 = gI σ th 10 := by rw [eσ43]; exact up2_n _ _ (fun q => absurd q.2 (by decide))
  intro σ44 eσ44
  have xσ44 : Ext σ43 σ44 := by rw [eσ44]; exact fun _ h => ⟨h, rfl, rfl⟩
  obtain ⟨nuσ44, iσ44, enuσ44⟩ : ∃ nu9 : Nat → Nat, IV σ44 pl gq ci gr nc ot LL N nu9 ∧ nu9 = up1 (up1 nu 15 0) 17 (nc 1) := ⟨_, by rw [eσ44]; exact iσ43.tc0 (kth.up xσ43) ⟨by omega, by omega, by omega⟩ (nc 1), rfl⟩
  have uσ44 : NW nu nuσ44 := by rw [enuσ44]; exact nw15
  have fσ44 : Fx [129, 130, 131, 132, 133, 134, 135, 586, 587, 588, 640, 641, 645, 646, 647, 648, 649, 650, 651, 652, 653, 654, 655, 7168, 7680, 8512] gr σ σ44 := fσ43.tr (Sk.fx (by rw [eσ44]; exact Sk.pI (by rw [fcdO (kth.up xσ43) (by decide)]; decide)))
  have nu_σ44 : NW nu nuσ44 := uσ44
  have n15z : nuσ44 15 = 0 := by rw [enuσ44, up1_n _ _ (by decide), up1_s]
  have n17z : nuσ44 17 = (nc 1) := by rw [enuσ44, up1_s]
  have wσ44 : gI σ44 th 10 = 0 := by rw [eσ44]; exact up2_s _ _ _ _
  have kp5 : gI σ44 th 12 = gI σ43 th 12 := by rw [eσ44]; exact up2_n _ _ (fun q => absurd q.2 (by decide))
  have kp6 : gP σ44 th 5 = gP σ43 th 5 := by rw [eσ44]
  have kp7 : gP σ44 th 9 = gP σ43 th 9 := by rw [eσ44]
  have kp8 : gI σ44 th 11 = gI σ43 th 11 := by rw [eσ44]; exact up2_n _ _ (fun q => absurd q.2 (by decide))
  intro σ45 eσ45
  have xσ45 : Ext σ44 σ45 := by rw [eσ45]; exact fun _ h => ⟨h, rfl, rfl⟩
  obtain ⟨nuσ45, iσ45, enuσ45⟩ : ∃ nu9 : Nat → Nat, IV σ45 pl gq ci gr nc ot LL N nu9 ∧ nu9 = up1 nuσ44 16 0 := ⟨_, by rw [eσ45]; exact iσ44.cc0 (kth.up (xσ43.trans xσ44)) (by omega) ⟨by omega, by omega⟩, rfl⟩
  have uσ45 : NW nuσ44 nuσ45 := by rw [enuσ45]; exact nw16
  have fσ45 : Fx [129, 130, 131, 132, 133, 134, 135, 586, 587, 588, 640, 641, 645, 646, 647, 648, 649, 650, 651, 652, 653, 654, 655, 7168, 7680, 8512] gr σ σ45 := fσ44.tr (Sk.fx (by rw [eσ45]; exact Sk.pI (by rw [fcdO (kth.up (xσ43.trans xσ44)) (by decide)]; decide)))
  have nu_σ45 : NW nu nuσ45 := nu_σ44.tr uσ45
  have n16z : nuσ45 16 = 0 := by rw [enuσ45, up1_s]
  have n15y : nuσ45 15 = 0 := by rw [enuσ45, up1_n _ _ (by decide)]; exact n15z
  have n17y : nuσ45 17 = nc 1 := by rw [enuσ45, up1_n _ _ (by decide)]; exact n17z
  have wσ45 : gI σ45 th 11 = 0 := by rw [eσ45]; exact up2_s _ _ _ _
  have kp9 : gI σ45 th 10 = gI σ44 th 10 := by rw [eσ45]; exact up2_n _ _ (fun q => absurd q.2 (by decide))
  have kp10 : gI σ45 th 12 = gI σ44 th 12 := by rw [eσ45]; exact up2_n _ _ (fun q => absurd q.2 (by decide))
  have kp11 : gP σ45 th 5 = gP σ44 th 5 := by rw [eσ45]
  have kp12 : gP σ45 th 9 = gP σ44 th 9 := by rw [eσ45]
  have Lp17 : ∀ (fu17 : Nat) (τ17 : Sg) (gqt17 cit17 : Nat → Nat) (LLt17 : Nat → List Nat) (Nt17 nut17 : Nat → Nat) (v2 : Int), IV τ17 pl gqt17 cit17 gr nc ot LLt17 Nt17 nut17 → Fx [129, 130, 131, 132, 133, 134, 135, 586, 587, 588, 640, 641, 645, 646, 647, 648, 649, 650, 651, 652, 653, 654, 655, 7168, 7680, 8512] gr σ τ17 → Ext σ45 τ17 → GE (gD σ45) gq ci gqt17 cit17 → NW nu nut17 → Hn (gD σ) [] [] gq LL LLt17 N Nt17 → (((0 ≤ v2 ∧ v2 ≤ (nc 1 : Int)) ∧ nut17 15 = bsO ot v1.toNat v2.toNat ∧ nut17 16 = 0 ∧ nut17 17 = nc 1 ∧ gI τ17 th 12 = v1) ∧ LT1 τ17 gqt17 cit17 nut17 ot v1.toNat ∧ FT1 τ17 F ot v1.toNat v2.toNat ∧ Z12 τ17 gqt17 cit17 nut17 0 ∧ LLt17 = LL ∧ Nt17 = N) → (((nc 1 : Int) - v2).toNat) < fu17 → wl_X9_layOut_17 th Q X fu17 τ17 v2 := by
    intro fu17
    induction fu17 with
    | zero => intro _ _ _ _ _ _ _ _ _ _ _ _ _ _ h9; omega
    | succ fu17 ih17 =>
      intro τ17 gqt17 cit17 LLt17 Nt17 nut17 v2 iτ17 fτ17 xτ17 giτ17 nu_τ17 hnτ17 hi17 hm17
      have geτ17 : GE (gD σ) gq ci gqt17 cit17 := geσ.tr giτ17 (fun d hd => (fσ45.1 d hd).1)
      have gl13 := giτ17 J (kJ.up (xσ43.trans (xσ44.trans xσ45))).1
      have uτ17_5 := nu_τ17.1 5 (by decide)
      have uτ17_0 := nu_τ17.2
      unfold wl_X9_layOut_17
      have kp14 : gP τ17 th 5 = gP σ th 5 := (fτ17.O kth (by decide)).2.1
      have kp15 : gP τ17 th 9 = gP σ th 9 := (fτ17.O kth (by decide)).2.1
      have jc17 := iτ17.jc (kJ.up (xσ43.trans (xσ44.trans (xσ45.trans xτ17)))) (by omega)
      unfold w_X9_layOut_17
      refine ⟨J, (kp15.trans hj), fun kk_J => ?_⟩
      have q17 := I_4_1 iτ17.1 (kJ.up (xσ43.trans (xσ44.trans (xσ45.trans xτ17))))
      by_cases hc16 : v2 ≥ gI τ17 J 1
      · rw [if_pos hc16]
        unfold w_X9_layOut_148
        have tc148 := iτ17.tc (kth.up (xσ43.trans (xσ44.trans (xσ45.trans xτ17))))
        have n148 := iτ17.n16
        refine ⟨J, (kp15.trans hj), fun kk_J_1 => ?_⟩
        refine ⟨F, (kp14.trans hF), fun kk_F => ?_⟩
        have q18 := ((xσ43.trans (xσ44.trans (xσ45.trans xτ17))) F kF.1).2.2
        refine ⟨⟨by (first | omega | with_reducible assumption | with_reducible exact rng_toInt _ | with_reducible exact rng_wr _ | (unfold rng; omega) | (unfold rng at *; omega) | assumption), by (first | omega | with_reducible assumption | with_reducible exact rng_toInt _ | with_reducible exact rng_wr _ | (unfold rng; omega) | (unfold rng at *; omega) | assumption)⟩, ?_⟩
        intro σ66 eσ66
        have xσ66 : Ext τ17 σ66 := by rw [eσ66]; exact fun _ h => ⟨h, rfl, rfl⟩
        have q19 := iτ17.tc (kth.up (xσ43.trans (xσ44.trans (xσ45.trans xτ17))))
        have q20 := I_9_10 iτ17.1 (kth.up (xσ43.trans (xσ44.trans (xσ45.trans xτ17))))
        have iσ66 : IV σ66 pl gqt17 cit17 gr nc ot LLt17 Nt17 nut17 := by rw [eσ66]; exact iτ17.wA3 (kF.up (xσ43.trans (xσ44.trans (xσ45.trans xτ17)))) (gF) ⟨by (first | omega | with_reducible assumption | with_reducible exact rng_toInt _ | with_reducible exact rng_wr _ | (unfold rng; omega) | (unfold rng at *; omega) | assumption), by (first | omega | with_reducible assumption | with_reducible exact rng_toInt _ | with_reducible exact rng_wr _ | (unfold rng; omega) | (unfold rng at *; omega) | assumption)⟩
        have fσ66 : Fx [129, 130, 131, 132, 133, 134, 135, 586, 587, 588, 640, 641, 645, 646, 647, 648, 649, 650, 651, 652, 653, 654, 655, 7168, 7680, 8512] gr σ σ66 := fτ17.tr (Sk.fx (by rw [eσ66]; exact Sk.pI (by rw [fcdI (kF.up (xσ43.trans (xσ44.trans (xσ45.trans xτ17)))), show gr F = 3 from gF]; decide)))
        have wσ66 : gI σ66 F (gI τ17 J 1).toNat = (gI τ17 th 10) := by rw [eσ66]; exact up2_s _ _ _ _
        have kp21 : gI σ66 J 1 = gI τ17 J 1 := by rw [eσ66]; exact up2_n _ _ (fun q => absurd q.1 (kO.ne (kJ.up (xσ43.trans (xσ44.trans (xσ45.trans xτ17)))) (kF.up (xσ43.trans (xσ44.trans (xσ45.trans xτ17)))) (by decide)))
        have kp22 : gI σ66 th 10 = gI τ17 th 10 := by rw [eσ66]; exact up2_n _ _ (fun q => absurd q.1 (kO.ne (kth.up (xσ43.trans (xσ44.trans (xσ45.trans xτ17)))) (kF.up (xσ43.trans (xσ44.trans (xσ45.trans xτ17)))) (by decide)))
        have kp23 : gP σ66 th 5 = gP τ17 th 5 := by rw [eσ66]
        have kp24 : gP σ66 th 9 = gP τ17 th 9 := by rw [eσ66]
        have kp25 : gI σ66 th 12 = gI τ17 th 12 := by rw [eσ66]; exact up2_n _ _ (fun q => absurd q.1 (kO.ne (kth.up (xσ43.trans (xσ44.trans (xσ45.trans xτ17)))) (kF.up (xσ43.trans (xσ44.trans (xσ45.trans xτ17)))) (by decide)))
        have kp26 : gI σ66 th 11 = gI τ17 th 11 := by rw [eσ66]; exact up2_n _ _ (fun q => absurd q.1 (kO.ne (kth.up (xσ43.trans (xσ44.trans (xσ45.trans xτ17)))) (kF.up (xσ43.trans (xσ44.trans (xσ45.trans xτ17)))) (by decide)))
        have w66 : FT1 (pI τ17 F (nc 1) (gI τ17 th 10)) F ot v1.toNat (nc 1 + 1) := FT1.put (by rw [show nc 1 = v2.toNat by omega]; exact hi17.2.2.1) (by rw [show nc 1 = v2.toNat by omega]; omega)
        have ft66 : FT1 σ66 F ot v1.toNat (nc 1 + 1) := by rw [eσ66, show (gI τ17 J 1).toNat = nc 1 by omega]; exact w66
        have fx66 : Fx [8512] gr τ17 σ66 := Sk.fx (by rw [eσ66]; exact Sk.pI (by rw [fcdI (kF.up (xσ43.trans (xσ44.trans (xσ45.trans xτ17)))), gF]; decide))
        have lt66 := hi17.2.1.fx iτ17 iσ66 GE.rf fx66 rfl (by decide)
        have z66 := hi17.2.2.2.1.fx iτ17 iσ66 GE.rf fx66 rfl (by decide)
        have jcE := iσ66.jc (kJ.up (xσ43.trans (xσ44.trans (xσ45.trans (xτ17.trans xσ66))))) (by omega)
        exact i_X9_layOut_166 (J := J) (F := F) iσ66 (kth.up (xσ43.trans (xσ44.trans (xσ45.trans (xτ17.trans xσ66))))) (kp24.trans (kp15.trans hj)) (kJ.up (xσ43.trans (xσ44.trans (xσ45.trans (xτ17.trans xσ66))))) (by omega) (kp23.trans (kp14.trans hF)) (kF.up (xσ43.trans (xσ44.trans (xσ45.trans (xτ17.trans xσ66))))) gF hv (by rw [show nc 1 = v2.toNat by omega]; omega) (by omega) (by omega) lt66 ft66 z66 (fun σ9 gq9 ci9 LL9 N9 nu9 r9 i9 g9 f9 u9 h9 p9 => hQ σ9 gq9 ci9 LL9 N9 nu9 r9 i9 (geτ17.tr g9 (fun d hd => (fσ66.1 d hd).1)) (fσ66.tr f9) (nut17H.tr u9) (hnτ17.go (h9.ge (fun a ha => (geτ17 a ha).1) (fun d hd => (fσ66.1 d hd).1)) (fun _ hd => hd) (fun _ h => h) (fun d hd => absurd hd (by simp))) ⟨p9.1, p9.2.1, p9.2.2.1, p9.2.2.2.1.trans hi17.2.2.2.2.1, p9.2.2.2.2.trans hi17.2.2.2.2.2⟩)
      · rw [if_neg hc16]
        unfold w_X9_layOut_28
        have tc28 := iτ17.tc (kth.up (xσ43.trans (xσ44.trans (xσ45.trans xτ17))))
        have n28 := iτ17.n16
        have bl28 := bsO_le (ot := ot) hv2 v2.toNat
        refine ⟨F, (kp14.trans hF), fun kk_F_1 => ?_⟩
        have q27 := ((xσ43.trans (xσ44.trans (xσ45.trans xτ17))) F kF.1).2.2
        refine ⟨⟨by (first | omega | with_reducible assumption | with_reducible exact rng_toInt _ | with_reducible exact rng_wr _ | (unfold rng; omega) | (unfold rng at *; omega) | assumption), by (first | omega | with_reducible assumption | with_reducible exact rng_toInt _ | with_reducible exact rng_wr _ | (unfold rng; omega) | (unfold rng at *; omega) | assumption)⟩, ?_⟩
        intro σ48 eσ48
        have xσ48 : Ext τ17 σ48 := by rw [eσ48]; exact fun _ h => ⟨h, rfl, rfl⟩
        have q28 := iτ17.tc (kth.up (xσ43.trans (xσ44.trans (xσ45.trans xτ17))))
        have q29 := I_9_10 iτ17.1 (kth.up (xσ43.trans (xσ44.trans (xσ45.trans xτ17))))
        have iσ48 : IV σ48 pl gqt17 cit17 gr nc ot LLt17 Nt17 nut17 := by rw [eσ48]; exact iτ17.wA3 (kF.up (xσ43.trans (xσ44.trans (xσ45.trans xτ17)))) (gF) ⟨by (first | omega | with_reducible assumption | with_reducible exact rng_toInt _ | with_reducible exact rng_wr _ | (unfold rng; omega) | (unfold rng at *; omega) | assumption), by (first | omega | with_reducible assumption | with_reducible exact rng_toInt _ | with_reducible exact rng_wr _ | (unfold rng; omega) | (unfold rng at *; omega) | assumption)⟩
        have fσ48 : Fx [129, 130, 131, 132, 133, 134, 135, 586, 587, 588, 640, 641, 645, 646, 647, 648, 649, 650, 651, 652, 653, 654, 655, 7168, 7680, 8512] gr σ σ48 := fτ17.tr (Sk.fx (by rw [eσ48]; exact Sk.pI (by rw [fcdI (kF.up (xσ43.trans (xσ44.trans (xσ45.trans xτ17)))), show gr F = 3 from gF]; decide)))
        have wσ48 : gI σ48 F v2.toNat = (gI τ17 th 10) := by rw [eσ48]; exact up2_s _ _ _ _
        have kp30 : gI σ48 J 1 = gI τ17 J 1 := by rw [eσ48]; exact up2_n _ _ (fun q => absurd q.1 (kO.ne (kJ.up (xσ43.trans (xσ44.trans (xσ45.trans xτ17)))) (kF.up (xσ43.trans (xσ44.trans (xσ45.trans xτ17)))) (by decide)))
        have kp31 : gI σ48 th 10 = gI τ17 th 10 := by rw [eσ48]; exact up2_n _ _ (fun q => absurd q.1 (kO.ne (kth.up (xσ43.trans (xσ44.trans (xσ45.trans xτ17)))) (kF.up (xσ43.trans (xσ44.trans (xσ45.trans xτ17)))) (by decide)))
        have kp32 : gP σ48 th 5 = gP τ17 th 5 := by rw [eσ48]
        have kp33 : gP σ48 th 9 = gP τ17 th 9 := by rw [eσ48]
        have kp34 : gI σ48 th 12 = gI τ17 th 12 := by rw [eσ48]; exact up2_n _ _ (fun q => absurd q.1 (kO.ne (kth.up (xσ43.trans (xσ44.trans (xσ45.trans xτ17)))) (kF.up (xσ43.trans (xσ44.trans (xσ45.trans xτ17)))) (by decide)))
        have kp35 : gI σ48 th 11 = gI τ17 th 11 := by rw [eσ48]; exact up2_n _ _ (fun q => absurd q.1 (kO.ne (kth.up (xσ43.trans (xσ44.trans (xσ45.trans xτ17)))) (kF.up (xσ43.trans (xσ44.trans (xσ45.trans xτ17)))) (by decide)))
        have fx48 : Fx [8512] gr τ17 σ48 := Sk.fx (by rw [eσ48]; exact Sk.pI (by rw [fcdI (kF.up (xσ43.trans (xσ44.trans (xσ45.trans xτ17)))), gF]; decide))
        have ft48 : FT1 σ48 F ot v1.toNat (v2.toNat + 1) := by rw [eσ48]; exact hi17.2.2.1.put (by omega)
        have lt48 := hi17.2.1.fx iτ17 iσ48 GE.rf fx48 rfl (by decide)
        have z48 := hi17.2.2.2.1.fx iτ17 iσ48 GE.rf fx48 rfl (by decide)
        refine ⟨J, (kp33.trans (kp15.trans hj)), fun kk_J_2 => ?_⟩
        obtain ⟨b, eb, fb⟩ := P_4_0 iσ48.1 (kJ.up (xσ43.trans (xσ44.trans (xσ45.trans (xτ17.trans xσ48)))))
        have mb : kO σ48 b 115 := iσ48.1.kd (kJ.up (xσ43.trans (xσ44.trans (xσ45.trans (xτ17.trans xσ48))))) rfl eb rfl
        refine ⟨b, eb, fun kk_b => ?_⟩
        refine ⟨⟨by (first | omega | with_reducible assumption | with_reducible exact rng_toInt _ | with_reducible exact rng_wr _ | (unfold rng; omega) | (unfold rng at *; omega) | assumption), by (first | omega | with_reducible assumption | with_reducible exact rng_toInt _ | with_reducible exact rng_wr _ | (unfold rng; omega) | (unfold rng at *; omega) | assumption)⟩, ?_⟩
        obtain ⟨b_1, eb_1⟩ := P_115 iσ48.1 mb (k := v2.toNat) (by (first | omega | with_reducible assumption | with_reducible exact rng_toInt _ | with_reducible exact rng_wr _ | (unfold rng; omega) | (unfold rng at *; omega) | assumption))
        have fb_1 := T_115 iσ48.1 mb eb_1
        have mb_1 : kO σ48 b_1 5 := iσ48.1.kd mb rfl eb_1 rfl
        refine ⟨b_1, eb_1, fun kk_b_1 => ?_⟩
        have q36 := I_5_6 iσ48.1 mb_1
        refine i_X12_hasOneTask iσ48 (fun r53 pσ52 => ?_)
        intro xσ52
        have o6 := iσ48.op mb_1 (i := v2.toNat) (by omega) (by omega) 6 (by decide)
        by_cases hc37 : r53 = 0
        · rw [if_pos hc37]
          unfold w_X9_layOut_60
          unfold w_X9_layOut_64
          have bq : (bsO ot v1.toNat (v2.toNat + 1) : Int) = bsO ot v1.toNat v2.toNat + (gI σ48 th 12) := by first | (have := bsO_one (ot := ot) (P := v1.toNat) (j := v2.toNat) (by omega); omega) | (have := bsO_P (ot := ot) (P := v1.toNat) (j := v2.toNat) (by omega); omega)
          have bl := bsO_le (ot := ot) hv2 (v2.toNat + 1)
          have bv : 1 ≤ (gI σ48 th 12) ∧ (gI σ48 th 12) ≤ v1 := by omega
          have Lp68 : ∀ (fu68 : Nat) (τ68 : Sg) (gqt68 cit68 : Nat → Nat) (LLt68 : Nat → List Nat) (Nt68 nut68 : Nat → Nat) (v4 : Int), IV τ68 pl gqt68 cit68 gr nc ot LLt68 Nt68 nut68 → Fx [129, 130, 131, 132, 133, 134, 135, 586, 587, 588, 640, 641, 645, 646, 647, 648, 649, 650, 651, 652, 653, 654, 655, 7168, 7680, 8512] gr σ τ68 → Ext σ48 τ68 → GE (gD σ48) gqt17 cit17 gqt68 cit68 → NW nu nut68 → Hn (gD σ) [] [] gq LL LLt68 N Nt68 → (((0 ≤ v4 ∧ v4 ≤ (gI σ48 th 12)) ∧ nut68 15 = bsO ot v1.toNat v2.toNat + v4.toNat ∧ nut68 16 = 0 ∧ nut68 17 = nc 1 ∧ gI τ68 th 12 = v1) ∧ LT1 τ68 gqt68 cit68 nut68 ot v1.toNat ∧ FT1 τ68 F ot v1.toNat (v2.toNat + 1) ∧ Z12 τ68 gqt68 cit68 nut68 0 ∧ LLt68 = LL ∧ Nt68 = N) → (((gI σ48 th 12) - v4).toNat) < fu68 → wl_X9_layOut_68 th (wl_X9_layOut_17 th Q X fu17) Q X fu68 τ68 v2 (gI σ48 th 12) v4 := by
            intro fu68
            induction fu68 with
            | zero => intro _ _ _ _ _ _ _ _ _ _ _ _ _ _ h9; omega
            | succ fu68 ih68 =>
              intro τ68 gqt68 cit68 LLt68 Nt68 nut68 v4 iτ68 fτ68 xτ68 giτ68 nu_τ68 hnτ68 hi68 hm68
              have geτ68 : GE (gD σ) gq ci gqt68 cit68 := geτ17.tr giτ68 (fun d hd => (fσ48.1 d hd).1)
              have gl38 := giτ68 J (kJ.up (xσ43.trans (xσ44.trans (xσ45.trans (xτ17.trans xσ48))))).1
              have gl39 := giτ68 b mb.1
              have gl40 := giτ68 b_1 mb_1.1
              have uτ68_5 := nu_τ68.1 5 (by decide)
              have uτ68_0 := nu_τ68.2
              unfold wl_X9_layOut_68
              have kp41 : gP τ68 th 5 = gP σ th 5 := (fτ68.O kth (by decide)).2.1
              have kp42 : gP τ68 th 9 = gP σ th 9 := (fτ68.O kth (by decide)).2.1
              have kp43 : gI τ68 J 1 = gI σ48 J 1 := (fτ68.O kJ (by decide)).1.trans (fσ48.O kJ (by decide)).1.symm
              have kp44 : gP τ68 J 0 = gP σ48 J 0 := (fτ68.O kJ (by decide)).2.1.trans (fσ48.O kJ (by decide)).2.1.symm
              have tc68 := iτ68.tc (kth.up (xσ43.trans (xσ44.trans (xσ45.trans (xτ17.trans (xσ48.trans xτ68))))))
              have n68 := iτ68.n16
              unfold w_X9_layOut_68
              have q46 := I_9_12 iσ48.1 (kth.up (xσ43.trans (xσ44.trans (xσ45.trans (xτ17.trans xσ48)))))
              by_cases hc45 : v4 ≥ (gI σ48 th 12)
              · rw [if_pos hc45]
                unfold w_X9_layOut_142
                refine ⟨by (first | omega | with_reducible assumption | with_reducible exact rng_toInt _ | with_reducible exact rng_wr _ | (unfold rng; omega) | (unfold rng at *; omega) | assumption), ?_⟩
                exact ih17 τ68 gqt68 cit68 LLt68 Nt68 nut68 (v2 + 1) iτ68 fτ68 (xτ17.trans (xσ48.trans xτ68)) (((GE.rf).tr giτ17 (fun d hd => ((Ext.rfl' _) d hd).1)).tr giτ68 (fun d hd => ((xτ17.trans xσ48) d hd).1)) nu_τ68 hnτ68 (by exact ⟨⟨by omega, by rw [show (v2 + 1).toNat = v2.toNat + 1 by omega]; omega, by omega, by omega, by omega⟩, hi68.2.1, by rw [show (v2 + 1).toNat = v2.toNat + 1 by omega]; exact hi68.2.2.1, hi68.2.2.2.1, hi68.2.2.2.2.1, hi68.2.2.2.2.2⟩) (by (first | omega | with_reducible assumption | with_reducible exact rng_toInt _ | with_reducible exact rng_wr _ | (unfold rng; omega) | (unfold rng at *; omega) | assumption))
              · rw [if_neg hc45]
                unfold w_X9_layOut_74
                have q48 := iτ68.tc (kth.up (xσ43.trans (xσ44.trans (xσ45.trans (xτ17.trans (xσ48.trans xτ68))))))
                have q49 := I_9_10 iτ68.1 (kth.up (xσ43.trans (xσ44.trans (xσ45.trans (xτ17.trans (xσ48.trans xτ68))))))
                by_cases hc47 : gI τ68 th 10 ≥ 64
                · rw [if_pos hc47]
                  unfold w_X9_layOut_142
                  refine ⟨by (first | omega | with_reducible assumption | with_reducible exact rng_toInt _ | with_reducible exact rng_wr _ | (unfold rng; omega) | (unfold rng at *; omega) | assumption), ?_⟩
                  exact ih17 τ68 gqt68 cit68 LLt68 Nt68 nut68 (v2 + 1) iτ68 fτ68 (xτ17.trans (xσ48.trans xτ68)) (((GE.rf).tr giτ17 (fun d hd => ((Ext.rfl' _) d hd).1)).tr giτ68 (fun d hd => ((xτ17.trans xσ48) d hd).1)) nu_τ68 hnτ68 (by exact ⟨⟨by omega, by rw [show (v2 + 1).toNat = v2.toNat + 1 by omega]; omega, by omega, by omega, by omega⟩, hi68.2.1, by rw [show (v2 + 1).toNat = v2.toNat + 1 by omega]; exact hi68.2.2.1, hi68.2.2.2.1, hi68.2.2.2.2.1, hi68.2.2.2.2.2⟩) (by (first | omega | with_reducible assumption | with_reducible exact rng_toInt _ | with_reducible exact rng_wr _ | (unfold rng; omega) | (unfold rng at *; omega) | assumption))
                · rw [if_neg hc47]
                  unfold w_X9_layOut_83
                  have tc83 := iτ68.tc (kth.up (xσ43.trans (xσ44.trans (xσ45.trans (xτ17.trans (xσ48.trans xτ68))))))
                  have n83 := iτ68.n16
                  obtain ⟨b_2, eb_2, fb_2⟩ := P_9_3 iτ68.1 (kth.up (xσ43.trans (xσ44.trans (xσ45.trans (xτ17.trans (xσ48.trans xτ68))))))
                  have mb_2 : kO τ68 b_2 120 := iτ68.1.kd (kth.up (xσ43.trans (xσ44.trans (xσ45.trans (xτ17.trans (xσ48.trans xτ68)))))) rfl eb_2 rfl
                  refine ⟨b_2, eb_2, fun kk_b_2 => ?_⟩
                  refine ⟨⟨by (first | omega | with_reducible assumption | with_reducible exact rng_toInt _ | with_reducible exact rng_wr _ | (unfold rng; omega) | (unfold rng at *; omega) | assumption), by (first | omega | with_reducible assumption | with_reducible exact rng_toInt _ | with_reducible exact rng_wr _ | (unfold rng; omega) | (unfold rng at *; omega) | assumption)⟩, ?_⟩
                  by_cases hc50 : (gP τ68 b_2 (gI τ68 th 10).toNat) ≠ none
                  · rw [if_pos hc50]
                    unfold w_X9_layOut_111
                    have tc111 := iτ68.tc (kth.up (xσ43.trans (xσ44.trans (xσ45.trans (xτ17.trans (xσ48.trans xτ68))))))
                    have n111 := iτ68.n16
                    have sl9 : gP τ68 b_2 (gI τ68 th 10).toNat ≠ none := by first | assumption | (rw [show gI τ68 th 10 = gI τ68 th 10 by omega, psσ59]; simp)
                    have sl8 : gP τ68 b_2 (nut68 15) ≠ none := by rw [show nut68 15 = (gI τ68 th 10).toNat by omega]; exact sl9
                    have lt111 : LT1 τ68 gqt68 cit68 nut68 ot v1.toNat := by first | exact hi68.2.1 | exact hi68.2.1.fx iτ68 iτ68 gτ68 fx59 (by omega) (by decide)
                    have ft111 : FT1 τ68 F ot v1.toNat (v2.toNat + 1) := by first | exact hi68.2.2.1 | exact hi68.2.2.1.fx (kF.up (xσ43.trans (xσ44.trans (xσ45.trans (xτ17.trans (xσ48.trans xτ68)))))) gF fx59 (by decide)
                    have z111 : Z12 τ68 gqt68 cit68 nut68 0 := by first | exact hi68.2.2.2.1 | exact hi68.2.2.2.1.fx iτ68 iτ68 gτ68 fx59 (by omega) (by decide)
                    obtain ⟨nuA, iτ68, hA0, uA, eA⟩ := iτ68.mk0 mb_2 (by omega) (by omega) sl8
                    have nuz51 : NW nu nuA := nu_τ68.tr uA
                    have eA16 := eA 16 (by decide)
                    have eA15 := eA 15 (by decide)
                    have eA17 := eA 17 (by decide)
                    have lt112 := lt111.nv9 eA15
                    have z112 := z111.nv9 eA15
                    refine ⟨b_2, eb_2, fun kk_b_2_1 => ?_⟩
                    refine ⟨⟨by (first | omega | with_reducible assumption | with_reducible exact rng_toInt _ | with_reducible exact rng_wr _ | (unfold rng; omega) | (unfold rng at *; omega) | assumption), by (first | omega | with_reducible assumption | with_reducible exact rng_toInt _ | with_reducible exact rng_wr _ | (unfold rng; omega) | (unfold rng at *; omega) | assumption)⟩, ?_⟩
                    obtain ⟨b_3, eb_3⟩ := Option.ne_none_iff_exists'.mp hc50
                    have fb_3 := T_120 iτ68.1 mb_2 eb_3
                    have mb_3 : kO τ68 b_3 10 := iτ68.1.kd mb_2 rfl eb_3 rfl
                    refine ⟨b_3, eb_3, fun kk_b_3 => ?_⟩
                    refine i2_X10_lay iτ68 mb_3 (by (first | omega | with_reducible assumption | with_reducible exact rng_toInt _ | with_reducible exact rng_wr _ | (unfold rng; omega) | (unfold rng at *; omega) | assumption)) (by (first | omega | with_reducible assumption | with_reducible exact rng_toInt _ | with_reducible exact rng_wr _ | (unfold rng; omega) | (unfold rng at *; omega) | assumption)) (by (first | omega | with_reducible assumption | with_reducible exact rng_toInt _ | with_reducible exact rng_wr _ | (unfold rng; omega) | (unfold rng at *; omega) | assumption)) (fun σ61 _ iσ61 cσ61 pσ61 => ?_)
                    intro xσ61
                    have fσ61 : Fx [129, 130, 131, 132, 133, 134, 135, 586, 587, 588, 640, 641, 645, 646, 647, 648, 649, 650, 651, 652, 653, 654, 655, 7168, 7680, 8512] gr σ σ61 := fτ68.tr (cσ61.mo (by decide))
                    have kp52 : gI σ61 J 1 = gI τ68 J 1 := (cσ61.O (kJ.up (xσ43.trans (xσ44.trans (xσ45.trans (xτ17.trans (xσ48.trans xτ68)))))) (by decide)).1
                    have kp53 : gI σ61 th 10 = gI τ68 th 10 := (cσ61.O (kth.up (xσ43.trans (xσ44.trans (xσ45.trans (xτ17.trans (xσ48.trans xτ68)))))) (by decide)).1
                    have kp54 : gP σ61 J 0 = gP τ68 J 0 := (cσ61.O (kJ.up (xσ43.trans (xσ44.trans (xσ45.trans (xτ17.trans (xσ48.trans xτ68)))))) (by decide)).2.1
                    have kp55 : gP σ61 b_2 (gI τ68 th 10).toNat = gP τ68 b_2 (gI τ68 th 10).toNat := (cσ61.A mb_2 (by decide)).2.1
                    have kp56 : gP σ61 th 3 = gP τ68 th 3 := (cσ61.O (kth.up (xσ43.trans (xσ44.trans (xσ45.trans (xτ17.trans (xσ48.trans xτ68)))))) (by decide)).2.1
                    have kp57 : gP σ61 th 5 = gP τ68 th 5 := (cσ61.O (kth.up (xσ43.trans (xσ44.trans (xσ45.trans (xτ17.trans (xσ48.trans xτ68)))))) (by decide)).2.1
                    have kp58 : gP σ61 th 9 = gP τ68 th 9 := (cσ61.O (kth.up (xσ43.trans (xσ44.trans (xσ45.trans (xτ17.trans (xσ48.trans xτ68)))))) (by decide)).2.1
                    have kp59 : gI σ61 th 12 = gI τ68 th 12 := (cσ61.O (kth.up (xσ43.trans (xσ44.trans (xσ45.trans (xτ17.trans (xσ48.trans xτ68)))))) (by decide)).1
                    have kp60 : gI σ61 th 11 = gI τ68 th 11 := (cσ61.O (kth.up (xσ43.trans (xσ44.trans (xσ45.trans (xτ17.trans (xσ48.trans xτ68)))))) (by decide)).1
                    refine ⟨by (first | omega | with_reducible assumption | with_reducible exact rng_toInt _ | with_reducible exact rng_wr _ | (unfold rng; omega) | (unfold rng at *; omega) | assumption), ?_⟩
                    intro σ63 eσ63
                    have xσ63 : Ext σ61 σ63 := by rw [eσ63]; exact fun _ h => ⟨h, rfl, rfl⟩
                    obtain ⟨nuσ63, iσ63, enuσ63⟩ : ∃ nu9 : Nat → Nat, IV σ63 pl gqt68 cit68 gr nc ot LLt68 Nt68 nu9 ∧ nu9 = up1 nuA 15 (nuA 15 + 1) := ⟨_, by rw [eσ63]; exact by rw [show gI σ61 th 10 = (nuA 15 : Int) by omega]; exact iσ61.tk1 (kth.up (xσ43.trans (xσ44.trans (xσ45.trans (xτ17.trans (xσ48.trans (xτ68.trans xσ61))))))) (mb_3.up xσ61) (by omega) (by omega) (by omega) (by omega) (by omega) (by omega) (by omega), rfl⟩
                    have uσ63 : NW nuA nuσ63 := by rw [enuσ63]; exact nw15b
                    have fσ63 : Fx [129, 130, 131, 132, 133, 134, 135, 586, 587, 588, 640, 641, 645, 646, 647, 648, 649, 650, 651, 652, 653, 654, 655, 7168, 7680, 8512] gr σ σ63 := fσ61.tr (Sk.fx (by rw [eσ63]; exact Sk.pI (by rw [fcdO (kth.up (xσ43.trans (xσ44.trans (xσ45.trans (xτ17.trans (xσ48.trans (xτ68.trans xσ61))))))) (by decide)]; decide)))
                    have nu_σ63 : NW nu nuσ63 := nuz51.tr uσ63
                    have w15 : nuσ63 15 = nuA 15 + 1 := by rw [enuσ63, up1_s]
                    have w16 : nuσ63 16 = nuA 16 := by rw [enuσ63, up1_n _ _ (by decide)]
                    have w17 : nuσ63 17 = nuA 17 := by rw [enuσ63, up1_n _ _ (by decide)]
                    have wσ63 : gI σ63 th 10 = (gI σ61 th 10 + 1) := by rw [eσ63]; exact up2_s _ _ _ _
                    have kp61 : gI σ63 J 1 = gI σ61 J 1 := by rw [eσ63]; exact up2_n _ _ (fun q => absurd q.2 (by decide))
                    have kp62 : gP σ63 J 0 = gP σ61 J 0 := by rw [eσ63]
                    have kp63 : gP σ63 b_2 (gI τ68 th 10).toNat = gP σ61 b_2 (gI τ68 th 10).toNat := by rw [eσ63]
                    have kp64 : gP σ63 th 3 = gP σ61 th 3 := by rw [eσ63]
                    have kp65 : gP σ63 th 5 = gP σ61 th 5 := by rw [eσ63]
                    have kp66 : gP σ63 th 9 = gP σ61 th 9 := by rw [eσ63]
                    have kp67 : gI σ63 th 12 = gI σ61 th 12 := by rw [eσ63]; exact up2_n _ _ (fun q => absurd q.2 (by decide))
                    have kp68 : gI σ63 th 11 = gI σ61 th 11 := by rw [eσ63]; exact up2_n _ _ (fun q => absurd q.2 (by decide))
                    have k630 : gI σ63 b_3 0 = gI σ61 b_3 0 := by rw [eσ63, gI_pI, up2_n _ _ (fun z => absurd z.2 (by decide))]
                    have k631 : gI σ63 b_3 1 = gI σ61 b_3 1 := by rw [eσ63, gI_pI, up2_n _ _ (fun z => absurd z.2 (by decide))]
                    have k6312 : gI σ63 b_3 12 = gI σ61 b_3 12 := by rw [eσ63, gI_pI, up2_n _ _ (fun z => absurd z.2 (by decide))]
                    have lt63 : LT1 σ63 gqt68 cit68 nuσ63 ot v1.toNat := lt112.add (t := b_3) iτ68 iσ63 (by rw [eσ63]; exact xσ61) (fun t9 k9 h9 h8 => by rw [eσ63, gI_pI, up2_n _ _ (fun z => absurd z.1 (kO.ne (h9.up xσ61) (kth.up (xσ43.trans (xσ44.trans (xσ45.trans (xτ17.trans (xσ48.trans (xτ68.trans xσ61))))))) (by decide)))]; exact pσ61.2 t9 k9 h8) (mb_3.up (xσ61.trans xσ63)) (by omega) (by omega) (by omega) (by omega) (fun j ja jb => by have := bsO_un (ot := ot) hv2 (i := j) (j := v2.toNat) ja jb (by omega) (by omega); omega)
                    have z63 : Z12 σ63 gqt68 cit68 nuσ63 0 := z112.add (t := b_3) iτ68 iσ63 (by rw [eσ63]; exact xσ61) (fun t9 k9 h9 h8 => by rw [eσ63, gI_pI, up2_n _ _ (fun z => absurd z.1 (kO.ne (h9.up xσ61) (kth.up (xσ43.trans (xσ44.trans (xσ45.trans (xτ17.trans (xσ48.trans (xτ68.trans xσ61))))))) (by decide)))]; exact pσ61.2 t9 k9 h8) (mb_3.up (xσ61.trans xσ63)) (by omega) (by omega) (by omega) (by omega)
                    have ft63 : FT1 σ63 F ot v1.toNat (v2.toNat + 1) := fun j hj => by rw [eσ63, gI_pI, up2_n _ _ (fun z => absurd z.1 (kO.ne (kF.up (xσ43.trans (xσ44.trans (xσ45.trans (xτ17.trans (xσ48.trans (xτ68.trans (xσ61.trans xσ63)))))))) (kth.up (xσ43.trans (xσ44.trans (xσ45.trans (xτ17.trans (xσ48.trans (xτ68.trans (xσ61.trans xσ63)))))))) (by decide))), pσ61.2 F j (kO.ne (kF.up (xσ43.trans (xσ44.trans (xσ45.trans (xτ17.trans (xσ48.trans (xτ68.trans (xσ61.trans xσ63)))))))) (mb_3.up (xσ61.trans xσ63)) (by decide))]; exact ft111 j hj
                    refine ⟨by (first | omega | with_reducible assumption | with_reducible exact rng_toInt _ | with_reducible exact rng_wr _ | (unfold rng; omega) | (unfold rng at *; omega) | assumption), ?_⟩
                    exact ih68 σ63 gqt68 cit68 LLt68 Nt68 nuσ63 (v4 + 1) iσ63 fσ63 (xτ68.trans (xσ61.trans xσ63)) ((GE.rf).tr giτ68 (fun d hd => ((Ext.rfl' _) d hd).1)) nu_σ63 hnτ68 (⟨⟨by omega, by omega, by omega, by omega, by omega⟩, lt63, ft63, z63, hi68.2.2.2.2.1, hi68.2.2.2.2.2⟩) (by (first | omega | with_reducible assumption | with_reducible exact rng_toInt _ | with_reducible exact rng_wr _ | (unfold rng; omega) | (unfold rng at *; omega) | assumption))
                  · rw [if_neg hc50]
                    have hc50q := Classical.not_not.mp hc50
                    unfold w_X9_layOut_95
                    have e9z : (gI τ68 th 10).toNat = nut68 15 := by omega
                    have s0z : (gI τ68 th 10).toNat = nut68 0 := by rw [e9z]; exact iτ68.slot0 mb_2 (by omega) (by rw [← e9z]; exact Classical.not_not.mp (by assumption))
                    refine i_newTask iτ68.room4 iτ68.nd iτ68.2.2.2.2.2.2.1.1 (fun qσ59 q1σ59 q2σ59 q3σ59 oσ59 gwσ59 kqσ59 kcσ59 hIσ59 hJσ59 hPσ59 hPcσ59 hcσ59 hsσ59 hRσ59 => ?_)
                    have gnσ59 := (gwσ59.2.2.1 b_2 mb_2.1).2.2
                    refine ⟨b_2, eb_2, fun _ => ⟨⟨by (first | omega | with_reducible assumption | with_reducible exact rng_toInt _ | with_reducible exact rng_wr _ | (unfold rng; omega) | (unfold rng at *; omega) | assumption), by (first | omega | with_reducible assumption | with_reducible exact rng_toInt _ | with_reducible exact rng_wr _ | (unfold rng; omega) | (unfold rng at *; omega) | assumption)⟩, fun σ59 eσ59 => ?_⟩⟩
                    obtain ⟨gqσ59, ciσ59, nuσ59, iσ59, gσ59, enuσ59, tcσ59, ktσ59, psσ59⟩ := iτ68.newT mb_2 (T := 1) (by omega) (by omega) (by (first | omega | with_reducible assumption | with_reducible exact rng_toInt _ | with_reducible exact rng_wr _ | (unfold rng; omega) | (unfold rng at *; omega) | assumption)) hc50q (fun _ => s0z) gwσ59 eσ59 kqσ59 kcσ59 hIσ59 hJσ59 hPσ59 hPcσ59 hcσ59 hsσ59 hRσ59
                    have xσ59 : Ext τ68 σ59 := by rw [eσ59]; exact fun a ha => gwσ59.2.2.1 a ha
                    have fσ59 : Fx [129, 130, 131, 132, 133, 134, 135, 586, 587, 588, 640, 641, 645, 646, 647, 648, 649, 650, 651, 652, 653, 654, 655, 7168, 7680, 8512] gr σ σ59 := fτ68.tr (gwσ59.fx eσ59 mb_2 (by decide))
                    have uσ59 : NW nut68 nuσ59 := by rw [enuσ59]; exact nu_T1 rfl
                    have nu_σ59 : NW nu nuσ59 := nu_τ68.tr uσ59
                    have geσ59 : GE (gD σ) gq ci gqσ59 ciσ59 := geτ68.tr gσ59 (fun d hd => (fτ68.1 d hd).1)
                    have gl70 := gσ59 J (kJ.up (xσ43.trans (xσ44.trans (xσ45.trans (xτ17.trans (xσ48.trans xτ68)))))).1
                    have gl71 := gσ59 b (mb.up xτ68).1
                    have gl72 := gσ59 b_1 (mb_1.up xτ68).1
                    have gl73 := gσ59 b_2 mb_2.1
                    have kp74 : gI σ59 J 1 = gI τ68 J 1 := by rw [eσ59]; exact (gwσ59.2.2.2 J (kJ.up (xσ43.trans (xσ44.trans (xσ45.trans (xτ17.trans (xσ48.trans xτ68)))))).1 1).1
                    have kp75 : gI σ59 th 10 = gI τ68 th 10 := by rw [eσ59]; exact (gwσ59.2.2.2 th (kth.up (xσ43.trans (xσ44.trans (xσ45.trans (xτ17.trans (xσ48.trans xτ68)))))).1 10).1
                    have kp76 : gP σ59 J 0 = gP τ68 J 0 := by rw [eσ59, gP_pP, up2_n _ _ (fun z => absurd z.1 (kO.ne (kJ.up (xσ43.trans (xσ44.trans (xσ45.trans (xτ17.trans (xσ48.trans xτ68)))))) mb_2 (by decide)))]; exact (gwσ59.2.2.2 J (kJ.up (xσ43.trans (xσ44.trans (xσ45.trans (xτ17.trans (xσ48.trans xτ68)))))).1 0).2.1
                    have kp77 : gP σ59 th 3 = gP τ68 th 3 := by rw [eσ59, gP_pP, up2_n _ _ (fun z => absurd z.1 (kO.ne (kth.up (xσ43.trans (xσ44.trans (xσ45.trans (xτ17.trans (xσ48.trans xτ68)))))) mb_2 (by decide)))]; exact (gwσ59.2.2.2 th (kth.up (xσ43.trans (xσ44.trans (xσ45.trans (xτ17.trans (xσ48.trans xτ68)))))).1 3).2.1
                    have kp78 : gP σ59 th 5 = gP τ68 th 5 := by rw [eσ59, gP_pP, up2_n _ _ (fun z => absurd z.1 (kO.ne (kth.up (xσ43.trans (xσ44.trans (xσ45.trans (xτ17.trans (xσ48.trans xτ68)))))) mb_2 (by decide)))]; exact (gwσ59.2.2.2 th (kth.up (xσ43.trans (xσ44.trans (xσ45.trans (xτ17.trans (xσ48.trans xτ68)))))).1 5).2.1
                    have kp79 : gP σ59 th 9 = gP τ68 th 9 := by rw [eσ59, gP_pP, up2_n _ _ (fun z => absurd z.1 (kO.ne (kth.up (xσ43.trans (xσ44.trans (xσ45.trans (xτ17.trans (xσ48.trans xτ68)))))) mb_2 (by decide)))]; exact (gwσ59.2.2.2 th (kth.up (xσ43.trans (xσ44.trans (xσ45.trans (xτ17.trans (xσ48.trans xτ68)))))).1 9).2.1
                    have kp80 : gI σ59 th 12 = gI τ68 th 12 := by rw [eσ59]; exact (gwσ59.2.2.2 th (kth.up (xσ43.trans (xσ44.trans (xσ45.trans (xτ17.trans (xσ48.trans xτ68)))))).1 12).1
                    have kp81 : gI σ59 th 11 = gI τ68 th 11 := by rw [eσ59]; exact (gwσ59.2.2.2 th (kth.up (xσ43.trans (xσ44.trans (xσ45.trans (xτ17.trans (xσ48.trans xτ68)))))).1 11).1
                    have fx59 : Fx [7680] gr τ68 σ59 := gwσ59.fx eσ59 mb_2 (by decide)
                    have v1559 : nuσ59 15 = nut68 15 := by rw [enuσ59]; exact up1_n _ _ (by decide)
                    have v1659 : nuσ59 16 = nut68 16 := by rw [enuσ59]; exact up1_n _ _ (by decide)
                    have v1759 : nuσ59 17 = nut68 17 := by rw [enuσ59]; exact up1_n _ _ (by decide)
                    unfold w_X9_layOut_111
                    have tc111 := iσ59.tc (kth.up (xσ43.trans (xσ44.trans (xσ45.trans (xτ17.trans (xσ48.trans (xτ68.trans xσ59)))))))
                    have n111 := iσ59.n16
                    have sl9 : gP σ59 b_2 (gI σ59 th 10).toNat ≠ none := by first | assumption | (rw [show gI σ59 th 10 = gI τ68 th 10 by omega, psσ59]; simp)
                    have sl8 : gP σ59 b_2 (nuσ59 15) ≠ none := by rw [show nuσ59 15 = (gI σ59 th 10).toNat by omega]; exact sl9
                    have lt111 : LT1 σ59 gqσ59 ciσ59 nuσ59 ot v1.toNat := by first | exact hi68.2.1 | exact hi68.2.1.fx iτ68 iσ59 gσ59 fx59 (by omega) (by decide)
                    have ft111 : FT1 σ59 F ot v1.toNat (v2.toNat + 1) := by first | exact hi68.2.2.1 | exact hi68.2.2.1.fx (kF.up (xσ43.trans (xσ44.trans (xσ45.trans (xτ17.trans (xσ48.trans xτ68)))))) gF fx59 (by decide)
                    have z111 : Z12 σ59 gqσ59 ciσ59 nuσ59 0 := by first | exact hi68.2.2.2.1 | exact hi68.2.2.2.1.fx iτ68 iσ59 gσ59 fx59 (by omega) (by decide)
                    obtain ⟨nuA, iσ59, hA0, uA, eA⟩ := iσ59.mk0 (mb_2.up xσ59) (by omega) (by omega) sl8
                    have nuz82 : NW nu nuA := nu_σ59.tr uA
                    have eA16 := eA 16 (by decide)
                    have eA15 := eA 15 (by decide)
                    have eA17 := eA 17 (by decide)
                    have lt112 := lt111.nv9 eA15
                    have z112 := z111.nv9 eA15
                    refine ⟨b_2, (kp77.trans eb_2), fun kk_b_2_2 => ?_⟩
                    have q83 := (xσ59 b_2 mb_2.1).2.2
                    refine ⟨⟨by (first | omega | with_reducible assumption | with_reducible exact rng_toInt _ | with_reducible exact rng_wr _ | (unfold rng; omega) | (unfold rng at *; omega) | assumption), by (first | omega | with_reducible assumption | with_reducible exact rng_toInt _ | with_reducible exact rng_wr _ | (unfold rng; omega) | (unfold rng at *; omega) | assumption)⟩, ?_⟩
                    have n16b_4 := iσ59.n16
                    obtain ⟨b_4, eb_4, mb_4, fb_4⟩ := P_120 iσ59 (mb_2.up xσ59) (by omega) (k := (gI σ59 th 10).toNat) (by (first | omega | with_reducible assumption | with_reducible exact rng_toInt _ | with_reducible exact rng_wr _ | (unfold rng; omega) | (unfold rng at *; omega) | assumption))
                    refine ⟨b_4, eb_4, fun kk_b_4 => ?_⟩
                    refine i2_X10_lay iσ59 mb_4 (by (first | omega | with_reducible assumption | with_reducible exact rng_toInt _ | with_reducible exact rng_wr _ | (unfold rng; omega) | (unfold rng at *; omega) | assumption)) (by (first | omega | with_reducible assumption | with_reducible exact rng_toInt _ | with_reducible exact rng_wr _ | (unfold rng; omega) | (unfold rng at *; omega) | assumption)) (by (first | omega | with_reducible assumption | with_reducible exact rng_toInt _ | with_reducible exact rng_wr _ | (unfold rng; omega) | (unfold rng at *; omega) | assumption)) (fun σ61_1 _ iσ61_1 cσ61_1 pσ61_1 => ?_)
                    intro xσ61_1
                    have fσ61_1 : Fx [129, 130, 131, 132, 133, 134, 135, 586, 587, 588, 640, 641, 645, 646, 647, 648, 649, 650, 651, 652, 653, 654, 655, 7168, 7680, 8512] gr σ σ61_1 := fσ59.tr (cσ61_1.mo (by decide))
                    have kp84 : gI σ61_1 J 1 = gI σ59 J 1 := (cσ61_1.O (kJ.up (xσ43.trans (xσ44.trans (xσ45.trans (xτ17.trans (xσ48.trans (xτ68.trans xσ59))))))) (by decide)).1
                    have kp85 : gI σ61_1 th 10 = gI σ59 th 10 := (cσ61_1.O (kth.up (xσ43.trans (xσ44.trans (xσ45.trans (xτ17.trans (xσ48.trans (xτ68.trans xσ59))))))) (by decide)).1
                    have kp86 : gP σ61_1 J 0 = gP σ59 J 0 := (cσ61_1.O (kJ.up (xσ43.trans (xσ44.trans (xσ45.trans (xτ17.trans (xσ48.trans (xτ68.trans xσ59))))))) (by decide)).2.1
                    have kp87 : gP σ61_1 b_2 (gI σ59 th 10).toNat = gP σ59 b_2 (gI σ59 th 10).toNat := (cσ61_1.A (mb_2.up xσ59) (by decide)).2.1
                    have kp88 : gP σ61_1 b_2 (gI τ68 th 10).toNat = gP σ59 b_2 (gI τ68 th 10).toNat := (cσ61_1.A (mb_2.up xσ59) (by decide)).2.1
                    have kp89 : gP σ61_1 th 3 = gP σ59 th 3 := (cσ61_1.O (kth.up (xσ43.trans (xσ44.trans (xσ45.trans (xτ17.trans (xσ48.trans (xτ68.trans xσ59))))))) (by decide)).2.1
                    have kp90 : gP σ61_1 th 5 = gP σ59 th 5 := (cσ61_1.O (kth.up (xσ43.trans (xσ44.trans (xσ45.trans (xτ17.trans (xσ48.trans (xτ68.trans xσ59))))))) (by decide)).2.1
                    have kp91 : gP σ61_1 th 9 = gP σ59 th 9 := (cσ61_1.O (kth.up (xσ43.trans (xσ44.trans (xσ45.trans (xτ17.trans (xσ48.trans (xτ68.trans xσ59))))))) (by decide)).2.1
                    have kp92 : gI σ61_1 th 12 = gI σ59 th 12 := (cσ61_1.O (kth.up (xσ43.trans (xσ44.trans (xσ45.trans (xτ17.trans (xσ48.trans (xτ68.trans xσ59))))))) (by decide)).1
                    have kp93 : gI σ61_1 th 11 = gI σ59 th 11 := (cσ61_1.O (kth.up (xσ43.trans (xσ44.trans (xσ45.trans (xτ17.trans (xσ48.trans (xτ68.trans xσ59))))))) (by decide)).1
                    refine ⟨by (first | omega | with_reducible assumption | with_reducible exact rng_toInt _ | with_reducible exact rng_wr _ | (unfold rng; omega) | (unfold rng at *; omega) | assumption), ?_⟩
                    intro σ63_1 eσ63_1
                    have xσ63_1 : Ext σ61_1 σ63_1 := by rw [eσ63_1]; exact fun _ h => ⟨h, rfl, rfl⟩
                    obtain ⟨nuσ63_1, iσ63_1, enuσ63_1⟩ : ∃ nu9 : Nat → Nat, IV σ63_1 pl gqσ59 ciσ59 gr nc ot LLt68 Nt68 nu9 ∧ nu9 = up1 nuA 15 (nuA 15 + 1) := ⟨_, by rw [eσ63_1]; exact by rw [show gI σ61_1 th 10 = (nuA 15 : Int) by omega]; exact iσ61_1.tk1 (kth.up (xσ43.trans (xσ44.trans (xσ45.trans (xτ17.trans (xσ48.trans (xτ68.trans (xσ59.trans xσ61_1)))))))) (mb_4.up xσ61_1) (by omega) (by omega) (by omega) (by omega) (by omega) (by omega) (by omega), rfl⟩
                    have uσ63_1 : NW nuA nuσ63_1 := by rw [enuσ63_1]; exact nw15b
                    have fσ63_1 : Fx [129, 130, 131, 132, 133, 134, 135, 586, 587, 588, 640, 641, 645, 646, 647, 648, 649, 650, 651, 652, 653, 654, 655, 7168, 7680, 8512] gr σ σ63_1 := fσ61_1.tr (Sk.fx (by rw [eσ63_1]; exact Sk.pI (by rw [fcdO (kth.up (xσ43.trans (xσ44.trans (xσ45.trans (xτ17.trans (xσ48.trans (xτ68.trans (xσ59.trans xσ61_1)))))))) (by decide)]; decide)))
                    have nu_σ63_1 : NW nu nuσ63_1 := nuz82.tr uσ63_1
                    have w15 : nuσ63_1 15 = nuA 15 + 1 := by rw [enuσ63_1, up1_s]
                    have w16 : nuσ63_1 16 = nuA 16 := by rw [enuσ63_1, up1_n _ _ (by decide)]
                    have w17 : nuσ63_1 17 = nuA 17 := by rw [enuσ63_1, up1_n _ _ (by decide)]
                    have wσ63_1 : gI σ63_1 th 10 = (gI σ61_1 th 10 + 1) := by rw [eσ63_1]; exact up2_s _ _ _ _
                    have kp94 : gI σ63_1 J 1 = gI σ61_1 J 1 := by rw [eσ63_1]; exact up2_n _ _ (fun q => absurd q.2 (by decide))
                    have kp95 : gP σ63_1 J 0 = gP σ61_1 J 0 := by rw [eσ63_1]
                    have kp96 : gP σ63_1 b_2 (gI σ59 th 10).toNat = gP σ61_1 b_2 (gI σ59 th 10).toNat := by rw [eσ63_1]
                    have kp97 : gP σ63_1 b_2 (gI τ68 th 10).toNat = gP σ61_1 b_2 (gI τ68 th 10).toNat := by rw [eσ63_1]
                    have kp98 : gP σ63_1 th 3 = gP σ61_1 th 3 := by rw [eσ63_1]
                    have kp99 : gP σ63_1 th 5 = gP σ61_1 th 5 := by rw [eσ63_1]
                    have kp100 : gP σ63_1 th 9 = gP σ61_1 th 9 := by rw [eσ63_1]
                    have kp101 : gI σ63_1 th 12 = gI σ61_1 th 12 := by rw [eσ63_1]; exact up2_n _ _ (fun q => absurd q.2 (by decide))
                    have kp102 : gI σ63_1 th 11 = gI σ61_1 th 11 := by rw [eσ63_1]; exact up2_n _ _ (fun q => absurd q.2 (by decide))
                    have k630 : gI σ63_1 b_4 0 = gI σ61_1 b_4 0 := by rw [eσ63_1, gI_pI, up2_n _ _ (fun z => absurd z.2 (by decide))]
                    have k631 : gI σ63_1 b_4 1 = gI σ61_1 b_4 1 := by rw [eσ63_1, gI_pI, up2_n _ _ (fun z => absurd z.2 (by decide))]
                    have k6312 : gI σ63_1 b_4 12 = gI σ61_1 b_4 12 := by rw [eσ63_1, gI_pI, up2_n _ _ (fun z => absurd z.2 (by decide))]
                    have lt63 : LT1 σ63_1 gqσ59 ciσ59 nuσ63_1 ot v1.toNat := lt112.add (t := b_4) iσ59 iσ63_1 (by rw [eσ63_1]; exact xσ61_1) (fun t9 k9 h9 h8 => by rw [eσ63_1, gI_pI, up2_n _ _ (fun z => absurd z.1 (kO.ne (h9.up xσ61_1) (kth.up (xσ43.trans (xσ44.trans (xσ45.trans (xτ17.trans (xσ48.trans (xτ68.trans (xσ59.trans xσ61_1)))))))) (by decide)))]; exact pσ61_1.2 t9 k9 h8) (mb_4.up (xσ61_1.trans xσ63_1)) (by omega) (by omega) (by omega) (by omega) (fun j ja jb => by have := bsO_un (ot := ot) hv2 (i := j) (j := v2.toNat) ja jb (by omega) (by omega); omega)
                    have z63 : Z12 σ63_1 gqσ59 ciσ59 nuσ63_1 0 := z112.add (t := b_4) iσ59 iσ63_1 (by rw [eσ63_1]; exact xσ61_1) (fun t9 k9 h9 h8 => by rw [eσ63_1, gI_pI, up2_n _ _ (fun z => absurd z.1 (kO.ne (h9.up xσ61_1) (kth.up (xσ43.trans (xσ44.trans (xσ45.trans (xτ17.trans (xσ48.trans (xτ68.trans (xσ59.trans xσ61_1)))))))) (by decide)))]; exact pσ61_1.2 t9 k9 h8) (mb_4.up (xσ61_1.trans xσ63_1)) (by omega) (by omega) (by omega) (by omega)
                    have ft63 : FT1 σ63_1 F ot v1.toNat (v2.toNat + 1) := fun j hj => by rw [eσ63_1, gI_pI, up2_n _ _ (fun z => absurd z.1 (kO.ne (kF.up (xσ43.trans (xσ44.trans (xσ45.trans (xτ17.trans (xσ48.trans (xτ68.trans (xσ59.trans (xσ61_1.trans xσ63_1))))))))) (kth.up (xσ43.trans (xσ44.trans (xσ45.trans (xτ17.trans (xσ48.trans (xτ68.trans (xσ59.trans (xσ61_1.trans xσ63_1))))))))) (by decide))), pσ61_1.2 F j (kO.ne (kF.up (xσ43.trans (xσ44.trans (xσ45.trans (xτ17.trans (xσ48.trans (xτ68.trans (xσ59.trans (xσ61_1.trans xσ63_1))))))))) (mb_4.up (xσ61_1.trans xσ63_1)) (by decide))]; exact ft111 j hj
                    refine ⟨by (first | omega | with_reducible assumption | with_reducible exact rng_toInt _ | with_reducible exact rng_wr _ | (unfold rng; omega) | (unfold rng at *; omega) | assumption), ?_⟩
                    exact ih68 σ63_1 gqσ59 ciσ59 LLt68 Nt68 nuσ63_1 (v4 + 1) iσ63_1 fσ63_1 (xτ68.trans (xσ59.trans (xσ61_1.trans xσ63_1))) (((GE.rf).tr giτ68 (fun d hd => ((Ext.rfl' _) d hd).1)).tr gσ59 (fun d hd => ((xτ68) d hd).1)) nu_σ63_1 hnτ68 (⟨⟨by omega, by omega, by omega, by omega, by omega⟩, lt63, ft63, z63, hi68.2.2.2.2.1, hi68.2.2.2.2.2⟩) (by (first | omega | with_reducible assumption | with_reducible exact rng_toInt _ | with_reducible exact rng_wr _ | (unfold rng; omega) | (unfold rng at *; omega) | assumption))
          have q103 := I_9_12 iσ48.1 (kth.up (xσ43.trans (xσ44.trans (xσ45.trans (xτ17.trans xσ48)))))
          exact ⟨_, Lp68 _ σ48 gqt17 cit17 LLt17 Nt17 nut17 _ iσ48 fσ48 (Ext.rfl' _) GE.rf nu_τ17 hnτ17 (⟨⟨by omega, by omega, by omega, by omega, by omega⟩, lt48, ft48, z48, hi17.2.2.2.2.1, hi17.2.2.2.2.2⟩) (Nat.lt_succ_self _)⟩
        · rw [if_neg hc37]
          unfold w_X9_layOut_56
          unfold w_X9_layOut_64
          have bq : (bsO ot v1.toNat (v2.toNat + 1) : Int) = bsO ot v1.toNat v2.toNat + 1 := by first | (have := bsO_one (ot := ot) (P := v1.toNat) (j := v2.toNat) (by omega); omega) | (have := bsO_P (ot := ot) (P := v1.toNat) (j := v2.toNat) (by omega); omega)
          have bl := bsO_le (ot := ot) hv2 (v2.toNat + 1)
          have bv : 1 ≤ 1 ∧ 1 ≤ v1 := by omega
          have Lp68 : ∀ (fu68 : Nat) (τ68 : Sg) (gqt68 cit68 : Nat → Nat) (LLt68 : Nat → List Nat) (Nt68 nut68 : Nat → Nat) (v4 : Int), IV τ68 pl gqt68 cit68 gr nc ot LLt68 Nt68 nut68 → Fx [129, 130, 131, 132, 133, 134, 135, 586, 587, 588, 640, 641, 645, 646, 647, 648, 649, 650, 651, 652, 653, 654, 655, 7168, 7680, 8512] gr σ τ68 → Ext σ48 τ68 → GE (gD σ48) gqt17 cit17 gqt68 cit68 → NW nu nut68 → Hn (gD σ) [] [] gq LL LLt68 N Nt68 → (((0 ≤ v4 ∧ v4 ≤ 1) ∧ nut68 15 = bsO ot v1.toNat v2.toNat + v4.toNat ∧ nut68 16 = 0 ∧ nut68 17 = nc 1 ∧ gI τ68 th 12 = v1) ∧ LT1 τ68 gqt68 cit68 nut68 ot v1.toNat ∧ FT1 τ68 F ot v1.toNat (v2.toNat + 1) ∧ Z12 τ68 gqt68 cit68 nut68 0 ∧ LLt68 = LL ∧ Nt68 = N) → ((1 - v4).toNat) < fu68 → wl_X9_layOut_68 th (wl_X9_layOut_17 th Q X fu17) Q X fu68 τ68 v2 1 v4 := by
            intro fu68
            induction fu68 with
            | zero => intro _ _ _ _ _ _ _ _ _ _ _ _ _ _ h9; omega
            | succ fu68 ih68 =>
              intro τ68 gqt68 cit68 LLt68 Nt68 nut68 v4 iτ68 fτ68 xτ68 giτ68 nu_τ68 hnτ68 hi68 hm68
              have geτ68 : GE (gD σ) gq ci gqt68 cit68 := geτ17.tr giτ68 (fun d hd => (fσ48.1 d hd).1)
              have gl104 := giτ68 J (kJ.up (xσ43.trans (xσ44.trans (xσ45.trans (xτ17.trans xσ48))))).1
              have gl105 := giτ68 b mb.1
              have gl106 := giτ68 b_1 mb_1.1
              have uτ68_5 := nu_τ68.1 5 (by decide)
              have uτ68_0 := nu_τ68.2
              unfold wl_X9_layOut_68
              have kp107 : gP τ68 th 5 = gP σ th 5 := (fτ68.O kth (by decide)).2.1
              have kp108 : gP τ68 th 9 = gP σ th 9 := (fτ68.O kth (by decide)).2.1
              have kp109 : gI τ68 J 1 = gI σ48 J 1 := (fτ68.O kJ (by decide)).1.trans (fσ48.O kJ (by decide)).1.symm
              have kp110 : gP τ68 J 0 = gP σ48 J 0 := (fτ68.O kJ (by decide)).2.1.trans (fσ48.O kJ (by decide)).2.1.symm
              have tc68 := iτ68.tc (kth.up (xσ43.trans (xσ44.trans (xσ45.trans (xτ17.trans (xσ48.trans xτ68))))))
              have n68 := iτ68.n16
              unfold w_X9_layOut_68
              by_cases hc111 : v4 ≥ 1
              · rw [if_pos hc111]
                unfold w_X9_layOut_142
                refine ⟨by (first | omega | with_reducible assumption | with_reducible exact rng_toInt _ | with_reducible exact rng_wr _ | (unfold rng; omega) | (unfold rng at *; omega) | assumption), ?_⟩
                exact ih17 τ68 gqt68 cit68 LLt68 Nt68 nut68 (v2 + 1) iτ68 fτ68 (xτ17.trans (xσ48.trans xτ68)) (((GE.rf).tr giτ17 (fun d hd => ((Ext.rfl' _) d hd).1)).tr giτ68 (fun d hd => ((xτ17.trans xσ48) d hd).1)) nu_τ68 hnτ68 (by exact ⟨⟨by omega, by rw [show (v2 + 1).toNat = v2.toNat + 1 by omega]; omega, by omega, by omega, by omega⟩, hi68.2.1, by rw [show (v2 + 1).toNat = v2.toNat + 1 by omega]; exact hi68.2.2.1, hi68.2.2.2.1, hi68.2.2.2.2.1, hi68.2.2.2.2.2⟩) (by (first | omega | with_reducible assumption | with_reducible exact rng_toInt _ | with_reducible exact rng_wr _ | (unfold rng; omega) | (unfold rng at *; omega) | assumption))
              · rw [if_neg hc111]
                unfold w_X9_layOut_74
                have q113 := iτ68.tc (kth.up (xσ43.trans (xσ44.trans (xσ45.trans (xτ17.trans (xσ48.trans xτ68))))))
                have q114 := I_9_10 iτ68.1 (kth.up (xσ43.trans (xσ44.trans (xσ45.trans (xτ17.trans (xσ48.trans xτ68))))))
                by_cases hc112 : gI τ68 th 10 ≥ 64
                · rw [if_pos hc112]
                  unfold w_X9_layOut_142
                  refine ⟨by (first | omega | with_reducible assumption | with_reducible exact rng_toInt _ | with_reducible exact rng_wr _ | (unfold rng; omega) | (unfold rng at *; omega) | assumption), ?_⟩
                  exact ih17 τ68 gqt68 cit68 LLt68 Nt68 nut68 (v2 + 1) iτ68 fτ68 (xτ17.trans (xσ48.trans xτ68)) (((GE.rf).tr giτ17 (fun d hd => ((Ext.rfl' _) d hd).1)).tr giτ68 (fun d hd => ((xτ17.trans xσ48) d hd).1)) nu_τ68 hnτ68 (by exact ⟨⟨by omega, by rw [show (v2 + 1).toNat = v2.toNat + 1 by omega]; omega, by omega, by omega, by omega⟩, hi68.2.1, by rw [show (v2 + 1).toNat = v2.toNat + 1 by omega]; exact hi68.2.2.1, hi68.2.2.2.1, hi68.2.2.2.2.1, hi68.2.2.2.2.2⟩) (by (first | omega | with_reducible assumption | with_reducible exact rng_toInt _ | with_reducible exact rng_wr _ | (unfold rng; omega) | (unfold rng at *; omega) | assumption))
                · rw [if_neg hc112]
                  unfold w_X9_layOut_83
                  have tc83 := iτ68.tc (kth.up (xσ43.trans (xσ44.trans (xσ45.trans (xτ17.trans (xσ48.trans xτ68))))))
                  have n83 := iτ68.n16
                  obtain ⟨b_5, eb_5, fb_5⟩ := P_9_3 iτ68.1 (kth.up (xσ43.trans (xσ44.trans (xσ45.trans (xτ17.trans (xσ48.trans xτ68))))))
                  have mb_5 : kO τ68 b_5 120 := iτ68.1.kd (kth.up (xσ43.trans (xσ44.trans (xσ45.trans (xτ17.trans (xσ48.trans xτ68)))))) rfl eb_5 rfl
                  refine ⟨b_5, eb_5, fun kk_b_5 => ?_⟩
                  refine ⟨⟨by (first | omega | with_reducible assumption | with_reducible exact rng_toInt _ | with_reducible exact rng_wr _ | (unfold rng; omega) | (unfold rng at *; omega) | assumption), by (first | omega | with_reducible assumption | with_reducible exact rng_toInt _ | with_reducible exact rng_wr _ | (unfold rng; omega) | (unfold rng at *; omega) | assumption)⟩, ?_⟩
                  by_cases hc115 : (gP τ68 b_5 (gI τ68 th 10).toNat) ≠ none
                  · rw [if_pos hc115]
                    unfold w_X9_layOut_111
                    have tc111 := iτ68.tc (kth.up (xσ43.trans (xσ44.trans (xσ45.trans (xτ17.trans (xσ48.trans xτ68))))))
                    have n111 := iτ68.n16
                    have sl9 : gP τ68 b_5 (gI τ68 th 10).toNat ≠ none := by first | assumption | (rw [show gI τ68 th 10 = gI τ68 th 10 by omega, psσ59]; simp)
                    have sl8 : gP τ68 b_5 (nut68 15) ≠ none := by rw [show nut68 15 = (gI τ68 th 10).toNat by omega]; exact sl9
                    have lt111 : LT1 τ68 gqt68 cit68 nut68 ot v1.toNat := by first | exact hi68.2.1 | exact hi68.2.1.fx iτ68 iτ68 gτ68 fx59 (by omega) (by decide)
                    have ft111 : FT1 τ68 F ot v1.toNat (v2.toNat + 1) := by first | exact hi68.2.2.1 | exact hi68.2.2.1.fx (kF.up (xσ43.trans (xσ44.trans (xσ45.trans (xτ17.trans (xσ48.trans xτ68)))))) gF fx59 (by decide)
                    have z111 : Z12 τ68 gqt68 cit68 nut68 0 := by first | exact hi68.2.2.2.1 | exact hi68.2.2.2.1.fx iτ68 iτ68 gτ68 fx59 (by omega) (by decide)
                    obtain ⟨nuA, iτ68, hA0, uA, eA⟩ := iτ68.mk0 mb_5 (by omega) (by omega) sl8
                    have nuz116 : NW nu nuA := nu_τ68.tr uA
                    have eA16 := eA 16 (by decide)
                    have eA15 := eA 15 (by decide)
                    have eA17 := eA 17 (by decide)
                    have lt112 := lt111.nv9 eA15
                    have z112 := z111.nv9 eA15
                    refine ⟨b_5, eb_5, fun kk_b_5_1 => ?_⟩
                    refine ⟨⟨by (first | omega | with_reducible assumption | with_reducible exact rng_toInt _ | with_reducible exact rng_wr _ | (unfold rng; omega) | (unfold rng at *; omega) | assumption), by (first | omega | with_reducible assumption | with_reducible exact rng_toInt _ | with_reducible exact rng_wr _ | (unfold rng; omega) | (unfold rng at *; omega) | assumption)⟩, ?_⟩
                    obtain ⟨b_6, eb_6⟩ := Option.ne_none_iff_exists'.mp hc115
                    have fb_6 := T_120 iτ68.1 mb_5 eb_6
                    have mb_6 : kO τ68 b_6 10 := iτ68.1.kd mb_5 rfl eb_6 rfl
                    refine ⟨b_6, eb_6, fun kk_b_6 => ?_⟩
                    refine i2_X10_lay iτ68 mb_6 (by (first | omega | with_reducible assumption | with_reducible exact rng_toInt _ | with_reducible exact rng_wr _ | (unfold rng; omega) | (unfold rng at *; omega) | assumption)) (by (first | omega | with_reducible assumption | with_reducible exact rng_toInt _ | with_reducible exact rng_wr _ | (unfold rng; omega) | (unfold rng at *; omega) | assumption)) (by (first | omega | with_reducible assumption | with_reducible exact rng_toInt _ | with_reducible exact rng_wr _ | (unfold rng; omega) | (unfold rng at *; omega) | assumption)) (fun σ61_2 _ iσ61_2 cσ61_2 pσ61_2 => ?_)
                    intro xσ61_2
                    have fσ61_2 : Fx [129, 130, 131, 132, 133, 134, 135, 586, 587, 588, 640, 641, 645, 646, 647, 648, 649, 650, 651, 652, 653, 654, 655, 7168, 7680, 8512] gr σ σ61_2 := fτ68.tr (cσ61_2.mo (by decide))
                    have kp117 : gI σ61_2 J 1 = gI τ68 J 1 := (cσ61_2.O (kJ.up (xσ43.trans (xσ44.trans (xσ45.trans (xτ17.trans (xσ48.trans xτ68)))))) (by decide)).1
                    have kp118 : gI σ61_2 th 10 = gI τ68 th 10 := (cσ61_2.O (kth.up (xσ43.trans (xσ44.trans (xσ45.trans (xτ17.trans (xσ48.trans xτ68)))))) (by decide)).1
                    have kp119 : gP σ61_2 J 0 = gP τ68 J 0 := (cσ61_2.O (kJ.up (xσ43.trans (xσ44.trans (xσ45.trans (xτ17.trans (xσ48.trans xτ68)))))) (by decide)).2.1
                    have kp120 : gP σ61_2 b_5 (gI τ68 th 10).toNat = gP τ68 b_5 (gI τ68 th 10).toNat := (cσ61_2.A mb_5 (by decide)).2.1
                    have kp121 : gP σ61_2 th 3 = gP τ68 th 3 := (cσ61_2.O (kth.up (xσ43.trans (xσ44.trans (xσ45.trans (xτ17.trans (xσ48.trans xτ68)))))) (by decide)).2.1
                    have kp122 : gP σ61_2 th 5 = gP τ68 th 5 := (cσ61_2.O (kth.up (xσ43.trans (xσ44.trans (xσ45.trans (xτ17.trans (xσ48.trans xτ68)))))) (by decide)).2.1
                    have kp123 : gP σ61_2 th 9 = gP τ68 th 9 := (cσ61_2.O (kth.up (xσ43.trans (xσ44.trans (xσ45.trans (xτ17.trans (xσ48.trans xτ68)))))) (by decide)).2.1
                    have kp124 : gI σ61_2 th 12 = gI τ68 th 12 := (cσ61_2.O (kth.up (xσ43.trans (xσ44.trans (xσ45.trans (xτ17.trans (xσ48.trans xτ68)))))) (by decide)).1
                    have kp125 : gI σ61_2 th 11 = gI τ68 th 11 := (cσ61_2.O (kth.up (xσ43.trans (xσ44.trans (xσ45.trans (xτ17.trans (xσ48.trans xτ68)))))) (by decide)).1
                    refine ⟨by (first | omega | with_reducible assumption | with_reducible exact rng_toInt _ | with_reducible exact rng_wr _ | (unfold rng; omega) | (unfold rng at *; omega) | assumption), ?_⟩
                    intro σ63_2 eσ63_2
                    have xσ63_2 : Ext σ61_2 σ63_2 := by rw [eσ63_2]; exact fun _ h => ⟨h, rfl, rfl⟩
                    obtain ⟨nuσ63_2, iσ63_2, enuσ63_2⟩ : ∃ nu9 : Nat → Nat, IV σ63_2 pl gqt68 cit68 gr nc ot LLt68 Nt68 nu9 ∧ nu9 = up1 nuA 15 (nuA 15 + 1) := ⟨_, by rw [eσ63_2]; exact by rw [show gI σ61_2 th 10 = (nuA 15 : Int) by omega]; exact iσ61_2.tk1 (kth.up (xσ43.trans (xσ44.trans (xσ45.trans (xτ17.trans (xσ48.trans (xτ68.trans xσ61_2))))))) (mb_6.up xσ61_2) (by omega) (by omega) (by omega) (by omega) (by omega) (by omega) (by omega), rfl⟩
                    have uσ63_2 : NW nuA nuσ63_2 := by rw [enuσ63_2]; exact nw15b
                    have fσ63_2 : Fx [129, 130, 131, 132, 133, 134, 135, 586, 587, 588, 640, 641, 645, 646, 647, 648, 649, 650, 651, 652, 653, 654, 655, 7168, 7680, 8512] gr σ σ63_2 := fσ61_2.tr (Sk.fx (by rw [eσ63_2]; exact Sk.pI (by rw [fcdO (kth.up (xσ43.trans (xσ44.trans (xσ45.trans (xτ17.trans (xσ48.trans (xτ68.trans xσ61_2))))))) (by decide)]; decide)))
                    have nu_σ63_2 : NW nu nuσ63_2 := nuz116.tr uσ63_2
                    have w15 : nuσ63_2 15 = nuA 15 + 1 := by rw [enuσ63_2, up1_s]
                    have w16 : nuσ63_2 16 = nuA 16 := by rw [enuσ63_2, up1_n _ _ (by decide)]
                    have w17 : nuσ63_2 17 = nuA 17 := by rw [enuσ63_2, up1_n _ _ (by decide)]
                    have wσ63_2 : gI σ63_2 th 10 = (gI σ61_2 th 10 + 1) := by rw [eσ63_2]; exact up2_s _ _ _ _
                    have kp126 : gI σ63_2 J 1 = gI σ61_2 J 1 := by rw [eσ63_2]; exact up2_n _ _ (fun q => absurd q.2 (by decide))
                    have kp127 : gP σ63_2 J 0 = gP σ61_2 J 0 := by rw [eσ63_2]
                    have kp128 : gP σ63_2 b_5 (gI τ68 th 10).toNat = gP σ61_2 b_5 (gI τ68 th 10).toNat := by rw [eσ63_2]
                    have kp129 : gP σ63_2 th 3 = gP σ61_2 th 3 := by rw [eσ63_2]
                    have kp130 : gP σ63_2 th 5 = gP σ61_2 th 5 := by rw [eσ63_2]
                    have kp131 : gP σ63_2 th 9 = gP σ61_2 th 9 := by rw [eσ63_2]
                    have kp132 : gI σ63_2 th 12 = gI σ61_2 th 12 := by rw [eσ63_2]; exact up2_n _ _ (fun q => absurd q.2 (by decide))
                    have kp133 : gI σ63_2 th 11 = gI σ61_2 th 11 := by rw [eσ63_2]; exact up2_n _ _ (fun q => absurd q.2 (by decide))
                    have k630 : gI σ63_2 b_6 0 = gI σ61_2 b_6 0 := by rw [eσ63_2, gI_pI, up2_n _ _ (fun z => absurd z.2 (by decide))]
                    have k631 : gI σ63_2 b_6 1 = gI σ61_2 b_6 1 := by rw [eσ63_2, gI_pI, up2_n _ _ (fun z => absurd z.2 (by decide))]
                    have k6312 : gI σ63_2 b_6 12 = gI σ61_2 b_6 12 := by rw [eσ63_2, gI_pI, up2_n _ _ (fun z => absurd z.2 (by decide))]
                    have lt63 : LT1 σ63_2 gqt68 cit68 nuσ63_2 ot v1.toNat := lt112.add (t := b_6) iτ68 iσ63_2 (by rw [eσ63_2]; exact xσ61_2) (fun t9 k9 h9 h8 => by rw [eσ63_2, gI_pI, up2_n _ _ (fun z => absurd z.1 (kO.ne (h9.up xσ61_2) (kth.up (xσ43.trans (xσ44.trans (xσ45.trans (xτ17.trans (xσ48.trans (xτ68.trans xσ61_2))))))) (by decide)))]; exact pσ61_2.2 t9 k9 h8) (mb_6.up (xσ61_2.trans xσ63_2)) (by omega) (by omega) (by omega) (by omega) (fun j ja jb => by have := bsO_un (ot := ot) hv2 (i := j) (j := v2.toNat) ja jb (by omega) (by omega); omega)
                    have z63 : Z12 σ63_2 gqt68 cit68 nuσ63_2 0 := z112.add (t := b_6) iτ68 iσ63_2 (by rw [eσ63_2]; exact xσ61_2) (fun t9 k9 h9 h8 => by rw [eσ63_2, gI_pI, up2_n _ _ (fun z => absurd z.1 (kO.ne (h9.up xσ61_2) (kth.up (xσ43.trans (xσ44.trans (xσ45.trans (xτ17.trans (xσ48.trans (xτ68.trans xσ61_2))))))) (by decide)))]; exact pσ61_2.2 t9 k9 h8) (mb_6.up (xσ61_2.trans xσ63_2)) (by omega) (by omega) (by omega) (by omega)
                    have ft63 : FT1 σ63_2 F ot v1.toNat (v2.toNat + 1) := fun j hj => by rw [eσ63_2, gI_pI, up2_n _ _ (fun z => absurd z.1 (kO.ne (kF.up (xσ43.trans (xσ44.trans (xσ45.trans (xτ17.trans (xσ48.trans (xτ68.trans (xσ61_2.trans xσ63_2)))))))) (kth.up (xσ43.trans (xσ44.trans (xσ45.trans (xτ17.trans (xσ48.trans (xτ68.trans (xσ61_2.trans xσ63_2)))))))) (by decide))), pσ61_2.2 F j (kO.ne (kF.up (xσ43.trans (xσ44.trans (xσ45.trans (xτ17.trans (xσ48.trans (xτ68.trans (xσ61_2.trans xσ63_2)))))))) (mb_6.up (xσ61_2.trans xσ63_2)) (by decide))]; exact ft111 j hj
                    refine ⟨by (first | omega | with_reducible assumption | with_reducible exact rng_toInt _ | with_reducible exact rng_wr _ | (unfold rng; omega) | (unfold rng at *; omega) | assumption), ?_⟩
                    exact ih68 σ63_2 gqt68 cit68 LLt68 Nt68 nuσ63_2 (v4 + 1) iσ63_2 fσ63_2 (xτ68.trans (xσ61_2.trans xσ63_2)) ((GE.rf).tr giτ68 (fun d hd => ((Ext.rfl' _) d hd).1)) nu_σ63_2 hnτ68 (⟨⟨by omega, by omega, by omega, by omega, by omega⟩, lt63, ft63, z63, hi68.2.2.2.2.1, hi68.2.2.2.2.2⟩) (by (first | omega | with_reducible assumption | with_reducible exact rng_toInt _ | with_reducible exact rng_wr _ | (unfold rng; omega) | (unfold rng at *; omega) | assumption))
                  · rw [if_neg hc115]
                    have hc115q := Classical.not_not.mp hc115
                    unfold w_X9_layOut_95
                    have e9z : (gI τ68 th 10).toNat = nut68 15 := by omega
                    have s0z : (gI τ68 th 10).toNat = nut68 0 := by rw [e9z]; exact iτ68.slot0 mb_5 (by omega) (by rw [← e9z]; exact Classical.not_not.mp (by assumption))
                    refine i_newTask iτ68.room4 iτ68.nd iτ68.2.2.2.2.2.2.1.1 (fun qσ59_1 q1σ59_1 q2σ59_1 q3σ59_1 oσ59_1 gwσ59_1 kqσ59_1 kcσ59_1 hIσ59_1 hJσ59_1 hPσ59_1 hPcσ59_1 hcσ59_1 hsσ59_1 hRσ59_1 => ?_)
                    have gnσ59_1 := (gwσ59_1.2.2.1 b_5 mb_5.1).2.2
                    refine ⟨b_5, eb_5, fun _ => ⟨⟨by (first | omega | with_reducible assumption | with_reducible exact rng_toInt _ | with_reducible exact rng_wr _ | (unfold rng; omega) | (unfold rng at *; omega) | assumption), by (first | omega | with_reducible assumption | with_reducible exact rng_toInt _ | with_reducible exact rng_wr _ | (unfold rng; omega) | (unfold rng at *; omega) | assumption)⟩, fun σ59_1 eσ59_1 => ?_⟩⟩
                    obtain ⟨gqσ59_1, ciσ59_1, nuσ59_1, iσ59_1, gσ59_1, enuσ59_1, tcσ59_1, ktσ59_1, psσ59_1⟩ := iτ68.newT mb_5 (T := 1) (by omega) (by omega) (by (first | omega | with_reducible assumption | with_reducible exact rng_toInt _ | with_reducible exact rng_wr _ | (unfold rng; omega) | (unfold rng at *; omega) | assumption)) hc115q (fun _ => s0z) gwσ59_1 eσ59_1 kqσ59_1 kcσ59_1 hIσ59_1 hJσ59_1 hPσ59_1 hPcσ59_1 hcσ59_1 hsσ59_1 hRσ59_1
                    have xσ59_1 : Ext τ68 σ59_1 := by rw [eσ59_1]; exact fun a ha => gwσ59_1.2.2.1 a ha
                    have fσ59_1 : Fx [129, 130, 131, 132, 133, 134, 135, 586, 587, 588, 640, 641, 645, 646, 647, 648, 649, 650, 651, 652, 653, 654, 655, 7168, 7680, 8512] gr σ σ59_1 := fτ68.tr (gwσ59_1.fx eσ59_1 mb_5 (by decide))
                    have uσ59_1 : NW nut68 nuσ59_1 := by rw [enuσ59_1]; exact nu_T1 rfl
                    have nu_σ59_1 : NW nu nuσ59_1 := nu_τ68.tr uσ59_1
                    have geσ59_1 : GE (gD σ) gq ci gqσ59_1 ciσ59_1 := geτ68.tr gσ59_1 (fun d hd => (fτ68.1 d hd).1)
                    have gl135 := gσ59_1 J (kJ.up (xσ43.trans (xσ44.trans (xσ45.trans (xτ17.trans (xσ48.trans xτ68)))))).1
                    have gl136 := gσ59_1 b (mb.up xτ68).1
                    have gl137 := gσ59_1 b_1 (mb_1.up xτ68).1
                    have gl138 := gσ59_1 b_5 mb_5.1
                    have kp139 : gI σ59_1 J 1 = gI τ68 J 1 := by rw [eσ59_1]; exact (gwσ59_1.2.2.2 J (kJ.up (xσ43.trans (xσ44.trans (xσ45.trans (xτ17.trans (xσ48.trans xτ68)))))).1 1).1
                    have kp140 : gI σ59_1 th 10 = gI τ68 th 10 := by rw [eσ59_1]; exact (gwσ59_1.2.2.2 th (kth.up (xσ43.trans (xσ44.trans (xσ45.trans (xτ17.trans (xσ48.trans xτ68)))))).1 10).1
                    have kp141 : gP σ59_1 J 0 = gP τ68 J 0 := by rw [eσ59_1, gP_pP, up2_n _ _ (fun z => absurd z.1 (kO.ne (kJ.up (xσ43.trans (xσ44.trans (xσ45.trans (xτ17.trans (xσ48.trans xτ68)))))) mb_5 (by decide)))]; exact (gwσ59_1.2.2.2 J (kJ.up (xσ43.trans (xσ44.trans (xσ45.trans (xτ17.trans (xσ48.trans xτ68)))))).1 0).2.1
                    have kp142 : gP σ59_1 th 3 = gP τ68 th 3 := by rw [eσ59_1, gP_pP, up2_n _ _ (fun z => absurd z.1 (kO.ne (kth.up (xσ43.trans (xσ44.trans (xσ45.trans (xτ17.trans (xσ48.trans xτ68)))))) mb_5 (by decide)))]; exact (gwσ59_1.2.2.2 th (kth.up (xσ43.trans (xσ44.trans (xσ45.trans (xτ17.trans (xσ48.trans xτ68)))))).1 3).2.1
                    have kp143 : gP σ59_1 th 5 = gP τ68 th 5 := by rw [eσ59_1, gP_pP, up2_n _ _ (fun z => absurd z.1 (kO.ne (kth.up (xσ43.trans (xσ44.trans (xσ45.trans (xτ17.trans (xσ48.trans xτ68)))))) mb_5 (by decide)))]; exact (gwσ59_1.2.2.2 th (kth.up (xσ43.trans (xσ44.trans (xσ45.trans (xτ17.trans (xσ48.trans xτ68)))))).1 5).2.1
                    have kp144 : gP σ59_1 th 9 = gP τ68 th 9 := by rw [eσ59_1, gP_pP, up2_n _ _ (fun z => absurd z.1 (kO.ne (kth.up (xσ43.trans (xσ44.trans (xσ45.trans (xτ17.trans (xσ48.trans xτ68)))))) mb_5 (by decide)))]; exact (gwσ59_1.2.2.2 th (kth.up (xσ43.trans (xσ44.trans (xσ45.trans (xτ17.trans (xσ48.trans xτ68)))))).1 9).2.1
                    have kp145 : gI σ59_1 th 12 = gI τ68 th 12 := by rw [eσ59_1]; exact (gwσ59_1.2.2.2 th (kth.up (xσ43.trans (xσ44.trans (xσ45.trans (xτ17.trans (xσ48.trans xτ68)))))).1 12).1
                    have kp146 : gI σ59_1 th 11 = gI τ68 th 11 := by rw [eσ59_1]; exact (gwσ59_1.2.2.2 th (kth.up (xσ43.trans (xσ44.trans (xσ45.trans (xτ17.trans (xσ48.trans xτ68)))))).1 11).1
                    have fx59 : Fx [7680] gr τ68 σ59_1 := gwσ59_1.fx eσ59_1 mb_5 (by decide)
                    have v1559 : nuσ59_1 15 = nut68 15 := by rw [enuσ59_1]; exact up1_n _ _ (by decide)
                    have v1659 : nuσ59_1 16 = nut68 16 := by rw [enuσ59_1]; exact up1_n _ _ (by decide)
                    have v1759 : nuσ59_1 17 = nut68 17 := by rw [enuσ59_1]; exact up1_n _ _ (by decide)
                    unfold w_X9_layOut_111
                    have tc111 := iσ59_1.tc (kth.up (xσ43.trans (xσ44.trans (xσ45.trans (xτ17.trans (xσ48.trans (xτ68.trans xσ59_1)))))))
                    have n111 := iσ59_1.n16
                    have sl9 : gP σ59_1 b_5 (gI σ59_1 th 10).toNat ≠ none := by first | assumption | (rw [show gI σ59_1 th 10 = gI τ68 th 10 by omega, psσ59_1]; simp)
                    have sl8 : gP σ59_1 b_5 (nuσ59_1 15) ≠ none := by rw [show nuσ59_1 15 = (gI σ59_1 th 10).toNat by omega]; exact sl9
                    have lt111 : LT1 σ59_1 gqσ59_1 ciσ59_1 nuσ59_1 ot v1.toNat := by first | exact hi68.2.1 | exact hi68.2.1.fx iτ68 iσ59_1 gσ59_1 fx59 (by omega) (by decide)
                    have ft111 : FT1 σ59_1 F ot v1.toNat (v2.toNat + 1) := by first | exact hi68.2.2.1 | exact hi68.2.2.1.fx (kF.up (xσ43.trans (xσ44.trans (xσ45.trans (xτ17.trans (xσ48.trans xτ68)))))) gF fx59 (by decide)
                    have z111 : Z12 σ59_1 gqσ59_1 ciσ59_1 nuσ59_1 0 := by first | exact hi68.2.2.2.1 | exact hi68.2.2.2.1.fx iτ68 iσ59_1 gσ59_1 fx59 (by omega) (by decide)
                    obtain ⟨nuA, iσ59_1, hA0, uA, eA⟩ := iσ59_1.mk0 (mb_5.up xσ59_1) (by omega) (by omega) sl8
                    have nuz147 : NW nu nuA := nu_σ59_1.tr uA
                    have eA16 := eA 16 (by decide)
                    have eA15 := eA 15 (by decide)
                    have eA17 := eA 17 (by decide)
                    have lt112 := lt111.nv9 eA15
                    have z112 := z111.nv9 eA15
                    refine ⟨b_5, (kp142.trans eb_5), fun kk_b_5_2 => ?_⟩
                    have q148 := (xσ59_1 b_5 mb_5.1).2.2
                    refine ⟨⟨by (first | omega | with_reducible assumption | with_reducible exact rng_toInt _ | with_reducible exact rng_wr _ | (unfold rng; omega) | (unfold rng at *; omega) | assumption), by (first | omega | with_reducible assumption | with_reducible exact rng_toInt _ | with_reducible exact rng_wr _ | (unfold rng; omega) | (unfold rng at *; omega) | assumption)⟩, ?_⟩
                    have n16b_7 := iσ59_1.n16
                    obtain ⟨b_7, eb_7, mb_7, fb_7⟩ := P_120 iσ59_1 (mb_5.up xσ59_1) (by omega) (k := (gI σ59_1 th 10).toNat) (by (first | omega | with_reducible assumption | with_reducible exact rng_toInt _ | with_reducible exact rng_wr _ | (unfold rng; omega) | (unfold rng at *; omega) | assumption))
                    refine ⟨b_7, eb_7, fun kk_b_7 => ?_⟩
                    refine i2_X10_lay iσ59_1 mb_7 (by (first | omega | with_reducible assumption | with_reducible exact rng_toInt _ | with_reducible exact rng_wr _ | (unfold rng; omega) | (unfold rng at *; omega) | assumption)) (by (first | omega | with_reducible assumption | with_reducible exact rng_toInt _ | with_reducible exact rng_wr _ | (unfold rng; omega) | (unfold rng at *; omega) | assumption)) (by (first | omega | with_reducible assumption | with_reducible exact rng_toInt _ | with_reducible exact rng_wr _ | (unfold rng; omega) | (unfold rng at *; omega) | assumption)) (fun σ61_3 _ iσ61_3 cσ61_3 pσ61_3 => ?_)
                    intro xσ61_3
                    have fσ61_3 : Fx [129, 130, 131, 132, 133, 134, 135, 586, 587, 588, 640, 641, 645, 646, 647, 648, 649, 650, 651, 652, 653, 654, 655, 7168, 7680, 8512] gr σ σ61_3 := fσ59_1.tr (cσ61_3.mo (by decide))
                    have kp149 : gI σ61_3 J 1 = gI σ59_1 J 1 := (cσ61_3.O (kJ.up (xσ43.trans (xσ44.trans (xσ45.trans (xτ17.trans (xσ48.trans (xτ68.trans xσ59_1))))))) (by decide)).1
                    have kp150 : gI σ61_3 th 10 = gI σ59_1 th 10 := (cσ61_3.O (kth.up (xσ43.trans (xσ44.trans (xσ45.trans (xτ17.trans (xσ48.trans (xτ68.trans xσ59_1))))))) (by decide)).1
                    have kp151 : gP σ61_3 J 0 = gP σ59_1 J 0 := (cσ61_3.O (kJ.up (xσ43.trans (xσ44.trans (xσ45.trans (xτ17.trans (xσ48.trans (xτ68.trans xσ59_1))))))) (by decide)).2.1
                    have kp152 : gP σ61_3 b_5 (gI σ59_1 th 10).toNat = gP σ59_1 b_5 (gI σ59_1 th 10).toNat := (cσ61_3.A (mb_5.up xσ59_1) (by decide)).2.1
                    have kp153 : gP σ61_3 b_5 (gI τ68 th 10).toNat = gP σ59_1 b_5 (gI τ68 th 10).toNat := (cσ61_3.A (mb_5.up xσ59_1) (by decide)).2.1
                    have kp154 : gP σ61_3 th 3 = gP σ59_1 th 3 := (cσ61_3.O (kth.up (xσ43.trans (xσ44.trans (xσ45.trans (xτ17.trans (xσ48.trans (xτ68.trans xσ59_1))))))) (by decide)).2.1
                    have kp155 : gP σ61_3 th 5 = gP σ59_1 th 5 := (cσ61_3.O (kth.up (xσ43.trans (xσ44.trans (xσ45.trans (xτ17.trans (xσ48.trans (xτ68.trans xσ59_1))))))) (by decide)).2.1
                    have kp156 : gP σ61_3 th 9 = gP σ59_1 th 9 := (cσ61_3.O (kth.up (xσ43.trans (xσ44.trans (xσ45.trans (xτ17.trans (xσ48.trans (xτ68.trans xσ59_1))))))) (by decide)).2.1
                    have kp157 : gI σ61_3 th 12 = gI σ59_1 th 12 := (cσ61_3.O (kth.up (xσ43.trans (xσ44.trans (xσ45.trans (xτ17.trans (xσ48.trans (xτ68.trans xσ59_1))))))) (by decide)).1
                    have kp158 : gI σ61_3 th 11 = gI σ59_1 th 11 := (cσ61_3.O (kth.up (xσ43.trans (xσ44.trans (xσ45.trans (xτ17.trans (xσ48.trans (xτ68.trans xσ59_1))))))) (by decide)).1
                    refine ⟨by (first | omega | with_reducible assumption | with_reducible exact rng_toInt _ | with_reducible exact rng_wr _ | (unfold rng; omega) | (unfold rng at *; omega) | assumption), ?_⟩
                    intro σ63_3 eσ63_3
                    have xσ63_3 : Ext σ61_3 σ63_3 := by rw [eσ63_3]; exact fun _ h => ⟨h, rfl, rfl⟩
                    obtain ⟨nuσ63_3, iσ63_3, enuσ63_3⟩ : ∃ nu9 : Nat → Nat, IV σ63_3 pl gqσ59_1 ciσ59_1 gr nc ot LLt68 Nt68 nu9 ∧ nu9 = up1 nuA 15 (nuA 15 + 1) := ⟨_, by rw [eσ63_3]; exact by rw [show gI σ61_3 th 10 = (nuA 15 : Int) by omega]; exact iσ61_3.tk1 (kth.up (xσ43.trans (xσ44.trans (xσ45.trans (xτ17.trans (xσ48.trans (xτ68.trans (xσ59_1.trans xσ61_3)))))))) (mb_7.up xσ61_3) (by omega) (by omega) (by omega) (by omega) (by omega) (by omega) (by omega), rfl⟩
                    have uσ63_3 : NW nuA nuσ63_3 := by rw [enuσ63_3]; exact nw15b
                    have fσ63_3 : Fx [129, 130, 131, 132, 133, 134, 135, 586, 587, 588, 640, 641, 645, 646, 647, 648, 649, 650, 651, 652, 653, 654, 655, 7168, 7680, 8512] gr σ σ63_3 := fσ61_3.tr (Sk.fx (by rw [eσ63_3]; exact Sk.pI (by rw [fcdO (kth.up (xσ43.trans (xσ44.trans (xσ45.trans (xτ17.trans (xσ48.trans (xτ68.trans (xσ59_1.trans xσ61_3)))))))) (by decide)]; decide)))
                    have nu_σ63_3 : NW nu nuσ63_3 := nuz147.tr uσ63_3
                    have w15 : nuσ63_3 15 = nuA 15 + 1 := by rw [enuσ63_3, up1_s]
                    have w16 : nuσ63_3 16 = nuA 16 := by rw [enuσ63_3, up1_n _ _ (by decide)]
                    have w17 : nuσ63_3 17 = nuA 17 := by rw [enuσ63_3, up1_n _ _ (by decide)]
                    have wσ63_3 : gI σ63_3 th 10 = (gI σ61_3 th 10 + 1) := by rw [eσ63_3]; exact up2_s _ _ _ _
                    have kp159 : gI σ63_3 J 1 = gI σ61_3 J 1 := by rw [eσ63_3]; exact up2_n _ _ (fun q => absurd q.2 (by decide))
                    have kp160 : gP σ63_3 J 0 = gP σ61_3 J 0 := by rw [eσ63_3]
                    have kp161 : gP σ63_3 b_5 (gI σ59_1 th 10).toNat = gP σ61_3 b_5 (gI σ59_1 th 10).toNat := by rw [eσ63_3]
                    have kp162 : gP σ63_3 b_5 (gI τ68 th 10).toNat = gP σ61_3 b_5 (gI τ68 th 10).toNat := by rw [eσ63_3]
                    have kp163 : gP σ63_3 th 3 = gP σ61_3 th 3 := by rw [eσ63_3]
                    have kp164 : gP σ63_3 th 5 = gP σ61_3 th 5 := by rw [eσ63_3]
                    have kp165 : gP σ63_3 th 9 = gP σ61_3 th 9 := by rw [eσ63_3]
                    have kp166 : gI σ63_3 th 12 = gI σ61_3 th 12 := by rw [eσ63_3]; exact up2_n _ _ (fun q => absurd q.2 (by decide))
                    have kp167 : gI σ63_3 th 11 = gI σ61_3 th 11 := by rw [eσ63_3]; exact up2_n _ _ (fun q => absurd q.2 (by decide))
                    have k630 : gI σ63_3 b_7 0 = gI σ61_3 b_7 0 := by rw [eσ63_3, gI_pI, up2_n _ _ (fun z => absurd z.2 (by decide))]
                    have k631 : gI σ63_3 b_7 1 = gI σ61_3 b_7 1 := by rw [eσ63_3, gI_pI, up2_n _ _ (fun z => absurd z.2 (by decide))]
                    have k6312 : gI σ63_3 b_7 12 = gI σ61_3 b_7 12 := by rw [eσ63_3, gI_pI, up2_n _ _ (fun z => absurd z.2 (by decide))]
                    have lt63 : LT1 σ63_3 gqσ59_1 ciσ59_1 nuσ63_3 ot v1.toNat := lt112.add (t := b_7) iσ59_1 iσ63_3 (by rw [eσ63_3]; exact xσ61_3) (fun t9 k9 h9 h8 => by rw [eσ63_3, gI_pI, up2_n _ _ (fun z => absurd z.1 (kO.ne (h9.up xσ61_3) (kth.up (xσ43.trans (xσ44.trans (xσ45.trans (xτ17.trans (xσ48.trans (xτ68.trans (xσ59_1.trans xσ61_3)))))))) (by decide)))]; exact pσ61_3.2 t9 k9 h8) (mb_7.up (xσ61_3.trans xσ63_3)) (by omega) (by omega) (by omega) (by omega) (fun j ja jb => by have := bsO_un (ot := ot) hv2 (i := j) (j := v2.toNat) ja jb (by omega) (by omega); omega)
                    have z63 : Z12 σ63_3 gqσ59_1 ciσ59_1 nuσ63_3 0 := z112.add (t := b_7) iσ59_1 iσ63_3 (by rw [eσ63_3]; exact xσ61_3) (fun t9 k9 h9 h8 => by rw [eσ63_3, gI_pI, up2_n _ _ (fun z => absurd z.1 (kO.ne (h9.up xσ61_3) (kth.up (xσ43.trans (xσ44.trans (xσ45.trans (xτ17.trans (xσ48.trans (xτ68.trans (xσ59_1.trans xσ61_3)))))))) (by decide)))]; exact pσ61_3.2 t9 k9 h8) (mb_7.up (xσ61_3.trans xσ63_3)) (by omega) (by omega) (by omega) (by omega)
                    have ft63 : FT1 σ63_3 F ot v1.toNat (v2.toNat + 1) := fun j hj => by rw [eσ63_3, gI_pI, up2_n _ _ (fun z => absurd z.1 (kO.ne (kF.up (xσ43.trans (xσ44.trans (xσ45.trans (xτ17.trans (xσ48.trans (xτ68.trans (xσ59_1.trans (xσ61_3.trans xσ63_3))))))))) (kth.up (xσ43.trans (xσ44.trans (xσ45.trans (xτ17.trans (xσ48.trans (xτ68.trans (xσ59_1.trans (xσ61_3.trans xσ63_3))))))))) (by decide))), pσ61_3.2 F j (kO.ne (kF.up (xσ43.trans (xσ44.trans (xσ45.trans (xτ17.trans (xσ48.trans (xτ68.trans (xσ59_1.trans (xσ61_3.trans xσ63_3))))))))) (mb_7.up (xσ61_3.trans xσ63_3)) (by decide))]; exact ft111 j hj
                    refine ⟨by (first | omega | with_reducible assumption | with_reducible exact rng_toInt _ | with_reducible exact rng_wr _ | (unfold rng; omega) | (unfold rng at *; omega) | assumption), ?_⟩
                    exact ih68 σ63_3 gqσ59_1 ciσ59_1 LLt68 Nt68 nuσ63_3 (v4 + 1) iσ63_3 fσ63_3 (xτ68.trans (xσ59_1.trans (xσ61_3.trans xσ63_3))) (((GE.rf).tr giτ68 (fun d hd => ((Ext.rfl' _) d hd).1)).tr gσ59_1 (fun d hd => ((xτ68) d hd).1)) nu_σ63_3 hnτ68 (⟨⟨by omega, by omega, by omega, by omega, by omega⟩, lt63, ft63, z63, hi68.2.2.2.2.1, hi68.2.2.2.2.2⟩) (by (first | omega | with_reducible assumption | with_reducible exact rng_toInt _ | with_reducible exact rng_wr _ | (unfold rng; omega) | (unfold rng at *; omega) | assumption))
          exact ⟨_, Lp68 _ σ48 gqt17 cit17 LLt17 Nt17 nut17 _ iσ48 fσ48 (Ext.rfl' _) GE.rf nu_τ17 hnτ17 (⟨⟨by omega, by omega, by omega, by omega, by omega⟩, lt48, ft48, z48, hi17.2.2.2.2.1, hi17.2.2.2.2.2⟩) (Nat.lt_succ_self _)⟩
  exact ⟨_, Lp17 _ σ45 gq ci LL N nuσ45 _ iσ45 fσ45 (Ext.rfl' _) GE.rf nu_σ45 hnσ (⟨⟨by omega, (show nuσ45 15 = 0 by omega), by omega, by omega, by omega⟩, fun t kt hq hc => absurd hc (by omega), fun j hj => absurd hj (by omega), fun t kt hq hn hc => absurd hc (by omega), rfl, rfl⟩) (Nat.lt_succ_self _)⟩

set_option maxHeartbeats 1000000 in
theorem i2_X10_lay {σ : Sg} {pl : Nat} {gq ci gr nc : Nat → Nat} {ot : Nat → Nat → Int} {LL : Nat → List Nat} {N nu : Nat → Nat} {th : Nat} {v1 : Int} {v2 : Int} (iσ : IV σ pl gq ci gr nc ot LL N nu) (kth : kO σ th 10) (h1 : 0 ≤ v1 ∧ v1 ≤ 15) (h2 : 0 ≤ v2 ∧ v2 ≤ 3) (hl : gq th = 1 → nu 15 ≤ ci th) {Q : Sg → Unit → Prop} {X : Sg → String → Prop} (hQ : ∀ (σ' : Sg) (r : Unit), IV σ' pl gq ci gr nc ot LL N nu → Fx [640, 641, 645, 646, 647, 648, 649, 650, 651, 652, 653, 654, 655] gr σ σ' → ((gI σ' th 0 = v1 ∧ gI σ' th 1 = v2 ∧ gI σ' th 11 = 0 ∧ gI σ' th 12 = 0 ∧ gI σ' th 14 = -1 ∧ gI σ' th 15 = -1) ∧ ∀ t9 k9, t9 ≠ th → gI σ' t9 k9 = gI σ t9 k9) → Q σ' r) : wp_X10_lay th v1 v2 σ Q X := by
  have fσ : Fx [640, 641, 645, 646, 647, 648, 649, 650, 651, 652, 653, 654, 655] gr σ σ := Fx.rf
  unfold wp_X10_lay
  unfold w_X10_lay_0
  intro σ14 eσ14
  have xσ14 : Ext σ σ14 := by rw [eσ14]; exact fun _ h => ⟨h, rfl, rfl⟩
  have iσ14 : IV σ14 pl gq ci gr nc ot LL N nu := by rw [eσ14]; exact iσ.wK kth hl (by decide) (show (0 : Int) ≤ v1 ∧ v1 ≤ 15 from h1)
  have fσ14 : Fx [640, 641, 645, 646, 647, 648, 649, 650, 651, 652, 653, 654, 655] gr σ σ14 := fσ.tr (Sk.fx (by rw [eσ14]; exact Sk.pI (by rw [fcdO kth (by decide)]; decide)))
  have wσ14 : gI σ14 th 0 = v1 := by rw [eσ14]; exact up2_s _ _ _ _
  intro σ15 eσ15
  have xσ15 : Ext σ14 σ15 := by rw [eσ15]; exact fun _ h => ⟨h, rfl, rfl⟩
  have iσ15 : IV σ15 pl gq ci gr nc ot LL N nu := by rw [eσ15]; exact iσ14.wO (kth.up xσ14) (by decide) (show (0 : Int) ≤ v2 ∧ v2 ≤ 3 from ⟨by (first | omega | with_reducible assumption | with_reducible exact rng_toInt _ | with_reducible exact rng_wr _ | (unfold rng; omega) | (unfold rng at *; omega) | assumption), by (first | omega | with_reducible assumption | with_reducible exact rng_toInt _ | with_reducible exact rng_wr _ | (unfold rng; omega) | (unfold rng at *; omega) | assumption)⟩)
  have fσ15 : Fx [640, 641, 645, 646, 647, 648, 649, 650, 651, 652, 653, 654, 655] gr σ σ15 := fσ14.tr (Sk.fx (by rw [eσ15]; exact Sk.pI (by rw [fcdO (kth.up xσ14) (by decide)]; decide)))
  have wσ15 : gI σ15 th 1 = v2 := by rw [eσ15]; exact up2_s _ _ _ _
  have kp1 : gI σ15 th 0 = gI σ14 th 0 := by rw [eσ15]; exact up2_n _ _ (fun q => absurd q.2 (by decide))
  intro σ16 eσ16
  have xσ16 : Ext σ15 σ16 := by rw [eσ16]; exact fun _ h => ⟨h, rfl, rfl⟩
  have iσ16 : IV σ16 pl gq ci gr nc ot LL N nu := by rw [eσ16]; exact iσ15.wO (kth.up (xσ14.trans xσ15)) (by decide) (rngb (by first | exact rng_wr _ | (first | omega | with_reducible assumption | with_reducible exact rng_toInt _ | with_reducible exact rng_wr _ | (unfold rng; omega) | (unfold rng at *; omega) | assumption)))
  have fσ16 : Fx [640, 641, 645, 646, 647, 648, 649, 650, 651, 652, 653, 654, 655] gr σ σ16 := fσ15.tr (Sk.fx (by rw [eσ16]; exact Sk.pI (by rw [fcdO (kth.up (xσ14.trans xσ15)) (by decide)]; decide)))
  have wσ16 : gI σ16 th 5 = 0 := by rw [eσ16]; exact up2_s _ _ _ _
  have kp2 : gI σ16 th 0 = gI σ15 th 0 := by rw [eσ16]; exact up2_n _ _ (fun q => absurd q.2 (by decide))
  have kp3 : gI σ16 th 1 = gI σ15 th 1 := by rw [eσ16]; exact up2_n _ _ (fun q => absurd q.2 (by decide))
  intro σ17 eσ17
  have xσ17 : Ext σ16 σ17 := by rw [eσ17]; exact fun _ h => ⟨h, rfl, rfl⟩
  have iσ17 : IV σ17 pl gq ci gr nc ot LL N nu := by rw [eσ17]; exact iσ16.wO (kth.up (xσ14.trans (xσ15.trans xσ16))) (by decide) (show (0 : Int) ≤ 0 ∧ 0 ≤ 64 from ⟨by (first | omega | with_reducible assumption | with_reducible exact rng_toInt _ | with_reducible exact rng_wr _ | (unfold rng; omega) | (unfold rng at *; omega) | assumption), by (first | omega | with_reducible assumption | with_reducible exact rng_toInt _ | with_reducible exact rng_wr _ | (unfold rng; omega) | (unfold rng at *; omega) | assumption)⟩)
  have fσ17 : Fx [640, 641, 645, 646, 647, 648, 649, 650, 651, 652, 653, 654, 655] gr σ σ17 := fσ16.tr (Sk.fx (by rw [eσ17]; exact Sk.pI (by rw [fcdO (kth.up (xσ14.trans (xσ15.trans xσ16))) (by decide)]; decide)))
  have wσ17 : gI σ17 th 6 = 0 := by rw [eσ17]; exact up2_s _ _ _ _
  have kp4 : gI σ17 th 0 = gI σ16 th 0 := by rw [eσ17]; exact up2_n _ _ (fun q => absurd q.2 (by decide))
  have kp5 : gI σ17 th 1 = gI σ16 th 1 := by rw [eσ17]; exact up2_n _ _ (fun q => absurd q.2 (by decide))
  have kp6 : gI σ17 th 5 = gI σ16 th 5 := by rw [eσ17]; exact up2_n _ _ (fun q => absurd q.2 (by decide))
  intro σ18 eσ18
  have xσ18 : Ext σ17 σ18 := by rw [eσ18]; exact fun _ h => ⟨h, rfl, rfl⟩
  have iσ18 : IV σ18 pl gq ci gr nc ot LL N nu := by rw [eσ18]; exact iσ17.wT (kth.up (xσ14.trans (xσ15.trans (xσ16.trans xσ17)))) (by decide) (tbm1 iσ17)
  have fσ18 : Fx [640, 641, 645, 646, 647, 648, 649, 650, 651, 652, 653, 654, 655] gr σ σ18 := fσ17.tr (Sk.fx (by rw [eσ18]; exact Sk.pJ (by rw [fcdO (kth.up (xσ14.trans (xσ15.trans (xσ16.trans xσ17)))) (by decide)]; decide)))
  have kp7 : gI σ18 th 0 = gI σ17 th 0 := by rw [eσ18]
  have kp8 : gI σ18 th 1 = gI σ17 th 1 := by rw [eσ18]
  have kp9 : gI σ18 th 5 = gI σ17 th 5 := by rw [eσ18]
  have kp10 : gI σ18 th 6 = gI σ17 th 6 := by rw [eσ18]
  intro σ19 eσ19
  have xσ19 : Ext σ18 σ19 := by rw [eσ19]; exact fun _ h => ⟨h, rfl, rfl⟩
  have iσ19 : IV σ19 pl gq ci gr nc ot LL N nu := by rw [eσ19]; exact iσ18.wO (kth.up (xσ14.trans (xσ15.trans (xσ16.trans (xσ17.trans xσ18))))) (by decide) (rngb (by first | exact rng_wr _ | (first | omega | with_reducible assumption | with_reducible exact rng_toInt _ | with_reducible exact rng_wr _ | (unfold rng; omega) | (unfold rng at *; omega) | assumption)))
  have fσ19 : Fx [640, 641, 645, 646, 647, 648, 649, 650, 651, 652, 653, 654, 655] gr σ σ19 := fσ18.tr (Sk.fx (by rw [eσ19]; exact Sk.pI (by rw [fcdO (kth.up (xσ14.trans (xσ15.trans (xσ16.trans (xσ17.trans xσ18))))) (by decide)]; decide)))
  have wσ19 : gI σ19 th 8 = 0 := by rw [eσ19]; exact up2_s _ _ _ _
  have kp11 : gI σ19 th 0 = gI σ18 th 0 := by rw [eσ19]; exact up2_n _ _ (fun q => absurd q.2 (by decide))
  have kp12 : gI σ19 th 1 = gI σ18 th 1 := by rw [eσ19]; exact up2_n _ _ (fun q => absurd q.2 (by decide))
  have kp13 : gI σ19 th 5 = gI σ18 th 5 := by rw [eσ19]; exact up2_n _ _ (fun q => absurd q.2 (by decide))
  have kp14 : gI σ19 th 6 = gI σ18 th 6 := by rw [eσ19]; exact up2_n _ _ (fun q => absurd q.2 (by decide))
  intro σ20 eσ20
  have xσ20 : Ext σ19 σ20 := by rw [eσ20]; exact fun _ h => ⟨h, rfl, rfl⟩
  have iσ20 : IV σ20 pl gq ci gr nc ot LL N nu := by rw [eσ20]; exact iσ19.wO (kth.up (xσ14.trans (xσ15.trans (xσ16.trans (xσ17.trans (xσ18.trans xσ19)))))) (by decide) (rngb (by first | exact rng_wr _ | (first | omega | with_reducible assumption | with_reducible exact rng_toInt _ | with_reducible exact rng_wr _ | (unfold rng; omega) | (unfold rng at *; omega) | assumption)))
  have fσ20 : Fx [640, 641, 645, 646, 647, 648, 649, 650, 651, 652, 653, 654, 655] gr σ σ20 := fσ19.tr (Sk.fx (by rw [eσ20]; exact Sk.pI (by rw [fcdO (kth.up (xσ14.trans (xσ15.trans (xσ16.trans (xσ17.trans (xσ18.trans xσ19)))))) (by decide)]; decide)))
  have wσ20 : gI σ20 th 9 = 0 := by rw [eσ20]; exact up2_s _ _ _ _
  have kp15 : gI σ20 th 0 = gI σ19 th 0 := by rw [eσ20]; exact up2_n _ _ (fun q => absurd q.2 (by decide))
  have kp16 : gI σ20 th 1 = gI σ19 th 1 := by rw [eσ20]; exact up2_n _ _ (fun q => absurd q.2 (by decide))
  have kp17 : gI σ20 th 5 = gI σ19 th 5 := by rw [eσ20]; exact up2_n _ _ (fun q => absurd q.2 (by decide))
  have kp18 : gI σ20 th 6 = gI σ19 th 6 := by rw [eσ20]; exact up2_n _ _ (fun q => absurd q.2 (by decide))
  have kp19 : gI σ20 th 8 = gI σ19 th 8 := by rw [eσ20]; exact up2_n _ _ (fun q => absurd q.2 (by decide))
  intro σ21 eσ21
  have xσ21 : Ext σ20 σ21 := by rw [eσ21]; exact fun _ h => ⟨h, rfl, rfl⟩
  have iσ21 : IV σ21 pl gq ci gr nc ot LL N nu := by rw [eσ21]; exact iσ20.wO (kth.up (xσ14.trans (xσ15.trans (xσ16.trans (xσ17.trans (xσ18.trans (xσ19.trans xσ20))))))) (by decide) (show (0 : Int) ≤ 0 ∧ 0 ≤ 1 from ⟨by (first | omega | with_reducible assumption | with_reducible exact rng_toInt _ | with_reducible exact rng_wr _ | (unfold rng; omega) | (unfold rng at *; omega) | assumption), by (first | omega | with_reducible assumption | with_reducible exact rng_toInt _ | with_reducible exact rng_wr _ | (unfold rng; omega) | (unfold rng at *; omega) | assumption)⟩)
  have fσ21 : Fx [640, 641, 645, 646, 647, 648, 649, 650, 651, 652, 653, 654, 655] gr σ σ21 := fσ20.tr (Sk.fx (by rw [eσ21]; exact Sk.pI (by rw [fcdO (kth.up (xσ14.trans (xσ15.trans (xσ16.trans (xσ17.trans (xσ18.trans (xσ19.trans xσ20))))))) (by decide)]; decide)))
  have wσ21 : gI σ21 th 10 = 0 := by rw [eσ21]; exact up2_s _ _ _ _
  have kp20 : gI σ21 th 0 = gI σ20 th 0 := by rw [eσ21]; exact up2_n _ _ (fun q => absurd q.2 (by decide))
  have kp21 : gI σ21 th 1 = gI σ20 th 1 := by rw [eσ21]; exact up2_n _ _ (fun q => absurd q.2 (by decide))
  have kp22 : gI σ21 th 5 = gI σ20 th 5 := by rw [eσ21]; exact up2_n _ _ (fun q => absurd q.2 (by decide))
  have kp23 : gI σ21 th 6 = gI σ20 th 6 := by rw [eσ21]; exact up2_n _ _ (fun q => absurd q.2 (by decide))
  have kp24 : gI σ21 th 8 = gI σ20 th 8 := by rw [eσ21]; exact up2_n _ _ (fun q => absurd q.2 (by decide))
  have kp25 : gI σ21 th 9 = gI σ20 th 9 := by rw [eσ21]; exact up2_n _ _ (fun q => absurd q.2 (by decide))
  intro σ22 eσ22
  have xσ22 : Ext σ21 σ22 := by rw [eσ22]; exact fun _ h => ⟨h, rfl, rfl⟩
  have iσ22 : IV σ22 pl gq ci gr nc ot LL N nu := by rw [eσ22]; exact iσ21.wK (kth.up (xσ14.trans (xσ15.trans (xσ16.trans (xσ17.trans (xσ18.trans (xσ19.trans (xσ20.trans xσ21)))))))) hl (by decide) (show (0 : Int) ≤ 0 ∧ (0 : Int) ≤ 512 by decide)
  have fσ22 : Fx [640, 641, 645, 646, 647, 648, 649, 650, 651, 652, 653, 654, 655] gr σ σ22 := fσ21.tr (Sk.fx (by rw [eσ22]; exact Sk.pI (by rw [fcdO (kth.up (xσ14.trans (xσ15.trans (xσ16.trans (xσ17.trans (xσ18.trans (xσ19.trans (xσ20.trans xσ21)))))))) (by decide)]; decide)))
  have wσ22 : gI σ22 th 11 = 0 := by rw [eσ22]; exact up2_s _ _ _ _
  have kp26 : gI σ22 th 0 = gI σ21 th 0 := by rw [eσ22]; exact up2_n _ _ (fun q => absurd q.2 (by decide))
  have kp27 : gI σ22 th 1 = gI σ21 th 1 := by rw [eσ22]; exact up2_n _ _ (fun q => absurd q.2 (by decide))
  have kp28 : gI σ22 th 10 = gI σ21 th 10 := by rw [eσ22]; exact up2_n _ _ (fun q => absurd q.2 (by decide))
  have kp29 : gI σ22 th 5 = gI σ21 th 5 := by rw [eσ22]; exact up2_n _ _ (fun q => absurd q.2 (by decide))
  have kp30 : gI σ22 th 6 = gI σ21 th 6 := by rw [eσ22]; exact up2_n _ _ (fun q => absurd q.2 (by decide))
  have kp31 : gI σ22 th 8 = gI σ21 th 8 := by rw [eσ22]; exact up2_n _ _ (fun q => absurd q.2 (by decide))
  have kp32 : gI σ22 th 9 = gI σ21 th 9 := by rw [eσ22]; exact up2_n _ _ (fun q => absurd q.2 (by decide))
  intro σ23 eσ23
  have xσ23 : Ext σ22 σ23 := by rw [eσ23]; exact fun _ h => ⟨h, rfl, rfl⟩
  have iσ23 : IV σ23 pl gq ci gr nc ot LL N nu := by rw [eσ23]; exact iσ22.wK (kth.up (xσ14.trans (xσ15.trans (xσ16.trans (xσ17.trans (xσ18.trans (xσ19.trans (xσ20.trans (xσ21.trans xσ22))))))))) hl (by decide) (show (0 : Int) ≤ 0 ∧ (0 : Int) ≤ 512 by decide)
  have fσ23 : Fx [640, 641, 645, 646, 647, 648, 649, 650, 651, 652, 653, 654, 655] gr σ σ23 := fσ22.tr (Sk.fx (by rw [eσ23]; exact Sk.pI (by rw [fcdO (kth.up (xσ14.trans (xσ15.trans (xσ16.trans (xσ17.trans (xσ18.trans (xσ19.trans (xσ20.trans (xσ21.trans xσ22))))))))) (by decide)]; decide)))
  have wσ23 : gI σ23 th 12 = 0 := by rw [eσ23]; exact up2_s _ _ _ _
  have kp33 : gI σ23 th 0 = gI σ22 th 0 := by rw [eσ23]; exact up2_n _ _ (fun q => absurd q.2 (by decide))
  have kp34 : gI σ23 th 1 = gI σ22 th 1 := by rw [eσ23]; exact up2_n _ _ (fun q => absurd q.2 (by decide))
  have kp35 : gI σ23 th 10 = gI σ22 th 10 := by rw [eσ23]; exact up2_n _ _ (fun q => absurd q.2 (by decide))
  have kp36 : gI σ23 th 11 = gI σ22 th 11 := by rw [eσ23]; exact up2_n _ _ (fun q => absurd q.2 (by decide))
  have kp37 : gI σ23 th 5 = gI σ22 th 5 := by rw [eσ23]; exact up2_n _ _ (fun q => absurd q.2 (by decide))
  have kp38 : gI σ23 th 6 = gI σ22 th 6 := by rw [eσ23]; exact up2_n _ _ (fun q => absurd q.2 (by decide))
  have kp39 : gI σ23 th 8 = gI σ22 th 8 := by rw [eσ23]; exact up2_n _ _ (fun q => absurd q.2 (by decide))
  have kp40 : gI σ23 th 9 = gI σ22 th 9 := by rw [eσ23]; exact up2_n _ _ (fun q => absurd q.2 (by decide))
  intro σ24 eσ24
  have xσ24 : Ext σ23 σ24 := by rw [eσ24]; exact fun _ h => ⟨h, rfl, rfl⟩
  have iσ24 : IV σ24 pl gq ci gr nc ot LL N nu := by rw [eσ24]; exact iσ23.wO (kth.up (xσ14.trans (xσ15.trans (xσ16.trans (xσ17.trans (xσ18.trans (xσ19.trans (xσ20.trans (xσ21.trans (xσ22.trans xσ23)))))))))) (by decide) (show (0 : Int) ≤ 0 ∧ 0 ≤ 511 from ⟨by (first | omega | with_reducible assumption | with_reducible exact rng_toInt _ | with_reducible exact rng_wr _ | (unfold rng; omega) | (unfold rng at *; omega) | assumption), by (first | omega | with_reducible assumption | with_reducible exact rng_toInt _ | with_reducible exact rng_wr _ | (unfold rng; omega) | (unfold rng at *; omega) | assumption)⟩)
  have fσ24 : Fx [640, 641, 645, 646, 647, 648, 649, 650, 651, 652, 653, 654, 655] gr σ σ24 := fσ23.tr (Sk.fx (by rw [eσ24]; exact Sk.pI (by rw [fcdO (kth.up (xσ14.trans (xσ15.trans (xσ16.trans (xσ17.trans (xσ18.trans (xσ19.trans (xσ20.trans (xσ21.trans (xσ22.trans xσ23)))))))))) (by decide)]; decide)))
  have wσ24 : gI σ24 th 13 = 0 := by rw [eσ24]; exact up2_s _ _ _ _
  have kp41 : gI σ24 th 0 = gI σ23 th 0 := by rw [eσ24]; exact up2_n _ _ (fun q => absurd q.2 (by decide))
  have kp42 : gI σ24 th 1 = gI σ23 th 1 := by rw [eσ24]; exact up2_n _ _ (fun q => absurd q.2 (by decide))
  have kp43 : gI σ24 th 10 = gI σ23 th 10 := by rw [eσ24]; exact up2_n _ _ (fun q => absurd q.2 (by decide))
  have kp44 : gI σ24 th 11 = gI σ23 th 11 := by rw [eσ24]; exact up2_n _ _ (fun q => absurd q.2 (by decide))
  have kp45 : gI σ24 th 12 = gI σ23 th 12 := by rw [eσ24]; exact up2_n _ _ (fun q => absurd q.2 (by decide))
  have kp46 : gI σ24 th 5 = gI σ23 th 5 := by rw [eσ24]; exact up2_n _ _ (fun q => absurd q.2 (by decide))
  have kp47 : gI σ24 th 6 = gI σ23 th 6 := by rw [eσ24]; exact up2_n _ _ (fun q => absurd q.2 (by decide))
  have kp48 : gI σ24 th 8 = gI σ23 th 8 := by rw [eσ24]; exact up2_n _ _ (fun q => absurd q.2 (by decide))
  have kp49 : gI σ24 th 9 = gI σ23 th 9 := by rw [eσ24]; exact up2_n _ _ (fun q => absurd q.2 (by decide))
  intro σ25 eσ25
  have xσ25 : Ext σ24 σ25 := by rw [eσ25]; exact fun _ h => ⟨h, rfl, rfl⟩
  have iσ25 : IV σ25 pl gq ci gr nc ot LL N nu := by rw [eσ25]; exact iσ24.wK (kth.up (xσ14.trans (xσ15.trans (xσ16.trans (xσ17.trans (xσ18.trans (xσ19.trans (xσ20.trans (xσ21.trans (xσ22.trans (xσ23.trans xσ24))))))))))) hl (by decide) (show (-2147483648 : Int) ≤ -1 ∧ (-1 : Int) ≤ 2147483647 by decide)
  have fσ25 : Fx [640, 641, 645, 646, 647, 648, 649, 650, 651, 652, 653, 654, 655] gr σ σ25 := fσ24.tr (Sk.fx (by rw [eσ25]; exact Sk.pI (by rw [fcdO (kth.up (xσ14.trans (xσ15.trans (xσ16.trans (xσ17.trans (xσ18.trans (xσ19.trans (xσ20.trans (xσ21.trans (xσ22.trans (xσ23.trans xσ24))))))))))) (by decide)]; decide)))
  have wσ25 : gI σ25 th 14 = (-1) := by rw [eσ25]; exact up2_s _ _ _ _
  have kp50 : gI σ25 th 0 = gI σ24 th 0 := by rw [eσ25]; exact up2_n _ _ (fun q => absurd q.2 (by decide))
  have kp51 : gI σ25 th 1 = gI σ24 th 1 := by rw [eσ25]; exact up2_n _ _ (fun q => absurd q.2 (by decide))
  have kp52 : gI σ25 th 10 = gI σ24 th 10 := by rw [eσ25]; exact up2_n _ _ (fun q => absurd q.2 (by decide))
  have kp53 : gI σ25 th 11 = gI σ24 th 11 := by rw [eσ25]; exact up2_n _ _ (fun q => absurd q.2 (by decide))
  have kp54 : gI σ25 th 12 = gI σ24 th 12 := by rw [eσ25]; exact up2_n _ _ (fun q => absurd q.2 (by decide))
  have kp55 : gI σ25 th 13 = gI σ24 th 13 := by rw [eσ25]; exact up2_n _ _ (fun q => absurd q.2 (by decide))
  have kp56 : gI σ25 th 5 = gI σ24 th 5 := by rw [eσ25]; exact up2_n _ _ (fun q => absurd q.2 (by decide))
  have kp57 : gI σ25 th 6 = gI σ24 th 6 := by rw [eσ25]; exact up2_n _ _ (fun q => absurd q.2 (by decide))
  have kp58 : gI σ25 th 8 = gI σ24 th 8 := by rw [eσ25]; exact up2_n _ _ (fun q => absurd q.2 (by decide))
  have kp59 : gI σ25 th 9 = gI σ24 th 9 := by rw [eσ25]; exact up2_n _ _ (fun q => absurd q.2 (by decide))
  intro σ26 eσ26
  have xσ26 : Ext σ25 σ26 := by rw [eσ26]; exact fun _ h => ⟨h, rfl, rfl⟩
  have iσ26 : IV σ26 pl gq ci gr nc ot LL N nu := by rw [eσ26]; exact iσ25.wK (kth.up (xσ14.trans (xσ15.trans (xσ16.trans (xσ17.trans (xσ18.trans (xσ19.trans (xσ20.trans (xσ21.trans (xσ22.trans (xσ23.trans (xσ24.trans xσ25)))))))))))) hl (by decide) (show (-2147483648 : Int) ≤ -1 ∧ (-1 : Int) ≤ 2147483647 by decide)
  have fσ26 : Fx [640, 641, 645, 646, 647, 648, 649, 650, 651, 652, 653, 654, 655] gr σ σ26 := fσ25.tr (Sk.fx (by rw [eσ26]; exact Sk.pI (by rw [fcdO (kth.up (xσ14.trans (xσ15.trans (xσ16.trans (xσ17.trans (xσ18.trans (xσ19.trans (xσ20.trans (xσ21.trans (xσ22.trans (xσ23.trans (xσ24.trans xσ25)))))))))))) (by decide)]; decide)))
  have wσ26 : gI σ26 th 15 = (-1) := by rw [eσ26]; exact up2_s _ _ _ _
  have kp60 : gI σ26 th 0 = gI σ25 th 0 := by rw [eσ26]; exact up2_n _ _ (fun q => absurd q.2 (by decide))
  have kp61 : gI σ26 th 1 = gI σ25 th 1 := by rw [eσ26]; exact up2_n _ _ (fun q => absurd q.2 (by decide))
  have kp62 : gI σ26 th 10 = gI σ25 th 10 := by rw [eσ26]; exact up2_n _ _ (fun q => absurd q.2 (by decide))
  have kp63 : gI σ26 th 11 = gI σ25 th 11 := by rw [eσ26]; exact up2_n _ _ (fun q => absurd q.2 (by decide))
  have kp64 : gI σ26 th 12 = gI σ25 th 12 := by rw [eσ26]; exact up2_n _ _ (fun q => absurd q.2 (by decide))
  have kp65 : gI σ26 th 13 = gI σ25 th 13 := by rw [eσ26]; exact up2_n _ _ (fun q => absurd q.2 (by decide))
  have kp66 : gI σ26 th 14 = gI σ25 th 14 := by rw [eσ26]; exact up2_n _ _ (fun q => absurd q.2 (by decide))
  have kp67 : gI σ26 th 5 = gI σ25 th 5 := by rw [eσ26]; exact up2_n _ _ (fun q => absurd q.2 (by decide))
  have kp68 : gI σ26 th 6 = gI σ25 th 6 := by rw [eσ26]; exact up2_n _ _ (fun q => absurd q.2 (by decide))
  have kp69 : gI σ26 th 8 = gI σ25 th 8 := by rw [eσ26]; exact up2_n _ _ (fun q => absurd q.2 (by decide))
  have kp70 : gI σ26 th 9 = gI σ25 th 9 := by rw [eσ26]; exact up2_n _ _ (fun q => absurd q.2 (by decide))
  exact hQ σ26 () iσ26 fσ26 (⟨by omega, fun t9 k9 hne => by rw [eσ26, gI_pI, up2_n _ _ (fun z => hne z.1), eσ25, gI_pI, up2_n _ _ (fun z => hne z.1), eσ24, gI_pI, up2_n _ _ (fun z => hne z.1), eσ23, gI_pI, up2_n _ _ (fun z => hne z.1), eσ22, gI_pI, up2_n _ _ (fun z => hne z.1), eσ21, gI_pI, up2_n _ _ (fun z => hne z.1), eσ20, gI_pI, up2_n _ _ (fun z => hne z.1), eσ19, gI_pI, up2_n _ _ (fun z => hne z.1), eσ18]; show gI σ17 t9 k9 = _; rw [eσ17, gI_pI, up2_n _ _ (fun z => hne z.1), eσ16, gI_pI, up2_n _ _ (fun z => hne z.1), eσ15, gI_pI, up2_n _ _ (fun z => hne z.1), eσ14, gI_pI, up2_n _ _ (fun z => hne z.1)]⟩)
set_option maxHeartbeats 1000000 in
theorem i_X2_lay {σ : Sg} {pl : Nat} {gq ci gr nc : Nat → Nat} {ot : Nat → Nat → Int} {LL : Nat → List Nat} {N nu : Nat → Nat} {th : Nat} {v1 : Int} {v2 : Int} {v3 : Int} (iσ : IV σ pl gq ci gr nc ot LL N nu) (kth : kO σ th 2) (h1 : rng v1) (h2 : rng v2) (h3 : rng v3) (hl : nu 16 ≤ ci th) {Q : Sg → Unit → Prop} {X : Sg → String → Prop} (hQ : ∀ (σ' : Sg) (r : Unit), IV σ' pl gq ci gr nc ot LL N nu → Fx [129, 130, 131, 132, 133, 134, 135] gr σ σ' → (gI σ' th 1 = v1 ∧ gI σ' th 2 = v2 ∧ gI σ' th 7 = -1) → Q σ' r) : wp_X2_lay th v1 v2 v3 σ Q X := by
  have fσ : Fx [129, 130, 131, 132, 133, 134, 135] gr σ σ := Fx.rf
  unfold wp_X2_lay
  unfold w_X2_lay_0
  intro σ8 eσ8
  have xσ8 : Ext σ σ8 := by rw [eσ8]; exact fun _ h => ⟨h, rfl, rfl⟩
  have iσ8 : IV σ8 pl gq ci gr nc ot LL N nu := by rw [eσ8]; exact iσ.wQ kth hl (by decide) h1
  have fσ8 : Fx [129, 130, 131, 132, 133, 134, 135] gr σ σ8 := fσ.tr (Sk.fx (by rw [eσ8]; exact Sk.pI (by rw [fcdO kth (by decide)]; decide)))
  have wσ8 : gI σ8 th 1 = v1 := by rw [eσ8]; exact up2_s _ _ _ _
  intro σ9 eσ9
  have xσ9 : Ext σ8 σ9 := by rw [eσ9]; exact fun _ h => ⟨h, rfl, rfl⟩
  have iσ9 : IV σ9 pl gq ci gr nc ot LL N nu := by rw [eσ9]; exact iσ8.wQ (kth.up xσ8) hl (by decide) h2
  have fσ9 : Fx [129, 130, 131, 132, 133, 134, 135] gr σ σ9 := fσ8.tr (Sk.fx (by rw [eσ9]; exact Sk.pI (by rw [fcdO (kth.up xσ8) (by decide)]; decide)))
  have wσ9 : gI σ9 th 2 = v2 := by rw [eσ9]; exact up2_s _ _ _ _
  have kp1 : gI σ9 th 1 = gI σ8 th 1 := by rw [eσ9]; exact up2_n _ _ (fun q => absurd q.2 (by decide))
  intro σ10 eσ10
  have xσ10 : Ext σ9 σ10 := by rw [eσ10]; exact fun _ h => ⟨h, rfl, rfl⟩
  have iσ10 : IV σ10 pl gq ci gr nc ot LL N nu := by rw [eσ10]; exact iσ9.wO (kth.up (xσ8.trans xσ9)) (by decide) (rngb (by first | exact rng_wr _ | (first | omega | with_reducible assumption | with_reducible exact rng_toInt _ | with_reducible exact rng_wr _ | (unfold rng; omega) | (unfold rng at *; omega) | assumption)))
  have fσ10 : Fx [129, 130, 131, 132, 133, 134, 135] gr σ σ10 := fσ9.tr (Sk.fx (by rw [eσ10]; exact Sk.pI (by rw [fcdO (kth.up (xσ8.trans xσ9)) (by decide)]; decide)))
  have wσ10 : gI σ10 th 3 = v3 := by rw [eσ10]; exact up2_s _ _ _ _
  have kp2 : gI σ10 th 1 = gI σ9 th 1 := by rw [eσ10]; exact up2_n _ _ (fun q => absurd q.2 (by decide))
  have kp3 : gI σ10 th 2 = gI σ9 th 2 := by rw [eσ10]; exact up2_n _ _ (fun q => absurd q.2 (by decide))
  intro σ11 eσ11
  have xσ11 : Ext σ10 σ11 := by rw [eσ11]; exact fun _ h => ⟨h, rfl, rfl⟩
  have iσ11 : IV σ11 pl gq ci gr nc ot LL N nu := by rw [eσ11]; exact iσ10.wT (kth.up (xσ8.trans (xσ9.trans xσ10))) (by decide) (tbm1 iσ10)
  have fσ11 : Fx [129, 130, 131, 132, 133, 134, 135] gr σ σ11 := fσ10.tr (Sk.fx (by rw [eσ11]; exact Sk.pJ (by rw [fcdO (kth.up (xσ8.trans (xσ9.trans xσ10))) (by decide)]; decide)))
  have kp4 : gI σ11 th 1 = gI σ10 th 1 := by rw [eσ11]
  have kp5 : gI σ11 th 2 = gI σ10 th 2 := by rw [eσ11]
  have kp6 : gI σ11 th 3 = gI σ10 th 3 := by rw [eσ11]
  intro σ12 eσ12
  have xσ12 : Ext σ11 σ12 := by rw [eσ12]; exact fun _ h => ⟨h, rfl, rfl⟩
  have iσ12 : IV σ12 pl gq ci gr nc ot LL N nu := by rw [eσ12]; exact iσ11.wO (kth.up (xσ8.trans (xσ9.trans (xσ10.trans xσ11)))) (by decide) (show (0 : Int) ≤ 0 ∧ 0 ≤ 1 from ⟨by (first | omega | with_reducible assumption | with_reducible exact rng_toInt _ | with_reducible exact rng_wr _ | (unfold rng; omega) | (unfold rng at *; omega) | assumption), by (first | omega | with_reducible assumption | with_reducible exact rng_toInt _ | with_reducible exact rng_wr _ | (unfold rng; omega) | (unfold rng at *; omega) | assumption)⟩)
  have fσ12 : Fx [129, 130, 131, 132, 133, 134, 135] gr σ σ12 := fσ11.tr (Sk.fx (by rw [eσ12]; exact Sk.pI (by rw [fcdO (kth.up (xσ8.trans (xσ9.trans (xσ10.trans xσ11)))) (by decide)]; decide)))
  have wσ12 : gI σ12 th 5 = 0 := by rw [eσ12]; exact up2_s _ _ _ _
  have kp7 : gI σ12 th 1 = gI σ11 th 1 := by rw [eσ12]; exact up2_n _ _ (fun q => absurd q.2 (by decide))
  have kp8 : gI σ12 th 2 = gI σ11 th 2 := by rw [eσ12]; exact up2_n _ _ (fun q => absurd q.2 (by decide))
  have kp9 : gI σ12 th 3 = gI σ11 th 3 := by rw [eσ12]; exact up2_n _ _ (fun q => absurd q.2 (by decide))
  intro σ13 eσ13
  have xσ13 : Ext σ12 σ13 := by rw [eσ13]; exact fun _ h => ⟨h, rfl, rfl⟩
  have iσ13 : IV σ13 pl gq ci gr nc ot LL N nu := by rw [eσ13]; exact iσ12.wO (kth.up (xσ8.trans (xσ9.trans (xσ10.trans (xσ11.trans xσ12))))) (by decide) (rngb (by first | exact rng_wr _ | (first | omega | with_reducible assumption | with_reducible exact rng_toInt _ | with_reducible exact rng_wr _ | (unfold rng; omega) | (unfold rng at *; omega) | assumption)))
  have fσ13 : Fx [129, 130, 131, 132, 133, 134, 135] gr σ σ13 := fσ12.tr (Sk.fx (by rw [eσ13]; exact Sk.pI (by rw [fcdO (kth.up (xσ8.trans (xσ9.trans (xσ10.trans (xσ11.trans xσ12))))) (by decide)]; decide)))
  have wσ13 : gI σ13 th 6 = 0 := by rw [eσ13]; exact up2_s _ _ _ _
  have kp10 : gI σ13 th 1 = gI σ12 th 1 := by rw [eσ13]; exact up2_n _ _ (fun q => absurd q.2 (by decide))
  have kp11 : gI σ13 th 2 = gI σ12 th 2 := by rw [eσ13]; exact up2_n _ _ (fun q => absurd q.2 (by decide))
  have kp12 : gI σ13 th 3 = gI σ12 th 3 := by rw [eσ13]; exact up2_n _ _ (fun q => absurd q.2 (by decide))
  have kp13 : gI σ13 th 5 = gI σ12 th 5 := by rw [eσ13]; exact up2_n _ _ (fun q => absurd q.2 (by decide))
  intro σ14 eσ14
  have xσ14 : Ext σ13 σ14 := by rw [eσ14]; exact fun _ h => ⟨h, rfl, rfl⟩
  have iσ14 : IV σ14 pl gq ci gr nc ot LL N nu := by rw [eσ14]; exact iσ13.wQ (kth.up (xσ8.trans (xσ9.trans (xσ10.trans (xσ11.trans (xσ12.trans xσ13)))))) hl (by decide) (by unfold rng; omega)
  have fσ14 : Fx [129, 130, 131, 132, 133, 134, 135] gr σ σ14 := fσ13.tr (Sk.fx (by rw [eσ14]; exact Sk.pI (by rw [fcdO (kth.up (xσ8.trans (xσ9.trans (xσ10.trans (xσ11.trans (xσ12.trans xσ13)))))) (by decide)]; decide)))
  have wσ14 : gI σ14 th 7 = (-1) := by rw [eσ14]; exact up2_s _ _ _ _
  have kp14 : gI σ14 th 1 = gI σ13 th 1 := by rw [eσ14]; exact up2_n _ _ (fun q => absurd q.2 (by decide))
  have kp15 : gI σ14 th 2 = gI σ13 th 2 := by rw [eσ14]; exact up2_n _ _ (fun q => absurd q.2 (by decide))
  have kp16 : gI σ14 th 3 = gI σ13 th 3 := by rw [eσ14]; exact up2_n _ _ (fun q => absurd q.2 (by decide))
  have kp17 : gI σ14 th 5 = gI σ13 th 5 := by rw [eσ14]; exact up2_n _ _ (fun q => absurd q.2 (by decide))
  have kp18 : gI σ14 th 6 = gI σ13 th 6 := by rw [eσ14]; exact up2_n _ _ (fun q => absurd q.2 (by decide))
  exact hQ σ14 () iσ14 fσ14 (by (first | omega | with_reducible assumption | with_reducible exact rng_toInt _ | with_reducible exact rng_wr _ | (unfold rng; omega) | (unfold rng at *; omega) | assumption))
set_option maxHeartbeats 1000000 in
theorem i_X9_addChannel {σ : Sg} {pl : Nat} {gq ci gr nc : Nat → Nat} {ot : Nat → Nat → Int} {LL : Nat → List Nat} {N nu : Nat → Nat} {th : Nat} {v1 : Int} {v2 : Int} {v3 : Int} (iσ : IV σ pl gq ci gr nc ot LL N nu) (kth : kO σ th 9) (h1 : 0 ≤ v1 ∧ v1 < (nu 15 : Int)) (h2 : 0 ≤ v2 ∧ v2 < (nu 15 : Int)) (h3 : rng v3) {Q : Sg → Unit → Prop} {X : Sg → String → Prop} (hQ : ∀ (σ' : Sg) (gq' ci' : Nat → Nat) (LL' : Nat → List Nat) (N' nu' : Nat → Nat) (r : Unit), IV σ' pl gq' ci' gr nc ot LL' N' nu' → GE (gD σ) gq ci gq' ci' → Fx [129, 130, 131, 132, 133, 134, 135, 587, 654, 655, 7168] gr σ σ' → NW nu nu' → Hn (gD σ) [] [] gq LL LL' N N' → (nu' 15 = nu 15 ∧ nu' 17 = nu 17 ∧ nu 16 ≤ nu' 16 ∧ LL' = LL ∧ N' = N) → Q σ' r) : wp_X9_addChannel th v1 v2 v3 σ Q X := by
  have fσ : Fx [129, 130, 131, 132, 133, 134, 135, 587, 654, 655, 7168] gr σ σ := Fx.rf
  have geσ : GE (gD σ) gq ci gq ci := GE.rf
  have hnσ : Hn (gD σ) [] [] gq LL LL N N := Hn.rf
  have n16 := iσ.n16
  have tcs := iσ.tc kth
  unfold wp_X9_addChannel
  unfold w_X9_addChannel_0
  have q2 := iσ.tc kth
  have q3 := I_9_11 iσ.1 kth
  by_cases hc1 : gI σ th 11 < 512
  · rw [if_pos hc1]
    unfold w_X9_addChannel_11
    obtain ⟨b, eb, fb⟩ := P_9_4 iσ.1 kth
    have mb : kO σ b 112 := iσ.1.kd kth rfl eb rfl
    refine ⟨b, eb, fun kk_b => ?_⟩
    refine ⟨⟨by (first | omega | with_reducible assumption | with_reducible exact rng_toInt _ | with_reducible exact rng_wr _ | (unfold rng; omega) | (unfold rng at *; omega) | assumption), by (first | omega | with_reducible assumption | with_reducible exact rng_toInt _ | with_reducible exact rng_wr _ | (unfold rng; omega) | (unfold rng at *; omega) | assumption)⟩, ?_⟩
    by_cases hc4 : (gP σ b (gI σ th 11).toNat) ≠ none
    · rw [if_pos hc4]
      unfold w_X9_addChannel_39
      have n16b := iσ.n16
      have tcb := iσ.tc kth
      have sl9 : gP σ b (gI σ th 11).toNat ≠ none := by first | assumption | (rw [show gI σ th 11 = gI σ th 11 by omega, psσ26]; simp)
      have sl8 : gP σ b (nu 16) ≠ none := by rw [show nu 16 = (gI σ th 11).toNat by omega]; exact sl9
      obtain ⟨nuA, iσ, hA1, uA, eA⟩ := iσ.mk1 mb (by omega) sl8
      have nuz5 : NW nu nuA := uA
      have eA16 := eA 16 (by decide)
      have eA15 := eA 15 (by decide)
      have eA17 := eA 17 (by decide)
      have eA0 := eA 0 (by decide)
      refine ⟨b, eb, fun kk_b_1 => ?_⟩
      refine ⟨⟨by (first | omega | with_reducible assumption | with_reducible exact rng_toInt _ | with_reducible exact rng_wr _ | (unfold rng; omega) | (unfold rng at *; omega) | assumption), by (first | omega | with_reducible assumption | with_reducible exact rng_toInt _ | with_reducible exact rng_wr _ | (unfold rng; omega) | (unfold rng at *; omega) | assumption)⟩, ?_⟩
      obtain ⟨b_1, eb_1⟩ := Option.ne_none_iff_exists'.mp hc4
      have fb_1 := T_112 iσ.1 mb eb_1
      have mb_1 : kO σ b_1 2 := iσ.1.kd mb rfl eb_1 rfl
      refine ⟨b_1, eb_1, fun kk_b_1_1 => ?_⟩
      refine i_X2_lay iσ mb_1 (by unfold rng; omega) (by unfold rng; omega) h3 (by omega) (fun σ28 _ iσ28 cσ28 pσ28 => ?_)
      intro xσ28
      have fσ28 : Fx [129, 130, 131, 132, 133, 134, 135, 587, 654, 655, 7168] gr σ σ28 := fσ.tr (cσ28.mo (by decide))
      have kp6 : gI σ28 th 11 = gI σ th 11 := (cσ28.O kth (by decide)).1
      have kp7 : gP σ28 b (gI σ th 11).toNat = gP σ b (gI σ th 11).toNat := (cσ28.A mb (by decide)).2.1
      have kp8 : gP σ28 th 4 = gP σ th 4 := (cσ28.O kth (by decide)).2.1
      have kp9 : gI σ28 th 10 = gI σ th 10 := (cσ28.O kth (by decide)).1
      have tck := iσ28.tc (kth.up xσ28)
      obtain ⟨b_2, eb_2, fb_2⟩ := P_9_3 iσ28.1 (kth.up xσ28)
      have mb_2 : kO σ28 b_2 120 := iσ28.1.kd (kth.up xσ28) rfl eb_2 rfl
      refine ⟨b_2, eb_2, fun kk_b_2 => ?_⟩
      refine ⟨⟨by (first | omega | with_reducible assumption | with_reducible exact rng_toInt _ | with_reducible exact rng_wr _ | (unfold rng; omega) | (unfold rng at *; omega) | assumption), by (first | omega | with_reducible assumption | with_reducible exact rng_toInt _ | with_reducible exact rng_wr _ | (unfold rng; omega) | (unfold rng at *; omega) | assumption)⟩, ?_⟩
      have n16b_3 := iσ28.n16
      obtain ⟨b_3, eb_3, mb_3, fb_3⟩ := P_120 iσ28 mb_2 (by omega) (k := v1.toNat) (by (first | omega | with_reducible assumption | with_reducible exact rng_toInt _ | with_reducible exact rng_wr _ | (unfold rng; omega) | (unfold rng at *; omega) | assumption))
      refine ⟨b_3, eb_3, fun kk_b_3 => ?_⟩
      have q11 := iσ28.rg b_3 15; unfold rng at q11
      by_cases hc10 : gI σ28 b_3 15 ≠ (-1)
      · rw [if_pos hc10]
        unfold w_X9_addChannel_83
        have tk83 := iσ28.tkr mb_3 (by omega) (by omega)
        refine ⟨b_3, eb_3, fun kk_b_3_1 => ?_⟩
        refine ⟨b, (kp8.trans eb), fun kk_b_4 => ?_⟩
        have q12 := (xσ28 b mb.1).2.2
        refine ⟨⟨by (first | omega | with_reducible assumption | with_reducible exact rng_toInt _ | with_reducible exact rng_wr _ | (unfold rng; omega) | (unfold rng at *; omega) | assumption), by (first | omega | with_reducible assumption | with_reducible exact rng_toInt _ | with_reducible exact rng_wr _ | (unfold rng; omega) | (unfold rng at *; omega) | assumption)⟩, ?_⟩
        have n16b_4 := iσ28.n16
        obtain ⟨b_4, eb_4, mb_4, fb_4⟩ := P_112 iσ28 (mb.up xσ28) (k := (gI σ28 b_3 15).toNat) (by (first | omega | with_reducible assumption | with_reducible exact rng_toInt _ | with_reducible exact rng_wr _ | (unfold rng; omega) | (unfold rng at *; omega) | assumption))
        refine ⟨b_4, eb_4, fun kk_b_4_1 => ?_⟩
        intro σ40 eσ40
        have xσ40 : Ext σ28 σ40 := by rw [eσ40]; exact fun _ h => ⟨h, rfl, rfl⟩
        have fσ40 : Fx [129, 130, 131, 132, 133, 134, 135, 587, 654, 655, 7168] gr σ σ40 := fσ28.tr (Sk.fx (by rw [eσ40]; exact Sk.pI (by rw [fcdO mb_4 (by decide)]; decide)))
        have wσ40 : gI σ40 b_4 7 = (gI σ28 th 11) := by rw [eσ40]; exact up2_s _ _ _ _
        have kp13 : gI σ40 b_3 15 = gI σ28 b_3 15 := by rw [eσ40]; exact up2_n _ _ (fun q => absurd q.2 (by decide))
        have kp14 : gI σ40 th 11 = gI σ28 th 11 := by rw [eσ40]; exact up2_n _ _ (fun q => absurd q.2 (by decide))
        have kp15 : gP σ40 b (gI σ th 11).toNat = gP σ28 b (gI σ th 11).toNat := by rw [eσ40]
        have kp16 : gP σ40 b (gI σ28 b_3 15).toNat = gP σ28 b (gI σ28 b_3 15).toNat := by rw [eσ40]
        have kp17 : gP σ40 b_2 v1.toNat = gP σ28 b_2 v1.toNat := by rw [eσ40]
        have kp18 : gP σ40 th 3 = gP σ28 th 3 := by rw [eσ40]
        have kp19 : gP σ40 th 4 = gP σ28 th 4 := by rw [eσ40]
        have kp20 : gI σ40 th 10 = gI σ28 th 10 := by rw [eσ40]; exact up2_n _ _ (fun q => absurd q.2 (by decide))
        unfold w_X9_addChannel_100
        refine ⟨b_3, eb_3, fun kk_b_3_2 => ?_⟩
        intro σ35 eσ35
        have xσ35 : Ext σ40 σ35 := by rw [eσ35]; exact fun _ h => ⟨h, rfl, rfl⟩
        have fσ35 : Fx [129, 130, 131, 132, 133, 134, 135, 587, 654, 655, 7168] gr σ σ35 := fσ40.tr (Sk.fx (by rw [eσ35]; exact Sk.pI (by rw [fcdO (mb_3.up xσ40) (by decide)]; decide)))
        have wσ35 : gI σ35 b_3 15 = (gI σ40 th 11) := by rw [eσ35]; exact up2_s _ _ _ _
        have kp21 : gI σ35 b_4 7 = gI σ40 b_4 7 := by rw [eσ35]; exact up2_n _ _ (fun q => absurd q.2 (by decide))
        have kp22 : gI σ35 th 11 = gI σ40 th 11 := by rw [eσ35]; exact up2_n _ _ (fun q => absurd q.2 (by decide))
        have kp23 : gP σ35 b (gI σ th 11).toNat = gP σ40 b (gI σ th 11).toNat := by rw [eσ35]
        have kp24 : gP σ35 b (gI σ28 b_3 15).toNat = gP σ40 b (gI σ28 b_3 15).toNat := by rw [eσ35]
        have kp25 : gP σ35 b_2 v1.toNat = gP σ40 b_2 v1.toNat := by rw [eσ35]
        have kp26 : gP σ35 th 3 = gP σ40 th 3 := by rw [eσ35]
        have kp27 : gP σ35 th 4 = gP σ40 th 4 := by rw [eσ35]
        have kp28 : gI σ35 th 10 = gI σ40 th 10 := by rw [eσ35]; exact up2_n _ _ (fun q => absurd q.2 (by decide))
        refine ⟨by (first | omega | with_reducible assumption | with_reducible exact rng_toInt _ | with_reducible exact rng_wr _ | (unfold rng; omega) | (unfold rng at *; omega) | assumption), ?_⟩
        intro σ36 eσ36
        have xσ36 : Ext σ35 σ36 := by rw [eσ36]; exact fun _ h => ⟨h, rfl, rfl⟩
        obtain ⟨nuσ36, iσ36, enuσ36⟩ : ∃ nu9 : Nat → Nat, IV σ36 pl gq ci gr nc ot LL N nu9 ∧ nu9 = up1 nuA 16 (nuA 16 + 1) := ⟨_, by rw [eσ36]; exact by rw [show gI σ35 th 11 = (nuA 16 : Int) by omega, eσ35]; first | (rw [show gI σ33 th 11 = (nuA 16 : Int) by omega, eσ33, show gI σ28 th 11 = (nuA 16 : Int) by omega]; exact iσ28.addC1 (kth.up xσ28) (mb_1.up xσ28) (by omega) (by omega) (by omega) (by omega) (by omega) mb_3) | (rw [show gI σ40 th 11 = (nuA 16 : Int) by omega, eσ40, show gI σ28 th 11 = (nuA 16 : Int) by omega]; exact iσ28.addC2 (kth.up xσ28) (mb_1.up xσ28) (by omega) (by omega) (by omega) (by omega) (by omega) mb_3 mb_4 (by omega)), rfl⟩
        have uσ36 : NW nuA nuσ36 := by rw [enuσ36]; exact nw16
        have fσ36 : Fx [129, 130, 131, 132, 133, 134, 135, 587, 654, 655, 7168] gr σ σ36 := fσ35.tr (Sk.fx (by rw [eσ36]; exact Sk.pI (by rw [fcdO (kth.up (xσ28.trans (xσ40.trans xσ35))) (by decide)]; decide)))
        have nu_σ36 : NW nu nuσ36 := nuz5.tr uσ36
        have w16 : nuσ36 16 = nuA 16 + 1 := by rw [enuσ36, up1_s]
        have w15 : nuσ36 15 = nuA 15 := by rw [enuσ36, up1_n _ _ (by decide)]
        have w17 : nuσ36 17 = nuA 17 := by rw [enuσ36, up1_n _ _ (by decide)]
        have wσ36 : gI σ36 th 11 = (gI σ35 th 11 + 1) := by rw [eσ36]; exact up2_s _ _ _ _
        have kp29 : gI σ36 b_3 15 = gI σ35 b_3 15 := by rw [eσ36]; exact up2_n _ _ (fun q => absurd q.2 (by decide))
        have kp30 : gI σ36 b_4 7 = gI σ35 b_4 7 := by rw [eσ36]; exact up2_n _ _ (fun q => absurd q.2 (by decide))
        have kp31 : gP σ36 b (gI σ th 11).toNat = gP σ35 b (gI σ th 11).toNat := by rw [eσ36]
        have kp32 : gP σ36 b (gI σ28 b_3 15).toNat = gP σ35 b (gI σ28 b_3 15).toNat := by rw [eσ36]
        have kp33 : gP σ36 b_2 v1.toNat = gP σ35 b_2 v1.toNat := by rw [eσ36]
        have kp34 : gP σ36 th 3 = gP σ35 th 3 := by rw [eσ36]
        have kp35 : gP σ36 th 4 = gP σ35 th 4 := by rw [eσ36]
        have kp36 : gI σ36 th 10 = gI σ35 th 10 := by rw [eσ36]; exact up2_n _ _ (fun q => absurd q.2 (by decide))
        exact hQ σ36 gq ci LL N nuσ36 () iσ36 geσ fσ36 (nu_σ36) hnσ (⟨by omega, by omega, by omega, rfl, rfl⟩)
      · rw [if_neg hc10]
        have hc10q := Classical.not_not.mp hc10
        unfold w_X9_addChannel_71
        refine ⟨b_3, eb_3, fun kk_b_3_3 => ?_⟩
        intro σ33 eσ33
        have xσ33 : Ext σ28 σ33 := by rw [eσ33]; exact fun _ h => ⟨h, rfl, rfl⟩
        have fσ33 : Fx [129, 130, 131, 132, 133, 134, 135, 587, 654, 655, 7168] gr σ σ33 := fσ28.tr (Sk.fx (by rw [eσ33]; exact Sk.pI (by rw [fcdO mb_3 (by decide)]; decide)))
        have wσ33 : gI σ33 b_3 14 = (gI σ28 th 11) := by rw [eσ33]; exact up2_s _ _ _ _
        have kp37 : gI σ33 b_3 15 = gI σ28 b_3 15 := by rw [eσ33]; exact up2_n _ _ (fun q => absurd q.2 (by decide))
        have kp38 : gI σ33 th 11 = gI σ28 th 11 := by rw [eσ33]; exact up2_n _ _ (fun q => absurd q.2 (by decide))
        have kp39 : gP σ33 b (gI σ th 11).toNat = gP σ28 b (gI σ th 11).toNat := by rw [eσ33]
        have kp40 : gP σ33 b_2 v1.toNat = gP σ28 b_2 v1.toNat := by rw [eσ33]
        have kp41 : gP σ33 th 3 = gP σ28 th 3 := by rw [eσ33]
        have kp42 : gP σ33 th 4 = gP σ28 th 4 := by rw [eσ33]
        have kp43 : gI σ33 th 10 = gI σ28 th 10 := by rw [eσ33]; exact up2_n _ _ (fun q => absurd q.2 (by decide))
        unfold w_X9_addChannel_100
        refine ⟨b_3, eb_3, fun kk_b_3_4 => ?_⟩
        intro σ35_1 eσ35_1
        have xσ35_1 : Ext σ33 σ35_1 := by rw [eσ35_1]; exact fun _ h => ⟨h, rfl, rfl⟩
        have fσ35_1 : Fx [129, 130, 131, 132, 133, 134, 135, 587, 654, 655, 7168] gr σ σ35_1 := fσ33.tr (Sk.fx (by rw [eσ35_1]; exact Sk.pI (by rw [fcdO (mb_3.up xσ33) (by decide)]; decide)))
        have wσ35_1 : gI σ35_1 b_3 15 = (gI σ33 th 11) := by rw [eσ35_1]; exact up2_s _ _ _ _
        have kp44 : gI σ35_1 b_3 14 = gI σ33 b_3 14 := by rw [eσ35_1]; exact up2_n _ _ (fun q => absurd q.2 (by decide))
        have kp45 : gI σ35_1 th 11 = gI σ33 th 11 := by rw [eσ35_1]; exact up2_n _ _ (fun q => absurd q.2 (by decide))
        have kp46 : gP σ35_1 b (gI σ th 11).toNat = gP σ33 b (gI σ th 11).toNat := by rw [eσ35_1]
        have kp47 : gP σ35_1 b_2 v1.toNat = gP σ33 b_2 v1.toNat := by rw [eσ35_1]
        have kp48 : gP σ35_1 th 3 = gP σ33 th 3 := by rw [eσ35_1]
        have kp49 : gP σ35_1 th 4 = gP σ33 th 4 := by rw [eσ35_1]
        have kp50 : gI σ35_1 th 10 = gI σ33 th 10 := by rw [eσ35_1]; exact up2_n _ _ (fun q => absurd q.2 (by decide))
        refine ⟨by (first | omega | with_reducible assumption | with_reducible exact rng_toInt _ | with_reducible exact rng_wr _ | (unfold rng; omega) | (unfold rng at *; omega) | assumption), ?_⟩
        intro σ36_1 eσ36_1
        have xσ36_1 : Ext σ35_1 σ36_1 := by rw [eσ36_1]; exact fun _ h => ⟨h, rfl, rfl⟩
        obtain ⟨nuσ36_1, iσ36_1, enuσ36_1⟩ : ∃ nu9 : Nat → Nat, IV σ36_1 pl gq ci gr nc ot LL N nu9 ∧ nu9 = up1 nuA 16 (nuA 16 + 1) := ⟨_, by rw [eσ36_1]; exact by rw [show gI σ35_1 th 11 = (nuA 16 : Int) by omega, eσ35_1]; first | (rw [show gI σ33 th 11 = (nuA 16 : Int) by omega, eσ33, show gI σ28 th 11 = (nuA 16 : Int) by omega]; exact iσ28.addC1 (kth.up xσ28) (mb_1.up xσ28) (by omega) (by omega) (by omega) (by omega) (by omega) mb_3) | (rw [show gI σ40 th 11 = (nuA 16 : Int) by omega, eσ40, show gI σ28 th 11 = (nuA 16 : Int) by omega]; exact iσ28.addC2 (kth.up xσ28) (mb_1.up xσ28) (by omega) (by omega) (by omega) (by omega) (by omega) mb_3 mb_3 (by omega)), rfl⟩
        have uσ36_1 : NW nuA nuσ36_1 := by rw [enuσ36_1]; exact nw16
        have fσ36_1 : Fx [129, 130, 131, 132, 133, 134, 135, 587, 654, 655, 7168] gr σ σ36_1 := fσ35_1.tr (Sk.fx (by rw [eσ36_1]; exact Sk.pI (by rw [fcdO (kth.up (xσ28.trans (xσ33.trans xσ35_1))) (by decide)]; decide)))
        have nu_σ36_1 : NW nu nuσ36_1 := nuz5.tr uσ36_1
        have w16 : nuσ36_1 16 = nuA 16 + 1 := by rw [enuσ36_1, up1_s]
        have w15 : nuσ36_1 15 = nuA 15 := by rw [enuσ36_1, up1_n _ _ (by decide)]
        have w17 : nuσ36_1 17 = nuA 17 := by rw [enuσ36_1, up1_n _ _ (by decide)]
        have wσ36_1 : gI σ36_1 th 11 = (gI σ35_1 th 11 + 1) := by rw [eσ36_1]; exact up2_s _ _ _ _
        have kp51 : gI σ36_1 b_3 14 = gI σ35_1 b_3 14 := by rw [eσ36_1]; exact up2_n _ _ (fun q => absurd q.2 (by decide))
        have kp52 : gI σ36_1 b_3 15 = gI σ35_1 b_3 15 := by rw [eσ36_1]; exact up2_n _ _ (fun q => absurd q.2 (by decide))
        have kp53 : gP σ36_1 b (gI σ th 11).toNat = gP σ35_1 b (gI σ th 11).toNat := by rw [eσ36_1]
        have kp54 : gP σ36_1 b_2 v1.toNat = gP σ35_1 b_2 v1.toNat := by rw [eσ36_1]
        have kp55 : gP σ36_1 th 3 = gP σ35_1 th 3 := by rw [eσ36_1]
        have kp56 : gP σ36_1 th 4 = gP σ35_1 th 4 := by rw [eσ36_1]
        have kp57 : gI σ36_1 th 10 = gI σ35_1 th 10 := by rw [eσ36_1]; exact up2_n _ _ (fun q => absurd q.2 (by decide))
        exact hQ σ36_1 gq ci LL N nuσ36_1 () iσ36_1 geσ fσ36_1 (nu_σ36_1) hnσ (⟨by omega, by omega, by omega, rfl, rfl⟩)
    · rw [if_neg hc4]
      have hc4q := Classical.not_not.mp hc4
      unfold w_X9_addChannel_23
      have e9z : (gI σ th 11).toNat = nu 16 := by omega
      have s1z : (gI σ th 11).toNat = nu 1 := by rw [e9z]; exact iσ.slot1 mb (by rw [← e9z]; exact Classical.not_not.mp (by assumption))
      refine i_newChan iσ.room4 iσ.nd iσ.2.2.2.2.2.2.1.1 (fun qσ26 q1σ26 oσ26 gwσ26 kqσ26 kcσ26 hIσ26 hJσ26 hPσ26 hPcσ26 hcσ26 hsσ26 hRσ26 => ?_)
      have gnσ26 := (gwσ26.2.2.1 b mb.1).2.2
      refine ⟨b, eb, fun _ => ⟨⟨by (first | omega | with_reducible assumption | with_reducible exact rng_toInt _ | with_reducible exact rng_wr _ | (unfold rng; omega) | (unfold rng at *; omega) | assumption), by (first | omega | with_reducible assumption | with_reducible exact rng_toInt _ | with_reducible exact rng_wr _ | (unfold rng; omega) | (unfold rng at *; omega) | assumption)⟩, fun σ26 eσ26 => ?_⟩⟩
      obtain ⟨gqσ26, ciσ26, nuσ26, iσ26, gσ26, enuσ26, tcσ26, ktσ26, psσ26⟩ := iσ.newC mb (by (first | omega | with_reducible assumption | with_reducible exact rng_toInt _ | with_reducible exact rng_wr _ | (unfold rng; omega) | (unfold rng at *; omega) | assumption)) hc4q (s1z) gwσ26 eσ26 kqσ26 kcσ26 hIσ26 hJσ26 hPσ26 hPcσ26 hcσ26 hsσ26 hRσ26
      have xσ26 : Ext σ σ26 := by rw [eσ26]; exact fun a ha => gwσ26.2.2.1 a ha
      have fσ26 : Fx [129, 130, 131, 132, 133, 134, 135, 587, 654, 655, 7168] gr σ σ26 := fσ.tr (gwσ26.fx eσ26 mb (by decide))
      have uσ26 : NW nu nuσ26 := by rw [enuσ26]; exact nu_C1
      have nu_σ26 : NW nu nuσ26 := uσ26
      have geσ26 : GE (gD σ) gq ci gqσ26 ciσ26 := geσ.tr gσ26 (fun d hd => (fσ.1 d hd).1)
      have gl59 := gσ26 b mb.1
      have kp60 : gI σ26 th 11 = gI σ th 11 := by rw [eσ26]; exact (gwσ26.2.2.2 th kth.1 11).1
      have kp61 : gP σ26 th 4 = gP σ th 4 := by rw [eσ26, gP_pP, up2_n _ _ (fun z => absurd z.1 (kO.ne kth mb (by decide)))]; exact (gwσ26.2.2.2 th kth.1 4).2.1
      have kp62 : gI σ26 th 10 = gI σ th 10 := by rw [eσ26]; exact (gwσ26.2.2.2 th kth.1 10).1
      have v16 : nuσ26 16 = nu 16 := by rw [enuσ26, up1_n _ _ (by decide), up1_n _ _ (by decide)]
      have v15 : nuσ26 15 = nu 15 := by rw [enuσ26, up1_n _ _ (by decide), up1_n _ _ (by decide)]
      have v17 : nuσ26 17 = nu 17 := by rw [enuσ26, up1_n _ _ (by decide), up1_n _ _ (by decide)]
      have v0 : nuσ26 0 = nu 0 := by rw [enuσ26, up1_n _ _ (by decide), up1_n _ _ (by decide)]
      unfold w_X9_addChannel_39
      have n16b := iσ26.n16
      have tcb := iσ26.tc (kth.up xσ26)
      have sl9 : gP σ26 b (gI σ26 th 11).toNat ≠ none := by first | assumption | (rw [show gI σ26 th 11 = gI σ th 11 by omega, psσ26]; simp)
      have sl8 : gP σ26 b (nuσ26 16) ≠ none := by rw [show nuσ26 16 = (gI σ26 th 11).toNat by omega]; exact sl9
      obtain ⟨nuA, iσ26, hA1, uA, eA⟩ := iσ26.mk1 (mb.up xσ26) (by omega) sl8
      have nuz63 : NW nu nuA := nu_σ26.tr uA
      have eA16 := eA 16 (by decide)
      have eA15 := eA 15 (by decide)
      have eA17 := eA 17 (by decide)
      have eA0 := eA 0 (by decide)
      refine ⟨b, (kp61.trans eb), fun kk_b_5 => ?_⟩
      have q64 := (xσ26 b mb.1).2.2
      refine ⟨⟨by (first | omega | with_reducible assumption | with_reducible exact rng_toInt _ | with_reducible exact rng_wr _ | (unfold rng; omega) | (unfold rng at *; omega) | assumption), by (first | omega | with_reducible assumption | with_reducible exact rng_toInt _ | with_reducible exact rng_wr _ | (unfold rng; omega) | (unfold rng at *; omega) | assumption)⟩, ?_⟩
      have n16b_5 := iσ26.n16
      obtain ⟨b_5, eb_5, mb_5, fb_5⟩ := P_112 iσ26 (mb.up xσ26) (k := (gI σ26 th 11).toNat) (by (first | omega | with_reducible assumption | with_reducible exact rng_toInt _ | with_reducible exact rng_wr _ | (unfold rng; omega) | (unfold rng at *; omega) | assumption))
      refine ⟨b_5, eb_5, fun kk_b_5_1 => ?_⟩
      refine i_X2_lay iσ26 mb_5 (by unfold rng; omega) (by unfold rng; omega) h3 (by omega) (fun σ28_1 _ iσ28_1 cσ28_1 pσ28_1 => ?_)
      intro xσ28_1
      have fσ28_1 : Fx [129, 130, 131, 132, 133, 134, 135, 587, 654, 655, 7168] gr σ σ28_1 := fσ26.tr (cσ28_1.mo (by decide))
      have kp65 : gI σ28_1 th 11 = gI σ26 th 11 := (cσ28_1.O (kth.up xσ26) (by decide)).1
      have kp66 : gP σ28_1 b (gI σ th 11).toNat = gP σ26 b (gI σ th 11).toNat := (cσ28_1.A (mb.up xσ26) (by decide)).2.1
      have kp67 : gP σ28_1 b (gI σ26 th 11).toNat = gP σ26 b (gI σ26 th 11).toNat := (cσ28_1.A (mb.up xσ26) (by decide)).2.1
      have kp68 : gP σ28_1 th 4 = gP σ26 th 4 := (cσ28_1.O (kth.up xσ26) (by decide)).2.1
      have kp69 : gI σ28_1 th 10 = gI σ26 th 10 := (cσ28_1.O (kth.up xσ26) (by decide)).1
      have tck := iσ28_1.tc (kth.up (xσ26.trans xσ28_1))
      obtain ⟨b_6, eb_6, fb_6⟩ := P_9_3 iσ28_1.1 (kth.up (xσ26.trans xσ28_1))
      have mb_6 : kO σ28_1 b_6 120 := iσ28_1.1.kd (kth.up (xσ26.trans xσ28_1)) rfl eb_6 rfl
      refine ⟨b_6, eb_6, fun kk_b_6 => ?_⟩
      refine ⟨⟨by (first | omega | with_reducible assumption | with_reducible exact rng_toInt _ | with_reducible exact rng_wr _ | (unfold rng; omega) | (unfold rng at *; omega) | assumption), by (first | omega | with_reducible assumption | with_reducible exact rng_toInt _ | with_reducible exact rng_wr _ | (unfold rng; omega) | (unfold rng at *; omega) | assumption)⟩, ?_⟩
      have n16b_7 := iσ28_1.n16
      obtain ⟨b_7, eb_7, mb_7, fb_7⟩ := P_120 iσ28_1 mb_6 (by omega) (k := v1.toNat) (by (first | omega | with_reducible assumption | with_reducible exact rng_toInt _ | with_reducible exact rng_wr _ | (unfold rng; omega) | (unfold rng at *; omega) | assumption))
      refine ⟨b_7, eb_7, fun kk_b_7 => ?_⟩
      have q71 := iσ28_1.rg b_7 15; unfold rng at q71
      by_cases hc70 : gI σ28_1 b_7 15 ≠ (-1)
      · rw [if_pos hc70]
        unfold w_X9_addChannel_83
        have tk83 := iσ28_1.tkr mb_7 (by omega) (by omega)
        refine ⟨b_7, eb_7, fun kk_b_7_1 => ?_⟩
        refine ⟨b, (kp68.trans (kp61.trans eb)), fun kk_b_8 => ?_⟩
        have q72 := ((xσ26.trans xσ28_1) b mb.1).2.2
        refine ⟨⟨by (first | omega | with_reducible assumption | with_reducible exact rng_toInt _ | with_reducible exact rng_wr _ | (unfold rng; omega) | (unfold rng at *; omega) | assumption), by (first | omega | with_reducible assumption | with_reducible exact rng_toInt _ | with_reducible exact rng_wr _ | (unfold rng; omega) | (unfold rng at *; omega) | assumption)⟩, ?_⟩
        have n16b_8 := iσ28_1.n16
        obtain ⟨b_8, eb_8, mb_8, fb_8⟩ := P_112 iσ28_1 (mb.up (xσ26.trans xσ28_1)) (k := (gI σ28_1 b_7 15).toNat) (by (first | omega | with_reducible assumption | with_reducible exact rng_toInt _ | with_reducible exact rng_wr _ | (unfold rng; omega) | (unfold rng at *; omega) | assumption))
        refine ⟨b_8, eb_8, fun kk_b_8_1 => ?_⟩
        intro σ40_1 eσ40_1
        have xσ40_1 : Ext σ28_1 σ40_1 := by rw [eσ40_1]; exact fun _ h => ⟨h, rfl, rfl⟩
        have fσ40_1 : Fx [129, 130, 131, 132, 133, 134, 135, 587, 654, 655, 7168] gr σ σ40_1 := fσ28_1.tr (Sk.fx (by rw [eσ40_1]; exact Sk.pI (by rw [fcdO mb_8 (by decide)]; decide)))
        have wσ40_1 : gI σ40_1 b_8 7 = (gI σ28_1 th 11) := by rw [eσ40_1]; exact up2_s _ _ _ _
        have kp73 : gI σ40_1 b_7 15 = gI σ28_1 b_7 15 := by rw [eσ40_1]; exact up2_n _ _ (fun q => absurd q.2 (by decide))
        have kp74 : gI σ40_1 th 11 = gI σ28_1 th 11 := by rw [eσ40_1]; exact up2_n _ _ (fun q => absurd q.2 (by decide))
        have kp75 : gP σ40_1 b (gI σ th 11).toNat = gP σ28_1 b (gI σ th 11).toNat := by rw [eσ40_1]
        have kp76 : gP σ40_1 b (gI σ26 th 11).toNat = gP σ28_1 b (gI σ26 th 11).toNat := by rw [eσ40_1]
        have kp77 : gP σ40_1 b (gI σ28_1 b_7 15).toNat = gP σ28_1 b (gI σ28_1 b_7 15).toNat := by rw [eσ40_1]
        have kp78 : gP σ40_1 b_6 v1.toNat = gP σ28_1 b_6 v1.toNat := by rw [eσ40_1]
        have kp79 : gP σ40_1 th 3 = gP σ28_1 th 3 := by rw [eσ40_1]
        have kp80 : gP σ40_1 th 4 = gP σ28_1 th 4 := by rw [eσ40_1]
        have kp81 : gI σ40_1 th 10 = gI σ28_1 th 10 := by rw [eσ40_1]; exact up2_n _ _ (fun q => absurd q.2 (by decide))
        unfold w_X9_addChannel_100
        refine ⟨b_7, eb_7, fun kk_b_7_2 => ?_⟩
        intro σ35_2 eσ35_2
        have xσ35_2 : Ext σ40_1 σ35_2 := by rw [eσ35_2]; exact fun _ h => ⟨h, rfl, rfl⟩
        have fσ35_2 : Fx [129, 130, 131, 132, 133, 134, 135, 587, 654, 655, 7168] gr σ σ35_2 := fσ40_1.tr (Sk.fx (by rw [eσ35_2]; exact Sk.pI (by rw [fcdO (mb_7.up xσ40_1) (by decide)]; decide)))
        have wσ35_2 : gI σ35_2 b_7 15 = (gI σ40_1 th 11) := by rw [eσ35_2]; exact up2_s _ _ _ _
        have kp82 : gI σ35_2 b_8 7 = gI σ40_1 b_8 7 := by rw [eσ35_2]; exact up2_n _ _ (fun q => absurd q.2 (by decide))
        have kp83 : gI σ35_2 th 11 = gI σ40_1 th 11 := by rw [eσ35_2]; exact up2_n _ _ (fun q => absurd q.2 (by decide))
        have kp84 : gP σ35_2 b (gI σ th 11).toNat = gP σ40_1 b (gI σ th 11).toNat := by rw [eσ35_2]
        have kp85 : gP σ35_2 b (gI σ26 th 11).toNat = gP σ40_1 b (gI σ26 th 11).toNat := by rw [eσ35_2]
        have kp86 : gP σ35_2 b (gI σ28_1 b_7 15).toNat = gP σ40_1 b (gI σ28_1 b_7 15).toNat := by rw [eσ35_2]
        have kp87 : gP σ35_2 b_6 v1.toNat = gP σ40_1 b_6 v1.toNat := by rw [eσ35_2]
        have kp88 : gP σ35_2 th 3 = gP σ40_1 th 3 := by rw [eσ35_2]
        have kp89 : gP σ35_2 th 4 = gP σ40_1 th 4 := by rw [eσ35_2]
        have kp90 : gI σ35_2 th 10 = gI σ40_1 th 10 := by rw [eσ35_2]; exact up2_n _ _ (fun q => absurd q.2 (by decide))
        refine ⟨by (first | omega | with_reducible assumption | with_reducible exact rng_toInt _ | with_reducible exact rng_wr _ | (unfold rng; omega) | (unfold rng at *; omega) | assumption), ?_⟩
        intro σ36_2 eσ36_2
        have xσ36_2 : Ext σ35_2 σ36_2 := by rw [eσ36_2]; exact fun _ h => ⟨h, rfl, rfl⟩
        obtain ⟨nuσ36_2, iσ36_2, enuσ36_2⟩ : ∃ nu9 : Nat → Nat, IV σ36_2 pl gqσ26 ciσ26 gr nc ot LL N nu9 ∧ nu9 = up1 nuA 16 (nuA 16 + 1) := ⟨_, by rw [eσ36_2]; exact by rw [show gI σ35_2 th 11 = (nuA 16 : Int) by omega, eσ35_2]; first | (rw [show gI σ33 th 11 = (nuA 16 : Int) by omega, eσ33, show gI σ28_1 th 11 = (nuA 16 : Int) by omega]; exact iσ28_1.addC1 (kth.up (xσ26.trans xσ28_1)) (mb_5.up xσ28_1) (by omega) (by omega) (by omega) (by omega) (by omega) mb_7) | (rw [show gI σ40_1 th 11 = (nuA 16 : Int) by omega, eσ40_1, show gI σ28_1 th 11 = (nuA 16 : Int) by omega]; exact iσ28_1.addC2 (kth.up (xσ26.trans xσ28_1)) (mb_5.up xσ28_1) (by omega) (by omega) (by omega) (by omega) (by omega) mb_7 mb_8 (by omega)), rfl⟩
        have uσ36_2 : NW nuA nuσ36_2 := by rw [enuσ36_2]; exact nw16
        have fσ36_2 : Fx [129, 130, 131, 132, 133, 134, 135, 587, 654, 655, 7168] gr σ σ36_2 := fσ35_2.tr (Sk.fx (by rw [eσ36_2]; exact Sk.pI (by rw [fcdO (kth.up (xσ26.trans (xσ28_1.trans (xσ40_1.trans xσ35_2)))) (by decide)]; decide)))
        have nu_σ36_2 : NW nu nuσ36_2 := nuz63.tr uσ36_2
        have w16 : nuσ36_2 16 = nuA 16 + 1 := by rw [enuσ36_2, up1_s]
        have w15 : nuσ36_2 15 = nuA 15 := by rw [enuσ36_2, up1_n _ _ (by decide)]
        have w17 : nuσ36_2 17 = nuA 17 := by rw [enuσ36_2, up1_n _ _ (by decide)]
        have wσ36_2 : gI σ36_2 th 11 = (gI σ35_2 th 11 + 1) := by rw [eσ36_2]; exact up2_s _ _ _ _
        have kp91 : gI σ36_2 b_7 15 = gI σ35_2 b_7 15 := by rw [eσ36_2]; exact up2_n _ _ (fun q => absurd q.2 (by decide))
        have kp92 : gI σ36_2 b_8 7 = gI σ35_2 b_8 7 := by rw [eσ36_2]; exact up2_n _ _ (fun q => absurd q.2 (by decide))
        have kp93 : gP σ36_2 b (gI σ th 11).toNat = gP σ35_2 b (gI σ th 11).toNat := by rw [eσ36_2]
        have kp94 : gP σ36_2 b (gI σ26 th 11).toNat = gP σ35_2 b (gI σ26 th 11).toNat := by rw [eσ36_2]
        have kp95 : gP σ36_2 b (gI σ28_1 b_7 15).toNat = gP σ35_2 b (gI σ28_1 b_7 15).toNat := by rw [eσ36_2]
        have kp96 : gP σ36_2 b_6 v1.toNat = gP σ35_2 b_6 v1.toNat := by rw [eσ36_2]
        have kp97 : gP σ36_2 th 3 = gP σ35_2 th 3 := by rw [eσ36_2]
        have kp98 : gP σ36_2 th 4 = gP σ35_2 th 4 := by rw [eσ36_2]
        have kp99 : gI σ36_2 th 10 = gI σ35_2 th 10 := by rw [eσ36_2]; exact up2_n _ _ (fun q => absurd q.2 (by decide))
        exact hQ σ36_2 gqσ26 ciσ26 LL N nuσ36_2 () iσ36_2 geσ26 fσ36_2 (nu_σ36_2) hnσ (⟨by omega, by omega, by omega, rfl, rfl⟩)
      · rw [if_neg hc70]
        have hc70q := Classical.not_not.mp hc70
        unfold w_X9_addChannel_71
        refine ⟨b_7, eb_7, fun kk_b_7_3 => ?_⟩
        intro σ33_1 eσ33_1
        have xσ33_1 : Ext σ28_1 σ33_1 := by rw [eσ33_1]; exact fun _ h => ⟨h, rfl, rfl⟩
        have fσ33_1 : Fx [129, 130, 131, 132, 133, 134, 135, 587, 654, 655, 7168] gr σ σ33_1 := fσ28_1.tr (Sk.fx (by rw [eσ33_1]; exact Sk.pI (by rw [fcdO mb_7 (by decide)]; decide)))
        have wσ33_1 : gI σ33_1 b_7 14 = (gI σ28_1 th 11) := by rw [eσ33_1]; exact up2_s _ _ _ _
        have kp100 : gI σ33_1 b_7 15 = gI σ28_1 b_7 15 := by rw [eσ33_1]; exact up2_n _ _ (fun q => absurd q.2 (by decide))
        have kp101 : gI σ33_1 th 11 = gI σ28_1 th 11 := by rw [eσ33_1]; exact up2_n _ _ (fun q => absurd q.2 (by decide))
        have kp102 : gP σ33_1 b (gI σ th 11).toNat = gP σ28_1 b (gI σ th 11).toNat := by rw [eσ33_1]
        have kp103 : gP σ33_1 b (gI σ26 th 11).toNat = gP σ28_1 b (gI σ26 th 11).toNat := by rw [eσ33_1]
        have kp104 : gP σ33_1 b_6 v1.toNat = gP σ28_1 b_6 v1.toNat := by rw [eσ33_1]
        have kp105 : gP σ33_1 th 3 = gP σ28_1 th 3 := by rw [eσ33_1]
        have kp106 : gP σ33_1 th 4 = gP σ28_1 th 4 := by rw [eσ33_1]
        have kp107 : gI σ33_1 th 10 = gI σ28_1 th 10 := by rw [eσ33_1]; exact up2_n _ _ (fun q => absurd q.2 (by decide))
        unfold w_X9_addChannel_100
        refine ⟨b_7, eb_7, fun kk_b_7_4 => ?_⟩
        intro σ35_3 eσ35_3
        have xσ35_3 : Ext σ33_1 σ35_3 := by rw [eσ35_3]; exact fun _ h => ⟨h, rfl, rfl⟩
        have fσ35_3 : Fx [129, 130, 131, 132, 133, 134, 135, 587, 654, 655, 7168] gr σ σ35_3 := fσ33_1.tr (Sk.fx (by rw [eσ35_3]; exact Sk.pI (by rw [fcdO (mb_7.up xσ33_1) (by decide)]; decide)))
        have wσ35_3 : gI σ35_3 b_7 15 = (gI σ33_1 th 11) := by rw [eσ35_3]; exact up2_s _ _ _ _
        have kp108 : gI σ35_3 b_7 14 = gI σ33_1 b_7 14 := by rw [eσ35_3]; exact up2_n _ _ (fun q => absurd q.2 (by decide))
        have kp109 : gI σ35_3 th 11 = gI σ33_1 th 11 := by rw [eσ35_3]; exact up2_n _ _ (fun q => absurd q.2 (by decide))
        have kp110 : gP σ35_3 b (gI σ th 11).toNat = gP σ33_1 b (gI σ th 11).toNat := by rw [eσ35_3]
        have kp111 : gP σ35_3 b (gI σ26 th 11).toNat = gP σ33_1 b (gI σ26 th 11).toNat := by rw [eσ35_3]
        have kp112 : gP σ35_3 b_6 v1.toNat = gP σ33_1 b_6 v1.toNat := by rw [eσ35_3]
        have kp113 : gP σ35_3 th 3 = gP σ33_1 th 3 := by rw [eσ35_3]
        have kp114 : gP σ35_3 th 4 = gP σ33_1 th 4 := by rw [eσ35_3]
        have kp115 : gI σ35_3 th 10 = gI σ33_1 th 10 := by rw [eσ35_3]; exact up2_n _ _ (fun q => absurd q.2 (by decide))
        refine ⟨by (first | omega | with_reducible assumption | with_reducible exact rng_toInt _ | with_reducible exact rng_wr _ | (unfold rng; omega) | (unfold rng at *; omega) | assumption), ?_⟩
        intro σ36_3 eσ36_3
        have xσ36_3 : Ext σ35_3 σ36_3 := by rw [eσ36_3]; exact fun _ h => ⟨h, rfl, rfl⟩
        obtain ⟨nuσ36_3, iσ36_3, enuσ36_3⟩ : ∃ nu9 : Nat → Nat, IV σ36_3 pl gqσ26 ciσ26 gr nc ot LL N nu9 ∧ nu9 = up1 nuA 16 (nuA 16 + 1) := ⟨_, by rw [eσ36_3]; exact by rw [show gI σ35_3 th 11 = (nuA 16 : Int) by omega, eσ35_3]; first | (rw [show gI σ33_1 th 11 = (nuA 16 : Int) by omega, eσ33_1, show gI σ28_1 th 11 = (nuA 16 : Int) by omega]; exact iσ28_1.addC1 (kth.up (xσ26.trans xσ28_1)) (mb_5.up xσ28_1) (by omega) (by omega) (by omega) (by omega) (by omega) mb_7) | (rw [show gI σ40_1 th 11 = (nuA 16 : Int) by omega, eσ40_1, show gI σ28_1 th 11 = (nuA 16 : Int) by omega]; exact iσ28_1.addC2 (kth.up (xσ26.trans xσ28_1)) (mb_5.up xσ28_1) (by omega) (by omega) (by omega) (by omega) (by omega) mb_7 mb_7 (by omega)), rfl⟩
        have uσ36_3 : NW nuA nuσ36_3 := by rw [enuσ36_3]; exact nw16
        have fσ36_3 : Fx [129, 130, 131, 132, 133, 134, 135, 587, 654, 655, 7168] gr σ σ36_3 := fσ35_3.tr (Sk.fx (by rw [eσ36_3]; exact Sk.pI (by rw [fcdO (kth.up (xσ26.trans (xσ28_1.trans (xσ33_1.trans xσ35_3)))) (by decide)]; decide)))
        have nu_σ36_3 : NW nu nuσ36_3 := nuz63.tr uσ36_3
        have w16 : nuσ36_3 16 = nuA 16 + 1 := by rw [enuσ36_3, up1_s]
        have w15 : nuσ36_3 15 = nuA 15 := by rw [enuσ36_3, up1_n _ _ (by decide)]
        have w17 : nuσ36_3 17 = nuA 17 := by rw [enuσ36_3, up1_n _ _ (by decide)]
        have wσ36_3 : gI σ36_3 th 11 = (gI σ35_3 th 11 + 1) := by rw [eσ36_3]; exact up2_s _ _ _ _
        have kp116 : gI σ36_3 b_7 14 = gI σ35_3 b_7 14 := by rw [eσ36_3]; exact up2_n _ _ (fun q => absurd q.2 (by decide))
        have kp117 : gI σ36_3 b_7 15 = gI σ35_3 b_7 15 := by rw [eσ36_3]; exact up2_n _ _ (fun q => absurd q.2 (by decide))
        have kp118 : gP σ36_3 b (gI σ th 11).toNat = gP σ35_3 b (gI σ th 11).toNat := by rw [eσ36_3]
        have kp119 : gP σ36_3 b (gI σ26 th 11).toNat = gP σ35_3 b (gI σ26 th 11).toNat := by rw [eσ36_3]
        have kp120 : gP σ36_3 b_6 v1.toNat = gP σ35_3 b_6 v1.toNat := by rw [eσ36_3]
        have kp121 : gP σ36_3 th 3 = gP σ35_3 th 3 := by rw [eσ36_3]
        have kp122 : gP σ36_3 th 4 = gP σ35_3 th 4 := by rw [eσ36_3]
        have kp123 : gI σ36_3 th 10 = gI σ35_3 th 10 := by rw [eσ36_3]; exact up2_n _ _ (fun q => absurd q.2 (by decide))
        exact hQ σ36_3 gqσ26 ciσ26 LL N nuσ36_3 () iσ36_3 geσ26 fσ36_3 (nu_σ36_3) hnσ (⟨by omega, by omega, by omega, rfl, rfl⟩)
  · rw [if_neg hc1]
    unfold w_X9_addChannel_10
    exact hQ σ gq ci LL N nu () iσ geσ fσ (NW.rf) hnσ (⟨by omega, by omega, by omega, rfl, rfl⟩)
set_option maxHeartbeats 1000000 in
theorem i_X9_connect {σ : Sg} {pl : Nat} {gq ci gr nc : Nat → Nat} {ot : Nat → Nat → Int} {LL : Nat → List Nat} {N nu : Nat → Nat} {th : Nat} {v1 : Int} {v2 : Int} {v3 : Int} {J F P : Nat} (iσ : IV σ pl gq ci gr nc ot LL N nu) (kth : kO σ th 9) (hj : gP σ th 9 = some J) (kJ : kO σ J 4) (hJ : gq J = nc 0) (hF : gP σ th 5 = some F) (kF : kO σ F 100) (gF : gr F = 3) (hP : 1 ≤ P ∧ P ≤ 4) (hl1 : LT1 σ gq ci nu ot P) (hf1 : FT1 σ F ot P (nc 1 + 1)) (h15 : nu 15 = bsO ot P (nc 1)) (h1 : 0 ≤ v1 ∧ v1 < (nu 15 : Int)) (h2 : 0 ≤ v2 ∧ v2 ≤ 1) (h3 : -1 ≤ v3 ∧ v3 < (nc 1 : Int)) {Q : Sg → Unit → Prop} {X : Sg → String → Prop} (hQ : ∀ (σ' : Sg) (gq' ci' : Nat → Nat) (LL' : Nat → List Nat) (N' nu' : Nat → Nat) (r : Unit), IV σ' pl gq' ci' gr nc ot LL' N' nu' → GE (gD σ) gq ci gq' ci' → Fx [129, 130, 131, 132, 133, 134, 135, 587, 654, 655, 7168] gr σ σ' → NW nu nu' → Hn (gD σ) [] [] gq LL LL' N N' → (nu' 15 = nu 15 ∧ nu' 17 = nu 17 ∧ nu 16 ≤ nu' 16 ∧ LL' = LL ∧ N' = N) → Q σ' r) : wp_X9_connect th v1 v2 v3 σ Q X := by
  have fσ : Fx [129, 130, 131, 132, 133, 134, 135, 587, 654, 655, 7168] gr σ σ := Fx.rf
  have geσ : GE (gD σ) gq ci gq ci := GE.rf
  have hnσ : Hn (gD σ) [] [] gq LL LL N N := Hn.rf
  have n16 := iσ.n16
  have ncb := iσ.ncb
  have gF8 := (T_9_5 iσ.1 kth hF).1
  unfold wp_X9_connect
  unfold w_X9_connect_0
  by_cases hc1 : v3 ≠ (-1)
  · rw [if_pos hc1]
    unfold w_X9_connect_6
    have b0 := hf1 v3.toNat (by omega)
    have b1 := hf1 (v3 + 1).toNat (by omega)
    have b3 : bsO ot P (v3 + 1).toNat = bsO ot P (v3.toNat + 1) := by rw [show (v3 + 1).toNat = v3.toNat + 1 by omega]
    have bu := bsO_up (ot := ot) hP v3.toNat
    have bm := bsO_mono (ot := ot) hP (i := v3.toNat + 1) (j := nc 1) (by omega)
    refine ⟨J, hj, fun kk_J => ?_⟩
    obtain ⟨b, eb, fb⟩ := P_9_3 iσ.1 kth
    have mb : kO σ b 120 := iσ.1.kd kth rfl eb rfl
    refine ⟨b, eb, fun kk_b => ?_⟩
    refine ⟨⟨by (first | omega | with_reducible assumption | with_reducible exact rng_toInt _ | with_reducible exact rng_wr _ | (unfold rng; omega) | (unfold rng at *; omega) | assumption), by (first | omega | with_reducible assumption | with_reducible exact rng_toInt _ | with_reducible exact rng_wr _ | (unfold rng; omega) | (unfold rng at *; omega) | assumption)⟩, ?_⟩
    have n16b_1 := iσ.n16
    obtain ⟨b_1, eb_1, mb_1, fb_1⟩ := P_120 iσ mb (by omega) (k := v1.toNat) (by (first | omega | with_reducible assumption | with_reducible exact rng_toInt _ | with_reducible exact rng_wr _ | (unfold rng; omega) | (unfold rng at *; omega) | assumption))
    refine ⟨b_1, eb_1, fun kk_b_1 => ?_⟩
    obtain ⟨b_2, eb_2, fb_2⟩ := P_4_0 iσ.1 kJ
    have mb_2 : kO σ b_2 115 := iσ.1.kd kJ rfl eb_2 rfl
    refine ⟨b_2, eb_2, fun kk_b_2 => ?_⟩
    have q2 := I_10_0 iσ.1 mb_1
    refine ⟨⟨by (first | omega | with_reducible assumption | with_reducible exact rng_toInt _ | with_reducible exact rng_wr _ | (unfold rng; omega) | (unfold rng at *; omega) | assumption), by (first | omega | with_reducible assumption | with_reducible exact rng_toInt _ | with_reducible exact rng_wr _ | (unfold rng; omega) | (unfold rng at *; omega) | assumption)⟩, ?_⟩
    obtain ⟨b_3, eb_3⟩ := P_115 iσ.1 mb_2 (k := (gI σ b_1 0).toNat) (by (first | omega | with_reducible assumption | with_reducible exact rng_toInt _ | with_reducible exact rng_wr _ | (unfold rng; omega) | (unfold rng at *; omega) | assumption))
    have fb_3 := T_115 iσ.1 mb_2 eb_3
    have mb_3 : kO σ b_3 5 := iσ.1.kd mb_2 rfl eb_3 rfl
    refine ⟨b_3, eb_3, fun kk_b_3 => ?_⟩
    refine ⟨by (first | omega | with_reducible assumption | with_reducible exact rng_toInt _ | with_reducible exact rng_wr _ | (unfold rng; omega) | (unfold rng at *; omega) | assumption), ?_⟩
    refine ⟨F, hF, fun kk_F => ?_⟩
    refine ⟨⟨by (first | omega | with_reducible assumption | with_reducible exact rng_toInt _ | with_reducible exact rng_wr _ | (unfold rng; omega) | (unfold rng at *; omega) | assumption), by (first | omega | with_reducible assumption | with_reducible exact rng_toInt _ | with_reducible exact rng_wr _ | (unfold rng; omega) | (unfold rng at *; omega) | assumption)⟩, ?_⟩
    refine ⟨⟨by (first | omega | with_reducible assumption | with_reducible exact rng_toInt _ | with_reducible exact rng_wr _ | (unfold rng; omega) | (unfold rng at *; omega) | assumption), by (first | omega | with_reducible assumption | with_reducible exact rng_toInt _ | with_reducible exact rng_wr _ | (unfold rng; omega) | (unfold rng at *; omega) | assumption)⟩, ?_⟩
    have q3 := iσ.rg F (v3 + 1).toNat; unfold rng at q3
    have q4 := iσ.rg F v3.toNat; unfold rng at q4
    refine ⟨by (first | omega | with_reducible assumption | with_reducible exact rng_toInt _ | with_reducible exact rng_wr _ | (unfold rng; omega) | (unfold rng at *; omega) | assumption), ?_⟩
    have q5 := I_5_6 iσ.1 mb_3
    refine i_X12_isKeyed iσ (fun r25 pσ24 => ?_)
    intro xσ24
    by_cases hc6 : r25 ≠ 0
    · rw [if_pos hc6]
      unfold w_X9_connect_67
      refine ⟨F, hF, fun kk_F_1 => ?_⟩
      refine ⟨⟨by (first | omega | with_reducible assumption | with_reducible exact rng_toInt _ | with_reducible exact rng_wr _ | (unfold rng; omega) | (unfold rng at *; omega) | assumption), by (first | omega | with_reducible assumption | with_reducible exact rng_toInt _ | with_reducible exact rng_wr _ | (unfold rng; omega) | (unfold rng at *; omega) | assumption)⟩, ?_⟩
      have Lp75 : ∀ (fu75 : Nat) (τ75 : Sg) (gqt75 cit75 : Nat → Nat) (LLt75 : Nat → List Nat) (Nt75 nut75 : Nat → Nat) (v6 : Int), IV τ75 pl gqt75 cit75 gr nc ot LLt75 Nt75 nut75 → Fx [129, 130, 131, 132, 133, 134, 135, 587, 654, 655, 7168] gr σ τ75 → Ext σ τ75 → GE (gD σ) gq ci gqt75 cit75 → NW nu nut75 → Hn (gD σ) [] [] gq LL LLt75 N Nt75 → (((bsO ot P v3.toNat : Int) ≤ v6 ∧ v6 ≤ (bsO ot P (v3.toNat + 1) : Int)) ∧ nut75 15 = nu 15 ∧ nut75 17 = nu 17 ∧ nu 16 ≤ nut75 16 ∧ FT1 τ75 F ot P (nc 1 + 1) ∧ LLt75 = LL ∧ Nt75 = N) → (((bsO ot P (v3.toNat + 1) : Int) - v6).toNat) < fu75 → wl_X9_connect_75 th Q X fu75 τ75 v1 v2 v3 v6 := by
        intro fu75
        induction fu75 with
        | zero => intro _ _ _ _ _ _ _ _ _ _ _ _ _ _ h9; omega
        | succ fu75 ih75 =>
          intro τ75 gqt75 cit75 LLt75 Nt75 nut75 v6 iτ75 fτ75 xτ75 giτ75 nu_τ75 hnτ75 hi75 hm75
          have geτ75 : GE (gD σ) gq ci gqt75 cit75 := geσ.tr giτ75 (fun d hd => (fσ.1 d hd).1)
          have gl7 := giτ75 J kJ.1
          have gl8 := giτ75 b mb.1
          have gl9 := giτ75 b_1 mb_1.1
          have gl10 := giτ75 b_2 mb_2.1
          have gl11 := giτ75 b_3 mb_3.1
          have uτ75_5 := nu_τ75.1 5 (by decide)
          have uτ75_0 := nu_τ75.2
          unfold wl_X9_connect_75
          have kp12 : gI τ75 b_1 0 = gI σ b_1 0 := (fτ75.O mb_1 (by decide)).1
          have kp13 : gI τ75 b_3 6 = gI σ b_3 6 := (fτ75.O mb_3 (by decide)).1
          have kp14 : gP τ75 J 0 = gP σ J 0 := (fτ75.O kJ (by decide)).2.1
          have kp15 : gP τ75 b v1.toNat = gP σ b v1.toNat := (fτ75.A mb (by decide)).2.1
          have kp16 : gP τ75 b_2 (gI σ b_1 0).toNat = gP σ b_2 (gI σ b_1 0).toNat := (fτ75.A mb_2 (by decide)).2.1
          have kp17 : gP τ75 th 3 = gP σ th 3 := (fτ75.O kth (by decide)).2.1
          have kp18 : gP τ75 th 5 = gP σ th 5 := (fτ75.O kth (by decide)).2.1
          have kp19 : gP τ75 th 9 = gP σ th 9 := (fτ75.O kth (by decide)).2.1
          have b1t := hi75.2.2.2.2.1 (v3 + 1).toNat (by omega)
          have n16t := iτ75.n16
          unfold w_X9_connect_75
          refine ⟨by (first | omega | with_reducible assumption | with_reducible exact rng_toInt _ | with_reducible exact rng_wr _ | (unfold rng; omega) | (unfold rng at *; omega) | assumption), ?_⟩
          refine ⟨F, (kp18.trans hF), fun kk_F_2 => ?_⟩
          have q20 := (xτ75 F kF.1).2.2
          refine ⟨⟨by (first | omega | with_reducible assumption | with_reducible exact rng_toInt _ | with_reducible exact rng_wr _ | (unfold rng; omega) | (unfold rng at *; omega) | assumption), by (first | omega | with_reducible assumption | with_reducible exact rng_toInt _ | with_reducible exact rng_wr _ | (unfold rng; omega) | (unfold rng at *; omega) | assumption)⟩, ?_⟩
          have q22 := iτ75.rg F (v3 + 1).toNat; unfold rng at q22
          by_cases hc21 : v6 ≥ (gI τ75 F (v3 + 1).toNat)
          · rw [if_pos hc21]
            unfold w_X9_connect_102
            unfold w_X9_connect_127
            exact hQ τ75 gqt75 cit75 LLt75 Nt75 nut75 () iτ75 geτ75 fτ75 (nu_τ75) hnτ75 (by first | exact ⟨rfl, rfl, Nat.le_refl _, rfl, rfl⟩ | exact ⟨by omega, by omega, by omega, hi75.2.2.2.2.2.1, hi75.2.2.2.2.2.2⟩ | exact pσ34)
          · rw [if_neg hc21]
            unfold w_X9_connect_88
            refine i_X9_addChannel iτ75 (kth.up xτ75) (by (first | omega | with_reducible assumption | with_reducible exact rng_toInt _ | with_reducible exact rng_wr _ | (unfold rng; omega) | (unfold rng at *; omega) | assumption)) (by (first | omega | with_reducible assumption | with_reducible exact rng_toInt _ | with_reducible exact rng_wr _ | (unfold rng; omega) | (unfold rng at *; omega) | assumption)) (by unfold rng; omega) (fun σ30 gqσ30 ciσ30 LLσ30 Nσ30 nuσ30 _ iσ30 gσ30 cσ30 uσ30 hσ30 pσ30 => ?_)
            intro xσ30
            have fσ30 : Fx [129, 130, 131, 132, 133, 134, 135, 587, 654, 655, 7168] gr σ σ30 := fτ75.tr (cσ30.mo (by decide))
            have geσ30 : GE (gD σ) gq ci gqσ30 ciσ30 := geτ75.tr gσ30 (fun d hd => (fτ75.1 d hd).1)
            have gl23 := gσ30 J (kJ.up xτ75).1
            have gl24 := gσ30 b (mb.up xτ75).1
            have gl25 := gσ30 b_1 (mb_1.up xτ75).1
            have gl26 := gσ30 b_2 (mb_2.up xτ75).1
            have gl27 := gσ30 b_3 (mb_3.up xτ75).1
            have hnσ30 : Hn (gD σ) [] [] gq LL LLσ30 N Nσ30 := hnτ75.go (hσ30.ge (fun a ha => (geτ75 a ha).1) (fun d hd => (fτ75.1 d hd).1)) (fun _ hd => hd) (by first | decide | exact fun _ h => h | (simp; done) | (intro x hx; simp only [List.mem_cons, List.mem_nil_iff, or_false] at hx ⊢; omega)) (fun d hd => absurd hd (by simp))
            have nu_σ30 : NW nu nuσ30 := nu_τ75.tr uσ30
            have uσ30_5 := uσ30.1 5 (by decide)
            have uσ30_0 := uσ30.2
            have kp28 : gI σ30 b_1 0 = gI τ75 b_1 0 := (cσ30.O (mb_1.up xτ75) (by decide)).1
            have kp29 : gI σ30 b_3 6 = gI τ75 b_3 6 := (cσ30.O (mb_3.up xτ75) (by decide)).1
            have kp30 : gP σ30 J 0 = gP τ75 J 0 := (cσ30.O (kJ.up xτ75) (by decide)).2.1
            have kp31 : gP σ30 b v1.toNat = gP τ75 b v1.toNat := (cσ30.A (mb.up xτ75) (by decide)).2.1
            have kp32 : gP σ30 b_2 (gI σ b_1 0).toNat = gP τ75 b_2 (gI σ b_1 0).toNat := (cσ30.A (mb_2.up xτ75) (by decide)).2.1
            have kp33 : gP σ30 th 3 = gP τ75 th 3 := (cσ30.O (kth.up xτ75) (by decide)).2.1
            have kp34 : gP σ30 th 5 = gP τ75 th 5 := (cσ30.O (kth.up xτ75) (by decide)).2.1
            have kp35 : gP σ30 th 9 = gP τ75 th 9 := (cσ30.O (kth.up xτ75) (by decide)).2.1
            have ft9 := hi75.2.2.2.2.1.fx (kF.up xτ75) gF cσ30 (by decide)
            refine ⟨by (first | omega | with_reducible assumption | with_reducible exact rng_toInt _ | with_reducible exact rng_wr _ | (unfold rng; omega) | (unfold rng at *; omega) | assumption), ?_⟩
            exact ih75 σ30 gqσ30 ciσ30 LLσ30 Nσ30 nuσ30 (v6 + 1) iσ30 fσ30 (xτ75.trans xσ30) (((GE.rf).tr giτ75 (fun d hd => ((Ext.rfl' _) d hd).1)).tr gσ30 (fun d hd => ((xτ75) d hd).1)) nu_σ30 hnσ30 (⟨by omega, by omega, by omega, by omega, ft9, pσ30.2.2.2.1.trans hi75.2.2.2.2.2.1, pσ30.2.2.2.2.trans hi75.2.2.2.2.2.2⟩) (by (first | omega | with_reducible assumption | with_reducible exact rng_toInt _ | with_reducible exact rng_wr _ | (unfold rng; omega) | (unfold rng at *; omega) | assumption))
      exact ⟨_, Lp75 _ σ gq ci LL N nu _ iσ fσ (Ext.rfl' _) GE.rf NW.rf hnσ (⟨by omega, rfl, rfl, Nat.le_refl _, hf1, rfl, rfl⟩) (Nat.lt_succ_self _)⟩
    · rw [if_neg hc6]
      have hc6q := Classical.not_not.mp hc6
      unfold w_X9_connect_53
      refine i_X12_hasOneTask iσ (fun r27 pσ26 => ?_)
      intro xσ26
      by_cases hc36 : r27 ≠ 0
      · rw [if_pos hc36]
        unfold w_X9_connect_67
        refine ⟨F, hF, fun kk_F_3 => ?_⟩
        refine ⟨⟨by (first | omega | with_reducible assumption | with_reducible exact rng_toInt _ | with_reducible exact rng_wr _ | (unfold rng; omega) | (unfold rng at *; omega) | assumption), by (first | omega | with_reducible assumption | with_reducible exact rng_toInt _ | with_reducible exact rng_wr _ | (unfold rng; omega) | (unfold rng at *; omega) | assumption)⟩, ?_⟩
        have Lp75 : ∀ (fu75 : Nat) (τ75 : Sg) (gqt75 cit75 : Nat → Nat) (LLt75 : Nat → List Nat) (Nt75 nut75 : Nat → Nat) (v6 : Int), IV τ75 pl gqt75 cit75 gr nc ot LLt75 Nt75 nut75 → Fx [129, 130, 131, 132, 133, 134, 135, 587, 654, 655, 7168] gr σ τ75 → Ext σ τ75 → GE (gD σ) gq ci gqt75 cit75 → NW nu nut75 → Hn (gD σ) [] [] gq LL LLt75 N Nt75 → (((bsO ot P v3.toNat : Int) ≤ v6 ∧ v6 ≤ (bsO ot P (v3.toNat + 1) : Int)) ∧ nut75 15 = nu 15 ∧ nut75 17 = nu 17 ∧ nu 16 ≤ nut75 16 ∧ FT1 τ75 F ot P (nc 1 + 1) ∧ LLt75 = LL ∧ Nt75 = N) → (((bsO ot P (v3.toNat + 1) : Int) - v6).toNat) < fu75 → wl_X9_connect_75 th Q X fu75 τ75 v1 v2 v3 v6 := by
          intro fu75
          induction fu75 with
          | zero => intro _ _ _ _ _ _ _ _ _ _ _ _ _ _ h9; omega
          | succ fu75 ih75 =>
            intro τ75 gqt75 cit75 LLt75 Nt75 nut75 v6 iτ75 fτ75 xτ75 giτ75 nu_τ75 hnτ75 hi75 hm75
            have geτ75 : GE (gD σ) gq ci gqt75 cit75 := geσ.tr giτ75 (fun d hd => (fσ.1 d hd).1)
            have gl37 := giτ75 J kJ.1
            have gl38 := giτ75 b mb.1
            have gl39 := giτ75 b_1 mb_1.1
            have gl40 := giτ75 b_2 mb_2.1
            have gl41 := giτ75 b_3 mb_3.1
            have uτ75_5 := nu_τ75.1 5 (by decide)
            have uτ75_0 := nu_τ75.2
            unfold wl_X9_connect_75
            have kp42 : gI τ75 b_1 0 = gI σ b_1 0 := (fτ75.O mb_1 (by decide)).1
            have kp43 : gI τ75 b_3 6 = gI σ b_3 6 := (fτ75.O mb_3 (by decide)).1
            have kp44 : gP τ75 J 0 = gP σ J 0 := (fτ75.O kJ (by decide)).2.1
            have kp45 : gP τ75 b v1.toNat = gP σ b v1.toNat := (fτ75.A mb (by decide)).2.1
            have kp46 : gP τ75 b_2 (gI σ b_1 0).toNat = gP σ b_2 (gI σ b_1 0).toNat := (fτ75.A mb_2 (by decide)).2.1
            have kp47 : gP τ75 th 3 = gP σ th 3 := (fτ75.O kth (by decide)).2.1
            have kp48 : gP τ75 th 5 = gP σ th 5 := (fτ75.O kth (by decide)).2.1
            have kp49 : gP τ75 th 9 = gP σ th 9 := (fτ75.O kth (by decide)).2.1
            have b1t := hi75.2.2.2.2.1 (v3 + 1).toNat (by omega)
            have n16t := iτ75.n16
            unfold w_X9_connect_75
            refine ⟨by (first | omega | with_reducible assumption | with_reducible exact rng_toInt _ | with_reducible exact rng_wr _ | (unfold rng; omega) | (unfold rng at *; omega) | assumption), ?_⟩
            refine ⟨F, (kp48.trans hF), fun kk_F_4 => ?_⟩
            have q50 := (xτ75 F kF.1).2.2
            refine ⟨⟨by (first | omega | with_reducible assumption | with_reducible exact rng_toInt _ | with_reducible exact rng_wr _ | (unfold rng; omega) | (unfold rng at *; omega) | assumption), by (first | omega | with_reducible assumption | with_reducible exact rng_toInt _ | with_reducible exact rng_wr _ | (unfold rng; omega) | (unfold rng at *; omega) | assumption)⟩, ?_⟩
            have q52 := iτ75.rg F (v3 + 1).toNat; unfold rng at q52
            by_cases hc51 : v6 ≥ (gI τ75 F (v3 + 1).toNat)
            · rw [if_pos hc51]
              unfold w_X9_connect_102
              unfold w_X9_connect_127
              exact hQ τ75 gqt75 cit75 LLt75 Nt75 nut75 () iτ75 geτ75 fτ75 (nu_τ75) hnτ75 (by first | exact ⟨rfl, rfl, Nat.le_refl _, rfl, rfl⟩ | exact ⟨by omega, by omega, by omega, hi75.2.2.2.2.2.1, hi75.2.2.2.2.2.2⟩ | exact pσ34)
            · rw [if_neg hc51]
              unfold w_X9_connect_88
              refine i_X9_addChannel iτ75 (kth.up xτ75) (by (first | omega | with_reducible assumption | with_reducible exact rng_toInt _ | with_reducible exact rng_wr _ | (unfold rng; omega) | (unfold rng at *; omega) | assumption)) (by (first | omega | with_reducible assumption | with_reducible exact rng_toInt _ | with_reducible exact rng_wr _ | (unfold rng; omega) | (unfold rng at *; omega) | assumption)) (by unfold rng; omega) (fun σ30_1 gqσ30_1 ciσ30_1 LLσ30_1 Nσ30_1 nuσ30_1 _ iσ30_1 gσ30_1 cσ30_1 uσ30_1 hσ30_1 pσ30_1 => ?_)
              intro xσ30_1
              have fσ30_1 : Fx [129, 130, 131, 132, 133, 134, 135, 587, 654, 655, 7168] gr σ σ30_1 := fτ75.tr (cσ30_1.mo (by decide))
              have geσ30_1 : GE (gD σ) gq ci gqσ30_1 ciσ30_1 := geτ75.tr gσ30_1 (fun d hd => (fτ75.1 d hd).1)
              have gl53 := gσ30_1 J (kJ.up xτ75).1
              have gl54 := gσ30_1 b (mb.up xτ75).1
              have gl55 := gσ30_1 b_1 (mb_1.up xτ75).1
              have gl56 := gσ30_1 b_2 (mb_2.up xτ75).1
              have gl57 := gσ30_1 b_3 (mb_3.up xτ75).1
              have hnσ30_1 : Hn (gD σ) [] [] gq LL LLσ30_1 N Nσ30_1 := hnτ75.go (hσ30_1.ge (fun a ha => (geτ75 a ha).1) (fun d hd => (fτ75.1 d hd).1)) (fun _ hd => hd) (by first | decide | exact fun _ h => h | (simp; done) | (intro x hx; simp only [List.mem_cons, List.mem_nil_iff, or_false] at hx ⊢; omega)) (fun d hd => absurd hd (by simp))
              have nu_σ30_1 : NW nu nuσ30_1 := nu_τ75.tr uσ30_1
              have uσ30_1_5 := uσ30_1.1 5 (by decide)
              have uσ30_1_0 := uσ30_1.2
              have kp58 : gI σ30_1 b_1 0 = gI τ75 b_1 0 := (cσ30_1.O (mb_1.up xτ75) (by decide)).1
              have kp59 : gI σ30_1 b_3 6 = gI τ75 b_3 6 := (cσ30_1.O (mb_3.up xτ75) (by decide)).1
              have kp60 : gP σ30_1 J 0 = gP τ75 J 0 := (cσ30_1.O (kJ.up xτ75) (by decide)).2.1
              have kp61 : gP σ30_1 b v1.toNat = gP τ75 b v1.toNat := (cσ30_1.A (mb.up xτ75) (by decide)).2.1
              have kp62 : gP σ30_1 b_2 (gI σ b_1 0).toNat = gP τ75 b_2 (gI σ b_1 0).toNat := (cσ30_1.A (mb_2.up xτ75) (by decide)).2.1
              have kp63 : gP σ30_1 th 3 = gP τ75 th 3 := (cσ30_1.O (kth.up xτ75) (by decide)).2.1
              have kp64 : gP σ30_1 th 5 = gP τ75 th 5 := (cσ30_1.O (kth.up xτ75) (by decide)).2.1
              have kp65 : gP σ30_1 th 9 = gP τ75 th 9 := (cσ30_1.O (kth.up xτ75) (by decide)).2.1
              have ft9 := hi75.2.2.2.2.1.fx (kF.up xτ75) gF cσ30_1 (by decide)
              refine ⟨by (first | omega | with_reducible assumption | with_reducible exact rng_toInt _ | with_reducible exact rng_wr _ | (unfold rng; omega) | (unfold rng at *; omega) | assumption), ?_⟩
              exact ih75 σ30_1 gqσ30_1 ciσ30_1 LLσ30_1 Nσ30_1 nuσ30_1 (v6 + 1) iσ30_1 fσ30_1 (xτ75.trans xσ30_1) (((GE.rf).tr giτ75 (fun d hd => ((Ext.rfl' _) d hd).1)).tr gσ30_1 (fun d hd => ((xτ75) d hd).1)) nu_σ30_1 hnσ30_1 (⟨by omega, by omega, by omega, by omega, ft9, pσ30_1.2.2.2.1.trans hi75.2.2.2.2.2.1, pσ30_1.2.2.2.2.trans hi75.2.2.2.2.2.2⟩) (by (first | omega | with_reducible assumption | with_reducible exact rng_toInt _ | with_reducible exact rng_wr _ | (unfold rng; omega) | (unfold rng at *; omega) | assumption))
        exact ⟨_, Lp75 _ σ gq ci LL N nu _ iσ fσ (Ext.rfl' _) GE.rf NW.rf hnσ (⟨by omega, rfl, rfl, Nat.le_refl _, hf1, rfl, rfl⟩) (Nat.lt_succ_self _)⟩
      · rw [if_neg hc36]
        have hc36q := Classical.not_not.mp hc36
        unfold w_X9_connect_61
        by_cases hc66 : ((gI σ F (v3 + 1).toNat) - (gI σ F v3.toNat)) ≠ 1
        · rw [if_pos hc66]
          unfold w_X9_connect_105
          have lt9 := (hl1 b_1 mb_1 (by omega) (by omega)).1
          have p9 := I_10_1 iσ.1 mb_1
          have bP : bsO ot P (v3.toNat + 1) = bsO ot P v3.toNat + P := by by_cases w9 : ot v3.toNat 6 = 0 ∨ ot v3.toNat 6 = 10 ∨ ot v3.toNat 6 = 11; (have := bsO_one (P := P) w9; omega); exact bsO_P w9
          refine ⟨F, hF, fun kk_F_5 => ?_⟩
          refine ⟨⟨by (first | omega | with_reducible assumption | with_reducible exact rng_toInt _ | with_reducible exact rng_wr _ | (unfold rng; omega) | (unfold rng at *; omega) | assumption), by (first | omega | with_reducible assumption | with_reducible exact rng_toInt _ | with_reducible exact rng_wr _ | (unfold rng; omega) | (unfold rng at *; omega) | assumption)⟩, ?_⟩
          refine ⟨b, eb, fun kk_b_4 => ?_⟩
          refine ⟨⟨by (first | omega | with_reducible assumption | with_reducible exact rng_toInt _ | with_reducible exact rng_wr _ | (unfold rng; omega) | (unfold rng at *; omega) | assumption), by (first | omega | with_reducible assumption | with_reducible exact rng_toInt _ | with_reducible exact rng_wr _ | (unfold rng; omega) | (unfold rng at *; omega) | assumption)⟩, ?_⟩
          refine ⟨b_1, eb_1, fun kk_b_1_1 => ?_⟩
          have q67 := I_10_1 iσ.1 mb_1
          refine ⟨by (first | omega | with_reducible assumption | with_reducible exact rng_toInt _ | with_reducible exact rng_wr _ | (unfold rng; omega) | (unfold rng at *; omega) | assumption), ?_⟩
          refine i_X9_addChannel iσ kth (by (first | omega | with_reducible assumption | with_reducible exact rng_toInt _ | with_reducible exact rng_wr _ | (unfold rng; omega) | (unfold rng at *; omega) | assumption)) (by (first | omega | with_reducible assumption | with_reducible exact rng_toInt _ | with_reducible exact rng_wr _ | (unfold rng; omega) | (unfold rng at *; omega) | assumption)) (by unfold rng; omega) (fun σ34 gqσ34 ciσ34 LLσ34 Nσ34 nuσ34 _ iσ34 gσ34 cσ34 uσ34 hσ34 pσ34 => ?_)
          intro xσ34
          have fσ34 : Fx [129, 130, 131, 132, 133, 134, 135, 587, 654, 655, 7168] gr σ σ34 := fσ.tr (cσ34.mo (by decide))
          have geσ34 : GE (gD σ) gq ci gqσ34 ciσ34 := geσ.tr gσ34 (fun d hd => (fσ.1 d hd).1)
          have gl68 := gσ34 J kJ.1
          have gl69 := gσ34 b mb.1
          have gl70 := gσ34 b_1 mb_1.1
          have gl71 := gσ34 b_2 mb_2.1
          have gl72 := gσ34 b_3 mb_3.1
          have hnσ34 : Hn (gD σ) [] [] gq LL LLσ34 N Nσ34 := hnσ.go (hσ34.ge (fun a ha => (geσ a ha).1) (fun d hd => (fσ.1 d hd).1)) (fun _ hd => hd) (by first | decide | exact fun _ h => h | (simp; done) | (intro x hx; simp only [List.mem_cons, List.mem_nil_iff, or_false] at hx ⊢; omega)) (fun d hd => absurd hd (by simp))
          have nu_σ34 : NW nu nuσ34 := uσ34
          have uσ34_5 := uσ34.1 5 (by decide)
          have uσ34_0 := uσ34.2
          have kp73 : gI σ34 b_1 0 = gI σ b_1 0 := (cσ34.O mb_1 (by decide)).1
          have kp74 : gI σ34 b_1 1 = gI σ b_1 1 := (cσ34.O mb_1 (by decide)).1
          have kp75 : gI σ34 b_3 6 = gI σ b_3 6 := (cσ34.O mb_3 (by decide)).1
          have kp76 : gP σ34 J 0 = gP σ J 0 := (cσ34.O kJ (by decide)).2.1
          have kp77 : gP σ34 b v1.toNat = gP σ b v1.toNat := (cσ34.A mb (by decide)).2.1
          have kp78 : gP σ34 b_2 (gI σ b_1 0).toNat = gP σ b_2 (gI σ b_1 0).toNat := (cσ34.A mb_2 (by decide)).2.1
          have kp79 : gP σ34 th 3 = gP σ th 3 := (cσ34.O kth (by decide)).2.1
          have kp80 : gP σ34 th 5 = gP σ th 5 := (cσ34.O kth (by decide)).2.1
          have kp81 : gP σ34 th 9 = gP σ th 9 := (cσ34.O kth (by decide)).2.1
          unfold w_X9_connect_127
          exact hQ σ34 gqσ34 ciσ34 LLσ34 Nσ34 nuσ34 () iσ34 geσ34 fσ34 (nu_σ34) hnσ34 (by first | exact ⟨rfl, rfl, Nat.le_refl _, rfl, rfl⟩ | exact ⟨by omega, by omega, by omega, hi75.2.2.2.2.2.1, hi75.2.2.2.2.2.2⟩ | exact pσ34)
        · rw [if_neg hc66]
          have hc66q := Classical.not_not.mp hc66
          unfold w_X9_connect_67
          refine ⟨F, hF, fun kk_F_6 => ?_⟩
          refine ⟨⟨by (first | omega | with_reducible assumption | with_reducible exact rng_toInt _ | with_reducible exact rng_wr _ | (unfold rng; omega) | (unfold rng at *; omega) | assumption), by (first | omega | with_reducible assumption | with_reducible exact rng_toInt _ | with_reducible exact rng_wr _ | (unfold rng; omega) | (unfold rng at *; omega) | assumption)⟩, ?_⟩
          have Lp75 : ∀ (fu75 : Nat) (τ75 : Sg) (gqt75 cit75 : Nat → Nat) (LLt75 : Nat → List Nat) (Nt75 nut75 : Nat → Nat) (v6 : Int), IV τ75 pl gqt75 cit75 gr nc ot LLt75 Nt75 nut75 → Fx [129, 130, 131, 132, 133, 134, 135, 587, 654, 655, 7168] gr σ τ75 → Ext σ τ75 → GE (gD σ) gq ci gqt75 cit75 → NW nu nut75 → Hn (gD σ) [] [] gq LL LLt75 N Nt75 → (((bsO ot P v3.toNat : Int) ≤ v6 ∧ v6 ≤ (bsO ot P (v3.toNat + 1) : Int)) ∧ nut75 15 = nu 15 ∧ nut75 17 = nu 17 ∧ nu 16 ≤ nut75 16 ∧ FT1 τ75 F ot P (nc 1 + 1) ∧ LLt75 = LL ∧ Nt75 = N) → (((bsO ot P (v3.toNat + 1) : Int) - v6).toNat) < fu75 → wl_X9_connect_75 th Q X fu75 τ75 v1 v2 v3 v6 := by
            intro fu75
            induction fu75 with
            | zero => intro _ _ _ _ _ _ _ _ _ _ _ _ _ _ h9; omega
            | succ fu75 ih75 =>
              intro τ75 gqt75 cit75 LLt75 Nt75 nut75 v6 iτ75 fτ75 xτ75 giτ75 nu_τ75 hnτ75 hi75 hm75
              have geτ75 : GE (gD σ) gq ci gqt75 cit75 := geσ.tr giτ75 (fun d hd => (fσ.1 d hd).1)
              have gl82 := giτ75 J kJ.1
              have gl83 := giτ75 b mb.1
              have gl84 := giτ75 b_1 mb_1.1
              have gl85 := giτ75 b_2 mb_2.1
              have gl86 := giτ75 b_3 mb_3.1
              have uτ75_5 := nu_τ75.1 5 (by decide)
              have uτ75_0 := nu_τ75.2
              unfold wl_X9_connect_75
              have kp87 : gI τ75 b_1 0 = gI σ b_1 0 := (fτ75.O mb_1 (by decide)).1
              have kp88 : gI τ75 b_3 6 = gI σ b_3 6 := (fτ75.O mb_3 (by decide)).1
              have kp89 : gP τ75 J 0 = gP σ J 0 := (fτ75.O kJ (by decide)).2.1
              have kp90 : gP τ75 b v1.toNat = gP σ b v1.toNat := (fτ75.A mb (by decide)).2.1
              have kp91 : gP τ75 b_2 (gI σ b_1 0).toNat = gP σ b_2 (gI σ b_1 0).toNat := (fτ75.A mb_2 (by decide)).2.1
              have kp92 : gP τ75 th 3 = gP σ th 3 := (fτ75.O kth (by decide)).2.1
              have kp93 : gP τ75 th 5 = gP σ th 5 := (fτ75.O kth (by decide)).2.1
              have kp94 : gP τ75 th 9 = gP σ th 9 := (fτ75.O kth (by decide)).2.1
              have b1t := hi75.2.2.2.2.1 (v3 + 1).toNat (by omega)
              have n16t := iτ75.n16
              unfold w_X9_connect_75
              refine ⟨by (first | omega | with_reducible assumption | with_reducible exact rng_toInt _ | with_reducible exact rng_wr _ | (unfold rng; omega) | (unfold rng at *; omega) | assumption), ?_⟩
              refine ⟨F, (kp93.trans hF), fun kk_F_7 => ?_⟩
              have q95 := (xτ75 F kF.1).2.2
              refine ⟨⟨by (first | omega | with_reducible assumption | with_reducible exact rng_toInt _ | with_reducible exact rng_wr _ | (unfold rng; omega) | (unfold rng at *; omega) | assumption), by (first | omega | with_reducible assumption | with_reducible exact rng_toInt _ | with_reducible exact rng_wr _ | (unfold rng; omega) | (unfold rng at *; omega) | assumption)⟩, ?_⟩
              have q97 := iτ75.rg F (v3 + 1).toNat; unfold rng at q97
              by_cases hc96 : v6 ≥ (gI τ75 F (v3 + 1).toNat)
              · rw [if_pos hc96]
                unfold w_X9_connect_102
                unfold w_X9_connect_127
                exact hQ τ75 gqt75 cit75 LLt75 Nt75 nut75 () iτ75 geτ75 fτ75 (nu_τ75) hnτ75 (by first | exact ⟨rfl, rfl, Nat.le_refl _, rfl, rfl⟩ | exact ⟨by omega, by omega, by omega, hi75.2.2.2.2.2.1, hi75.2.2.2.2.2.2⟩ | exact pσ34)
              · rw [if_neg hc96]
                unfold w_X9_connect_88
                refine i_X9_addChannel iτ75 (kth.up xτ75) (by (first | omega | with_reducible assumption | with_reducible exact rng_toInt _ | with_reducible exact rng_wr _ | (unfold rng; omega) | (unfold rng at *; omega) | assumption)) (by (first | omega | with_reducible assumption | with_reducible exact rng_toInt _ | with_reducible exact rng_wr _ | (unfold rng; omega) | (unfold rng at *; omega) | assumption)) (by unfold rng; omega) (fun σ30_2 gqσ30_2 ciσ30_2 LLσ30_2 Nσ30_2 nuσ30_2 _ iσ30_2 gσ30_2 cσ30_2 uσ30_2 hσ30_2 pσ30_2 => ?_)
                intro xσ30_2
                have fσ30_2 : Fx [129, 130, 131, 132, 133, 134, 135, 587, 654, 655, 7168] gr σ σ30_2 := fτ75.tr (cσ30_2.mo (by decide))
                have geσ30_2 : GE (gD σ) gq ci gqσ30_2 ciσ30_2 := geτ75.tr gσ30_2 (fun d hd => (fτ75.1 d hd).1)
                have gl98 := gσ30_2 J (kJ.up xτ75).1
                have gl99 := gσ30_2 b (mb.up xτ75).1
                have gl100 := gσ30_2 b_1 (mb_1.up xτ75).1
                have gl101 := gσ30_2 b_2 (mb_2.up xτ75).1
                have gl102 := gσ30_2 b_3 (mb_3.up xτ75).1
                have hnσ30_2 : Hn (gD σ) [] [] gq LL LLσ30_2 N Nσ30_2 := hnτ75.go (hσ30_2.ge (fun a ha => (geτ75 a ha).1) (fun d hd => (fτ75.1 d hd).1)) (fun _ hd => hd) (by first | decide | exact fun _ h => h | (simp; done) | (intro x hx; simp only [List.mem_cons, List.mem_nil_iff, or_false] at hx ⊢; omega)) (fun d hd => absurd hd (by simp))
                have nu_σ30_2 : NW nu nuσ30_2 := nu_τ75.tr uσ30_2
                have uσ30_2_5 := uσ30_2.1 5 (by decide)
                have uσ30_2_0 := uσ30_2.2
                have kp103 : gI σ30_2 b_1 0 = gI τ75 b_1 0 := (cσ30_2.O (mb_1.up xτ75) (by decide)).1
                have kp104 : gI σ30_2 b_3 6 = gI τ75 b_3 6 := (cσ30_2.O (mb_3.up xτ75) (by decide)).1
                have kp105 : gP σ30_2 J 0 = gP τ75 J 0 := (cσ30_2.O (kJ.up xτ75) (by decide)).2.1
                have kp106 : gP σ30_2 b v1.toNat = gP τ75 b v1.toNat := (cσ30_2.A (mb.up xτ75) (by decide)).2.1
                have kp107 : gP σ30_2 b_2 (gI σ b_1 0).toNat = gP τ75 b_2 (gI σ b_1 0).toNat := (cσ30_2.A (mb_2.up xτ75) (by decide)).2.1
                have kp108 : gP σ30_2 th 3 = gP τ75 th 3 := (cσ30_2.O (kth.up xτ75) (by decide)).2.1
                have kp109 : gP σ30_2 th 5 = gP τ75 th 5 := (cσ30_2.O (kth.up xτ75) (by decide)).2.1
                have kp110 : gP σ30_2 th 9 = gP τ75 th 9 := (cσ30_2.O (kth.up xτ75) (by decide)).2.1
                have ft9 := hi75.2.2.2.2.1.fx (kF.up xτ75) gF cσ30_2 (by decide)
                refine ⟨by (first | omega | with_reducible assumption | with_reducible exact rng_toInt _ | with_reducible exact rng_wr _ | (unfold rng; omega) | (unfold rng at *; omega) | assumption), ?_⟩
                exact ih75 σ30_2 gqσ30_2 ciσ30_2 LLσ30_2 Nσ30_2 nuσ30_2 (v6 + 1) iσ30_2 fσ30_2 (xτ75.trans xσ30_2) (((GE.rf).tr giτ75 (fun d hd => ((Ext.rfl' _) d hd).1)).tr gσ30_2 (fun d hd => ((xτ75) d hd).1)) nu_σ30_2 hnσ30_2 (⟨by omega, by omega, by omega, by omega, ft9, pσ30_2.2.2.2.1.trans hi75.2.2.2.2.2.1, pσ30_2.2.2.2.2.trans hi75.2.2.2.2.2.2⟩) (by (first | omega | with_reducible assumption | with_reducible exact rng_toInt _ | with_reducible exact rng_wr _ | (unfold rng; omega) | (unfold rng at *; omega) | assumption))
          exact ⟨_, Lp75 _ σ gq ci LL N nu _ iσ fσ (Ext.rfl' _) GE.rf NW.rf hnσ (⟨by omega, rfl, rfl, Nat.le_refl _, hf1, rfl, rfl⟩) (Nat.lt_succ_self _)⟩
  · rw [if_neg hc1]
    have hc1q := Classical.not_not.mp hc1
    unfold w_X9_connect_5
    exact hQ σ gq ci LL N nu () iσ geσ fσ (NW.rf) hnσ (by first | exact ⟨rfl, rfl, Nat.le_refl _, rfl, rfl⟩ | exact ⟨by omega, by omega, by omega, hi75.2.2.2.2.2.1, hi75.2.2.2.2.2.2⟩ | exact pσ34)

set_option maxHeartbeats 1000000 in
theorem i_X10_held {σ : Sg} {pl : Nat} {gq ci gr nc : Nat → Nat} {ot : Nat → Nat → Int} {LL : Nat → List Nat} {N nu : Nat → Nat} {th : Nat} (iσ : IV σ pl gq ci gr nc ot LL N nu) (kth : kO σ th 10) {Q : Sg → Int → Prop} {X : Sg → String → Prop} (hQ : ∀ (r : Int), (0 ≤ r ∧ r ≤ 160000 ∧ ∀ a b, gP σ th 2 = some a → gP σ th 3 = some b → r = ((LL a).length : Int) + (LL b).length) → Q σ r) : wp_X10_held th σ Q X := by
  unfold wp_X10_held
  unfold w_X10_held_0
  obtain ⟨b, eb, fb⟩ := P_10_2 iσ.1 kth
  have mb : kO σ b 1 := iσ.1.kd kth rfl eb rfl
  refine ⟨b, eb, fun kk_b => ?_⟩
  obtain ⟨b_1, eb_1, fb_1⟩ := P_10_3 iσ.1 kth
  have mb_1 : kO σ b_1 1 := iσ.1.kd kth rfl eb_1 rfl
  refine ⟨b_1, eb_1, fun kk_b_1 => ?_⟩
  have q1 := iσ.size mb
  have qz1 := iσ.sz mb.1
  have q2 := iσ.size mb_1
  have qz2 := iσ.sz mb_1.1
  refine ⟨by (first | omega | with_reducible assumption | with_reducible exact rng_toInt _ | with_reducible exact rng_wr _ | (unfold rng; omega) | (unfold rng at *; omega) | assumption), ?_⟩
  exact hQ (gI σ b 2 + gI σ b_1 2) (⟨by omega, by omega, fun a b9 ha hb => by rw [eb] at ha; rw [eb_1] at hb; cases ha; cases hb; omega⟩)
set_option maxHeartbeats 1000000 in
theorem i_X10_lay {σ : Sg} {pl : Nat} {gq ci gr nc : Nat → Nat} {ot : Nat → Nat → Int} {LL : Nat → List Nat} {N nu : Nat → Nat} {th : Nat} {v1 : Int} {v2 : Int} (iσ : IV σ pl gq ci gr nc ot LL N nu) (kth : kO σ th 10) (h1 : 0 ≤ v1 ∧ v1 ≤ 15) (h2 : 0 ≤ v2 ∧ v2 ≤ 3) (hl : gq th = 1 → nu 15 ≤ ci th) {Q : Sg → Unit → Prop} {X : Sg → String → Prop} (hQ : ∀ (σ' : Sg) (r : Unit), IV σ' pl gq ci gr nc ot LL N nu → Fx [640, 641, 645, 646, 647, 648, 649, 650, 651, 652, 653, 654, 655] gr σ σ' → (gI σ' th 11 = 0 ∧ gI σ' th 12 = 0 ∧ gI σ' th 14 = -1 ∧ gI σ' th 15 = -1) → Q σ' r) : wp_X10_lay th v1 v2 σ Q X := by
  have fσ : Fx [640, 641, 645, 646, 647, 648, 649, 650, 651, 652, 653, 654, 655] gr σ σ := Fx.rf
  unfold wp_X10_lay
  unfold w_X10_lay_0
  intro σ14 eσ14
  have xσ14 : Ext σ σ14 := by rw [eσ14]; exact fun _ h => ⟨h, rfl, rfl⟩
  have iσ14 : IV σ14 pl gq ci gr nc ot LL N nu := by rw [eσ14]; exact iσ.wK kth hl (by decide) (show (0 : Int) ≤ v1 ∧ v1 ≤ 15 from h1)
  have fσ14 : Fx [640, 641, 645, 646, 647, 648, 649, 650, 651, 652, 653, 654, 655] gr σ σ14 := fσ.tr (Sk.fx (by rw [eσ14]; exact Sk.pI (by rw [fcdO kth (by decide)]; decide)))
  have wσ14 : gI σ14 th 0 = v1 := by rw [eσ14]; exact up2_s _ _ _ _
  intro σ15 eσ15
  have xσ15 : Ext σ14 σ15 := by rw [eσ15]; exact fun _ h => ⟨h, rfl, rfl⟩
  have iσ15 : IV σ15 pl gq ci gr nc ot LL N nu := by rw [eσ15]; exact iσ14.wO (kth.up xσ14) (by decide) (show (0 : Int) ≤ v2 ∧ v2 ≤ 3 from ⟨by (first | omega | with_reducible assumption | with_reducible exact rng_toInt _ | with_reducible exact rng_wr _ | (unfold rng; omega) | (unfold rng at *; omega) | assumption), by (first | omega | with_reducible assumption | with_reducible exact rng_toInt _ | with_reducible exact rng_wr _ | (unfold rng; omega) | (unfold rng at *; omega) | assumption)⟩)
  have fσ15 : Fx [640, 641, 645, 646, 647, 648, 649, 650, 651, 652, 653, 654, 655] gr σ σ15 := fσ14.tr (Sk.fx (by rw [eσ15]; exact Sk.pI (by rw [fcdO (kth.up xσ14) (by decide)]; decide)))
  have wσ15 : gI σ15 th 1 = v2 := by rw [eσ15]; exact up2_s _ _ _ _
  have kp1 : gI σ15 th 0 = gI σ14 th 0 := by rw [eσ15]; exact up2_n _ _ (fun q => absurd q.2 (by decide))
  intro σ16 eσ16
  have xσ16 : Ext σ15 σ16 := by rw [eσ16]; exact fun _ h => ⟨h, rfl, rfl⟩
  have iσ16 : IV σ16 pl gq ci gr nc ot LL N nu := by rw [eσ16]; exact iσ15.wO (kth.up (xσ14.trans xσ15)) (by decide) (rngb (by first | exact rng_wr _ | (first | omega | with_reducible assumption | with_reducible exact rng_toInt _ | with_reducible exact rng_wr _ | (unfold rng; omega) | (unfold rng at *; omega) | assumption)))
  have fσ16 : Fx [640, 641, 645, 646, 647, 648, 649, 650, 651, 652, 653, 654, 655] gr σ σ16 := fσ15.tr (Sk.fx (by rw [eσ16]; exact Sk.pI (by rw [fcdO (kth.up (xσ14.trans xσ15)) (by decide)]; decide)))
  have wσ16 : gI σ16 th 5 = 0 := by rw [eσ16]; exact up2_s _ _ _ _
  have kp2 : gI σ16 th 0 = gI σ15 th 0 := by rw [eσ16]; exact up2_n _ _ (fun q => absurd q.2 (by decide))
  have kp3 : gI σ16 th 1 = gI σ15 th 1 := by rw [eσ16]; exact up2_n _ _ (fun q => absurd q.2 (by decide))
  intro σ17 eσ17
  have xσ17 : Ext σ16 σ17 := by rw [eσ17]; exact fun _ h => ⟨h, rfl, rfl⟩
  have iσ17 : IV σ17 pl gq ci gr nc ot LL N nu := by rw [eσ17]; exact iσ16.wO (kth.up (xσ14.trans (xσ15.trans xσ16))) (by decide) (show (0 : Int) ≤ 0 ∧ 0 ≤ 64 from ⟨by (first | omega | with_reducible assumption | with_reducible exact rng_toInt _ | with_reducible exact rng_wr _ | (unfold rng; omega) | (unfold rng at *; omega) | assumption), by (first | omega | with_reducible assumption | with_reducible exact rng_toInt _ | with_reducible exact rng_wr _ | (unfold rng; omega) | (unfold rng at *; omega) | assumption)⟩)
  have fσ17 : Fx [640, 641, 645, 646, 647, 648, 649, 650, 651, 652, 653, 654, 655] gr σ σ17 := fσ16.tr (Sk.fx (by rw [eσ17]; exact Sk.pI (by rw [fcdO (kth.up (xσ14.trans (xσ15.trans xσ16))) (by decide)]; decide)))
  have wσ17 : gI σ17 th 6 = 0 := by rw [eσ17]; exact up2_s _ _ _ _
  have kp4 : gI σ17 th 0 = gI σ16 th 0 := by rw [eσ17]; exact up2_n _ _ (fun q => absurd q.2 (by decide))
  have kp5 : gI σ17 th 1 = gI σ16 th 1 := by rw [eσ17]; exact up2_n _ _ (fun q => absurd q.2 (by decide))
  have kp6 : gI σ17 th 5 = gI σ16 th 5 := by rw [eσ17]; exact up2_n _ _ (fun q => absurd q.2 (by decide))
  intro σ18 eσ18
  have xσ18 : Ext σ17 σ18 := by rw [eσ18]; exact fun _ h => ⟨h, rfl, rfl⟩
  have iσ18 : IV σ18 pl gq ci gr nc ot LL N nu := by rw [eσ18]; exact iσ17.wT (kth.up (xσ14.trans (xσ15.trans (xσ16.trans xσ17)))) (by decide) (tbm1 iσ17)
  have fσ18 : Fx [640, 641, 645, 646, 647, 648, 649, 650, 651, 652, 653, 654, 655] gr σ σ18 := fσ17.tr (Sk.fx (by rw [eσ18]; exact Sk.pJ (by rw [fcdO (kth.up (xσ14.trans (xσ15.trans (xσ16.trans xσ17)))) (by decide)]; decide)))
  have kp7 : gI σ18 th 0 = gI σ17 th 0 := by rw [eσ18]
  have kp8 : gI σ18 th 1 = gI σ17 th 1 := by rw [eσ18]
  have kp9 : gI σ18 th 5 = gI σ17 th 5 := by rw [eσ18]
  have kp10 : gI σ18 th 6 = gI σ17 th 6 := by rw [eσ18]
  intro σ19 eσ19
  have xσ19 : Ext σ18 σ19 := by rw [eσ19]; exact fun _ h => ⟨h, rfl, rfl⟩
  have iσ19 : IV σ19 pl gq ci gr nc ot LL N nu := by rw [eσ19]; exact iσ18.wO (kth.up (xσ14.trans (xσ15.trans (xσ16.trans (xσ17.trans xσ18))))) (by decide) (rngb (by first | exact rng_wr _ | (first | omega | with_reducible assumption | with_reducible exact rng_toInt _ | with_reducible exact rng_wr _ | (unfold rng; omega) | (unfold rng at *; omega) | assumption)))
  have fσ19 : Fx [640, 641, 645, 646, 647, 648, 649, 650, 651, 652, 653, 654, 655] gr σ σ19 := fσ18.tr (Sk.fx (by rw [eσ19]; exact Sk.pI (by rw [fcdO (kth.up (xσ14.trans (xσ15.trans (xσ16.trans (xσ17.trans xσ18))))) (by decide)]; decide)))
  have wσ19 : gI σ19 th 8 = 0 := by rw [eσ19]; exact up2_s _ _ _ _
  have kp11 : gI σ19 th 0 = gI σ18 th 0 := by rw [eσ19]; exact up2_n _ _ (fun q => absurd q.2 (by decide))
  have kp12 : gI σ19 th 1 = gI σ18 th 1 := by rw [eσ19]; exact up2_n _ _ (fun q => absurd q.2 (by decide))
  have kp13 : gI σ19 th 5 = gI σ18 th 5 := by rw [eσ19]; exact up2_n _ _ (fun q => absurd q.2 (by decide))
  have kp14 : gI σ19 th 6 = gI σ18 th 6 := by rw [eσ19]; exact up2_n _ _ (fun q => absurd q.2 (by decide))
  intro σ20 eσ20
  have xσ20 : Ext σ19 σ20 := by rw [eσ20]; exact fun _ h => ⟨h, rfl, rfl⟩
  have iσ20 : IV σ20 pl gq ci gr nc ot LL N nu := by rw [eσ20]; exact iσ19.wO (kth.up (xσ14.trans (xσ15.trans (xσ16.trans (xσ17.trans (xσ18.trans xσ19)))))) (by decide) (rngb (by first | exact rng_wr _ | (first | omega | with_reducible assumption | with_reducible exact rng_toInt _ | with_reducible exact rng_wr _ | (unfold rng; omega) | (unfold rng at *; omega) | assumption)))
  have fσ20 : Fx [640, 641, 645, 646, 647, 648, 649, 650, 651, 652, 653, 654, 655] gr σ σ20 := fσ19.tr (Sk.fx (by rw [eσ20]; exact Sk.pI (by rw [fcdO (kth.up (xσ14.trans (xσ15.trans (xσ16.trans (xσ17.trans (xσ18.trans xσ19)))))) (by decide)]; decide)))
  have wσ20 : gI σ20 th 9 = 0 := by rw [eσ20]; exact up2_s _ _ _ _
  have kp15 : gI σ20 th 0 = gI σ19 th 0 := by rw [eσ20]; exact up2_n _ _ (fun q => absurd q.2 (by decide))
  have kp16 : gI σ20 th 1 = gI σ19 th 1 := by rw [eσ20]; exact up2_n _ _ (fun q => absurd q.2 (by decide))
  have kp17 : gI σ20 th 5 = gI σ19 th 5 := by rw [eσ20]; exact up2_n _ _ (fun q => absurd q.2 (by decide))
  have kp18 : gI σ20 th 6 = gI σ19 th 6 := by rw [eσ20]; exact up2_n _ _ (fun q => absurd q.2 (by decide))
  have kp19 : gI σ20 th 8 = gI σ19 th 8 := by rw [eσ20]; exact up2_n _ _ (fun q => absurd q.2 (by decide))
  intro σ21 eσ21
  have xσ21 : Ext σ20 σ21 := by rw [eσ21]; exact fun _ h => ⟨h, rfl, rfl⟩
  have iσ21 : IV σ21 pl gq ci gr nc ot LL N nu := by rw [eσ21]; exact iσ20.wO (kth.up (xσ14.trans (xσ15.trans (xσ16.trans (xσ17.trans (xσ18.trans (xσ19.trans xσ20))))))) (by decide) (show (0 : Int) ≤ 0 ∧ 0 ≤ 1 from ⟨by (first | omega | with_reducible assumption | with_reducible exact rng_toInt _ | with_reducible exact rng_wr _ | (unfold rng; omega) | (unfold rng at *; omega) | assumption), by (first | omega | with_reducible assumption | with_reducible exact rng_toInt _ | with_reducible exact rng_wr _ | (unfold rng; omega) | (unfold rng at *; omega) | assumption)⟩)
  have fσ21 : Fx [640, 641, 645, 646, 647, 648, 649, 650, 651, 652, 653, 654, 655] gr σ σ21 := fσ20.tr (Sk.fx (by rw [eσ21]; exact Sk.pI (by rw [fcdO (kth.up (xσ14.trans (xσ15.trans (xσ16.trans (xσ17.trans (xσ18.trans (xσ19.trans xσ20))))))) (by decide)]; decide)))
  have wσ21 : gI σ21 th 10 = 0 := by rw [eσ21]; exact up2_s _ _ _ _
  have kp20 : gI σ21 th 0 = gI σ20 th 0 := by rw [eσ21]; exact up2_n _ _ (fun q => absurd q.2 (by decide))
  have kp21 : gI σ21 th 1 = gI σ20 th 1 := by rw [eσ21]; exact up2_n _ _ (fun q => absurd q.2 (by decide))
  have kp22 : gI σ21 th 5 = gI σ20 th 5 := by rw [eσ21]; exact up2_n _ _ (fun q => absurd q.2 (by decide))
  have kp23 : gI σ21 th 6 = gI σ20 th 6 := by rw [eσ21]; exact up2_n _ _ (fun q => absurd q.2 (by decide))
  have kp24 : gI σ21 th 8 = gI σ20 th 8 := by rw [eσ21]; exact up2_n _ _ (fun q => absurd q.2 (by decide))
  have kp25 : gI σ21 th 9 = gI σ20 th 9 := by rw [eσ21]; exact up2_n _ _ (fun q => absurd q.2 (by decide))
  intro σ22 eσ22
  have xσ22 : Ext σ21 σ22 := by rw [eσ22]; exact fun _ h => ⟨h, rfl, rfl⟩
  have iσ22 : IV σ22 pl gq ci gr nc ot LL N nu := by rw [eσ22]; exact iσ21.wK (kth.up (xσ14.trans (xσ15.trans (xσ16.trans (xσ17.trans (xσ18.trans (xσ19.trans (xσ20.trans xσ21)))))))) hl (by decide) (show (0 : Int) ≤ 0 ∧ (0 : Int) ≤ 512 by decide)
  have fσ22 : Fx [640, 641, 645, 646, 647, 648, 649, 650, 651, 652, 653, 654, 655] gr σ σ22 := fσ21.tr (Sk.fx (by rw [eσ22]; exact Sk.pI (by rw [fcdO (kth.up (xσ14.trans (xσ15.trans (xσ16.trans (xσ17.trans (xσ18.trans (xσ19.trans (xσ20.trans xσ21)))))))) (by decide)]; decide)))
  have wσ22 : gI σ22 th 11 = 0 := by rw [eσ22]; exact up2_s _ _ _ _
  have kp26 : gI σ22 th 0 = gI σ21 th 0 := by rw [eσ22]; exact up2_n _ _ (fun q => absurd q.2 (by decide))
  have kp27 : gI σ22 th 1 = gI σ21 th 1 := by rw [eσ22]; exact up2_n _ _ (fun q => absurd q.2 (by decide))
  have kp28 : gI σ22 th 10 = gI σ21 th 10 := by rw [eσ22]; exact up2_n _ _ (fun q => absurd q.2 (by decide))
  have kp29 : gI σ22 th 5 = gI σ21 th 5 := by rw [eσ22]; exact up2_n _ _ (fun q => absurd q.2 (by decide))
  have kp30 : gI σ22 th 6 = gI σ21 th 6 := by rw [eσ22]; exact up2_n _ _ (fun q => absurd q.2 (by decide))
  have kp31 : gI σ22 th 8 = gI σ21 th 8 := by rw [eσ22]; exact up2_n _ _ (fun q => absurd q.2 (by decide))
  have kp32 : gI σ22 th 9 = gI σ21 th 9 := by rw [eσ22]; exact up2_n _ _ (fun q => absurd q.2 (by decide))
  intro σ23 eσ23
  have xσ23 : Ext σ22 σ23 := by rw [eσ23]; exact fun _ h => ⟨h, rfl, rfl⟩
  have iσ23 : IV σ23 pl gq ci gr nc ot LL N nu := by rw [eσ23]; exact iσ22.wK (kth.up (xσ14.trans (xσ15.trans (xσ16.trans (xσ17.trans (xσ18.trans (xσ19.trans (xσ20.trans (xσ21.trans xσ22))))))))) hl (by decide) (show (0 : Int) ≤ 0 ∧ (0 : Int) ≤ 512 by decide)
  have fσ23 : Fx [640, 641, 645, 646, 647, 648, 649, 650, 651, 652, 653, 654, 655] gr σ σ23 := fσ22.tr (Sk.fx (by rw [eσ23]; exact Sk.pI (by rw [fcdO (kth.up (xσ14.trans (xσ15.trans (xσ16.trans (xσ17.trans (xσ18.trans (xσ19.trans (xσ20.trans (xσ21.trans xσ22))))))))) (by decide)]; decide)))
  have wσ23 : gI σ23 th 12 = 0 := by rw [eσ23]; exact up2_s _ _ _ _
  have kp33 : gI σ23 th 0 = gI σ22 th 0 := by rw [eσ23]; exact up2_n _ _ (fun q => absurd q.2 (by decide))
  have kp34 : gI σ23 th 1 = gI σ22 th 1 := by rw [eσ23]; exact up2_n _ _ (fun q => absurd q.2 (by decide))
  have kp35 : gI σ23 th 10 = gI σ22 th 10 := by rw [eσ23]; exact up2_n _ _ (fun q => absurd q.2 (by decide))
  have kp36 : gI σ23 th 11 = gI σ22 th 11 := by rw [eσ23]; exact up2_n _ _ (fun q => absurd q.2 (by decide))
  have kp37 : gI σ23 th 5 = gI σ22 th 5 := by rw [eσ23]; exact up2_n _ _ (fun q => absurd q.2 (by decide))
  have kp38 : gI σ23 th 6 = gI σ22 th 6 := by rw [eσ23]; exact up2_n _ _ (fun q => absurd q.2 (by decide))
  have kp39 : gI σ23 th 8 = gI σ22 th 8 := by rw [eσ23]; exact up2_n _ _ (fun q => absurd q.2 (by decide))
  have kp40 : gI σ23 th 9 = gI σ22 th 9 := by rw [eσ23]; exact up2_n _ _ (fun q => absurd q.2 (by decide))
  intro σ24 eσ24
  have xσ24 : Ext σ23 σ24 := by rw [eσ24]; exact fun _ h => ⟨h, rfl, rfl⟩
  have iσ24 : IV σ24 pl gq ci gr nc ot LL N nu := by rw [eσ24]; exact iσ23.wO (kth.up (xσ14.trans (xσ15.trans (xσ16.trans (xσ17.trans (xσ18.trans (xσ19.trans (xσ20.trans (xσ21.trans (xσ22.trans xσ23)))))))))) (by decide) (show (0 : Int) ≤ 0 ∧ 0 ≤ 511 from ⟨by (first | omega | with_reducible assumption | with_reducible exact rng_toInt _ | with_reducible exact rng_wr _ | (unfold rng; omega) | (unfold rng at *; omega) | assumption), by (first | omega | with_reducible assumption | with_reducible exact rng_toInt _ | with_reducible exact rng_wr _ | (unfold rng; omega) | (unfold rng at *; omega) | assumption)⟩)
  have fσ24 : Fx [640, 641, 645, 646, 647, 648, 649, 650, 651, 652, 653, 654, 655] gr σ σ24 := fσ23.tr (Sk.fx (by rw [eσ24]; exact Sk.pI (by rw [fcdO (kth.up (xσ14.trans (xσ15.trans (xσ16.trans (xσ17.trans (xσ18.trans (xσ19.trans (xσ20.trans (xσ21.trans (xσ22.trans xσ23)))))))))) (by decide)]; decide)))
  have wσ24 : gI σ24 th 13 = 0 := by rw [eσ24]; exact up2_s _ _ _ _
  have kp41 : gI σ24 th 0 = gI σ23 th 0 := by rw [eσ24]; exact up2_n _ _ (fun q => absurd q.2 (by decide))
  have kp42 : gI σ24 th 1 = gI σ23 th 1 := by rw [eσ24]; exact up2_n _ _ (fun q => absurd q.2 (by decide))
  have kp43 : gI σ24 th 10 = gI σ23 th 10 := by rw [eσ24]; exact up2_n _ _ (fun q => absurd q.2 (by decide))
  have kp44 : gI σ24 th 11 = gI σ23 th 11 := by rw [eσ24]; exact up2_n _ _ (fun q => absurd q.2 (by decide))
  have kp45 : gI σ24 th 12 = gI σ23 th 12 := by rw [eσ24]; exact up2_n _ _ (fun q => absurd q.2 (by decide))
  have kp46 : gI σ24 th 5 = gI σ23 th 5 := by rw [eσ24]; exact up2_n _ _ (fun q => absurd q.2 (by decide))
  have kp47 : gI σ24 th 6 = gI σ23 th 6 := by rw [eσ24]; exact up2_n _ _ (fun q => absurd q.2 (by decide))
  have kp48 : gI σ24 th 8 = gI σ23 th 8 := by rw [eσ24]; exact up2_n _ _ (fun q => absurd q.2 (by decide))
  have kp49 : gI σ24 th 9 = gI σ23 th 9 := by rw [eσ24]; exact up2_n _ _ (fun q => absurd q.2 (by decide))
  intro σ25 eσ25
  have xσ25 : Ext σ24 σ25 := by rw [eσ25]; exact fun _ h => ⟨h, rfl, rfl⟩
  have iσ25 : IV σ25 pl gq ci gr nc ot LL N nu := by rw [eσ25]; exact iσ24.wK (kth.up (xσ14.trans (xσ15.trans (xσ16.trans (xσ17.trans (xσ18.trans (xσ19.trans (xσ20.trans (xσ21.trans (xσ22.trans (xσ23.trans xσ24))))))))))) hl (by decide) (show (-2147483648 : Int) ≤ -1 ∧ (-1 : Int) ≤ 2147483647 by decide)
  have fσ25 : Fx [640, 641, 645, 646, 647, 648, 649, 650, 651, 652, 653, 654, 655] gr σ σ25 := fσ24.tr (Sk.fx (by rw [eσ25]; exact Sk.pI (by rw [fcdO (kth.up (xσ14.trans (xσ15.trans (xσ16.trans (xσ17.trans (xσ18.trans (xσ19.trans (xσ20.trans (xσ21.trans (xσ22.trans (xσ23.trans xσ24))))))))))) (by decide)]; decide)))
  have wσ25 : gI σ25 th 14 = (-1) := by rw [eσ25]; exact up2_s _ _ _ _
  have kp50 : gI σ25 th 0 = gI σ24 th 0 := by rw [eσ25]; exact up2_n _ _ (fun q => absurd q.2 (by decide))
  have kp51 : gI σ25 th 1 = gI σ24 th 1 := by rw [eσ25]; exact up2_n _ _ (fun q => absurd q.2 (by decide))
  have kp52 : gI σ25 th 10 = gI σ24 th 10 := by rw [eσ25]; exact up2_n _ _ (fun q => absurd q.2 (by decide))
  have kp53 : gI σ25 th 11 = gI σ24 th 11 := by rw [eσ25]; exact up2_n _ _ (fun q => absurd q.2 (by decide))
  have kp54 : gI σ25 th 12 = gI σ24 th 12 := by rw [eσ25]; exact up2_n _ _ (fun q => absurd q.2 (by decide))
  have kp55 : gI σ25 th 13 = gI σ24 th 13 := by rw [eσ25]; exact up2_n _ _ (fun q => absurd q.2 (by decide))
  have kp56 : gI σ25 th 5 = gI σ24 th 5 := by rw [eσ25]; exact up2_n _ _ (fun q => absurd q.2 (by decide))
  have kp57 : gI σ25 th 6 = gI σ24 th 6 := by rw [eσ25]; exact up2_n _ _ (fun q => absurd q.2 (by decide))
  have kp58 : gI σ25 th 8 = gI σ24 th 8 := by rw [eσ25]; exact up2_n _ _ (fun q => absurd q.2 (by decide))
  have kp59 : gI σ25 th 9 = gI σ24 th 9 := by rw [eσ25]; exact up2_n _ _ (fun q => absurd q.2 (by decide))
  intro σ26 eσ26
  have xσ26 : Ext σ25 σ26 := by rw [eσ26]; exact fun _ h => ⟨h, rfl, rfl⟩
  have iσ26 : IV σ26 pl gq ci gr nc ot LL N nu := by rw [eσ26]; exact iσ25.wK (kth.up (xσ14.trans (xσ15.trans (xσ16.trans (xσ17.trans (xσ18.trans (xσ19.trans (xσ20.trans (xσ21.trans (xσ22.trans (xσ23.trans (xσ24.trans xσ25)))))))))))) hl (by decide) (show (-2147483648 : Int) ≤ -1 ∧ (-1 : Int) ≤ 2147483647 by decide)
  have fσ26 : Fx [640, 641, 645, 646, 647, 648, 649, 650, 651, 652, 653, 654, 655] gr σ σ26 := fσ25.tr (Sk.fx (by rw [eσ26]; exact Sk.pI (by rw [fcdO (kth.up (xσ14.trans (xσ15.trans (xσ16.trans (xσ17.trans (xσ18.trans (xσ19.trans (xσ20.trans (xσ21.trans (xσ22.trans (xσ23.trans (xσ24.trans xσ25)))))))))))) (by decide)]; decide)))
  have wσ26 : gI σ26 th 15 = (-1) := by rw [eσ26]; exact up2_s _ _ _ _
  have kp60 : gI σ26 th 0 = gI σ25 th 0 := by rw [eσ26]; exact up2_n _ _ (fun q => absurd q.2 (by decide))
  have kp61 : gI σ26 th 1 = gI σ25 th 1 := by rw [eσ26]; exact up2_n _ _ (fun q => absurd q.2 (by decide))
  have kp62 : gI σ26 th 10 = gI σ25 th 10 := by rw [eσ26]; exact up2_n _ _ (fun q => absurd q.2 (by decide))
  have kp63 : gI σ26 th 11 = gI σ25 th 11 := by rw [eσ26]; exact up2_n _ _ (fun q => absurd q.2 (by decide))
  have kp64 : gI σ26 th 12 = gI σ25 th 12 := by rw [eσ26]; exact up2_n _ _ (fun q => absurd q.2 (by decide))
  have kp65 : gI σ26 th 13 = gI σ25 th 13 := by rw [eσ26]; exact up2_n _ _ (fun q => absurd q.2 (by decide))
  have kp66 : gI σ26 th 14 = gI σ25 th 14 := by rw [eσ26]; exact up2_n _ _ (fun q => absurd q.2 (by decide))
  have kp67 : gI σ26 th 5 = gI σ25 th 5 := by rw [eσ26]; exact up2_n _ _ (fun q => absurd q.2 (by decide))
  have kp68 : gI σ26 th 6 = gI σ25 th 6 := by rw [eσ26]; exact up2_n _ _ (fun q => absurd q.2 (by decide))
  have kp69 : gI σ26 th 8 = gI σ25 th 8 := by rw [eσ26]; exact up2_n _ _ (fun q => absurd q.2 (by decide))
  have kp70 : gI σ26 th 9 = gI σ25 th 9 := by rw [eσ26]; exact up2_n _ _ (fun q => absurd q.2 (by decide))
  exact hQ σ26 () iσ26 fσ26 (by (first | omega | with_reducible assumption | with_reducible exact rng_toInt _ | with_reducible exact rng_wr _ | (unfold rng; omega) | (unfold rng at *; omega) | assumption))
set_option maxHeartbeats 1000000 in
theorem i_X8_copyAll {σ : Sg} {pl : Nat} {gq ci gr nc : Nat → Nat} {ot : Nat → Nat → Int} {LL : Nat → List Nat} {N nu : Nat → Nat} {th : Nat} {v1 : Option Nat} {v2 : Option Nat} {d p s T G0 G1 : Nat} (iσ : IV σ pl gq ci gr nc ot LL N nu) (kth : kO σ th 8) {f : Nat} (hv1 : v1 = some f) (kf : kO σ f 1) {g : Nat} (hv2 : v2 = some g) (kg : kO σ g 1) (hg : gq g = G0) (hG : (G0 = 10 * T + 1 ∧ G1 = 10 * T + 2) ∨ (G0 = 10 * T + 2 ∧ G1 = 10 * T + 1)) (h2 : T = 2 ∨ T = 3) (kd : kO σ d 3) (hp : gP σ d 0 = some p) (hs : gP σ d 1 = some s) (hT : gq p = T) (hne : gq f ≠ G0 ∧ gq f ≠ 0) (n5 : N 5 = 0) (hd : gI σ d 7 ≤ 4000) (hR : LL f ≠ [] → 0 ≤ ot (ci g / 4) 7) (hr : ((N G0 : Nat) : Int) + (N G1 : Nat) + (LL f).length ≤ gI σ d 7 + (if gI σ d 3 = 0 then (0 : Int) else 4000)) (hb : N 14 + N 44 + N 74 + N 1 ≤ 40900) {Q : Sg → Unit → Prop} {X : Sg → String → Prop} (hQ : ∀ (σ' : Sg) (LL' : Nat → List Nat) (N' nu' : Nat → Nat) (r : Unit), IV σ' pl gq ci gr nc ot LL' N' nu' → Fx [1, 2, 3, 4, 5, 6, 7, 64, 512, 6464] gr σ σ' → NU nu nu' → Hn (gD σ) [G0] [] gq LL LL' N N' → (N' 1 = N 1 ∧ N' G0 = N G0 + (LL f).length) → Q σ' r) : wp_X8_copyAll th v1 v2 σ Q X := by
  have fσ : Fx [1, 2, 3, 4, 5, 6, 7, 64, 512, 6464] gr σ σ := Fx.rf
  have hnσ : Hn (gD σ) [G0] [] gq LL LL N N := Hn.rf
  have q1 := I_3_7 iσ.1 kd
  have q2 := iσ.rg d 3; unfold rng at q2
  unfold wp_X8_copyAll
  unfold w_X8_copyAll_0
  refine ⟨f, hv1, fun kk_f => ?_⟩
  have Lp5 : ∀ (fu5 : Nat) (τ5 : Sg) (LLt5 : Nat → List Nat) (Nt5 nut5 : Nat → Nat) (v3 : Option Nat), IV τ5 pl gq ci gr nc ot LLt5 Nt5 nut5 → Fx [1, 2, 3, 4, 5, 6, 7, 64, 512, 6464] gr σ τ5 → Ext σ τ5 → NU nu nut5 → Hn (gD σ) [G0] [] gq LL LLt5 N Nt5 → (∃ (A B : List Nat), ((LLt5 f = A ++ B ∧ v3 = B.head?) ∧ Nt5 1 = N 1 ∧ Nt5 G0 + B.length = N G0 + (LL f).length ∧ (v3 ≠ none → LL f ≠ [])) ∧ (B.length) < fu5) → wl_X8_copyAll_5 th Q X fu5 τ5 v2 v3 := by
    intro fu5
    induction fu5 with
    | zero => intro _ _ _ _ _ _ _ _ _ _ h9; obtain ⟨_, _, _, h9⟩ := h9; omega
    | succ fu5 ih5 =>
      intro τ5 LLt5 Nt5 nut5 v3 iτ5 fτ5 xτ5 nu_τ5 hnτ5 hi5
      obtain ⟨A, B, hi5, hm5⟩ := hi5
      have nτ5_G1 := hnτ5.2.2 G1 (by first | decide | (simp; done) | (simp only [List.mem_cons, List.mem_nil_iff, or_false, not_or]; omega)) (by first | decide | omega) (by first | decide | omega) (by first | decide | omega)
      have nτ5_14 := hnτ5.2.2 14 (by first | decide | (simp; done) | (simp only [List.mem_cons, List.mem_nil_iff, or_false, not_or]; omega)) (by first | decide | omega) (by first | decide | omega) (by first | decide | omega)
      have nτ5_44 := hnτ5.2.2 44 (by first | decide | (simp; done) | (simp only [List.mem_cons, List.mem_nil_iff, or_false, not_or]; omega)) (by first | decide | omega) (by first | decide | omega) (by first | decide | omega)
      have nτ5_74 := hnτ5.2.2 74 (by first | decide | (simp; done) | (simp only [List.mem_cons, List.mem_nil_iff, or_false, not_or]; omega)) (by first | decide | omega) (by first | decide | omega) (by first | decide | omega)
      have nτ5_5 := hnτ5.2.2 5 (by first | decide | (simp; done) | (simp only [List.mem_cons, List.mem_nil_iff, or_false, not_or]; omega)) (by first | decide | omega) (by first | decide | omega) (by first | decide | omega)
      have nτ5_3 := hnτ5.2.2 3 (by first | decide | (simp; done) | (simp only [List.mem_cons, List.mem_nil_iff, or_false, not_or]; omega)) (by first | decide | omega) (by first | decide | omega) (by first | decide | omega)
      have uτ5_0 := nu_τ5.1 0 (by decide)
      have uτ5_1 := nu_τ5.1 1 (by decide)
      have uτ5_2 := nu_τ5.2
      have uτ5_5 := nu_τ5.1 5 (by decide)
      have uτ5_15 := nu_τ5.1 15 (by decide)
      have uτ5_16 := nu_τ5.1 16 (by decide)
      unfold wl_X8_copyAll_5
      have kp3 : gI τ5 d 3 = gI σ d 3 := (fτ5.O kd (by decide)).1
      have kp4 : gI τ5 d 7 = gI σ d 7 := (fτ5.O kd (by decide)).1
      have kp5 : gP τ5 d 0 = gP σ d 0 := (fτ5.O kd (by decide)).2.1
      have kp6 : gP τ5 d 1 = gP σ d 1 := (fτ5.O kd (by decide)).2.1
      unfold w_X8_copyAll_5
      by_cases hc7 : v3 = none
      · rw [if_pos hc7]
        unfold w_X8_copyAll_26
        exact hQ τ5 LLt5 Nt5 nut5 () iτ5 fτ5 (nu_τ5) hnτ5 (by have l9 : B.length = 0 := hd_nil hi5.1.2 (by assumption); exact ⟨by omega, by omega⟩)
      · rw [if_neg hc7]
        unfold w_X8_copyAll_9
        obtain ⟨b, eb⟩ := Option.ne_none_iff_exists'.mp hc7
        have knb : kO τ5 b 0 := iτ5.cell (it_mem hi5.1 eb)
        have hR9 := hR (hi5.2.2.2 (by rw [eb]; simp))
        obtain ⟨B2, eB⟩ := it_cons hi5.1.2 eb
        have lb2 : B.length = B2.length + 1 := by rw [eB]; rfl
        refine i_X8_copyOf iτ5 (kth.up xτ5) eb knb (by (first | omega | with_reducible assumption | with_reducible exact rng_toInt _ | with_reducible exact rng_wr _ | (unfold rng; omega) | (unfold rng at *; omega) | assumption)) (fun σ8 LLσ8 Nσ8 nuσ8 c_σ8 iσ8 cσ8 uσ8 hσ8 pσ8 => ?_)
        intro xσ8
        have fσ8 : Fx [1, 2, 3, 4, 5, 6, 7, 64, 512, 6464] gr σ σ8 := fτ5.tr (cσ8.mo (by decide))
        have hnσ8 : Hn (gD σ) [G0] [] gq LL LLσ8 N Nσ8 := hnτ5.go hσ8 (fun d hd => (fτ5.1 d hd).1) (by first | decide | exact fun _ h => h | (simp; done) | (intro x hx; simp only [List.mem_cons, List.mem_nil_iff, or_false] at hx ⊢; omega)) (fun d hd => absurd hd (by simp))
        have hf_c_σ8 : ∀ x, c_σ8 ∉ LLσ8 x := pσ8.1
        have lo_c_σ8 : Lo [] (gD σ) LL c_σ8 := hnτ5.loc (fun d hd => (fτ5.1 d hd).1) pσ8.2.2.1
        have nσ8_G0 := hσ8.2.2 G0 (by first | decide | (simp; done) | (simp only [List.mem_cons, List.mem_nil_iff, or_false, not_or]; omega)) (by first | decide | omega) (by first | decide | omega) (by first | decide | omega)
        have nσ8_G1 := hσ8.2.2 G1 (by first | decide | (simp; done) | (simp only [List.mem_cons, List.mem_nil_iff, or_false, not_or]; omega)) (by first | decide | omega) (by first | decide | omega) (by first | decide | omega)
        have nσ8_14 := hσ8.2.2 14 (by first | decide | (simp; done) | (simp only [List.mem_cons, List.mem_nil_iff, or_false, not_or]; omega)) (by first | decide | omega) (by first | decide | omega) (by first | decide | omega)
        have nσ8_44 := hσ8.2.2 44 (by first | decide | (simp; done) | (simp only [List.mem_cons, List.mem_nil_iff, or_false, not_or]; omega)) (by first | decide | omega) (by first | decide | omega) (by first | decide | omega)
        have nσ8_74 := hσ8.2.2 74 (by first | decide | (simp; done) | (simp only [List.mem_cons, List.mem_nil_iff, or_false, not_or]; omega)) (by first | decide | omega) (by first | decide | omega) (by first | decide | omega)
        have nσ8_5 := hσ8.2.2 5 (by first | decide | (simp; done) | (simp only [List.mem_cons, List.mem_nil_iff, or_false, not_or]; omega)) (by first | decide | omega) (by first | decide | omega) (by first | decide | omega)
        have nσ8_3 := hσ8.2.2 3 (by first | decide | (simp; done) | (simp only [List.mem_cons, List.mem_nil_iff, or_false, not_or]; omega)) (by first | decide | omega) (by first | decide | omega) (by first | decide | omega)
        have nu_σ8 : NU nu nuσ8 := nu_τ5.tr uσ8
        have uσ8_0 := uσ8.1 0 (by decide)
        have uσ8_1 := uσ8.1 1 (by decide)
        have uσ8_2 := uσ8.2
        have uσ8_5 := uσ8.1 5 (by decide)
        have uσ8_15 := uσ8.1 15 (by decide)
        have uσ8_16 := uσ8.1 16 (by decide)
        have kp8 : gI σ8 d 3 = gI τ5 d 3 := (cσ8.O (kd.up xτ5) (by decide)).1
        have kp9 : gI σ8 d 7 = gI τ5 d 7 := (cσ8.O (kd.up xτ5) (by decide)).1
        have kp10 : gP σ8 d 0 = gP τ5 d 0 := (cσ8.O (kd.up xτ5) (by decide)).2.1
        have kp11 : gP σ8 d 1 = gP τ5 d 1 := (cσ8.O (kd.up xτ5) (by decide)).2.1
        have hLa := hσ8.1 f (kf.up xτ5).1 (by simp) (by omega)
        intro tyt
        have krc_σ8 : kO σ8 c_σ8 0 := tyt c_σ8 rfl
        refine ⟨g, hv2, fun kk_g => ?_⟩
        refine i_X1_add (G0 := G0) iσ8 (kg.up (xτ5.trans xσ8)) rfl krc_σ8 hg (by (first | omega | with_reducible assumption | with_reducible exact rng_toInt _ | with_reducible exact rng_wr _ | (unfold rng; omega) | (unfold rng at *; omega) | assumption)) (by (first | omega | with_reducible assumption | with_reducible exact rng_toInt _ | with_reducible exact rng_wr _ | (unfold rng; omega) | (unfold rng at *; omega) | assumption)) (iσ8.plc2 (kg.up (xτ5.trans xσ8)) h2 (by omega) hR9) (no50 (by omega)) (no13 (by omega)) (fun N9 n1 n2 => sc_part2 iσ8 (kd.up (xτ5.trans xσ8)) (kp10.trans (kp5.trans hp)) (kp11.trans (kp6.trans hs)) hT hG n1 n2 (by omega) (by omega) (by rw [show gI σ8 d 3 = gI σ d 3 by omega]; omega)) (fun σ10 LLσ10 Nσ10 nuσ10 _ iσ10 cσ10 uσ10 hσ10 pσ10 => ?_)
        intro xσ10
        have fσ10 : Fx [1, 2, 3, 4, 5, 6, 7, 64, 512, 6464] gr σ σ10 := fσ8.tr (cσ10.mo (by decide))
        have hnσ10 : Hn (gD σ) [G0] [] gq LL LLσ10 N Nσ10 := hnσ8.go hσ10 (fun d hd => (fσ8.1 d hd).1) (by first | decide | exact fun _ h => h | (simp; done) | (intro x hx; simp only [List.mem_cons, List.mem_nil_iff, or_false] at hx ⊢; omega)) (fun d hd => by rw [List.mem_singleton.mp hd]; exact lo_c_σ8)
        have nσ10_G1 := hσ10.2.2 G1 (by first | decide | (simp; done) | (simp only [List.mem_cons, List.mem_nil_iff, or_false, not_or]; omega)) (by first | decide | omega) (by first | decide | omega) (by first | decide | omega)
        have nσ10_14 := hσ10.2.2 14 (by first | decide | (simp; done) | (simp only [List.mem_cons, List.mem_nil_iff, or_false, not_or]; omega)) (by first | decide | omega) (by first | decide | omega) (by first | decide | omega)
        have nσ10_44 := hσ10.2.2 44 (by first | decide | (simp; done) | (simp only [List.mem_cons, List.mem_nil_iff, or_false, not_or]; omega)) (by first | decide | omega) (by first | decide | omega) (by first | decide | omega)
        have nσ10_74 := hσ10.2.2 74 (by first | decide | (simp; done) | (simp only [List.mem_cons, List.mem_nil_iff, or_false, not_or]; omega)) (by first | decide | omega) (by first | decide | omega) (by first | decide | omega)
        have nσ10_5 := hσ10.2.2 5 (by first | decide | (simp; done) | (simp only [List.mem_cons, List.mem_nil_iff, or_false, not_or]; omega)) (by first | decide | omega) (by first | decide | omega) (by first | decide | omega)
        have nσ10_3 := hσ10.2.2 3 (by first | decide | (simp; done) | (simp only [List.mem_cons, List.mem_nil_iff, or_false, not_or]; omega)) (by first | decide | omega) (by first | decide | omega) (by first | decide | omega)
        have nu_σ10 : NU nu nuσ10 := nu_σ8.tr uσ10
        have uσ10_0 := uσ10.1 0 (by decide)
        have uσ10_1 := uσ10.1 1 (by decide)
        have uσ10_2 := uσ10.2
        have uσ10_5 := uσ10.1 5 (by decide)
        have uσ10_15 := uσ10.1 15 (by decide)
        have uσ10_16 := uσ10.1 16 (by decide)
        have kp12 : gI σ10 d 3 = gI σ8 d 3 := (cσ10.O (kd.up (xτ5.trans xσ8)) (by decide)).1
        have kp13 : gI σ10 d 7 = gI σ8 d 7 := (cσ10.O (kd.up (xτ5.trans xσ8)) (by decide)).1
        have kp14 : gP σ10 d 0 = gP σ8 d 0 := (cσ10.O (kd.up (xτ5.trans xσ8)) (by decide)).2.1
        have kp15 : gP σ10 d 1 = gP σ8 d 1 := (cσ10.O (kd.up (xτ5.trans xσ8)) (by decide)).2.1
        have hLb := hσ10.1 f (kf.up (xτ5.trans xσ8)).1 (by first | (simp; done) | (simp only [List.mem_cons, List.mem_nil_iff, or_false, not_or]; omega)) (by omega)
        obtain ⟨A1, B1, p1, p2, p3, p4⟩ := it_step iσ10 (kf.up (xτ5.trans (xσ8.trans xσ10))) ⟨(by rw [hLb, hLa]; exact hi5.1.1), hi5.1.2⟩ eb
        refine ⟨b, eb, fun kk_b => ?_⟩
        exact ih5 σ10 LLσ10 Nσ10 nuσ10 (gP σ10 b 1) iσ10 fσ10 (xτ5.trans (xσ8.trans xσ10)) nu_σ10 hnσ10 (⟨A1, B1, ⟨⟨p1, p2⟩, by omega, by omega, fun _ => hi5.2.2.2 (by rw [eb]; simp)⟩, by omega⟩)
  exact ⟨(LL f).length + 1, Lp5 _ σ LL N nu _ iσ fσ (Ext.rfl' _) NU.rf hnσ (⟨[], LL f, ⟨⟨by simp, iσ.first kf⟩, rfl, rfl, fun q e => q (by rw [iσ.first kf, e]; rfl)⟩, Nat.lt_succ_self _⟩)⟩
set_option maxHeartbeats 1000000 in
theorem i_X3_write {σ : Sg} {pl : Nat} {gq ci gr nc : Nat → Nat} {ot : Nat → Nat → Int} {LL : Nat → List Nat} {N nu : Nat → Nat} {th : Nat} (iσ : IV σ pl gq ci gr nc ot LL N nu) (kth : kO σ th 3) {Q : Sg → Int → Prop} {X : Sg → String → Prop} (hQ : ∀ (σ' : Sg) (r : Int), IV σ' pl gq ci gr nc ot LL N nu → Fx [200, 201] gr σ σ' → (r = 0 ∨ r = 1) → Q σ' r) : wp_X3_write th σ Q X := by
  have fσ : Fx [200, 201] gr σ σ := Fx.rf
  unfold wp_X3_write
  unfold w_X3_write_0
  have q2 := iσ.rg th 8; unfold rng at q2
  by_cases hc1 : gI σ th 8 ≠ 0
  · rw [if_pos hc1]
    unfold w_X3_write_14
    by_cases hc3 : gI σ th 8 ≤ 0
    · rw [if_pos hc3]
      unfold w_X3_write_31
      exact hQ σ 1 iσ fσ (by (first | omega | with_reducible assumption | with_reducible exact rng_toInt _ | with_reducible exact rng_wr _ | (unfold rng; omega) | (unfold rng at *; omega) | assumption))
    · rw [if_neg hc3]
      unfold w_X3_write_21
      refine ⟨by (first | omega | with_reducible assumption | with_reducible exact rng_toInt _ | with_reducible exact rng_wr _ | (unfold rng; omega) | (unfold rng at *; omega) | assumption), ?_⟩
      intro σ4 eσ4
      have xσ4 : Ext σ σ4 := by rw [eσ4]; exact fun _ h => ⟨h, rfl, rfl⟩
      have iσ4 : IV σ4 pl gq ci gr nc ot LL N nu := by rw [eσ4]; exact iσ.wO kth (by decide) (rngb (by first | exact rng_wr _ | (first | omega | with_reducible assumption | with_reducible exact rng_toInt _ | with_reducible exact rng_wr _ | (unfold rng; omega) | (unfold rng at *; omega) | assumption)))
      have fσ4 : Fx [200, 201] gr σ σ4 := fσ.tr (Sk.fx (by rw [eσ4]; exact Sk.pI (by rw [fcdO kth (by decide)]; decide)))
      have wσ4 : gI σ4 th 8 = (gI σ th 8 - 1) := by rw [eσ4]; exact up2_s _ _ _ _
      unfold w_X3_write_31
      exact hQ σ4 1 iσ4 fσ4 (by (first | omega | with_reducible assumption | with_reducible exact rng_toInt _ | with_reducible exact rng_wr _ | (unfold rng; omega) | (unfold rng at *; omega) | assumption))
  · rw [if_neg hc1]
    have hc1q := Classical.not_not.mp hc1
    unfold w_X3_write_7
    intro σ3 eσ3
    have xσ3 : Ext σ σ3 := by rw [eσ3]; exact fun _ h => ⟨h, rfl, rfl⟩
    have iσ3 : IV σ3 pl gq ci gr nc ot LL N nu := by rw [eσ3]; exact iσ.wO kth (by decide) (show (0 : Int) ≤ 1 ∧ 1 ≤ 1 from ⟨by (first | omega | with_reducible assumption | with_reducible exact rng_toInt _ | with_reducible exact rng_wr _ | (unfold rng; omega) | (unfold rng at *; omega) | assumption), by (first | omega | with_reducible assumption | with_reducible exact rng_toInt _ | with_reducible exact rng_wr _ | (unfold rng; omega) | (unfold rng at *; omega) | assumption)⟩)
    have fσ3 : Fx [200, 201] gr σ σ3 := fσ.tr (Sk.fx (by rw [eσ3]; exact Sk.pI (by rw [fcdO kth (by decide)]; decide)))
    have wσ3 : gI σ3 th 9 = 1 := by rw [eσ3]; exact up2_s _ _ _ _
    have kp4 : gI σ3 th 8 = gI σ th 8 := by rw [eσ3]; exact up2_n _ _ (fun q => absurd q.2 (by decide))
    exact hQ σ3 0 iσ3 fσ3 (by (first | omega | with_reducible assumption | with_reducible exact rng_toInt _ | with_reducible exact rng_wr _ | (unfold rng; omega) | (unfold rng at *; omega) | assumption))
set_option maxHeartbeats 1000000 in
theorem i_X3_powerReturns {σ : Sg} {pl : Nat} {gq ci gr nc : Nat → Nat} {ot : Nat → Nat → Int} {LL : Nat → List Nat} {N nu : Nat → Nat} {th : Nat} (iσ : IV σ pl gq ci gr nc ot LL N nu) (kth : kO σ th 3) {Q : Sg → Unit → Prop} {X : Sg → String → Prop} (hQ : ∀ (σ' : Sg) (r : Unit), IV σ' pl gq ci gr nc ot LL N nu → Fx [200, 201] gr σ σ' → (gI σ' th 9 = 0) → Q σ' r) : wp_X3_powerReturns th σ Q X := by
  have fσ : Fx [200, 201] gr σ σ := Fx.rf
  unfold wp_X3_powerReturns
  unfold w_X3_powerReturns_0
  intro σ3 eσ3
  have xσ3 : Ext σ σ3 := by rw [eσ3]; exact fun _ h => ⟨h, rfl, rfl⟩
  have iσ3 : IV σ3 pl gq ci gr nc ot LL N nu := by rw [eσ3]; exact iσ.wO kth (by decide) (show (0 : Int) ≤ 0 ∧ 0 ≤ 1 from ⟨by (first | omega | with_reducible assumption | with_reducible exact rng_toInt _ | with_reducible exact rng_wr _ | (unfold rng; omega) | (unfold rng at *; omega) | assumption), by (first | omega | with_reducible assumption | with_reducible exact rng_toInt _ | with_reducible exact rng_wr _ | (unfold rng; omega) | (unfold rng at *; omega) | assumption)⟩)
  have fσ3 : Fx [200, 201] gr σ σ3 := fσ.tr (Sk.fx (by rw [eσ3]; exact Sk.pI (by rw [fcdO kth (by decide)]; decide)))
  have wσ3 : gI σ3 th 9 = 0 := by rw [eσ3]; exact up2_s _ _ _ _
  intro σ4 eσ4
  have xσ4 : Ext σ3 σ4 := by rw [eσ4]; exact fun _ h => ⟨h, rfl, rfl⟩
  have iσ4 : IV σ4 pl gq ci gr nc ot LL N nu := by rw [eσ4]; exact iσ3.wO (kth.up xσ3) (by decide) (rngb (by first | exact rng_wr _ | (first | omega | with_reducible assumption | with_reducible exact rng_toInt _ | with_reducible exact rng_wr _ | (unfold rng; omega) | (unfold rng at *; omega) | assumption)))
  have fσ4 : Fx [200, 201] gr σ σ4 := fσ3.tr (Sk.fx (by rw [eσ4]; exact Sk.pI (by rw [fcdO (kth.up xσ3) (by decide)]; decide)))
  have wσ4 : gI σ4 th 8 = (-1) := by rw [eσ4]; exact up2_s _ _ _ _
  have kp1 : gI σ4 th 9 = gI σ3 th 9 := by rw [eσ4]; exact up2_n _ _ (fun q => absurd q.2 (by decide))
  exact hQ σ4 () iσ4 fσ4 (by (first | omega | with_reducible assumption | with_reducible exact rng_toInt _ | with_reducible exact rng_wr _ | (unfold rng; omega) | (unfold rng at *; omega) | assumption))
set_option maxHeartbeats 1000000 in
theorem i_X3_ask {σ : Sg} {pl : Nat} {gq ci gr nc : Nat → Nat} {ot : Nat → Nat → Int} {LL : Nat → List Nat} {N nu : Nat → Nat} {th : Nat} {P S : Nat} (iσ : IV σ pl gq ci gr nc ot LL N nu) (kth : kO σ th 3) (hp : gP σ th 0 = some P) (kP : kO σ P 120) (hs : gP σ th 1 = some S) (n5 : N 5 = 0) (ha : 0 ≤ gI σ th 2 ∧ gI σ th 2 < 100000) (ho : gI σ th 3 = 0) {Q : Sg → Int → Prop} {X : Sg → String → Prop} (hQ : ∀ (σ' : Sg) (r : Int), IV σ' pl gq ci gr nc ot LL N nu → Fx [194, 195, 198, 199] gr σ σ' → (gI σ' th 2 = gI σ th 2 + 1) → Q σ' r) : wp_X3_ask th σ Q X := by
  have fσ : Fx [194, 195, 198, 199] gr σ σ := Fx.rf
  have q1 := iσ.rg th 2; unfold rng at q1
  have q2 := iσ.rg th 3; unfold rng at q2
  have k9 := (iσ.dk kth hp hs).2.1
  rw [if_pos ho, n5] at k9
  have q7 := I_3_7 iσ.1 kth
  have w9 : wr (gI σ th 2 + 1) = gI σ th 2 + 1 := wr_id (by unfold rng; omega)
  unfold wp_X3_ask
  unfold w_X3_ask_0
  intro σ5 eσ5
  have xσ5 : Ext σ σ5 := by rw [eσ5]; exact fun _ h => ⟨h, rfl, rfl⟩
  have iσ5 : IV σ5 pl gq ci gr nc ot LL N nu := by rw [eσ5]; exact iσ.wO kth (by decide) (rngb (by first | exact rng_wr _ | (first | omega | with_reducible assumption | with_reducible exact rng_toInt _ | with_reducible exact rng_wr _ | (unfold rng; omega) | (unfold rng at *; omega) | assumption)))
  have fσ5 : Fx [194, 195, 198, 199] gr σ σ5 := fσ.tr (Sk.fx (by rw [eσ5]; exact Sk.pI (by rw [fcdO kth (by decide)]; decide)))
  have wσ5 : gI σ5 th 2 = (wr (gI σ th 2 + 1)) := by rw [eσ5]; exact up2_s _ _ _ _
  have kp3 : gI σ5 th 3 = gI σ th 3 := by rw [eσ5]; exact up2_n _ _ (fun q => absurd q.2 (by decide))
  have kp4 : gP σ5 th 0 = gP σ th 0 := by rw [eσ5]
  have kp5 : gP σ5 th 1 = gP σ th 1 := by rw [eσ5]
  have kp6 : gI σ5 th 7 = gI σ th 7 := by rw [eσ5]; exact up2_n _ _ (fun q => absurd q.2 (by decide))
  intro σ6 eσ6
  have xσ6 : Ext σ5 σ6 := by rw [eσ6]; exact fun _ h => ⟨h, rfl, rfl⟩
  have iσ6 : IV σ6 pl gq ci gr nc ot LL N nu := by rw [eσ6]; exact iσ5.dput (kth.up xσ5) (Or.inl rfl) (rngb (iσ5.rg _ _)) (iσ5.rg _ _) (fun p9 hp9 => by have e9 : p9 = P := Option.some.inj (hp9.symm.trans ((kp4.trans hp))); subst e9; rw [if_neg (by decide), if_pos rfl, if_neg (by omega)]; omega)
  have fσ6 : Fx [194, 195, 198, 199] gr σ σ6 := fσ5.tr (Sk.fx (by rw [eσ6]; exact Sk.pI (by rw [fcdO (kth.up xσ5) (by decide)]; decide)))
  have wσ6 : gI σ6 th 3 = (gI σ5 th 2) := by rw [eσ6]; exact up2_s _ _ _ _
  have kp7 : gI σ6 th 2 = gI σ5 th 2 := by rw [eσ6]; exact up2_n _ _ (fun q => absurd q.2 (by decide))
  have kp8 : gP σ6 th 0 = gP σ5 th 0 := by rw [eσ6]
  have kp9 : gP σ6 th 1 = gP σ5 th 1 := by rw [eσ6]
  have kp10 : gI σ6 th 7 = gI σ5 th 7 := by rw [eσ6]; exact up2_n _ _ (fun q => absurd q.2 (by decide))
  intro σ7 eσ7
  have xσ7 : Ext σ6 σ7 := by rw [eσ7]; exact fun _ h => ⟨h, rfl, rfl⟩
  have iσ7 : IV σ7 pl gq ci gr nc ot LL N nu := by rw [eσ7]; exact iσ6.wO (kth.up (xσ5.trans xσ6)) (by decide) (rngb (by first | exact rng_wr _ | (first | omega | with_reducible assumption | with_reducible exact rng_toInt _ | with_reducible exact rng_wr _ | (unfold rng; omega) | (unfold rng at *; omega) | assumption)))
  have fσ7 : Fx [194, 195, 198, 199] gr σ σ7 := fσ6.tr (Sk.fx (by rw [eσ7]; exact Sk.pI (by rw [fcdO (kth.up (xσ5.trans xσ6)) (by decide)]; decide)))
  have wσ7 : gI σ7 th 6 = 0 := by rw [eσ7]; exact up2_s _ _ _ _
  have kp11 : gI σ7 th 2 = gI σ6 th 2 := by rw [eσ7]; exact up2_n _ _ (fun q => absurd q.2 (by decide))
  have kp12 : gI σ7 th 3 = gI σ6 th 3 := by rw [eσ7]; exact up2_n _ _ (fun q => absurd q.2 (by decide))
  have kp13 : gP σ7 th 0 = gP σ6 th 0 := by rw [eσ7]
  have kp14 : gP σ7 th 1 = gP σ6 th 1 := by rw [eσ7]
  have kp15 : gI σ7 th 7 = gI σ6 th 7 := by rw [eσ7]; exact up2_n _ _ (fun q => absurd q.2 (by decide))
  intro σ8 eσ8
  have xσ8 : Ext σ7 σ8 := by rw [eσ8]; exact fun _ h => ⟨h, rfl, rfl⟩
  have iσ8 : IV σ8 pl gq ci gr nc ot LL N nu := by rw [eσ8]; exact iσ7.dput (kth.up (xσ5.trans (xσ6.trans xσ7))) (Or.inr rfl) (show (0 : Int) ≤ 0 ∧ (0 : Int) ≤ 4000 by decide) (by unfold rng; omega) (fun p9 hp9 => by have e9 : p9 = P := Option.some.inj (hp9.symm.trans ((kp13.trans (kp8.trans (kp4.trans hp))))); subst e9; rw [if_pos rfl, show (if (7 : Nat) = 3 then (0 : Int) else gI σ7 th 3) = gI σ7 th 3 from if_neg (by decide), if_neg (by omega)]; omega)
  have fσ8 : Fx [194, 195, 198, 199] gr σ σ8 := fσ7.tr (Sk.fx (by rw [eσ8]; exact Sk.pI (by rw [fcdO (kth.up (xσ5.trans (xσ6.trans xσ7))) (by decide)]; decide)))
  have wσ8 : gI σ8 th 7 = 0 := by rw [eσ8]; exact up2_s _ _ _ _
  have kp16 : gI σ8 th 2 = gI σ7 th 2 := by rw [eσ8]; exact up2_n _ _ (fun q => absurd q.2 (by decide))
  have kp17 : gI σ8 th 3 = gI σ7 th 3 := by rw [eσ8]; exact up2_n _ _ (fun q => absurd q.2 (by decide))
  have kp18 : gI σ8 th 6 = gI σ7 th 6 := by rw [eσ8]; exact up2_n _ _ (fun q => absurd q.2 (by decide))
  have kp19 : gP σ8 th 0 = gP σ7 th 0 := by rw [eσ8]
  have kp20 : gP σ8 th 1 = gP σ7 th 1 := by rw [eσ8]
  exact hQ σ8 (gI σ8 th 3) iσ8 fσ8 (by (first | omega | with_reducible assumption | with_reducible exact rng_toInt _ | with_reducible exact rng_wr _ | (unfold rng; omega) | (unfold rng at *; omega) | assumption))
set_option maxHeartbeats 1000000 in
theorem i_X3_partOfLatest {σ : Sg} {pl : Nat} {gq ci gr nc : Nat → Nat} {ot : Nat → Nat → Int} {LL : Nat → List Nat} {N nu : Nat → Nat} {th : Nat} {v1 : Int} {v2 : Int} (iσ : IV σ pl gq ci gr nc ot LL N nu) (kth : kO σ th 3) (h1 : 0 ≤ v1 ∧ v1 ≤ 15) (h2 : 0 ≤ v2 ∧ v2 ≤ 3) {Q : Sg → Option Nat → Prop} {X : Sg → String → Prop} (hQ : ∀ (r : Option Nat), (∀ t9, r = some t9 → kO σ t9 10 ∧ (∃ s9, gP σ th 1 = some s9 ∧ gq t9 = gq s9)) → Q σ r) : wp_X3_partOfLatest th v1 v2 σ Q X := by
  unfold wp_X3_partOfLatest
  unfold w_X3_partOfLatest_0
  have q2 := iσ.rg th 4; unfold rng at q2
  by_cases hc1 : gI σ th 4 ≠ 0
  · rw [if_pos hc1]
    unfold w_X3_partOfLatest_11
    refine ⟨by (first | omega | with_reducible assumption | with_reducible exact rng_toInt _ | with_reducible exact rng_wr _ | (unfold rng; omega) | (unfold rng at *; omega) | assumption), ?_⟩
    refine ⟨by (first | omega | with_reducible assumption | with_reducible exact rng_toInt _ | with_reducible exact rng_wr _ | (unfold rng; omega) | (unfold rng at *; omega) | assumption), ?_⟩
    obtain ⟨b, eb, fb⟩ := P_3_1 iσ.1 kth
    have mb : kO σ b 120 := iσ.1.kd kth rfl eb rfl
    refine ⟨b, eb, fun kk_b => ?_⟩
    refine ⟨⟨by (first | omega | with_reducible assumption | with_reducible exact rng_toInt _ | with_reducible exact rng_wr _ | (unfold rng; omega) | (unfold rng at *; omega) | assumption), by (first | omega | with_reducible assumption | with_reducible exact rng_toInt _ | with_reducible exact rng_wr _ | (unfold rng; omega) | (unfold rng at *; omega) | assumption)⟩, ?_⟩
    unfold w_X3_partOfLatest_21
    exact hQ (gP σ b ((v1 * 4) + v2).toNat) (by first | (intro t9 q9; exact ⟨iσ.1.kd mb rfl q9 rfl, ⟨b, eb, (T_120 iσ.1 mb q9).1⟩⟩) | exact fun _ q => nomatch q)
  · rw [if_neg hc1]
    have hc1q := Classical.not_not.mp hc1
    unfold w_X3_partOfLatest_7
    unfold w_X3_partOfLatest_21
    exact hQ none (by first | (intro t9 q9; exact ⟨iσ.1.kd mb rfl q9 rfl, ⟨b, eb, (T_120 iσ.1 mb q9).1⟩⟩) | exact fun _ q => nomatch q)
set_option maxHeartbeats 1000000 in
theorem i_X3_count {σ : Sg} {pl : Nat} {gq ci gr nc : Nat → Nat} {ot : Nat → Nat → Int} {LL : Nat → List Nat} {N nu : Nat → Nat} {v0 : Option Nat} {v1 : Int64} (iσ : IV σ pl gq ci gr nc ot LL N nu) {x : Nat} (hv0 : v0 = some x) (kx : kO σ x 1) {Q : Sg → Int → Prop} {X : Sg → String → Prop} (hQ : ∀ (r : Int), (0 ≤ r ∧ r ≤ (LL x).length) → Q σ r) : wp_X3_count v0 v1 σ Q X := by
  have sz9 := iσ.sz kx.1
  unfold wp_X3_count
  unfold w_X3_count_0
  refine ⟨x, hv0, fun kk_x => ?_⟩
  have Lp8 : ∀ (fu8 : Nat) (v3 : Int) (v4 : Option Nat), (∃ (A B : List Nat), ((LL x = A ++ B ∧ v4 = B.head?) ∧ 0 ≤ v3 ∧ v3 ≤ A.length) ∧ (B.length) < fu8) → wl_X3_count_8 Q X fu8 σ v1 v3 v4 := by
    intro fu8
    induction fu8 with
    | zero => intro _ _ h9; obtain ⟨_, _, _, h9⟩ := h9; omega
    | succ fu8 ih8 =>
      intro v3 v4 hi8
      obtain ⟨A, B, hi8, hm8⟩ := hi8
      unfold wl_X3_count_8
      unfold w_X3_count_8
      by_cases hc1 : v4 = none
      · rw [if_pos hc1]
        unfold w_X3_count_41
        exact hQ v3 (⟨hi8.2.1, by have lb9 : A.length + B.length = (LL x).length := (by rw [hi8.1.1, List.length_append]); omega⟩)
      · rw [if_neg hc1]
        unfold w_X3_count_13
        obtain ⟨b, eb⟩ := Option.ne_none_iff_exists'.mp hc1
        have knb : kO σ b 0 := iσ.cell (it_mem hi8.1 eb)
        obtain ⟨A1, B1, p1, p2, p3, p4⟩ := it_step iσ kx hi8.1 eb
        have la9 : A1.length + B1.length = (LL x).length := by rw [p1, List.length_append]
        have lb9 : A.length + B.length = (LL x).length := by rw [hi8.1.1, List.length_append]
        refine ⟨b, eb, fun kk_b => ?_⟩
        by_cases hc2 : gJ σ b 7 ≠ v1
        · rw [if_pos hc2]
          unfold w_X3_count_28
          unfold w_X3_count_29
          refine ⟨by (first | omega | with_reducible assumption | with_reducible exact rng_toInt _ | with_reducible exact rng_wr _ | (unfold rng; omega) | (unfold rng at *; omega) | assumption), ?_⟩
          refine ⟨b, eb, fun kk_b_1 => ?_⟩
          exact ih8 (v3 + 0) (gP σ b 1) (⟨A1, B1, ⟨⟨p1, p2⟩, by omega, by omega⟩, by omega⟩)
        · rw [if_neg hc2]
          have hc2q := Classical.not_not.mp hc2
          unfold w_X3_count_24
          unfold w_X3_count_29
          refine ⟨by (first | omega | with_reducible assumption | with_reducible exact rng_toInt _ | with_reducible exact rng_wr _ | (unfold rng; omega) | (unfold rng at *; omega) | assumption), ?_⟩
          refine ⟨b, eb, fun kk_b_2 => ?_⟩
          exact ih8 (v3 + 1) (gP σ b 1) (⟨A1, B1, ⟨⟨p1, p2⟩, by omega, by omega⟩, by omega⟩)
  exact ⟨(LL x).length + 1, Lp8 _ _ _ (⟨[], LL x, ⟨⟨by simp, iσ.first kx⟩, by decide, by decide⟩, Nat.lt_succ_self _⟩)⟩
set_option maxHeartbeats 1000000 in
theorem i_X3_recordsOf {σ : Sg} {pl : Nat} {gq ci gr nc : Nat → Nat} {ot : Nat → Nat → Int} {LL : Nat → List Nat} {N nu : Nat → Nat} {th : Nat} {v1 : Int} {v2 : Int64} (iσ : IV σ pl gq ci gr nc ot LL N nu) (kth : kO σ th 3) (h1 : 0 ≤ v1 ∧ v1 ≤ 15) {Q : Sg → Int → Prop} {X : Sg → String → Prop} (hQ : ∀ (r : Int), (True) → Q σ r) : wp_X3_recordsOf th v1 v2 σ Q X := by
  unfold wp_X3_recordsOf
  unfold w_X3_recordsOf_0
  have Lp6 : ∀ (fu6 : Nat) (v4 : Int) (v5 : Int), (0 ≤ v5 ∧ v5 ≤ 4) → ((4 - v5).toNat) < fu6 → wl_X3_recordsOf_6 th Q X fu6 σ v1 v2 v4 v5 := by
    intro fu6
    induction fu6 with
    | zero => intro _ _ _ h9; omega
    | succ fu6 ih6 =>
      intro v4 v5 hi6 hm6
      unfold wl_X3_recordsOf_6
      unfold w_X3_recordsOf_6
      by_cases hc1 : v5 ≥ 4
      · rw [if_pos hc1]
        unfold w_X3_recordsOf_65
        exact hQ v4 (trivial)
      · rw [if_neg hc1]
        unfold w_X3_recordsOf_12
        have q3 := I_3_5 iσ.1 kth
        by_cases hc2 : v5 ≥ gI σ th 5
        · rw [if_pos hc2]
          unfold w_X3_recordsOf_65
          exact hQ v4 (trivial)
        · rw [if_neg hc2]
          unfold w_X3_recordsOf_21
          refine i_X3_partOfLatest iσ kth (by (first | omega | with_reducible assumption | with_reducible exact rng_toInt _ | with_reducible exact rng_wr _ | (unfold rng; omega) | (unfold rng at *; omega) | assumption)) (by (first | omega | with_reducible assumption | with_reducible exact rng_toInt _ | with_reducible exact rng_wr _ | (unfold rng; omega) | (unfold rng at *; omega) | assumption)) (fun r9 pσ8 => ?_)
          intro xσ8
          intro tyt
          by_cases hc4 : r9 = none
          · rw [if_pos hc4]
            unfold w_X3_recordsOf_59
            refine ⟨by (first | omega | with_reducible assumption | with_reducible exact rng_toInt _ | with_reducible exact rng_wr _ | (unfold rng; omega) | (unfold rng at *; omega) | assumption), ?_⟩
            exact ih6 v4 (v5 + 1) (by (first | omega | with_reducible assumption | with_reducible exact rng_toInt _ | with_reducible exact rng_wr _ | (unfold rng; omega) | (unfold rng at *; omega) | assumption)) (by (first | omega | with_reducible assumption | with_reducible exact rng_toInt _ | with_reducible exact rng_wr _ | (unfold rng; omega) | (unfold rng at *; omega) | assumption))
          · rw [if_neg hc4]
            unfold w_X3_recordsOf_35
            obtain ⟨b, eb⟩ := Option.ne_none_iff_exists'.mp hc4
            refine ⟨b, eb, fun kk_b => ?_⟩
            obtain ⟨b_1, eb_1, fb_1⟩ := P_10_2 iσ.1 kk_b
            have mb_1 : kO σ b_1 1 := iσ.1.kd kk_b rfl eb_1 rfl
            refine i_X3_count iσ eb_1 mb_1 (fun r12 pσ11 => ?_)
            intro xσ11
            obtain ⟨b_2, eb_2, fb_2⟩ := P_10_3 iσ.1 kk_b
            have mb_2 : kO σ b_2 1 := iσ.1.kd kk_b rfl eb_2 rfl
            refine i_X3_count iσ eb_2 mb_2 (fun r14 pσ13 => ?_)
            intro xσ13
            unfold w_X3_recordsOf_59
            refine ⟨by (first | omega | with_reducible assumption | with_reducible exact rng_toInt _ | with_reducible exact rng_wr _ | (unfold rng; omega) | (unfold rng at *; omega) | assumption), ?_⟩
            exact ih6 (wr (v4 + (wr (r12 + r14)))) (v5 + 1) (by (first | omega | with_reducible assumption | with_reducible exact rng_toInt _ | with_reducible exact rng_wr _ | (unfold rng; omega) | (unfold rng at *; omega) | assumption)) (by (first | omega | with_reducible assumption | with_reducible exact rng_toInt _ | with_reducible exact rng_wr _ | (unfold rng; omega) | (unfold rng at *; omega) | assumption))
  exact ⟨_, Lp6 _ _ _ (by (first | omega | with_reducible assumption | with_reducible exact rng_toInt _ | with_reducible exact rng_wr _ | (unfold rng; omega) | (unfold rng at *; omega) | assumption)) (Nat.lt_succ_self _)⟩

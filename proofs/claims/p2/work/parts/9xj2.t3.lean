set_option maxHeartbeats 1000000 in
theorem i_X9_playTurn {σ : Sg} {pl : Nat} {gq ci gr nc : Nat → Nat} {ot : Nat → Nat → Int} {LL : Nat → List Nat} {N nu : Nat → Nat} {th : Nat} {J W : Nat} (iσ : IV σ pl gq ci gr nc ot LL N nu) (kth : kO σ th 9) (hj : gP σ th 9 = some J) (kJ : kO σ J 4) (hJ : gq J = nc 0) (hw : gP σ th 1 = some W) (kW : kO σ W 11) (hWJ : gP σ W 5 = some J) (h17 : nu 17 ≤ nc 1) (hp : 1 ≤ gI σ th 12) (h5 : nu 5 < 24000) (hb : N 14 + N 44 + N 74 + N 1 ≤ 10000) (h3 : N 3 ≤ 1152921504606846976) (n5 : N 5 = 0) (n14 : N 14 = 0) {Q : Sg → Int → Prop} {X : Sg → String → Prop} (hQ : ∀ (σ' : Sg) (gq' ci' : Nat → Nat) (LL' : Nat → List Nat) (N' nu' : Nat → Nat) (r : Int), IV σ' pl gq' ci' gr nc ot LL' N' nu' → GE (gD σ) gq ci gq' ci' → Fx [1, 2, 3, 4, 5, 6, 7, 64, 132, 133, 134, 192, 193, 195, 196, 197, 198, 199, 200, 201, 265, 266, 512, 513, 514, 590, 591, 592, 593, 594, 640, 641, 645, 646, 647, 648, 649, 650, 651, 652, 653, 654, 655, 708, 6464, 7680] gr σ σ' → NX nu nu' → (rng r ∧ N' 1 ≤ N 1 + 4 ∧ N' 14 = 0 ∧ N' 5 = 0 ∧ N' 3 ≤ N 3 + 40010000 ∧ N' 44 = N 44 ∧ N' 74 = N 74 ∧ NZ N N' ∧ (gI σ' th 16 = 1 ∨ (N' 1 = N 1 ∧ nu' 5 = nu 5))) → Q σ' r) : wp_X9_playTurn th σ Q X := by
  have fσ : Fx [1, 2, 3, 4, 5, 6, 7, 64, 132, 133, 134, 192, 193, 195, 196, 197, 198, 199, 200, 201, 265, 266, 512, 513, 514, 590, 591, 592, 593, 594, 640, 641, 645, 646, 647, 648, 649, 650, 651, 652, 653, 654, 655, 708, 6464, 7680] gr σ σ := Fx.rf
  have geσ : GE (gD σ) gq ci gq ci := GE.rf
  have hnσ : Hn (gD σ) [3, 5, 11, 12, 13, 14, 50, 60, 61, 62, 63, 64, 65, 66, 67, 68, 69, 70, 71, 21, 22, 31, 32] [] gq LL LL N N := Hn.rf
  have q1 := I_9_12 iσ.1 kth
  have fW := T_9_1 iσ.1 kth hw
  have n16 := iσ.n16
  unfold wp_X9_playTurn
  unfold w_X9_playTurn_0
  intro σ29 eσ29
  have xσ29 : Ext σ σ29 := by rw [eσ29]; exact fun _ h => ⟨h, rfl, rfl⟩
  have iσ29 : IV σ29 pl gq ci gr nc ot LL N nu := by rw [eσ29]; exact iσ.wJ kth (by decide)
  have fσ29 : Fx [1, 2, 3, 4, 5, 6, 7, 64, 132, 133, 134, 192, 193, 195, 196, 197, 198, 199, 200, 201, 265, 266, 512, 513, 514, 590, 591, 592, 593, 594, 640, 641, 645, 646, 647, 648, 649, 650, 651, 652, 653, 654, 655, 708, 6464, 7680] gr σ σ29 := fσ.tr (Sk.fx (by rw [eσ29]; exact Sk.pJ (by rw [fcdO kth (by decide)]; decide)))
  have kp2 : gI σ29 th 12 = gI σ th 12 := by rw [eσ29]
  have kp3 : gP σ29 W 5 = gP σ W 5 := by rw [eσ29]
  have kp4 : gP σ29 th 1 = gP σ th 1 := by rw [eσ29]
  have kp5 : gP σ29 th 9 = gP σ th 9 := by rw [eσ29]
  have kp6 : gI σ29 th 16 = gI σ th 16 := by rw [eσ29]
  have q8 := iσ29.tc (kth.up xσ29)
  have q9 := I_9_10 iσ29.1 (kth.up xσ29)
  by_cases hc7 : gI σ29 th 10 ≠ 0
  · rw [if_pos hc7]
    unfold w_X9_playTurn_25
    have tc9 := iσ29.tc (kth.up xσ29)
    have tb9 := turn_b (gJ σ29 th 15).toUInt64 (n := gI σ29 th 10) ⟨by omega, by omega⟩
    refine ⟨by exact of_ne0 ⟨by omega, by omega⟩, ?_⟩
    obtain ⟨b, eb, fb⟩ := P_9_3 iσ29.1 (kth.up xσ29)
    have mb : kO σ29 b 120 := iσ29.1.kd (kth.up xσ29) rfl eb rfl
    refine ⟨b, eb, fun kk_b => ?_⟩
    refine ⟨⟨by (first | omega | with_reducible assumption | with_reducible exact rng_toInt _ | with_reducible exact rng_wr _ | (unfold rng; omega) | (unfold rng at *; omega) | assumption), by (first | omega | with_reducible assumption | with_reducible exact rng_toInt _ | with_reducible exact rng_wr _ | (unfold rng; omega) | (unfold rng at *; omega) | assumption)⟩, ?_⟩
    refine ⟨J, (kp5.trans hj), fun kk_J => ?_⟩
    have n16b_1 := iσ29.n16
    obtain ⟨b_1, eb_1, mb_1, fb_1⟩ := P_120 iσ29 mb (by omega) (k := (((((gJ σ29 th 15).toUInt64 >>> ((i32 33).toInt64.toUInt64 &&& Int64.toUInt64 63)).toInt64 - ((gJ σ29 th 15).toUInt64 >>> ((i32 33).toInt64.toUInt64 &&& Int64.toUInt64 63)).toInt64 / (Int64.ofInt (gI σ29 th 10)) * (Int64.ofInt (gI σ29 th 10)))).toInt32.toInt).toNat) (by (first | omega | with_reducible assumption | with_reducible exact rng_toInt _ | with_reducible exact rng_wr _ | (unfold rng; omega) | (unfold rng at *; omega) | assumption))
    refine ⟨b_1, eb_1, fun kk_b_1 => ?_⟩
    obtain ⟨b_2, eb_2, fb_2⟩ := P_4_0 iσ29.1 (kJ.up xσ29)
    have mb_2 : kO σ29 b_2 115 := iσ29.1.kd (kJ.up xσ29) rfl eb_2 rfl
    refine ⟨b_2, eb_2, fun kk_b_2 => ?_⟩
    have q10 := I_10_0 iσ29.1 mb_1
    refine ⟨⟨by (first | omega | with_reducible assumption | with_reducible exact rng_toInt _ | with_reducible exact rng_wr _ | (unfold rng; omega) | (unfold rng at *; omega) | assumption), by (first | omega | with_reducible assumption | with_reducible exact rng_toInt _ | with_reducible exact rng_wr _ | (unfold rng; omega) | (unfold rng at *; omega) | assumption)⟩, ?_⟩
    obtain ⟨b_3, eb_3⟩ := P_9_0 iσ29.1 (kth.up xσ29)
    refine ⟨b_3, eb_3, fun kk_b_3 => ?_⟩
    obtain ⟨b_4, eb_4⟩ := P_9_2 iσ29.1 (kth.up xσ29)
    refine ⟨b_4, eb_4, fun kk_b_4 => ?_⟩
    intro σ36 eσ36
    have xσ36 : Ext σ29 σ36 := by rw [eσ36]; exact fun _ h => ⟨h, rfl, rfl⟩
    have q11 := iσ29.rg th 17; unfold rng at q11
    have iσ36 : IV σ36 pl gq ci gr nc ot LL N nu := by rw [eσ36]; exact iσ29.wO (kth.up xσ29) (by decide) (rngb (by first | exact rng_wr _ | (first | omega | with_reducible assumption | with_reducible exact rng_toInt _ | with_reducible exact rng_wr _ | (unfold rng; omega) | (unfold rng at *; omega) | assumption)))
    have fσ36 : Fx [1, 2, 3, 4, 5, 6, 7, 64, 132, 133, 134, 192, 193, 195, 196, 197, 198, 199, 200, 201, 265, 266, 512, 513, 514, 590, 591, 592, 593, 594, 640, 641, 645, 646, 647, 648, 649, 650, 651, 652, 653, 654, 655, 708, 6464, 7680] gr σ σ36 := fσ29.tr (Sk.fx (by rw [eσ36]; exact Sk.pI (by rw [fcdO (kth.up xσ29) (by decide)]; decide)))
    have wσ36 : gI σ36 th 17 = (wr (gI σ29 th 17 + 1)) := by rw [eσ36]; exact up2_s _ _ _ _
    have kp12 : gI σ36 b_1 0 = gI σ29 b_1 0 := by rw [eσ36]; exact up2_n _ _ (fun q => absurd q.2 (by decide))
    have kp13 : gI σ36 th 10 = gI σ29 th 10 := by rw [eσ36]; exact up2_n _ _ (fun q => absurd q.2 (by decide))
    have kp14 : gI σ36 th 12 = gI σ29 th 12 := by rw [eσ36]; exact up2_n _ _ (fun q => absurd q.2 (by decide))
    have kp15 : gP σ36 J 0 = gP σ29 J 0 := by rw [eσ36]
    have kp16 : gP σ36 W 5 = gP σ29 W 5 := by rw [eσ36]
    have kp17 : gP σ36 b (((((gJ σ29 th 15).toUInt64 >>> ((i32 33).toInt64.toUInt64 &&& Int64.toUInt64 63)).toInt64 - ((gJ σ29 th 15).toUInt64 >>> ((i32 33).toInt64.toUInt64 &&& Int64.toUInt64 63)).toInt64 / (Int64.ofInt (gI σ29 th 10)) * (Int64.ofInt (gI σ29 th 10)))).toInt32.toInt).toNat = gP σ29 b (((((gJ σ29 th 15).toUInt64 >>> ((i32 33).toInt64.toUInt64 &&& Int64.toUInt64 63)).toInt64 - ((gJ σ29 th 15).toUInt64 >>> ((i32 33).toInt64.toUInt64 &&& Int64.toUInt64 63)).toInt64 / (Int64.ofInt (gI σ29 th 10)) * (Int64.ofInt (gI σ29 th 10)))).toInt32.toInt).toNat := by rw [eσ36]
    have kp18 : gP σ36 th 0 = gP σ29 th 0 := by rw [eσ36]
    have kp19 : gP σ36 th 1 = gP σ29 th 1 := by rw [eσ36]
    have kp20 : gP σ36 th 2 = gP σ29 th 2 := by rw [eσ36]
    have kp21 : gP σ36 th 3 = gP σ29 th 3 := by rw [eσ36]
    have kp22 : gP σ36 th 9 = gP σ29 th 9 := by rw [eσ36]
    have kp23 : gI σ36 th 16 = gI σ29 th 16 := by rw [eσ36]; exact up2_n _ _ (fun q => absurd q.2 (by decide))
    unfold w_X9_playTurn_91
    refine i_X9_unload iσ36 (kth.up (xσ29.trans xσ36)) eb_1 (mb_1.up xσ36) (by (first | omega | with_reducible assumption | with_reducible exact rng_toInt _ | with_reducible exact rng_wr _ | (unfold rng; omega) | (unfold rng at *; omega) | assumption)) (by (first | omega | with_reducible assumption | with_reducible exact rng_toInt _ | with_reducible exact rng_wr _ | (unfold rng; omega) | (unfold rng at *; omega) | assumption)) (fun σ37 LLσ37 Nσ37 nuσ37 r38 iσ37 cσ37 uσ37 hσ37 pσ37 => ?_)
    intro xσ37
    have fσ37 : Fx [1, 2, 3, 4, 5, 6, 7, 64, 132, 133, 134, 192, 193, 195, 196, 197, 198, 199, 200, 201, 265, 266, 512, 513, 514, 590, 591, 592, 593, 594, 640, 641, 645, 646, 647, 648, 649, 650, 651, 652, 653, 654, 655, 708, 6464, 7680] gr σ σ37 := fσ36.tr (cσ37.mo (by decide))
    have hnσ37 : Hn (gD σ) [3, 5, 11, 12, 13, 14, 50, 60, 61, 62, 63, 64, 65, 66, 67, 68, 69, 70, 71, 21, 22, 31, 32] [] gq LL LLσ37 N Nσ37 := hnσ.go (hσ37.ge (fun a ha => (geσ a ha).1) (fun d hd => (fσ36.1 d hd).1)) (fun _ hd => hd) (by first | decide | exact fun _ h => h | (simp; done) | (intro x hx; simp only [List.mem_cons, List.mem_nil_iff, or_false] at hx ⊢; omega)) (fun d hd => absurd hd (by simp))
    have nσ37_3 := hσ37.2.2 3 (by first | decide | (simp; done) | (simp only [List.mem_cons, List.mem_nil_iff, or_false, not_or]; omega)) (by first | decide | omega) (by first | decide | omega) (by first | decide | omega)
    have nσ37_5 := hσ37.2.2 5 (by first | decide | (simp; done) | (simp only [List.mem_cons, List.mem_nil_iff, or_false, not_or]; omega)) (by first | decide | omega) (by first | decide | omega) (by first | decide | omega)
    have nσ37_14 := hσ37.2.2 14 (by first | decide | (simp; done) | (simp only [List.mem_cons, List.mem_nil_iff, or_false, not_or]; omega)) (by first | decide | omega) (by first | decide | omega) (by first | decide | omega)
    have nσ37_44 := hσ37.2.2 44 (by first | decide | (simp; done) | (simp only [List.mem_cons, List.mem_nil_iff, or_false, not_or]; omega)) (by first | decide | omega) (by first | decide | omega) (by first | decide | omega)
    have nσ37_74 := hσ37.2.2 74 (by first | decide | (simp; done) | (simp only [List.mem_cons, List.mem_nil_iff, or_false, not_or]; omega)) (by first | decide | omega) (by first | decide | omega) (by first | decide | omega)
    have nσ37_11 := hσ37.2.2 11 (by first | decide | (simp; done) | (simp only [List.mem_cons, List.mem_nil_iff, or_false, not_or]; omega)) (by first | decide | omega) (by first | decide | omega) (by first | decide | omega)
    have nσ37_12 := hσ37.2.2 12 (by first | decide | (simp; done) | (simp only [List.mem_cons, List.mem_nil_iff, or_false, not_or]; omega)) (by first | decide | omega) (by first | decide | omega) (by first | decide | omega)
    have nσ37_41 := hσ37.2.2 41 (by first | decide | (simp; done) | (simp only [List.mem_cons, List.mem_nil_iff, or_false, not_or]; omega)) (by first | decide | omega) (by first | decide | omega) (by first | decide | omega)
    have nσ37_42 := hσ37.2.2 42 (by first | decide | (simp; done) | (simp only [List.mem_cons, List.mem_nil_iff, or_false, not_or]; omega)) (by first | decide | omega) (by first | decide | omega) (by first | decide | omega)
    have nu_σ37 : NU nu nuσ37 := uσ37
    have uσ37_0 := uσ37.1 0 (by decide)
    have uσ37_1 := uσ37.1 1 (by decide)
    have uσ37_2 := uσ37.2
    have uσ37_5 := uσ37.1 5 (by decide)
    have uσ37_15 := uσ37.1 15 (by decide)
    have uσ37_16 := uσ37.1 16 (by decide)
    have uσ37_17 := uσ37.1 17 (by decide)
    have kp24 : gI σ37 b_1 0 = gI σ36 b_1 0 := (cσ37.O (mb_1.up xσ36) (by decide)).1
    have kp25 : gI σ37 th 10 = gI σ36 th 10 := (cσ37.O (kth.up (xσ29.trans xσ36)) (by decide)).1
    have kp26 : gI σ37 th 12 = gI σ36 th 12 := (cσ37.O (kth.up (xσ29.trans xσ36)) (by decide)).1
    have kp27 : gI σ37 th 17 = gI σ36 th 17 := (cσ37.O (kth.up (xσ29.trans xσ36)) (by decide)).1
    have kp28 : gP σ37 J 0 = gP σ36 J 0 := (cσ37.O (kJ.up (xσ29.trans xσ36)) (by decide)).2.1
    have kp29 : gP σ37 W 5 = gP σ36 W 5 := (cσ37.O (kW.up (xσ29.trans xσ36)) (by decide)).2.1
    have kp30 : gP σ37 b (((((gJ σ29 th 15).toUInt64 >>> ((i32 33).toInt64.toUInt64 &&& Int64.toUInt64 63)).toInt64 - ((gJ σ29 th 15).toUInt64 >>> ((i32 33).toInt64.toUInt64 &&& Int64.toUInt64 63)).toInt64 / (Int64.ofInt (gI σ29 th 10)) * (Int64.ofInt (gI σ29 th 10)))).toInt32.toInt).toNat = gP σ36 b (((((gJ σ29 th 15).toUInt64 >>> ((i32 33).toInt64.toUInt64 &&& Int64.toUInt64 63)).toInt64 - ((gJ σ29 th 15).toUInt64 >>> ((i32 33).toInt64.toUInt64 &&& Int64.toUInt64 63)).toInt64 / (Int64.ofInt (gI σ29 th 10)) * (Int64.ofInt (gI σ29 th 10)))).toInt32.toInt).toNat := (cσ37.A (mb.up xσ36) (by decide)).2.1
    have kp31 : gP σ37 th 0 = gP σ36 th 0 := (cσ37.O (kth.up (xσ29.trans xσ36)) (by decide)).2.1
    have kp32 : gP σ37 th 1 = gP σ36 th 1 := (cσ37.O (kth.up (xσ29.trans xσ36)) (by decide)).2.1
    have kp33 : gP σ37 th 2 = gP σ36 th 2 := (cσ37.O (kth.up (xσ29.trans xσ36)) (by decide)).2.1
    have kp34 : gP σ37 th 3 = gP σ36 th 3 := (cσ37.O (kth.up (xσ29.trans xσ36)) (by decide)).2.1
    have kp35 : gP σ37 th 9 = gP σ36 th 9 := (cσ37.O (kth.up (xσ29.trans xσ36)) (by decide)).2.1
    have kp36 : gI σ37 th 16 = gI σ36 th 16 := (cσ37.O (kth.up (xσ29.trans xσ36)) (by decide)).1
    by_cases hc37 : r38 = 0
    · rw [if_pos hc37]
      unfold w_X9_playTurn_148
      unfold w_X9_playTurn_190
      refine ⟨b_1, eb_1, fun kk_b_1_1 => ?_⟩
      have q38 := iσ37.rg b_1 8; unfold rng at q38
      have q39 := iσ29.rg b_1 8; unfold rng at q39
      exact hQ σ37 gq ci LLσ37 Nσ37 nuσ37 (wr (gI σ37 b_1 8 - (gI σ29 b_1 8))) iσ37 geσ fσ37 (nu_σ37.nx)  (⟨rng_wr _, by omega, by omega, by omega, by omega, by omega, by omega, (Hn.nz hnσ37 (by first | decide | (intro x hx; simp only [List.mem_cons, List.mem_nil_iff, or_false] at hx; omega))), by omega⟩)
    · rw [if_neg hc37]
      unfold w_X9_playTurn_99
      obtain ⟨b_5, eb_5⟩ := P_115 iσ29.1 mb_2 (k := (gI σ29 b_1 0).toNat) (by (first | omega | with_reducible assumption | with_reducible exact rng_toInt _ | with_reducible exact rng_wr _ | (unfold rng; omega) | (unfold rng at *; omega) | assumption))
      have fb_5 := T_115 iσ29.1 mb_2 eb_5
      have mb_5 : kO σ29 b_5 5 := iσ29.1.kd mb_2 rfl eb_5 rfl
      have to9 := iσ37.tko (mb_1.up (xσ36.trans xσ37)) (by omega) (by omega)
      have op9 := iσ37.op (mb_5.up (xσ36.trans xσ37)) (i := (gI σ37 b_1 0).toNat) (by omega) (by omega) 6 (by decide)
      refine ⟨b_5, eb_5, fun kk_b_5 => ?_⟩
      have q41 := I_5_6 iσ37.1 (mb_5.up (xσ36.trans xσ37))
      by_cases hc40 : gI σ37 b_5 6 ≠ 0
      · rw [if_pos hc40]
        unfold w_X9_playTurn_115
        refine i_X9_takeThing (i := (gI σ37 b_1 0).toNat) iσ37 (kth.up (xσ29.trans (xσ36.trans xσ37))) eb_1 (mb_1.up (xσ36.trans xσ37)) eb_5 (mb_5.up (xσ36.trans xσ37)) (by (first | omega | with_reducible assumption | with_reducible exact rng_toInt _ | with_reducible exact rng_wr _ | (unfold rng; omega) | (unfold rng at *; omega) | assumption)) (by (first | omega | with_reducible assumption | with_reducible exact rng_toInt _ | with_reducible exact rng_wr _ | (unfold rng; omega) | (unfold rng at *; omega) | assumption)) (kp35.trans (kp22.trans (kp5.trans hj))) (kJ.up (xσ29.trans (xσ36.trans xσ37))) (by (first | omega | with_reducible assumption | with_reducible exact rng_toInt _ | with_reducible exact rng_wr _ | (unfold rng; omega) | (unfold rng at *; omega) | assumption)) (kp32.trans (kp19.trans (kp4.trans hw))) (kW.up (xσ29.trans (xσ36.trans xσ37))) (kp29.trans (kp16.trans (kp3.trans hWJ))) (by (first | omega | with_reducible assumption | with_reducible exact rng_toInt _ | with_reducible exact rng_wr _ | (unfold rng; omega) | (unfold rng at *; omega) | assumption)) (by (first | omega | with_reducible assumption | with_reducible exact rng_toInt _ | with_reducible exact rng_wr _ | (unfold rng; omega) | (unfold rng at *; omega) | assumption)) (by (first | omega | with_reducible assumption | with_reducible exact rng_toInt _ | with_reducible exact rng_wr _ | (unfold rng; omega) | (unfold rng at *; omega) | assumption)) (by omega) (by (first | omega | with_reducible assumption | with_reducible exact rng_toInt _ | with_reducible exact rng_wr _ | (unfold rng; omega) | (unfold rng at *; omega) | assumption)) (by (first | omega | with_reducible assumption | with_reducible exact rng_toInt _ | with_reducible exact rng_wr _ | (unfold rng; omega) | (unfold rng at *; omega) | assumption)) (by (first | omega | with_reducible assumption | with_reducible exact rng_toInt _ | with_reducible exact rng_wr _ | (unfold rng; omega) | (unfold rng at *; omega) | assumption)) (by (first | omega | with_reducible assumption | with_reducible exact rng_toInt _ | with_reducible exact rng_wr _ | (unfold rng; omega) | (unfold rng at *; omega) | assumption)) (by (first | omega | with_reducible assumption | with_reducible exact rng_toInt _ | with_reducible exact rng_wr _ | (unfold rng; omega) | (unfold rng at *; omega) | assumption)) (by (first | omega | with_reducible assumption | with_reducible exact rng_toInt _ | with_reducible exact rng_wr _ | (unfold rng; omega) | (unfold rng at *; omega) | assumption)) (fun σ54 gqσ54 ciσ54 LLσ54 Nσ54 nuσ54 r55 iσ54 gσ54 cσ54 uσ54 hσ54 pσ54 => ?_) ?_
        · skip
          intro xσ54
          have fσ54 : Fx [1, 2, 3, 4, 5, 6, 7, 64, 132, 133, 134, 192, 193, 195, 196, 197, 198, 199, 200, 201, 265, 266, 512, 513, 514, 590, 591, 592, 593, 594, 640, 641, 645, 646, 647, 648, 649, 650, 651, 652, 653, 654, 655, 708, 6464, 7680] gr σ σ54 := fσ37.tr (cσ54.mo (by decide))
          have geσ54 : GE (gD σ) gq ci gqσ54 ciσ54 := geσ.tr gσ54 (fun d hd => (fσ37.1 d hd).1)
          have gl42 := gσ54 J (kJ.up (xσ29.trans (xσ36.trans xσ37))).1
          have gl43 := gσ54 W (kW.up (xσ29.trans (xσ36.trans xσ37))).1
          have gl44 := gσ54 b (mb.up (xσ36.trans xσ37)).1
          have gl45 := gσ54 b_1 (mb_1.up (xσ36.trans xσ37)).1
          have gl46 := gσ54 b_2 (mb_2.up (xσ36.trans xσ37)).1
          have gl47 := gσ54 b_5 (mb_5.up (xσ36.trans xσ37)).1
          have hnσ54 : Hn (gD σ) [3, 5, 11, 12, 13, 14, 50, 60, 61, 62, 63, 64, 65, 66, 67, 68, 69, 70, 71, 21, 22, 31, 32] [] gq LL LLσ54 N Nσ54 := hnσ37.go (hσ54.ge (fun a ha => (geσ a ha).1) (fun d hd => (fσ37.1 d hd).1)) (fun _ hd => hd) (by first | decide | exact fun _ h => h | (simp; done) | (intro x hx; simp only [List.mem_cons, List.mem_nil_iff, or_false] at hx ⊢; omega)) (fun d hd => absurd hd (by simp))
          have nσ54_44 := hσ54.2.2 44 (by first | decide | (simp; done) | (simp only [List.mem_cons, List.mem_nil_iff, or_false, not_or]; omega)) (by first | decide | omega) (by first | decide | omega) (by first | decide | omega)
          have nσ54_74 := hσ54.2.2 74 (by first | decide | (simp; done) | (simp only [List.mem_cons, List.mem_nil_iff, or_false, not_or]; omega)) (by first | decide | omega) (by first | decide | omega) (by first | decide | omega)
          have nσ54_41 := hσ54.2.2 41 (by first | decide | (simp; done) | (simp only [List.mem_cons, List.mem_nil_iff, or_false, not_or]; omega)) (by first | decide | omega) (by first | decide | omega) (by first | decide | omega)
          have nσ54_42 := hσ54.2.2 42 (by first | decide | (simp; done) | (simp only [List.mem_cons, List.mem_nil_iff, or_false, not_or]; omega)) (by first | decide | omega) (by first | decide | omega) (by first | decide | omega)
          have nu_σ54 : NU nu nuσ54 := nu_σ37.tr uσ54
          have uσ54_0 := uσ54.1 0 (by decide)
          have uσ54_1 := uσ54.1 1 (by decide)
          have uσ54_2 := uσ54.2
          have uσ54_5 := uσ54.1 5 (by decide)
          have uσ54_15 := uσ54.1 15 (by decide)
          have uσ54_16 := uσ54.1 16 (by decide)
          have uσ54_17 := uσ54.1 17 (by decide)
          have kp48 : gI σ54 b_5 6 = gI σ37 b_5 6 := (cσ54.O (mb_5.up (xσ36.trans xσ37)) (by decide)).1
          have kp49 : gI σ54 th 10 = gI σ37 th 10 := (cσ54.O (kth.up (xσ29.trans (xσ36.trans xσ37))) (by decide)).1
          have kp50 : gI σ54 th 12 = gI σ37 th 12 := (cσ54.O (kth.up (xσ29.trans (xσ36.trans xσ37))) (by decide)).1
          have kp51 : gI σ54 th 17 = gI σ37 th 17 := (cσ54.O (kth.up (xσ29.trans (xσ36.trans xσ37))) (by decide)).1
          have kp52 : gP σ54 J 0 = gP σ37 J 0 := (cσ54.O (kJ.up (xσ29.trans (xσ36.trans xσ37))) (by decide)).2.1
          have kp53 : gP σ54 W 5 = gP σ37 W 5 := (cσ54.O (kW.up (xσ29.trans (xσ36.trans xσ37))) (by decide)).2.1
          have kp54 : gP σ54 th 0 = gP σ37 th 0 := (cσ54.O (kth.up (xσ29.trans (xσ36.trans xσ37))) (by decide)).2.1
          have kp55 : gP σ54 th 1 = gP σ37 th 1 := (cσ54.O (kth.up (xσ29.trans (xσ36.trans xσ37))) (by decide)).2.1
          have kp56 : gP σ54 th 2 = gP σ37 th 2 := (cσ54.O (kth.up (xσ29.trans (xσ36.trans xσ37))) (by decide)).2.1
          have kp57 : gP σ54 th 3 = gP σ37 th 3 := (cσ54.O (kth.up (xσ29.trans (xσ36.trans xσ37))) (by decide)).2.1
          have kp58 : gP σ54 th 9 = gP σ37 th 9 := (cσ54.O (kth.up (xσ29.trans (xσ36.trans xσ37))) (by decide)).2.1
          have kp59 : gI σ54 th 16 = gI σ37 th 16 := (cσ54.O (kth.up (xσ29.trans (xσ36.trans xσ37))) (by decide)).1
          unfold w_X9_playTurn_121
          by_cases hc60 : r55 = 0
          · rw [if_pos hc60]
            unfold w_X9_playTurn_137
            unfold w_X9_playTurn_138
            intro σ51 eσ51
            have xσ51 : Ext σ54 σ51 := by rw [eσ51]; exact fun _ h => ⟨h, rfl, rfl⟩
            have q61 := iσ54.rg th 18; unfold rng at q61
            have iσ51 : IV σ51 pl gqσ54 ciσ54 gr nc ot LLσ54 Nσ54 nuσ54 := by rw [eσ51]; exact iσ54.wO (kth.up (xσ29.trans (xσ36.trans (xσ37.trans xσ54)))) (by decide) (rngb (by first | exact rng_wr _ | (first | omega | with_reducible assumption | with_reducible exact rng_toInt _ | with_reducible exact rng_wr _ | (unfold rng; omega) | (unfold rng at *; omega) | assumption)))
            have fσ51 : Fx [1, 2, 3, 4, 5, 6, 7, 64, 132, 133, 134, 192, 193, 195, 196, 197, 198, 199, 200, 201, 265, 266, 512, 513, 514, 590, 591, 592, 593, 594, 640, 641, 645, 646, 647, 648, 649, 650, 651, 652, 653, 654, 655, 708, 6464, 7680] gr σ σ51 := fσ54.tr (Sk.fx (by rw [eσ51]; exact Sk.pI (by rw [fcdO (kth.up (xσ29.trans (xσ36.trans (xσ37.trans xσ54)))) (by decide)]; decide)))
            have wσ51 : gI σ51 th 18 = (wr ((gI σ54 th 18) + 1)) := by rw [eσ51]; exact up2_s _ _ _ _
            have kp62 : gI σ51 b_5 6 = gI σ54 b_5 6 := by rw [eσ51]; exact up2_n _ _ (fun q => absurd q.2 (by decide))
            have kp63 : gI σ51 th 10 = gI σ54 th 10 := by rw [eσ51]; exact up2_n _ _ (fun q => absurd q.2 (by decide))
            have kp64 : gI σ51 th 12 = gI σ54 th 12 := by rw [eσ51]; exact up2_n _ _ (fun q => absurd q.2 (by decide))
            have kp65 : gI σ51 th 17 = gI σ54 th 17 := by rw [eσ51]; exact up2_n _ _ (fun q => absurd q.2 (by decide))
            have kp66 : gP σ51 J 0 = gP σ54 J 0 := by rw [eσ51]
            have kp67 : gP σ51 W 5 = gP σ54 W 5 := by rw [eσ51]
            have kp68 : gP σ51 th 0 = gP σ54 th 0 := by rw [eσ51]
            have kp69 : gP σ51 th 1 = gP σ54 th 1 := by rw [eσ51]
            have kp70 : gP σ51 th 2 = gP σ54 th 2 := by rw [eσ51]
            have kp71 : gP σ51 th 3 = gP σ54 th 3 := by rw [eσ51]
            have kp72 : gP σ51 th 9 = gP σ54 th 9 := by rw [eσ51]
            have kp73 : gI σ51 th 16 = gI σ54 th 16 := by rw [eσ51]; exact up2_n _ _ (fun q => absurd q.2 (by decide))
            refine i_X9_unload iσ51 (kth.up (xσ29.trans (xσ36.trans (xσ37.trans (xσ54.trans xσ51))))) eb_1 (mb_1.up (xσ36.trans (xσ37.trans (xσ54.trans xσ51)))) (by (first | omega | with_reducible assumption | with_reducible exact rng_toInt _ | with_reducible exact rng_wr _ | (unfold rng; omega) | (unfold rng at *; omega) | assumption)) (by (first | omega | with_reducible assumption | with_reducible exact rng_toInt _ | with_reducible exact rng_wr _ | (unfold rng; omega) | (unfold rng at *; omega) | assumption)) (fun σ52 LLσ52 Nσ52 nuσ52 r53 iσ52 cσ52 uσ52 hσ52 pσ52 => ?_)
            intro xσ52
            have fσ52 : Fx [1, 2, 3, 4, 5, 6, 7, 64, 132, 133, 134, 192, 193, 195, 196, 197, 198, 199, 200, 201, 265, 266, 512, 513, 514, 590, 591, 592, 593, 594, 640, 641, 645, 646, 647, 648, 649, 650, 651, 652, 653, 654, 655, 708, 6464, 7680] gr σ σ52 := fσ51.tr (cσ52.mo (by decide))
            have hnσ52 : Hn (gD σ) [3, 5, 11, 12, 13, 14, 50, 60, 61, 62, 63, 64, 65, 66, 67, 68, 69, 70, 71, 21, 22, 31, 32] [] gq LL LLσ52 N Nσ52 := hnσ54.go (hσ52.ge (fun a ha => (geσ54 a ha).1) (fun d hd => (fσ51.1 d hd).1)) (fun _ hd => hd) (by first | decide | exact fun _ h => h | (simp; done) | (intro x hx; simp only [List.mem_cons, List.mem_nil_iff, or_false] at hx ⊢; omega)) (fun d hd => absurd hd (by simp))
            have nσ52_3 := hσ52.2.2 3 (by first | decide | (simp; done) | (simp only [List.mem_cons, List.mem_nil_iff, or_false, not_or]; omega)) (by first | decide | omega) (by first | decide | omega) (by first | decide | omega)
            have nσ52_5 := hσ52.2.2 5 (by first | decide | (simp; done) | (simp only [List.mem_cons, List.mem_nil_iff, or_false, not_or]; omega)) (by first | decide | omega) (by first | decide | omega) (by first | decide | omega)
            have nσ52_14 := hσ52.2.2 14 (by first | decide | (simp; done) | (simp only [List.mem_cons, List.mem_nil_iff, or_false, not_or]; omega)) (by first | decide | omega) (by first | decide | omega) (by first | decide | omega)
            have nσ52_44 := hσ52.2.2 44 (by first | decide | (simp; done) | (simp only [List.mem_cons, List.mem_nil_iff, or_false, not_or]; omega)) (by first | decide | omega) (by first | decide | omega) (by first | decide | omega)
            have nσ52_74 := hσ52.2.2 74 (by first | decide | (simp; done) | (simp only [List.mem_cons, List.mem_nil_iff, or_false, not_or]; omega)) (by first | decide | omega) (by first | decide | omega) (by first | decide | omega)
            have nσ52_11 := hσ52.2.2 11 (by first | decide | (simp; done) | (simp only [List.mem_cons, List.mem_nil_iff, or_false, not_or]; omega)) (by first | decide | omega) (by first | decide | omega) (by first | decide | omega)
            have nσ52_12 := hσ52.2.2 12 (by first | decide | (simp; done) | (simp only [List.mem_cons, List.mem_nil_iff, or_false, not_or]; omega)) (by first | decide | omega) (by first | decide | omega) (by first | decide | omega)
            have nσ52_41 := hσ52.2.2 41 (by first | decide | (simp; done) | (simp only [List.mem_cons, List.mem_nil_iff, or_false, not_or]; omega)) (by first | decide | omega) (by first | decide | omega) (by first | decide | omega)
            have nσ52_42 := hσ52.2.2 42 (by first | decide | (simp; done) | (simp only [List.mem_cons, List.mem_nil_iff, or_false, not_or]; omega)) (by first | decide | omega) (by first | decide | omega) (by first | decide | omega)
            have nu_σ52 : NU nu nuσ52 := nu_σ54.tr uσ52
            have uσ52_0 := uσ52.1 0 (by decide)
            have uσ52_1 := uσ52.1 1 (by decide)
            have uσ52_2 := uσ52.2
            have uσ52_5 := uσ52.1 5 (by decide)
            have uσ52_15 := uσ52.1 15 (by decide)
            have uσ52_16 := uσ52.1 16 (by decide)
            have uσ52_17 := uσ52.1 17 (by decide)
            have kp74 : gI σ52 b_5 6 = gI σ51 b_5 6 := (cσ52.O (mb_5.up (xσ36.trans (xσ37.trans (xσ54.trans xσ51)))) (by decide)).1
            have kp75 : gI σ52 th 10 = gI σ51 th 10 := (cσ52.O (kth.up (xσ29.trans (xσ36.trans (xσ37.trans (xσ54.trans xσ51))))) (by decide)).1
            have kp76 : gI σ52 th 12 = gI σ51 th 12 := (cσ52.O (kth.up (xσ29.trans (xσ36.trans (xσ37.trans (xσ54.trans xσ51))))) (by decide)).1
            have kp77 : gI σ52 th 17 = gI σ51 th 17 := (cσ52.O (kth.up (xσ29.trans (xσ36.trans (xσ37.trans (xσ54.trans xσ51))))) (by decide)).1
            have kp78 : gI σ52 th 18 = gI σ51 th 18 := (cσ52.O (kth.up (xσ29.trans (xσ36.trans (xσ37.trans (xσ54.trans xσ51))))) (by decide)).1
            have kp79 : gP σ52 J 0 = gP σ51 J 0 := (cσ52.O (kJ.up (xσ29.trans (xσ36.trans (xσ37.trans (xσ54.trans xσ51))))) (by decide)).2.1
            have kp80 : gP σ52 W 5 = gP σ51 W 5 := (cσ52.O (kW.up (xσ29.trans (xσ36.trans (xσ37.trans (xσ54.trans xσ51))))) (by decide)).2.1
            have kp81 : gP σ52 th 0 = gP σ51 th 0 := (cσ52.O (kth.up (xσ29.trans (xσ36.trans (xσ37.trans (xσ54.trans xσ51))))) (by decide)).2.1
            have kp82 : gP σ52 th 1 = gP σ51 th 1 := (cσ52.O (kth.up (xσ29.trans (xσ36.trans (xσ37.trans (xσ54.trans xσ51))))) (by decide)).2.1
            have kp83 : gP σ52 th 2 = gP σ51 th 2 := (cσ52.O (kth.up (xσ29.trans (xσ36.trans (xσ37.trans (xσ54.trans xσ51))))) (by decide)).2.1
            have kp84 : gP σ52 th 3 = gP σ51 th 3 := (cσ52.O (kth.up (xσ29.trans (xσ36.trans (xσ37.trans (xσ54.trans xσ51))))) (by decide)).2.1
            have kp85 : gP σ52 th 9 = gP σ51 th 9 := (cσ52.O (kth.up (xσ29.trans (xσ36.trans (xσ37.trans (xσ54.trans xσ51))))) (by decide)).2.1
            have kp86 : gI σ52 th 16 = gI σ51 th 16 := (cσ52.O (kth.up (xσ29.trans (xσ36.trans (xσ37.trans (xσ54.trans xσ51))))) (by decide)).1
            unfold w_X9_playTurn_148
            unfold w_X9_playTurn_190
            refine ⟨b_1, eb_1, fun kk_b_1_2 => ?_⟩
            have q87 := iσ52.rg b_1 8; unfold rng at q87
            have q88 := iσ29.rg b_1 8; unfold rng at q88
            exact hQ σ52 gqσ54 ciσ54 LLσ52 Nσ52 nuσ52 (wr (gI σ52 b_1 8 - (gI σ29 b_1 8))) iσ52 geσ54 fσ52 (nu_σ52.nx)  (⟨rng_wr _, by omega, by omega, by omega, by omega, by omega, by omega, (Hn.nz hnσ52 (by first | decide | (intro x hx; simp only [List.mem_cons, List.mem_nil_iff, or_false] at hx; omega))), by omega⟩)
          · rw [if_neg hc60]
            unfold w_X9_playTurn_133
            unfold w_X9_playTurn_138
            intro σ51_1 eσ51_1
            have xσ51_1 : Ext σ54 σ51_1 := by rw [eσ51_1]; exact fun _ h => ⟨h, rfl, rfl⟩
            have q89 := iσ54.rg th 18; unfold rng at q89
            have iσ51_1 : IV σ51_1 pl gqσ54 ciσ54 gr nc ot LLσ54 Nσ54 nuσ54 := by rw [eσ51_1]; exact iσ54.wO (kth.up (xσ29.trans (xσ36.trans (xσ37.trans xσ54)))) (by decide) (rngb (by first | exact rng_wr _ | (first | omega | with_reducible assumption | with_reducible exact rng_toInt _ | with_reducible exact rng_wr _ | (unfold rng; omega) | (unfold rng at *; omega) | assumption)))
            have fσ51_1 : Fx [1, 2, 3, 4, 5, 6, 7, 64, 132, 133, 134, 192, 193, 195, 196, 197, 198, 199, 200, 201, 265, 266, 512, 513, 514, 590, 591, 592, 593, 594, 640, 641, 645, 646, 647, 648, 649, 650, 651, 652, 653, 654, 655, 708, 6464, 7680] gr σ σ51_1 := fσ54.tr (Sk.fx (by rw [eσ51_1]; exact Sk.pI (by rw [fcdO (kth.up (xσ29.trans (xσ36.trans (xσ37.trans xσ54)))) (by decide)]; decide)))
            have wσ51_1 : gI σ51_1 th 18 = (wr ((gI σ54 th 18) + 0)) := by rw [eσ51_1]; exact up2_s _ _ _ _
            have kp90 : gI σ51_1 b_5 6 = gI σ54 b_5 6 := by rw [eσ51_1]; exact up2_n _ _ (fun q => absurd q.2 (by decide))
            have kp91 : gI σ51_1 th 10 = gI σ54 th 10 := by rw [eσ51_1]; exact up2_n _ _ (fun q => absurd q.2 (by decide))
            have kp92 : gI σ51_1 th 12 = gI σ54 th 12 := by rw [eσ51_1]; exact up2_n _ _ (fun q => absurd q.2 (by decide))
            have kp93 : gI σ51_1 th 17 = gI σ54 th 17 := by rw [eσ51_1]; exact up2_n _ _ (fun q => absurd q.2 (by decide))
            have kp94 : gP σ51_1 J 0 = gP σ54 J 0 := by rw [eσ51_1]
            have kp95 : gP σ51_1 W 5 = gP σ54 W 5 := by rw [eσ51_1]
            have kp96 : gP σ51_1 th 0 = gP σ54 th 0 := by rw [eσ51_1]
            have kp97 : gP σ51_1 th 1 = gP σ54 th 1 := by rw [eσ51_1]
            have kp98 : gP σ51_1 th 2 = gP σ54 th 2 := by rw [eσ51_1]
            have kp99 : gP σ51_1 th 3 = gP σ54 th 3 := by rw [eσ51_1]
            have kp100 : gP σ51_1 th 9 = gP σ54 th 9 := by rw [eσ51_1]
            have kp101 : gI σ51_1 th 16 = gI σ54 th 16 := by rw [eσ51_1]; exact up2_n _ _ (fun q => absurd q.2 (by decide))
            refine i_X9_unload iσ51_1 (kth.up (xσ29.trans (xσ36.trans (xσ37.trans (xσ54.trans xσ51_1))))) eb_1 (mb_1.up (xσ36.trans (xσ37.trans (xσ54.trans xσ51_1)))) (by (first | omega | with_reducible assumption | with_reducible exact rng_toInt _ | with_reducible exact rng_wr _ | (unfold rng; omega) | (unfold rng at *; omega) | assumption)) (by (first | omega | with_reducible assumption | with_reducible exact rng_toInt _ | with_reducible exact rng_wr _ | (unfold rng; omega) | (unfold rng at *; omega) | assumption)) (fun σ52_1 LLσ52_1 Nσ52_1 nuσ52_1 r53_1 iσ52_1 cσ52_1 uσ52_1 hσ52_1 pσ52_1 => ?_)
            intro xσ52_1
            have fσ52_1 : Fx [1, 2, 3, 4, 5, 6, 7, 64, 132, 133, 134, 192, 193, 195, 196, 197, 198, 199, 200, 201, 265, 266, 512, 513, 514, 590, 591, 592, 593, 594, 640, 641, 645, 646, 647, 648, 649, 650, 651, 652, 653, 654, 655, 708, 6464, 7680] gr σ σ52_1 := fσ51_1.tr (cσ52_1.mo (by decide))
            have hnσ52_1 : Hn (gD σ) [3, 5, 11, 12, 13, 14, 50, 60, 61, 62, 63, 64, 65, 66, 67, 68, 69, 70, 71, 21, 22, 31, 32] [] gq LL LLσ52_1 N Nσ52_1 := hnσ54.go (hσ52_1.ge (fun a ha => (geσ54 a ha).1) (fun d hd => (fσ51_1.1 d hd).1)) (fun _ hd => hd) (by first | decide | exact fun _ h => h | (simp; done) | (intro x hx; simp only [List.mem_cons, List.mem_nil_iff, or_false] at hx ⊢; omega)) (fun d hd => absurd hd (by simp))
            have nσ52_1_3 := hσ52_1.2.2 3 (by first | decide | (simp; done) | (simp only [List.mem_cons, List.mem_nil_iff, or_false, not_or]; omega)) (by first | decide | omega) (by first | decide | omega) (by first | decide | omega)
            have nσ52_1_5 := hσ52_1.2.2 5 (by first | decide | (simp; done) | (simp only [List.mem_cons, List.mem_nil_iff, or_false, not_or]; omega)) (by first | decide | omega) (by first | decide | omega) (by first | decide | omega)
            have nσ52_1_14 := hσ52_1.2.2 14 (by first | decide | (simp; done) | (simp only [List.mem_cons, List.mem_nil_iff, or_false, not_or]; omega)) (by first | decide | omega) (by first | decide | omega) (by first | decide | omega)
            have nσ52_1_44 := hσ52_1.2.2 44 (by first | decide | (simp; done) | (simp only [List.mem_cons, List.mem_nil_iff, or_false, not_or]; omega)) (by first | decide | omega) (by first | decide | omega) (by first | decide | omega)
            have nσ52_1_74 := hσ52_1.2.2 74 (by first | decide | (simp; done) | (simp only [List.mem_cons, List.mem_nil_iff, or_false, not_or]; omega)) (by first | decide | omega) (by first | decide | omega) (by first | decide | omega)
            have nσ52_1_11 := hσ52_1.2.2 11 (by first | decide | (simp; done) | (simp only [List.mem_cons, List.mem_nil_iff, or_false, not_or]; omega)) (by first | decide | omega) (by first | decide | omega) (by first | decide | omega)
            have nσ52_1_12 := hσ52_1.2.2 12 (by first | decide | (simp; done) | (simp only [List.mem_cons, List.mem_nil_iff, or_false, not_or]; omega)) (by first | decide | omega) (by first | decide | omega) (by first | decide | omega)
            have nσ52_1_41 := hσ52_1.2.2 41 (by first | decide | (simp; done) | (simp only [List.mem_cons, List.mem_nil_iff, or_false, not_or]; omega)) (by first | decide | omega) (by first | decide | omega) (by first | decide | omega)
            have nσ52_1_42 := hσ52_1.2.2 42 (by first | decide | (simp; done) | (simp only [List.mem_cons, List.mem_nil_iff, or_false, not_or]; omega)) (by first | decide | omega) (by first | decide | omega) (by first | decide | omega)
            have nu_σ52_1 : NU nu nuσ52_1 := nu_σ54.tr uσ52_1
            have uσ52_1_0 := uσ52_1.1 0 (by decide)
            have uσ52_1_1 := uσ52_1.1 1 (by decide)
            have uσ52_1_2 := uσ52_1.2
            have uσ52_1_5 := uσ52_1.1 5 (by decide)
            have uσ52_1_15 := uσ52_1.1 15 (by decide)
            have uσ52_1_16 := uσ52_1.1 16 (by decide)
            have uσ52_1_17 := uσ52_1.1 17 (by decide)
            have kp102 : gI σ52_1 b_5 6 = gI σ51_1 b_5 6 := (cσ52_1.O (mb_5.up (xσ36.trans (xσ37.trans (xσ54.trans xσ51_1)))) (by decide)).1
            have kp103 : gI σ52_1 th 10 = gI σ51_1 th 10 := (cσ52_1.O (kth.up (xσ29.trans (xσ36.trans (xσ37.trans (xσ54.trans xσ51_1))))) (by decide)).1
            have kp104 : gI σ52_1 th 12 = gI σ51_1 th 12 := (cσ52_1.O (kth.up (xσ29.trans (xσ36.trans (xσ37.trans (xσ54.trans xσ51_1))))) (by decide)).1
            have kp105 : gI σ52_1 th 17 = gI σ51_1 th 17 := (cσ52_1.O (kth.up (xσ29.trans (xσ36.trans (xσ37.trans (xσ54.trans xσ51_1))))) (by decide)).1
            have kp106 : gI σ52_1 th 18 = gI σ51_1 th 18 := (cσ52_1.O (kth.up (xσ29.trans (xσ36.trans (xσ37.trans (xσ54.trans xσ51_1))))) (by decide)).1
            have kp107 : gP σ52_1 J 0 = gP σ51_1 J 0 := (cσ52_1.O (kJ.up (xσ29.trans (xσ36.trans (xσ37.trans (xσ54.trans xσ51_1))))) (by decide)).2.1
            have kp108 : gP σ52_1 W 5 = gP σ51_1 W 5 := (cσ52_1.O (kW.up (xσ29.trans (xσ36.trans (xσ37.trans (xσ54.trans xσ51_1))))) (by decide)).2.1
            have kp109 : gP σ52_1 th 0 = gP σ51_1 th 0 := (cσ52_1.O (kth.up (xσ29.trans (xσ36.trans (xσ37.trans (xσ54.trans xσ51_1))))) (by decide)).2.1
            have kp110 : gP σ52_1 th 1 = gP σ51_1 th 1 := (cσ52_1.O (kth.up (xσ29.trans (xσ36.trans (xσ37.trans (xσ54.trans xσ51_1))))) (by decide)).2.1
            have kp111 : gP σ52_1 th 2 = gP σ51_1 th 2 := (cσ52_1.O (kth.up (xσ29.trans (xσ36.trans (xσ37.trans (xσ54.trans xσ51_1))))) (by decide)).2.1
            have kp112 : gP σ52_1 th 3 = gP σ51_1 th 3 := (cσ52_1.O (kth.up (xσ29.trans (xσ36.trans (xσ37.trans (xσ54.trans xσ51_1))))) (by decide)).2.1
            have kp113 : gP σ52_1 th 9 = gP σ51_1 th 9 := (cσ52_1.O (kth.up (xσ29.trans (xσ36.trans (xσ37.trans (xσ54.trans xσ51_1))))) (by decide)).2.1
            have kp114 : gI σ52_1 th 16 = gI σ51_1 th 16 := (cσ52_1.O (kth.up (xσ29.trans (xσ36.trans (xσ37.trans (xσ54.trans xσ51_1))))) (by decide)).1
            unfold w_X9_playTurn_148
            unfold w_X9_playTurn_190
            refine ⟨b_1, eb_1, fun kk_b_1_3 => ?_⟩
            have q115 := iσ52_1.rg b_1 8; unfold rng at q115
            have q116 := iσ29.rg b_1 8; unfold rng at q116
            exact hQ σ52_1 gqσ54 ciσ54 LLσ52_1 Nσ52_1 nuσ52_1 (wr (gI σ52_1 b_1 8 - (gI σ29 b_1 8))) iσ52_1 geσ54 fσ52_1 (nu_σ52_1.nx)  (⟨rng_wr _, by omega, by omega, by omega, by omega, by omega, by omega, (Hn.nz hnσ52_1 (by first | decide | (intro x hx; simp only [List.mem_cons, List.mem_nil_iff, or_false] at hx; omega))), by omega⟩)
        · intro σx gqσx ciσx LLσx Nσx nuσx Eσx iσx gσx cσx uσx pσx xσx
          unfold wx_X9_playTurn_151
          refine ⟨by first | exact pσx | exact pσx.1 | exact pσx.2 | exact pσx.2.2.1 | exact pσx.2.2 | (first | omega | with_reducible assumption | with_reducible exact rng_toInt _ | with_reducible exact rng_wr _ | (unfold rng; omega) | (unfold rng at *; omega) | assumption), fun u0 => ?_⟩
          have hnuσx : NX nu nuσx := nu_σ37.x uσx
          have ux2σx := hnuσx.2.1
          have ux5σx := hnuσx.2.2
          have ux15σx := hnuσx.1 15 (by decide)
          have ux16σx := hnuσx.1 16 (by decide)
          have nzσx : NZ N Nσx := NZ.tr (Hn.nz hnσ37 (by first | decide | (intro x hx; simp only [List.mem_cons, List.mem_nil_iff, or_false] at hx; omega))) pσx.2.1
          have geσx : GE (gD σ) gq ci gqσx ciσx := geσ.tr gσx (fun d hd => (fσ37.1 d hd).1)
          have gl117 := gσx J (kJ.up (xσ29.trans (xσ36.trans xσ37))).1
          have gl118 := gσx W (kW.up (xσ29.trans (xσ36.trans xσ37))).1
          have gl119 := gσx b (mb.up (xσ36.trans xσ37)).1
          have gl120 := gσx b_1 (mb_1.up (xσ36.trans xσ37)).1
          have gl121 := gσx b_2 (mb_2.up (xσ36.trans xσ37)).1
          have gl122 := gσx b_5 (mb_5.up (xσ36.trans xσ37)).1
          have fσx : Fx [1, 2, 3, 4, 5, 6, 7, 64, 132, 133, 134, 192, 193, 195, 196, 197, 198, 199, 200, 201, 265, 266, 512, 513, 514, 590, 591, 592, 593, 594, 640, 641, 645, 646, 647, 648, 649, 650, 651, 652, 653, 654, 655, 708, 6464, 7680] gr σ σx := fσ37.tr (cσx.mo (by decide))
          have kp123 : gI σx b_5 6 = gI σ37 b_5 6 := (cσx.O (mb_5.up (xσ36.trans xσ37)) (by decide)).1
          have kp124 : gI σx th 10 = gI σ37 th 10 := (cσx.O (kth.up (xσ29.trans (xσ36.trans xσ37))) (by decide)).1
          have kp125 : gI σx th 12 = gI σ37 th 12 := (cσx.O (kth.up (xσ29.trans (xσ36.trans xσ37))) (by decide)).1
          have kp126 : gI σx th 17 = gI σ37 th 17 := (cσx.O (kth.up (xσ29.trans (xσ36.trans xσ37))) (by decide)).1
          have kp127 : gP σx J 0 = gP σ37 J 0 := (cσx.O (kJ.up (xσ29.trans (xσ36.trans xσ37))) (by decide)).2.1
          have kp128 : gP σx W 5 = gP σ37 W 5 := (cσx.O (kW.up (xσ29.trans (xσ36.trans xσ37))) (by decide)).2.1
          have kp129 : gP σx th 0 = gP σ37 th 0 := (cσx.O (kth.up (xσ29.trans (xσ36.trans xσ37))) (by decide)).2.1
          have kp130 : gP σx th 1 = gP σ37 th 1 := (cσx.O (kth.up (xσ29.trans (xσ36.trans xσ37))) (by decide)).2.1
          have kp131 : gP σx th 2 = gP σ37 th 2 := (cσx.O (kth.up (xσ29.trans (xσ36.trans xσ37))) (by decide)).2.1
          have kp132 : gP σx th 3 = gP σ37 th 3 := (cσx.O (kth.up (xσ29.trans (xσ36.trans xσ37))) (by decide)).2.1
          have kp133 : gP σx th 9 = gP σ37 th 9 := (cσx.O (kth.up (xσ29.trans (xσ36.trans xσ37))) (by decide)).2.1
          have kp134 : gI σx th 16 = gI σ37 th 16 := (cσx.O (kth.up (xσ29.trans (xσ36.trans xσ37))) (by decide)).1
          unfold w_X9_playTurn_151
          intro σ39 eσ39
          have xσ39 : Ext σx σ39 := by rw [eσ39]; exact fun _ h => ⟨h, rfl, rfl⟩
          have iσ39 : IV σ39 pl gqσx ciσx gr nc ot LLσx Nσx nuσx := by rw [eσ39]; exact iσx.wO (kth.up (xσ29.trans (xσ36.trans (xσ37.trans xσx)))) (by decide) (show (0 : Int) ≤ 1 ∧ 1 ≤ 1 from ⟨by (first | omega | with_reducible assumption | with_reducible exact rng_toInt _ | with_reducible exact rng_wr _ | (unfold rng; omega) | (unfold rng at *; omega) | assumption), by (first | omega | with_reducible assumption | with_reducible exact rng_toInt _ | with_reducible exact rng_wr _ | (unfold rng; omega) | (unfold rng at *; omega) | assumption)⟩)
          have fσ39 : Fx [1, 2, 3, 4, 5, 6, 7, 64, 132, 133, 134, 192, 193, 195, 196, 197, 198, 199, 200, 201, 265, 266, 512, 513, 514, 590, 591, 592, 593, 594, 640, 641, 645, 646, 647, 648, 649, 650, 651, 652, 653, 654, 655, 708, 6464, 7680] gr σ σ39 := fσx.tr (Sk.fx (by rw [eσ39]; exact Sk.pI (by rw [fcdO (kth.up (xσ29.trans (xσ36.trans (xσ37.trans xσx)))) (by decide)]; decide)))
          have wσ39 : gI σ39 th 16 = 1 := by rw [eσ39]; exact up2_s _ _ _ _
          have kp135 : gI σ39 b_5 6 = gI σx b_5 6 := by rw [eσ39]; exact up2_n _ _ (fun q => absurd q.2 (by decide))
          have kp136 : gI σ39 th 10 = gI σx th 10 := by rw [eσ39]; exact up2_n _ _ (fun q => absurd q.2 (by decide))
          have kp137 : gI σ39 th 12 = gI σx th 12 := by rw [eσ39]; exact up2_n _ _ (fun q => absurd q.2 (by decide))
          have kp138 : gI σ39 th 17 = gI σx th 17 := by rw [eσ39]; exact up2_n _ _ (fun q => absurd q.2 (by decide))
          have kp139 : gP σ39 J 0 = gP σx J 0 := by rw [eσ39]
          have kp140 : gP σ39 W 5 = gP σx W 5 := by rw [eσ39]
          have kp141 : gP σ39 th 0 = gP σx th 0 := by rw [eσ39]
          have kp142 : gP σ39 th 1 = gP σx th 1 := by rw [eσ39]
          have kp143 : gP σ39 th 2 = gP σx th 2 := by rw [eσ39]
          have kp144 : gP σ39 th 3 = gP σx th 3 := by rw [eσ39]
          have kp145 : gP σ39 th 9 = gP σx th 9 := by rw [eσ39]
          refine ⟨b_3, (kp141.trans (kp129.trans (kp31.trans (kp18.trans eb_3)))), fun kk_b_3_1 => ?_⟩
          intro σ41 eσ41
          have xσ41 : Ext σ39 σ41 := by rw [eσ41]; exact fun _ h => ⟨h, rfl, rfl⟩
          have q146 := I_8_1 iσ29.1 kk_b_3
          have iσ41 : IV σ41 pl gqσx ciσx gr nc ot LLσx Nσx nuσx := by rw [eσ41]; exact iσ39.wO (kk_b_3.up (xσ36.trans (xσ37.trans (xσx.trans xσ39)))) (by decide) (show (0 : Int) ≤ (gI σ29 b_3 1) ∧ (gI σ29 b_3 1) ≤ (nuσx 2 : Int) from ⟨by (first | omega | with_reducible assumption | with_reducible exact rng_toInt _ | with_reducible exact rng_wr _ | (unfold rng; omega) | (unfold rng at *; omega) | assumption), by (first | omega | with_reducible assumption | with_reducible exact rng_toInt _ | with_reducible exact rng_wr _ | (unfold rng; omega) | (unfold rng at *; omega) | assumption)⟩)
          have fσ41 : Fx [1, 2, 3, 4, 5, 6, 7, 64, 132, 133, 134, 192, 193, 195, 196, 197, 198, 199, 200, 201, 265, 266, 512, 513, 514, 590, 591, 592, 593, 594, 640, 641, 645, 646, 647, 648, 649, 650, 651, 652, 653, 654, 655, 708, 6464, 7680] gr σ σ41 := fσ39.tr (Sk.fx (by rw [eσ41]; exact Sk.pI (by rw [fcdO (kk_b_3.up (xσ36.trans (xσ37.trans (xσx.trans xσ39)))) (by decide)]; decide)))
          have wσ41 : gI σ41 b_3 1 = (gI σ29 b_3 1) := by rw [eσ41]; exact up2_s _ _ _ _
          have kp147 : gI σ41 b_5 6 = gI σ39 b_5 6 := by rw [eσ41]; exact up2_n _ _ (fun q => absurd q.2 (by decide))
          have kp148 : gI σ41 th 10 = gI σ39 th 10 := by rw [eσ41]; exact up2_n _ _ (fun q => absurd q.2 (by decide))
          have kp149 : gI σ41 th 12 = gI σ39 th 12 := by rw [eσ41]; exact up2_n _ _ (fun q => absurd q.2 (by decide))
          have kp150 : gI σ41 th 16 = gI σ39 th 16 := by rw [eσ41]; exact up2_n _ _ (fun q => absurd q.2 (by decide))
          have kp151 : gI σ41 th 17 = gI σ39 th 17 := by rw [eσ41]; exact up2_n _ _ (fun q => absurd q.2 (by decide))
          have kp152 : gP σ41 J 0 = gP σ39 J 0 := by rw [eσ41]
          have kp153 : gP σ41 W 5 = gP σ39 W 5 := by rw [eσ41]
          have kp154 : gP σ41 th 0 = gP σ39 th 0 := by rw [eσ41]
          have kp155 : gP σ41 th 1 = gP σ39 th 1 := by rw [eσ41]
          have kp156 : gP σ41 th 2 = gP σ39 th 2 := by rw [eσ41]
          have kp157 : gP σ41 th 3 = gP σ39 th 3 := by rw [eσ41]
          have kp158 : gP σ41 th 9 = gP σ39 th 9 := by rw [eσ41]
          refine ⟨b_4, (kp156.trans (kp143.trans (kp131.trans (kp33.trans (kp20.trans eb_4))))), fun kk_b_4_1 => ?_⟩
          intro σ43 eσ43
          have xσ43 : Ext σ41 σ43 := by rw [eσ43]; exact fun _ h => ⟨h, rfl, rfl⟩
          have q159 := iσ29.rg b_4 8; unfold rng at q159
          have iσ43 : IV σ43 pl gqσx ciσx gr nc ot LLσx Nσx nuσx := by rw [eσ43]; exact iσ41.wO (kk_b_4.up (xσ36.trans (xσ37.trans (xσx.trans (xσ39.trans xσ41))))) (by decide) (rngb (by first | exact rng_wr _ | (first | omega | with_reducible assumption | with_reducible exact rng_toInt _ | with_reducible exact rng_wr _ | (unfold rng; omega) | (unfold rng at *; omega) | assumption)))
          have fσ43 : Fx [1, 2, 3, 4, 5, 6, 7, 64, 132, 133, 134, 192, 193, 195, 196, 197, 198, 199, 200, 201, 265, 266, 512, 513, 514, 590, 591, 592, 593, 594, 640, 641, 645, 646, 647, 648, 649, 650, 651, 652, 653, 654, 655, 708, 6464, 7680] gr σ σ43 := fσ41.tr (Sk.fx (by rw [eσ43]; exact Sk.pI (by rw [fcdO (kk_b_4.up (xσ36.trans (xσ37.trans (xσx.trans (xσ39.trans xσ41))))) (by decide)]; decide)))
          have wσ43 : gI σ43 b_4 8 = (gI σ29 b_4 8) := by rw [eσ43]; exact up2_s _ _ _ _
          have kp160 : gI σ43 b_3 1 = gI σ41 b_3 1 := by rw [eσ43]; exact up2_n _ _ (fun q => absurd q.2 (by decide))
          have kp161 : gI σ43 b_5 6 = gI σ41 b_5 6 := by rw [eσ43]; exact up2_n _ _ (fun q => absurd q.2 (by decide))
          have kp162 : gI σ43 th 10 = gI σ41 th 10 := by rw [eσ43]; exact up2_n _ _ (fun q => absurd q.2 (by decide))
          have kp163 : gI σ43 th 12 = gI σ41 th 12 := by rw [eσ43]; exact up2_n _ _ (fun q => absurd q.2 (by decide))
          have kp164 : gI σ43 th 16 = gI σ41 th 16 := by rw [eσ43]; exact up2_n _ _ (fun q => absurd q.2 (by decide))
          have kp165 : gI σ43 th 17 = gI σ41 th 17 := by rw [eσ43]; exact up2_n _ _ (fun q => absurd q.2 (by decide))
          have kp166 : gP σ43 J 0 = gP σ41 J 0 := by rw [eσ43]
          have kp167 : gP σ43 W 5 = gP σ41 W 5 := by rw [eσ43]
          have kp168 : gP σ43 th 0 = gP σ41 th 0 := by rw [eσ43]
          have kp169 : gP σ43 th 1 = gP σ41 th 1 := by rw [eσ43]
          have kp170 : gP σ43 th 2 = gP σ41 th 2 := by rw [eσ43]
          have kp171 : gP σ43 th 3 = gP σ41 th 3 := by rw [eσ43]
          have kp172 : gP σ43 th 9 = gP σ41 th 9 := by rw [eσ43]
          refine ⟨W, (kp169.trans (kp155.trans (kp142.trans (kp130.trans (kp32.trans (kp19.trans (kp4.trans hw))))))), fun kk_W => ?_⟩
          refine ⟨b_3, (kp168.trans (kp154.trans (kp141.trans (kp129.trans (kp31.trans (kp18.trans eb_3)))))), fun kk_b_3_2 => ?_⟩
          obtain ⟨b_6, eb_6, fb_6⟩ := P_11_2 iσ43.1 (kW.up (xσ29.trans (xσ36.trans (xσ37.trans (xσx.trans (xσ39.trans (xσ41.trans xσ43)))))))
          have mb_6 : kO σ43 b_6 1 := iσ43.1.kd (kW.up (xσ29.trans (xσ36.trans (xσ37.trans (xσx.trans (xσ39.trans (xσ41.trans xσ43))))))) rfl eb_6 rfl
          refine i_X8_releaseAll (G0 := 14) iσ43 (kk_b_3.up (xσ36.trans (xσ37.trans (xσx.trans (xσ39.trans (xσ41.trans xσ43)))))) eb_6 mb_6 (by omega) (by decide) (fun σ45 LLσ45 Nσ45 nuσ45 _ iσ45 cσ45 uσ45 hσ45 pσ45 => ?_)
          intro xσ45
          have fσ45 : Fx [1, 2, 3, 4, 5, 6, 7, 64, 132, 133, 134, 192, 193, 195, 196, 197, 198, 199, 200, 201, 265, 266, 512, 513, 514, 590, 591, 592, 593, 594, 640, 641, 645, 646, 647, 648, 649, 650, 651, 652, 653, 654, 655, 708, 6464, 7680] gr σ σ45 := fσ43.tr (cσ45.mo (by decide))
          have nσ45_3 := hσ45.2.2 3 (by first | decide | (simp; done) | (simp only [List.mem_cons, List.mem_nil_iff, or_false, not_or]; omega)) (by first | decide | omega) (by first | decide | omega) (by first | decide | omega)
          have nσ45_5 := hσ45.2.2 5 (by first | decide | (simp; done) | (simp only [List.mem_cons, List.mem_nil_iff, or_false, not_or]; omega)) (by first | decide | omega) (by first | decide | omega) (by first | decide | omega)
          have nσ45_44 := hσ45.2.2 44 (by first | decide | (simp; done) | (simp only [List.mem_cons, List.mem_nil_iff, or_false, not_or]; omega)) (by first | decide | omega) (by first | decide | omega) (by first | decide | omega)
          have nσ45_74 := hσ45.2.2 74 (by first | decide | (simp; done) | (simp only [List.mem_cons, List.mem_nil_iff, or_false, not_or]; omega)) (by first | decide | omega) (by first | decide | omega) (by first | decide | omega)
          have nσ45_11 := hσ45.2.2 11 (by first | decide | (simp; done) | (simp only [List.mem_cons, List.mem_nil_iff, or_false, not_or]; omega)) (by first | decide | omega) (by first | decide | omega) (by first | decide | omega)
          have nσ45_12 := hσ45.2.2 12 (by first | decide | (simp; done) | (simp only [List.mem_cons, List.mem_nil_iff, or_false, not_or]; omega)) (by first | decide | omega) (by first | decide | omega) (by first | decide | omega)
          have nσ45_41 := hσ45.2.2 41 (by first | decide | (simp; done) | (simp only [List.mem_cons, List.mem_nil_iff, or_false, not_or]; omega)) (by first | decide | omega) (by first | decide | omega) (by first | decide | omega)
          have nσ45_42 := hσ45.2.2 42 (by first | decide | (simp; done) | (simp only [List.mem_cons, List.mem_nil_iff, or_false, not_or]; omega)) (by first | decide | omega) (by first | decide | omega) (by first | decide | omega)
          have nσ45_13 := hσ45.2.2 13 (by first | decide | (simp; done) | (simp only [List.mem_cons, List.mem_nil_iff, or_false, not_or]; omega)) (by first | decide | omega) (by first | decide | omega) (by first | decide | omega)
          have nσ45_50 := hσ45.2.2 50 (by first | decide | (simp; done) | (simp only [List.mem_cons, List.mem_nil_iff, or_false, not_or]; omega)) (by first | decide | omega) (by first | decide | omega) (by first | decide | omega)
          have nzσ45 : NZ N Nσ45 := NZ.tr nzσx (Hn.nz hσ45 (by first | decide | (intro x hx; simp only [List.mem_cons, List.mem_nil_iff, or_false] at hx; omega)))
          have nu_σ45 : NX nu nuσ45 := hnuσx.tr uσ45
          have uσ45_0 := uσ45.1 0 (by decide)
          have uσ45_1 := uσ45.1 1 (by decide)
          have uσ45_2 := uσ45.2
          have uσ45_5 := uσ45.1 5 (by decide)
          have uσ45_15 := uσ45.1 15 (by decide)
          have uσ45_16 := uσ45.1 16 (by decide)
          have uσ45_17 := uσ45.1 17 (by decide)
          have kp173 : gI σ45 b_3 1 = gI σ43 b_3 1 := (cσ45.O (kk_b_3.up (xσ36.trans (xσ37.trans (xσx.trans (xσ39.trans (xσ41.trans xσ43)))))) (by decide)).1
          have kp174 : gI σ45 b_4 8 = gI σ43 b_4 8 := (cσ45.O (kk_b_4.up (xσ36.trans (xσ37.trans (xσx.trans (xσ39.trans (xσ41.trans xσ43)))))) (by decide)).1
          have kp175 : gI σ45 b_5 6 = gI σ43 b_5 6 := (cσ45.O (mb_5.up (xσ36.trans (xσ37.trans (xσx.trans (xσ39.trans (xσ41.trans xσ43)))))) (by decide)).1
          have kp176 : gI σ45 th 10 = gI σ43 th 10 := (cσ45.O (kth.up (xσ29.trans (xσ36.trans (xσ37.trans (xσx.trans (xσ39.trans (xσ41.trans xσ43))))))) (by decide)).1
          have kp177 : gI σ45 th 12 = gI σ43 th 12 := (cσ45.O (kth.up (xσ29.trans (xσ36.trans (xσ37.trans (xσx.trans (xσ39.trans (xσ41.trans xσ43))))))) (by decide)).1
          have kp178 : gI σ45 th 16 = gI σ43 th 16 := (cσ45.O (kth.up (xσ29.trans (xσ36.trans (xσ37.trans (xσx.trans (xσ39.trans (xσ41.trans xσ43))))))) (by decide)).1
          have kp179 : gI σ45 th 17 = gI σ43 th 17 := (cσ45.O (kth.up (xσ29.trans (xσ36.trans (xσ37.trans (xσx.trans (xσ39.trans (xσ41.trans xσ43))))))) (by decide)).1
          have kp180 : gP σ45 J 0 = gP σ43 J 0 := (cσ45.O (kJ.up (xσ29.trans (xσ36.trans (xσ37.trans (xσx.trans (xσ39.trans (xσ41.trans xσ43))))))) (by decide)).2.1
          have kp181 : gP σ45 W 2 = gP σ43 W 2 := (cσ45.O (kW.up (xσ29.trans (xσ36.trans (xσ37.trans (xσx.trans (xσ39.trans (xσ41.trans xσ43))))))) (by decide)).2.1
          have kp182 : gP σ45 W 5 = gP σ43 W 5 := (cσ45.O (kW.up (xσ29.trans (xσ36.trans (xσ37.trans (xσx.trans (xσ39.trans (xσ41.trans xσ43))))))) (by decide)).2.1
          have kp183 : gP σ45 th 0 = gP σ43 th 0 := (cσ45.O (kth.up (xσ29.trans (xσ36.trans (xσ37.trans (xσx.trans (xσ39.trans (xσ41.trans xσ43))))))) (by decide)).2.1
          have kp184 : gP σ45 th 1 = gP σ43 th 1 := (cσ45.O (kth.up (xσ29.trans (xσ36.trans (xσ37.trans (xσx.trans (xσ39.trans (xσ41.trans xσ43))))))) (by decide)).2.1
          have kp185 : gP σ45 th 2 = gP σ43 th 2 := (cσ45.O (kth.up (xσ29.trans (xσ36.trans (xσ37.trans (xσx.trans (xσ39.trans (xσ41.trans xσ43))))))) (by decide)).2.1
          have kp186 : gP σ45 th 3 = gP σ43 th 3 := (cσ45.O (kth.up (xσ29.trans (xσ36.trans (xσ37.trans (xσx.trans (xσ39.trans (xσ41.trans xσ43))))))) (by decide)).2.1
          have kp187 : gP σ45 th 9 = gP σ43 th 9 := (cσ45.O (kth.up (xσ29.trans (xσ36.trans (xσ37.trans (xσx.trans (xσ39.trans (xσ41.trans xσ43))))))) (by decide)).2.1
          have o9 := iσ45.one (G := 14) (mb_6.up xσ45) (by omega) (by decide)
          rw [pσ45.1] at o9
          have o99 : Nσ45 14 = 0 := o9
          unfold w_X9_playTurn_190
          refine ⟨b_1, eb_1, fun kk_b_1_4 => ?_⟩
          have q188 := iσ45.rg b_1 8; unfold rng at q188
          have q189 := iσ29.rg b_1 8; unfold rng at q189
          exact hQ σ45 gqσx ciσx LLσ45 Nσ45 nuσ45 (wr (gI σ45 b_1 8 - (gI σ29 b_1 8))) iσ45 geσx fσ45 (nu_σ45)  (⟨rng_wr _, by omega, by omega, by omega, by omega, by omega, by omega, nzσ45, by omega⟩)
      · rw [if_neg hc40]
        have hc40q := Classical.not_not.mp hc40
        unfold w_X9_playTurn_106
        refine i_X9_actAsSource (i := (gI σ37 b_1 0).toNat) iσ37 (kth.up (xσ29.trans (xσ36.trans xσ37))) eb_1 (mb_1.up (xσ36.trans xσ37)) eb_5 (mb_5.up (xσ36.trans xσ37)) (by (first | omega | with_reducible assumption | with_reducible exact rng_toInt _ | with_reducible exact rng_wr _ | (unfold rng; omega) | (unfold rng at *; omega) | assumption)) (by (first | omega | with_reducible assumption | with_reducible exact rng_toInt _ | with_reducible exact rng_wr _ | (unfold rng; omega) | (unfold rng at *; omega) | assumption)) (kp35.trans (kp22.trans (kp5.trans hj))) (kJ.up (xσ29.trans (xσ36.trans xσ37))) (by (first | omega | with_reducible assumption | with_reducible exact rng_toInt _ | with_reducible exact rng_wr _ | (unfold rng; omega) | (unfold rng at *; omega) | assumption)) (by (first | omega | with_reducible assumption | with_reducible exact rng_toInt _ | with_reducible exact rng_wr _ | (unfold rng; omega) | (unfold rng at *; omega) | assumption)) (by (first | omega | with_reducible assumption | with_reducible exact rng_toInt _ | with_reducible exact rng_wr _ | (unfold rng; omega) | (unfold rng at *; omega) | assumption)) (by (first | omega | with_reducible assumption | with_reducible exact rng_toInt _ | with_reducible exact rng_wr _ | (unfold rng; omega) | (unfold rng at *; omega) | assumption)) (by omega) (by (first | omega | with_reducible assumption | with_reducible exact rng_toInt _ | with_reducible exact rng_wr _ | (unfold rng; omega) | (unfold rng at *; omega) | assumption)) (by (first | omega | with_reducible assumption | with_reducible exact rng_toInt _ | with_reducible exact rng_wr _ | (unfold rng; omega) | (unfold rng at *; omega) | assumption)) (by (first | omega | with_reducible assumption | with_reducible exact rng_toInt _ | with_reducible exact rng_wr _ | (unfold rng; omega) | (unfold rng at *; omega) | assumption)) (by (first | omega | with_reducible assumption | with_reducible exact rng_toInt _ | with_reducible exact rng_wr _ | (unfold rng; omega) | (unfold rng at *; omega) | assumption)) (by (first | omega | with_reducible assumption | with_reducible exact rng_toInt _ | with_reducible exact rng_wr _ | (unfold rng; omega) | (unfold rng at *; omega) | assumption)) (fun σ49 gqσ49 ciσ49 LLσ49 Nσ49 nuσ49 r50 iσ49 gσ49 cσ49 uσ49 hσ49 pσ49 => ?_) ?_
        · skip
          intro xσ49
          have fσ49 : Fx [1, 2, 3, 4, 5, 6, 7, 64, 132, 133, 134, 192, 193, 195, 196, 197, 198, 199, 200, 201, 265, 266, 512, 513, 514, 590, 591, 592, 593, 594, 640, 641, 645, 646, 647, 648, 649, 650, 651, 652, 653, 654, 655, 708, 6464, 7680] gr σ σ49 := fσ37.tr (cσ49.mo (by decide))
          have geσ49 : GE (gD σ) gq ci gqσ49 ciσ49 := geσ.tr gσ49 (fun d hd => (fσ37.1 d hd).1)
          have gl190 := gσ49 J (kJ.up (xσ29.trans (xσ36.trans xσ37))).1
          have gl191 := gσ49 W (kW.up (xσ29.trans (xσ36.trans xσ37))).1
          have gl192 := gσ49 b (mb.up (xσ36.trans xσ37)).1
          have gl193 := gσ49 b_1 (mb_1.up (xσ36.trans xσ37)).1
          have gl194 := gσ49 b_2 (mb_2.up (xσ36.trans xσ37)).1
          have gl195 := gσ49 b_5 (mb_5.up (xσ36.trans xσ37)).1
          have hnσ49 : Hn (gD σ) [3, 5, 11, 12, 13, 14, 50, 60, 61, 62, 63, 64, 65, 66, 67, 68, 69, 70, 71, 21, 22, 31, 32] [] gq LL LLσ49 N Nσ49 := hnσ37.go (hσ49.ge (fun a ha => (geσ a ha).1) (fun d hd => (fσ37.1 d hd).1)) (fun _ hd => hd) (by first | decide | exact fun _ h => h | (simp; done) | (intro x hx; simp only [List.mem_cons, List.mem_nil_iff, or_false] at hx ⊢; omega)) (fun d hd => absurd hd (by simp))
          have nσ49_44 := hσ49.2.2 44 (by first | decide | (simp; done) | (simp only [List.mem_cons, List.mem_nil_iff, or_false, not_or]; omega)) (by first | decide | omega) (by first | decide | omega) (by first | decide | omega)
          have nσ49_74 := hσ49.2.2 74 (by first | decide | (simp; done) | (simp only [List.mem_cons, List.mem_nil_iff, or_false, not_or]; omega)) (by first | decide | omega) (by first | decide | omega) (by first | decide | omega)
          have nσ49_41 := hσ49.2.2 41 (by first | decide | (simp; done) | (simp only [List.mem_cons, List.mem_nil_iff, or_false, not_or]; omega)) (by first | decide | omega) (by first | decide | omega) (by first | decide | omega)
          have nσ49_42 := hσ49.2.2 42 (by first | decide | (simp; done) | (simp only [List.mem_cons, List.mem_nil_iff, or_false, not_or]; omega)) (by first | decide | omega) (by first | decide | omega) (by first | decide | omega)
          have nu_σ49 : NU nu nuσ49 := nu_σ37.tr uσ49
          have uσ49_0 := uσ49.1 0 (by decide)
          have uσ49_1 := uσ49.1 1 (by decide)
          have uσ49_2 := uσ49.2
          have uσ49_5 := uσ49.1 5 (by decide)
          have uσ49_15 := uσ49.1 15 (by decide)
          have uσ49_16 := uσ49.1 16 (by decide)
          have uσ49_17 := uσ49.1 17 (by decide)
          have kp196 : gI σ49 b_5 6 = gI σ37 b_5 6 := (cσ49.O (mb_5.up (xσ36.trans xσ37)) (by decide)).1
          have kp197 : gI σ49 th 10 = gI σ37 th 10 := (cσ49.O (kth.up (xσ29.trans (xσ36.trans xσ37))) (by decide)).1
          have kp198 : gI σ49 th 12 = gI σ37 th 12 := (cσ49.O (kth.up (xσ29.trans (xσ36.trans xσ37))) (by decide)).1
          have kp199 : gI σ49 th 17 = gI σ37 th 17 := (cσ49.O (kth.up (xσ29.trans (xσ36.trans xσ37))) (by decide)).1
          have kp200 : gP σ49 J 0 = gP σ37 J 0 := (cσ49.O (kJ.up (xσ29.trans (xσ36.trans xσ37))) (by decide)).2.1
          have kp201 : gP σ49 W 5 = gP σ37 W 5 := (cσ49.O (kW.up (xσ29.trans (xσ36.trans xσ37))) (by decide)).2.1
          have kp202 : gP σ49 th 0 = gP σ37 th 0 := (cσ49.O (kth.up (xσ29.trans (xσ36.trans xσ37))) (by decide)).2.1
          have kp203 : gP σ49 th 1 = gP σ37 th 1 := (cσ49.O (kth.up (xσ29.trans (xσ36.trans xσ37))) (by decide)).2.1
          have kp204 : gP σ49 th 2 = gP σ37 th 2 := (cσ49.O (kth.up (xσ29.trans (xσ36.trans xσ37))) (by decide)).2.1
          have kp205 : gP σ49 th 3 = gP σ37 th 3 := (cσ49.O (kth.up (xσ29.trans (xσ36.trans xσ37))) (by decide)).2.1
          have kp206 : gP σ49 th 9 = gP σ37 th 9 := (cσ49.O (kth.up (xσ29.trans (xσ36.trans xσ37))) (by decide)).2.1
          have kp207 : gI σ49 th 16 = gI σ37 th 16 := (cσ49.O (kth.up (xσ29.trans (xσ36.trans xσ37))) (by decide)).1
          unfold w_X9_playTurn_121
          by_cases hc208 : r50 = 0
          · rw [if_pos hc208]
            unfold w_X9_playTurn_137
            unfold w_X9_playTurn_138
            intro σ51_2 eσ51_2
            have xσ51_2 : Ext σ49 σ51_2 := by rw [eσ51_2]; exact fun _ h => ⟨h, rfl, rfl⟩
            have q209 := iσ49.rg th 18; unfold rng at q209
            have iσ51_2 : IV σ51_2 pl gqσ49 ciσ49 gr nc ot LLσ49 Nσ49 nuσ49 := by rw [eσ51_2]; exact iσ49.wO (kth.up (xσ29.trans (xσ36.trans (xσ37.trans xσ49)))) (by decide) (rngb (by first | exact rng_wr _ | (first | omega | with_reducible assumption | with_reducible exact rng_toInt _ | with_reducible exact rng_wr _ | (unfold rng; omega) | (unfold rng at *; omega) | assumption)))
            have fσ51_2 : Fx [1, 2, 3, 4, 5, 6, 7, 64, 132, 133, 134, 192, 193, 195, 196, 197, 198, 199, 200, 201, 265, 266, 512, 513, 514, 590, 591, 592, 593, 594, 640, 641, 645, 646, 647, 648, 649, 650, 651, 652, 653, 654, 655, 708, 6464, 7680] gr σ σ51_2 := fσ49.tr (Sk.fx (by rw [eσ51_2]; exact Sk.pI (by rw [fcdO (kth.up (xσ29.trans (xσ36.trans (xσ37.trans xσ49)))) (by decide)]; decide)))
            have wσ51_2 : gI σ51_2 th 18 = (wr ((gI σ49 th 18) + 1)) := by rw [eσ51_2]; exact up2_s _ _ _ _
            have kp210 : gI σ51_2 b_5 6 = gI σ49 b_5 6 := by rw [eσ51_2]; exact up2_n _ _ (fun q => absurd q.2 (by decide))
            have kp211 : gI σ51_2 th 10 = gI σ49 th 10 := by rw [eσ51_2]; exact up2_n _ _ (fun q => absurd q.2 (by decide))
            have kp212 : gI σ51_2 th 12 = gI σ49 th 12 := by rw [eσ51_2]; exact up2_n _ _ (fun q => absurd q.2 (by decide))
            have kp213 : gI σ51_2 th 17 = gI σ49 th 17 := by rw [eσ51_2]; exact up2_n _ _ (fun q => absurd q.2 (by decide))
            have kp214 : gP σ51_2 J 0 = gP σ49 J 0 := by rw [eσ51_2]
            have kp215 : gP σ51_2 W 5 = gP σ49 W 5 := by rw [eσ51_2]
            have kp216 : gP σ51_2 th 0 = gP σ49 th 0 := by rw [eσ51_2]
            have kp217 : gP σ51_2 th 1 = gP σ49 th 1 := by rw [eσ51_2]
            have kp218 : gP σ51_2 th 2 = gP σ49 th 2 := by rw [eσ51_2]
            have kp219 : gP σ51_2 th 3 = gP σ49 th 3 := by rw [eσ51_2]
            have kp220 : gP σ51_2 th 9 = gP σ49 th 9 := by rw [eσ51_2]
            have kp221 : gI σ51_2 th 16 = gI σ49 th 16 := by rw [eσ51_2]; exact up2_n _ _ (fun q => absurd q.2 (by decide))
            refine i_X9_unload iσ51_2 (kth.up (xσ29.trans (xσ36.trans (xσ37.trans (xσ49.trans xσ51_2))))) eb_1 (mb_1.up (xσ36.trans (xσ37.trans (xσ49.trans xσ51_2)))) (by (first | omega | with_reducible assumption | with_reducible exact rng_toInt _ | with_reducible exact rng_wr _ | (unfold rng; omega) | (unfold rng at *; omega) | assumption)) (by (first | omega | with_reducible assumption | with_reducible exact rng_toInt _ | with_reducible exact rng_wr _ | (unfold rng; omega) | (unfold rng at *; omega) | assumption)) (fun σ52_2 LLσ52_2 Nσ52_2 nuσ52_2 r53_2 iσ52_2 cσ52_2 uσ52_2 hσ52_2 pσ52_2 => ?_)
            intro xσ52_2
            have fσ52_2 : Fx [1, 2, 3, 4, 5, 6, 7, 64, 132, 133, 134, 192, 193, 195, 196, 197, 198, 199, 200, 201, 265, 266, 512, 513, 514, 590, 591, 592, 593, 594, 640, 641, 645, 646, 647, 648, 649, 650, 651, 652, 653, 654, 655, 708, 6464, 7680] gr σ σ52_2 := fσ51_2.tr (cσ52_2.mo (by decide))
            have hnσ52_2 : Hn (gD σ) [3, 5, 11, 12, 13, 14, 50, 60, 61, 62, 63, 64, 65, 66, 67, 68, 69, 70, 71, 21, 22, 31, 32] [] gq LL LLσ52_2 N Nσ52_2 := hnσ49.go (hσ52_2.ge (fun a ha => (geσ49 a ha).1) (fun d hd => (fσ51_2.1 d hd).1)) (fun _ hd => hd) (by first | decide | exact fun _ h => h | (simp; done) | (intro x hx; simp only [List.mem_cons, List.mem_nil_iff, or_false] at hx ⊢; omega)) (fun d hd => absurd hd (by simp))
            have nσ52_2_3 := hσ52_2.2.2 3 (by first | decide | (simp; done) | (simp only [List.mem_cons, List.mem_nil_iff, or_false, not_or]; omega)) (by first | decide | omega) (by first | decide | omega) (by first | decide | omega)
            have nσ52_2_5 := hσ52_2.2.2 5 (by first | decide | (simp; done) | (simp only [List.mem_cons, List.mem_nil_iff, or_false, not_or]; omega)) (by first | decide | omega) (by first | decide | omega) (by first | decide | omega)
            have nσ52_2_14 := hσ52_2.2.2 14 (by first | decide | (simp; done) | (simp only [List.mem_cons, List.mem_nil_iff, or_false, not_or]; omega)) (by first | decide | omega) (by first | decide | omega) (by first | decide | omega)
            have nσ52_2_44 := hσ52_2.2.2 44 (by first | decide | (simp; done) | (simp only [List.mem_cons, List.mem_nil_iff, or_false, not_or]; omega)) (by first | decide | omega) (by first | decide | omega) (by first | decide | omega)
            have nσ52_2_74 := hσ52_2.2.2 74 (by first | decide | (simp; done) | (simp only [List.mem_cons, List.mem_nil_iff, or_false, not_or]; omega)) (by first | decide | omega) (by first | decide | omega) (by first | decide | omega)
            have nσ52_2_11 := hσ52_2.2.2 11 (by first | decide | (simp; done) | (simp only [List.mem_cons, List.mem_nil_iff, or_false, not_or]; omega)) (by first | decide | omega) (by first | decide | omega) (by first | decide | omega)
            have nσ52_2_12 := hσ52_2.2.2 12 (by first | decide | (simp; done) | (simp only [List.mem_cons, List.mem_nil_iff, or_false, not_or]; omega)) (by first | decide | omega) (by first | decide | omega) (by first | decide | omega)
            have nσ52_2_41 := hσ52_2.2.2 41 (by first | decide | (simp; done) | (simp only [List.mem_cons, List.mem_nil_iff, or_false, not_or]; omega)) (by first | decide | omega) (by first | decide | omega) (by first | decide | omega)
            have nσ52_2_42 := hσ52_2.2.2 42 (by first | decide | (simp; done) | (simp only [List.mem_cons, List.mem_nil_iff, or_false, not_or]; omega)) (by first | decide | omega) (by first | decide | omega) (by first | decide | omega)
            have nu_σ52_2 : NU nu nuσ52_2 := nu_σ49.tr uσ52_2
            have uσ52_2_0 := uσ52_2.1 0 (by decide)
            have uσ52_2_1 := uσ52_2.1 1 (by decide)
            have uσ52_2_2 := uσ52_2.2
            have uσ52_2_5 := uσ52_2.1 5 (by decide)
            have uσ52_2_15 := uσ52_2.1 15 (by decide)
            have uσ52_2_16 := uσ52_2.1 16 (by decide)
            have uσ52_2_17 := uσ52_2.1 17 (by decide)
            have kp222 : gI σ52_2 b_5 6 = gI σ51_2 b_5 6 := (cσ52_2.O (mb_5.up (xσ36.trans (xσ37.trans (xσ49.trans xσ51_2)))) (by decide)).1
            have kp223 : gI σ52_2 th 10 = gI σ51_2 th 10 := (cσ52_2.O (kth.up (xσ29.trans (xσ36.trans (xσ37.trans (xσ49.trans xσ51_2))))) (by decide)).1
            have kp224 : gI σ52_2 th 12 = gI σ51_2 th 12 := (cσ52_2.O (kth.up (xσ29.trans (xσ36.trans (xσ37.trans (xσ49.trans xσ51_2))))) (by decide)).1
            have kp225 : gI σ52_2 th 17 = gI σ51_2 th 17 := (cσ52_2.O (kth.up (xσ29.trans (xσ36.trans (xσ37.trans (xσ49.trans xσ51_2))))) (by decide)).1
            have kp226 : gI σ52_2 th 18 = gI σ51_2 th 18 := (cσ52_2.O (kth.up (xσ29.trans (xσ36.trans (xσ37.trans (xσ49.trans xσ51_2))))) (by decide)).1
            have kp227 : gP σ52_2 J 0 = gP σ51_2 J 0 := (cσ52_2.O (kJ.up (xσ29.trans (xσ36.trans (xσ37.trans (xσ49.trans xσ51_2))))) (by decide)).2.1
            have kp228 : gP σ52_2 W 5 = gP σ51_2 W 5 := (cσ52_2.O (kW.up (xσ29.trans (xσ36.trans (xσ37.trans (xσ49.trans xσ51_2))))) (by decide)).2.1
            have kp229 : gP σ52_2 th 0 = gP σ51_2 th 0 := (cσ52_2.O (kth.up (xσ29.trans (xσ36.trans (xσ37.trans (xσ49.trans xσ51_2))))) (by decide)).2.1
            have kp230 : gP σ52_2 th 1 = gP σ51_2 th 1 := (cσ52_2.O (kth.up (xσ29.trans (xσ36.trans (xσ37.trans (xσ49.trans xσ51_2))))) (by decide)).2.1
            have kp231 : gP σ52_2 th 2 = gP σ51_2 th 2 := (cσ52_2.O (kth.up (xσ29.trans (xσ36.trans (xσ37.trans (xσ49.trans xσ51_2))))) (by decide)).2.1
            have kp232 : gP σ52_2 th 3 = gP σ51_2 th 3 := (cσ52_2.O (kth.up (xσ29.trans (xσ36.trans (xσ37.trans (xσ49.trans xσ51_2))))) (by decide)).2.1
            have kp233 : gP σ52_2 th 9 = gP σ51_2 th 9 := (cσ52_2.O (kth.up (xσ29.trans (xσ36.trans (xσ37.trans (xσ49.trans xσ51_2))))) (by decide)).2.1
            have kp234 : gI σ52_2 th 16 = gI σ51_2 th 16 := (cσ52_2.O (kth.up (xσ29.trans (xσ36.trans (xσ37.trans (xσ49.trans xσ51_2))))) (by decide)).1
            unfold w_X9_playTurn_148
            unfold w_X9_playTurn_190
            refine ⟨b_1, eb_1, fun kk_b_1_5 => ?_⟩
            have q235 := iσ52_2.rg b_1 8; unfold rng at q235
            have q236 := iσ29.rg b_1 8; unfold rng at q236
            exact hQ σ52_2 gqσ49 ciσ49 LLσ52_2 Nσ52_2 nuσ52_2 (wr (gI σ52_2 b_1 8 - (gI σ29 b_1 8))) iσ52_2 geσ49 fσ52_2 (nu_σ52_2.nx)  (⟨rng_wr _, by omega, by omega, by omega, by omega, by omega, by omega, (Hn.nz hnσ52_2 (by first | decide | (intro x hx; simp only [List.mem_cons, List.mem_nil_iff, or_false] at hx; omega))), by omega⟩)
          · rw [if_neg hc208]
            unfold w_X9_playTurn_133
            unfold w_X9_playTurn_138
            intro σ51_3 eσ51_3
            have xσ51_3 : Ext σ49 σ51_3 := by rw [eσ51_3]; exact fun _ h => ⟨h, rfl, rfl⟩
            have q237 := iσ49.rg th 18; unfold rng at q237
            have iσ51_3 : IV σ51_3 pl gqσ49 ciσ49 gr nc ot LLσ49 Nσ49 nuσ49 := by rw [eσ51_3]; exact iσ49.wO (kth.up (xσ29.trans (xσ36.trans (xσ37.trans xσ49)))) (by decide) (rngb (by first | exact rng_wr _ | (first | omega | with_reducible assumption | with_reducible exact rng_toInt _ | with_reducible exact rng_wr _ | (unfold rng; omega) | (unfold rng at *; omega) | assumption)))
            have fσ51_3 : Fx [1, 2, 3, 4, 5, 6, 7, 64, 132, 133, 134, 192, 193, 195, 196, 197, 198, 199, 200, 201, 265, 266, 512, 513, 514, 590, 591, 592, 593, 594, 640, 641, 645, 646, 647, 648, 649, 650, 651, 652, 653, 654, 655, 708, 6464, 7680] gr σ σ51_3 := fσ49.tr (Sk.fx (by rw [eσ51_3]; exact Sk.pI (by rw [fcdO (kth.up (xσ29.trans (xσ36.trans (xσ37.trans xσ49)))) (by decide)]; decide)))
            have wσ51_3 : gI σ51_3 th 18 = (wr ((gI σ49 th 18) + 0)) := by rw [eσ51_3]; exact up2_s _ _ _ _
            have kp238 : gI σ51_3 b_5 6 = gI σ49 b_5 6 := by rw [eσ51_3]; exact up2_n _ _ (fun q => absurd q.2 (by decide))
            have kp239 : gI σ51_3 th 10 = gI σ49 th 10 := by rw [eσ51_3]; exact up2_n _ _ (fun q => absurd q.2 (by decide))
            have kp240 : gI σ51_3 th 12 = gI σ49 th 12 := by rw [eσ51_3]; exact up2_n _ _ (fun q => absurd q.2 (by decide))
            have kp241 : gI σ51_3 th 17 = gI σ49 th 17 := by rw [eσ51_3]; exact up2_n _ _ (fun q => absurd q.2 (by decide))
            have kp242 : gP σ51_3 J 0 = gP σ49 J 0 := by rw [eσ51_3]
            have kp243 : gP σ51_3 W 5 = gP σ49 W 5 := by rw [eσ51_3]
            have kp244 : gP σ51_3 th 0 = gP σ49 th 0 := by rw [eσ51_3]
            have kp245 : gP σ51_3 th 1 = gP σ49 th 1 := by rw [eσ51_3]
            have kp246 : gP σ51_3 th 2 = gP σ49 th 2 := by rw [eσ51_3]
            have kp247 : gP σ51_3 th 3 = gP σ49 th 3 := by rw [eσ51_3]
            have kp248 : gP σ51_3 th 9 = gP σ49 th 9 := by rw [eσ51_3]
            have kp249 : gI σ51_3 th 16 = gI σ49 th 16 := by rw [eσ51_3]; exact up2_n _ _ (fun q => absurd q.2 (by decide))
            refine i_X9_unload iσ51_3 (kth.up (xσ29.trans (xσ36.trans (xσ37.trans (xσ49.trans xσ51_3))))) eb_1 (mb_1.up (xσ36.trans (xσ37.trans (xσ49.trans xσ51_3)))) (by (first | omega | with_reducible assumption | with_reducible exact rng_toInt _ | with_reducible exact rng_wr _ | (unfold rng; omega) | (unfold rng at *; omega) | assumption)) (by (first | omega | with_reducible assumption | with_reducible exact rng_toInt _ | with_reducible exact rng_wr _ | (unfold rng; omega) | (unfold rng at *; omega) | assumption)) (fun σ52_3 LLσ52_3 Nσ52_3 nuσ52_3 r53_3 iσ52_3 cσ52_3 uσ52_3 hσ52_3 pσ52_3 => ?_)
            intro xσ52_3
            have fσ52_3 : Fx [1, 2, 3, 4, 5, 6, 7, 64, 132, 133, 134, 192, 193, 195, 196, 197, 198, 199, 200, 201, 265, 266, 512, 513, 514, 590, 591, 592, 593, 594, 640, 641, 645, 646, 647, 648, 649, 650, 651, 652, 653, 654, 655, 708, 6464, 7680] gr σ σ52_3 := fσ51_3.tr (cσ52_3.mo (by decide))
            have hnσ52_3 : Hn (gD σ) [3, 5, 11, 12, 13, 14, 50, 60, 61, 62, 63, 64, 65, 66, 67, 68, 69, 70, 71, 21, 22, 31, 32] [] gq LL LLσ52_3 N Nσ52_3 := hnσ49.go (hσ52_3.ge (fun a ha => (geσ49 a ha).1) (fun d hd => (fσ51_3.1 d hd).1)) (fun _ hd => hd) (by first | decide | exact fun _ h => h | (simp; done) | (intro x hx; simp only [List.mem_cons, List.mem_nil_iff, or_false] at hx ⊢; omega)) (fun d hd => absurd hd (by simp))
            have nσ52_3_3 := hσ52_3.2.2 3 (by first | decide | (simp; done) | (simp only [List.mem_cons, List.mem_nil_iff, or_false, not_or]; omega)) (by first | decide | omega) (by first | decide | omega) (by first | decide | omega)
            have nσ52_3_5 := hσ52_3.2.2 5 (by first | decide | (simp; done) | (simp only [List.mem_cons, List.mem_nil_iff, or_false, not_or]; omega)) (by first | decide | omega) (by first | decide | omega) (by first | decide | omega)
            have nσ52_3_14 := hσ52_3.2.2 14 (by first | decide | (simp; done) | (simp only [List.mem_cons, List.mem_nil_iff, or_false, not_or]; omega)) (by first | decide | omega) (by first | decide | omega) (by first | decide | omega)
            have nσ52_3_44 := hσ52_3.2.2 44 (by first | decide | (simp; done) | (simp only [List.mem_cons, List.mem_nil_iff, or_false, not_or]; omega)) (by first | decide | omega) (by first | decide | omega) (by first | decide | omega)
            have nσ52_3_74 := hσ52_3.2.2 74 (by first | decide | (simp; done) | (simp only [List.mem_cons, List.mem_nil_iff, or_false, not_or]; omega)) (by first | decide | omega) (by first | decide | omega) (by first | decide | omega)
            have nσ52_3_11 := hσ52_3.2.2 11 (by first | decide | (simp; done) | (simp only [List.mem_cons, List.mem_nil_iff, or_false, not_or]; omega)) (by first | decide | omega) (by first | decide | omega) (by first | decide | omega)
            have nσ52_3_12 := hσ52_3.2.2 12 (by first | decide | (simp; done) | (simp only [List.mem_cons, List.mem_nil_iff, or_false, not_or]; omega)) (by first | decide | omega) (by first | decide | omega) (by first | decide | omega)
            have nσ52_3_41 := hσ52_3.2.2 41 (by first | decide | (simp; done) | (simp only [List.mem_cons, List.mem_nil_iff, or_false, not_or]; omega)) (by first | decide | omega) (by first | decide | omega) (by first | decide | omega)
            have nσ52_3_42 := hσ52_3.2.2 42 (by first | decide | (simp; done) | (simp only [List.mem_cons, List.mem_nil_iff, or_false, not_or]; omega)) (by first | decide | omega) (by first | decide | omega) (by first | decide | omega)
            have nu_σ52_3 : NU nu nuσ52_3 := nu_σ49.tr uσ52_3
            have uσ52_3_0 := uσ52_3.1 0 (by decide)
            have uσ52_3_1 := uσ52_3.1 1 (by decide)
            have uσ52_3_2 := uσ52_3.2
            have uσ52_3_5 := uσ52_3.1 5 (by decide)
            have uσ52_3_15 := uσ52_3.1 15 (by decide)
            have uσ52_3_16 := uσ52_3.1 16 (by decide)
            have uσ52_3_17 := uσ52_3.1 17 (by decide)
            have kp250 : gI σ52_3 b_5 6 = gI σ51_3 b_5 6 := (cσ52_3.O (mb_5.up (xσ36.trans (xσ37.trans (xσ49.trans xσ51_3)))) (by decide)).1
            have kp251 : gI σ52_3 th 10 = gI σ51_3 th 10 := (cσ52_3.O (kth.up (xσ29.trans (xσ36.trans (xσ37.trans (xσ49.trans xσ51_3))))) (by decide)).1
            have kp252 : gI σ52_3 th 12 = gI σ51_3 th 12 := (cσ52_3.O (kth.up (xσ29.trans (xσ36.trans (xσ37.trans (xσ49.trans xσ51_3))))) (by decide)).1
            have kp253 : gI σ52_3 th 17 = gI σ51_3 th 17 := (cσ52_3.O (kth.up (xσ29.trans (xσ36.trans (xσ37.trans (xσ49.trans xσ51_3))))) (by decide)).1
            have kp254 : gI σ52_3 th 18 = gI σ51_3 th 18 := (cσ52_3.O (kth.up (xσ29.trans (xσ36.trans (xσ37.trans (xσ49.trans xσ51_3))))) (by decide)).1
            have kp255 : gP σ52_3 J 0 = gP σ51_3 J 0 := (cσ52_3.O (kJ.up (xσ29.trans (xσ36.trans (xσ37.trans (xσ49.trans xσ51_3))))) (by decide)).2.1
            have kp256 : gP σ52_3 W 5 = gP σ51_3 W 5 := (cσ52_3.O (kW.up (xσ29.trans (xσ36.trans (xσ37.trans (xσ49.trans xσ51_3))))) (by decide)).2.1
            have kp257 : gP σ52_3 th 0 = gP σ51_3 th 0 := (cσ52_3.O (kth.up (xσ29.trans (xσ36.trans (xσ37.trans (xσ49.trans xσ51_3))))) (by decide)).2.1
            have kp258 : gP σ52_3 th 1 = gP σ51_3 th 1 := (cσ52_3.O (kth.up (xσ29.trans (xσ36.trans (xσ37.trans (xσ49.trans xσ51_3))))) (by decide)).2.1
            have kp259 : gP σ52_3 th 2 = gP σ51_3 th 2 := (cσ52_3.O (kth.up (xσ29.trans (xσ36.trans (xσ37.trans (xσ49.trans xσ51_3))))) (by decide)).2.1
            have kp260 : gP σ52_3 th 3 = gP σ51_3 th 3 := (cσ52_3.O (kth.up (xσ29.trans (xσ36.trans (xσ37.trans (xσ49.trans xσ51_3))))) (by decide)).2.1
            have kp261 : gP σ52_3 th 9 = gP σ51_3 th 9 := (cσ52_3.O (kth.up (xσ29.trans (xσ36.trans (xσ37.trans (xσ49.trans xσ51_3))))) (by decide)).2.1
            have kp262 : gI σ52_3 th 16 = gI σ51_3 th 16 := (cσ52_3.O (kth.up (xσ29.trans (xσ36.trans (xσ37.trans (xσ49.trans xσ51_3))))) (by decide)).1
            unfold w_X9_playTurn_148
            unfold w_X9_playTurn_190
            refine ⟨b_1, eb_1, fun kk_b_1_6 => ?_⟩
            have q263 := iσ52_3.rg b_1 8; unfold rng at q263
            have q264 := iσ29.rg b_1 8; unfold rng at q264
            exact hQ σ52_3 gqσ49 ciσ49 LLσ52_3 Nσ52_3 nuσ52_3 (wr (gI σ52_3 b_1 8 - (gI σ29 b_1 8))) iσ52_3 geσ49 fσ52_3 (nu_σ52_3.nx)  (⟨rng_wr _, by omega, by omega, by omega, by omega, by omega, by omega, (Hn.nz hnσ52_3 (by first | decide | (intro x hx; simp only [List.mem_cons, List.mem_nil_iff, or_false] at hx; omega))), by omega⟩)
        · intro σx_1 gqσx_1 ciσx_1 LLσx_1 Nσx_1 nuσx_1 Eσx_1 iσx_1 gσx_1 cσx_1 uσx_1 pσx_1 xσx_1
          unfold wx_X9_playTurn_151
          refine ⟨by first | exact pσx_1 | exact pσx_1.1 | exact pσx_1.2 | exact pσx_1.2.2.1 | exact pσx_1.2.2 | (first | omega | with_reducible assumption | with_reducible exact rng_toInt _ | with_reducible exact rng_wr _ | (unfold rng; omega) | (unfold rng at *; omega) | assumption), fun u0 => ?_⟩
          have hnuσx_1 : NX nu nuσx_1 := nu_σ37.x uσx_1
          have ux2σx_1 := hnuσx_1.2.1
          have ux5σx_1 := hnuσx_1.2.2
          have ux15σx_1 := hnuσx_1.1 15 (by decide)
          have ux16σx_1 := hnuσx_1.1 16 (by decide)
          have nzσx_1 : NZ N Nσx_1 := NZ.tr (Hn.nz hnσ37 (by first | decide | (intro x hx; simp only [List.mem_cons, List.mem_nil_iff, or_false] at hx; omega))) pσx_1.2.1
          have geσx_1 : GE (gD σ) gq ci gqσx_1 ciσx_1 := geσ.tr gσx_1 (fun d hd => (fσ37.1 d hd).1)
          have gl265 := gσx_1 J (kJ.up (xσ29.trans (xσ36.trans xσ37))).1
          have gl266 := gσx_1 W (kW.up (xσ29.trans (xσ36.trans xσ37))).1
          have gl267 := gσx_1 b (mb.up (xσ36.trans xσ37)).1
          have gl268 := gσx_1 b_1 (mb_1.up (xσ36.trans xσ37)).1
          have gl269 := gσx_1 b_2 (mb_2.up (xσ36.trans xσ37)).1
          have gl270 := gσx_1 b_5 (mb_5.up (xσ36.trans xσ37)).1
          have fσx_1 : Fx [1, 2, 3, 4, 5, 6, 7, 64, 132, 133, 134, 192, 193, 195, 196, 197, 198, 199, 200, 201, 265, 266, 512, 513, 514, 590, 591, 592, 593, 594, 640, 641, 645, 646, 647, 648, 649, 650, 651, 652, 653, 654, 655, 708, 6464, 7680] gr σ σx_1 := fσ37.tr (cσx_1.mo (by decide))
          have kp271 : gI σx_1 b_5 6 = gI σ37 b_5 6 := (cσx_1.O (mb_5.up (xσ36.trans xσ37)) (by decide)).1
          have kp272 : gI σx_1 th 10 = gI σ37 th 10 := (cσx_1.O (kth.up (xσ29.trans (xσ36.trans xσ37))) (by decide)).1
          have kp273 : gI σx_1 th 12 = gI σ37 th 12 := (cσx_1.O (kth.up (xσ29.trans (xσ36.trans xσ37))) (by decide)).1
          have kp274 : gI σx_1 th 17 = gI σ37 th 17 := (cσx_1.O (kth.up (xσ29.trans (xσ36.trans xσ37))) (by decide)).1
          have kp275 : gP σx_1 J 0 = gP σ37 J 0 := (cσx_1.O (kJ.up (xσ29.trans (xσ36.trans xσ37))) (by decide)).2.1
          have kp276 : gP σx_1 W 5 = gP σ37 W 5 := (cσx_1.O (kW.up (xσ29.trans (xσ36.trans xσ37))) (by decide)).2.1
          have kp277 : gP σx_1 th 0 = gP σ37 th 0 := (cσx_1.O (kth.up (xσ29.trans (xσ36.trans xσ37))) (by decide)).2.1
          have kp278 : gP σx_1 th 1 = gP σ37 th 1 := (cσx_1.O (kth.up (xσ29.trans (xσ36.trans xσ37))) (by decide)).2.1
          have kp279 : gP σx_1 th 2 = gP σ37 th 2 := (cσx_1.O (kth.up (xσ29.trans (xσ36.trans xσ37))) (by decide)).2.1
          have kp280 : gP σx_1 th 3 = gP σ37 th 3 := (cσx_1.O (kth.up (xσ29.trans (xσ36.trans xσ37))) (by decide)).2.1
          have kp281 : gP σx_1 th 9 = gP σ37 th 9 := (cσx_1.O (kth.up (xσ29.trans (xσ36.trans xσ37))) (by decide)).2.1
          have kp282 : gI σx_1 th 16 = gI σ37 th 16 := (cσx_1.O (kth.up (xσ29.trans (xσ36.trans xσ37))) (by decide)).1
          unfold w_X9_playTurn_151
          intro σ39_1 eσ39_1
          have xσ39_1 : Ext σx_1 σ39_1 := by rw [eσ39_1]; exact fun _ h => ⟨h, rfl, rfl⟩
          have iσ39_1 : IV σ39_1 pl gqσx_1 ciσx_1 gr nc ot LLσx_1 Nσx_1 nuσx_1 := by rw [eσ39_1]; exact iσx_1.wO (kth.up (xσ29.trans (xσ36.trans (xσ37.trans xσx_1)))) (by decide) (show (0 : Int) ≤ 1 ∧ 1 ≤ 1 from ⟨by (first | omega | with_reducible assumption | with_reducible exact rng_toInt _ | with_reducible exact rng_wr _ | (unfold rng; omega) | (unfold rng at *; omega) | assumption), by (first | omega | with_reducible assumption | with_reducible exact rng_toInt _ | with_reducible exact rng_wr _ | (unfold rng; omega) | (unfold rng at *; omega) | assumption)⟩)
          have fσ39_1 : Fx [1, 2, 3, 4, 5, 6, 7, 64, 132, 133, 134, 192, 193, 195, 196, 197, 198, 199, 200, 201, 265, 266, 512, 513, 514, 590, 591, 592, 593, 594, 640, 641, 645, 646, 647, 648, 649, 650, 651, 652, 653, 654, 655, 708, 6464, 7680] gr σ σ39_1 := fσx_1.tr (Sk.fx (by rw [eσ39_1]; exact Sk.pI (by rw [fcdO (kth.up (xσ29.trans (xσ36.trans (xσ37.trans xσx_1)))) (by decide)]; decide)))
          have wσ39_1 : gI σ39_1 th 16 = 1 := by rw [eσ39_1]; exact up2_s _ _ _ _
          have kp283 : gI σ39_1 b_5 6 = gI σx_1 b_5 6 := by rw [eσ39_1]; exact up2_n _ _ (fun q => absurd q.2 (by decide))
          have kp284 : gI σ39_1 th 10 = gI σx_1 th 10 := by rw [eσ39_1]; exact up2_n _ _ (fun q => absurd q.2 (by decide))
          have kp285 : gI σ39_1 th 12 = gI σx_1 th 12 := by rw [eσ39_1]; exact up2_n _ _ (fun q => absurd q.2 (by decide))
          have kp286 : gI σ39_1 th 17 = gI σx_1 th 17 := by rw [eσ39_1]; exact up2_n _ _ (fun q => absurd q.2 (by decide))
          have kp287 : gP σ39_1 J 0 = gP σx_1 J 0 := by rw [eσ39_1]
          have kp288 : gP σ39_1 W 5 = gP σx_1 W 5 := by rw [eσ39_1]
          have kp289 : gP σ39_1 th 0 = gP σx_1 th 0 := by rw [eσ39_1]
          have kp290 : gP σ39_1 th 1 = gP σx_1 th 1 := by rw [eσ39_1]
          have kp291 : gP σ39_1 th 2 = gP σx_1 th 2 := by rw [eσ39_1]
          have kp292 : gP σ39_1 th 3 = gP σx_1 th 3 := by rw [eσ39_1]
          have kp293 : gP σ39_1 th 9 = gP σx_1 th 9 := by rw [eσ39_1]
          refine ⟨b_3, (kp289.trans (kp277.trans (kp31.trans (kp18.trans eb_3)))), fun kk_b_3_3 => ?_⟩
          intro σ41_1 eσ41_1
          have xσ41_1 : Ext σ39_1 σ41_1 := by rw [eσ41_1]; exact fun _ h => ⟨h, rfl, rfl⟩
          have q294 := I_8_1 iσ29.1 kk_b_3
          have iσ41_1 : IV σ41_1 pl gqσx_1 ciσx_1 gr nc ot LLσx_1 Nσx_1 nuσx_1 := by rw [eσ41_1]; exact iσ39_1.wO (kk_b_3.up (xσ36.trans (xσ37.trans (xσx_1.trans xσ39_1)))) (by decide) (show (0 : Int) ≤ (gI σ29 b_3 1) ∧ (gI σ29 b_3 1) ≤ (nuσx_1 2 : Int) from ⟨by (first | omega | with_reducible assumption | with_reducible exact rng_toInt _ | with_reducible exact rng_wr _ | (unfold rng; omega) | (unfold rng at *; omega) | assumption), by (first | omega | with_reducible assumption | with_reducible exact rng_toInt _ | with_reducible exact rng_wr _ | (unfold rng; omega) | (unfold rng at *; omega) | assumption)⟩)
          have fσ41_1 : Fx [1, 2, 3, 4, 5, 6, 7, 64, 132, 133, 134, 192, 193, 195, 196, 197, 198, 199, 200, 201, 265, 266, 512, 513, 514, 590, 591, 592, 593, 594, 640, 641, 645, 646, 647, 648, 649, 650, 651, 652, 653, 654, 655, 708, 6464, 7680] gr σ σ41_1 := fσ39_1.tr (Sk.fx (by rw [eσ41_1]; exact Sk.pI (by rw [fcdO (kk_b_3.up (xσ36.trans (xσ37.trans (xσx_1.trans xσ39_1)))) (by decide)]; decide)))
          have wσ41_1 : gI σ41_1 b_3 1 = (gI σ29 b_3 1) := by rw [eσ41_1]; exact up2_s _ _ _ _
          have kp295 : gI σ41_1 b_5 6 = gI σ39_1 b_5 6 := by rw [eσ41_1]; exact up2_n _ _ (fun q => absurd q.2 (by decide))
          have kp296 : gI σ41_1 th 10 = gI σ39_1 th 10 := by rw [eσ41_1]; exact up2_n _ _ (fun q => absurd q.2 (by decide))
          have kp297 : gI σ41_1 th 12 = gI σ39_1 th 12 := by rw [eσ41_1]; exact up2_n _ _ (fun q => absurd q.2 (by decide))
          have kp298 : gI σ41_1 th 16 = gI σ39_1 th 16 := by rw [eσ41_1]; exact up2_n _ _ (fun q => absurd q.2 (by decide))
          have kp299 : gI σ41_1 th 17 = gI σ39_1 th 17 := by rw [eσ41_1]; exact up2_n _ _ (fun q => absurd q.2 (by decide))
          have kp300 : gP σ41_1 J 0 = gP σ39_1 J 0 := by rw [eσ41_1]
          have kp301 : gP σ41_1 W 5 = gP σ39_1 W 5 := by rw [eσ41_1]
          have kp302 : gP σ41_1 th 0 = gP σ39_1 th 0 := by rw [eσ41_1]
          have kp303 : gP σ41_1 th 1 = gP σ39_1 th 1 := by rw [eσ41_1]
          have kp304 : gP σ41_1 th 2 = gP σ39_1 th 2 := by rw [eσ41_1]
          have kp305 : gP σ41_1 th 3 = gP σ39_1 th 3 := by rw [eσ41_1]
          have kp306 : gP σ41_1 th 9 = gP σ39_1 th 9 := by rw [eσ41_1]
          refine ⟨b_4, (kp304.trans (kp291.trans (kp279.trans (kp33.trans (kp20.trans eb_4))))), fun kk_b_4_2 => ?_⟩
          intro σ43_1 eσ43_1
          have xσ43_1 : Ext σ41_1 σ43_1 := by rw [eσ43_1]; exact fun _ h => ⟨h, rfl, rfl⟩
          have q307 := iσ29.rg b_4 8; unfold rng at q307
          have iσ43_1 : IV σ43_1 pl gqσx_1 ciσx_1 gr nc ot LLσx_1 Nσx_1 nuσx_1 := by rw [eσ43_1]; exact iσ41_1.wO (kk_b_4.up (xσ36.trans (xσ37.trans (xσx_1.trans (xσ39_1.trans xσ41_1))))) (by decide) (rngb (by first | exact rng_wr _ | (first | omega | with_reducible assumption | with_reducible exact rng_toInt _ | with_reducible exact rng_wr _ | (unfold rng; omega) | (unfold rng at *; omega) | assumption)))
          have fσ43_1 : Fx [1, 2, 3, 4, 5, 6, 7, 64, 132, 133, 134, 192, 193, 195, 196, 197, 198, 199, 200, 201, 265, 266, 512, 513, 514, 590, 591, 592, 593, 594, 640, 641, 645, 646, 647, 648, 649, 650, 651, 652, 653, 654, 655, 708, 6464, 7680] gr σ σ43_1 := fσ41_1.tr (Sk.fx (by rw [eσ43_1]; exact Sk.pI (by rw [fcdO (kk_b_4.up (xσ36.trans (xσ37.trans (xσx_1.trans (xσ39_1.trans xσ41_1))))) (by decide)]; decide)))
          have wσ43_1 : gI σ43_1 b_4 8 = (gI σ29 b_4 8) := by rw [eσ43_1]; exact up2_s _ _ _ _
          have kp308 : gI σ43_1 b_3 1 = gI σ41_1 b_3 1 := by rw [eσ43_1]; exact up2_n _ _ (fun q => absurd q.2 (by decide))
          have kp309 : gI σ43_1 b_5 6 = gI σ41_1 b_5 6 := by rw [eσ43_1]; exact up2_n _ _ (fun q => absurd q.2 (by decide))
          have kp310 : gI σ43_1 th 10 = gI σ41_1 th 10 := by rw [eσ43_1]; exact up2_n _ _ (fun q => absurd q.2 (by decide))
          have kp311 : gI σ43_1 th 12 = gI σ41_1 th 12 := by rw [eσ43_1]; exact up2_n _ _ (fun q => absurd q.2 (by decide))
          have kp312 : gI σ43_1 th 16 = gI σ41_1 th 16 := by rw [eσ43_1]; exact up2_n _ _ (fun q => absurd q.2 (by decide))
          have kp313 : gI σ43_1 th 17 = gI σ41_1 th 17 := by rw [eσ43_1]; exact up2_n _ _ (fun q => absurd q.2 (by decide))
          have kp314 : gP σ43_1 J 0 = gP σ41_1 J 0 := by rw [eσ43_1]
          have kp315 : gP σ43_1 W 5 = gP σ41_1 W 5 := by rw [eσ43_1]
          have kp316 : gP σ43_1 th 0 = gP σ41_1 th 0 := by rw [eσ43_1]
          have kp317 : gP σ43_1 th 1 = gP σ41_1 th 1 := by rw [eσ43_1]
          have kp318 : gP σ43_1 th 2 = gP σ41_1 th 2 := by rw [eσ43_1]
          have kp319 : gP σ43_1 th 3 = gP σ41_1 th 3 := by rw [eσ43_1]
          have kp320 : gP σ43_1 th 9 = gP σ41_1 th 9 := by rw [eσ43_1]
          refine ⟨W, (kp317.trans (kp303.trans (kp290.trans (kp278.trans (kp32.trans (kp19.trans (kp4.trans hw))))))), fun kk_W_1 => ?_⟩
          refine ⟨b_3, (kp316.trans (kp302.trans (kp289.trans (kp277.trans (kp31.trans (kp18.trans eb_3)))))), fun kk_b_3_4 => ?_⟩
          obtain ⟨b_7, eb_7, fb_7⟩ := P_11_2 iσ43_1.1 (kW.up (xσ29.trans (xσ36.trans (xσ37.trans (xσx_1.trans (xσ39_1.trans (xσ41_1.trans xσ43_1)))))))
          have mb_7 : kO σ43_1 b_7 1 := iσ43_1.1.kd (kW.up (xσ29.trans (xσ36.trans (xσ37.trans (xσx_1.trans (xσ39_1.trans (xσ41_1.trans xσ43_1))))))) rfl eb_7 rfl
          refine i_X8_releaseAll (G0 := 14) iσ43_1 (kk_b_3.up (xσ36.trans (xσ37.trans (xσx_1.trans (xσ39_1.trans (xσ41_1.trans xσ43_1)))))) eb_7 mb_7 (by omega) (by decide) (fun σ45_1 LLσ45_1 Nσ45_1 nuσ45_1 _ iσ45_1 cσ45_1 uσ45_1 hσ45_1 pσ45_1 => ?_)
          intro xσ45_1
          have fσ45_1 : Fx [1, 2, 3, 4, 5, 6, 7, 64, 132, 133, 134, 192, 193, 195, 196, 197, 198, 199, 200, 201, 265, 266, 512, 513, 514, 590, 591, 592, 593, 594, 640, 641, 645, 646, 647, 648, 649, 650, 651, 652, 653, 654, 655, 708, 6464, 7680] gr σ σ45_1 := fσ43_1.tr (cσ45_1.mo (by decide))
          have nσ45_1_3 := hσ45_1.2.2 3 (by first | decide | (simp; done) | (simp only [List.mem_cons, List.mem_nil_iff, or_false, not_or]; omega)) (by first | decide | omega) (by first | decide | omega) (by first | decide | omega)
          have nσ45_1_5 := hσ45_1.2.2 5 (by first | decide | (simp; done) | (simp only [List.mem_cons, List.mem_nil_iff, or_false, not_or]; omega)) (by first | decide | omega) (by first | decide | omega) (by first | decide | omega)
          have nσ45_1_44 := hσ45_1.2.2 44 (by first | decide | (simp; done) | (simp only [List.mem_cons, List.mem_nil_iff, or_false, not_or]; omega)) (by first | decide | omega) (by first | decide | omega) (by first | decide | omega)
          have nσ45_1_74 := hσ45_1.2.2 74 (by first | decide | (simp; done) | (simp only [List.mem_cons, List.mem_nil_iff, or_false, not_or]; omega)) (by first | decide | omega) (by first | decide | omega) (by first | decide | omega)
          have nσ45_1_11 := hσ45_1.2.2 11 (by first | decide | (simp; done) | (simp only [List.mem_cons, List.mem_nil_iff, or_false, not_or]; omega)) (by first | decide | omega) (by first | decide | omega) (by first | decide | omega)
          have nσ45_1_12 := hσ45_1.2.2 12 (by first | decide | (simp; done) | (simp only [List.mem_cons, List.mem_nil_iff, or_false, not_or]; omega)) (by first | decide | omega) (by first | decide | omega) (by first | decide | omega)
          have nσ45_1_41 := hσ45_1.2.2 41 (by first | decide | (simp; done) | (simp only [List.mem_cons, List.mem_nil_iff, or_false, not_or]; omega)) (by first | decide | omega) (by first | decide | omega) (by first | decide | omega)
          have nσ45_1_42 := hσ45_1.2.2 42 (by first | decide | (simp; done) | (simp only [List.mem_cons, List.mem_nil_iff, or_false, not_or]; omega)) (by first | decide | omega) (by first | decide | omega) (by first | decide | omega)
          have nσ45_1_13 := hσ45_1.2.2 13 (by first | decide | (simp; done) | (simp only [List.mem_cons, List.mem_nil_iff, or_false, not_or]; omega)) (by first | decide | omega) (by first | decide | omega) (by first | decide | omega)
          have nσ45_1_50 := hσ45_1.2.2 50 (by first | decide | (simp; done) | (simp only [List.mem_cons, List.mem_nil_iff, or_false, not_or]; omega)) (by first | decide | omega) (by first | decide | omega) (by first | decide | omega)
          have nzσ45_1 : NZ N Nσ45_1 := NZ.tr nzσx_1 (Hn.nz hσ45_1 (by first | decide | (intro x hx; simp only [List.mem_cons, List.mem_nil_iff, or_false] at hx; omega)))
          have nu_σ45_1 : NX nu nuσ45_1 := hnuσx_1.tr uσ45_1
          have uσ45_1_0 := uσ45_1.1 0 (by decide)
          have uσ45_1_1 := uσ45_1.1 1 (by decide)
          have uσ45_1_2 := uσ45_1.2
          have uσ45_1_5 := uσ45_1.1 5 (by decide)
          have uσ45_1_15 := uσ45_1.1 15 (by decide)
          have uσ45_1_16 := uσ45_1.1 16 (by decide)
          have uσ45_1_17 := uσ45_1.1 17 (by decide)
          have kp321 : gI σ45_1 b_3 1 = gI σ43_1 b_3 1 := (cσ45_1.O (kk_b_3.up (xσ36.trans (xσ37.trans (xσx_1.trans (xσ39_1.trans (xσ41_1.trans xσ43_1)))))) (by decide)).1
          have kp322 : gI σ45_1 b_4 8 = gI σ43_1 b_4 8 := (cσ45_1.O (kk_b_4.up (xσ36.trans (xσ37.trans (xσx_1.trans (xσ39_1.trans (xσ41_1.trans xσ43_1)))))) (by decide)).1
          have kp323 : gI σ45_1 b_5 6 = gI σ43_1 b_5 6 := (cσ45_1.O (mb_5.up (xσ36.trans (xσ37.trans (xσx_1.trans (xσ39_1.trans (xσ41_1.trans xσ43_1)))))) (by decide)).1
          have kp324 : gI σ45_1 th 10 = gI σ43_1 th 10 := (cσ45_1.O (kth.up (xσ29.trans (xσ36.trans (xσ37.trans (xσx_1.trans (xσ39_1.trans (xσ41_1.trans xσ43_1))))))) (by decide)).1
          have kp325 : gI σ45_1 th 12 = gI σ43_1 th 12 := (cσ45_1.O (kth.up (xσ29.trans (xσ36.trans (xσ37.trans (xσx_1.trans (xσ39_1.trans (xσ41_1.trans xσ43_1))))))) (by decide)).1
          have kp326 : gI σ45_1 th 16 = gI σ43_1 th 16 := (cσ45_1.O (kth.up (xσ29.trans (xσ36.trans (xσ37.trans (xσx_1.trans (xσ39_1.trans (xσ41_1.trans xσ43_1))))))) (by decide)).1
          have kp327 : gI σ45_1 th 17 = gI σ43_1 th 17 := (cσ45_1.O (kth.up (xσ29.trans (xσ36.trans (xσ37.trans (xσx_1.trans (xσ39_1.trans (xσ41_1.trans xσ43_1))))))) (by decide)).1
          have kp328 : gP σ45_1 J 0 = gP σ43_1 J 0 := (cσ45_1.O (kJ.up (xσ29.trans (xσ36.trans (xσ37.trans (xσx_1.trans (xσ39_1.trans (xσ41_1.trans xσ43_1))))))) (by decide)).2.1
          have kp329 : gP σ45_1 W 2 = gP σ43_1 W 2 := (cσ45_1.O (kW.up (xσ29.trans (xσ36.trans (xσ37.trans (xσx_1.trans (xσ39_1.trans (xσ41_1.trans xσ43_1))))))) (by decide)).2.1
          have kp330 : gP σ45_1 W 5 = gP σ43_1 W 5 := (cσ45_1.O (kW.up (xσ29.trans (xσ36.trans (xσ37.trans (xσx_1.trans (xσ39_1.trans (xσ41_1.trans xσ43_1))))))) (by decide)).2.1
          have kp331 : gP σ45_1 th 0 = gP σ43_1 th 0 := (cσ45_1.O (kth.up (xσ29.trans (xσ36.trans (xσ37.trans (xσx_1.trans (xσ39_1.trans (xσ41_1.trans xσ43_1))))))) (by decide)).2.1
          have kp332 : gP σ45_1 th 1 = gP σ43_1 th 1 := (cσ45_1.O (kth.up (xσ29.trans (xσ36.trans (xσ37.trans (xσx_1.trans (xσ39_1.trans (xσ41_1.trans xσ43_1))))))) (by decide)).2.1
          have kp333 : gP σ45_1 th 2 = gP σ43_1 th 2 := (cσ45_1.O (kth.up (xσ29.trans (xσ36.trans (xσ37.trans (xσx_1.trans (xσ39_1.trans (xσ41_1.trans xσ43_1))))))) (by decide)).2.1
          have kp334 : gP σ45_1 th 3 = gP σ43_1 th 3 := (cσ45_1.O (kth.up (xσ29.trans (xσ36.trans (xσ37.trans (xσx_1.trans (xσ39_1.trans (xσ41_1.trans xσ43_1))))))) (by decide)).2.1
          have kp335 : gP σ45_1 th 9 = gP σ43_1 th 9 := (cσ45_1.O (kth.up (xσ29.trans (xσ36.trans (xσ37.trans (xσx_1.trans (xσ39_1.trans (xσ41_1.trans xσ43_1))))))) (by decide)).2.1
          have o9 := iσ45_1.one (G := 14) (mb_7.up xσ45_1) (by omega) (by decide)
          rw [pσ45_1.1] at o9
          have o99 : Nσ45_1 14 = 0 := o9
          unfold w_X9_playTurn_190
          refine ⟨b_1, eb_1, fun kk_b_1_7 => ?_⟩
          have q336 := iσ45_1.rg b_1 8; unfold rng at q336
          have q337 := iσ29.rg b_1 8; unfold rng at q337
          exact hQ σ45_1 gqσx_1 ciσx_1 LLσ45_1 Nσ45_1 nuσ45_1 (wr (gI σ45_1 b_1 8 - (gI σ29 b_1 8))) iσ45_1 geσx_1 fσ45_1 (nu_σ45_1)  (⟨rng_wr _, by omega, by omega, by omega, by omega, by omega, by omega, nzσ45_1, by omega⟩)
  · rw [if_neg hc7]
    have hc7q := Classical.not_not.mp hc7
    unfold w_X9_playTurn_23
    exact hQ σ29 gq ci LL N nu 0 iσ29 geσ fσ29 (NU.rf.nx)  (⟨by unfold rng; omega, by omega, by omega, by omega, by omega, by omega, by omega, NZ.rf, by omega⟩)

set_option maxHeartbeats 1000000 in
theorem i_X9_beginAgain {σ : Sg} {pl : Nat} {gq ci gr nc : Nat → Nat} {ot : Nat → Nat → Int} {LL : Nat → List Nat} {N nu : Nat → Nat} {th : Nat} {v1 : Int} {J W F : Nat} (iσ : IV σ pl gq ci gr nc ot LL N nu) (kth : kO σ th 9) (hj : gP σ th 9 = some J) (kJ : kO σ J 4) (hJ : gq J = nc 0) (hw : gP σ th 1 = some W) (kW : kO σ W 11) (hWJ : gP σ W 5 = some J) (hF : gP σ th 5 = some F) (kF : kO σ F 100) (gF : gr F = 3) (hv : 1 ≤ v1 ∧ v1 ≤ 4) (h5 : nu 5 < 24000) (hb : N 14 + N 44 + N 74 + N 1 ≤ 20000) (n5 : N 5 = 0) {Q : Sg → Unit → Prop} {X : Sg → String → Prop} (hQ : ∀ (σ' : Sg) (gq' ci' : Nat → Nat) (LL' : Nat → List Nat) (N' nu' : Nat → Nat) (r : Unit), IV σ' pl gq' ci' gr nc ot LL' N' nu' → GE (gD σ) gq ci gq' ci' → Fx [1, 2, 3, 4, 5, 6, 7, 64, 129, 130, 131, 132, 133, 134, 135, 195, 512, 586, 587, 588, 590, 592, 595, 640, 641, 645, 646, 647, 648, 649, 650, 651, 652, 653, 654, 655, 708, 6464, 7168, 7680, 8512] gr σ σ' → NW nu nu' → Hn (gD σ) [11, 12, 13, 50, 60, 61, 62, 63, 64, 65, 66, 67, 21, 22, 31, 32, 5] [] gq LL LL' N N' → (N' 1 = N 1 ∧ N' 5 = 0 ∧ (nu' 17 = nc 1 ∧ gI σ' th 12 = v1 ∧ nu' 15 = bsO ot v1.toNat (nc 1))) → Q σ' r) (hX : ∀ (σ' : Sg) (gq' ci' : Nat → Nat) (LL' : Nat → List Nat) (N' nu' : Nat → Nat) (E : String), IV σ' pl gq' ci' gr nc ot LL' N' nu' → GE (gD σ) gq ci gq' ci' → Fx [1, 2, 3, 4, 5, 6, 7, 64, 129, 130, 131, 132, 133, 134, 135, 195, 512, 586, 587, 588, 590, 592, 595, 640, 641, 645, 646, 647, 648, 649, 650, 651, 652, 653, 654, 655, 708, 6464, 7168, 7680, 8512] gr σ σ' → NV nu nu' → ((N' 1 ≤ N 1 + 2 ∧ N' 5 = N 5 ∧ N' 3 = N 3 ∧ N' 14 = N 14 ∧ N' 44 = N 44 ∧ N' 74 = N 74) ∧ (nu' 17 = nc 1 ∧ gI σ' th 12 = v1 ∧ nu' 15 = bsO ot v1.toNat (nc 1)) ∧ NZ N N' ∧ E = "java/lang/IllegalStateException") → X σ' E) : wp_X9_beginAgain th v1 σ Q X := by
  have fσ : Fx [1, 2, 3, 4, 5, 6, 7, 64, 129, 130, 131, 132, 133, 134, 135, 195, 512, 586, 587, 588, 590, 592, 595, 640, 641, 645, 646, 647, 648, 649, 650, 651, 652, 653, 654, 655, 708, 6464, 7168, 7680, 8512] gr σ σ := Fx.rf
  have geσ : GE (gD σ) gq ci gq ci := GE.rf
  have hnσ : Hn (gD σ) [11, 12, 13, 50, 60, 61, 62, 63, 64, 65, 66, 67, 21, 22, 31, 32, 5] [] gq LL LL N N := Hn.rf
  have ncb := iσ.ncb
  have hv2 : 1 ≤ v1.toNat ∧ v1.toNat ≤ 4 := by omega
  have h12v : ((v1.toNat : Nat) : Int) = v1 := by omega
  unfold wp_X9_beginAgain
  unfold w_X9_beginAgain_0
  refine i_X9_empty iσ kth (fun σ14 LLσ14 Nσ14 nuσ14 _ iσ14 cσ14 uσ14 hσ14 pσ14 => ?_)
  intro xσ14
  have fσ14 : Fx [1, 2, 3, 4, 5, 6, 7, 64, 129, 130, 131, 132, 133, 134, 135, 195, 512, 586, 587, 588, 590, 592, 595, 640, 641, 645, 646, 647, 648, 649, 650, 651, 652, 653, 654, 655, 708, 6464, 7168, 7680, 8512] gr σ σ14 := fσ.tr (cσ14.mo (by decide))
  have hnσ14 : Hn (gD σ) [11, 12, 13, 50, 60, 61, 62, 63, 64, 65, 66, 67, 21, 22, 31, 32, 5] [] gq LL LLσ14 N Nσ14 := hnσ.go (hσ14.ge (fun a ha => (geσ a ha).1) (fun d hd => (fσ.1 d hd).1)) (fun _ hd => hd) (by first | decide | exact fun _ h => h | (simp; done) | (intro x hx; simp only [List.mem_cons, List.mem_nil_iff, or_false] at hx ⊢; omega)) (fun d hd => absurd hd (by simp))
  have nσ14_3 := hσ14.2.2 3 (by first | decide | (simp; done) | (simp only [List.mem_cons, List.mem_nil_iff, or_false, not_or]; omega)) (by first | decide | omega) (by first | decide | omega) (by first | decide | omega)
  have nσ14_5 := hσ14.2.2 5 (by first | decide | (simp; done) | (simp only [List.mem_cons, List.mem_nil_iff, or_false, not_or]; omega)) (by first | decide | omega) (by first | decide | omega) (by first | decide | omega)
  have nσ14_14 := hσ14.2.2 14 (by first | decide | (simp; done) | (simp only [List.mem_cons, List.mem_nil_iff, or_false, not_or]; omega)) (by first | decide | omega) (by first | decide | omega) (by first | decide | omega)
  have nσ14_44 := hσ14.2.2 44 (by first | decide | (simp; done) | (simp only [List.mem_cons, List.mem_nil_iff, or_false, not_or]; omega)) (by first | decide | omega) (by first | decide | omega) (by first | decide | omega)
  have nσ14_74 := hσ14.2.2 74 (by first | decide | (simp; done) | (simp only [List.mem_cons, List.mem_nil_iff, or_false, not_or]; omega)) (by first | decide | omega) (by first | decide | omega) (by first | decide | omega)
  have nσ14_41 := hσ14.2.2 41 (by first | decide | (simp; done) | (simp only [List.mem_cons, List.mem_nil_iff, or_false, not_or]; omega)) (by first | decide | omega) (by first | decide | omega) (by first | decide | omega)
  have nσ14_42 := hσ14.2.2 42 (by first | decide | (simp; done) | (simp only [List.mem_cons, List.mem_nil_iff, or_false, not_or]; omega)) (by first | decide | omega) (by first | decide | omega) (by first | decide | omega)
  have nu_σ14 : NW nu nuσ14 := uσ14.w
  have uσ14_0 := uσ14.1 0 (by decide)
  have uσ14_1 := uσ14.1 1 (by decide)
  have uσ14_2 := uσ14.2
  have uσ14_5 := uσ14.1 5 (by decide)
  have uσ14_15 := uσ14.1 15 (by decide)
  have uσ14_16 := uσ14.1 16 (by decide)
  have uσ14_17 := uσ14.1 17 (by decide)
  have kp1 : gP σ14 W 5 = gP σ W 5 := (cσ14.O kW (by decide)).2.1
  have kp2 : gP σ14 th 1 = gP σ th 1 := (cσ14.O kth (by decide)).2.1
  have kp3 : gP σ14 th 5 = gP σ th 5 := (cσ14.O kth (by decide)).2.1
  have kp4 : gP σ14 th 9 = gP σ th 9 := (cσ14.O kth (by decide)).2.1
  have kp5 : gI σ14 th 12 = gI σ th 12 := (cσ14.O kth (by decide)).1
  obtain ⟨b, eb⟩ := P_9_2 iσ14.1 (kth.up xσ14)
  refine ⟨b, eb, fun kk_b => ?_⟩
  obtain ⟨P9, eP9, fP9⟩ := P_3_0 iσ14.1 kk_b
  obtain ⟨S9, eS9, fS9⟩ := P_3_1 iσ14.1 kk_b
  have dk9 := iσ14.dk kk_b eP9 eS9
  have kP9 : kO σ14 P9 120 := iσ14.1.kd kk_b rfl eP9 rfl
  have kS9 : kO σ14 S9 120 := iσ14.1.kd kk_b rfl eS9 rfl
  obtain ⟨b_1, eb_1⟩ := P_9_0 iσ14.1 (kth.up xσ14)
  refine i_X3_giveUp iσ14 kk_b eb_1 eP9 kP9 eS9 kS9 rfl rfl dk9.1 (by omega) (fun σ15 LLσ15 Nσ15 nuσ15 _ iσ15 cσ15 uσ15 hσ15 pσ15 => ?_)
  intro xσ15
  have fσ15 : Fx [1, 2, 3, 4, 5, 6, 7, 64, 129, 130, 131, 132, 133, 134, 135, 195, 512, 586, 587, 588, 590, 592, 595, 640, 641, 645, 646, 647, 648, 649, 650, 651, 652, 653, 654, 655, 708, 6464, 7168, 7680, 8512] gr σ σ15 := fσ14.tr (cσ15.mo (by decide))
  have hnσ15 : Hn (gD σ) [11, 12, 13, 50, 60, 61, 62, 63, 64, 65, 66, 67, 21, 22, 31, 32, 5] [] gq LL LLσ15 N Nσ15 := hnσ14.go (hσ15.ge (fun a ha => (geσ a ha).1) (fun d hd => (fσ14.1 d hd).1)) (fun _ hd => hd) (by first | decide | exact fun _ h => h | (simp; done) | (intro x hx; simp only [List.mem_cons, List.mem_nil_iff, or_false] at hx ⊢; omega)) (fun d hd => absurd hd (by simp))
  have nσ15_3 := hσ15.2.2 3 (by first | decide | (simp; done) | (simp only [List.mem_cons, List.mem_nil_iff, or_false, not_or]; omega)) (by first | decide | omega) (by first | decide | omega) (by first | decide | omega)
  have nσ15_14 := hσ15.2.2 14 (by first | decide | (simp; done) | (simp only [List.mem_cons, List.mem_nil_iff, or_false, not_or]; omega)) (by first | decide | omega) (by first | decide | omega) (by first | decide | omega)
  have nσ15_44 := hσ15.2.2 44 (by first | decide | (simp; done) | (simp only [List.mem_cons, List.mem_nil_iff, or_false, not_or]; omega)) (by first | decide | omega) (by first | decide | omega) (by first | decide | omega)
  have nσ15_74 := hσ15.2.2 74 (by first | decide | (simp; done) | (simp only [List.mem_cons, List.mem_nil_iff, or_false, not_or]; omega)) (by first | decide | omega) (by first | decide | omega) (by first | decide | omega)
  have nσ15_41 := hσ15.2.2 41 (by first | decide | (simp; done) | (simp only [List.mem_cons, List.mem_nil_iff, or_false, not_or]; omega)) (by first | decide | omega) (by first | decide | omega) (by first | decide | omega)
  have nσ15_42 := hσ15.2.2 42 (by first | decide | (simp; done) | (simp only [List.mem_cons, List.mem_nil_iff, or_false, not_or]; omega)) (by first | decide | omega) (by first | decide | omega) (by first | decide | omega)
  have nσ15_11 := hσ15.2.2 11 (by first | decide | (simp; done) | (simp only [List.mem_cons, List.mem_nil_iff, or_false, not_or]; omega)) (by first | decide | omega) (by first | decide | omega) (by first | decide | omega)
  have nσ15_12 := hσ15.2.2 12 (by first | decide | (simp; done) | (simp only [List.mem_cons, List.mem_nil_iff, or_false, not_or]; omega)) (by first | decide | omega) (by first | decide | omega) (by first | decide | omega)
  have nσ15_13 := hσ15.2.2 13 (by first | decide | (simp; done) | (simp only [List.mem_cons, List.mem_nil_iff, or_false, not_or]; omega)) (by first | decide | omega) (by first | decide | omega) (by first | decide | omega)
  have nσ15_50 := hσ15.2.2 50 (by first | decide | (simp; done) | (simp only [List.mem_cons, List.mem_nil_iff, or_false, not_or]; omega)) (by first | decide | omega) (by first | decide | omega) (by first | decide | omega)
  have nu_σ15 : NW nu nuσ15 := nu_σ14.tr uσ15.w
  have uσ15_0 := uσ15.1 0 (by decide)
  have uσ15_1 := uσ15.1 1 (by decide)
  have uσ15_2 := uσ15.2
  have uσ15_5 := uσ15.1 5 (by decide)
  have uσ15_15 := uσ15.1 15 (by decide)
  have uσ15_16 := uσ15.1 16 (by decide)
  have uσ15_17 := uσ15.1 17 (by decide)
  have kp6 : gP σ15 W 5 = gP σ14 W 5 := (cσ15.O (kW.up xσ14) (by decide)).2.1
  have kp7 : gP σ15 b 0 = gP σ14 b 0 := (cσ15.O kk_b (by decide)).2.1
  have kp8 : gP σ15 b 1 = gP σ14 b 1 := (cσ15.O kk_b (by decide)).2.1
  have kp9 : gP σ15 th 0 = gP σ14 th 0 := (cσ15.O (kth.up xσ14) (by decide)).2.1
  have kp10 : gP σ15 th 1 = gP σ14 th 1 := (cσ15.O (kth.up xσ14) (by decide)).2.1
  have kp11 : gP σ15 th 2 = gP σ14 th 2 := (cσ15.O (kth.up xσ14) (by decide)).2.1
  have kp12 : gP σ15 th 5 = gP σ14 th 5 := (cσ15.O (kth.up xσ14) (by decide)).2.1
  have kp13 : gP σ15 th 9 = gP σ14 th 9 := (cσ15.O (kth.up xσ14) (by decide)).2.1
  have kp14 : gI σ15 th 12 = gI σ14 th 12 := (cσ15.O (kth.up xσ14) (by decide)).1
  intro σ17 eσ17
  have xσ17 : Ext σ15 σ17 := by rw [eσ17]; exact fun _ h => ⟨h, rfl, rfl⟩
  have iσ17 : IV σ17 pl gq ci gr nc ot LLσ15 Nσ15 nuσ15 := by rw [eσ17]; exact iσ15.wO (kth.up (xσ14.trans xσ15)) (by decide) (show (0 : Int) ≤ 0 ∧ 0 ≤ 1 from ⟨by (first | omega | with_reducible assumption | with_reducible exact rng_toInt _ | with_reducible exact rng_wr _ | (unfold rng; omega) | (unfold rng at *; omega) | assumption), by (first | omega | with_reducible assumption | with_reducible exact rng_toInt _ | with_reducible exact rng_wr _ | (unfold rng; omega) | (unfold rng at *; omega) | assumption)⟩)
  have fσ17 : Fx [1, 2, 3, 4, 5, 6, 7, 64, 129, 130, 131, 132, 133, 134, 135, 195, 512, 586, 587, 588, 590, 592, 595, 640, 641, 645, 646, 647, 648, 649, 650, 651, 652, 653, 654, 655, 708, 6464, 7168, 7680, 8512] gr σ σ17 := fσ15.tr (Sk.fx (by rw [eσ17]; exact Sk.pI (by rw [fcdO (kth.up (xσ14.trans xσ15)) (by decide)]; decide)))
  have wσ17 : gI σ17 th 16 = 0 := by rw [eσ17]; exact up2_s _ _ _ _
  have kp15 : gP σ17 W 5 = gP σ15 W 5 := by rw [eσ17]
  have kp16 : gP σ17 b 0 = gP σ15 b 0 := by rw [eσ17]
  have kp17 : gP σ17 b 1 = gP σ15 b 1 := by rw [eσ17]
  have kp18 : gP σ17 th 0 = gP σ15 th 0 := by rw [eσ17]
  have kp19 : gP σ17 th 1 = gP σ15 th 1 := by rw [eσ17]
  have kp20 : gP σ17 th 2 = gP σ15 th 2 := by rw [eσ17]
  have kp21 : gP σ17 th 5 = gP σ15 th 5 := by rw [eσ17]
  have kp22 : gP σ17 th 9 = gP σ15 th 9 := by rw [eσ17]
  have kp23 : gI σ17 th 12 = gI σ15 th 12 := by rw [eσ17]; exact up2_n _ _ (fun q => absurd q.2 (by decide))
  intro σ18 eσ18
  have xσ18 : Ext σ17 σ18 := by rw [eσ18]; exact fun _ h => ⟨h, rfl, rfl⟩
  have q24 := iσ17.rg th 19; unfold rng at q24
  have iσ18 : IV σ18 pl gq ci gr nc ot LLσ15 Nσ15 nuσ15 := by rw [eσ18]; exact iσ17.wO (kth.up (xσ14.trans (xσ15.trans xσ17))) (by decide) (rngb (by first | exact rng_wr _ | (first | omega | with_reducible assumption | with_reducible exact rng_toInt _ | with_reducible exact rng_wr _ | (unfold rng; omega) | (unfold rng at *; omega) | assumption)))
  have fσ18 : Fx [1, 2, 3, 4, 5, 6, 7, 64, 129, 130, 131, 132, 133, 134, 135, 195, 512, 586, 587, 588, 590, 592, 595, 640, 641, 645, 646, 647, 648, 649, 650, 651, 652, 653, 654, 655, 708, 6464, 7168, 7680, 8512] gr σ σ18 := fσ17.tr (Sk.fx (by rw [eσ18]; exact Sk.pI (by rw [fcdO (kth.up (xσ14.trans (xσ15.trans xσ17))) (by decide)]; decide)))
  have wσ18 : gI σ18 th 19 = (wr (gI σ17 th 19 + 1)) := by rw [eσ18]; exact up2_s _ _ _ _
  have kp25 : gI σ18 th 16 = gI σ17 th 16 := by rw [eσ18]; exact up2_n _ _ (fun q => absurd q.2 (by decide))
  have kp26 : gP σ18 W 5 = gP σ17 W 5 := by rw [eσ18]
  have kp27 : gP σ18 b 0 = gP σ17 b 0 := by rw [eσ18]
  have kp28 : gP σ18 b 1 = gP σ17 b 1 := by rw [eσ18]
  have kp29 : gP σ18 th 0 = gP σ17 th 0 := by rw [eσ18]
  have kp30 : gP σ18 th 1 = gP σ17 th 1 := by rw [eσ18]
  have kp31 : gP σ18 th 2 = gP σ17 th 2 := by rw [eσ18]
  have kp32 : gP σ18 th 5 = gP σ17 th 5 := by rw [eσ18]
  have kp33 : gP σ18 th 9 = gP σ17 th 9 := by rw [eσ18]
  have kp34 : gI σ18 th 12 = gI σ17 th 12 := by rw [eσ18]; exact up2_n _ _ (fun q => absurd q.2 (by decide))
  refine i_X9_layOut iσ18 (kth.up (xσ14.trans (xσ15.trans (xσ17.trans xσ18)))) (kp33.trans (kp22.trans (kp13.trans (kp4.trans hj)))) (kJ.up (xσ14.trans (xσ15.trans (xσ17.trans xσ18)))) (by (first | omega | with_reducible assumption | with_reducible exact rng_toInt _ | with_reducible exact rng_wr _ | (unfold rng; omega) | (unfold rng at *; omega) | assumption)) (kp32.trans (kp21.trans (kp12.trans (kp3.trans hF)))) (kF.up (xσ14.trans (xσ15.trans (xσ17.trans xσ18)))) gF hv (⟨by omega, by omega, by omega, by omega⟩) (fun σ19 gqσ19 ciσ19 LLσ19 Nσ19 nuσ19 _ iσ19 gσ19 cσ19 uσ19 hσ19 pσ19 => ?_)
  intro xσ19
  have fσ19 : Fx [1, 2, 3, 4, 5, 6, 7, 64, 129, 130, 131, 132, 133, 134, 135, 195, 512, 586, 587, 588, 590, 592, 595, 640, 641, 645, 646, 647, 648, 649, 650, 651, 652, 653, 654, 655, 708, 6464, 7168, 7680, 8512] gr σ σ19 := fσ18.tr (cσ19.mo (by decide))
  have geσ19 : GE (gD σ) gq ci gqσ19 ciσ19 := geσ.tr gσ19 (fun d hd => (fσ18.1 d hd).1)
  have gl35 := gσ19 J (kJ.up (xσ14.trans (xσ15.trans (xσ17.trans xσ18)))).1
  have gl36 := gσ19 W (kW.up (xσ14.trans (xσ15.trans (xσ17.trans xσ18)))).1
  have gl37 := gσ19 P9 (kP9.up (xσ15.trans (xσ17.trans xσ18))).1
  have gl38 := gσ19 S9 (kS9.up (xσ15.trans (xσ17.trans xσ18))).1
  have hnσ19 : Hn (gD σ) [11, 12, 13, 50, 60, 61, 62, 63, 64, 65, 66, 67, 21, 22, 31, 32, 5] [] gq LL LLσ19 N Nσ19 := hnσ15.go (hσ19.ge (fun a ha => (geσ a ha).1) (fun d hd => (fσ18.1 d hd).1)) (fun _ hd => hd) (by first | decide | exact fun _ h => h | (simp; done) | (intro x hx; simp only [List.mem_cons, List.mem_nil_iff, or_false] at hx ⊢; omega)) (fun d hd => absurd hd (by simp))
  have nσ19_3 := hσ19.2.2 3 (by first | decide | (simp; done) | (simp only [List.mem_cons, List.mem_nil_iff, or_false, not_or]; omega)) (by first | decide | omega) (by first | decide | omega) (by first | decide | omega)
  have nσ19_5 := hσ19.2.2 5 (by first | decide | (simp; done) | (simp only [List.mem_cons, List.mem_nil_iff, or_false, not_or]; omega)) (by first | decide | omega) (by first | decide | omega) (by first | decide | omega)
  have nσ19_14 := hσ19.2.2 14 (by first | decide | (simp; done) | (simp only [List.mem_cons, List.mem_nil_iff, or_false, not_or]; omega)) (by first | decide | omega) (by first | decide | omega) (by first | decide | omega)
  have nσ19_44 := hσ19.2.2 44 (by first | decide | (simp; done) | (simp only [List.mem_cons, List.mem_nil_iff, or_false, not_or]; omega)) (by first | decide | omega) (by first | decide | omega) (by first | decide | omega)
  have nσ19_74 := hσ19.2.2 74 (by first | decide | (simp; done) | (simp only [List.mem_cons, List.mem_nil_iff, or_false, not_or]; omega)) (by first | decide | omega) (by first | decide | omega) (by first | decide | omega)
  have nσ19_41 := hσ19.2.2 41 (by first | decide | (simp; done) | (simp only [List.mem_cons, List.mem_nil_iff, or_false, not_or]; omega)) (by first | decide | omega) (by first | decide | omega) (by first | decide | omega)
  have nσ19_42 := hσ19.2.2 42 (by first | decide | (simp; done) | (simp only [List.mem_cons, List.mem_nil_iff, or_false, not_or]; omega)) (by first | decide | omega) (by first | decide | omega) (by first | decide | omega)
  have nσ19_11 := hσ19.2.2 11 (by first | decide | (simp; done) | (simp only [List.mem_cons, List.mem_nil_iff, or_false, not_or]; omega)) (by first | decide | omega) (by first | decide | omega) (by first | decide | omega)
  have nσ19_12 := hσ19.2.2 12 (by first | decide | (simp; done) | (simp only [List.mem_cons, List.mem_nil_iff, or_false, not_or]; omega)) (by first | decide | omega) (by first | decide | omega) (by first | decide | omega)
  have nσ19_13 := hσ19.2.2 13 (by first | decide | (simp; done) | (simp only [List.mem_cons, List.mem_nil_iff, or_false, not_or]; omega)) (by first | decide | omega) (by first | decide | omega) (by first | decide | omega)
  have nσ19_50 := hσ19.2.2 50 (by first | decide | (simp; done) | (simp only [List.mem_cons, List.mem_nil_iff, or_false, not_or]; omega)) (by first | decide | omega) (by first | decide | omega) (by first | decide | omega)
  have nu_σ19 : NW nu nuσ19 := nu_σ15.tr uσ19
  have uσ19_5 := uσ19.1 5 (by decide)
  have uσ19_0 := uσ19.2
  have kp39 : gI σ19 th 16 = gI σ18 th 16 := (cσ19.O (kth.up (xσ14.trans (xσ15.trans (xσ17.trans xσ18)))) (by decide)).1
  have kp40 : gI σ19 th 19 = gI σ18 th 19 := (cσ19.O (kth.up (xσ14.trans (xσ15.trans (xσ17.trans xσ18)))) (by decide)).1
  have kp41 : gP σ19 W 5 = gP σ18 W 5 := (cσ19.O (kW.up (xσ14.trans (xσ15.trans (xσ17.trans xσ18)))) (by decide)).2.1
  have kp42 : gP σ19 b 0 = gP σ18 b 0 := (cσ19.O (kk_b.up (xσ15.trans (xσ17.trans xσ18))) (by decide)).2.1
  have kp43 : gP σ19 b 1 = gP σ18 b 1 := (cσ19.O (kk_b.up (xσ15.trans (xσ17.trans xσ18))) (by decide)).2.1
  have kp44 : gP σ19 th 0 = gP σ18 th 0 := (cσ19.O (kth.up (xσ14.trans (xσ15.trans (xσ17.trans xσ18)))) (by decide)).2.1
  have kp45 : gP σ19 th 1 = gP σ18 th 1 := (cσ19.O (kth.up (xσ14.trans (xσ15.trans (xσ17.trans xσ18)))) (by decide)).2.1
  have kp46 : gP σ19 th 2 = gP σ18 th 2 := (cσ19.O (kth.up (xσ14.trans (xσ15.trans (xσ17.trans xσ18)))) (by decide)).2.1
  have kp47 : gP σ19 th 5 = gP σ18 th 5 := (cσ19.O (kth.up (xσ14.trans (xσ15.trans (xσ17.trans xσ18)))) (by decide)).2.1
  have kp48 : gP σ19 th 9 = gP σ18 th 9 := (cσ19.O (kth.up (xσ14.trans (xσ15.trans (xσ17.trans xσ18)))) (by decide)).2.1
  have eN9 := pσ19.2.2.2.2
  have eN1 := congrFun eN9 1
  have eN3 := congrFun eN9 3
  have eN5 := congrFun eN9 5
  have eN14 := congrFun eN9 14
  have eN44 := congrFun eN9 44
  have eN74 := congrFun eN9 74
  have eN11 := congrFun eN9 11
  have eN12 := congrFun eN9 12
  have eN13 := congrFun eN9 13
  have eN50 := congrFun eN9 50
  have Lp37 : ∀ (fu37 : Nat) (τ37 : Sg) (gqt37 cit37 : Nat → Nat) (LLt37 : Nat → List Nat) (Nt37 nut37 : Nat → Nat) (v2 : Int), IV τ37 pl gqt37 cit37 gr nc ot LLt37 Nt37 nut37 → Fx [1, 2, 3, 4, 5, 6, 7, 64, 129, 130, 131, 132, 133, 134, 135, 195, 512, 586, 587, 588, 590, 592, 595, 640, 641, 645, 646, 647, 648, 649, 650, 651, 652, 653, 654, 655, 708, 6464, 7168, 7680, 8512] gr σ τ37 → Ext σ19 τ37 → GE (gD σ19) gqσ19 ciσ19 gqt37 cit37 → NW nu nut37 → Hn (gD σ) [11, 12, 13, 50, 60, 61, 62, 63, 64, 65, 66, 67, 21, 22, 31, 32, 5] [] gq LL LLt37 N Nt37 → (((0 ≤ v2 ∧ v2 ≤ (nc 1 : Int)) ∧ Nt37 1 = N 1 ∧ Nt37 5 = 0 ∧ nut37 17 = nc 1 ∧ gI τ37 th 12 = v1 ∧ nut37 15 = bsO ot v1.toNat (nc 1)) ∧ LT1 τ37 gqt37 cit37 nut37 ot v1.toNat ∧ FT1 τ37 F ot v1.toNat (nc 1 + 1)) → (((nc 1 : Int) - v2).toNat) < fu37 → wl_X9_beginAgain_37 th Q X fu37 τ37 v2 := by
    intro fu37
    induction fu37 with
    | zero => intro _ _ _ _ _ _ _ _ _ _ _ _ _ _ h9; omega
    | succ fu37 ih37 =>
      intro τ37 gqt37 cit37 LLt37 Nt37 nut37 v2 iτ37 fτ37 xτ37 giτ37 nu_τ37 hnτ37 hi37 hm37
      have geτ37 : GE (gD σ) gq ci gqt37 cit37 := geσ19.tr giτ37 (fun d hd => (fσ19.1 d hd).1)
      have gl49 := giτ37 J (kJ.up (xσ14.trans (xσ15.trans (xσ17.trans (xσ18.trans xσ19))))).1
      have gl50 := giτ37 W (kW.up (xσ14.trans (xσ15.trans (xσ17.trans (xσ18.trans xσ19))))).1
      have gl51 := giτ37 P9 (kP9.up (xσ15.trans (xσ17.trans (xσ18.trans xσ19)))).1
      have gl52 := giτ37 S9 (kS9.up (xσ15.trans (xσ17.trans (xσ18.trans xσ19)))).1
      have nτ37_3 := hnτ37.2.2 3 (by first | decide | (simp; done) | (simp only [List.mem_cons, List.mem_nil_iff, or_false, not_or]; omega)) (by first | decide | omega) (by first | decide | omega) (by first | decide | omega)
      have nτ37_14 := hnτ37.2.2 14 (by first | decide | (simp; done) | (simp only [List.mem_cons, List.mem_nil_iff, or_false, not_or]; omega)) (by first | decide | omega) (by first | decide | omega) (by first | decide | omega)
      have nτ37_44 := hnτ37.2.2 44 (by first | decide | (simp; done) | (simp only [List.mem_cons, List.mem_nil_iff, or_false, not_or]; omega)) (by first | decide | omega) (by first | decide | omega) (by first | decide | omega)
      have nτ37_74 := hnτ37.2.2 74 (by first | decide | (simp; done) | (simp only [List.mem_cons, List.mem_nil_iff, or_false, not_or]; omega)) (by first | decide | omega) (by first | decide | omega) (by first | decide | omega)
      have nτ37_41 := hnτ37.2.2 41 (by first | decide | (simp; done) | (simp only [List.mem_cons, List.mem_nil_iff, or_false, not_or]; omega)) (by first | decide | omega) (by first | decide | omega) (by first | decide | omega)
      have nτ37_42 := hnτ37.2.2 42 (by first | decide | (simp; done) | (simp only [List.mem_cons, List.mem_nil_iff, or_false, not_or]; omega)) (by first | decide | omega) (by first | decide | omega) (by first | decide | omega)
      have uτ37_5 := nu_τ37.1 5 (by decide)
      have uτ37_0 := nu_τ37.2
      unfold wl_X9_beginAgain_37
      have kp53 : gP τ37 W 5 = gP σ W 5 := (fτ37.O kW (by decide)).2.1
      have kp54 : gP τ37 th 1 = gP σ th 1 := (fτ37.O kth (by decide)).2.1
      have kp55 : gP τ37 th 5 = gP σ th 5 := (fτ37.O kth (by decide)).2.1
      have kp56 : gP τ37 th 9 = gP σ th 9 := (fτ37.O kth (by decide)).2.1
      have kp57 : gP τ37 th 0 = gP σ19 th 0 := (fτ37.O kth (by decide)).2.1.trans (fσ19.O kth (by decide)).2.1.symm
      have kp58 : gP τ37 th 2 = gP σ19 th 2 := (fτ37.O kth (by decide)).2.1.trans (fσ19.O kth (by decide)).2.1.symm
      have jc37 := iτ37.jc (kJ.up (xσ14.trans (xσ15.trans (xσ17.trans (xσ18.trans (xσ19.trans xτ37)))))) (by omega)
      unfold w_X9_beginAgain_37
      refine ⟨J, (kp56.trans hj), fun kk_J => ?_⟩
      have q60 := I_4_1 iτ37.1 (kJ.up (xσ14.trans (xσ15.trans (xσ17.trans (xσ18.trans (xσ19.trans xτ37))))))
      by_cases hc59 : v2 ≥ gI τ37 J 1
      · rw [if_pos hc59]
        unfold w_X9_beginAgain_59
        have Lp61 : ∀ (fu61 : Nat) (τ61 : Sg) (gqt61 cit61 : Nat → Nat) (LLt61 : Nat → List Nat) (Nt61 nut61 : Nat → Nat) (v2 : Int), IV τ61 pl gqt61 cit61 gr nc ot LLt61 Nt61 nut61 → Fx [1, 2, 3, 4, 5, 6, 7, 64, 129, 130, 131, 132, 133, 134, 135, 195, 512, 586, 587, 588, 590, 592, 595, 640, 641, 645, 646, 647, 648, 649, 650, 651, 652, 653, 654, 655, 708, 6464, 7168, 7680, 8512] gr σ τ61 → Ext τ37 τ61 → GE (gD τ37) gqt37 cit37 gqt61 cit61 → NW nu nut61 → Hn (gD σ) [11, 12, 13, 50, 60, 61, 62, 63, 64, 65, 66, 67, 21, 22, 31, 32, 5] [] gq LL LLt61 N Nt61 → ((0 ≤ v2 ∧ v2 ≤ 64) ∧ Nt61 1 = N 1 ∧ Nt61 5 = 0 ∧ nut61 17 = nc 1 ∧ gI τ61 th 12 = v1 ∧ nut61 15 = bsO ot v1.toNat (nc 1)) → ((64 - v2).toNat) < fu61 → wl_X9_beginAgain_61 th Q X fu61 τ61 v2 := by
          intro fu61
          induction fu61 with
          | zero => intro _ _ _ _ _ _ _ _ _ _ _ _ _ _ h9; omega
          | succ fu61 ih61 =>
            intro τ61 gqt61 cit61 LLt61 Nt61 nut61 v2 iτ61 fτ61 xτ61 giτ61 nu_τ61 hnτ61 hi61 hm61
            have geτ61 : GE (gD σ) gq ci gqt61 cit61 := geτ37.tr giτ61 (fun d hd => (fτ37.1 d hd).1)
            have gl61 := giτ61 J (kJ.up (xσ14.trans (xσ15.trans (xσ17.trans (xσ18.trans (xσ19.trans xτ37)))))).1
            have gl62 := giτ61 W (kW.up (xσ14.trans (xσ15.trans (xσ17.trans (xσ18.trans (xσ19.trans xτ37)))))).1
            have gl63 := giτ61 P9 (kP9.up (xσ15.trans (xσ17.trans (xσ18.trans (xσ19.trans xτ37))))).1
            have gl64 := giτ61 S9 (kS9.up (xσ15.trans (xσ17.trans (xσ18.trans (xσ19.trans xτ37))))).1
            have nτ61_3 := hnτ61.2.2 3 (by first | decide | (simp; done) | (simp only [List.mem_cons, List.mem_nil_iff, or_false, not_or]; omega)) (by first | decide | omega) (by first | decide | omega) (by first | decide | omega)
            have nτ61_14 := hnτ61.2.2 14 (by first | decide | (simp; done) | (simp only [List.mem_cons, List.mem_nil_iff, or_false, not_or]; omega)) (by first | decide | omega) (by first | decide | omega) (by first | decide | omega)
            have nτ61_44 := hnτ61.2.2 44 (by first | decide | (simp; done) | (simp only [List.mem_cons, List.mem_nil_iff, or_false, not_or]; omega)) (by first | decide | omega) (by first | decide | omega) (by first | decide | omega)
            have nτ61_74 := hnτ61.2.2 74 (by first | decide | (simp; done) | (simp only [List.mem_cons, List.mem_nil_iff, or_false, not_or]; omega)) (by first | decide | omega) (by first | decide | omega) (by first | decide | omega)
            have nτ61_41 := hnτ61.2.2 41 (by first | decide | (simp; done) | (simp only [List.mem_cons, List.mem_nil_iff, or_false, not_or]; omega)) (by first | decide | omega) (by first | decide | omega) (by first | decide | omega)
            have nτ61_42 := hnτ61.2.2 42 (by first | decide | (simp; done) | (simp only [List.mem_cons, List.mem_nil_iff, or_false, not_or]; omega)) (by first | decide | omega) (by first | decide | omega) (by first | decide | omega)
            have uτ61_5 := nu_τ61.1 5 (by decide)
            have uτ61_0 := nu_τ61.2
            unfold wl_X9_beginAgain_61
            have kp65 : gP τ61 W 5 = gP σ W 5 := (fτ61.O kW (by decide)).2.1
            have kp66 : gP τ61 th 1 = gP σ th 1 := (fτ61.O kth (by decide)).2.1
            have kp67 : gP τ61 th 5 = gP σ th 5 := (fτ61.O kth (by decide)).2.1
            have kp68 : gP τ61 th 9 = gP σ th 9 := (fτ61.O kth (by decide)).2.1
            have kp69 : gI τ61 J 1 = gI τ37 J 1 := (fτ61.O kJ (by decide)).1.trans (fτ37.O kJ (by decide)).1.symm
            have kp70 : gP τ61 th 0 = gP τ37 th 0 := (fτ61.O kth (by decide)).2.1.trans (fτ37.O kth (by decide)).2.1.symm
            have kp71 : gP τ61 th 2 = gP τ37 th 2 := (fτ61.O kth (by decide)).2.1.trans (fτ37.O kth (by decide)).2.1.symm
            have n61 := iτ61.n16
            have tc61 := iτ61.tc (kth.up (xσ14.trans (xσ15.trans (xσ17.trans (xσ18.trans (xσ19.trans (xτ37.trans xτ61)))))))
            unfold w_X9_beginAgain_61
            have q73 := iτ61.tc (kth.up (xσ14.trans (xσ15.trans (xσ17.trans (xσ18.trans (xσ19.trans (xτ37.trans xτ61)))))))
            have q74 := I_9_10 iτ61.1 (kth.up (xσ14.trans (xσ15.trans (xσ17.trans (xσ18.trans (xσ19.trans (xτ37.trans xτ61)))))))
            by_cases hc72 : v2 ≥ gI τ61 th 10
            · rw [if_pos hc72]
              unfold w_X9_beginAgain_111
              exact hQ τ61 gqt61 cit61 LLt61 Nt61 nut61 () iτ61 geτ61 fτ61 (nu_τ61) hnτ61 (by (first | omega | with_reducible assumption | with_reducible exact rng_toInt _ | with_reducible exact rng_wr _ | (unfold rng; omega) | (unfold rng at *; omega) | assumption))
            · rw [if_neg hc72]
              unfold w_X9_beginAgain_69
              obtain ⟨b_2, eb_2, fb_2⟩ := P_9_3 iτ61.1 (kth.up (xσ14.trans (xσ15.trans (xσ17.trans (xσ18.trans (xσ19.trans (xτ37.trans xτ61)))))))
              have mb_2 : kO τ61 b_2 120 := iτ61.1.kd (kth.up (xσ14.trans (xσ15.trans (xσ17.trans (xσ18.trans (xσ19.trans (xτ37.trans xτ61))))))) rfl eb_2 rfl
              refine ⟨b_2, eb_2, fun kk_b_2 => ?_⟩
              refine ⟨⟨by (first | omega | with_reducible assumption | with_reducible exact rng_toInt _ | with_reducible exact rng_wr _ | (unfold rng; omega) | (unfold rng at *; omega) | assumption), by (first | omega | with_reducible assumption | with_reducible exact rng_toInt _ | with_reducible exact rng_wr _ | (unfold rng; omega) | (unfold rng at *; omega) | assumption)⟩, ?_⟩
              have n16b_3 := iτ61.n16
              obtain ⟨b_3, eb_3, mb_3, fb_3⟩ := P_120 iτ61 mb_2 (by omega) (k := v2.toNat) (by (first | omega | with_reducible assumption | with_reducible exact rng_toInt _ | with_reducible exact rng_wr _ | (unfold rng; omega) | (unfold rng at *; omega) | assumption))
              refine ⟨b_3, eb_3, fun kk_b_3 => ?_⟩
              by_cases hc75 : gJ τ61 b_3 7 = (-1)
              · rw [if_pos hc75]
                unfold w_X9_beginAgain_105
                refine ⟨by (first | omega | with_reducible assumption | with_reducible exact rng_toInt _ | with_reducible exact rng_wr _ | (unfold rng; omega) | (unfold rng at *; omega) | assumption), ?_⟩
                exact ih61 τ61 gqt61 cit61 LLt61 Nt61 nut61 (v2 + 1) iτ61 fτ61 xτ61 ((GE.rf).tr giτ61 (fun d hd => ((Ext.rfl' _) d hd).1)) nu_τ61 hnτ61 (by (first | omega | with_reducible assumption | with_reducible exact rng_toInt _ | with_reducible exact rng_wr _ | (unfold rng; omega) | (unfold rng at *; omega) | assumption)) (by (first | omega | with_reducible assumption | with_reducible exact rng_toInt _ | with_reducible exact rng_wr _ | (unfold rng; omega) | (unfold rng at *; omega) | assumption))
              · rw [if_neg hc75]
                unfold w_X9_beginAgain_85
                refine ⟨b_2, eb_2, fun kk_b_2_1 => ?_⟩
                refine ⟨⟨by (first | omega | with_reducible assumption | with_reducible exact rng_toInt _ | with_reducible exact rng_wr _ | (unfold rng; omega) | (unfold rng at *; omega) | assumption), by (first | omega | with_reducible assumption | with_reducible exact rng_toInt _ | with_reducible exact rng_wr _ | (unfold rng; omega) | (unfold rng at *; omega) | assumption)⟩, ?_⟩
                refine ⟨⟨by (first | omega | with_reducible assumption | with_reducible exact rng_toInt _ | with_reducible exact rng_wr _ | (unfold rng; omega) | (unfold rng at *; omega) | assumption), by (first | omega | with_reducible assumption | with_reducible exact rng_toInt _ | with_reducible exact rng_wr _ | (unfold rng; omega) | (unfold rng at *; omega) | assumption)⟩, ?_⟩
                refine ⟨b_3, eb_3, fun kk_b_3_1 => ?_⟩
                refine i_X9_sendToAll iτ61 (kth.up (xσ14.trans (xσ15.trans (xσ17.trans (xσ18.trans (xσ19.trans (xτ37.trans xτ61))))))) eb_3 mb_3 (by (first | omega | with_reducible assumption | with_reducible exact rng_toInt _ | with_reducible exact rng_wr _ | (unfold rng; omega) | (unfold rng at *; omega) | assumption)) (by (first | omega | with_reducible assumption | with_reducible exact rng_toInt _ | with_reducible exact rng_wr _ | (unfold rng; omega) | (unfold rng at *; omega) | assumption)) (by (first | omega | with_reducible assumption | with_reducible exact rng_toInt _ | with_reducible exact rng_wr _ | (unfold rng; omega) | (unfold rng at *; omega) | assumption)) (by (first | omega | with_reducible assumption | with_reducible exact rng_toInt _ | with_reducible exact rng_wr _ | (unfold rng; omega) | (unfold rng at *; omega) | assumption)) (by unfold rng; omega) (iτ61.t7 mb_3) (fun σ26 LLσ26 Nσ26 nuσ26 _ iσ26 cσ26 uσ26 hσ26 pσ26 => ?_) (fun σx LLx Nx nux E ix cx ux px => hX σx gqt61 cit61 LLx Nx nux E ix geτ61 (fτ61.tr (cx.mo (by decide))) (nu_τ61.x ux) ⟨by have := px.1; omega, ⟨by have := ux.1 17 (by decide); omega, by have := (cx.O (kth.up (xσ14.trans (xσ15.trans (xσ17.trans (xσ18.trans (xσ19.trans (xτ37.trans xτ61))))))) (k := 12) (by decide)).1; omega, by have := ux.1 15 (by decide); omega⟩, NZ.tr (Hn.nz hnτ61 (by first | decide | (intro x hx; simp only [List.mem_cons, List.mem_nil_iff, or_false] at hx; omega))) px.2.1, px.2.2⟩)
                intro xσ26
                have fσ26 : Fx [1, 2, 3, 4, 5, 6, 7, 64, 129, 130, 131, 132, 133, 134, 135, 195, 512, 586, 587, 588, 590, 592, 595, 640, 641, 645, 646, 647, 648, 649, 650, 651, 652, 653, 654, 655, 708, 6464, 7168, 7680, 8512] gr σ σ26 := fτ61.tr (cσ26.mo (by decide))
                have hnσ26 : Hn (gD σ) [11, 12, 13, 50, 60, 61, 62, 63, 64, 65, 66, 67, 21, 22, 31, 32, 5] [] gq LL LLσ26 N Nσ26 := hnτ61.go (hσ26.ge (fun a ha => (geτ61 a ha).1) (fun d hd => (fτ61.1 d hd).1)) (fun _ hd => hd) (by first | decide | exact fun _ h => h | (simp; done) | (intro x hx; simp only [List.mem_cons, List.mem_nil_iff, or_false] at hx ⊢; omega)) (fun d hd => absurd hd (by simp))
                have nσ26_3 := hσ26.2.2 3 (by first | decide | (simp; done) | (simp only [List.mem_cons, List.mem_nil_iff, or_false, not_or]; omega)) (by first | decide | omega) (by first | decide | omega) (by first | decide | omega)
                have nσ26_5 := hσ26.2.2 5 (by first | decide | (simp; done) | (simp only [List.mem_cons, List.mem_nil_iff, or_false, not_or]; omega)) (by first | decide | omega) (by first | decide | omega) (by first | decide | omega)
                have nσ26_14 := hσ26.2.2 14 (by first | decide | (simp; done) | (simp only [List.mem_cons, List.mem_nil_iff, or_false, not_or]; omega)) (by first | decide | omega) (by first | decide | omega) (by first | decide | omega)
                have nσ26_44 := hσ26.2.2 44 (by first | decide | (simp; done) | (simp only [List.mem_cons, List.mem_nil_iff, or_false, not_or]; omega)) (by first | decide | omega) (by first | decide | omega) (by first | decide | omega)
                have nσ26_74 := hσ26.2.2 74 (by first | decide | (simp; done) | (simp only [List.mem_cons, List.mem_nil_iff, or_false, not_or]; omega)) (by first | decide | omega) (by first | decide | omega) (by first | decide | omega)
                have nσ26_41 := hσ26.2.2 41 (by first | decide | (simp; done) | (simp only [List.mem_cons, List.mem_nil_iff, or_false, not_or]; omega)) (by first | decide | omega) (by first | decide | omega) (by first | decide | omega)
                have nσ26_42 := hσ26.2.2 42 (by first | decide | (simp; done) | (simp only [List.mem_cons, List.mem_nil_iff, or_false, not_or]; omega)) (by first | decide | omega) (by first | decide | omega) (by first | decide | omega)
                have nσ26_11 := hσ26.2.2 11 (by first | decide | (simp; done) | (simp only [List.mem_cons, List.mem_nil_iff, or_false, not_or]; omega)) (by first | decide | omega) (by first | decide | omega) (by first | decide | omega)
                have nσ26_12 := hσ26.2.2 12 (by first | decide | (simp; done) | (simp only [List.mem_cons, List.mem_nil_iff, or_false, not_or]; omega)) (by first | decide | omega) (by first | decide | omega) (by first | decide | omega)
                have nσ26_50 := hσ26.2.2 50 (by first | decide | (simp; done) | (simp only [List.mem_cons, List.mem_nil_iff, or_false, not_or]; omega)) (by first | decide | omega) (by first | decide | omega) (by first | decide | omega)
                have nu_σ26 : NW nu nuσ26 := nu_τ61.tr uσ26.w
                have uσ26_0 := uσ26.1 0 (by decide)
                have uσ26_1 := uσ26.1 1 (by decide)
                have uσ26_2 := uσ26.2
                have uσ26_5 := uσ26.1 5 (by decide)
                have uσ26_15 := uσ26.1 15 (by decide)
                have uσ26_16 := uσ26.1 16 (by decide)
                have uσ26_17 := uσ26.1 17 (by decide)
                have kp76 : gI σ26 J 1 = gI τ61 J 1 := (cσ26.O (kJ.up (xσ14.trans (xσ15.trans (xσ17.trans (xσ18.trans (xσ19.trans (xτ37.trans xτ61))))))) (by decide)).1
                have kp77 : gI σ26 th 10 = gI τ61 th 10 := (cσ26.O (kth.up (xσ14.trans (xσ15.trans (xσ17.trans (xσ18.trans (xσ19.trans (xτ37.trans xτ61))))))) (by decide)).1
                have kp78 : gP σ26 W 5 = gP τ61 W 5 := (cσ26.O (kW.up (xσ14.trans (xσ15.trans (xσ17.trans (xσ18.trans (xσ19.trans (xτ37.trans xτ61))))))) (by decide)).2.1
                have kp79 : gP σ26 b_2 v2.toNat = gP τ61 b_2 v2.toNat := (cσ26.A mb_2 (by decide)).2.1
                have kp80 : gP σ26 th 0 = gP τ61 th 0 := (cσ26.O (kth.up (xσ14.trans (xσ15.trans (xσ17.trans (xσ18.trans (xσ19.trans (xτ37.trans xτ61))))))) (by decide)).2.1
                have kp81 : gP σ26 th 1 = gP τ61 th 1 := (cσ26.O (kth.up (xσ14.trans (xσ15.trans (xσ17.trans (xσ18.trans (xσ19.trans (xτ37.trans xτ61))))))) (by decide)).2.1
                have kp82 : gP σ26 th 2 = gP τ61 th 2 := (cσ26.O (kth.up (xσ14.trans (xσ15.trans (xσ17.trans (xσ18.trans (xσ19.trans (xτ37.trans xτ61))))))) (by decide)).2.1
                have kp83 : gP σ26 th 3 = gP τ61 th 3 := (cσ26.O (kth.up (xσ14.trans (xσ15.trans (xσ17.trans (xσ18.trans (xσ19.trans (xτ37.trans xτ61))))))) (by decide)).2.1
                have kp84 : gP σ26 th 5 = gP τ61 th 5 := (cσ26.O (kth.up (xσ14.trans (xσ15.trans (xσ17.trans (xσ18.trans (xσ19.trans (xτ37.trans xτ61))))))) (by decide)).2.1
                have kp85 : gP σ26 th 9 = gP τ61 th 9 := (cσ26.O (kth.up (xσ14.trans (xσ15.trans (xσ17.trans (xσ18.trans (xσ19.trans (xτ37.trans xτ61))))))) (by decide)).2.1
                have kp86 : gI σ26 th 12 = gI τ61 th 12 := (cσ26.O (kth.up (xσ14.trans (xσ15.trans (xσ17.trans (xσ18.trans (xσ19.trans (xτ37.trans xτ61))))))) (by decide)).1
                unfold w_X9_beginAgain_105
                refine ⟨by (first | omega | with_reducible assumption | with_reducible exact rng_toInt _ | with_reducible exact rng_wr _ | (unfold rng; omega) | (unfold rng at *; omega) | assumption), ?_⟩
                exact ih61 σ26 gqt61 cit61 LLσ26 Nσ26 nuσ26 (v2 + 1) iσ26 fσ26 (xτ61.trans xσ26) ((GE.rf).tr giτ61 (fun d hd => ((Ext.rfl' _) d hd).1)) nu_σ26 hnσ26 (by (first | omega | with_reducible assumption | with_reducible exact rng_toInt _ | with_reducible exact rng_wr _ | (unfold rng; omega) | (unfold rng at *; omega) | assumption)) (by (first | omega | with_reducible assumption | with_reducible exact rng_toInt _ | with_reducible exact rng_wr _ | (unfold rng; omega) | (unfold rng at *; omega) | assumption))
        exact ⟨_, Lp61 _ τ37 gqt37 cit37 LLt37 Nt37 nut37 _ iτ37 fτ37 (Ext.rfl' _) GE.rf nu_τ37 hnτ37 (by (first | omega | with_reducible assumption | with_reducible exact rng_toInt _ | with_reducible exact rng_wr _ | (unfold rng; omega) | (unfold rng at *; omega) | assumption)) (Nat.lt_succ_self _)⟩
      · rw [if_neg hc59]
        unfold w_X9_beginAgain_48
        refine i_X9_restore (P := v1.toNat) iτ37 (kth.up (xσ14.trans (xσ15.trans (xσ17.trans (xσ18.trans (xσ19.trans xτ37)))))) (kp56.trans hj) (kJ.up (xσ14.trans (xσ15.trans (xσ17.trans (xσ18.trans (xσ19.trans xτ37)))))) (by (first | omega | with_reducible assumption | with_reducible exact rng_toInt _ | with_reducible exact rng_wr _ | (unfold rng; omega) | (unfold rng at *; omega) | assumption)) (kp54.trans hw) (kW.up (xσ14.trans (xσ15.trans (xσ17.trans (xσ18.trans (xσ19.trans xτ37)))))) (kp53.trans hWJ) (kp55.trans hF) (kF.up (xσ14.trans (xσ15.trans (xσ17.trans (xσ18.trans (xσ19.trans xτ37)))))) gF hv2 hi37.2.1 hi37.2.2 (by (first | omega | with_reducible assumption | with_reducible exact rng_toInt _ | with_reducible exact rng_wr _ | (unfold rng; omega) | (unfold rng at *; omega) | assumption)) (by (first | omega | with_reducible assumption | with_reducible exact rng_toInt _ | with_reducible exact rng_wr _ | (unfold rng; omega) | (unfold rng at *; omega) | assumption)) (by (first | omega | with_reducible assumption | with_reducible exact rng_toInt _ | with_reducible exact rng_wr _ | (unfold rng; omega) | (unfold rng at *; omega) | assumption)) (by (first | omega | with_reducible assumption | with_reducible exact rng_toInt _ | with_reducible exact rng_wr _ | (unfold rng; omega) | (unfold rng at *; omega) | assumption)) (by (first | omega | with_reducible assumption | with_reducible exact rng_toInt _ | with_reducible exact rng_wr _ | (unfold rng; omega) | (unfold rng at *; omega) | assumption)) (fun σ21 LLσ21 Nσ21 nuσ21 _ iσ21 cσ21 uσ21 hσ21 pσ21 => ?_) (fun σx LLx Nx nux E ix cx ux px => hX σx gqt37 cit37 LLx Nx nux E ix geτ37 (fτ37.tr (cx.mo (by decide))) (nu_τ37.x ux) ⟨by have := px.1; omega, ⟨by have := ux.1 17 (by decide); omega, by have := (cx.O (kth.up (xσ14.trans (xσ15.trans (xσ17.trans (xσ18.trans (xσ19.trans xτ37)))))) (k := 12) (by decide)).1; omega, by have := ux.1 15 (by decide); omega⟩, NZ.tr (Hn.nz hnτ37 (by first | decide | (intro x hx; simp only [List.mem_cons, List.mem_nil_iff, or_false] at hx; omega))) px.2.1, px.2.2⟩)
        intro xσ21
        have fσ21 : Fx [1, 2, 3, 4, 5, 6, 7, 64, 129, 130, 131, 132, 133, 134, 135, 195, 512, 586, 587, 588, 590, 592, 595, 640, 641, 645, 646, 647, 648, 649, 650, 651, 652, 653, 654, 655, 708, 6464, 7168, 7680, 8512] gr σ σ21 := fτ37.tr (cσ21.mo (by decide))
        have hnσ21 : Hn (gD σ) [11, 12, 13, 50, 60, 61, 62, 63, 64, 65, 66, 67, 21, 22, 31, 32, 5] [] gq LL LLσ21 N Nσ21 := hnτ37.go (hσ21.ge (fun a ha => (geτ37 a ha).1) (fun d hd => (fτ37.1 d hd).1)) (fun _ hd => hd) (by first | decide | exact fun _ h => h | (simp; done) | (intro x hx; simp only [List.mem_cons, List.mem_nil_iff, or_false] at hx ⊢; omega)) (fun d hd => absurd hd (by simp))
        have nσ21_3 := hσ21.2.2 3 (by first | decide | (simp; done) | (simp only [List.mem_cons, List.mem_nil_iff, or_false, not_or]; omega)) (by first | decide | omega) (by first | decide | omega) (by first | decide | omega)
        have nσ21_5 := hσ21.2.2 5 (by first | decide | (simp; done) | (simp only [List.mem_cons, List.mem_nil_iff, or_false, not_or]; omega)) (by first | decide | omega) (by first | decide | omega) (by first | decide | omega)
        have nσ21_14 := hσ21.2.2 14 (by first | decide | (simp; done) | (simp only [List.mem_cons, List.mem_nil_iff, or_false, not_or]; omega)) (by first | decide | omega) (by first | decide | omega) (by first | decide | omega)
        have nσ21_44 := hσ21.2.2 44 (by first | decide | (simp; done) | (simp only [List.mem_cons, List.mem_nil_iff, or_false, not_or]; omega)) (by first | decide | omega) (by first | decide | omega) (by first | decide | omega)
        have nσ21_74 := hσ21.2.2 74 (by first | decide | (simp; done) | (simp only [List.mem_cons, List.mem_nil_iff, or_false, not_or]; omega)) (by first | decide | omega) (by first | decide | omega) (by first | decide | omega)
        have nσ21_41 := hσ21.2.2 41 (by first | decide | (simp; done) | (simp only [List.mem_cons, List.mem_nil_iff, or_false, not_or]; omega)) (by first | decide | omega) (by first | decide | omega) (by first | decide | omega)
        have nσ21_42 := hσ21.2.2 42 (by first | decide | (simp; done) | (simp only [List.mem_cons, List.mem_nil_iff, or_false, not_or]; omega)) (by first | decide | omega) (by first | decide | omega) (by first | decide | omega)
        have nσ21_13 := hσ21.2.2 13 (by first | decide | (simp; done) | (simp only [List.mem_cons, List.mem_nil_iff, or_false, not_or]; omega)) (by first | decide | omega) (by first | decide | omega) (by first | decide | omega)
        have nσ21_50 := hσ21.2.2 50 (by first | decide | (simp; done) | (simp only [List.mem_cons, List.mem_nil_iff, or_false, not_or]; omega)) (by first | decide | omega) (by first | decide | omega) (by first | decide | omega)
        have nu_σ21 : NW nu nuσ21 := nu_τ37.tr uσ21.w
        have uσ21_0 := uσ21.1 0 (by decide)
        have uσ21_1 := uσ21.1 1 (by decide)
        have uσ21_2 := uσ21.2
        have uσ21_5 := uσ21.1 5 (by decide)
        have uσ21_15 := uσ21.1 15 (by decide)
        have uσ21_16 := uσ21.1 16 (by decide)
        have uσ21_17 := uσ21.1 17 (by decide)
        have kp87 : gI σ21 J 1 = gI τ37 J 1 := (cσ21.O (kJ.up (xσ14.trans (xσ15.trans (xσ17.trans (xσ18.trans (xσ19.trans xτ37)))))) (by decide)).1
        have kp88 : gP σ21 W 5 = gP τ37 W 5 := (cσ21.O (kW.up (xσ14.trans (xσ15.trans (xσ17.trans (xσ18.trans (xσ19.trans xτ37)))))) (by decide)).2.1
        have kp89 : gP σ21 th 0 = gP τ37 th 0 := (cσ21.O (kth.up (xσ14.trans (xσ15.trans (xσ17.trans (xσ18.trans (xσ19.trans xτ37)))))) (by decide)).2.1
        have kp90 : gP σ21 th 1 = gP τ37 th 1 := (cσ21.O (kth.up (xσ14.trans (xσ15.trans (xσ17.trans (xσ18.trans (xσ19.trans xτ37)))))) (by decide)).2.1
        have kp91 : gP σ21 th 2 = gP τ37 th 2 := (cσ21.O (kth.up (xσ14.trans (xσ15.trans (xσ17.trans (xσ18.trans (xσ19.trans xτ37)))))) (by decide)).2.1
        have kp92 : gP σ21 th 5 = gP τ37 th 5 := (cσ21.O (kth.up (xσ14.trans (xσ15.trans (xσ17.trans (xσ18.trans (xσ19.trans xτ37)))))) (by decide)).2.1
        have kp93 : gP σ21 th 9 = gP τ37 th 9 := (cσ21.O (kth.up (xσ14.trans (xσ15.trans (xσ17.trans (xσ18.trans (xσ19.trans xτ37)))))) (by decide)).2.1
        have kp94 : gI σ21 th 12 = gI τ37 th 12 := (cσ21.O (kth.up (xσ14.trans (xσ15.trans (xσ17.trans (xσ18.trans (xσ19.trans xτ37)))))) (by decide)).1
        have lt9 := hi37.2.1.fx iτ37 iσ21 GE.rf cσ21 (by omega) (by decide)
        have ft9 := hi37.2.2.fx (kF.up (xσ14.trans (xσ15.trans (xσ17.trans (xσ18.trans (xσ19.trans xτ37)))))) gF cσ21 (by decide)
        refine ⟨by (first | omega | with_reducible assumption | with_reducible exact rng_toInt _ | with_reducible exact rng_wr _ | (unfold rng; omega) | (unfold rng at *; omega) | assumption), ?_⟩
        exact ih37 σ21 gqt37 cit37 LLσ21 Nσ21 nuσ21 (v2 + 1) iσ21 fσ21 (xτ37.trans xσ21) ((GE.rf).tr giτ37 (fun d hd => ((Ext.rfl' _) d hd).1)) nu_σ21 hnσ21 (⟨⟨by omega, by omega, by omega, by omega, by omega, by omega⟩, lt9, ft9⟩) (by (first | omega | with_reducible assumption | with_reducible exact rng_toInt _ | with_reducible exact rng_wr _ | (unfold rng; omega) | (unfold rng at *; omega) | assumption))
  exact ⟨_, Lp37 _ σ19 gqσ19 ciσ19 LLσ19 Nσ19 nuσ19 _ iσ19 fσ19 (Ext.rfl' _) GE.rf nu_σ19 hnσ19 (⟨⟨by omega, by omega, by omega, by omega, by omega, by omega⟩, pσ19.2.1, pσ19.2.2.1⟩) (Nat.lt_succ_self _)⟩
set_option maxHeartbeats 1000000 in
theorem i_X9_begin {σ : Sg} {pl : Nat} {gq ci gr nc : Nat → Nat} {ot : Nat → Nat → Int} {LL : Nat → List Nat} {N nu : Nat → Nat} {th : Nat} {v1 : Option Nat} {v2 : Int} {v3 : Int} {v4 : Int64} {F D : Nat} (iσ : IV σ pl gq ci gr nc ot LL N nu) (kth : kO σ th 9) {J : Nat} (hv1 : v1 = some J) (kJ : kO σ J 4) (hF : gP σ th 5 = some F) (kF : kO σ F 100) (gF : gr F = 3) (hJ : gq J = nc 0) (hv : 1 ≤ v2 ∧ v2 ≤ 4) (h3 : 1 ≤ v3 ∧ v3 ≤ 8) (n5 : N 5 = 0) (hD : gP σ th 2 = some D) (kD : kO σ D 3) {Q : Sg → Unit → Prop} {X : Sg → String → Prop} (hQ : ∀ (σ' : Sg) (gq' ci' : Nat → Nat) (LL' : Nat → List Nat) (N' nu' : Nat → Nat) (r : Unit), IV σ' pl gq' ci' gr nc ot LL' N' nu' → GE (gD σ) gq ci gq' ci' → Fx [1, 64, 129, 130, 131, 132, 133, 134, 135, 194, 195, 196, 512, 513, 585, 586, 587, 588, 589, 590, 591, 592, 593, 594, 595, 640, 641, 645, 646, 647, 648, 649, 650, 651, 652, 653, 654, 655, 708, 709, 7168, 7680, 8512] gr σ σ' → NW nu nu' → Hn (gD σ) [11, 12, 13, 50, 60, 61, 62, 63, 64, 65, 66, 67, 68, 69, 70, 71, 21, 22, 31, 32, 5] [] gq LL LL' N N' → (N' 1 = N 1 ∧ N' 5 = 0 ∧ (nu' 17 = nc 1 ∧ gI σ' th 12 = v2 ∧ nu' 15 = bsO ot v2.toNat (nc 1)) ∧ gP σ' th 9 = some J ∧ (∀ w, gP σ' th 1 = some w → gP σ' w 5 = some J) ∧ gI σ' D 2 = 0) → Q σ' r) : wp_X9_begin th v1 v2 v3 v4 σ Q X := by
  have fσ : Fx [1, 64, 129, 130, 131, 132, 133, 134, 135, 194, 195, 196, 512, 513, 585, 586, 587, 588, 589, 590, 591, 592, 593, 594, 595, 640, 641, 645, 646, 647, 648, 649, 650, 651, 652, 653, 654, 655, 708, 709, 7168, 7680, 8512] gr σ σ := Fx.rf
  have geσ : GE (gD σ) gq ci gq ci := GE.rf
  have hnσ : Hn (gD σ) [11, 12, 13, 50, 60, 61, 62, 63, 64, 65, 66, 67, 68, 69, 70, 71, 21, 22, 31, 32, 5] [] gq LL LL N N := Hn.rf
  unfold wp_X9_begin
  unfold w_X9_begin_0
  refine i_X9_end iσ kth (by (first | omega | with_reducible assumption | with_reducible exact rng_toInt _ | with_reducible exact rng_wr _ | (unfold rng; omega) | (unfold rng at *; omega) | assumption)) hD kD (fun σ8 LLσ8 Nσ8 nuσ8 _ iσ8 cσ8 uσ8 hσ8 pσ8 => ?_)
  intro xσ8
  have fσ8 : Fx [1, 64, 129, 130, 131, 132, 133, 134, 135, 194, 195, 196, 512, 513, 585, 586, 587, 588, 589, 590, 591, 592, 593, 594, 595, 640, 641, 645, 646, 647, 648, 649, 650, 651, 652, 653, 654, 655, 708, 709, 7168, 7680, 8512] gr σ σ8 := fσ.tr (cσ8.mo (by decide))
  have hnσ8 : Hn (gD σ) [11, 12, 13, 50, 60, 61, 62, 63, 64, 65, 66, 67, 68, 69, 70, 71, 21, 22, 31, 32, 5] [] gq LL LLσ8 N Nσ8 := hnσ.go (hσ8.ge (fun a ha => (geσ a ha).1) (fun d hd => (fσ.1 d hd).1)) (fun _ hd => hd) (by first | decide | exact fun _ h => h | (simp; done) | (intro x hx; simp only [List.mem_cons, List.mem_nil_iff, or_false] at hx ⊢; omega)) (fun d hd => absurd hd (by simp))
  have nσ8_3 := hσ8.2.2 3 (by first | decide | (simp; done) | (simp only [List.mem_cons, List.mem_nil_iff, or_false, not_or]; omega)) (by first | decide | omega) (by first | decide | omega) (by first | decide | omega)
  have nσ8_14 := hσ8.2.2 14 (by first | decide | (simp; done) | (simp only [List.mem_cons, List.mem_nil_iff, or_false, not_or]; omega)) (by first | decide | omega) (by first | decide | omega) (by first | decide | omega)
  have nσ8_44 := hσ8.2.2 44 (by first | decide | (simp; done) | (simp only [List.mem_cons, List.mem_nil_iff, or_false, not_or]; omega)) (by first | decide | omega) (by first | decide | omega) (by first | decide | omega)
  have nσ8_74 := hσ8.2.2 74 (by first | decide | (simp; done) | (simp only [List.mem_cons, List.mem_nil_iff, or_false, not_or]; omega)) (by first | decide | omega) (by first | decide | omega) (by first | decide | omega)
  have nu_σ8 : NW nu nuσ8 := uσ8
  have uσ8_5 := uσ8.1 5 (by decide)
  have uσ8_0 := uσ8.2
  have kp1 : gP σ8 th 2 = gP σ th 2 := (cσ8.O kth (by decide)).2.1
  have kp2 : gP σ8 th 5 = gP σ th 5 := (cσ8.O kth (by decide)).2.1
  have kp3 : gP σ8 th 1 = gP σ th 1 := (cσ8.O kth (by decide)).2.1
  intro σ9 eσ9
  have xσ9 : Ext σ8 σ9 := by rw [eσ9]; exact fun _ h => ⟨h, rfl, rfl⟩
  have iσ9 : IV σ9 pl gq ci gr nc ot LLσ8 Nσ8 nuσ8 := by rw [eσ9]; exact iσ8.wP (kth.up xσ8) (by decide) (by intro q; exact absurd q (by simp [lbN])) (by intro _ _; trivial) (by intro q; exact absurd q (by decide))
  have fσ9 : Fx [1, 64, 129, 130, 131, 132, 133, 134, 135, 194, 195, 196, 512, 513, 585, 586, 587, 588, 589, 590, 591, 592, 593, 594, 595, 640, 641, 645, 646, 647, 648, 649, 650, 651, 652, 653, 654, 655, 708, 709, 7168, 7680, 8512] gr σ σ9 := fσ8.tr (Sk.fx (by rw [eσ9]; exact Sk.pP (by rw [fcdO (kth.up xσ8) (by decide)]; decide)))
  have wσ9 : gP σ9 th 9 = v1 := by rw [eσ9]; exact up2_s _ _ _ _
  have kp4 : gP σ9 th 2 = gP σ8 th 2 := by rw [eσ9]; exact up2_n _ _ (fun q => absurd q.2 (by decide))
  have kp5 : gP σ9 th 5 = gP σ8 th 5 := by rw [eσ9]; exact up2_n _ _ (fun q => absurd q.2 (by decide))
  have kp6 : gI σ9 D 2 = gI σ8 D 2 := by rw [eσ9]
  have kp7 : gP σ9 th 1 = gP σ8 th 1 := by rw [eσ9]; exact up2_n _ _ (fun q => absurd q.2 (by decide))
  obtain ⟨b, eb, fb⟩ := P_9_1 iσ9.1 (kth.up (xσ8.trans xσ9))
  have mb : kO σ9 b 11 := iσ9.1.kd (kth.up (xσ8.trans xσ9)) rfl eb rfl
  refine ⟨b, eb, fun kk_b => ?_⟩
  intro σ11 eσ11
  have xσ11 : Ext σ9 σ11 := by rw [eσ11]; exact fun _ h => ⟨h, rfl, rfl⟩
  have iσ11 : IV σ11 pl gq ci gr nc ot LLσ8 Nσ8 nuσ8 := by rw [eσ11]; exact iσ9.wP mb (by decide) (by intro q; exact absurd q (by simp [lbN])) (by intro _ _; trivial) (by intro q; exact absurd q (by decide))
  have fσ11 : Fx [1, 64, 129, 130, 131, 132, 133, 134, 135, 194, 195, 196, 512, 513, 585, 586, 587, 588, 589, 590, 591, 592, 593, 594, 595, 640, 641, 645, 646, 647, 648, 649, 650, 651, 652, 653, 654, 655, 708, 709, 7168, 7680, 8512] gr σ σ11 := fσ9.tr (Sk.fx (by rw [eσ11]; exact Sk.pP (by rw [fcdO mb (by decide)]; decide)))
  have wσ11 : gP σ11 b 5 = v1 := by rw [eσ11]; exact up2_s _ _ _ _
  have kp8 : gI σ11 th 9 = gI σ9 th 9 := by rw [eσ11]
  have kp9 : gP σ11 th 1 = gP σ9 th 1 := by rw [eσ11]; exact up2_n _ _ (fun q => absurd q.2 (by decide))
  have kp10 : gP σ11 th 2 = gP σ9 th 2 := by rw [eσ11]; exact up2_n _ _ (fun q => absurd q.2 (by decide))
  have kp11 : gP σ11 th 5 = gP σ9 th 5 := by rw [eσ11]; exact up2_n _ _ (fun q => absurd q.1 (kO.ne (kth.up (xσ8.trans xσ9)) mb (by decide)))
  have kp12 : gP σ11 th 9 = gP σ9 th 9 := by rw [eσ11]; exact up2_n _ _ (fun q => absurd q.2 (by decide))
  have kp13 : gI σ11 D 2 = gI σ9 D 2 := by rw [eσ11]
  intro σ12 eσ12
  have xσ12 : Ext σ11 σ12 := by rw [eσ12]; exact fun _ h => ⟨h, rfl, rfl⟩
  have iσ12 : IV σ12 pl gq ci gr nc ot LLσ8 Nσ8 nuσ8 := by rw [eσ12]; exact iσ11.wO (kth.up (xσ8.trans (xσ9.trans xσ11))) (by decide) (show (0 : Int) ≤ v3 ∧ v3 ≤ 8 from ⟨by (first | omega | with_reducible assumption | with_reducible exact rng_toInt _ | with_reducible exact rng_wr _ | (unfold rng; omega) | (unfold rng at *; omega) | assumption), by (first | omega | with_reducible assumption | with_reducible exact rng_toInt _ | with_reducible exact rng_wr _ | (unfold rng; omega) | (unfold rng at *; omega) | assumption)⟩)
  have fσ12 : Fx [1, 64, 129, 130, 131, 132, 133, 134, 135, 194, 195, 196, 512, 513, 585, 586, 587, 588, 589, 590, 591, 592, 593, 594, 595, 640, 641, 645, 646, 647, 648, 649, 650, 651, 652, 653, 654, 655, 708, 709, 7168, 7680, 8512] gr σ σ12 := fσ11.tr (Sk.fx (by rw [eσ12]; exact Sk.pI (by rw [fcdO (kth.up (xσ8.trans (xσ9.trans xσ11))) (by decide)]; decide)))
  have wσ12 : gI σ12 th 13 = v3 := by rw [eσ12]; exact up2_s _ _ _ _
  have kp14 : gI σ12 b 5 = gI σ11 b 5 := by rw [eσ12]; exact up2_n _ _ (fun q => absurd q.2 (by decide))
  have kp15 : gI σ12 th 9 = gI σ11 th 9 := by rw [eσ12]; exact up2_n _ _ (fun q => absurd q.2 (by decide))
  have kp16 : gP σ12 b 5 = gP σ11 b 5 := by rw [eσ12]
  have kp17 : gP σ12 th 1 = gP σ11 th 1 := by rw [eσ12]
  have kp18 : gP σ12 th 2 = gP σ11 th 2 := by rw [eσ12]
  have kp19 : gP σ12 th 5 = gP σ11 th 5 := by rw [eσ12]
  have kp20 : gP σ12 th 9 = gP σ11 th 9 := by rw [eσ12]
  have kp21 : gI σ12 D 2 = gI σ11 D 2 := by rw [eσ12]; exact up2_n _ _ (fun q => absurd q.2 (by decide))
  intro σ13 eσ13
  have xσ13 : Ext σ12 σ13 := by rw [eσ13]; exact fun _ h => ⟨h, rfl, rfl⟩
  have iσ13 : IV σ13 pl gq ci gr nc ot LLσ8 Nσ8 nuσ8 := by rw [eσ13]; exact iσ12.wJ (kth.up (xσ8.trans (xσ9.trans (xσ11.trans xσ12)))) (by decide)
  have fσ13 : Fx [1, 64, 129, 130, 131, 132, 133, 134, 135, 194, 195, 196, 512, 513, 585, 586, 587, 588, 589, 590, 591, 592, 593, 594, 595, 640, 641, 645, 646, 647, 648, 649, 650, 651, 652, 653, 654, 655, 708, 709, 7168, 7680, 8512] gr σ σ13 := fσ12.tr (Sk.fx (by rw [eσ13]; exact Sk.pJ (by rw [fcdO (kth.up (xσ8.trans (xσ9.trans (xσ11.trans xσ12)))) (by decide)]; decide)))
  have kp22 : gI σ13 b 5 = gI σ12 b 5 := by rw [eσ13]
  have kp23 : gI σ13 th 13 = gI σ12 th 13 := by rw [eσ13]
  have kp24 : gI σ13 th 9 = gI σ12 th 9 := by rw [eσ13]
  have kp25 : gP σ13 b 5 = gP σ12 b 5 := by rw [eσ13]
  have kp26 : gP σ13 th 1 = gP σ12 th 1 := by rw [eσ13]
  have kp27 : gP σ13 th 2 = gP σ12 th 2 := by rw [eσ13]
  have kp28 : gP σ13 th 5 = gP σ12 th 5 := by rw [eσ13]
  have kp29 : gP σ13 th 9 = gP σ12 th 9 := by rw [eσ13]
  have kp30 : gI σ13 D 2 = gI σ12 D 2 := by rw [eσ13]
  refine i_X9_layOut iσ13 (kth.up (xσ8.trans (xσ9.trans (xσ11.trans (xσ12.trans xσ13))))) (kp29.trans (kp20.trans (kp12.trans (wσ9.trans hv1)))) (kJ.up (xσ8.trans (xσ9.trans (xσ11.trans (xσ12.trans xσ13))))) (by (first | omega | with_reducible assumption | with_reducible exact rng_toInt _ | with_reducible exact rng_wr _ | (unfold rng; omega) | (unfold rng at *; omega) | assumption)) (kp28.trans (kp19.trans (kp11.trans (kp5.trans (kp2.trans hF))))) (kF.up (xσ8.trans (xσ9.trans (xσ11.trans (xσ12.trans xσ13))))) gF hv (⟨by omega, by omega, by omega, by omega⟩) (fun σ14 gqσ14 ciσ14 LLσ14 Nσ14 nuσ14 _ iσ14 gσ14 cσ14 uσ14 hσ14 pσ14 => ?_)
  intro xσ14
  have fσ14 : Fx [1, 64, 129, 130, 131, 132, 133, 134, 135, 194, 195, 196, 512, 513, 585, 586, 587, 588, 589, 590, 591, 592, 593, 594, 595, 640, 641, 645, 646, 647, 648, 649, 650, 651, 652, 653, 654, 655, 708, 709, 7168, 7680, 8512] gr σ σ14 := fσ13.tr (cσ14.mo (by decide))
  have geσ14 : GE (gD σ) gq ci gqσ14 ciσ14 := geσ.tr gσ14 (fun d hd => (fσ13.1 d hd).1)
  have gl31 := gσ14 J (kJ.up (xσ8.trans (xσ9.trans (xσ11.trans (xσ12.trans xσ13))))).1
  have gl32 := gσ14 b (mb.up (xσ11.trans (xσ12.trans xσ13))).1
  have hnσ14 : Hn (gD σ) [11, 12, 13, 50, 60, 61, 62, 63, 64, 65, 66, 67, 68, 69, 70, 71, 21, 22, 31, 32, 5] [] gq LL LLσ14 N Nσ14 := hnσ8.go (hσ14.ge (fun a ha => (geσ a ha).1) (fun d hd => (fσ13.1 d hd).1)) (fun _ hd => hd) (by first | decide | exact fun _ h => h | (simp; done) | (intro x hx; simp only [List.mem_cons, List.mem_nil_iff, or_false] at hx ⊢; omega)) (fun d hd => absurd hd (by simp))
  have nσ14_3 := hσ14.2.2 3 (by first | decide | (simp; done) | (simp only [List.mem_cons, List.mem_nil_iff, or_false, not_or]; omega)) (by first | decide | omega) (by first | decide | omega) (by first | decide | omega)
  have nσ14_14 := hσ14.2.2 14 (by first | decide | (simp; done) | (simp only [List.mem_cons, List.mem_nil_iff, or_false, not_or]; omega)) (by first | decide | omega) (by first | decide | omega) (by first | decide | omega)
  have nσ14_44 := hσ14.2.2 44 (by first | decide | (simp; done) | (simp only [List.mem_cons, List.mem_nil_iff, or_false, not_or]; omega)) (by first | decide | omega) (by first | decide | omega) (by first | decide | omega)
  have nσ14_74 := hσ14.2.2 74 (by first | decide | (simp; done) | (simp only [List.mem_cons, List.mem_nil_iff, or_false, not_or]; omega)) (by first | decide | omega) (by first | decide | omega) (by first | decide | omega)
  have nσ14_5 := hσ14.2.2 5 (by first | decide | (simp; done) | (simp only [List.mem_cons, List.mem_nil_iff, or_false, not_or]; omega)) (by first | decide | omega) (by first | decide | omega) (by first | decide | omega)
  have nu_σ14 : NW nu nuσ14 := nu_σ8.tr uσ14
  have uσ14_5 := uσ14.1 5 (by decide)
  have uσ14_0 := uσ14.2
  have kp33 : gI σ14 b 5 = gI σ13 b 5 := (cσ14.O (mb.up (xσ11.trans (xσ12.trans xσ13))) (by decide)).1
  have kp34 : gI σ14 th 13 = gI σ13 th 13 := (cσ14.O (kth.up (xσ8.trans (xσ9.trans (xσ11.trans (xσ12.trans xσ13))))) (by decide)).1
  have kp35 : gI σ14 th 9 = gI σ13 th 9 := (cσ14.O (kth.up (xσ8.trans (xσ9.trans (xσ11.trans (xσ12.trans xσ13))))) (by decide)).1
  have kp36 : gP σ14 b 5 = gP σ13 b 5 := (cσ14.O (mb.up (xσ11.trans (xσ12.trans xσ13))) (by decide)).2.1
  have kp37 : gP σ14 th 1 = gP σ13 th 1 := (cσ14.O (kth.up (xσ8.trans (xσ9.trans (xσ11.trans (xσ12.trans xσ13))))) (by decide)).2.1
  have kp38 : gP σ14 th 2 = gP σ13 th 2 := (cσ14.O (kth.up (xσ8.trans (xσ9.trans (xσ11.trans (xσ12.trans xσ13))))) (by decide)).2.1
  have kp39 : gP σ14 th 5 = gP σ13 th 5 := (cσ14.O (kth.up (xσ8.trans (xσ9.trans (xσ11.trans (xσ12.trans xσ13))))) (by decide)).2.1
  have kp40 : gP σ14 th 9 = gP σ13 th 9 := (cσ14.O (kth.up (xσ8.trans (xσ9.trans (xσ11.trans (xσ12.trans xσ13))))) (by decide)).2.1
  have kp41 : gI σ14 D 2 = gI σ13 D 2 := (cσ14.O (kD.up (xσ8.trans (xσ9.trans (xσ11.trans (xσ12.trans xσ13))))) (by decide)).1
  have eN9 := pσ14.2.2.2.2
  have eN1 := congrFun eN9 1
  have eN5 := congrFun eN9 5
  exact hQ σ14 gqσ14 ciσ14 LLσ14 Nσ14 nuσ14 () iσ14 geσ14 fσ14 (nu_σ14) hnσ14 (⟨by omega, by omega, ⟨by omega, by omega, by omega⟩, (kp40.trans (kp29.trans (kp20.trans (kp12.trans (wσ9.trans hv1))))), fun w hw => by have e9 := hw.symm.trans (kp37.trans (kp26.trans (kp17.trans (kp9.trans eb)))); cases e9; exact (kp36.trans (kp25.trans (kp16.trans (wσ11.trans hv1)))), by omega⟩)

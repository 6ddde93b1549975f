set_option maxHeartbeats 4000000 in
theorem i_X9_layOut_166 {σ : Sg} {pl : Nat} {gq ci gr nc : Nat → Nat} {ot : Nat → Nat → Int} {LL : Nat → List Nat} {N nu : Nat → Nat} {th : Nat} {v1 : Int} {J F : Nat} (iσ : IV σ pl gq ci gr nc ot LL N nu) (kth : kO σ th 9) (hj : gP σ th 9 = some J) (kJ : kO σ J 4) (hJ : gq J = nc 0) (hF : gP σ th 5 = some F) (kF : kO σ F 100) (gF : gr F = 3) (hv : 1 ≤ v1 ∧ v1 ≤ 4) (z15 : nu 15 = bsO ot v1.toNat (nc 1)) (z17 : nu 17 = nc 1) (z12 : gI σ th 12 = v1) (lt66 : LT1 σ gq ci nu ot v1.toNat) (ft66 : FT1 σ F ot v1.toNat (nc 1 + 1)) (z66 : Z12 σ gq ci nu 0) {Q : Sg → Unit → Prop} {X : Sg → String → Prop} (hQ : ∀ (σ' : Sg) (gq' ci' : Nat → Nat) (LL' : Nat → List Nat) (N' nu' : Nat → Nat) (r : Unit), IV σ' pl gq' ci' gr nc ot LL' N' nu' → GE (gD σ) gq ci gq' ci' → Fx [129, 130, 131, 132, 133, 134, 135, 586, 587, 588, 640, 641, 645, 646, 647, 648, 649, 650, 651, 652, 653, 654, 655, 7168, 7680, 8512] gr σ σ' → NW nu nu' → Hn (gD σ) [] [] gq LL LL' N N' → ((nu' 15 = bsO ot v1.toNat (nc 1) ∧ nu' 17 = nc 1 ∧ gI σ' th 12 = v1) ∧ LT1 σ' gq' ci' nu' ot v1.toNat ∧ FT1 σ' F ot v1.toNat (nc 1 + 1) ∧ LL' = LL ∧ N' = N) → Q σ' r) : ∃ n, wl_X9_layOut_166 th Q X n σ 0 := by
  have fσ : Fx [129, 130, 131, 132, 133, 134, 135, 586, 587, 588, 640, 641, 645, 646, 647, 648, 649, 650, 651, 652, 653, 654, 655, 7168, 7680, 8512] gr σ σ := Fx.rf
  have geσ : GE (gD σ) gq ci gq ci := GE.rf
  have hnσ : Hn (gD σ) [] [] gq LL LL N N := Hn.rf
  have q1 := I_9_12 iσ.1 kth
  have ncb := iσ.ncb
  have hv2 : 1 ≤ v1.toNat ∧ v1.toNat ≤ 4 := by omega
  have gF8 := (T_9_5 iσ.1 kth hF).1
  have Lp166 : ∀ (fu166 : Nat) (τ166 : Sg) (gqt166 cit166 : Nat → Nat) (LLt166 : Nat → List Nat) (Nt166 nut166 : Nat → Nat) (v2 : Int), IV τ166 pl gqt166 cit166 gr nc ot LLt166 Nt166 nut166 → Fx [129, 130, 131, 132, 133, 134, 135, 586, 587, 588, 640, 641, 645, 646, 647, 648, 649, 650, 651, 652, 653, 654, 655, 7168, 7680, 8512] gr σ τ166 → Ext σ τ166 → GE (gD σ) gq ci gqt166 cit166 → NW nu nut166 → Hn (gD σ) [] [] gq LL LLt166 N Nt166 → (((0 ≤ v2 ∧ v2 ≤ (nut166 15 : Int)) ∧ nut166 15 = bsO ot v1.toNat (nc 1) ∧ nut166 17 = nc 1 ∧ gI τ166 th 12 = v1) ∧ LT1 τ166 gqt166 cit166 nut166 ot v1.toNat ∧ FT1 τ166 F ot v1.toNat (nc 1 + 1) ∧ Z12 τ166 gqt166 cit166 nut166 v2 ∧ LLt166 = LL ∧ Nt166 = N) → (((nut166 15 : Int) - v2).toNat) < fu166 → wl_X9_layOut_166 th Q X fu166 τ166 v2 := by
    intro fu166
    induction fu166 with
    | zero => intro _ _ _ _ _ _ _ _ _ _ _ _ _ _ h9; omega
    | succ fu166 ih166 =>
      intro τ166 gqt166 cit166 LLt166 Nt166 nut166 v2 iτ166 fτ166 xτ166 giτ166 nu_τ166 hnτ166 hi166 hm166
      have geτ166 : GE (gD σ) gq ci gqt166 cit166 := geσ.tr giτ166 (fun d hd => (fσ.1 d hd).1)
      have gl2 := giτ166 J kJ.1
      have uτ166_5 := nu_τ166.1 5 (by decide)
      have uτ166_0 := nu_τ166.2
      unfold wl_X9_layOut_166
      have kp3 : gP τ166 th 5 = gP σ th 5 := (fτ166.O kth (by decide)).2.1
      have kp4 : gP τ166 th 9 = gP σ th 9 := (fτ166.O kth (by decide)).2.1
      have tc166 := iτ166.tc (kth.up xτ166)
      have n166 := iτ166.n16
      unfold w_X9_layOut_166
      have q6 := iτ166.tc (kth.up xτ166)
      have q7 := I_9_10 iτ166.1 (kth.up xτ166)
      by_cases hc5 : v2 ≥ gI τ166 th 10
      · rw [if_pos hc5]
        unfold w_X9_layOut_268
        exact hQ τ166 gqt166 cit166 LLt166 Nt166 nut166 () iτ166 geτ166 fτ166 (nu_τ166) hnτ166 (⟨⟨by omega, by omega, by omega⟩, hi166.2.1, hi166.2.2.1, hi166.2.2.2.2.1, hi166.2.2.2.2.2⟩)
      · rw [if_neg hc5]
        unfold w_X9_layOut_174
        have tc174 := iτ166.tc (kth.up xτ166)
        have n174 := iτ166.n16
        obtain ⟨b, eb, fb⟩ := P_9_3 iτ166.1 (kth.up xτ166)
        have mb : kO τ166 b 120 := iτ166.1.kd (kth.up xτ166) rfl eb rfl
        refine ⟨b, eb, fun kk_b => ?_⟩
        refine ⟨⟨by (first | omega | with_reducible assumption | with_reducible exact rng_toInt _ | with_reducible exact rng_wr _ | (unfold rng; omega) | (unfold rng at *; omega) | assumption), by (first | omega | with_reducible assumption | with_reducible exact rng_toInt _ | with_reducible exact rng_wr _ | (unfold rng; omega) | (unfold rng at *; omega) | assumption)⟩, ?_⟩
        have n16b_1 := iτ166.n16
        obtain ⟨b_1, eb_1, mb_1, fb_1⟩ := P_120 iτ166 mb (by omega) (k := v2.toNat) (by (first | omega | with_reducible assumption | with_reducible exact rng_toInt _ | with_reducible exact rng_wr _ | (unfold rng; omega) | (unfold rng at *; omega) | assumption))
        refine ⟨b_1, eb_1, fun kk_b_1 => ?_⟩
        intro σ69 eσ69
        have xσ69 : Ext τ166 σ69 := by rw [eσ69]; exact fun _ h => ⟨h, rfl, rfl⟩
        have q8 := iτ166.tc (kth.up xτ166)
        have q9 := I_9_11 iτ166.1 (kth.up xτ166)
        have iσ69 : IV σ69 pl gqt166 cit166 gr nc ot LLt166 Nt166 nut166 := by rw [eσ69]; exact iτ166.wTl mb_1 (Or.inr (Or.inr (Or.inl ⟨rfl, by omega, by have z9 := hi166.2.2.2.1 b_1 mb_1 (by omega) (by omega) (by omega); omega⟩)))
        have fσ69 : Fx [129, 130, 131, 132, 133, 134, 135, 586, 587, 588, 640, 641, 645, 646, 647, 648, 649, 650, 651, 652, 653, 654, 655, 7168, 7680, 8512] gr σ σ69 := fτ166.tr (Sk.fx (by rw [eσ69]; exact Sk.pI (by rw [fcdO mb_1 (by decide)]; decide)))
        have wσ69 : gI σ69 b_1 11 = (gI τ166 th 11) := by rw [eσ69]; exact up2_s _ _ _ _
        have kp10 : gI σ69 th 10 = gI τ166 th 10 := by rw [eσ69]; exact up2_n _ _ (fun q => absurd q.2 (by decide))
        have kp11 : gI σ69 th 11 = gI τ166 th 11 := by rw [eσ69]; exact up2_n _ _ (fun q => absurd q.1 (kO.ne (kth.up xτ166) mb_1 (by decide)))
        have kp12 : gP σ69 b v2.toNat = gP τ166 b v2.toNat := by rw [eσ69]
        have kp13 : gP σ69 th 3 = gP τ166 th 3 := by rw [eσ69]
        have kp14 : gP σ69 th 5 = gP τ166 th 5 := by rw [eσ69]
        have kp15 : gP σ69 th 9 = gP τ166 th 9 := by rw [eσ69]
        have kp16 : gI σ69 th 12 = gI τ166 th 12 := by rw [eσ69]; exact up2_n _ _ (fun q => absurd q.2 (by decide))
        have lt69 : LT1 σ69 gqt166 cit166 nut166 ot v1.toNat := by rw [eσ69]; exact hi166.2.1.pI (by decide)
        have z69 : Z12 σ69 gqt166 cit166 nut166 v2 := by rw [eσ69]; exact hi166.2.2.2.1.pI (by decide)
        have ft69 : FT1 σ69 F ot v1.toNat (nc 1 + 1) := by rw [eσ69]; exact hi166.2.2.1.pI mb_1 (kF.up xτ166) (by decide)
        refine ⟨J, (kp15.trans (kp4.trans hj)), fun kk_J => ?_⟩
        refine ⟨b, (kp13.trans eb), fun kk_b_2 => ?_⟩
        have q17 := (xσ69 b mb.1).2.2
        refine ⟨⟨by (first | omega | with_reducible assumption | with_reducible exact rng_toInt _ | with_reducible exact rng_wr _ | (unfold rng; omega) | (unfold rng at *; omega) | assumption), by (first | omega | with_reducible assumption | with_reducible exact rng_toInt _ | with_reducible exact rng_wr _ | (unfold rng; omega) | (unfold rng at *; omega) | assumption)⟩, ?_⟩
        refine ⟨b_1, (kp12.trans eb_1), fun kk_b_1_1 => ?_⟩
        obtain ⟨b_2, eb_2, fb_2⟩ := P_4_0 iσ69.1 (kJ.up (xτ166.trans xσ69))
        have mb_2 : kO σ69 b_2 115 := iσ69.1.kd (kJ.up (xτ166.trans xσ69)) rfl eb_2 rfl
        refine ⟨b_2, eb_2, fun kk_b_2_1 => ?_⟩
        have q18 := I_10_0 iσ69.1 (mb_1.up xσ69)
        refine ⟨⟨by (first | omega | with_reducible assumption | with_reducible exact rng_toInt _ | with_reducible exact rng_wr _ | (unfold rng; omega) | (unfold rng at *; omega) | assumption), by (first | omega | with_reducible assumption | with_reducible exact rng_toInt _ | with_reducible exact rng_wr _ | (unfold rng; omega) | (unfold rng at *; omega) | assumption)⟩, ?_⟩
        obtain ⟨b_3, eb_3⟩ := P_115 iσ69.1 mb_2 (k := (gI σ69 b_1 0).toNat) (by (first | omega | with_reducible assumption | with_reducible exact rng_toInt _ | with_reducible exact rng_wr _ | (unfold rng; omega) | (unfold rng at *; omega) | assumption))
        have fb_3 := T_115 iσ69.1 mb_2 eb_3
        have mb_3 : kO σ69 b_3 5 := iσ69.1.kd mb_2 rfl eb_3 rfl
        refine ⟨b_3, eb_3, fun kk_b_3 => ?_⟩
        have to75 := iσ69.tko (mb_1.up xσ69) (by omega) (by omega)
        have oo7 := iσ69.op mb_3 (i := (gI σ69 b_1 0).toNat) (by omega) (by omega) 7 (by decide)
        have ok7 := (iσ69.opok (i := (gI σ69 b_1 0).toNat) (by omega)).2.1
        have q19 := I_5_7 iσ69.1 mb_3
        refine i_X9_connect iσ69 (kth.up (xτ166.trans xσ69)) (kp15.trans (kp4.trans hj)) (kJ.up (xτ166.trans xσ69)) (by (first | omega | with_reducible assumption | with_reducible exact rng_toInt _ | with_reducible exact rng_wr _ | (unfold rng; omega) | (unfold rng at *; omega) | assumption)) (kp14.trans (kp3.trans hF)) (kF.up (xτ166.trans xσ69)) (by (first | omega | with_reducible assumption | with_reducible exact rng_toInt _ | with_reducible exact rng_wr _ | (unfold rng; omega) | (unfold rng at *; omega) | assumption)) hv2 lt69 ft69 (by omega) (by (first | omega | with_reducible assumption | with_reducible exact rng_toInt _ | with_reducible exact rng_wr _ | (unfold rng; omega) | (unfold rng at *; omega) | assumption)) (by (first | omega | with_reducible assumption | with_reducible exact rng_toInt _ | with_reducible exact rng_wr _ | (unfold rng; omega) | (unfold rng at *; omega) | assumption)) (by (first | omega | with_reducible assumption | with_reducible exact rng_toInt _ | with_reducible exact rng_wr _ | (unfold rng; omega) | (unfold rng at *; omega) | assumption)) (fun σ75 gqσ75 ciσ75 LLσ75 Nσ75 nuσ75 _ iσ75 gσ75 cσ75 uσ75 hσ75 pσ75 => ?_)
        intro xσ75
        have fσ75 : Fx [129, 130, 131, 132, 133, 134, 135, 586, 587, 588, 640, 641, 645, 646, 647, 648, 649, 650, 651, 652, 653, 654, 655, 7168, 7680, 8512] gr σ σ75 := fσ69.tr (cσ75.mo (by decide))
        have geσ75 : GE (gD σ) gq ci gqσ75 ciσ75 := geτ166.tr gσ75 (fun d hd => (fσ69.1 d hd).1)
        have gl20 := gσ75 J (kJ.up (xτ166.trans xσ69)).1
        have gl21 := gσ75 b (mb.up xσ69).1
        have gl22 := gσ75 b_1 (mb_1.up xσ69).1
        have gl23 := gσ75 b_2 mb_2.1
        have gl24 := gσ75 b_3 mb_3.1
        have hnσ75 : Hn (gD σ) [] [] gq LL LLσ75 N Nσ75 := hnτ166.go (hσ75.ge (fun a ha => (geτ166 a ha).1) (fun d hd => (fσ69.1 d hd).1)) (fun _ hd => hd) (by first | decide | exact fun _ h => h | (simp; done) | (intro x hx; simp only [List.mem_cons, List.mem_nil_iff, or_false] at hx ⊢; omega)) (fun d hd => absurd hd (by simp))
        have nu_σ75 : NW nu nuσ75 := nu_τ166.tr uσ75
        have uσ75_5 := uσ75.1 5 (by decide)
        have uσ75_0 := uσ75.2
        have kp25 : gI σ75 b_1 0 = gI σ69 b_1 0 := (cσ75.O (mb_1.up xσ69) (by decide)).1
        have kp26 : gI σ75 b_1 11 = gI σ69 b_1 11 := (cσ75.O (mb_1.up xσ69) (by decide)).1
        have kp27 : gI σ75 b_3 7 = gI σ69 b_3 7 := (cσ75.O mb_3 (by decide)).1
        have kp28 : gI σ75 th 10 = gI σ69 th 10 := (cσ75.O (kth.up (xτ166.trans xσ69)) (by decide)).1
        have kp29 : gP σ75 J 0 = gP σ69 J 0 := (cσ75.O (kJ.up (xτ166.trans xσ69)) (by decide)).2.1
        have kp30 : gP σ75 b v2.toNat = gP σ69 b v2.toNat := (cσ75.A (mb.up xσ69) (by decide)).2.1
        have kp31 : gP σ75 b_2 (gI σ69 b_1 0).toNat = gP σ69 b_2 (gI σ69 b_1 0).toNat := (cσ75.A mb_2 (by decide)).2.1
        have kp32 : gP σ75 th 3 = gP σ69 th 3 := (cσ75.O (kth.up (xτ166.trans xσ69)) (by decide)).2.1
        have kp33 : gP σ75 th 5 = gP σ69 th 5 := (cσ75.O (kth.up (xτ166.trans xσ69)) (by decide)).2.1
        have kp34 : gP σ75 th 9 = gP σ69 th 9 := (cσ75.O (kth.up (xτ166.trans xσ69)) (by decide)).2.1
        have kp35 : gI σ75 th 12 = gI σ69 th 12 := (cσ75.O (kth.up (xτ166.trans xσ69)) (by decide)).1
        have lt75 := lt69.fx iσ69 iσ75 gσ75 cσ75 (by omega) (by decide)
        have z75 := z69.fx iσ69 iσ75 gσ75 cσ75 (by omega) (by decide)
        have ft75 := ft69.fx (kF.up (xτ166.trans xσ69)) gF cσ75 (by decide)
        refine ⟨J, (kp34.trans (kp15.trans (kp4.trans hj))), fun kk_J_1 => ?_⟩
        refine ⟨b, (kp32.trans (kp13.trans eb)), fun kk_b_4 => ?_⟩
        have q36 := ((xσ69.trans xσ75) b mb.1).2.2
        refine ⟨⟨by (first | omega | with_reducible assumption | with_reducible exact rng_toInt _ | with_reducible exact rng_wr _ | (unfold rng; omega) | (unfold rng at *; omega) | assumption), by (first | omega | with_reducible assumption | with_reducible exact rng_toInt _ | with_reducible exact rng_wr _ | (unfold rng; omega) | (unfold rng at *; omega) | assumption)⟩, ?_⟩
        refine ⟨b_1, (kp30.trans (kp12.trans eb_1)), fun kk_b_1_2 => ?_⟩
        refine ⟨b_2, (kp29.trans eb_2), fun kk_b_2_2 => ?_⟩
        have q37 := (xσ75 b_2 mb_2.1).2.2
        refine ⟨⟨by (first | omega | with_reducible assumption | with_reducible exact rng_toInt _ | with_reducible exact rng_wr _ | (unfold rng; omega) | (unfold rng at *; omega) | assumption), by (first | omega | with_reducible assumption | with_reducible exact rng_toInt _ | with_reducible exact rng_wr _ | (unfold rng; omega) | (unfold rng at *; omega) | assumption)⟩, ?_⟩
        obtain ⟨b_4, eb_4⟩ := P_115 iσ75.1 (mb_2.up xσ75) (k := (gI σ75 b_1 0).toNat) (by (first | omega | with_reducible assumption | with_reducible exact rng_toInt _ | with_reducible exact rng_wr _ | (unfold rng; omega) | (unfold rng at *; omega) | assumption))
        have fb_4 := T_115 iσ75.1 (mb_2.up xσ75) eb_4
        have mb_4 : kO σ75 b_4 5 := iσ75.1.kd (mb_2.up xσ75) rfl eb_4 rfl
        refine ⟨b_4, eb_4, fun kk_b_4_1 => ?_⟩
        have to81 := iσ75.tko (mb_1.up (xσ69.trans xσ75)) (by omega) (by omega)
        have oo8 := iσ75.op mb_4 (i := (gI σ75 b_1 0).toNat) (by omega) (by omega) 8 (by decide)
        have ok8 := (iσ75.opok (i := (gI σ75 b_1 0).toNat) (by omega)).2.2.1
        have q38 := I_5_8 iσ75.1 mb_4
        refine i_X9_connect iσ75 (kth.up (xτ166.trans (xσ69.trans xσ75))) (kp34.trans (kp15.trans (kp4.trans hj))) (kJ.up (xτ166.trans (xσ69.trans xσ75))) (by (first | omega | with_reducible assumption | with_reducible exact rng_toInt _ | with_reducible exact rng_wr _ | (unfold rng; omega) | (unfold rng at *; omega) | assumption)) (kp33.trans (kp14.trans (kp3.trans hF))) (kF.up (xτ166.trans (xσ69.trans xσ75))) (by (first | omega | with_reducible assumption | with_reducible exact rng_toInt _ | with_reducible exact rng_wr _ | (unfold rng; omega) | (unfold rng at *; omega) | assumption)) hv2 lt75 ft75 (by omega) (by (first | omega | with_reducible assumption | with_reducible exact rng_toInt _ | with_reducible exact rng_wr _ | (unfold rng; omega) | (unfold rng at *; omega) | assumption)) (by (first | omega | with_reducible assumption | with_reducible exact rng_toInt _ | with_reducible exact rng_wr _ | (unfold rng; omega) | (unfold rng at *; omega) | assumption)) (by (first | omega | with_reducible assumption | with_reducible exact rng_toInt _ | with_reducible exact rng_wr _ | (unfold rng; omega) | (unfold rng at *; omega) | assumption)) (fun σ81 gqσ81 ciσ81 LLσ81 Nσ81 nuσ81 _ iσ81 gσ81 cσ81 uσ81 hσ81 pσ81 => ?_)
        intro xσ81
        have fσ81 : Fx [129, 130, 131, 132, 133, 134, 135, 586, 587, 588, 640, 641, 645, 646, 647, 648, 649, 650, 651, 652, 653, 654, 655, 7168, 7680, 8512] gr σ σ81 := fσ75.tr (cσ81.mo (by decide))
        have geσ81 : GE (gD σ) gq ci gqσ81 ciσ81 := geσ75.tr gσ81 (fun d hd => (fσ75.1 d hd).1)
        have gl39 := gσ81 J (kJ.up (xτ166.trans (xσ69.trans xσ75))).1
        have gl40 := gσ81 b (mb.up (xσ69.trans xσ75)).1
        have gl41 := gσ81 b_1 (mb_1.up (xσ69.trans xσ75)).1
        have gl42 := gσ81 b_2 (mb_2.up xσ75).1
        have gl43 := gσ81 b_3 (mb_3.up xσ75).1
        have gl44 := gσ81 b_4 mb_4.1
        have hnσ81 : Hn (gD σ) [] [] gq LL LLσ81 N Nσ81 := hnσ75.go (hσ81.ge (fun a ha => (geσ75 a ha).1) (fun d hd => (fσ75.1 d hd).1)) (fun _ hd => hd) (by first | decide | exact fun _ h => h | (simp; done) | (intro x hx; simp only [List.mem_cons, List.mem_nil_iff, or_false] at hx ⊢; omega)) (fun d hd => absurd hd (by simp))
        have nu_σ81 : NW nu nuσ81 := nu_σ75.tr uσ81
        have uσ81_5 := uσ81.1 5 (by decide)
        have uσ81_0 := uσ81.2
        have kp45 : gI σ81 b_1 0 = gI σ75 b_1 0 := (cσ81.O (mb_1.up (xσ69.trans xσ75)) (by decide)).1
        have kp46 : gI σ81 b_1 11 = gI σ75 b_1 11 := (cσ81.O (mb_1.up (xσ69.trans xσ75)) (by decide)).1
        have kp47 : gI σ81 b_3 7 = gI σ75 b_3 7 := (cσ81.O (mb_3.up xσ75) (by decide)).1
        have kp48 : gI σ81 b_4 8 = gI σ75 b_4 8 := (cσ81.O mb_4 (by decide)).1
        have kp49 : gI σ81 th 10 = gI σ75 th 10 := (cσ81.O (kth.up (xτ166.trans (xσ69.trans xσ75))) (by decide)).1
        have kp50 : gP σ81 J 0 = gP σ75 J 0 := (cσ81.O (kJ.up (xτ166.trans (xσ69.trans xσ75))) (by decide)).2.1
        have kp51 : gP σ81 b v2.toNat = gP σ75 b v2.toNat := (cσ81.A (mb.up (xσ69.trans xσ75)) (by decide)).2.1
        have kp52 : gP σ81 b_2 (gI σ69 b_1 0).toNat = gP σ75 b_2 (gI σ69 b_1 0).toNat := (cσ81.A (mb_2.up xσ75) (by decide)).2.1
        have kp53 : gP σ81 b_2 (gI σ75 b_1 0).toNat = gP σ75 b_2 (gI σ75 b_1 0).toNat := (cσ81.A (mb_2.up xσ75) (by decide)).2.1
        have kp54 : gP σ81 th 3 = gP σ75 th 3 := (cσ81.O (kth.up (xτ166.trans (xσ69.trans xσ75))) (by decide)).2.1
        have kp55 : gP σ81 th 5 = gP σ75 th 5 := (cσ81.O (kth.up (xτ166.trans (xσ69.trans xσ75))) (by decide)).2.1
        have kp56 : gP σ81 th 9 = gP σ75 th 9 := (cσ81.O (kth.up (xτ166.trans (xσ69.trans xσ75))) (by decide)).2.1
        have kp57 : gI σ81 th 12 = gI σ75 th 12 := (cσ81.O (kth.up (xτ166.trans (xσ69.trans xσ75))) (by decide)).1
        have tc81 := iσ81.tc (kth.up (xτ166.trans (xσ69.trans (xσ75.trans xσ81))))
        have n81 := iσ81.n16
        have lt81 := lt75.fx iσ75 iσ81 gσ81 cσ81 (by omega) (by decide)
        have z81 := z75.fx iσ75 iσ81 gσ81 cσ81 (by omega) (by decide)
        have ft81 := ft75.fx (kF.up (xτ166.trans (xσ69.trans xσ75))) gF cσ81 (by decide)
        refine ⟨b, (kp54.trans (kp32.trans (kp13.trans eb))), fun kk_b_5 => ?_⟩
        have q58 := ((xσ69.trans (xσ75.trans xσ81)) b mb.1).2.2
        refine ⟨⟨by (first | omega | with_reducible assumption | with_reducible exact rng_toInt _ | with_reducible exact rng_wr _ | (unfold rng; omega) | (unfold rng at *; omega) | assumption), by (first | omega | with_reducible assumption | with_reducible exact rng_toInt _ | with_reducible exact rng_wr _ | (unfold rng; omega) | (unfold rng at *; omega) | assumption)⟩, ?_⟩
        refine ⟨⟨by (first | omega | with_reducible assumption | with_reducible exact rng_toInt _ | with_reducible exact rng_wr _ | (unfold rng; omega) | (unfold rng at *; omega) | assumption), by (first | omega | with_reducible assumption | with_reducible exact rng_toInt _ | with_reducible exact rng_wr _ | (unfold rng; omega) | (unfold rng at *; omega) | assumption)⟩, ?_⟩
        refine ⟨b_1, (kp51.trans (kp30.trans (kp12.trans eb_1))), fun kk_b_1_3 => ?_⟩
        have q59 := iσ81.tc (kth.up (xτ166.trans (xσ69.trans (xσ75.trans xσ81))))
        have q60 := I_9_11 iσ81.1 (kth.up (xτ166.trans (xσ69.trans (xσ75.trans xσ81))))
        refine ⟨by (first | omega | with_reducible assumption | with_reducible exact rng_toInt _ | with_reducible exact rng_wr _ | (unfold rng; omega) | (unfold rng at *; omega) | assumption), ?_⟩
        intro σ84 eσ84
        have xσ84 : Ext σ81 σ84 := by rw [eσ84]; exact fun _ h => ⟨h, rfl, rfl⟩
        have iσ84 : IV σ84 pl gqσ81 ciσ81 gr nc ot LLσ81 Nσ81 nuσ81 := by rw [eσ84]; exact iσ81.wTl (mb_1.up (xσ69.trans (xσ75.trans xσ81))) (Or.inr (Or.inr (Or.inr ⟨rfl, by omega, by omega⟩)))
        have fσ84 : Fx [129, 130, 131, 132, 133, 134, 135, 586, 587, 588, 640, 641, 645, 646, 647, 648, 649, 650, 651, 652, 653, 654, 655, 7168, 7680, 8512] gr σ σ84 := fσ81.tr (Sk.fx (by rw [eσ84]; exact Sk.pI (by rw [fcdO (mb_1.up (xσ69.trans (xσ75.trans xσ81))) (by decide)]; decide)))
        have wσ84 : gI σ84 b_1 12 = (gI σ81 th 11 - gI σ81 b_1 11) := by rw [eσ84]; exact up2_s _ _ _ _
        have kp61 : gI σ84 b_1 0 = gI σ81 b_1 0 := by rw [eσ84]; exact up2_n _ _ (fun q => absurd q.2 (by decide))
        have kp62 : gI σ84 b_1 11 = gI σ81 b_1 11 := by rw [eσ84]; exact up2_n _ _ (fun q => absurd q.2 (by decide))
        have kp63 : gI σ84 b_3 7 = gI σ81 b_3 7 := by rw [eσ84]; exact up2_n _ _ (fun q => absurd q.2 (by decide))
        have kp64 : gI σ84 b_4 8 = gI σ81 b_4 8 := by rw [eσ84]; exact up2_n _ _ (fun q => absurd q.2 (by decide))
        have kp65 : gI σ84 th 10 = gI σ81 th 10 := by rw [eσ84]; exact up2_n _ _ (fun q => absurd q.2 (by decide))
        have kp66 : gI σ84 th 11 = gI σ81 th 11 := by rw [eσ84]; exact up2_n _ _ (fun q => absurd q.2 (by decide))
        have kp67 : gP σ84 J 0 = gP σ81 J 0 := by rw [eσ84]
        have kp68 : gP σ84 b v2.toNat = gP σ81 b v2.toNat := by rw [eσ84]
        have kp69 : gP σ84 b_2 (gI σ69 b_1 0).toNat = gP σ81 b_2 (gI σ69 b_1 0).toNat := by rw [eσ84]
        have kp70 : gP σ84 b_2 (gI σ75 b_1 0).toNat = gP σ81 b_2 (gI σ75 b_1 0).toNat := by rw [eσ84]
        have kp71 : gP σ84 th 3 = gP σ81 th 3 := by rw [eσ84]
        have kp72 : gP σ84 th 5 = gP σ81 th 5 := by rw [eσ84]
        have kp73 : gP σ84 th 9 = gP σ81 th 9 := by rw [eσ84]
        have kp74 : gI σ84 th 12 = gI σ81 th 12 := by rw [eσ84]; exact up2_n _ _ (fun q => absurd q.1 (kO.ne (kth.up (xτ166.trans (xσ69.trans (xσ75.trans xσ81)))) (mb_1.up (xσ69.trans (xσ75.trans xσ81))) (by decide)))
        have lt84 : LT1 σ84 gqσ81 ciσ81 nuσ81 ot v1.toNat := by rw [eσ84]; exact lt81.pI (by decide)
        have z84 : Z12 σ84 gqσ81 ciσ81 nuσ81 (v2 + 1) := by rw [eσ84]; exact z12_pI2 z81 iσ81 (mb_1.up (xσ69.trans (xσ75.trans xσ81))) (by omega)
        have ft84 : FT1 σ84 F ot v1.toNat (nc 1 + 1) := by rw [eσ84]; exact ft81.pI (mb_1.up (xσ69.trans (xσ75.trans xσ81))) (kF.up (xτ166.trans (xσ69.trans (xσ75.trans xσ81)))) (by decide)
        refine ⟨by (first | omega | with_reducible assumption | with_reducible exact rng_toInt _ | with_reducible exact rng_wr _ | (unfold rng; omega) | (unfold rng at *; omega) | assumption), ?_⟩
        exact ih166 σ84 gqσ81 ciσ81 LLσ81 Nσ81 nuσ81 (v2 + 1) iσ84 fσ84 (xτ166.trans (xσ69.trans (xσ75.trans (xσ81.trans xσ84)))) ((((GE.rf).tr giτ166 (fun d hd => ((Ext.rfl' _) d hd).1)).tr gσ75 (fun d hd => ((xτ166.trans xσ69) d hd).1)).tr gσ81 (fun d hd => ((xτ166.trans (xσ69.trans xσ75)) d hd).1)) nu_σ81 hnσ81 (⟨⟨by omega, by omega, by omega, by omega⟩, lt84, ft84, z84, pσ81.2.2.2.1.trans (pσ75.2.2.2.1.trans hi166.2.2.2.2.1), pσ81.2.2.2.2.trans (pσ75.2.2.2.2.trans hi166.2.2.2.2.2)⟩) (by (first | omega | with_reducible assumption | with_reducible exact rng_toInt _ | with_reducible exact rng_wr _ | (unfold rng; omega) | (unfold rng at *; omega) | assumption))
  exact ⟨_, Lp166 _ σ gq ci LL N nu _ iσ fσ (Ext.rfl' _) GE.rf NW.rf hnσ (⟨⟨by omega, by omega, by omega, by omega⟩, lt66, ft66, z66, rfl, rfl⟩) (Nat.lt_succ_self _)⟩

set_option maxHeartbeats 4000000 in
theorem i_X9_layOut_68 {σ : Sg} {pl : Nat} {gq ci gr nc : Nat → Nat} {ot : Nat → Nat → Int} {LL : Nat → List Nat} {N nu : Nat → Nat} {th : Nat} {v1 : Int} {F : Nat} {v2 v3 : Int} {K17 : Sg → Int → Prop} (iσ : IV σ pl gq ci gr nc ot LL N nu) (kth : kO σ th 9) (hF : gP σ th 5 = some F) (kF : kO σ F 100) (gF : gr F = 3) (hv : 1 ≤ v1 ∧ v1 ≤ 4) (h2i : 0 ≤ v2 ∧ v2 < (nc 1 : Int)) (bq : (bsO ot v1.toNat (v2.toNat + 1) : Int) = bsO ot v1.toNat v2.toNat + v3) (bv : 1 ≤ v3 ∧ v3 ≤ v1) (z15 : nu 15 = bsO ot v1.toNat v2.toNat) (z16 : nu 16 = 0) (z17 : nu 17 = nc 1) (z12 : gI σ th 12 = v1) (lt48 : LT1 σ gq ci nu ot v1.toNat) (ft48 : FT1 σ F ot v1.toNat (v2.toNat + 1)) (z48 : Z12 σ gq ci nu 0) {Q : Sg → Unit → Prop} {X : Sg → String → Prop} (hQ : ∀ (σ' : Sg) (gq' ci' : Nat → Nat) (LL' : Nat → List Nat) (N' nu' : Nat → Nat), IV σ' pl gq' ci' gr nc ot LL' N' nu' → GE (gD σ) gq ci gq' ci' → Fx [129, 130, 131, 132, 133, 134, 135, 586, 587, 588, 640, 641, 645, 646, 647, 648, 649, 650, 651, 652, 653, 654, 655, 7168, 7680, 8512] gr σ σ' → NW nu nu' → Hn (gD σ) [] [] gq LL LL' N N' → ((nu' 15 = bsO ot v1.toNat (v2.toNat + 1) ∧ nu' 16 = 0 ∧ nu' 17 = nc 1 ∧ gI σ' th 12 = v1) ∧ LT1 σ' gq' ci' nu' ot v1.toNat ∧ FT1 σ' F ot v1.toNat (v2.toNat + 1) ∧ Z12 σ' gq' ci' nu' 0 ∧ LL' = LL ∧ N' = N) → K17 σ' (v2 + 1)) : ∃ n, wl_X9_layOut_68 th K17 Q X n σ v2 v3 0 := by
  have fσ : Fx [129, 130, 131, 132, 133, 134, 135, 586, 587, 588, 640, 641, 645, 646, 647, 648, 649, 650, 651, 652, 653, 654, 655, 7168, 7680, 8512] gr σ σ := Fx.rf
  have geσ : GE (gD σ) gq ci gq ci := GE.rf
  have hnσ : Hn (gD σ) [] [] gq LL LL N N := Hn.rf
  have q1 := I_9_12 iσ.1 kth
  have ncb := iσ.ncb
  have hv2 : 1 ≤ v1.toNat ∧ v1.toNat ≤ 4 := by omega
  have gF8 := (T_9_5 iσ.1 kth hF).1
  have bl := bsO_le (ot := ot) hv2 (v2.toNat + 1)
  have Lp68 : ∀ (fu68 : Nat) (τ68 : Sg) (gqt68 cit68 : Nat → Nat) (LLt68 : Nat → List Nat) (Nt68 nut68 : Nat → Nat) (v4 : Int), IV τ68 pl gqt68 cit68 gr nc ot LLt68 Nt68 nut68 → Fx [129, 130, 131, 132, 133, 134, 135, 586, 587, 588, 640, 641, 645, 646, 647, 648, 649, 650, 651, 652, 653, 654, 655, 7168, 7680, 8512] gr σ τ68 → Ext σ τ68 → GE (gD σ) gq ci gqt68 cit68 → NW nu nut68 → Hn (gD σ) [] [] gq LL LLt68 N Nt68 → (((0 ≤ v4 ∧ v4 ≤ v3) ∧ nut68 15 = bsO ot v1.toNat v2.toNat + v4.toNat ∧ nut68 16 = 0 ∧ nut68 17 = nc 1 ∧ gI τ68 th 12 = v1) ∧ LT1 τ68 gqt68 cit68 nut68 ot v1.toNat ∧ FT1 τ68 F ot v1.toNat (v2.toNat + 1) ∧ Z12 τ68 gqt68 cit68 nut68 0 ∧ LLt68 = LL ∧ Nt68 = N) → ((v3 - v4).toNat) < fu68 → wl_X9_layOut_68 th K17 Q X fu68 τ68 v2 v3 v4 := by
    intro fu68
    induction fu68 with
    | zero => intro _ _ _ _ _ _ _ _ _ _ _ _ _ _ h9; omega
    | succ fu68 ih68 =>
      intro τ68 gqt68 cit68 LLt68 Nt68 nut68 v4 iτ68 fτ68 xτ68 giτ68 nu_τ68 hnτ68 hi68 hm68
      have geτ68 : GE (gD σ) gq ci gqt68 cit68 := geσ.tr giτ68 (fun d hd => (fσ.1 d hd).1)
      have uτ68_5 := nu_τ68.1 5 (by decide)
      have uτ68_0 := nu_τ68.2
      unfold wl_X9_layOut_68
      have kp2 : gP τ68 th 5 = gP σ th 5 := (fτ68.O kth (by decide)).2.1
      have tc68 := iτ68.tc (kth.up xτ68)
      have n68 := iτ68.n16
      unfold w_X9_layOut_68
      by_cases hc3 : v4 ≥ v3
      · rw [if_pos hc3]
        unfold w_X9_layOut_142
        refine ⟨by (first | omega | with_reducible assumption | with_reducible exact rng_toInt _ | with_reducible exact rng_wr _ | (unfold rng; omega) | (unfold rng at *; omega) | assumption), ?_⟩
        exact hQ τ68 gqt68 cit68 LLt68 Nt68 nut68 iτ68 geτ68 fτ68 (nu_τ68) hnτ68 (⟨⟨by omega, by omega, by omega, by omega⟩, hi68.2.1, hi68.2.2.1, hi68.2.2.2.1, hi68.2.2.2.2.1, hi68.2.2.2.2.2⟩)
      · rw [if_neg hc3]
        unfold w_X9_layOut_74
        have q5 := iτ68.tc (kth.up xτ68)
        have q6 := I_9_10 iτ68.1 (kth.up xτ68)
        by_cases hc4 : gI τ68 th 10 ≥ 64
        · rw [if_pos hc4]
          unfold w_X9_layOut_142
          refine ⟨by (first | omega | with_reducible assumption | with_reducible exact rng_toInt _ | with_reducible exact rng_wr _ | (unfold rng; omega) | (unfold rng at *; omega) | assumption), ?_⟩
          exact hQ τ68 gqt68 cit68 LLt68 Nt68 nut68 iτ68 geτ68 fτ68 (nu_τ68) hnτ68 (⟨⟨by omega, by omega, by omega, by omega⟩, hi68.2.1, hi68.2.2.1, hi68.2.2.2.1, hi68.2.2.2.2.1, hi68.2.2.2.2.2⟩)
        · rw [if_neg hc4]
          unfold w_X9_layOut_83
          have tc83 := iτ68.tc (kth.up xτ68)
          have n83 := iτ68.n16
          obtain ⟨b, eb, fb⟩ := P_9_3 iτ68.1 (kth.up xτ68)
          have mb : kO τ68 b 120 := iτ68.1.kd (kth.up xτ68) rfl eb rfl
          refine ⟨b, eb, fun kk_b => ?_⟩
          refine ⟨⟨by (first | omega | with_reducible assumption | with_reducible exact rng_toInt _ | with_reducible exact rng_wr _ | (unfold rng; omega) | (unfold rng at *; omega) | assumption), by (first | omega | with_reducible assumption | with_reducible exact rng_toInt _ | with_reducible exact rng_wr _ | (unfold rng; omega) | (unfold rng at *; omega) | assumption)⟩, ?_⟩
          by_cases hc7 : (gP τ68 b (gI τ68 th 10).toNat) ≠ none
          · rw [if_pos hc7]
            unfold w_X9_layOut_111
            have tc111 := iτ68.tc (kth.up xτ68)
            have n111 := iτ68.n16
            have sl9 : gP τ68 b (gI τ68 th 10).toNat ≠ none := by first | assumption | (rw [show gI τ68 th 10 = gI τ68 th 10 by omega, psσ59]; simp)
            have sl8 : gP τ68 b (nut68 15) ≠ none := by rw [show nut68 15 = (gI τ68 th 10).toNat by omega]; exact sl9
            have lt111 : LT1 τ68 gqt68 cit68 nut68 ot v1.toNat := by first | exact hi68.2.1 | exact hi68.2.1.fx iτ68 iτ68 gτ68 fx59 (by omega) (by decide)
            have ft111 : FT1 τ68 F ot v1.toNat (v2.toNat + 1) := by first | exact hi68.2.2.1 | exact hi68.2.2.1.fx (kF.up xτ68) gF fx59 (by decide)
            have z111 : Z12 τ68 gqt68 cit68 nut68 0 := by first | exact hi68.2.2.2.1 | exact hi68.2.2.2.1.fx iτ68 iτ68 gτ68 fx59 (by omega) (by decide)
            obtain ⟨nuA, iτ68, hA0, uA, eA⟩ := iτ68.mk0 mb (by omega) (by omega) sl8
            have nuz8 : NW nu nuA := nu_τ68.tr uA
            have eA16 := eA 16 (by decide)
            have eA15 := eA 15 (by decide)
            have eA17 := eA 17 (by decide)
            have lt112 := lt111.nv9 eA15
            have z112 := z111.nv9 eA15
            refine ⟨b, eb, fun kk_b_1 => ?_⟩
            refine ⟨⟨by (first | omega | with_reducible assumption | with_reducible exact rng_toInt _ | with_reducible exact rng_wr _ | (unfold rng; omega) | (unfold rng at *; omega) | assumption), by (first | omega | with_reducible assumption | with_reducible exact rng_toInt _ | with_reducible exact rng_wr _ | (unfold rng; omega) | (unfold rng at *; omega) | assumption)⟩, ?_⟩
            obtain ⟨b_1, eb_1⟩ := Option.ne_none_iff_exists'.mp hc7
            have fb_1 := T_120 iτ68.1 mb eb_1
            have mb_1 : kO τ68 b_1 10 := iτ68.1.kd mb rfl eb_1 rfl
            refine ⟨b_1, eb_1, fun kk_b_1_1 => ?_⟩
            refine i2_X10_lay iτ68 mb_1 (by (first | omega | with_reducible assumption | with_reducible exact rng_toInt _ | with_reducible exact rng_wr _ | (unfold rng; omega) | (unfold rng at *; omega) | assumption)) (by (first | omega | with_reducible assumption | with_reducible exact rng_toInt _ | with_reducible exact rng_wr _ | (unfold rng; omega) | (unfold rng at *; omega) | assumption)) (by (first | omega | with_reducible assumption | with_reducible exact rng_toInt _ | with_reducible exact rng_wr _ | (unfold rng; omega) | (unfold rng at *; omega) | assumption)) (fun σ61 _ iσ61 cσ61 pσ61 => ?_)
            intro xσ61
            have fσ61 : Fx [129, 130, 131, 132, 133, 134, 135, 586, 587, 588, 640, 641, 645, 646, 647, 648, 649, 650, 651, 652, 653, 654, 655, 7168, 7680, 8512] gr σ σ61 := fτ68.tr (cσ61.mo (by decide))
            have kp9 : gI σ61 th 10 = gI τ68 th 10 := (cσ61.O (kth.up xτ68) (by decide)).1
            have kp10 : gP σ61 b (gI τ68 th 10).toNat = gP τ68 b (gI τ68 th 10).toNat := (cσ61.A mb (by decide)).2.1
            have kp11 : gP σ61 th 3 = gP τ68 th 3 := (cσ61.O (kth.up xτ68) (by decide)).2.1
            have kp12 : gP σ61 th 5 = gP τ68 th 5 := (cσ61.O (kth.up xτ68) (by decide)).2.1
            have kp13 : gI σ61 th 12 = gI τ68 th 12 := (cσ61.O (kth.up xτ68) (by decide)).1
            have kp14 : gI σ61 th 11 = gI τ68 th 11 := (cσ61.O (kth.up xτ68) (by decide)).1
            refine ⟨by (first | omega | with_reducible assumption | with_reducible exact rng_toInt _ | with_reducible exact rng_wr _ | (unfold rng; omega) | (unfold rng at *; omega) | assumption), ?_⟩
            intro σ63 eσ63
            have xσ63 : Ext σ61 σ63 := by rw [eσ63]; exact fun _ h => ⟨h, rfl, rfl⟩
            obtain ⟨nuσ63, iσ63, enuσ63⟩ : ∃ nu9 : Nat → Nat, IV σ63 pl gqt68 cit68 gr nc ot LLt68 Nt68 nu9 ∧ nu9 = up1 nuA 15 (nuA 15 + 1) := ⟨_, by rw [eσ63]; exact by rw [show gI σ61 th 10 = (nuA 15 : Int) by omega]; exact iσ61.tk1 (kth.up (xτ68.trans xσ61)) (mb_1.up xσ61) (by omega) (by omega) (by omega) (by omega) (by omega) (by omega) (by omega), rfl⟩
            have uσ63 : NW nuA nuσ63 := by rw [enuσ63]; exact nw15b
            have fσ63 : Fx [129, 130, 131, 132, 133, 134, 135, 586, 587, 588, 640, 641, 645, 646, 647, 648, 649, 650, 651, 652, 653, 654, 655, 7168, 7680, 8512] gr σ σ63 := fσ61.tr (Sk.fx (by rw [eσ63]; exact Sk.pI (by rw [fcdO (kth.up (xτ68.trans xσ61)) (by decide)]; decide)))
            have nu_σ63 : NW nu nuσ63 := nuz8.tr uσ63
            have w15 : nuσ63 15 = nuA 15 + 1 := by rw [enuσ63, up1_s]
            have w16 : nuσ63 16 = nuA 16 := by rw [enuσ63, up1_n _ _ (by decide)]
            have w17 : nuσ63 17 = nuA 17 := by rw [enuσ63, up1_n _ _ (by decide)]
            have wσ63 : gI σ63 th 10 = (gI σ61 th 10 + 1) := by rw [eσ63]; exact up2_s _ _ _ _
            have kp15 : gP σ63 b (gI τ68 th 10).toNat = gP σ61 b (gI τ68 th 10).toNat := by rw [eσ63]
            have kp16 : gP σ63 th 3 = gP σ61 th 3 := by rw [eσ63]
            have kp17 : gP σ63 th 5 = gP σ61 th 5 := by rw [eσ63]
            have kp18 : gI σ63 th 12 = gI σ61 th 12 := by rw [eσ63]; exact up2_n _ _ (fun q => absurd q.2 (by decide))
            have kp19 : gI σ63 th 11 = gI σ61 th 11 := by rw [eσ63]; exact up2_n _ _ (fun q => absurd q.2 (by decide))
            have k630 : gI σ63 b_1 0 = gI σ61 b_1 0 := by rw [eσ63, gI_pI, up2_n _ _ (fun z => absurd z.2 (by decide))]
            have k631 : gI σ63 b_1 1 = gI σ61 b_1 1 := by rw [eσ63, gI_pI, up2_n _ _ (fun z => absurd z.2 (by decide))]
            have k6312 : gI σ63 b_1 12 = gI σ61 b_1 12 := by rw [eσ63, gI_pI, up2_n _ _ (fun z => absurd z.2 (by decide))]
            have lt63 : LT1 σ63 gqt68 cit68 nuσ63 ot v1.toNat := lt112.add (t := b_1) iτ68 iσ63 (by rw [eσ63]; exact xσ61) (fun t9 k9 h9 h8 => by rw [eσ63, gI_pI, up2_n _ _ (fun z => absurd z.1 (kO.ne (h9.up xσ61) (kth.up (xτ68.trans xσ61)) (by decide)))]; exact pσ61.2 t9 k9 h8) (mb_1.up (xσ61.trans xσ63)) (by omega) (by omega) (by omega) (by omega) (fun j ja jb => by have := bsO_un (ot := ot) hv2 (i := j) (j := v2.toNat) ja jb (by omega) (by omega); omega)
            have z63 : Z12 σ63 gqt68 cit68 nuσ63 0 := z112.add (t := b_1) iτ68 iσ63 (by rw [eσ63]; exact xσ61) (fun t9 k9 h9 h8 => by rw [eσ63, gI_pI, up2_n _ _ (fun z => absurd z.1 (kO.ne (h9.up xσ61) (kth.up (xτ68.trans xσ61)) (by decide)))]; exact pσ61.2 t9 k9 h8) (mb_1.up (xσ61.trans xσ63)) (by omega) (by omega) (by omega) (by omega)
            have ft63 : FT1 σ63 F ot v1.toNat (v2.toNat + 1) := fun j hj => by rw [eσ63, gI_pI, up2_n _ _ (fun z => absurd z.1 (kO.ne (kF.up (xτ68.trans (xσ61.trans xσ63))) (kth.up (xτ68.trans (xσ61.trans xσ63))) (by decide))), pσ61.2 F j (kO.ne (kF.up (xτ68.trans (xσ61.trans xσ63))) (mb_1.up (xσ61.trans xσ63)) (by decide))]; exact ft111 j hj
            refine ⟨by (first | omega | with_reducible assumption | with_reducible exact rng_toInt _ | with_reducible exact rng_wr _ | (unfold rng; omega) | (unfold rng at *; omega) | assumption), ?_⟩
            exact ih68 σ63 gqt68 cit68 LLt68 Nt68 nuσ63 (v4 + 1) iσ63 fσ63 (xτ68.trans (xσ61.trans xσ63)) ((GE.rf).tr giτ68 (fun d hd => ((Ext.rfl' _) d hd).1)) nu_σ63 hnτ68 (⟨⟨by omega, by omega, by omega, by omega, by omega⟩, lt63, ft63, z63, hi68.2.2.2.2.1, hi68.2.2.2.2.2⟩) (by (first | omega | with_reducible assumption | with_reducible exact rng_toInt _ | with_reducible exact rng_wr _ | (unfold rng; omega) | (unfold rng at *; omega) | assumption))
          · rw [if_neg hc7]
            have hc7q := Classical.not_not.mp hc7
            unfold w_X9_layOut_95
            have e9z : (gI τ68 th 10).toNat = nut68 15 := by omega
            have s0z : (gI τ68 th 10).toNat = nut68 0 := by rw [e9z]; exact iτ68.slot0 mb (by omega) (by rw [← e9z]; exact Classical.not_not.mp (by assumption))
            refine i_newTask iτ68.room4 iτ68.nd iτ68.2.2.2.2.2.2.1.1 (fun qσ59 q1σ59 q2σ59 q3σ59 oσ59 gwσ59 kqσ59 kcσ59 hIσ59 hJσ59 hPσ59 hPcσ59 hcσ59 hsσ59 hRσ59 => ?_)
            have gnσ59 := (gwσ59.2.2.1 b mb.1).2.2
            refine ⟨b, eb, fun _ => ⟨⟨by (first | omega | with_reducible assumption | with_reducible exact rng_toInt _ | with_reducible exact rng_wr _ | (unfold rng; omega) | (unfold rng at *; omega) | assumption), by (first | omega | with_reducible assumption | with_reducible exact rng_toInt _ | with_reducible exact rng_wr _ | (unfold rng; omega) | (unfold rng at *; omega) | assumption)⟩, fun σ59 eσ59 => ?_⟩⟩
            obtain ⟨gqσ59, ciσ59, nuσ59, iσ59, gσ59, enuσ59, tcσ59, ktσ59, psσ59⟩ := iτ68.newT mb (T := 1) (by omega) (by omega) (by (first | omega | with_reducible assumption | with_reducible exact rng_toInt _ | with_reducible exact rng_wr _ | (unfold rng; omega) | (unfold rng at *; omega) | assumption)) hc7q (fun _ => s0z) gwσ59 eσ59 kqσ59 kcσ59 hIσ59 hJσ59 hPσ59 hPcσ59 hcσ59 hsσ59 hRσ59
            have xσ59 : Ext τ68 σ59 := by rw [eσ59]; exact fun a ha => gwσ59.2.2.1 a ha
            have fσ59 : Fx [129, 130, 131, 132, 133, 134, 135, 586, 587, 588, 640, 641, 645, 646, 647, 648, 649, 650, 651, 652, 653, 654, 655, 7168, 7680, 8512] gr σ σ59 := fτ68.tr (gwσ59.fx eσ59 mb (by decide))
            have uσ59 : NW nut68 nuσ59 := by rw [enuσ59]; exact nu_T1 rfl
            have nu_σ59 : NW nu nuσ59 := nu_τ68.tr uσ59
            have geσ59 : GE (gD σ) gq ci gqσ59 ciσ59 := geτ68.tr gσ59 (fun d hd => (fτ68.1 d hd).1)
            have gl21 := gσ59 b mb.1
            have kp22 : gI σ59 th 10 = gI τ68 th 10 := by rw [eσ59]; exact (gwσ59.2.2.2 th (kth.up xτ68).1 10).1
            have kp23 : gP σ59 th 3 = gP τ68 th 3 := by rw [eσ59, gP_pP, up2_n _ _ (fun z => absurd z.1 (kO.ne (kth.up xτ68) mb (by decide)))]; exact (gwσ59.2.2.2 th (kth.up xτ68).1 3).2.1
            have kp24 : gP σ59 th 5 = gP τ68 th 5 := by rw [eσ59, gP_pP, up2_n _ _ (fun z => absurd z.1 (kO.ne (kth.up xτ68) mb (by decide)))]; exact (gwσ59.2.2.2 th (kth.up xτ68).1 5).2.1
            have kp25 : gI σ59 th 12 = gI τ68 th 12 := by rw [eσ59]; exact (gwσ59.2.2.2 th (kth.up xτ68).1 12).1
            have kp26 : gI σ59 th 11 = gI τ68 th 11 := by rw [eσ59]; exact (gwσ59.2.2.2 th (kth.up xτ68).1 11).1
            have fx59 : Fx [7680] gr τ68 σ59 := gwσ59.fx eσ59 mb (by decide)
            have v1559 : nuσ59 15 = nut68 15 := by rw [enuσ59]; exact up1_n _ _ (by decide)
            have v1659 : nuσ59 16 = nut68 16 := by rw [enuσ59]; exact up1_n _ _ (by decide)
            have v1759 : nuσ59 17 = nut68 17 := by rw [enuσ59]; exact up1_n _ _ (by decide)
            unfold w_X9_layOut_111
            have tc111 := iσ59.tc (kth.up (xτ68.trans xσ59))
            have n111 := iσ59.n16
            have sl9 : gP σ59 b (gI σ59 th 10).toNat ≠ none := by first | assumption | (rw [show gI σ59 th 10 = gI τ68 th 10 by omega, psσ59]; simp)
            have sl8 : gP σ59 b (nuσ59 15) ≠ none := by rw [show nuσ59 15 = (gI σ59 th 10).toNat by omega]; exact sl9
            have lt111 : LT1 σ59 gqσ59 ciσ59 nuσ59 ot v1.toNat := by first | exact hi68.2.1 | exact hi68.2.1.fx iτ68 iσ59 gσ59 fx59 (by omega) (by decide)
            have ft111 : FT1 σ59 F ot v1.toNat (v2.toNat + 1) := by first | exact hi68.2.2.1 | exact hi68.2.2.1.fx (kF.up xτ68) gF fx59 (by decide)
            have z111 : Z12 σ59 gqσ59 ciσ59 nuσ59 0 := by first | exact hi68.2.2.2.1 | exact hi68.2.2.2.1.fx iτ68 iσ59 gσ59 fx59 (by omega) (by decide)
            obtain ⟨nuA, iσ59, hA0, uA, eA⟩ := iσ59.mk0 (mb.up xσ59) (by omega) (by omega) sl8
            have nuz27 : NW nu nuA := nu_σ59.tr uA
            have eA16 := eA 16 (by decide)
            have eA15 := eA 15 (by decide)
            have eA17 := eA 17 (by decide)
            have lt112 := lt111.nv9 eA15
            have z112 := z111.nv9 eA15
            refine ⟨b, (kp23.trans eb), fun kk_b_2 => ?_⟩
            have q28 := (xσ59 b mb.1).2.2
            refine ⟨⟨by (first | omega | with_reducible assumption | with_reducible exact rng_toInt _ | with_reducible exact rng_wr _ | (unfold rng; omega) | (unfold rng at *; omega) | assumption), by (first | omega | with_reducible assumption | with_reducible exact rng_toInt _ | with_reducible exact rng_wr _ | (unfold rng; omega) | (unfold rng at *; omega) | assumption)⟩, ?_⟩
            have n16b_2 := iσ59.n16
            obtain ⟨b_2, eb_2, mb_2, fb_2⟩ := P_120 iσ59 (mb.up xσ59) (by omega) (k := (gI σ59 th 10).toNat) (by (first | omega | with_reducible assumption | with_reducible exact rng_toInt _ | with_reducible exact rng_wr _ | (unfold rng; omega) | (unfold rng at *; omega) | assumption))
            refine ⟨b_2, eb_2, fun kk_b_2_1 => ?_⟩
            refine i2_X10_lay iσ59 mb_2 (by (first | omega | with_reducible assumption | with_reducible exact rng_toInt _ | with_reducible exact rng_wr _ | (unfold rng; omega) | (unfold rng at *; omega) | assumption)) (by (first | omega | with_reducible assumption | with_reducible exact rng_toInt _ | with_reducible exact rng_wr _ | (unfold rng; omega) | (unfold rng at *; omega) | assumption)) (by (first | omega | with_reducible assumption | with_reducible exact rng_toInt _ | with_reducible exact rng_wr _ | (unfold rng; omega) | (unfold rng at *; omega) | assumption)) (fun σ61_1 _ iσ61_1 cσ61_1 pσ61_1 => ?_)
            intro xσ61_1
            have fσ61_1 : Fx [129, 130, 131, 132, 133, 134, 135, 586, 587, 588, 640, 641, 645, 646, 647, 648, 649, 650, 651, 652, 653, 654, 655, 7168, 7680, 8512] gr σ σ61_1 := fσ59.tr (cσ61_1.mo (by decide))
            have kp29 : gI σ61_1 th 10 = gI σ59 th 10 := (cσ61_1.O (kth.up (xτ68.trans xσ59)) (by decide)).1
            have kp30 : gP σ61_1 b (gI σ59 th 10).toNat = gP σ59 b (gI σ59 th 10).toNat := (cσ61_1.A (mb.up xσ59) (by decide)).2.1
            have kp31 : gP σ61_1 b (gI τ68 th 10).toNat = gP σ59 b (gI τ68 th 10).toNat := (cσ61_1.A (mb.up xσ59) (by decide)).2.1
            have kp32 : gP σ61_1 th 3 = gP σ59 th 3 := (cσ61_1.O (kth.up (xτ68.trans xσ59)) (by decide)).2.1
            have kp33 : gP σ61_1 th 5 = gP σ59 th 5 := (cσ61_1.O (kth.up (xτ68.trans xσ59)) (by decide)).2.1
            have kp34 : gI σ61_1 th 12 = gI σ59 th 12 := (cσ61_1.O (kth.up (xτ68.trans xσ59)) (by decide)).1
            have kp35 : gI σ61_1 th 11 = gI σ59 th 11 := (cσ61_1.O (kth.up (xτ68.trans xσ59)) (by decide)).1
            refine ⟨by (first | omega | with_reducible assumption | with_reducible exact rng_toInt _ | with_reducible exact rng_wr _ | (unfold rng; omega) | (unfold rng at *; omega) | assumption), ?_⟩
            intro σ63_1 eσ63_1
            have xσ63_1 : Ext σ61_1 σ63_1 := by rw [eσ63_1]; exact fun _ h => ⟨h, rfl, rfl⟩
            obtain ⟨nuσ63_1, iσ63_1, enuσ63_1⟩ : ∃ nu9 : Nat → Nat, IV σ63_1 pl gqσ59 ciσ59 gr nc ot LLt68 Nt68 nu9 ∧ nu9 = up1 nuA 15 (nuA 15 + 1) := ⟨_, by rw [eσ63_1]; exact by rw [show gI σ61_1 th 10 = (nuA 15 : Int) by omega]; exact iσ61_1.tk1 (kth.up (xτ68.trans (xσ59.trans xσ61_1))) (mb_2.up xσ61_1) (by omega) (by omega) (by omega) (by omega) (by omega) (by omega) (by omega), rfl⟩
            have uσ63_1 : NW nuA nuσ63_1 := by rw [enuσ63_1]; exact nw15b
            have fσ63_1 : Fx [129, 130, 131, 132, 133, 134, 135, 586, 587, 588, 640, 641, 645, 646, 647, 648, 649, 650, 651, 652, 653, 654, 655, 7168, 7680, 8512] gr σ σ63_1 := fσ61_1.tr (Sk.fx (by rw [eσ63_1]; exact Sk.pI (by rw [fcdO (kth.up (xτ68.trans (xσ59.trans xσ61_1))) (by decide)]; decide)))
            have nu_σ63_1 : NW nu nuσ63_1 := nuz27.tr uσ63_1
            have w15 : nuσ63_1 15 = nuA 15 + 1 := by rw [enuσ63_1, up1_s]
            have w16 : nuσ63_1 16 = nuA 16 := by rw [enuσ63_1, up1_n _ _ (by decide)]
            have w17 : nuσ63_1 17 = nuA 17 := by rw [enuσ63_1, up1_n _ _ (by decide)]
            have wσ63_1 : gI σ63_1 th 10 = (gI σ61_1 th 10 + 1) := by rw [eσ63_1]; exact up2_s _ _ _ _
            have kp36 : gP σ63_1 b (gI σ59 th 10).toNat = gP σ61_1 b (gI σ59 th 10).toNat := by rw [eσ63_1]
            have kp37 : gP σ63_1 b (gI τ68 th 10).toNat = gP σ61_1 b (gI τ68 th 10).toNat := by rw [eσ63_1]
            have kp38 : gP σ63_1 th 3 = gP σ61_1 th 3 := by rw [eσ63_1]
            have kp39 : gP σ63_1 th 5 = gP σ61_1 th 5 := by rw [eσ63_1]
            have kp40 : gI σ63_1 th 12 = gI σ61_1 th 12 := by rw [eσ63_1]; exact up2_n _ _ (fun q => absurd q.2 (by decide))
            have kp41 : gI σ63_1 th 11 = gI σ61_1 th 11 := by rw [eσ63_1]; exact up2_n _ _ (fun q => absurd q.2 (by decide))
            have k630 : gI σ63_1 b_2 0 = gI σ61_1 b_2 0 := by rw [eσ63_1, gI_pI, up2_n _ _ (fun z => absurd z.2 (by decide))]
            have k631 : gI σ63_1 b_2 1 = gI σ61_1 b_2 1 := by rw [eσ63_1, gI_pI, up2_n _ _ (fun z => absurd z.2 (by decide))]
            have k6312 : gI σ63_1 b_2 12 = gI σ61_1 b_2 12 := by rw [eσ63_1, gI_pI, up2_n _ _ (fun z => absurd z.2 (by decide))]
            have lt63 : LT1 σ63_1 gqσ59 ciσ59 nuσ63_1 ot v1.toNat := lt112.add (t := b_2) iσ59 iσ63_1 (by rw [eσ63_1]; exact xσ61_1) (fun t9 k9 h9 h8 => by rw [eσ63_1, gI_pI, up2_n _ _ (fun z => absurd z.1 (kO.ne (h9.up xσ61_1) (kth.up (xτ68.trans (xσ59.trans xσ61_1))) (by decide)))]; exact pσ61_1.2 t9 k9 h8) (mb_2.up (xσ61_1.trans xσ63_1)) (by omega) (by omega) (by omega) (by omega) (fun j ja jb => by have := bsO_un (ot := ot) hv2 (i := j) (j := v2.toNat) ja jb (by omega) (by omega); omega)
            have z63 : Z12 σ63_1 gqσ59 ciσ59 nuσ63_1 0 := z112.add (t := b_2) iσ59 iσ63_1 (by rw [eσ63_1]; exact xσ61_1) (fun t9 k9 h9 h8 => by rw [eσ63_1, gI_pI, up2_n _ _ (fun z => absurd z.1 (kO.ne (h9.up xσ61_1) (kth.up (xτ68.trans (xσ59.trans xσ61_1))) (by decide)))]; exact pσ61_1.2 t9 k9 h8) (mb_2.up (xσ61_1.trans xσ63_1)) (by omega) (by omega) (by omega) (by omega)
            have ft63 : FT1 σ63_1 F ot v1.toNat (v2.toNat + 1) := fun j hj => by rw [eσ63_1, gI_pI, up2_n _ _ (fun z => absurd z.1 (kO.ne (kF.up (xτ68.trans (xσ59.trans (xσ61_1.trans xσ63_1)))) (kth.up (xτ68.trans (xσ59.trans (xσ61_1.trans xσ63_1)))) (by decide))), pσ61_1.2 F j (kO.ne (kF.up (xτ68.trans (xσ59.trans (xσ61_1.trans xσ63_1)))) (mb_2.up (xσ61_1.trans xσ63_1)) (by decide))]; exact ft111 j hj
            refine ⟨by (first | omega | with_reducible assumption | with_reducible exact rng_toInt _ | with_reducible exact rng_wr _ | (unfold rng; omega) | (unfold rng at *; omega) | assumption), ?_⟩
            exact ih68 σ63_1 gqσ59 ciσ59 LLt68 Nt68 nuσ63_1 (v4 + 1) iσ63_1 fσ63_1 (xτ68.trans (xσ59.trans (xσ61_1.trans xσ63_1))) (((GE.rf).tr giτ68 (fun d hd => ((Ext.rfl' _) d hd).1)).tr gσ59 (fun d hd => ((xτ68) d hd).1)) nu_σ63_1 hnτ68 (⟨⟨by omega, by omega, by omega, by omega, by omega⟩, lt63, ft63, z63, hi68.2.2.2.2.1, hi68.2.2.2.2.2⟩) (by (first | omega | with_reducible assumption | with_reducible exact rng_toInt _ | with_reducible exact rng_wr _ | (unfold rng; omega) | (unfold rng at *; omega) | assumption))
  exact ⟨_, Lp68 _ σ gq ci LL N nu _ iσ fσ (Ext.rfl' _) GE.rf NW.rf hnσ (⟨⟨by omega, by omega, by omega, by omega, by omega⟩, lt48, ft48, z48, rfl, rfl⟩) (Nat.lt_succ_self _)⟩

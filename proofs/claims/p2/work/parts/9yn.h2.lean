set_option maxHeartbeats 1000000 in
theorem i_X12_feed {σ : Sg} {pl : Nat} {gq ci gr nc : Nat → Nat} {ot : Nat → Nat → Int} {LL : Nat → List Nat} {N nu : Nat → Nat} {th : Nat} {v1 : Int64} {v3 : Int} (iσ : IV σ pl gq ci gr nc ot LL N nu) (kth : kO σ th 12) (h5 : nu 5 < 24000) {Q : Sg → Int → Prop} {X : Sg → String → Prop} (hQ : ∀ (σ' : Sg) (r : Int), IV σ' pl gq ci gr nc ot LL N nu → Fx [769, 6528] gr σ σ' → (gI σ' th 1 = gI σ th 1 + v3 ∧ r = gI σ th 1 + v3 ∧ 1 ≤ v3 ∧ v3 ≤ 8 ∧ gI σ th 1 + v3 ≤ 1500) → Q σ' r) (hX : ∀ (σ' : Sg) (LL' : Nat → List Nat) (N' nu' : Nat → Nat) (E : String), IV σ' pl gq ci gr nc ot LL' N' nu' → Fx [769, 6528] gr σ σ' → NX nu nu' → (LL' = LL ∧ N' = N ∧ ((E = "java/lang/IllegalArgumentException" ∧ (v3 < 1 ∨ 8 < v3)) ∨ (E = "java/lang/UnsupportedOperationException" ∧ 1 ≤ v3 ∧ v3 ≤ 8 ∧ 1500 < gI σ th 1 + v3)) ∧ gI σ' th 1 = gI σ th 1) → X σ' E) : wp_X12_feed th v1 v3 σ Q X := by
  have fσ : Fx [769, 6528] gr σ σ := Fx.rf
  have t0 := I_12_1 iσ.1 kth
  unfold wp_X12_feed
  unfold w_X12_feed_0
  by_cases hc1 : v3 < 1
  · rw [if_pos hc1]
    unfold w_X12_feed_11
    refine ⟨iσ.room, ?_⟩
    exact hX _ _ _ _ _ (iσ.bump (by (first | omega | with_reducible assumption | with_reducible exact rng_toInt _ | with_reducible exact rng_wr _ | (unfold rng; omega) | (unfold rng at *; omega) | assumption))) (fσ.tr Fx.bump) (NX.bump) (⟨rfl, rfl, by first | exact Or.inl ⟨rfl, by omega⟩ | exact Or.inr ⟨rfl, by omega, by omega, by omega⟩, rfl⟩)
  · rw [if_neg hc1]
    unfold w_X12_feed_5
    by_cases hc2 : v3 ≤ 8
    · rw [if_pos hc2]
      unfold w_X12_feed_19
      have q3 := I_12_1 iσ.1 kth
      refine ⟨by (first | omega | with_reducible assumption | with_reducible exact rng_toInt _ | with_reducible exact rng_wr _ | (unfold rng; omega) | (unfold rng at *; omega) | assumption), ?_⟩
      by_cases hc4 : (gI σ th 1 + v3) ≤ 1500
      · rw [if_pos hc4]
        unfold w_X12_feed_39
        refine ⟨by (first | omega | with_reducible assumption | with_reducible exact rng_toInt _ | with_reducible exact rng_wr _ | (unfold rng; omega) | (unfold rng at *; omega) | assumption), ?_⟩
        have Lp44 : ∀ (fu44 : Nat) (τ44 : Sg) (v4 : Int), IV τ44 pl gq ci gr nc ot LL N nu → Fx [769, 6528] gr σ τ44 → Ext σ τ44 → ((-1 ≤ v4 ∧ v4 ≤ v3 - 1) ∧ gI τ44 th 1 = gI σ th 1 + (v3 - 1 - v4)) → ((v4 + 1).toNat) < fu44 → wl_X12_feed_44 th Q X fu44 τ44 v1 v4 := by
          intro fu44
          induction fu44 with
          | zero => intro _ _ _ _ _ _ h9; omega
          | succ fu44 ih44 =>
            intro τ44 v4 iτ44 fτ44 xτ44 hi44 hm44
            unfold wl_X12_feed_44
            unfold w_X12_feed_44
            by_cases hc5 : v4 < 0
            · rw [if_pos hc5]
              unfold w_X12_feed_83
              have q6 := I_12_1 iτ44.1 (kth.up xτ44)
              exact hQ τ44 (gI τ44 th 1) iτ44 fτ44 (by (first | omega | with_reducible assumption | with_reducible exact rng_toInt _ | with_reducible exact rng_wr _ | (unfold rng; omega) | (unfold rng at *; omega) | assumption))
            · rw [if_neg hc5]
              unfold w_X12_feed_49
              refine ⟨by (first | omega | with_reducible assumption | with_reducible exact rng_toInt _ | with_reducible exact rng_wr _ | (unfold rng; omega) | (unfold rng at *; omega) | assumption), ?_⟩
              obtain ⟨b, eb, fb⟩ := P_12_0 iτ44.1 (kth.up xτ44)
              have mb : kO τ44 b 102 := iτ44.1.kd (kth.up xτ44) rfl eb rfl
              refine ⟨b, eb, fun kk_b => ?_⟩
              have q7 := I_12_1 iτ44.1 (kth.up xτ44)
              refine ⟨⟨by (first | omega | with_reducible assumption | with_reducible exact rng_toInt _ | with_reducible exact rng_wr _ | (unfold rng; omega) | (unfold rng at *; omega) | assumption), by (first | omega | with_reducible assumption | with_reducible exact rng_toInt _ | with_reducible exact rng_wr _ | (unfold rng; omega) | (unfold rng at *; omega) | assumption)⟩, ?_⟩
              intro σ5 eσ5
              have xσ5 : Ext τ44 σ5 := by rw [eσ5]; exact fun _ h => ⟨h, rfl, rfl⟩
              have iσ5 : IV σ5 pl gq ci gr nc ot LL N nu := by rw [eσ5]; exact iτ44.wB mb (by decide) (by first | exact rng_nB _ | exact rng_nZ _ | (first | omega | with_reducible assumption | with_reducible exact rng_toInt _ | with_reducible exact rng_wr _ | (unfold rng; omega) | (unfold rng at *; omega) | assumption))
              have fσ5 : Fx [769, 6528] gr σ σ5 := fτ44.tr (Sk.fx (by rw [eσ5]; exact Sk.pI (by rw [fcdA mb (by decide)]; decide)))
              have wσ5 : gI σ5 b (gI τ44 th 1).toNat = (nB (nB ((((v1).toUInt64 >>> ((i32 (8 * v4)).toInt64.toUInt64 &&& Int64.toUInt64 63)).toInt64).toInt32.toInt))) := by rw [eσ5]; exact up2_s _ _ _ _
              have kp8 : gI σ5 th 1 = gI τ44 th 1 := by rw [eσ5]; exact up2_n _ _ (fun q => absurd q.1 (kO.ne (kth.up xτ44) mb (by decide)))
              have kp9 : gP σ5 th 0 = gP τ44 th 0 := by rw [eσ5]
              refine ⟨by (first | omega | with_reducible assumption | with_reducible exact rng_toInt _ | with_reducible exact rng_wr _ | (unfold rng; omega) | (unfold rng at *; omega) | assumption), ?_⟩
              intro σ6 eσ6
              have xσ6 : Ext σ5 σ6 := by rw [eσ6]; exact fun _ h => ⟨h, rfl, rfl⟩
              have iσ6 : IV σ6 pl gq ci gr nc ot LL N nu := by rw [eσ6]; exact iσ5.wO (kth.up (xτ44.trans xσ5)) (by decide) (show (0 : Int) ≤ (gI σ5 th 1 + 1) ∧ (gI σ5 th 1 + 1) ≤ 1500 from ⟨by (first | omega | with_reducible assumption | with_reducible exact rng_toInt _ | with_reducible exact rng_wr _ | (unfold rng; omega) | (unfold rng at *; omega) | assumption), by (first | omega | with_reducible assumption | with_reducible exact rng_toInt _ | with_reducible exact rng_wr _ | (unfold rng; omega) | (unfold rng at *; omega) | assumption)⟩)
              have fσ6 : Fx [769, 6528] gr σ σ6 := fσ5.tr (Sk.fx (by rw [eσ6]; exact Sk.pI (by rw [fcdO (kth.up (xτ44.trans xσ5)) (by decide)]; decide)))
              have wσ6 : gI σ6 th 1 = (gI σ5 th 1 + 1) := by rw [eσ6]; exact up2_s _ _ _ _
              have kp10 : gI σ6 b (gI τ44 th 1).toNat = gI σ5 b (gI τ44 th 1).toNat := by rw [eσ6]; exact up2_n _ _ (fun q => absurd q.1 (kO.ne (mb.up xσ5) (kth.up (xτ44.trans xσ5)) (by decide)))
              have kp11 : gP σ6 th 0 = gP σ5 th 0 := by rw [eσ6]
              refine ⟨by (first | omega | with_reducible assumption | with_reducible exact rng_toInt _ | with_reducible exact rng_wr _ | (unfold rng; omega) | (unfold rng at *; omega) | assumption), ?_⟩
              exact ih44 σ6 (v4 + (-1)) iσ6 fσ6 (xτ44.trans (xσ5.trans xσ6)) (by (first | omega | with_reducible assumption | with_reducible exact rng_toInt _ | with_reducible exact rng_wr _ | (unfold rng; omega) | (unfold rng at *; omega) | assumption)) (by (first | omega | with_reducible assumption | with_reducible exact rng_toInt _ | with_reducible exact rng_wr _ | (unfold rng; omega) | (unfold rng at *; omega) | assumption))
        exact ⟨_, Lp44 _ σ _ iσ fσ (Ext.rfl' _) (by (first | omega | with_reducible assumption | with_reducible exact rng_toInt _ | with_reducible exact rng_wr _ | (unfold rng; omega) | (unfold rng at *; omega) | assumption)) (Nat.lt_succ_self _)⟩
      · rw [if_neg hc4]
        unfold w_X12_feed_31
        refine ⟨iσ.room, ?_⟩
        exact hX _ _ _ _ _ (iσ.bump (by (first | omega | with_reducible assumption | with_reducible exact rng_toInt _ | with_reducible exact rng_wr _ | (unfold rng; omega) | (unfold rng at *; omega) | assumption))) (fσ.tr Fx.bump) (NX.bump) (⟨rfl, rfl, by first | exact Or.inl ⟨rfl, by omega⟩ | exact Or.inr ⟨rfl, by omega, by omega, by omega⟩, rfl⟩)
    · rw [if_neg hc2]
      unfold w_X12_feed_11
      refine ⟨iσ.room, ?_⟩
      exact hX _ _ _ _ _ (iσ.bump (by (first | omega | with_reducible assumption | with_reducible exact rng_toInt _ | with_reducible exact rng_wr _ | (unfold rng; omega) | (unfold rng at *; omega) | assumption))) (fσ.tr Fx.bump) (NX.bump) (⟨rfl, rfl, by first | exact Or.inl ⟨rfl, by omega⟩ | exact Or.inr ⟨rfl, by omega, by omega, by omega⟩, rfl⟩)
set_option maxHeartbeats 1000000 in
theorem i_X12_close {σ : Sg} {pl : Nat} {gq ci gr nc : Nat → Nat} {ot : Nat → Nat → Int} {LL : Nat → List Nat} {N nu : Nat → Nat} {th : Nat} {v1 : Int} {J : Nat} (iσ : IV σ pl gq ci gr nc ot LL N nu) (kth : kO σ th 12) (h4 : gP σ th 4 = some J) (kJ : kO σ J 4) (hJ : gq J = nc 0) (h5 : nu 5 < 24000) {Q : Sg → Int → Prop} {X : Sg → String → Prop} (hQ : ∀ (σ' : Sg) (r : Int), IV σ' pl gq ci gr nc ot LL N nu → Fx [6592] gr σ σ' → (True) → Q σ' r) (hX : ∀ (σ' : Sg) (LL' : Nat → List Nat) (N' nu' : Nat → Nat) (E : String), IV σ' pl gq ci gr nc ot LL' N' nu' → Fx [6592] gr σ σ' → NX nu nu' → (LL' = LL ∧ N' = N ∧ (E = "java/lang/IndexOutOfBoundsException" ∨ E = "java/lang/IllegalStateException")) → X σ' E) : wp_X12_close th v1 σ Q X := by
  have fσ : Fx [6592] gr σ σ := Fx.rf
  have jc := iσ.jc kJ hJ
  unfold wp_X12_close
  unfold w_X12_close_0
  by_cases hc1 : v1 < 0
  · rw [if_pos hc1]
    unfold w_X12_close_9
    refine ⟨iσ.room, ?_⟩
    exact hX _ _ _ _ _ (iσ.bump (by (first | omega | with_reducible assumption | with_reducible exact rng_toInt _ | with_reducible exact rng_wr _ | (unfold rng; omega) | (unfold rng at *; omega) | assumption))) (fσ.tr Fx.bump) (NX.bump) (⟨rfl, rfl, by first | exact rfl | exact Or.inl rfl | exact Or.inr rfl | exact Or.inr (Or.inl rfl) | exact Or.inr (Or.inr rfl) | exact Or.inr (Or.inr (Or.inl rfl)) | exact Or.inr (Or.inr (Or.inr rfl))⟩)
  · rw [if_neg hc1]
    unfold w_X12_close_4
    by_cases hc2 : v1 < 4
    · rw [if_pos hc2]
      unfold w_X12_close_17
      refine ⟨J, h4, fun kk_J => ?_⟩
      obtain ⟨b, eb, fb⟩ := P_4_4 iσ.1 kJ
      have mb : kO σ b 100 := iσ.1.kd kJ rfl eb rfl
      refine ⟨b, eb, fun kk_b => ?_⟩
      refine ⟨⟨by (first | omega | with_reducible assumption | with_reducible exact rng_toInt _ | with_reducible exact rng_wr _ | (unfold rng; omega) | (unfold rng at *; omega) | assumption), by (first | omega | with_reducible assumption | with_reducible exact rng_toInt _ | with_reducible exact rng_wr _ | (unfold rng; omega) | (unfold rng at *; omega) | assumption)⟩, ?_⟩
      have q4 := iσ.rg b v1.toNat; unfold rng at q4
      by_cases hc3 : (gI σ b v1.toNat) ≠ (-1)
      · rw [if_pos hc3]
        unfold w_X12_close_38
        refine ⟨J, h4, fun kk_J_1 => ?_⟩
        obtain ⟨b_1, eb_1, fb_1⟩ := P_4_13 iσ.1 kJ
        have mb_1 : kO σ b_1 103 := iσ.1.kd kJ rfl eb_1 rfl
        refine ⟨b_1, eb_1, fun kk_b_1 => ?_⟩
        refine ⟨⟨by (first | omega | with_reducible assumption | with_reducible exact rng_toInt _ | with_reducible exact rng_wr _ | (unfold rng; omega) | (unfold rng at *; omega) | assumption), by (first | omega | with_reducible assumption | with_reducible exact rng_toInt _ | with_reducible exact rng_wr _ | (unfold rng; omega) | (unfold rng at *; omega) | assumption)⟩, ?_⟩
        have q6 := iσ.rg b_1 v1.toNat; unfold rng at q6
        by_cases hc5 : (gI σ b_1 v1.toNat) ≠ 0
        · rw [if_pos hc5]
          unfold w_X12_close_54
          unfold w_X12_close_55
          refine ⟨J, h4, fun kk_J_2 => ?_⟩
          refine ⟨b_1, eb_1, fun kk_b_1_1 => ?_⟩
          refine ⟨⟨by (first | omega | with_reducible assumption | with_reducible exact rng_toInt _ | with_reducible exact rng_wr _ | (unfold rng; omega) | (unfold rng at *; omega) | assumption), by (first | omega | with_reducible assumption | with_reducible exact rng_toInt _ | with_reducible exact rng_wr _ | (unfold rng; omega) | (unfold rng at *; omega) | assumption)⟩, ?_⟩
          intro σ14 eσ14
          have xσ14 : Ext σ σ14 := by rw [eσ14]; exact fun _ h => ⟨h, rfl, rfl⟩
          have iσ14 : IV σ14 pl gq ci gr nc ot LL N nu := by rw [eσ14]; exact iσ.wB mb_1 (by decide) (by first | exact rng_nB _ | exact rng_nZ _ | (first | omega | with_reducible assumption | with_reducible exact rng_toInt _ | with_reducible exact rng_wr _ | (unfold rng; omega) | (unfold rng at *; omega) | assumption))
          have fσ14 : Fx [6592] gr σ σ14 := fσ.tr (Sk.fx (by rw [eσ14]; exact Sk.pI (by rw [fcdA mb_1 (by decide)]; decide)))
          have wσ14 : gI σ14 b_1 v1.toNat = (nZ 1) := by rw [eσ14]; exact up2_s _ _ _ _
          have kp7 : gP σ14 J 13 = gP σ J 13 := by rw [eσ14]
          have kp8 : gP σ14 J 4 = gP σ J 4 := by rw [eσ14]
          have kp9 : gP σ14 th 4 = gP σ th 4 := by rw [eσ14]
          refine ⟨by (first | omega | with_reducible assumption | with_reducible exact rng_toInt _ | with_reducible exact rng_wr _ | (unfold rng; omega) | (unfold rng at *; omega) | assumption), ?_⟩
          exact hQ σ14 0 iσ14 fσ14 (trivial)
        · rw [if_neg hc5]
          have hc5q := Classical.not_not.mp hc5
          unfold w_X12_close_50
          unfold w_X12_close_55
          refine ⟨J, h4, fun kk_J_3 => ?_⟩
          refine ⟨b_1, eb_1, fun kk_b_1_2 => ?_⟩
          refine ⟨⟨by (first | omega | with_reducible assumption | with_reducible exact rng_toInt _ | with_reducible exact rng_wr _ | (unfold rng; omega) | (unfold rng at *; omega) | assumption), by (first | omega | with_reducible assumption | with_reducible exact rng_toInt _ | with_reducible exact rng_wr _ | (unfold rng; omega) | (unfold rng at *; omega) | assumption)⟩, ?_⟩
          intro σ14_1 eσ14_1
          have xσ14_1 : Ext σ σ14_1 := by rw [eσ14_1]; exact fun _ h => ⟨h, rfl, rfl⟩
          have iσ14_1 : IV σ14_1 pl gq ci gr nc ot LL N nu := by rw [eσ14_1]; exact iσ.wB mb_1 (by decide) (by first | exact rng_nB _ | exact rng_nZ _ | (first | omega | with_reducible assumption | with_reducible exact rng_toInt _ | with_reducible exact rng_wr _ | (unfold rng; omega) | (unfold rng at *; omega) | assumption))
          have fσ14_1 : Fx [6592] gr σ σ14_1 := fσ.tr (Sk.fx (by rw [eσ14_1]; exact Sk.pI (by rw [fcdA mb_1 (by decide)]; decide)))
          have wσ14_1 : gI σ14_1 b_1 v1.toNat = (nZ 1) := by rw [eσ14_1]; exact up2_s _ _ _ _
          have kp10 : gP σ14_1 J 13 = gP σ J 13 := by rw [eσ14_1]
          have kp11 : gP σ14_1 J 4 = gP σ J 4 := by rw [eσ14_1]
          have kp12 : gP σ14_1 th 4 = gP σ th 4 := by rw [eσ14_1]
          refine ⟨by (first | omega | with_reducible assumption | with_reducible exact rng_toInt _ | with_reducible exact rng_wr _ | (unfold rng; omega) | (unfold rng at *; omega) | assumption), ?_⟩
          exact hQ σ14_1 1 iσ14_1 fσ14_1 (trivial)
      · rw [if_neg hc3]
        have hc3q := Classical.not_not.mp hc3
        unfold w_X12_close_30
        refine ⟨iσ.room, ?_⟩
        exact hX _ _ _ _ _ (iσ.bump (by (first | omega | with_reducible assumption | with_reducible exact rng_toInt _ | with_reducible exact rng_wr _ | (unfold rng; omega) | (unfold rng at *; omega) | assumption))) (fσ.tr Fx.bump) (NX.bump) (⟨rfl, rfl, by first | exact rfl | exact Or.inl rfl | exact Or.inr rfl | exact Or.inr (Or.inl rfl) | exact Or.inr (Or.inr rfl) | exact Or.inr (Or.inr (Or.inl rfl)) | exact Or.inr (Or.inr (Or.inr rfl))⟩)
    · rw [if_neg hc2]
      unfold w_X12_close_9
      refine ⟨iσ.room, ?_⟩
      exact hX _ _ _ _ _ (iσ.bump (by (first | omega | with_reducible assumption | with_reducible exact rng_toInt _ | with_reducible exact rng_wr _ | (unfold rng; omega) | (unfold rng at *; omega) | assumption))) (fσ.tr Fx.bump) (NX.bump) (⟨rfl, rfl, by first | exact rfl | exact Or.inl rfl | exact Or.inr rfl | exact Or.inr (Or.inl rfl) | exact Or.inr (Or.inr rfl) | exact Or.inr (Or.inr (Or.inl rfl)) | exact Or.inr (Or.inr (Or.inr rfl))⟩)
set_option maxHeartbeats 1000000 in
theorem i_X12_crash {σ : Sg} {pl : Nat} {gq ci gr nc : Nat → Nat} {ot : Nat → Nat → Int} {LL : Nat → List Nat} {N nu : Nat → Nat} {th : Nat} {v1 : Int} {R D : Nat} (iσ : IV σ pl gq ci gr nc ot LL N nu) (kth : kO σ th 12) (hR : gP σ th 7 = some R) (kR : kO σ R 9) (hD : gP σ R 2 = some D) (kD : kO σ D 3) (h5 : nu 5 < 24000) (h1 : rng v1) {Q : Sg → Unit → Prop} {X : Sg → String → Prop} (hQ : ∀ (σ' : Sg) (r : Unit), IV σ' pl gq ci gr nc ot LL N nu → Fx [200] gr σ σ' → (True) → Q σ' r) (hX : ∀ (σ' : Sg) (LL' : Nat → List Nat) (N' nu' : Nat → Nat) (E : String), IV σ' pl gq ci gr nc ot LL' N' nu' → Fx [200] gr σ σ' → NX nu nu' → (LL' = LL ∧ N' = N ∧ (E = "java/lang/IllegalStateException" ∨ E = "java/lang/IllegalArgumentException")) → X σ' E) : wp_X12_crash th v1 σ Q X := by
  have fσ : Fx [200] gr σ σ := Fx.rf
  unfold wp_X12_crash
  unfold w_X12_crash_0
  refine ⟨R, hR, fun kk_R => ?_⟩
  refine ⟨D, hD, fun kk_D => ?_⟩
  have q2 := I_3_9 iσ.1 kD
  by_cases hc1 : gI σ D 9 = 0
  · rw [if_pos hc1]
    unfold w_X12_crash_21
    by_cases hc3 : v1 ≥ (-1)
    · rw [if_pos hc3]
      unfold w_X12_crash_34
      refine ⟨R, hR, fun kk_R_1 => ?_⟩
      refine ⟨D, hD, fun kk_D_1 => ?_⟩
      intro σ10 eσ10
      have xσ10 : Ext σ σ10 := by rw [eσ10]; exact fun _ h => ⟨h, rfl, rfl⟩
      have iσ10 : IV σ10 pl gq ci gr nc ot LL N nu := by rw [eσ10]; exact iσ.wO kD (by decide) (rngb (by first | exact rng_wr _ | (first | omega | with_reducible assumption | with_reducible exact rng_toInt _ | with_reducible exact rng_wr _ | (unfold rng; omega) | (unfold rng at *; omega) | assumption)))
      have fσ10 : Fx [200] gr σ σ10 := fσ.tr (Sk.fx (by rw [eσ10]; exact Sk.pI (by rw [fcdO kD (by decide)]; decide)))
      have wσ10 : gI σ10 D 8 = v1 := by rw [eσ10]; exact up2_s _ _ _ _
      have kp4 : gI σ10 D 9 = gI σ D 9 := by rw [eσ10]; exact up2_n _ _ (fun q => absurd q.2 (by decide))
      have kp5 : gP σ10 R 2 = gP σ R 2 := by rw [eσ10]
      have kp6 : gP σ10 th 7 = gP σ th 7 := by rw [eσ10]
      exact hQ σ10 () iσ10 fσ10 (trivial)
    · rw [if_neg hc3]
      unfold w_X12_crash_26
      refine ⟨iσ.room, ?_⟩
      exact hX _ _ _ _ _ (iσ.bump (by (first | omega | with_reducible assumption | with_reducible exact rng_toInt _ | with_reducible exact rng_wr _ | (unfold rng; omega) | (unfold rng at *; omega) | assumption))) (fσ.tr Fx.bump) (NX.bump) (⟨rfl, rfl, by first | exact rfl | exact Or.inl rfl | exact Or.inr rfl | exact Or.inr (Or.inl rfl) | exact Or.inr (Or.inr rfl) | exact Or.inr (Or.inr (Or.inl rfl)) | exact Or.inr (Or.inr (Or.inr rfl))⟩)
  · rw [if_neg hc1]
    unfold w_X12_crash_13
    refine ⟨iσ.room, ?_⟩
    exact hX _ _ _ _ _ (iσ.bump (by (first | omega | with_reducible assumption | with_reducible exact rng_toInt _ | with_reducible exact rng_wr _ | (unfold rng; omega) | (unfold rng at *; omega) | assumption))) (fσ.tr Fx.bump) (NX.bump) (⟨rfl, rfl, by first | exact rfl | exact Or.inl rfl | exact Or.inr rfl | exact Or.inr (Or.inl rfl) | exact Or.inr (Or.inr rfl) | exact Or.inr (Or.inr (Or.inl rfl)) | exact Or.inr (Or.inr (Or.inr rfl))⟩)
set_option maxHeartbeats 1000000 in
theorem i_X12_give {σ : Sg} {pl : Nat} {gq ci gr nc : Nat → Nat} {ot : Nat → Nat → Int} {LL : Nat → List Nat} {N nu : Nat → Nat} {th : Nat} {v1 : Int} {v2 : Int} {v3 : Int64} {v5 : Int64} {v7 : Int64} {v9 : Int64} {J : Nat} (iσ : IV σ pl gq ci gr nc ot LL N nu) (kth : kO σ th 12) (h4 : gP σ th 4 = some J) (kJ : kO σ J 4) (hJ : gq J = nc 0) (h5 : nu 5 < 24000) {Q : Sg → Int → Prop} {X : Sg → String → Prop} (hQ : ∀ (σ' : Sg) (r : Int), IV σ' pl gq ci gr nc ot LL N nu → Fx [6464, 8448] gr σ σ' → (True) → Q σ' r) (hX : ∀ (σ' : Sg) (LL' : Nat → List Nat) (N' nu' : Nat → Nat) (E : String), IV σ' pl gq ci gr nc ot LL' N' nu' → Fx [6464, 8448] gr σ σ' → NX nu nu' → (LL' = LL ∧ N' = N ∧ (E = "java/lang/IndexOutOfBoundsException" ∨ E = "java/lang/IllegalStateException" ∨ E = "java/lang/IllegalArgumentException" ∨ E = "java/lang/UnsupportedOperationException")) → X σ' E) : wp_X12_give th v1 v2 v3 v5 v7 v9 σ Q X := by
  have fσ : Fx [6464, 8448] gr σ σ := Fx.rf
  have jc := iσ.jc kJ hJ
  unfold wp_X12_give
  unfold w_X12_give_0
  by_cases hc1 : v1 < 0
  · rw [if_pos hc1]
    unfold w_X12_give_9
    refine ⟨iσ.room, ?_⟩
    exact hX _ _ _ _ _ (iσ.bump (by (first | omega | with_reducible assumption | with_reducible exact rng_toInt _ | with_reducible exact rng_wr _ | (unfold rng; omega) | (unfold rng at *; omega) | assumption))) (fσ.tr Fx.bump) (NX.bump) (⟨rfl, rfl, by first | exact rfl | exact Or.inl rfl | exact Or.inr rfl | exact Or.inr (Or.inl rfl) | exact Or.inr (Or.inr rfl) | exact Or.inr (Or.inr (Or.inl rfl)) | exact Or.inr (Or.inr (Or.inr rfl))⟩)
  · rw [if_neg hc1]
    unfold w_X12_give_4
    by_cases hc2 : v1 < 4
    · rw [if_pos hc2]
      unfold w_X12_give_17
      refine ⟨J, h4, fun kk_J => ?_⟩
      obtain ⟨b, eb, fb⟩ := P_4_4 iσ.1 kJ
      have mb : kO σ b 100 := iσ.1.kd kJ rfl eb rfl
      refine ⟨b, eb, fun kk_b => ?_⟩
      refine ⟨⟨by (first | omega | with_reducible assumption | with_reducible exact rng_toInt _ | with_reducible exact rng_wr _ | (unfold rng; omega) | (unfold rng at *; omega) | assumption), by (first | omega | with_reducible assumption | with_reducible exact rng_toInt _ | with_reducible exact rng_wr _ | (unfold rng; omega) | (unfold rng at *; omega) | assumption)⟩, ?_⟩
      have q4 := iσ.rg b v1.toNat; unfold rng at q4
      by_cases hc3 : (gI σ b v1.toNat) = (-1)
      · rw [if_pos hc3]
        unfold w_X12_give_42
        refine ⟨iσ.room, ?_⟩
        exact hX _ _ _ _ _ (iσ.bump (by (first | omega | with_reducible assumption | with_reducible exact rng_toInt _ | with_reducible exact rng_wr _ | (unfold rng; omega) | (unfold rng at *; omega) | assumption))) (fσ.tr Fx.bump) (NX.bump) (⟨rfl, rfl, by first | exact rfl | exact Or.inl rfl | exact Or.inr rfl | exact Or.inr (Or.inl rfl) | exact Or.inr (Or.inr rfl) | exact Or.inr (Or.inr (Or.inl rfl)) | exact Or.inr (Or.inr (Or.inr rfl))⟩)
      · rw [if_neg hc3]
        unfold w_X12_give_30
        refine ⟨J, h4, fun kk_J_1 => ?_⟩
        obtain ⟨b_1, eb_1, fb_1⟩ := P_4_13 iσ.1 kJ
        have mb_1 : kO σ b_1 103 := iσ.1.kd kJ rfl eb_1 rfl
        refine ⟨b_1, eb_1, fun kk_b_1 => ?_⟩
        refine ⟨⟨by (first | omega | with_reducible assumption | with_reducible exact rng_toInt _ | with_reducible exact rng_wr _ | (unfold rng; omega) | (unfold rng at *; omega) | assumption), by (first | omega | with_reducible assumption | with_reducible exact rng_toInt _ | with_reducible exact rng_wr _ | (unfold rng; omega) | (unfold rng at *; omega) | assumption)⟩, ?_⟩
        have q6 := iσ.rg b_1 v1.toNat; unfold rng at q6
        by_cases hc5 : (gI σ b_1 v1.toNat) = 0
        · rw [if_pos hc5]
          unfold w_X12_give_50
          by_cases hc7 : v2 < 0
          · rw [if_pos hc7]
            unfold w_X12_give_60
            refine ⟨iσ.room, ?_⟩
            exact hX _ _ _ _ _ (iσ.bump (by (first | omega | with_reducible assumption | with_reducible exact rng_toInt _ | with_reducible exact rng_wr _ | (unfold rng; omega) | (unfold rng at *; omega) | assumption))) (fσ.tr Fx.bump) (NX.bump) (⟨rfl, rfl, by first | exact rfl | exact Or.inl rfl | exact Or.inr rfl | exact Or.inr (Or.inl rfl) | exact Or.inr (Or.inr rfl) | exact Or.inr (Or.inr (Or.inl rfl)) | exact Or.inr (Or.inr (Or.inr rfl))⟩)
          · rw [if_neg hc7]
            unfold w_X12_give_54
            by_cases hc8 : v2 ≤ 1000000
            · rw [if_pos hc8]
              unfold w_X12_give_68
              refine ⟨J, h4, fun kk_J_2 => ?_⟩
              obtain ⟨b_2, eb_2, fb_2⟩ := P_4_12 iσ.1 kJ
              have mb_2 : kO σ b_2 100 := iσ.1.kd kJ rfl eb_2 rfl
              refine ⟨b_2, eb_2, fun kk_b_2 => ?_⟩
              refine ⟨⟨by (first | omega | with_reducible assumption | with_reducible exact rng_toInt _ | with_reducible exact rng_wr _ | (unfold rng; omega) | (unfold rng at *; omega) | assumption), by (first | omega | with_reducible assumption | with_reducible exact rng_toInt _ | with_reducible exact rng_wr _ | (unfold rng; omega) | (unfold rng at *; omega) | assumption)⟩, ?_⟩
              have q10 := I_132 iσ.1 mb_2 (by omega) v1.toNat
              by_cases hc9 : (gI σ b_2 v1.toNat) < 64
              · rw [if_pos hc9]
                unfold w_X12_give_90
                refine ⟨J, h4, fun kk_J_3 => ?_⟩
                refine ⟨b_2, eb_2, fun kk_b_2_1 => ?_⟩
                refine ⟨⟨by (first | omega | with_reducible assumption | with_reducible exact rng_toInt _ | with_reducible exact rng_wr _ | (unfold rng; omega) | (unfold rng at *; omega) | assumption), by (first | omega | with_reducible assumption | with_reducible exact rng_toInt _ | with_reducible exact rng_wr _ | (unfold rng; omega) | (unfold rng at *; omega) | assumption)⟩, ?_⟩
                obtain ⟨b_3, eb_3, fb_3⟩ := P_4_11 iσ.1 kJ
                have mb_3 : kO σ b_3 200 := iσ.1.kd kJ rfl eb_3 rfl
                refine ⟨b_3, eb_3, fun kk_b_3 => ?_⟩
                refine ⟨⟨by (first | omega | with_reducible assumption | with_reducible exact rng_toInt _ | with_reducible exact rng_wr _ | (unfold rng; omega) | (unfold rng at *; omega) | assumption), by (first | omega | with_reducible assumption | with_reducible exact rng_toInt _ | with_reducible exact rng_wr _ | (unfold rng; omega) | (unfold rng at *; omega) | assumption)⟩, ?_⟩
                refine ⟨by (first | omega | with_reducible assumption | with_reducible exact rng_toInt _ | with_reducible exact rng_wr _ | (unfold rng; omega) | (unfold rng at *; omega) | assumption), ?_⟩
                obtain ⟨b_4, eb_4⟩ := P_200 iσ.1 mb_3 (k := v1.toNat) (by (first | omega | with_reducible assumption | with_reducible exact rng_toInt _ | with_reducible exact rng_wr _ | (unfold rng; omega) | (unfold rng at *; omega) | assumption))
                have fb_4 := T_200 iσ.1 mb_3 eb_4
                have mb_4 : kO σ b_4 101 := iσ.1.kd mb_3 rfl eb_4 rfl
                refine ⟨b_4, eb_4, fun kk_b_4 => ?_⟩
                refine ⟨⟨by (first | omega | with_reducible assumption | with_reducible exact rng_toInt _ | with_reducible exact rng_wr _ | (unfold rng; omega) | (unfold rng at *; omega) | assumption), by (first | omega | with_reducible assumption | with_reducible exact rng_toInt _ | with_reducible exact rng_wr _ | (unfold rng; omega) | (unfold rng at *; omega) | assumption)⟩, ?_⟩
                intro σ29 eσ29
                have xσ29 : Ext σ σ29 := by rw [eσ29]; exact fun _ h => ⟨h, rfl, rfl⟩
                have iσ29 : IV σ29 pl gq ci gr nc ot LL N nu := by rw [eσ29]; exact iσ.wG mb_4 (fun _ => by rw [Int64.toInt_ofInt_of_le (by omega) (by omega)]; omega)
                have fσ29 : Fx [6464, 8448] gr σ σ29 := fσ.tr (Sk.fx (by rw [eσ29]; exact Sk.pJ (by rw [fcdA mb_4 (by decide)]; decide)))
                have kp11 : gI σ29 b_1 v1.toNat = gI σ b_1 v1.toNat := by rw [eσ29]
                have kp12 : gP σ29 J 11 = gP σ J 11 := by rw [eσ29]
                have kp13 : gP σ29 J 12 = gP σ J 12 := by rw [eσ29]
                have kp14 : gP σ29 J 13 = gP σ J 13 := by rw [eσ29]
                have kp15 : gP σ29 J 4 = gP σ J 4 := by rw [eσ29]
                have kp16 : gP σ29 b_3 v1.toNat = gP σ b_3 v1.toNat := by rw [eσ29]
                have kp17 : gP σ29 th 4 = gP σ th 4 := by rw [eσ29]
                refine ⟨by (first | omega | with_reducible assumption | with_reducible exact rng_toInt _ | with_reducible exact rng_wr _ | (unfold rng; omega) | (unfold rng at *; omega) | assumption), ?_⟩
                have q18 := (xσ29 b_4 mb_4.1).2.2
                refine ⟨⟨by (first | omega | with_reducible assumption | with_reducible exact rng_toInt _ | with_reducible exact rng_wr _ | (unfold rng; omega) | (unfold rng at *; omega) | assumption), by (first | omega | with_reducible assumption | with_reducible exact rng_toInt _ | with_reducible exact rng_wr _ | (unfold rng; omega) | (unfold rng at *; omega) | assumption)⟩, ?_⟩
                intro σ30 eσ30
                have xσ30 : Ext σ29 σ30 := by rw [eσ30]; exact fun _ h => ⟨h, rfl, rfl⟩
                have iσ30 : IV σ30 pl gq ci gr nc ot LL N nu := by rw [eσ30]; exact iσ29.wG (mb_4.up xσ29) (fun q => absurd q (by omega))
                have fσ30 : Fx [6464, 8448] gr σ σ30 := fσ29.tr (Sk.fx (by rw [eσ30]; exact Sk.pJ (by rw [fcdA (mb_4.up xσ29) (by decide)]; decide)))
                have kp19 : gI σ30 b_1 v1.toNat = gI σ29 b_1 v1.toNat := by rw [eσ30]
                have kp20 : gP σ30 J 11 = gP σ29 J 11 := by rw [eσ30]
                have kp21 : gP σ30 J 12 = gP σ29 J 12 := by rw [eσ30]
                have kp22 : gP σ30 J 13 = gP σ29 J 13 := by rw [eσ30]
                have kp23 : gP σ30 J 4 = gP σ29 J 4 := by rw [eσ30]
                have kp24 : gP σ30 b_3 v1.toNat = gP σ29 b_3 v1.toNat := by rw [eσ30]
                have kp25 : gP σ30 th 4 = gP σ29 th 4 := by rw [eσ30]
                refine ⟨by (first | omega | with_reducible assumption | with_reducible exact rng_toInt _ | with_reducible exact rng_wr _ | (unfold rng; omega) | (unfold rng at *; omega) | assumption), ?_⟩
                have q26 := ((xσ29.trans xσ30) b_4 mb_4.1).2.2
                refine ⟨⟨by (first | omega | with_reducible assumption | with_reducible exact rng_toInt _ | with_reducible exact rng_wr _ | (unfold rng; omega) | (unfold rng at *; omega) | assumption), by (first | omega | with_reducible assumption | with_reducible exact rng_toInt _ | with_reducible exact rng_wr _ | (unfold rng; omega) | (unfold rng at *; omega) | assumption)⟩, ?_⟩
                intro σ31 eσ31
                have xσ31 : Ext σ30 σ31 := by rw [eσ31]; exact fun _ h => ⟨h, rfl, rfl⟩
                have iσ31 : IV σ31 pl gq ci gr nc ot LL N nu := by rw [eσ31]; exact iσ30.wG (mb_4.up (xσ29.trans xσ30)) (fun q => absurd q (by omega))
                have fσ31 : Fx [6464, 8448] gr σ σ31 := fσ30.tr (Sk.fx (by rw [eσ31]; exact Sk.pJ (by rw [fcdA (mb_4.up (xσ29.trans xσ30)) (by decide)]; decide)))
                have kp27 : gI σ31 b_1 v1.toNat = gI σ30 b_1 v1.toNat := by rw [eσ31]
                have kp28 : gP σ31 J 11 = gP σ30 J 11 := by rw [eσ31]
                have kp29 : gP σ31 J 12 = gP σ30 J 12 := by rw [eσ31]
                have kp30 : gP σ31 J 13 = gP σ30 J 13 := by rw [eσ31]
                have kp31 : gP σ31 J 4 = gP σ30 J 4 := by rw [eσ31]
                have kp32 : gP σ31 b_3 v1.toNat = gP σ30 b_3 v1.toNat := by rw [eσ31]
                have kp33 : gP σ31 th 4 = gP σ30 th 4 := by rw [eσ31]
                refine ⟨by (first | omega | with_reducible assumption | with_reducible exact rng_toInt _ | with_reducible exact rng_wr _ | (unfold rng; omega) | (unfold rng at *; omega) | assumption), ?_⟩
                have q34 := ((xσ29.trans (xσ30.trans xσ31)) b_4 mb_4.1).2.2
                refine ⟨⟨by (first | omega | with_reducible assumption | with_reducible exact rng_toInt _ | with_reducible exact rng_wr _ | (unfold rng; omega) | (unfold rng at *; omega) | assumption), by (first | omega | with_reducible assumption | with_reducible exact rng_toInt _ | with_reducible exact rng_wr _ | (unfold rng; omega) | (unfold rng at *; omega) | assumption)⟩, ?_⟩
                intro σ32 eσ32
                have xσ32 : Ext σ31 σ32 := by rw [eσ32]; exact fun _ h => ⟨h, rfl, rfl⟩
                have iσ32 : IV σ32 pl gq ci gr nc ot LL N nu := by rw [eσ32]; exact iσ31.wG (mb_4.up (xσ29.trans (xσ30.trans xσ31))) (fun q => absurd q (by omega))
                have fσ32 : Fx [6464, 8448] gr σ σ32 := fσ31.tr (Sk.fx (by rw [eσ32]; exact Sk.pJ (by rw [fcdA (mb_4.up (xσ29.trans (xσ30.trans xσ31))) (by decide)]; decide)))
                have kp35 : gI σ32 b_1 v1.toNat = gI σ31 b_1 v1.toNat := by rw [eσ32]
                have kp36 : gP σ32 J 11 = gP σ31 J 11 := by rw [eσ32]
                have kp37 : gP σ32 J 12 = gP σ31 J 12 := by rw [eσ32]
                have kp38 : gP σ32 J 13 = gP σ31 J 13 := by rw [eσ32]
                have kp39 : gP σ32 J 4 = gP σ31 J 4 := by rw [eσ32]
                have kp40 : gP σ32 b_3 v1.toNat = gP σ31 b_3 v1.toNat := by rw [eσ32]
                have kp41 : gP σ32 th 4 = gP σ31 th 4 := by rw [eσ32]
                refine ⟨by (first | omega | with_reducible assumption | with_reducible exact rng_toInt _ | with_reducible exact rng_wr _ | (unfold rng; omega) | (unfold rng at *; omega) | assumption), ?_⟩
                have q42 := ((xσ29.trans (xσ30.trans (xσ31.trans xσ32))) b_4 mb_4.1).2.2
                refine ⟨⟨by (first | omega | with_reducible assumption | with_reducible exact rng_toInt _ | with_reducible exact rng_wr _ | (unfold rng; omega) | (unfold rng at *; omega) | assumption), by (first | omega | with_reducible assumption | with_reducible exact rng_toInt _ | with_reducible exact rng_wr _ | (unfold rng; omega) | (unfold rng at *; omega) | assumption)⟩, ?_⟩
                intro σ33 eσ33
                have xσ33 : Ext σ32 σ33 := by rw [eσ33]; exact fun _ h => ⟨h, rfl, rfl⟩
                have iσ33 : IV σ33 pl gq ci gr nc ot LL N nu := by rw [eσ33]; exact iσ32.wG (mb_4.up (xσ29.trans (xσ30.trans (xσ31.trans xσ32)))) (fun q => absurd q (by omega))
                have fσ33 : Fx [6464, 8448] gr σ σ33 := fσ32.tr (Sk.fx (by rw [eσ33]; exact Sk.pJ (by rw [fcdA (mb_4.up (xσ29.trans (xσ30.trans (xσ31.trans xσ32)))) (by decide)]; decide)))
                have kp43 : gI σ33 b_1 v1.toNat = gI σ32 b_1 v1.toNat := by rw [eσ33]
                have kp44 : gP σ33 J 11 = gP σ32 J 11 := by rw [eσ33]
                have kp45 : gP σ33 J 12 = gP σ32 J 12 := by rw [eσ33]
                have kp46 : gP σ33 J 13 = gP σ32 J 13 := by rw [eσ33]
                have kp47 : gP σ33 J 4 = gP σ32 J 4 := by rw [eσ33]
                have kp48 : gP σ33 b_3 v1.toNat = gP σ32 b_3 v1.toNat := by rw [eσ33]
                have kp49 : gP σ33 th 4 = gP σ32 th 4 := by rw [eσ33]
                refine ⟨J, (kp49.trans (kp41.trans (kp33.trans (kp25.trans (kp17.trans h4))))), fun kk_J_4 => ?_⟩
                refine ⟨by (first | omega | with_reducible assumption | with_reducible exact rng_toInt _ | with_reducible exact rng_wr _ | (unfold rng; omega) | (unfold rng at *; omega) | assumption), ?_⟩
                refine ⟨b_2, (kp45.trans (kp37.trans (kp29.trans (kp21.trans (kp13.trans eb_2))))), fun kk_b_2_2 => ?_⟩
                have q50 := ((xσ29.trans (xσ30.trans (xσ31.trans (xσ32.trans xσ33)))) b_2 mb_2.1).2.2
                refine ⟨⟨by (first | omega | with_reducible assumption | with_reducible exact rng_toInt _ | with_reducible exact rng_wr _ | (unfold rng; omega) | (unfold rng at *; omega) | assumption), by (first | omega | with_reducible assumption | with_reducible exact rng_toInt _ | with_reducible exact rng_wr _ | (unfold rng; omega) | (unfold rng at *; omega) | assumption)⟩, ?_⟩
                intro σ36 eσ36
                have xσ36 : Ext σ33 σ36 := by rw [eσ36]; exact fun _ h => ⟨h, rfl, rfl⟩
                have iσ36 : IV σ36 pl gq ci gr nc ot LL N nu := by rw [eσ36]; exact iσ33.wA2 (mb_2.up (xσ29.trans (xσ30.trans (xσ31.trans (xσ32.trans xσ33))))) (by (first | omega | with_reducible assumption | with_reducible exact rng_toInt _ | with_reducible exact rng_wr _ | (unfold rng; omega) | (unfold rng at *; omega) | assumption)) ⟨by (first | omega | with_reducible assumption | with_reducible exact rng_toInt _ | with_reducible exact rng_wr _ | (unfold rng; omega) | (unfold rng at *; omega) | assumption), by (first | omega | with_reducible assumption | with_reducible exact rng_toInt _ | with_reducible exact rng_wr _ | (unfold rng; omega) | (unfold rng at *; omega) | assumption)⟩
                have fσ36 : Fx [6464, 8448] gr σ σ36 := fσ33.tr (Sk.fx (by rw [eσ36]; exact Sk.pI (by rw [fcdI (mb_2.up (xσ29.trans (xσ30.trans (xσ31.trans (xσ32.trans xσ33))))), show gr b_2 = 2 from by (first | omega | with_reducible assumption | with_reducible exact rng_toInt _ | with_reducible exact rng_wr _ | (unfold rng; omega) | (unfold rng at *; omega) | assumption)]; decide)))
                have wσ36 : gI σ36 b_2 v1.toNat = ((gI σ b_2 v1.toNat) + 1) := by rw [eσ36]; exact up2_s _ _ _ _
                have kp51 : gI σ36 b_1 v1.toNat = gI σ33 b_1 v1.toNat := by rw [eσ36]; exact up2_n _ _ (fun q => absurd q.1 (kO.ne (mb_1.up (xσ29.trans (xσ30.trans (xσ31.trans (xσ32.trans xσ33))))) (mb_2.up (xσ29.trans (xσ30.trans (xσ31.trans (xσ32.trans xσ33))))) (by decide)))
                have kp52 : gP σ36 J 11 = gP σ33 J 11 := by rw [eσ36]
                have kp53 : gP σ36 J 12 = gP σ33 J 12 := by rw [eσ36]
                have kp54 : gP σ36 J 13 = gP σ33 J 13 := by rw [eσ36]
                have kp55 : gP σ36 J 4 = gP σ33 J 4 := by rw [eσ36]
                have kp56 : gP σ36 b_3 v1.toNat = gP σ33 b_3 v1.toNat := by rw [eσ36]
                have kp57 : gP σ36 th 4 = gP σ33 th 4 := by rw [eσ36]
                exact hQ σ36 (gI σ b_2 v1.toNat) iσ36 fσ36 (trivial)
              · rw [if_neg hc9]
                unfold w_X12_give_82
                refine ⟨iσ.room, ?_⟩
                exact hX _ _ _ _ _ (iσ.bump (by (first | omega | with_reducible assumption | with_reducible exact rng_toInt _ | with_reducible exact rng_wr _ | (unfold rng; omega) | (unfold rng at *; omega) | assumption))) (fσ.tr Fx.bump) (NX.bump) (⟨rfl, rfl, by first | exact rfl | exact Or.inl rfl | exact Or.inr rfl | exact Or.inr (Or.inl rfl) | exact Or.inr (Or.inr rfl) | exact Or.inr (Or.inr (Or.inl rfl)) | exact Or.inr (Or.inr (Or.inr rfl))⟩)
            · rw [if_neg hc8]
              unfold w_X12_give_60
              refine ⟨iσ.room, ?_⟩
              exact hX _ _ _ _ _ (iσ.bump (by (first | omega | with_reducible assumption | with_reducible exact rng_toInt _ | with_reducible exact rng_wr _ | (unfold rng; omega) | (unfold rng at *; omega) | assumption))) (fσ.tr Fx.bump) (NX.bump) (⟨rfl, rfl, by first | exact rfl | exact Or.inl rfl | exact Or.inr rfl | exact Or.inr (Or.inl rfl) | exact Or.inr (Or.inr rfl) | exact Or.inr (Or.inr (Or.inl rfl)) | exact Or.inr (Or.inr (Or.inr rfl))⟩)
        · rw [if_neg hc5]
          unfold w_X12_give_42
          refine ⟨iσ.room, ?_⟩
          exact hX _ _ _ _ _ (iσ.bump (by (first | omega | with_reducible assumption | with_reducible exact rng_toInt _ | with_reducible exact rng_wr _ | (unfold rng; omega) | (unfold rng at *; omega) | assumption))) (fσ.tr Fx.bump) (NX.bump) (⟨rfl, rfl, by first | exact rfl | exact Or.inl rfl | exact Or.inr rfl | exact Or.inr (Or.inl rfl) | exact Or.inr (Or.inr rfl) | exact Or.inr (Or.inr (Or.inl rfl)) | exact Or.inr (Or.inr (Or.inr rfl))⟩)
    · rw [if_neg hc2]
      unfold w_X12_give_9
      refine ⟨iσ.room, ?_⟩
      exact hX _ _ _ _ _ (iσ.bump (by (first | omega | with_reducible assumption | with_reducible exact rng_toInt _ | with_reducible exact rng_wr _ | (unfold rng; omega) | (unfold rng at *; omega) | assumption))) (fσ.tr Fx.bump) (NX.bump) (⟨rfl, rfl, by first | exact rfl | exact Or.inl rfl | exact Or.inr rfl | exact Or.inr (Or.inl rfl) | exact Or.inr (Or.inr rfl) | exact Or.inr (Or.inr (Or.inl rfl)) | exact Or.inr (Or.inr (Or.inr rfl))⟩)
set_option maxHeartbeats 1000000 in
theorem i_X12_mark {σ : Sg} {pl : Nat} {gq ci gr nc : Nat → Nat} {ot : Nat → Nat → Int} {LL : Nat → List Nat} {N nu : Nat → Nat} {th : Nat} {R D : Nat} (iσ : IV σ pl gq ci gr nc ot LL N nu) (kth : kO σ th 12) (hR : gP σ th 7 = some R) (kR : kO σ R 9) (hD : gP σ R 2 = some D) (kD : kO σ D 3) (h5 : nu 5 < 24000) (n5 : N 5 = 0) (ha : 0 ≤ gI σ D 2 ∧ gI σ D 2 < 100000) {Q : Sg → Int → Prop} {X : Sg → String → Prop} (hQ : ∀ (σ' : Sg) (r : Int), IV σ' pl gq ci gr nc ot LL N nu → Fx [194, 195, 198, 199] gr σ σ' → (gI σ' D 2 = gI σ D 2 + 1) → Q σ' r) (hX : ∀ (σ' : Sg) (LL' : Nat → List Nat) (N' nu' : Nat → Nat) (E : String), IV σ' pl gq ci gr nc ot LL' N' nu' → Fx [194, 195, 198, 199] gr σ σ' → NX nu nu' → (LL' = LL ∧ N' = N ∧ (E = "java/lang/IllegalStateException") ∧ gI σ' D 2 = gI σ D 2) → X σ' E) : wp_X12_mark th σ Q X := by
  have fσ : Fx [194, 195, 198, 199] gr σ σ := Fx.rf
  have q1 := iσ.rg D 2; unfold rng at q1
  unfold wp_X12_mark
  unfold w_X12_mark_0
  refine i_X12_needRun iσ kth hR kR hD kD (by (first | omega | with_reducible assumption | with_reducible exact rng_toInt _ | with_reducible exact rng_wr _ | (unfold rng; omega) | (unfold rng at *; omega) | assumption)) (fun _ pσ9 => ?_) (fun σx LLx Nx nux E ix cx ux px => hX σx LLx Nx nux E ix (fσ.tr (cx.mo (by decide))) (ux) ⟨px.1, px.2.1, px.2.2, (cx.O kD (by decide)).1⟩)
  intro xσ9
  refine ⟨R, hR, fun kk_R => ?_⟩
  have q3 := I_9_16 iσ.1 kR
  by_cases hc2 : gI σ R 16 ≠ 0
  · rw [if_pos hc2]
    unfold w_X12_mark_27
    refine ⟨iσ.room, ?_⟩
    exact hX _ _ _ _ _ (iσ.bump (by (first | omega | with_reducible assumption | with_reducible exact rng_toInt _ | with_reducible exact rng_wr _ | (unfold rng; omega) | (unfold rng at *; omega) | assumption))) (fσ.tr Fx.bump) (NX.bump) (⟨rfl, rfl, rfl, rfl⟩)
  · rw [if_neg hc2]
    have hc2q := Classical.not_not.mp hc2
    unfold w_X12_mark_14
    refine ⟨R, hR, fun kk_R_1 => ?_⟩
    refine ⟨D, hD, fun kk_D => ?_⟩
    have q5 := iσ.rg D 3; unfold rng at q5
    by_cases hc4 : gI σ D 3 = 0
    · rw [if_pos hc4]
      unfold w_X12_mark_35
      obtain ⟨b, eb, fb⟩ := P_3_0 iσ.1 kD
      have mb : kO σ b 120 := iσ.1.kd kD rfl eb rfl
      obtain ⟨b_1, eb_1, fb_1⟩ := P_3_1 iσ.1 kD
      have mb_1 : kO σ b_1 120 := iσ.1.kd kD rfl eb_1 rfl
      refine ⟨R, hR, fun kk_R_2 => ?_⟩
      refine ⟨D, hD, fun kk_D_1 => ?_⟩
      refine i_X3_ask iσ kD eb (by (first | omega | with_reducible assumption | with_reducible exact rng_toInt _ | with_reducible exact rng_wr _ | (unfold rng; omega) | (unfold rng at *; omega) | assumption)) eb_1 (by (first | omega | with_reducible assumption | with_reducible exact rng_toInt _ | with_reducible exact rng_wr _ | (unfold rng; omega) | (unfold rng at *; omega) | assumption)) (by (first | omega | with_reducible assumption | with_reducible exact rng_toInt _ | with_reducible exact rng_wr _ | (unfold rng; omega) | (unfold rng at *; omega) | assumption)) (by (first | omega | with_reducible assumption | with_reducible exact rng_toInt _ | with_reducible exact rng_wr _ | (unfold rng; omega) | (unfold rng at *; omega) | assumption)) (fun σ14 r15 iσ14 cσ14 pσ14 => ?_)
      intro xσ14
      have fσ14 : Fx [194, 195, 198, 199] gr σ σ14 := fσ.tr (cσ14.mo (by decide))
      have kp6 : gI σ14 R 16 = gI σ R 16 := (cσ14.O kR (by decide)).1
      have kp7 : gP σ14 D 0 = gP σ D 0 := (cσ14.O kD (by decide)).2.1
      have kp8 : gP σ14 D 1 = gP σ D 1 := (cσ14.O kD (by decide)).2.1
      have kp9 : gP σ14 R 2 = gP σ R 2 := (cσ14.O kR (by decide)).2.1
      have kp10 : gP σ14 th 7 = gP σ th 7 := (cσ14.O kth (by decide)).2.1
      exact hQ σ14 r15 iσ14 fσ14 (by (first | omega | with_reducible assumption | with_reducible exact rng_toInt _ | with_reducible exact rng_wr _ | (unfold rng; omega) | (unfold rng at *; omega) | assumption))
    · rw [if_neg hc4]
      unfold w_X12_mark_27
      refine ⟨iσ.room, ?_⟩
      exact hX _ _ _ _ _ (iσ.bump (by (first | omega | with_reducible assumption | with_reducible exact rng_toInt _ | with_reducible exact rng_wr _ | (unfold rng; omega) | (unfold rng at *; omega) | assumption))) (fσ.tr Fx.bump) (NX.bump) (⟨rfl, rfl, rfl, rfl⟩)
set_option maxHeartbeats 1000000 in
theorem i_X12_start {σ : Sg} {pl : Nat} {gq ci gr nc : Nat → Nat} {ot : Nat → Nat → Int} {LL : Nat → List Nat} {N nu : Nat → Nat} {th : Nat} {v1 : Int} {v2 : Int} {v3 : Int64} {J R D W : Nat} (iσ : IV σ pl gq ci gr nc ot LL N nu) (kth : kO σ th 12) (h4 : gP σ th 4 = some J) (kJ : kO σ J 4) (hJ : gq J = nc 0) (hR : gP σ th 7 = some R) (kR : kO σ R 9) (hD : gP σ R 2 = some D) (kD : kO σ D 3) (hW : gP σ R 1 = some W) (kW : kO σ W 11) (hu : HU σ nc nu J R W D) (h5 : nu 5 < 24000) (n5 : N 5 = 0) {Q : Sg → Int → Prop} {X : Sg → String → Prop} (hQ : ∀ (σ' : Sg) (gq' ci' : Nat → Nat) (LL' : Nat → List Nat) (N' nu' : Nat → Nat) (r : Int), IV σ' pl gq' ci' gr nc ot LL' N' nu' → GE (gD σ) gq ci gq' ci' → Fx [1, 64, 129, 130, 131, 132, 133, 134, 135, 194, 195, 196, 512, 513, 585, 586, 587, 588, 589, 590, 591, 592, 593, 594, 595, 640, 641, 645, 646, 647, 648, 649, 650, 651, 652, 653, 654, 655, 708, 709, 7168, 7680, 8512] gr σ σ' → NW nu nu' → Hn (gD σ) [11, 12, 13, 50, 60, 61, 62, 63, 64, 65, 66, 67, 68, 69, 70, 71, 21, 22, 31, 32, 5] [] gq LL LL' N N' → (N' 1 = N 1 ∧ N' 5 = 0 ∧ gI σ' D 2 = 0 ∧ HU σ' nc nu' J R W D) → Q σ' r) (hX : ∀ (σ' : Sg) (gq' ci' : Nat → Nat) (LL' : Nat → List Nat) (N' nu' : Nat → Nat) (E : String), IV σ' pl gq' ci' gr nc ot LL' N' nu' → GE (gD σ) gq ci gq' ci' → Fx [1, 64, 129, 130, 131, 132, 133, 134, 135, 194, 195, 196, 512, 513, 585, 586, 587, 588, 589, 590, 591, 592, 593, 594, 595, 640, 641, 645, 646, 647, 648, 649, 650, 651, 652, 653, 654, 655, 708, 709, 7168, 7680, 8512] gr σ σ' → NV nu nu' → (LL' = LL ∧ N' = N ∧ (E = "java/lang/IllegalStateException" ∨ E = "java/lang/IllegalArgumentException") ∧ HU σ' nc nu' J R W D ∧ gI σ' D 2 = gI σ D 2) → X σ' E) : wp_X12_start th v1 v2 v3 σ Q X := by
  have fσ : Fx [1, 64, 129, 130, 131, 132, 133, 134, 135, 194, 195, 196, 512, 513, 585, 586, 587, 588, 589, 590, 591, 592, 593, 594, 595, 640, 641, 645, 646, 647, 648, 649, 650, 651, 652, 653, 654, 655, 708, 709, 7168, 7680, 8512] gr σ σ := Fx.rf
  have geσ : GE (gD σ) gq ci gq ci := GE.rf
  have hnσ : Hn (gD σ) [11, 12, 13, 50, 60, 61, 62, 63, 64, 65, 66, 67, 68, 69, 70, 71, 21, 22, 31, 32, 5] [] gq LL LL N N := Hn.rf
  have jc := iσ.jc kJ hJ
  unfold wp_X12_start
  unfold w_X12_start_0
  refine ⟨J, h4, fun kk_J => ?_⟩
  have q2 := I_4_1 iσ.1 kJ
  by_cases hc1 : gI σ J 1 = 0
  · rw [if_pos hc1]
    unfold w_X12_start_23
    refine ⟨iσ.room, ?_⟩
    exact hX _ _ _ _ _ _ _ (iσ.bump (by (first | omega | with_reducible assumption | with_reducible exact rng_toInt _ | with_reducible exact rng_wr _ | (unfold rng; omega) | (unfold rng at *; omega) | assumption))) geσ (fσ.tr Fx.bump) (NX.bump.nv) (⟨rfl, rfl, (by first | exact rfl | exact Or.inl rfl | exact Or.inr rfl | exact Or.inr (Or.inl rfl) | exact Or.inr (Or.inr rfl) | exact Or.inr (Or.inr (Or.inl rfl)) | exact Or.inr (Or.inr (Or.inr rfl))), hu.fx (Fx.bump (L := []) (gr := gr)) kR kW kD (by decide) rfl rfl, rfl⟩)
  · rw [if_neg hc1]
    unfold w_X12_start_10
    refine ⟨R, hR, fun kk_R => ?_⟩
    refine ⟨D, hD, fun kk_D => ?_⟩
    have q4 := I_3_9 iσ.1 kD
    by_cases hc3 : gI σ D 9 = 0
    · rw [if_pos hc3]
      unfold w_X12_start_31
      by_cases hc5 : v1 < 1
      · rw [if_pos hc5]
        unfold w_X12_start_52
        refine ⟨iσ.room, ?_⟩
        exact hX _ _ _ _ _ _ _ (iσ.bump (by (first | omega | with_reducible assumption | with_reducible exact rng_toInt _ | with_reducible exact rng_wr _ | (unfold rng; omega) | (unfold rng at *; omega) | assumption))) geσ (fσ.tr Fx.bump) (NX.bump.nv) (⟨rfl, rfl, (by first | exact rfl | exact Or.inl rfl | exact Or.inr rfl | exact Or.inr (Or.inl rfl) | exact Or.inr (Or.inr rfl) | exact Or.inr (Or.inr (Or.inl rfl)) | exact Or.inr (Or.inr (Or.inr rfl))), hu.fx (Fx.bump (L := []) (gr := gr)) kR kW kD (by decide) rfl rfl, rfl⟩)
      · rw [if_neg hc5]
        unfold w_X12_start_36
        by_cases hc6 : v1 > 4
        · rw [if_pos hc6]
          unfold w_X12_start_52
          refine ⟨iσ.room, ?_⟩
          exact hX _ _ _ _ _ _ _ (iσ.bump (by (first | omega | with_reducible assumption | with_reducible exact rng_toInt _ | with_reducible exact rng_wr _ | (unfold rng; omega) | (unfold rng at *; omega) | assumption))) geσ (fσ.tr Fx.bump) (NX.bump.nv) (⟨rfl, rfl, (by first | exact rfl | exact Or.inl rfl | exact Or.inr rfl | exact Or.inr (Or.inl rfl) | exact Or.inr (Or.inr rfl) | exact Or.inr (Or.inr (Or.inl rfl)) | exact Or.inr (Or.inr (Or.inr rfl))), hu.fx (Fx.bump (L := []) (gr := gr)) kR kW kD (by decide) rfl rfl, rfl⟩)
        · rw [if_neg hc6]
          unfold w_X12_start_41
          by_cases hc7 : v2 < 1
          · rw [if_pos hc7]
            unfold w_X12_start_52
            refine ⟨iσ.room, ?_⟩
            exact hX _ _ _ _ _ _ _ (iσ.bump (by (first | omega | with_reducible assumption | with_reducible exact rng_toInt _ | with_reducible exact rng_wr _ | (unfold rng; omega) | (unfold rng at *; omega) | assumption))) geσ (fσ.tr Fx.bump) (NX.bump.nv) (⟨rfl, rfl, (by first | exact rfl | exact Or.inl rfl | exact Or.inr rfl | exact Or.inr (Or.inl rfl) | exact Or.inr (Or.inr rfl) | exact Or.inr (Or.inr (Or.inl rfl)) | exact Or.inr (Or.inr (Or.inr rfl))), hu.fx (Fx.bump (L := []) (gr := gr)) kR kW kD (by decide) rfl rfl, rfl⟩)
          · rw [if_neg hc7]
            unfold w_X12_start_46
            by_cases hc8 : v2 ≤ 8
            · rw [if_pos hc8]
              unfold w_X12_start_60
              obtain ⟨b, eb, fb⟩ := P_9_5 iσ.1 kR
              have mb : kO σ b 100 := iσ.1.kd kR rfl eb rfl
              refine ⟨R, hR, fun kk_R_1 => ?_⟩
              refine i_X9_begin iσ kR h4 kJ eb (by (first | omega | with_reducible assumption | with_reducible exact rng_toInt _ | with_reducible exact rng_wr _ | (unfold rng; omega) | (unfold rng at *; omega) | assumption)) (by (first | omega | with_reducible assumption | with_reducible exact rng_toInt _ | with_reducible exact rng_wr _ | (unfold rng; omega) | (unfold rng at *; omega) | assumption)) (by (first | omega | with_reducible assumption | with_reducible exact rng_toInt _ | with_reducible exact rng_wr _ | (unfold rng; omega) | (unfold rng at *; omega) | assumption)) (by (first | omega | with_reducible assumption | with_reducible exact rng_toInt _ | with_reducible exact rng_wr _ | (unfold rng; omega) | (unfold rng at *; omega) | assumption)) (by (first | omega | with_reducible assumption | with_reducible exact rng_toInt _ | with_reducible exact rng_wr _ | (unfold rng; omega) | (unfold rng at *; omega) | assumption)) (by (first | omega | with_reducible assumption | with_reducible exact rng_toInt _ | with_reducible exact rng_wr _ | (unfold rng; omega) | (unfold rng at *; omega) | assumption)) hD kD (fun σ10 gqσ10 ciσ10 LLσ10 Nσ10 nuσ10 _ iσ10 gσ10 cσ10 uσ10 hσ10 pσ10 => ?_)
              intro xσ10
              have fσ10 : Fx [1, 64, 129, 130, 131, 132, 133, 134, 135, 194, 195, 196, 512, 513, 585, 586, 587, 588, 589, 590, 591, 592, 593, 594, 595, 640, 641, 645, 646, 647, 648, 649, 650, 651, 652, 653, 654, 655, 708, 709, 7168, 7680, 8512] gr σ σ10 := fσ.tr (cσ10.mo (by decide))
              have geσ10 : GE (gD σ) gq ci gqσ10 ciσ10 := geσ.tr gσ10 (fun d hd => (fσ.1 d hd).1)
              have gl9 := gσ10 J kJ.1
              have gl10 := gσ10 W kW.1
              have hnσ10 : Hn (gD σ) [11, 12, 13, 50, 60, 61, 62, 63, 64, 65, 66, 67, 68, 69, 70, 71, 21, 22, 31, 32, 5] [] gq LL LLσ10 N Nσ10 := hnσ.go (hσ10.ge (fun a ha => (geσ a ha).1) (fun d hd => (fσ.1 d hd).1)) (fun _ hd => hd) (by first | decide | exact fun _ h => h | (simp; done) | (intro x hx; simp only [List.mem_cons, List.mem_nil_iff, or_false] at hx ⊢; omega)) (fun d hd => absurd hd (by simp))
              have nu_σ10 : NW nu nuσ10 := uσ10
              have uσ10_5 := uσ10.1 5 (by decide)
              have uσ10_0 := uσ10.2
              have kp11 : gI σ10 D 9 = gI σ D 9 := (cσ10.O kD (by decide)).1
              have kp12 : gI σ10 J 1 = gI σ J 1 := (cσ10.O kJ (by decide)).1
              have kp13 : gP σ10 R 1 = gP σ R 1 := (cσ10.O kR (by decide)).2.1
              have kp14 : gP σ10 R 2 = gP σ R 2 := (cσ10.O kR (by decide)).2.1
              have kp15 : gP σ10 R 5 = gP σ R 5 := (cσ10.O kR (by decide)).2.1
              have kp16 : gP σ10 th 4 = gP σ th 4 := (cσ10.O kth (by decide)).2.1
              have kp17 : gP σ10 th 7 = gP σ th 7 := (cσ10.O kth (by decide)).2.1
              refine ⟨R, (kp17.trans hR), fun kk_R_2 => ?_⟩
              have q18 := iσ10.tc (kR.up xσ10)
              have q19 := I_9_10 iσ10.1 (kR.up xσ10)
              exact hQ σ10 gqσ10 ciσ10 LLσ10 Nσ10 nuσ10 (gI σ10 R 10) iσ10 geσ10 fσ10 (nu_σ10) hnσ10 (⟨by omega, by omega, pσ10.2.2.2.2.2, ⟨fun _ => ⟨pσ10.2.2.2.1, pσ10.2.2.2.2.1 W (kp13.trans hW), by omega, by omega, by omega⟩, fun z => absurd z (by omega)⟩⟩)
            · rw [if_neg hc8]
              unfold w_X12_start_52
              refine ⟨iσ.room, ?_⟩
              exact hX _ _ _ _ _ _ _ (iσ.bump (by (first | omega | with_reducible assumption | with_reducible exact rng_toInt _ | with_reducible exact rng_wr _ | (unfold rng; omega) | (unfold rng at *; omega) | assumption))) geσ (fσ.tr Fx.bump) (NX.bump.nv) (⟨rfl, rfl, (by first | exact rfl | exact Or.inl rfl | exact Or.inr rfl | exact Or.inr (Or.inl rfl) | exact Or.inr (Or.inr rfl) | exact Or.inr (Or.inr (Or.inl rfl)) | exact Or.inr (Or.inr (Or.inr rfl))), hu.fx (Fx.bump (L := []) (gr := gr)) kR kW kD (by decide) rfl rfl, rfl⟩)
    · rw [if_neg hc3]
      unfold w_X12_start_23
      refine ⟨iσ.room, ?_⟩
      exact hX _ _ _ _ _ _ _ (iσ.bump (by (first | omega | with_reducible assumption | with_reducible exact rng_toInt _ | with_reducible exact rng_wr _ | (unfold rng; omega) | (unfold rng at *; omega) | assumption))) geσ (fσ.tr Fx.bump) (NX.bump.nv) (⟨rfl, rfl, (by first | exact rfl | exact Or.inl rfl | exact Or.inr rfl | exact Or.inr (Or.inl rfl) | exact Or.inr (Or.inr rfl) | exact Or.inr (Or.inr (Or.inl rfl)) | exact Or.inr (Or.inr (Or.inr rfl))), hu.fx (Fx.bump (L := []) (gr := gr)) kR kW kD (by decide) rfl rfl, rfl⟩)
set_option maxHeartbeats 1000000 in
theorem i_X12_fail {σ : Sg} {pl : Nat} {gq ci gr nc : Nat → Nat} {ot : Nat → Nat → Int} {LL : Nat → List Nat} {N nu : Nat → Nat} {th : Nat} {J R D W : Nat} (iσ : IV σ pl gq ci gr nc ot LL N nu) (kth : kO σ th 12) (h4 : gP σ th 4 = some J) (kJ : kO σ J 4) (hJ : gq J = nc 0) (hR : gP σ th 7 = some R) (kR : kO σ R 9) (hD : gP σ R 2 = some D) (kD : kO σ D 3) (hW : gP σ R 1 = some W) (kW : kO σ W 11) (hu : HU σ nc nu J R W D) (h5 : nu 5 < 24000) (n5 : N 5 = 0) (hb : N 14 + N 44 + N 74 + N 1 ≤ 20000) {Q : Sg → Int → Prop} {X : Sg → String → Prop} (hQ : ∀ (σ' : Sg) (gq' ci' : Nat → Nat) (LL' : Nat → List Nat) (N' nu' : Nat → Nat) (r : Int), IV σ' pl gq' ci' gr nc ot LL' N' nu' → GE (gD σ) gq ci gq' ci' → Fx [1, 2, 3, 4, 5, 6, 7, 64, 129, 130, 131, 132, 133, 134, 135, 195, 512, 586, 587, 588, 590, 592, 595, 640, 641, 645, 646, 647, 648, 649, 650, 651, 652, 653, 654, 655, 708, 6464, 7168, 7680, 8512] gr σ σ' → NW nu nu' → Hn (gD σ) [11, 12, 13, 50, 60, 61, 62, 63, 64, 65, 66, 67, 21, 22, 31, 32, 5] [] gq LL LL' N N' → (N' 1 = N 1 ∧ N' 5 = 0 ∧ gI σ' D 2 = gI σ D 2 ∧ HU σ' nc nu' J R W D) → Q σ' r) (hX : ∀ (σ' : Sg) (gq' ci' : Nat → Nat) (LL' : Nat → List Nat) (N' nu' : Nat → Nat) (E : String), IV σ' pl gq' ci' gr nc ot LL' N' nu' → GE (gD σ) gq ci gq' ci' → Fx [1, 2, 3, 4, 5, 6, 7, 64, 129, 130, 131, 132, 133, 134, 135, 195, 512, 586, 587, 588, 590, 592, 595, 640, 641, 645, 646, 647, 648, 649, 650, 651, 652, 653, 654, 655, 708, 6464, 7168, 7680, 8512] gr σ σ' → NV nu nu' → ((N' 1 ≤ N 1 + 2 ∧ N' 5 = N 5 ∧ N' 3 = N 3 ∧ N' 14 = N 14 ∧ N' 44 = N 44 ∧ N' 74 = N 74) ∧ NZ N N' ∧ HU σ' nc nu' J R W D ∧ (E = "java/lang/IllegalStateException")) → X σ' E) : wp_X12_fail th σ Q X := by
  have fσ : Fx [1, 2, 3, 4, 5, 6, 7, 64, 129, 130, 131, 132, 133, 134, 135, 195, 512, 586, 587, 588, 590, 592, 595, 640, 641, 645, 646, 647, 648, 649, 650, 651, 652, 653, 654, 655, 708, 6464, 7168, 7680, 8512] gr σ σ := Fx.rf
  have geσ : GE (gD σ) gq ci gq ci := GE.rf
  have hnσ : Hn (gD σ) [11, 12, 13, 50, 60, 61, 62, 63, 64, 65, 66, 67, 21, 22, 31, 32, 5] [] gq LL LL N N := Hn.rf
  have jc := iσ.jc kJ hJ
  unfold wp_X12_fail
  unfold w_X12_fail_0
  refine i_X12_needRun iσ kth hR kR hD kD (by (first | omega | with_reducible assumption | with_reducible exact rng_toInt _ | with_reducible exact rng_wr _ | (unfold rng; omega) | (unfold rng at *; omega) | assumption)) (fun _ pσ6 => ?_) (fun σx LLx Nx nux E ix cx ux px => hX σx gq ci LLx Nx nux E ix geσ (fσ.tr (cx.mo (by decide))) ux.nv (by obtain ⟨e1, e2, e3⟩ := px; subst e1 e2; exact ⟨by omega, NZ.rf, hu.fx cx kR kW kD (by decide) (ux.1 15 (by decide)) (ux.1 17 (by decide)), (by first | exact e3 | exact Or.inl e3 | exact Or.inr e3 | exact Or.inr (Or.inl e3) | exact Or.inr (Or.inr e3) | exact Or.inr (Or.inr (Or.inl e3)) | exact Or.inr (Or.inr (Or.inr e3)))⟩))
  intro xσ6
  have hu9 := hu.1 pσ6.1
  obtain ⟨b, eb, fb⟩ := P_9_5 iσ.1 kR
  have mb : kO σ b 100 := iσ.1.kd kR rfl eb rfl
  refine ⟨R, hR, fun kk_R => ?_⟩
  have q1 := I_9_12 iσ.1 kR
  refine i_X9_beginAgain iσ kR hu9.1 kJ (by (first | omega | with_reducible assumption | with_reducible exact rng_toInt _ | with_reducible exact rng_wr _ | (unfold rng; omega) | (unfold rng at *; omega) | assumption)) hW kW hu9.2.1 eb (by (first | omega | with_reducible assumption | with_reducible exact rng_toInt _ | with_reducible exact rng_wr _ | (unfold rng; omega) | (unfold rng at *; omega) | assumption)) (by (first | omega | with_reducible assumption | with_reducible exact rng_toInt _ | with_reducible exact rng_wr _ | (unfold rng; omega) | (unfold rng at *; omega) | assumption)) (by (first | omega | with_reducible assumption | with_reducible exact rng_toInt _ | with_reducible exact rng_wr _ | (unfold rng; omega) | (unfold rng at *; omega) | assumption)) (by (first | omega | with_reducible assumption | with_reducible exact rng_toInt _ | with_reducible exact rng_wr _ | (unfold rng; omega) | (unfold rng at *; omega) | assumption)) (by (first | omega | with_reducible assumption | with_reducible exact rng_toInt _ | with_reducible exact rng_wr _ | (unfold rng; omega) | (unfold rng at *; omega) | assumption)) (by (first | omega | with_reducible assumption | with_reducible exact rng_toInt _ | with_reducible exact rng_wr _ | (unfold rng; omega) | (unfold rng at *; omega) | assumption)) (fun σ8 gqσ8 ciσ8 LLσ8 Nσ8 nuσ8 _ iσ8 gσ8 cσ8 uσ8 hσ8 pσ8 => ?_) (fun σx gqx cix LLx Nx nux E ix gx cx ux px => hX σx gqx cix LLx Nx nux E ix (geσ.tr gx (fun d hd => (fσ.1 d hd).1)) (fσ.tr (cx.mo (by decide))) (ux) ⟨by have := px.1; omega, NZ.tr NZ.rf px.2.2.1, ⟨fun _ => ⟨(cx.O kR (by decide)).2.1.trans hu9.1, (cx.O kW (by decide)).2.1.trans hu9.2.1, by have := px.2.1.2.1; omega, by have := px.2.1.1; omega, hu9.2.2.2.2⟩, fun z => absurd z (by have d9 := (cx.O kD (k := 9) (by decide)).1; omega)⟩, (by first | exact px.2.2.2 | exact Or.inl px.2.2.2 | exact Or.inr px.2.2.2 | exact Or.inr (Or.inl px.2.2.2) | exact Or.inr (Or.inr px.2.2.2) | exact Or.inr (Or.inr (Or.inl px.2.2.2)) | exact Or.inr (Or.inr (Or.inr px.2.2.2)))⟩)
  intro xσ8
  have fσ8 : Fx [1, 2, 3, 4, 5, 6, 7, 64, 129, 130, 131, 132, 133, 134, 135, 195, 512, 586, 587, 588, 590, 592, 595, 640, 641, 645, 646, 647, 648, 649, 650, 651, 652, 653, 654, 655, 708, 6464, 7168, 7680, 8512] gr σ σ8 := fσ.tr (cσ8.mo (by decide))
  have geσ8 : GE (gD σ) gq ci gqσ8 ciσ8 := geσ.tr gσ8 (fun d hd => (fσ.1 d hd).1)
  have gl2 := gσ8 J kJ.1
  have gl3 := gσ8 W kW.1
  have hnσ8 : Hn (gD σ) [11, 12, 13, 50, 60, 61, 62, 63, 64, 65, 66, 67, 21, 22, 31, 32, 5] [] gq LL LLσ8 N Nσ8 := hnσ.go (hσ8.ge (fun a ha => (geσ a ha).1) (fun d hd => (fσ.1 d hd).1)) (fun _ hd => hd) (by first | decide | exact fun _ h => h | (simp; done) | (intro x hx; simp only [List.mem_cons, List.mem_nil_iff, or_false] at hx ⊢; omega)) (fun d hd => absurd hd (by simp))
  have nu_σ8 : NW nu nuσ8 := uσ8
  have uσ8_5 := uσ8.1 5 (by decide)
  have uσ8_0 := uσ8.2
  have kp4 : gP σ8 R 1 = gP σ R 1 := (cσ8.O kR (by decide)).2.1
  have kp5 : gP σ8 R 2 = gP σ R 2 := (cσ8.O kR (by decide)).2.1
  have kp6 : gP σ8 R 5 = gP σ R 5 := (cσ8.O kR (by decide)).2.1
  have kp7 : gP σ8 R 9 = gP σ R 9 := (cσ8.O kR (by decide)).2.1
  have kp8 : gP σ8 W 5 = gP σ W 5 := (cσ8.O kW (by decide)).2.1
  have kp9 : gP σ8 th 4 = gP σ th 4 := (cσ8.O kth (by decide)).2.1
  have kp10 : gP σ8 th 7 = gP σ th 7 := (cσ8.O kth (by decide)).2.1
  have kp11 : gI σ8 D 9 = gI σ D 9 := (cσ8.O kD (by decide)).1
  have kp12 : gI σ8 D 2 = gI σ D 2 := (cσ8.O kD (by decide)).1
  refine ⟨R, (kp10.trans hR), fun kk_R_1 => ?_⟩
  refine ⟨D, (kp5.trans hD), fun kk_D => ?_⟩
  have q13 := iσ8.rg D 4; unfold rng at q13
  exact hQ σ8 gqσ8 ciσ8 LLσ8 Nσ8 nuσ8 (gI σ8 D 4) iσ8 geσ8 fσ8 (nu_σ8) hnσ8 (⟨by omega, by omega, by omega, ⟨fun _ => ⟨(kp7.trans hu9.1), (kp8.trans hu9.2.1), by omega, by omega, hu9.2.2.2.2⟩, fun z => absurd z (by omega)⟩⟩)
set_option maxHeartbeats 1000000 in
theorem i_X12_rescale {σ : Sg} {pl : Nat} {gq ci gr nc : Nat → Nat} {ot : Nat → Nat → Int} {LL : Nat → List Nat} {N nu : Nat → Nat} {th : Nat} {v1 : Int} {J R D W : Nat} (iσ : IV σ pl gq ci gr nc ot LL N nu) (kth : kO σ th 12) (h4 : gP σ th 4 = some J) (kJ : kO σ J 4) (hJ : gq J = nc 0) (hR : gP σ th 7 = some R) (kR : kO σ R 9) (hD : gP σ R 2 = some D) (kD : kO σ D 3) (hW : gP σ R 1 = some W) (kW : kO σ W 11) (hu : HU σ nc nu J R W D) (h5 : nu 5 < 24000) (n5 : N 5 = 0) (hb : N 14 + N 44 + N 74 + N 1 ≤ 20000) {Q : Sg → Int → Prop} {X : Sg → String → Prop} (hQ : ∀ (σ' : Sg) (gq' ci' : Nat → Nat) (LL' : Nat → List Nat) (N' nu' : Nat → Nat) (r : Int), IV σ' pl gq' ci' gr nc ot LL' N' nu' → GE (gD σ) gq ci gq' ci' → Fx [1, 2, 3, 4, 5, 6, 7, 64, 129, 130, 131, 132, 133, 134, 135, 195, 512, 586, 587, 588, 590, 592, 595, 640, 641, 645, 646, 647, 648, 649, 650, 651, 652, 653, 654, 655, 708, 6464, 7168, 7680, 8512] gr σ σ' → NW nu nu' → Hn (gD σ) [11, 12, 13, 50, 60, 61, 62, 63, 64, 65, 66, 67, 21, 22, 31, 32, 5] [] gq LL LL' N N' → (N' 1 = N 1 ∧ N' 5 = 0 ∧ gI σ' D 2 = gI σ D 2 ∧ HU σ' nc nu' J R W D) → Q σ' r) (hX : ∀ (σ' : Sg) (gq' ci' : Nat → Nat) (LL' : Nat → List Nat) (N' nu' : Nat → Nat) (E : String), IV σ' pl gq' ci' gr nc ot LL' N' nu' → GE (gD σ) gq ci gq' ci' → Fx [1, 2, 3, 4, 5, 6, 7, 64, 129, 130, 131, 132, 133, 134, 135, 195, 512, 586, 587, 588, 590, 592, 595, 640, 641, 645, 646, 647, 648, 649, 650, 651, 652, 653, 654, 655, 708, 6464, 7168, 7680, 8512] gr σ σ' → NV nu nu' → ((N' 1 ≤ N 1 + 2 ∧ N' 5 = N 5 ∧ N' 3 = N 3 ∧ N' 14 = N 14 ∧ N' 44 = N 44 ∧ N' 74 = N 74) ∧ NZ N N' ∧ HU σ' nc nu' J R W D ∧ (E = "java/lang/IllegalStateException" ∨ E = "java/lang/IllegalArgumentException")) → X σ' E) : wp_X12_rescale th v1 σ Q X := by
  have fσ : Fx [1, 2, 3, 4, 5, 6, 7, 64, 129, 130, 131, 132, 133, 134, 135, 195, 512, 586, 587, 588, 590, 592, 595, 640, 641, 645, 646, 647, 648, 649, 650, 651, 652, 653, 654, 655, 708, 6464, 7168, 7680, 8512] gr σ σ := Fx.rf
  have geσ : GE (gD σ) gq ci gq ci := GE.rf
  have hnσ : Hn (gD σ) [11, 12, 13, 50, 60, 61, 62, 63, 64, 65, 66, 67, 21, 22, 31, 32, 5] [] gq LL LL N N := Hn.rf
  have jc := iσ.jc kJ hJ
  unfold wp_X12_rescale
  unfold w_X12_rescale_0
  refine i_X12_needRun iσ kth hR kR hD kD (by (first | omega | with_reducible assumption | with_reducible exact rng_toInt _ | with_reducible exact rng_wr _ | (unfold rng; omega) | (unfold rng at *; omega) | assumption)) (fun _ pσ6 => ?_) (fun σx LLx Nx nux E ix cx ux px => hX σx gq ci LLx Nx nux E ix geσ (fσ.tr (cx.mo (by decide))) ux.nv (by obtain ⟨e1, e2, e3⟩ := px; subst e1 e2; exact ⟨by omega, NZ.rf, hu.fx cx kR kW kD (by decide) (ux.1 15 (by decide)) (ux.1 17 (by decide)), (by first | exact e3 | exact Or.inl e3 | exact Or.inr e3 | exact Or.inr (Or.inl e3) | exact Or.inr (Or.inr e3) | exact Or.inr (Or.inr (Or.inl e3)) | exact Or.inr (Or.inr (Or.inr e3)))⟩))
  intro xσ6
  have hu9 := hu.1 pσ6.1
  obtain ⟨b, eb, fb⟩ := P_9_5 iσ.1 kR
  have mb : kO σ b 100 := iσ.1.kd kR rfl eb rfl
  by_cases hc1 : v1 < 1
  · rw [if_pos hc1]
    unfold w_X12_rescale_14
    refine ⟨iσ.room, ?_⟩
    exact hX _ _ _ _ _ _ _ (iσ.bump (by (first | omega | with_reducible assumption | with_reducible exact rng_toInt _ | with_reducible exact rng_wr _ | (unfold rng; omega) | (unfold rng at *; omega) | assumption))) geσ (fσ.tr Fx.bump) (NX.bump.nv) (⟨by omega, NZ.rf, hu.fx (Fx.bump (L := []) (gr := gr)) kR kW kD (by decide) rfl rfl, (by first | exact rfl | exact Or.inl rfl | exact Or.inr rfl | exact Or.inr (Or.inl rfl) | exact Or.inr (Or.inr rfl) | exact Or.inr (Or.inr (Or.inl rfl)) | exact Or.inr (Or.inr (Or.inr rfl)))⟩)
  · rw [if_neg hc1]
    unfold w_X12_rescale_9
    by_cases hc2 : v1 ≤ 4
    · rw [if_pos hc2]
      unfold w_X12_rescale_22
      refine ⟨R, hR, fun kk_R => ?_⟩
      refine i_X9_beginAgain iσ kR hu9.1 kJ (by (first | omega | with_reducible assumption | with_reducible exact rng_toInt _ | with_reducible exact rng_wr _ | (unfold rng; omega) | (unfold rng at *; omega) | assumption)) hW kW hu9.2.1 eb (by (first | omega | with_reducible assumption | with_reducible exact rng_toInt _ | with_reducible exact rng_wr _ | (unfold rng; omega) | (unfold rng at *; omega) | assumption)) (by (first | omega | with_reducible assumption | with_reducible exact rng_toInt _ | with_reducible exact rng_wr _ | (unfold rng; omega) | (unfold rng at *; omega) | assumption)) (by (first | omega | with_reducible assumption | with_reducible exact rng_toInt _ | with_reducible exact rng_wr _ | (unfold rng; omega) | (unfold rng at *; omega) | assumption)) (by (first | omega | with_reducible assumption | with_reducible exact rng_toInt _ | with_reducible exact rng_wr _ | (unfold rng; omega) | (unfold rng at *; omega) | assumption)) (by (first | omega | with_reducible assumption | with_reducible exact rng_toInt _ | with_reducible exact rng_wr _ | (unfold rng; omega) | (unfold rng at *; omega) | assumption)) (by (first | omega | with_reducible assumption | with_reducible exact rng_toInt _ | with_reducible exact rng_wr _ | (unfold rng; omega) | (unfold rng at *; omega) | assumption)) (fun σ7 gqσ7 ciσ7 LLσ7 Nσ7 nuσ7 _ iσ7 gσ7 cσ7 uσ7 hσ7 pσ7 => ?_) (fun σx gqx cix LLx Nx nux E ix gx cx ux px => hX σx gqx cix LLx Nx nux E ix (geσ.tr gx (fun d hd => (fσ.1 d hd).1)) (fσ.tr (cx.mo (by decide))) (ux) ⟨by have := px.1; omega, NZ.tr NZ.rf px.2.2.1, ⟨fun _ => ⟨(cx.O kR (by decide)).2.1.trans hu9.1, (cx.O kW (by decide)).2.1.trans hu9.2.1, by have := px.2.1.2.1; omega, by have := px.2.1.1; omega, hu9.2.2.2.2⟩, fun z => absurd z (by have d9 := (cx.O kD (k := 9) (by decide)).1; omega)⟩, (by first | exact px.2.2.2 | exact Or.inl px.2.2.2 | exact Or.inr px.2.2.2 | exact Or.inr (Or.inl px.2.2.2) | exact Or.inr (Or.inr px.2.2.2) | exact Or.inr (Or.inr (Or.inl px.2.2.2)) | exact Or.inr (Or.inr (Or.inr px.2.2.2)))⟩)
      intro xσ7
      have fσ7 : Fx [1, 2, 3, 4, 5, 6, 7, 64, 129, 130, 131, 132, 133, 134, 135, 195, 512, 586, 587, 588, 590, 592, 595, 640, 641, 645, 646, 647, 648, 649, 650, 651, 652, 653, 654, 655, 708, 6464, 7168, 7680, 8512] gr σ σ7 := fσ.tr (cσ7.mo (by decide))
      have geσ7 : GE (gD σ) gq ci gqσ7 ciσ7 := geσ.tr gσ7 (fun d hd => (fσ.1 d hd).1)
      have gl3 := gσ7 J kJ.1
      have gl4 := gσ7 W kW.1
      have hnσ7 : Hn (gD σ) [11, 12, 13, 50, 60, 61, 62, 63, 64, 65, 66, 67, 21, 22, 31, 32, 5] [] gq LL LLσ7 N Nσ7 := hnσ.go (hσ7.ge (fun a ha => (geσ a ha).1) (fun d hd => (fσ.1 d hd).1)) (fun _ hd => hd) (by first | decide | exact fun _ h => h | (simp; done) | (intro x hx; simp only [List.mem_cons, List.mem_nil_iff, or_false] at hx ⊢; omega)) (fun d hd => absurd hd (by simp))
      have nu_σ7 : NW nu nuσ7 := uσ7
      have uσ7_5 := uσ7.1 5 (by decide)
      have uσ7_0 := uσ7.2
      have kp5 : gP σ7 R 1 = gP σ R 1 := (cσ7.O kR (by decide)).2.1
      have kp6 : gP σ7 R 2 = gP σ R 2 := (cσ7.O kR (by decide)).2.1
      have kp7 : gP σ7 R 5 = gP σ R 5 := (cσ7.O kR (by decide)).2.1
      have kp8 : gP σ7 R 9 = gP σ R 9 := (cσ7.O kR (by decide)).2.1
      have kp9 : gP σ7 W 5 = gP σ W 5 := (cσ7.O kW (by decide)).2.1
      have kp10 : gP σ7 th 4 = gP σ th 4 := (cσ7.O kth (by decide)).2.1
      have kp11 : gP σ7 th 7 = gP σ th 7 := (cσ7.O kth (by decide)).2.1
      have kp12 : gI σ7 D 9 = gI σ D 9 := (cσ7.O kD (by decide)).1
      have kp13 : gI σ7 D 2 = gI σ D 2 := (cσ7.O kD (by decide)).1
      refine ⟨R, (kp11.trans hR), fun kk_R_1 => ?_⟩
      refine ⟨D, (kp6.trans hD), fun kk_D => ?_⟩
      have q14 := iσ7.rg D 4; unfold rng at q14
      exact hQ σ7 gqσ7 ciσ7 LLσ7 Nσ7 nuσ7 (gI σ7 D 4) iσ7 geσ7 fσ7 (nu_σ7) hnσ7 (⟨by omega, by omega, by omega, ⟨fun _ => ⟨(kp8.trans hu9.1), (kp9.trans hu9.2.1), by omega, by omega, hu9.2.2.2.2⟩, fun z => absurd z (by omega)⟩⟩)
    · rw [if_neg hc2]
      unfold w_X12_rescale_14
      refine ⟨iσ.room, ?_⟩
      exact hX _ _ _ _ _ _ _ (iσ.bump (by (first | omega | with_reducible assumption | with_reducible exact rng_toInt _ | with_reducible exact rng_wr _ | (unfold rng; omega) | (unfold rng at *; omega) | assumption))) geσ (fσ.tr Fx.bump) (NX.bump.nv) (⟨by omega, NZ.rf, hu.fx (Fx.bump (L := []) (gr := gr)) kR kW kD (by decide) rfl rfl, (by first | exact rfl | exact Or.inl rfl | exact Or.inr rfl | exact Or.inr (Or.inl rfl) | exact Or.inr (Or.inr rfl) | exact Or.inr (Or.inr (Or.inl rfl)) | exact Or.inr (Or.inr (Or.inr rfl)))⟩)
set_option maxHeartbeats 1000000 in
theorem i_X12_reopen {σ : Sg} {pl : Nat} {gq ci gr nc : Nat → Nat} {ot : Nat → Nat → Int} {LL : Nat → List Nat} {N nu : Nat → Nat} {th : Nat} {J R D W : Nat} (iσ : IV σ pl gq ci gr nc ot LL N nu) (kth : kO σ th 12) (h4 : gP σ th 4 = some J) (kJ : kO σ J 4) (hJ : gq J = nc 0) (hR : gP σ th 7 = some R) (kR : kO σ R 9) (hD : gP σ R 2 = some D) (kD : kO σ D 3) (hW : gP σ R 1 = some W) (kW : kO σ W 11) (hu : HU σ nc nu J R W D) (h5 : nu 5 < 24000) (n5 : N 5 = 0) (hb : N 14 + N 44 + N 74 + N 1 ≤ 20000) {Q : Sg → Int → Prop} {X : Sg → String → Prop} (hQ : ∀ (σ' : Sg) (gq' ci' : Nat → Nat) (LL' : Nat → List Nat) (N' nu' : Nat → Nat) (r : Int), IV σ' pl gq' ci' gr nc ot LL' N' nu' → GE (gD σ) gq ci gq' ci' → Fx [1, 2, 3, 4, 5, 6, 7, 64, 129, 130, 131, 132, 133, 134, 135, 195, 200, 201, 512, 586, 587, 588, 590, 592, 595, 640, 641, 645, 646, 647, 648, 649, 650, 651, 652, 653, 654, 655, 708, 6464, 7168, 7680, 8512] gr σ σ' → NW nu nu' → Hn (gD σ) [11, 12, 13, 50, 60, 61, 62, 63, 64, 65, 66, 67, 21, 22, 31, 32, 5] [] gq LL LL' N N' → (N' 1 = N 1 ∧ N' 5 = 0 ∧ gI σ' D 2 = gI σ D 2 ∧ HU σ' nc nu' J R W D) → Q σ' r) (hX : ∀ (σ' : Sg) (gq' ci' : Nat → Nat) (LL' : Nat → List Nat) (N' nu' : Nat → Nat) (E : String), IV σ' pl gq' ci' gr nc ot LL' N' nu' → GE (gD σ) gq ci gq' ci' → Fx [1, 2, 3, 4, 5, 6, 7, 64, 129, 130, 131, 132, 133, 134, 135, 195, 200, 201, 512, 586, 587, 588, 590, 592, 595, 640, 641, 645, 646, 647, 648, 649, 650, 651, 652, 653, 654, 655, 708, 6464, 7168, 7680, 8512] gr σ σ' → NV nu nu' → ((N' 1 ≤ N 1 + 2 ∧ N' 5 = N 5 ∧ N' 3 = N 3 ∧ N' 14 = N 14 ∧ N' 44 = N 44 ∧ N' 74 = N 74) ∧ NZ N N' ∧ HU σ' nc nu' J R W D ∧ (E = "java/lang/IllegalStateException")) → X σ' E) : wp_X12_reopen th σ Q X := by
  have fσ : Fx [1, 2, 3, 4, 5, 6, 7, 64, 129, 130, 131, 132, 133, 134, 135, 195, 200, 201, 512, 586, 587, 588, 590, 592, 595, 640, 641, 645, 646, 647, 648, 649, 650, 651, 652, 653, 654, 655, 708, 6464, 7168, 7680, 8512] gr σ σ := Fx.rf
  have geσ : GE (gD σ) gq ci gq ci := GE.rf
  have hnσ : Hn (gD σ) [11, 12, 13, 50, 60, 61, 62, 63, 64, 65, 66, 67, 21, 22, 31, 32, 5] [] gq LL LL N N := Hn.rf
  have jc := iσ.jc kJ hJ
  unfold wp_X12_reopen
  unfold w_X12_reopen_0
  refine ⟨R, hR, fun kk_R => ?_⟩
  refine ⟨D, hD, fun kk_D => ?_⟩
  have q2 := I_3_9 iσ.1 kD
  by_cases hc1 : gI σ D 9 ≠ 0
  · rw [if_pos hc1]
    unfold w_X12_reopen_21
    have hu9 := hu.1 (hu.2 (by omega))
    obtain ⟨b, eb, fb⟩ := P_9_5 iσ.1 kR
    have mb : kO σ b 100 := iσ.1.kd kR rfl eb rfl
    refine ⟨R, hR, fun kk_R_1 => ?_⟩
    refine ⟨D, hD, fun kk_D_1 => ?_⟩
    refine i_X3_powerReturns iσ kD (fun σ13 _ iσ13 cσ13 pσ13 => ?_)
    intro xσ13
    have fσ13 : Fx [1, 2, 3, 4, 5, 6, 7, 64, 129, 130, 131, 132, 133, 134, 135, 195, 200, 201, 512, 586, 587, 588, 590, 592, 595, 640, 641, 645, 646, 647, 648, 649, 650, 651, 652, 653, 654, 655, 708, 6464, 7168, 7680, 8512] gr σ σ13 := fσ.tr (cσ13.mo (by decide))
    have kp3 : gP σ13 R 1 = gP σ R 1 := (cσ13.O kR (by decide)).2.1
    have kp4 : gP σ13 R 2 = gP σ R 2 := (cσ13.O kR (by decide)).2.1
    have kp5 : gP σ13 R 5 = gP σ R 5 := (cσ13.O kR (by decide)).2.1
    have kp6 : gP σ13 R 9 = gP σ R 9 := (cσ13.O kR (by decide)).2.1
    have kp7 : gP σ13 W 5 = gP σ W 5 := (cσ13.O kW (by decide)).2.1
    have kp8 : gP σ13 th 4 = gP σ th 4 := (cσ13.O kth (by decide)).2.1
    have kp9 : gP σ13 th 7 = gP σ th 7 := (cσ13.O kth (by decide)).2.1
    have kp10 : gI σ13 R 12 = gI σ R 12 := (cσ13.O kR (by decide)).1
    have kp11 : gI σ13 D 2 = gI σ D 2 := (cσ13.O kD (by decide)).1
    refine ⟨R, (kp9.trans hR), fun kk_R_2 => ?_⟩
    have q12 := I_9_12 iσ13.1 (kR.up xσ13)
    refine i_X9_beginAgain iσ13 (kR.up xσ13) (kp6.trans hu9.1) (kJ.up xσ13) (by (first | omega | with_reducible assumption | with_reducible exact rng_toInt _ | with_reducible exact rng_wr _ | (unfold rng; omega) | (unfold rng at *; omega) | assumption)) (kp3.trans hW) (kW.up xσ13) (kp7.trans hu9.2.1) (kp5.trans eb) (mb.up xσ13) (by (first | omega | with_reducible assumption | with_reducible exact rng_toInt _ | with_reducible exact rng_wr _ | (unfold rng; omega) | (unfold rng at *; omega) | assumption)) (by (first | omega | with_reducible assumption | with_reducible exact rng_toInt _ | with_reducible exact rng_wr _ | (unfold rng; omega) | (unfold rng at *; omega) | assumption)) (by (first | omega | with_reducible assumption | with_reducible exact rng_toInt _ | with_reducible exact rng_wr _ | (unfold rng; omega) | (unfold rng at *; omega) | assumption)) (by (first | omega | with_reducible assumption | with_reducible exact rng_toInt _ | with_reducible exact rng_wr _ | (unfold rng; omega) | (unfold rng at *; omega) | assumption)) (by (first | omega | with_reducible assumption | with_reducible exact rng_toInt _ | with_reducible exact rng_wr _ | (unfold rng; omega) | (unfold rng at *; omega) | assumption)) (fun σ16 gqσ16 ciσ16 LLσ16 Nσ16 nuσ16 _ iσ16 gσ16 cσ16 uσ16 hσ16 pσ16 => ?_) (fun σx gqx cix LLx Nx nux E ix gx cx ux px => hX σx gqx cix LLx Nx nux E ix (geσ.tr gx (fun d hd => (fσ13.1 d hd).1)) (fσ13.tr (cx.mo (by decide))) (ux) ⟨by have := px.1; omega, NZ.tr NZ.rf px.2.2.1, ⟨fun _ => ⟨(cx.O (kR.up xσ13) (by decide)).2.1.trans (kp6.trans hu9.1), (cx.O (kW.up xσ13) (by decide)).2.1.trans (kp7.trans hu9.2.1), by have := px.2.1.2.1; omega, by have := px.2.1.1; omega, hu9.2.2.2.2⟩, fun z => absurd z (by have d9 := (cx.O (kD.up xσ13) (k := 9) (by decide)).1; omega)⟩, (by first | exact px.2.2.2 | exact Or.inl px.2.2.2 | exact Or.inr px.2.2.2 | exact Or.inr (Or.inl px.2.2.2) | exact Or.inr (Or.inr px.2.2.2) | exact Or.inr (Or.inr (Or.inl px.2.2.2)) | exact Or.inr (Or.inr (Or.inr px.2.2.2)))⟩)
    intro xσ16
    have fσ16 : Fx [1, 2, 3, 4, 5, 6, 7, 64, 129, 130, 131, 132, 133, 134, 135, 195, 200, 201, 512, 586, 587, 588, 590, 592, 595, 640, 641, 645, 646, 647, 648, 649, 650, 651, 652, 653, 654, 655, 708, 6464, 7168, 7680, 8512] gr σ σ16 := fσ13.tr (cσ16.mo (by decide))
    have geσ16 : GE (gD σ) gq ci gqσ16 ciσ16 := geσ.tr gσ16 (fun d hd => (fσ13.1 d hd).1)
    have gl13 := gσ16 J (kJ.up xσ13).1
    have gl14 := gσ16 W (kW.up xσ13).1
    have hnσ16 : Hn (gD σ) [11, 12, 13, 50, 60, 61, 62, 63, 64, 65, 66, 67, 21, 22, 31, 32, 5] [] gq LL LLσ16 N Nσ16 := hnσ.go (hσ16.ge (fun a ha => (geσ a ha).1) (fun d hd => (fσ13.1 d hd).1)) (fun _ hd => hd) (by first | decide | exact fun _ h => h | (simp; done) | (intro x hx; simp only [List.mem_cons, List.mem_nil_iff, or_false] at hx ⊢; omega)) (fun d hd => absurd hd (by simp))
    have nu_σ16 : NW nu nuσ16 := uσ16
    have uσ16_5 := uσ16.1 5 (by decide)
    have uσ16_0 := uσ16.2
    have kp15 : gP σ16 R 1 = gP σ13 R 1 := (cσ16.O (kR.up xσ13) (by decide)).2.1
    have kp16 : gP σ16 R 2 = gP σ13 R 2 := (cσ16.O (kR.up xσ13) (by decide)).2.1
    have kp17 : gP σ16 R 5 = gP σ13 R 5 := (cσ16.O (kR.up xσ13) (by decide)).2.1
    have kp18 : gP σ16 R 9 = gP σ13 R 9 := (cσ16.O (kR.up xσ13) (by decide)).2.1
    have kp19 : gP σ16 W 5 = gP σ13 W 5 := (cσ16.O (kW.up xσ13) (by decide)).2.1
    have kp20 : gP σ16 th 4 = gP σ13 th 4 := (cσ16.O (kth.up xσ13) (by decide)).2.1
    have kp21 : gP σ16 th 7 = gP σ13 th 7 := (cσ16.O (kth.up xσ13) (by decide)).2.1
    have kp22 : gI σ16 D 9 = gI σ13 D 9 := (cσ16.O (kD.up xσ13) (by decide)).1
    have kp23 : gI σ16 D 2 = gI σ13 D 2 := (cσ16.O (kD.up xσ13) (by decide)).1
    refine ⟨R, (kp21.trans (kp9.trans hR)), fun kk_R_3 => ?_⟩
    refine ⟨D, (kp16.trans (kp4.trans hD)), fun kk_D_2 => ?_⟩
    have q24 := iσ16.rg D 4; unfold rng at q24
    exact hQ σ16 gqσ16 ciσ16 LLσ16 Nσ16 nuσ16 (gI σ16 D 4) iσ16 geσ16 fσ16 (nu_σ16) hnσ16 (⟨by omega, by omega, by omega, ⟨fun _ => ⟨(kp18.trans (kp6.trans hu9.1)), (kp19.trans (kp7.trans hu9.2.1)), by omega, by omega, hu9.2.2.2.2⟩, fun z => absurd z (by omega)⟩⟩)
  · rw [if_neg hc1]
    have hc1q := Classical.not_not.mp hc1
    unfold w_X12_reopen_13
    refine ⟨iσ.room, ?_⟩
    exact hX _ _ _ _ _ _ _ (iσ.bump (by (first | omega | with_reducible assumption | with_reducible exact rng_toInt _ | with_reducible exact rng_wr _ | (unfold rng; omega) | (unfold rng at *; omega) | assumption))) geσ (fσ.tr Fx.bump) (NX.bump.nv) (⟨by omega, NZ.rf, hu.fx (Fx.bump (L := []) (gr := gr)) kR kW kD (by decide) rfl rfl, (by first | exact rfl | exact Or.inl rfl | exact Or.inr rfl | exact Or.inr (Or.inl rfl) | exact Or.inr (Or.inr rfl) | exact Or.inr (Or.inr (Or.inl rfl)) | exact Or.inr (Or.inr (Or.inr rfl)))⟩)
set_option maxHeartbeats 1000000 in
theorem i_X12_turn {σ : Sg} {pl : Nat} {gq ci gr nc : Nat → Nat} {ot : Nat → Nat → Int} {LL : Nat → List Nat} {N nu : Nat → Nat} {th : Nat} {v1 : Int} {J R D W : Nat} (iσ : IV σ pl gq ci gr nc ot LL N nu) (kth : kO σ th 12) (h4 : gP σ th 4 = some J) (kJ : kO σ J 4) (hJ : gq J = nc 0) (hR : gP σ th 7 = some R) (kR : kO σ R 9) (hD : gP σ R 2 = some D) (kD : kO σ D 3) (hW : gP σ R 1 = some W) (kW : kO σ W 11) (hu : HU σ nc nu J R W D) (h5 : nu 5 < 24000) (hb : N 14 + N 44 + N 74 + N 1 ≤ 10000) (h3 : N 3 + 200050000000 ≤ 1152921504606846976) (n5 : N 5 = 0) (n14 : N 14 = 0) {Q : Sg → Int → Prop} {X : Sg → String → Prop} (hQ : ∀ (σ' : Sg) (gq' ci' : Nat → Nat) (LL' : Nat → List Nat) (N' nu' : Nat → Nat) (r : Int), IV σ' pl gq' ci' gr nc ot LL' N' nu' → GE (gD σ) gq ci gq' ci' → Fx [1, 2, 3, 4, 5, 6, 7, 64, 132, 133, 134, 192, 193, 195, 196, 197, 198, 199, 200, 201, 265, 266, 512, 513, 514, 590, 591, 592, 593, 594, 640, 641, 645, 646, 647, 648, 649, 650, 651, 652, 653, 654, 655, 708, 6464, 7680] gr σ σ' → NX nu nu' → (N' 1 ≤ N 1 + 4 ∧ (N' 5 = 0 ∧ N' 14 = 0 ∧ N' 44 = N 44 ∧ N' 74 = N 74) ∧ N' 3 ≤ N 3 + 200050000000 ∧ NZ N N' ∧ HU σ' nc nu' J R W D) → Q σ' r) (hX : ∀ (σ' : Sg) (gq' ci' : Nat → Nat) (LL' : Nat → List Nat) (N' nu' : Nat → Nat) (E : String), IV σ' pl gq' ci' gr nc ot LL' N' nu' → GE (gD σ) gq ci gq' ci' → Fx [1, 2, 3, 4, 5, 6, 7, 64, 132, 133, 134, 192, 193, 195, 196, 197, 198, 199, 200, 201, 265, 266, 512, 513, 514, 590, 591, 592, 593, 594, 640, 641, 645, 646, 647, 648, 649, 650, 651, 652, 653, 654, 655, 708, 6464, 7680] gr σ σ' → NX nu nu' → (LL' = LL ∧ N' = N ∧ (E = "java/lang/IllegalStateException" ∨ E = "java/lang/IllegalArgumentException") ∧ HU σ' nc nu' J R W D) → X σ' E) : wp_X12_turn th v1 σ Q X := by
  unfold wp_X12_turn w_X12_turn_0
  refine i_X12_needRun iσ kth hR kR hD kD h5 (fun _ p => ?_) (fun σx LLx Nx nux E ix cx ux px => hX σx gq ci LLx Nx nux E ix GE.rf (cx.mo (fun _ h => absurd h (by simp))) ux ⟨px.1, px.2.1, Or.inl px.2.2, hu.fx cx kR kW kD (by decide) (ux.1 15 (by decide)) (ux.1 17 (by decide))⟩)
  intro _
  obtain ⟨u1, u2, u3, u4, u5⟩ := hu.1 p.1
  by_cases c1 : v1 < 1
  · rw [if_pos c1]; unfold w_X12_turn_16
    exact ⟨iσ.room, hX _ _ _ _ _ _ _ (iσ.bump (by omega)) GE.rf Fx.bump NX.bump ⟨rfl, rfl, Or.inr rfl, hu.fx (Fx.bump (L := []) (gr := gr)) kR kW kD (by decide) rfl rfl⟩⟩
  rw [if_neg c1]; unfold w_X12_turn_9
  by_cases c2 : v1 ≤ 5000
  · rw [if_pos c2]; unfold w_X12_turn_24
    have Lp : ∀ (fu : Nat) (τ : Sg) (gqt cit : Nat → Nat) (LLt : Nat → List Nat) (Nt nut : Nat → Nat) (v2 v3 : Int), IV τ pl gqt cit gr nc ot LLt Nt nut → GE (gD σ) gq ci gqt cit → Fx [1, 2, 3, 4, 5, 6, 7, 64, 132, 133, 134, 192, 193, 195, 196, 197, 198, 199, 200, 201, 265, 266, 512, 513, 514, 590, 591, 592, 593, 594, 640, 641, 645, 646, 647, 648, 649, 650, 651, 652, 653, 654, 655, 708, 6464, 7680] gr σ τ → NX nu nut → (0 ≤ v3 ∧ v3 ≤ v1) → (Nt 1 ≤ N 1 + 4 ∧ (Nt 5 = 0 ∧ Nt 14 = 0 ∧ Nt 44 = N 44 ∧ Nt 74 = N 74) ∧ (Nt 3 : Int) ≤ N 3 + 40010000 * v3) → NZ N Nt → (gI τ R 16 ≠ 0 ∨ (Nt 1 = N 1 ∧ nut 5 = nu 5)) → (5000 - v3).toNat < fu → wl_X12_turn_28 th Q X fu τ v1 v2 v3 := by
      intro fu
      induction fu with
      | zero => intro _ _ _ _ _ _ _ _ _ _ _ _ _ _ _ _ h9; omega
      | succ fu ih =>
        intro τ gqt cit LLt Nt nut v2 v3 iτ ge fτ nτ hv hN hz hbt hm
        have e7 : gP τ th 7 = some R := (fτ.O kth (by decide)).2.1.trans hR
        have e2 : gP τ R 2 = some D := (fτ.O kR (by decide)).2.1.trans hD
        have e9 : gP τ R 9 = some J := (fτ.O kR (by decide)).2.1.trans u1
        have e1 : gP τ R 1 = some W := (fτ.O kR (by decide)).2.1.trans hW
        have e5 : gP τ W 5 = some J := (fτ.O kW (by decide)).2.1.trans u2
        have e12 : gI τ R 12 = gI σ R 12 := (fτ.O kR (by decide)).1
        have n15 := nτ.1 15 (by decide)
        have n17 := nτ.1 17 (by decide)
        have gJ9 := (ge J kJ.1).1
        have fin : Q τ v2 := hQ τ gqt cit LLt Nt nut v2 iτ ge fτ nτ ⟨hN.1, hN.2.1, by omega, hz, hu.fx1 fτ kR kW (by decide) n15 n17 (fun _ => p.1)⟩
        show w_X12_turn_28 th (wl_X12_turn_28 th Q X fu) Q X τ v1 v2 v3
        unfold w_X12_turn_28
        by_cases c3 : v3 ≥ v1
        · rw [if_pos c3]; exact fin
        rw [if_neg c3]; unfold w_X12_turn_33
        refine ⟨R, e7, fun _ => ?_⟩
        by_cases c4 : gI τ R 16 ≠ 0
        · rw [if_pos c4]; exact fin
        rw [if_neg c4]; unfold w_X12_turn_43
        refine ⟨R, e7, fun _ => ⟨D, e2, fun _ => ?_⟩⟩
        by_cases c5 : gI τ D 9 ≠ 0
        · rw [if_pos c5]; exact fin
        rw [if_neg c5]; unfold w_X12_turn_56
        refine ⟨R, e7, fun _ => ?_⟩
        have hb9 : Nt 1 = N 1 ∧ nut 5 = nu 5 := hbt.resolve_left c4
        refine i_X9_playTurn iτ (kR.up fτ.1) e9 (kJ.up fτ.1) (by omega) e1 (kW.up fτ.1) e5 (by omega) (by omega) (by omega) (by omega) (by omega) (by omega) (by omega) (fun σ' gq' ci' LL' N' nu' r i' g' f' u' p' => ?_)
        intro _
        obtain ⟨_, q1, q14, q5, q3, q44, q74, qz, qb⟩ := p'
        refine ⟨by unfold rng; omega, ?_⟩
        exact ih σ' gq' ci' LL' N' nu' _ _ i' (ge.tr g' (fun d hd => (fτ.1 d hd).1)) (fτ.tr (f'.mo (by decide))) ⟨fun k hk => (u'.1 k hk).trans (nτ.1 k hk), Nat.le_trans nτ.2.1 u'.2.1, by have := u'.2.2; omega⟩ ⟨by omega, by omega⟩ ⟨by omega, ⟨by omega, by omega, by omega, by omega⟩, by omega⟩ (hz.tr qz) (qb.elim (fun e => Or.inl (by omega)) (fun e => Or.inr ⟨by omega, by omega⟩)) (by omega)
    exact ⟨5001, Lp 5001 σ gq ci LL N nu 0 0 iσ GE.rf Fx.rf ⟨fun _ _ => rfl, Nat.le_refl _, Nat.le_succ _⟩ ⟨by omega, by omega⟩ ⟨by omega, ⟨n5, n14, rfl, rfl⟩, by omega⟩ NZ.rf (Or.inr ⟨rfl, rfl⟩) (by omega)⟩
  · rw [if_neg c2]; unfold w_X12_turn_16
    exact ⟨iσ.room, hX _ _ _ _ _ _ _ (iσ.bump (by omega)) GE.rf Fx.bump NX.bump ⟨rfl, rfl, Or.inr rfl, hu.fx (Fx.bump (L := []) (gr := gr)) kR kW kD (by decide) rfl rfl⟩⟩

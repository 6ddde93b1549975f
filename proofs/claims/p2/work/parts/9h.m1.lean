set_option maxHeartbeats 1000000 in
theorem i_X1_compare {σ : Sg} {pl : Nat} {gq ci gr nc : Nat → Nat} {ot : Nat → Nat → Int} {LL : Nat → List Nat} {N nu : Nat → Nat} {v0 : Option Nat} {v1 : Option Nat} {v2 : Int} {v3 : Int} (iσ : IV σ pl gq ci gr nc ot LL N nu) {c0 : Nat} (hv0 : v0 = some c0) (kc0 : kO σ c0 0) {c1 : Nat} (hv1 : v1 = some c1) (kc1 : kO σ c1 0) {Q : Sg → Int → Prop} {X : Sg → String → Prop} (hQ : ∀ (r : Int), (-1 ≤ r ∧ r ≤ 1) → Q σ r) : wp_X1_compare v0 v1 v2 v3 σ Q X := by
  unfold wp_X1_compare
  unfold w_X1_compare_0
  by_cases hc1 : v2 ≠ 0
  · rw [if_pos hc1]
    unfold w_X1_compare_9
    by_cases hc2 : v2 ≠ 3
    · rw [if_pos hc2]
      unfold w_X1_compare_50
      rw [if_pos (by decide)]
      unfold w_X1_compare_60
      refine ⟨c0, hv0, fun kk_c0 => ?_⟩
      refine ⟨c1, hv1, fun kk_c1 => ?_⟩
      refine i_J13_compare_74951 iσ (fun r48 pσ47 => ?_)
      intro xσ47
      unfold w_X1_compare_71
      by_cases hc4 : v2 ≠ 2
      · rw [if_pos hc4]
        unfold w_X1_compare_123
        have Lp126 : ∀ (fu126 : Nat) (v4 : Int) (v5 : Int), ((-1 ≤ v4 ∧ v4 ≤ 1) ∧ 0 ≤ v5 ∧ v5 ≤ 8) → ((8 - v5).toNat) < fu126 → wl_X1_compare_126 Q X fu126 σ v0 v1 v3 v4 v5 := by
          intro fu126
          induction fu126 with
          | zero => intro _ _ _ h9; omega
          | succ fu126 ih126 =>
            intro v4 v5 hi126 hm126
            unfold wl_X1_compare_126
            unfold w_X1_compare_126
            by_cases hc5 : v5 ≥ v3
            · rw [if_pos hc5]
              unfold w_X1_compare_169
              exact hQ v4 (by (first | omega | with_reducible assumption | with_reducible exact rng_toInt _ | with_reducible exact rng_wr _ | (unfold rng; omega) | (unfold rng at *; omega) | assumption))
            · rw [if_neg hc5]
              unfold w_X1_compare_132
              by_cases hc6 : v5 ≥ 8
              · rw [if_pos hc6]
                unfold w_X1_compare_169
                exact hQ v4 (by (first | omega | with_reducible assumption | with_reducible exact rng_toInt _ | with_reducible exact rng_wr _ | (unfold rng; omega) | (unfold rng at *; omega) | assumption))
              · rw [if_neg hc6]
                unfold w_X1_compare_139
                by_cases hc7 : v4 ≠ 0
                · rw [if_pos hc7]
                  unfold w_X1_compare_169
                  exact hQ v4 (by (first | omega | with_reducible assumption | with_reducible exact rng_toInt _ | with_reducible exact rng_wr _ | (unfold rng; omega) | (unfold rng at *; omega) | assumption))
                · rw [if_neg hc7]
                  have hc7q := Classical.not_not.mp hc7
                  unfold w_X1_compare_144
                  refine ⟨c0, hv0, fun kk_c0_1 => ?_⟩
                  obtain ⟨b, eb, fb⟩ := P_0_0 iσ.1 kc0
                  have mb : kO σ b 101 := iσ.1.kd kc0 rfl eb rfl
                  refine ⟨b, eb, fun kk_b => ?_⟩
                  refine ⟨⟨by (first | omega | with_reducible assumption | with_reducible exact rng_toInt _ | with_reducible exact rng_wr _ | (unfold rng; omega) | (unfold rng at *; omega) | assumption), by (first | omega | with_reducible assumption | with_reducible exact rng_toInt _ | with_reducible exact rng_wr _ | (unfold rng; omega) | (unfold rng at *; omega) | assumption)⟩, ?_⟩
                  refine ⟨c1, hv1, fun kk_c1_1 => ?_⟩
                  obtain ⟨b_1, eb_1, fb_1⟩ := P_0_0 iσ.1 kc1
                  have mb_1 : kO σ b_1 101 := iσ.1.kd kc1 rfl eb_1 rfl
                  refine ⟨b_1, eb_1, fun kk_b_1 => ?_⟩
                  refine ⟨⟨by (first | omega | with_reducible assumption | with_reducible exact rng_toInt _ | with_reducible exact rng_wr _ | (unfold rng; omega) | (unfold rng at *; omega) | assumption), by (first | omega | with_reducible assumption | with_reducible exact rng_toInt _ | with_reducible exact rng_wr _ | (unfold rng; omega) | (unfold rng at *; omega) | assumption)⟩, ?_⟩
                  refine i_J13_compare_74951 iσ (fun r44 pσ43 => ?_)
                  intro xσ43
                  refine ⟨by (first | omega | with_reducible assumption | with_reducible exact rng_toInt _ | with_reducible exact rng_wr _ | (unfold rng; omega) | (unfold rng at *; omega) | assumption), ?_⟩
                  exact ih126 r44 (v5 + 1) (by (first | omega | with_reducible assumption | with_reducible exact rng_toInt _ | with_reducible exact rng_wr _ | (unfold rng; omega) | (unfold rng at *; omega) | assumption)) (by (first | omega | with_reducible assumption | with_reducible exact rng_toInt _ | with_reducible exact rng_wr _ | (unfold rng; omega) | (unfold rng at *; omega) | assumption))
        exact ⟨_, Lp126 _ _ _ (by (first | omega | with_reducible assumption | with_reducible exact rng_toInt _ | with_reducible exact rng_wr _ | (unfold rng; omega) | (unfold rng at *; omega) | assumption)) (Nat.lt_succ_self _)⟩
      · rw [if_neg hc4]
        have hc4q := Classical.not_not.mp hc4
        unfold w_X1_compare_78
        by_cases hc8 : r48 = 0
        · rw [if_pos hc8]
          unfold w_X1_compare_88
          refine ⟨c0, hv0, fun kk_c0_2 => ?_⟩
          refine ⟨c1, hv1, fun kk_c1_2 => ?_⟩
          refine i_J13_compare_74951 iσ (fun r38 pσ37 => ?_)
          intro xσ37
          unfold w_X1_compare_99
          by_cases hc9 : r38 = 0
          · rw [if_pos hc9]
            unfold w_X1_compare_111
            refine ⟨c0, hv0, fun kk_c0_3 => ?_⟩
            refine ⟨c1, hv1, fun kk_c1_3 => ?_⟩
            refine i_J13_compare_74951 iσ (fun r34 pσ33 => ?_)
            intro xσ33
            unfold w_X1_compare_122
            exact hQ r34 (by (first | omega | with_reducible assumption | with_reducible exact rng_toInt _ | with_reducible exact rng_wr _ | (unfold rng; omega) | (unfold rng at *; omega) | assumption))
          · rw [if_neg hc9]
            unfold w_X1_compare_106
            unfold w_X1_compare_122
            exact hQ r38 (by (first | omega | with_reducible assumption | with_reducible exact rng_toInt _ | with_reducible exact rng_wr _ | (unfold rng; omega) | (unfold rng at *; omega) | assumption))
        · rw [if_neg hc8]
          unfold w_X1_compare_83
          unfold w_X1_compare_99
          rw [if_neg hc8]
          unfold w_X1_compare_106
          unfold w_X1_compare_122
          exact hQ r48 (by (first | omega | with_reducible assumption | with_reducible exact rng_toInt _ | with_reducible exact rng_wr _ | (unfold rng; omega) | (unfold rng at *; omega) | assumption))
    · rw [if_neg hc2]
      have hc2q := Classical.not_not.mp hc2
      unfold w_X1_compare_14
      refine ⟨c0, hv0, fun kk_c0_4 => ?_⟩
      refine ⟨c1, hv1, fun kk_c1_4 => ?_⟩
      refine i_J13_compare_74951 iσ (fun r30 pσ29 => ?_)
      intro xσ29
      by_cases hc11 : r30 = 0
      · rw [if_pos hc11]
        unfold w_X1_compare_37
        refine ⟨c1, hv1, fun kk_c1_5 => ?_⟩
        refine ⟨c0, hv0, fun kk_c0_5 => ?_⟩
        refine i_J13_compare_74951 iσ (fun r52 pσ51 => ?_)
        intro xσ51
        unfold w_X1_compare_48
        unfold w_X1_compare_50
        by_cases hc12 : r52 = 0
        · rw [if_pos hc12]
          unfold w_X1_compare_60
          refine ⟨c0, hv0, fun kk_c0_6 => ?_⟩
          refine ⟨c1, hv1, fun kk_c1_6 => ?_⟩
          refine i_J13_compare_74951 iσ (fun r48_1 pσ47_1 => ?_)
          intro xσ47_1
          unfold w_X1_compare_71
          by_cases hc13 : v2 ≠ 2
          · rw [if_pos hc13]
            unfold w_X1_compare_123
            have Lp126 : ∀ (fu126 : Nat) (v4 : Int) (v5 : Int), ((-1 ≤ v4 ∧ v4 ≤ 1) ∧ 0 ≤ v5 ∧ v5 ≤ 8) → ((8 - v5).toNat) < fu126 → wl_X1_compare_126 Q X fu126 σ v0 v1 v3 v4 v5 := by
              intro fu126
              induction fu126 with
              | zero => intro _ _ _ h9; omega
              | succ fu126 ih126 =>
                intro v4 v5 hi126 hm126
                unfold wl_X1_compare_126
                unfold w_X1_compare_126
                by_cases hc14 : v5 ≥ v3
                · rw [if_pos hc14]
                  unfold w_X1_compare_169
                  exact hQ v4 (by (first | omega | with_reducible assumption | with_reducible exact rng_toInt _ | with_reducible exact rng_wr _ | (unfold rng; omega) | (unfold rng at *; omega) | assumption))
                · rw [if_neg hc14]
                  unfold w_X1_compare_132
                  by_cases hc15 : v5 ≥ 8
                  · rw [if_pos hc15]
                    unfold w_X1_compare_169
                    exact hQ v4 (by (first | omega | with_reducible assumption | with_reducible exact rng_toInt _ | with_reducible exact rng_wr _ | (unfold rng; omega) | (unfold rng at *; omega) | assumption))
                  · rw [if_neg hc15]
                    unfold w_X1_compare_139
                    by_cases hc16 : v4 ≠ 0
                    · rw [if_pos hc16]
                      unfold w_X1_compare_169
                      exact hQ v4 (by (first | omega | with_reducible assumption | with_reducible exact rng_toInt _ | with_reducible exact rng_wr _ | (unfold rng; omega) | (unfold rng at *; omega) | assumption))
                    · rw [if_neg hc16]
                      have hc16q := Classical.not_not.mp hc16
                      unfold w_X1_compare_144
                      refine ⟨c0, hv0, fun kk_c0_7 => ?_⟩
                      obtain ⟨b_2, eb_2, fb_2⟩ := P_0_0 iσ.1 kc0
                      have mb_2 : kO σ b_2 101 := iσ.1.kd kc0 rfl eb_2 rfl
                      refine ⟨b_2, eb_2, fun kk_b_2 => ?_⟩
                      refine ⟨⟨by (first | omega | with_reducible assumption | with_reducible exact rng_toInt _ | with_reducible exact rng_wr _ | (unfold rng; omega) | (unfold rng at *; omega) | assumption), by (first | omega | with_reducible assumption | with_reducible exact rng_toInt _ | with_reducible exact rng_wr _ | (unfold rng; omega) | (unfold rng at *; omega) | assumption)⟩, ?_⟩
                      refine ⟨c1, hv1, fun kk_c1_7 => ?_⟩
                      obtain ⟨b_3, eb_3, fb_3⟩ := P_0_0 iσ.1 kc1
                      have mb_3 : kO σ b_3 101 := iσ.1.kd kc1 rfl eb_3 rfl
                      refine ⟨b_3, eb_3, fun kk_b_3 => ?_⟩
                      refine ⟨⟨by (first | omega | with_reducible assumption | with_reducible exact rng_toInt _ | with_reducible exact rng_wr _ | (unfold rng; omega) | (unfold rng at *; omega) | assumption), by (first | omega | with_reducible assumption | with_reducible exact rng_toInt _ | with_reducible exact rng_wr _ | (unfold rng; omega) | (unfold rng at *; omega) | assumption)⟩, ?_⟩
                      refine i_J13_compare_74951 iσ (fun r44_1 pσ43_1 => ?_)
                      intro xσ43_1
                      refine ⟨by (first | omega | with_reducible assumption | with_reducible exact rng_toInt _ | with_reducible exact rng_wr _ | (unfold rng; omega) | (unfold rng at *; omega) | assumption), ?_⟩
                      exact ih126 r44_1 (v5 + 1) (by (first | omega | with_reducible assumption | with_reducible exact rng_toInt _ | with_reducible exact rng_wr _ | (unfold rng; omega) | (unfold rng at *; omega) | assumption)) (by (first | omega | with_reducible assumption | with_reducible exact rng_toInt _ | with_reducible exact rng_wr _ | (unfold rng; omega) | (unfold rng at *; omega) | assumption))
            exact ⟨_, Lp126 _ _ _ (by (first | omega | with_reducible assumption | with_reducible exact rng_toInt _ | with_reducible exact rng_wr _ | (unfold rng; omega) | (unfold rng at *; omega) | assumption)) (Nat.lt_succ_self _)⟩
          · rw [if_neg hc13]
            have hc13q := Classical.not_not.mp hc13
            unfold w_X1_compare_78
            by_cases hc17 : r48_1 = 0
            · rw [if_pos hc17]
              unfold w_X1_compare_88
              refine ⟨c0, hv0, fun kk_c0_8 => ?_⟩
              refine ⟨c1, hv1, fun kk_c1_8 => ?_⟩
              refine i_J13_compare_74951 iσ (fun r38_1 pσ37_1 => ?_)
              intro xσ37_1
              unfold w_X1_compare_99
              by_cases hc18 : r38_1 = 0
              · rw [if_pos hc18]
                unfold w_X1_compare_111
                refine ⟨c0, hv0, fun kk_c0_9 => ?_⟩
                refine ⟨c1, hv1, fun kk_c1_9 => ?_⟩
                refine i_J13_compare_74951 iσ (fun r34_1 pσ33_1 => ?_)
                intro xσ33_1
                unfold w_X1_compare_122
                exact hQ r34_1 (by (first | omega | with_reducible assumption | with_reducible exact rng_toInt _ | with_reducible exact rng_wr _ | (unfold rng; omega) | (unfold rng at *; omega) | assumption))
              · rw [if_neg hc18]
                unfold w_X1_compare_106
                unfold w_X1_compare_122
                exact hQ r38_1 (by (first | omega | with_reducible assumption | with_reducible exact rng_toInt _ | with_reducible exact rng_wr _ | (unfold rng; omega) | (unfold rng at *; omega) | assumption))
            · rw [if_neg hc17]
              unfold w_X1_compare_83
              unfold w_X1_compare_99
              rw [if_neg hc17]
              unfold w_X1_compare_106
              unfold w_X1_compare_122
              exact hQ r48_1 (by (first | omega | with_reducible assumption | with_reducible exact rng_toInt _ | with_reducible exact rng_wr _ | (unfold rng; omega) | (unfold rng at *; omega) | assumption))
        · rw [if_neg hc12]
          unfold w_X1_compare_55
          unfold w_X1_compare_71
          by_cases hc20 : v2 ≠ 2
          · rw [if_pos hc20]
            unfold w_X1_compare_123
            have Lp126 : ∀ (fu126 : Nat) (v4 : Int) (v5 : Int), ((-1 ≤ v4 ∧ v4 ≤ 1) ∧ 0 ≤ v5 ∧ v5 ≤ 8) → ((8 - v5).toNat) < fu126 → wl_X1_compare_126 Q X fu126 σ v0 v1 v3 v4 v5 := by
              intro fu126
              induction fu126 with
              | zero => intro _ _ _ h9; omega
              | succ fu126 ih126 =>
                intro v4 v5 hi126 hm126
                unfold wl_X1_compare_126
                unfold w_X1_compare_126
                by_cases hc21 : v5 ≥ v3
                · rw [if_pos hc21]
                  unfold w_X1_compare_169
                  exact hQ v4 (by (first | omega | with_reducible assumption | with_reducible exact rng_toInt _ | with_reducible exact rng_wr _ | (unfold rng; omega) | (unfold rng at *; omega) | assumption))
                · rw [if_neg hc21]
                  unfold w_X1_compare_132
                  by_cases hc22 : v5 ≥ 8
                  · rw [if_pos hc22]
                    unfold w_X1_compare_169
                    exact hQ v4 (by (first | omega | with_reducible assumption | with_reducible exact rng_toInt _ | with_reducible exact rng_wr _ | (unfold rng; omega) | (unfold rng at *; omega) | assumption))
                  · rw [if_neg hc22]
                    unfold w_X1_compare_139
                    by_cases hc23 : v4 ≠ 0
                    · rw [if_pos hc23]
                      unfold w_X1_compare_169
                      exact hQ v4 (by (first | omega | with_reducible assumption | with_reducible exact rng_toInt _ | with_reducible exact rng_wr _ | (unfold rng; omega) | (unfold rng at *; omega) | assumption))
                    · rw [if_neg hc23]
                      have hc23q := Classical.not_not.mp hc23
                      unfold w_X1_compare_144
                      refine ⟨c0, hv0, fun kk_c0_10 => ?_⟩
                      obtain ⟨b_4, eb_4, fb_4⟩ := P_0_0 iσ.1 kc0
                      have mb_4 : kO σ b_4 101 := iσ.1.kd kc0 rfl eb_4 rfl
                      refine ⟨b_4, eb_4, fun kk_b_4 => ?_⟩
                      refine ⟨⟨by (first | omega | with_reducible assumption | with_reducible exact rng_toInt _ | with_reducible exact rng_wr _ | (unfold rng; omega) | (unfold rng at *; omega) | assumption), by (first | omega | with_reducible assumption | with_reducible exact rng_toInt _ | with_reducible exact rng_wr _ | (unfold rng; omega) | (unfold rng at *; omega) | assumption)⟩, ?_⟩
                      refine ⟨c1, hv1, fun kk_c1_10 => ?_⟩
                      obtain ⟨b_5, eb_5, fb_5⟩ := P_0_0 iσ.1 kc1
                      have mb_5 : kO σ b_5 101 := iσ.1.kd kc1 rfl eb_5 rfl
                      refine ⟨b_5, eb_5, fun kk_b_5 => ?_⟩
                      refine ⟨⟨by (first | omega | with_reducible assumption | with_reducible exact rng_toInt _ | with_reducible exact rng_wr _ | (unfold rng; omega) | (unfold rng at *; omega) | assumption), by (first | omega | with_reducible assumption | with_reducible exact rng_toInt _ | with_reducible exact rng_wr _ | (unfold rng; omega) | (unfold rng at *; omega) | assumption)⟩, ?_⟩
                      refine i_J13_compare_74951 iσ (fun r44_2 pσ43_2 => ?_)
                      intro xσ43_2
                      refine ⟨by (first | omega | with_reducible assumption | with_reducible exact rng_toInt _ | with_reducible exact rng_wr _ | (unfold rng; omega) | (unfold rng at *; omega) | assumption), ?_⟩
                      exact ih126 r44_2 (v5 + 1) (by (first | omega | with_reducible assumption | with_reducible exact rng_toInt _ | with_reducible exact rng_wr _ | (unfold rng; omega) | (unfold rng at *; omega) | assumption)) (by (first | omega | with_reducible assumption | with_reducible exact rng_toInt _ | with_reducible exact rng_wr _ | (unfold rng; omega) | (unfold rng at *; omega) | assumption))
            exact ⟨_, Lp126 _ _ _ (by (first | omega | with_reducible assumption | with_reducible exact rng_toInt _ | with_reducible exact rng_wr _ | (unfold rng; omega) | (unfold rng at *; omega) | assumption)) (Nat.lt_succ_self _)⟩
          · rw [if_neg hc20]
            have hc20q := Classical.not_not.mp hc20
            unfold w_X1_compare_78
            rw [if_neg hc12]
            unfold w_X1_compare_83
            unfold w_X1_compare_99
            rw [if_neg hc12]
            unfold w_X1_compare_106
            unfold w_X1_compare_122
            exact hQ r52 (by (first | omega | with_reducible assumption | with_reducible exact rng_toInt _ | with_reducible exact rng_wr _ | (unfold rng; omega) | (unfold rng at *; omega) | assumption))
      · rw [if_neg hc11]
        unfold w_X1_compare_32
        unfold w_X1_compare_48
        unfold w_X1_compare_50
        rw [if_neg hc11]
        unfold w_X1_compare_55
        unfold w_X1_compare_71
        by_cases hc27 : v2 ≠ 2
        · rw [if_pos hc27]
          unfold w_X1_compare_123
          have Lp126 : ∀ (fu126 : Nat) (v4 : Int) (v5 : Int), ((-1 ≤ v4 ∧ v4 ≤ 1) ∧ 0 ≤ v5 ∧ v5 ≤ 8) → ((8 - v5).toNat) < fu126 → wl_X1_compare_126 Q X fu126 σ v0 v1 v3 v4 v5 := by
            intro fu126
            induction fu126 with
            | zero => intro _ _ _ h9; omega
            | succ fu126 ih126 =>
              intro v4 v5 hi126 hm126
              unfold wl_X1_compare_126
              unfold w_X1_compare_126
              by_cases hc28 : v5 ≥ v3
              · rw [if_pos hc28]
                unfold w_X1_compare_169
                exact hQ v4 (by (first | omega | with_reducible assumption | with_reducible exact rng_toInt _ | with_reducible exact rng_wr _ | (unfold rng; omega) | (unfold rng at *; omega) | assumption))
              · rw [if_neg hc28]
                unfold w_X1_compare_132
                by_cases hc29 : v5 ≥ 8
                · rw [if_pos hc29]
                  unfold w_X1_compare_169
                  exact hQ v4 (by (first | omega | with_reducible assumption | with_reducible exact rng_toInt _ | with_reducible exact rng_wr _ | (unfold rng; omega) | (unfold rng at *; omega) | assumption))
                · rw [if_neg hc29]
                  unfold w_X1_compare_139
                  by_cases hc30 : v4 ≠ 0
                  · rw [if_pos hc30]
                    unfold w_X1_compare_169
                    exact hQ v4 (by (first | omega | with_reducible assumption | with_reducible exact rng_toInt _ | with_reducible exact rng_wr _ | (unfold rng; omega) | (unfold rng at *; omega) | assumption))
                  · rw [if_neg hc30]
                    have hc30q := Classical.not_not.mp hc30
                    unfold w_X1_compare_144
                    refine ⟨c0, hv0, fun kk_c0_11 => ?_⟩
                    obtain ⟨b_6, eb_6, fb_6⟩ := P_0_0 iσ.1 kc0
                    have mb_6 : kO σ b_6 101 := iσ.1.kd kc0 rfl eb_6 rfl
                    refine ⟨b_6, eb_6, fun kk_b_6 => ?_⟩
                    refine ⟨⟨by (first | omega | with_reducible assumption | with_reducible exact rng_toInt _ | with_reducible exact rng_wr _ | (unfold rng; omega) | (unfold rng at *; omega) | assumption), by (first | omega | with_reducible assumption | with_reducible exact rng_toInt _ | with_reducible exact rng_wr _ | (unfold rng; omega) | (unfold rng at *; omega) | assumption)⟩, ?_⟩
                    refine ⟨c1, hv1, fun kk_c1_11 => ?_⟩
                    obtain ⟨b_7, eb_7, fb_7⟩ := P_0_0 iσ.1 kc1
                    have mb_7 : kO σ b_7 101 := iσ.1.kd kc1 rfl eb_7 rfl
                    refine ⟨b_7, eb_7, fun kk_b_7 => ?_⟩
                    refine ⟨⟨by (first | omega | with_reducible assumption | with_reducible exact rng_toInt _ | with_reducible exact rng_wr _ | (unfold rng; omega) | (unfold rng at *; omega) | assumption), by (first | omega | with_reducible assumption | with_reducible exact rng_toInt _ | with_reducible exact rng_wr _ | (unfold rng; omega) | (unfold rng at *; omega) | assumption)⟩, ?_⟩
                    refine i_J13_compare_74951 iσ (fun r44_3 pσ43_3 => ?_)
                    intro xσ43_3
                    refine ⟨by (first | omega | with_reducible assumption | with_reducible exact rng_toInt _ | with_reducible exact rng_wr _ | (unfold rng; omega) | (unfold rng at *; omega) | assumption), ?_⟩
                    exact ih126 r44_3 (v5 + 1) (by (first | omega | with_reducible assumption | with_reducible exact rng_toInt _ | with_reducible exact rng_wr _ | (unfold rng; omega) | (unfold rng at *; omega) | assumption)) (by (first | omega | with_reducible assumption | with_reducible exact rng_toInt _ | with_reducible exact rng_wr _ | (unfold rng; omega) | (unfold rng at *; omega) | assumption))
          exact ⟨_, Lp126 _ _ _ (by (first | omega | with_reducible assumption | with_reducible exact rng_toInt _ | with_reducible exact rng_wr _ | (unfold rng; omega) | (unfold rng at *; omega) | assumption)) (Nat.lt_succ_self _)⟩
        · rw [if_neg hc27]
          have hc27q := Classical.not_not.mp hc27
          unfold w_X1_compare_78
          rw [if_neg hc11]
          unfold w_X1_compare_83
          unfold w_X1_compare_99
          rw [if_neg hc11]
          unfold w_X1_compare_106
          unfold w_X1_compare_122
          exact hQ r30 (by (first | omega | with_reducible assumption | with_reducible exact rng_toInt _ | with_reducible exact rng_wr _ | (unfold rng; omega) | (unfold rng at *; omega) | assumption))
  · rw [if_neg hc1]
    have hc1q := Classical.not_not.mp hc1
    unfold w_X1_compare_7
    exact hQ 0 (by (first | omega | with_reducible assumption | with_reducible exact rng_toInt _ | with_reducible exact rng_wr _ | (unfold rng; omega) | (unfold rng at *; omega) | assumption))
set_option maxHeartbeats 1000000 in
theorem i_X5_find {σ : Sg} {pl : Nat} {gq ci gr nc : Nat → Nat} {ot : Nat → Nat → Int} {LL : Nat → List Nat} {N nu : Nat → Nat} {th : Nat} {v1 : Int64} (iσ : IV σ pl gq ci gr nc ot LL N nu) (kth : kO σ th 5) {Q : Sg → Int → Prop} {X : Sg → String → Prop} (hQ : ∀ (r : Int), (-1 ≤ r ∧ r ≤ 7 ∧ r < gI σ th 3) → Q σ r) : wp_X5_find th v1 σ Q X := by
  unfold wp_X5_find
  unfold w_X5_find_0
  have Lp2 : ∀ (fu2 : Nat) (v3 : Int), (0 ≤ v3 ∧ v3 ≤ 8) → ((8 - v3).toNat) < fu2 → wl_X5_find_2 th Q X fu2 σ v1 v3 := by
    intro fu2
    induction fu2 with
    | zero => intro _ _ h9; omega
    | succ fu2 ih2 =>
      intro v3 hi2 hm2
      unfold wl_X5_find_2
      unfold w_X5_find_2
      have q2 := I_5_3 iσ.1 kth
      by_cases hc1 : v3 ≥ gI σ th 3
      · rw [if_pos hc1]
        unfold w_X5_find_29
        exact hQ (-1) (by (first | omega | with_reducible assumption | with_reducible exact rng_toInt _ | with_reducible exact rng_wr _ | (unfold rng; omega) | (unfold rng at *; omega) | assumption))
      · rw [if_neg hc1]
        unfold w_X5_find_10
        obtain ⟨b, eb, fb⟩ := P_5_0 iσ.1 kth
        have mb : kO σ b 101 := iσ.1.kd kth rfl eb rfl
        refine ⟨b, eb, fun kk_b => ?_⟩
        refine ⟨⟨by (first | omega | with_reducible assumption | with_reducible exact rng_toInt _ | with_reducible exact rng_wr _ | (unfold rng; omega) | (unfold rng at *; omega) | assumption), by (first | omega | with_reducible assumption | with_reducible exact rng_toInt _ | with_reducible exact rng_wr _ | (unfold rng; omega) | (unfold rng at *; omega) | assumption)⟩, ?_⟩
        by_cases hc3 : (gJ σ b v3.toNat) ≠ v1
        · rw [if_pos hc3]
          unfold w_X5_find_23
          refine ⟨by (first | omega | with_reducible assumption | with_reducible exact rng_toInt _ | with_reducible exact rng_wr _ | (unfold rng; omega) | (unfold rng at *; omega) | assumption), ?_⟩
          exact ih2 (v3 + 1) (by (first | omega | with_reducible assumption | with_reducible exact rng_toInt _ | with_reducible exact rng_wr _ | (unfold rng; omega) | (unfold rng at *; omega) | assumption)) (by (first | omega | with_reducible assumption | with_reducible exact rng_toInt _ | with_reducible exact rng_wr _ | (unfold rng; omega) | (unfold rng at *; omega) | assumption))
        · rw [if_neg hc3]
          have hc3q := Classical.not_not.mp hc3
          unfold w_X5_find_21
          exact hQ v3 (by (first | omega | with_reducible assumption | with_reducible exact rng_toInt _ | with_reducible exact rng_wr _ | (unfold rng; omega) | (unfold rng at *; omega) | assumption))
  exact ⟨_, Lp2 _ _ (by (first | omega | with_reducible assumption | with_reducible exact rng_toInt _ | with_reducible exact rng_wr _ | (unfold rng; omega) | (unfold rng at *; omega) | assumption)) (Nat.lt_succ_self _)⟩
set_option maxHeartbeats 1000000 in
theorem i_X4_find {σ : Sg} {pl : Nat} {gq ci gr nc : Nat → Nat} {ot : Nat → Nat → Int} {LL : Nat → List Nat} {N nu : Nat → Nat} {th : Nat} {v1 : Int64} (iσ : IV σ pl gq ci gr nc ot LL N nu) (kth : kO σ th 4) {Q : Sg → Int → Prop} {X : Sg → String → Prop} (hQ : ∀ (r : Int), (-1 ≤ r ∧ r ≤ 15 ∧ r < gI σ th 1) → Q σ r) : wp_X4_find th v1 σ Q X := by
  unfold wp_X4_find
  unfold w_X4_find_0
  have Lp2 : ∀ (fu2 : Nat) (v3 : Int), (0 ≤ v3 ∧ v3 ≤ 16) → ((16 - v3).toNat) < fu2 → wl_X4_find_2 th Q X fu2 σ v1 v3 := by
    intro fu2
    induction fu2 with
    | zero => intro _ _ h9; omega
    | succ fu2 ih2 =>
      intro v3 hi2 hm2
      unfold wl_X4_find_2
      unfold w_X4_find_2
      have q2 := I_4_1 iσ.1 kth
      by_cases hc1 : v3 ≥ gI σ th 1
      · rw [if_pos hc1]
        unfold w_X4_find_46
        exact hQ (-1) (by (first | omega | with_reducible assumption | with_reducible exact rng_toInt _ | with_reducible exact rng_wr _ | (unfold rng; omega) | (unfold rng at *; omega) | assumption))
      · rw [if_neg hc1]
        unfold w_X4_find_10
        obtain ⟨b, eb, fb⟩ := P_4_0 iσ.1 kth
        have mb : kO σ b 115 := iσ.1.kd kth rfl eb rfl
        refine ⟨b, eb, fun kk_b => ?_⟩
        refine ⟨⟨by (first | omega | with_reducible assumption | with_reducible exact rng_toInt _ | with_reducible exact rng_wr _ | (unfold rng; omega) | (unfold rng at *; omega) | assumption), by (first | omega | with_reducible assumption | with_reducible exact rng_toInt _ | with_reducible exact rng_wr _ | (unfold rng; omega) | (unfold rng at *; omega) | assumption)⟩, ?_⟩
        obtain ⟨b_1, eb_1⟩ := P_115 iσ.1 mb (k := v3.toNat) (by (first | omega | with_reducible assumption | with_reducible exact rng_toInt _ | with_reducible exact rng_wr _ | (unfold rng; omega) | (unfold rng at *; omega) | assumption))
        have fb_1 := T_115 iσ.1 mb eb_1
        have mb_1 : kO σ b_1 5 := iσ.1.kd mb rfl eb_1 rfl
        refine ⟨b_1, eb_1, fun kk_b_1 => ?_⟩
        have q4 := I_5_6 iσ.1 mb_1
        by_cases hc3 : gI σ b_1 6 = 11
        · rw [if_pos hc3]
          unfold w_X4_find_40
          refine ⟨by (first | omega | with_reducible assumption | with_reducible exact rng_toInt _ | with_reducible exact rng_wr _ | (unfold rng; omega) | (unfold rng at *; omega) | assumption), ?_⟩
          exact ih2 (v3 + 1) (by (first | omega | with_reducible assumption | with_reducible exact rng_toInt _ | with_reducible exact rng_wr _ | (unfold rng; omega) | (unfold rng at *; omega) | assumption)) (by (first | omega | with_reducible assumption | with_reducible exact rng_toInt _ | with_reducible exact rng_wr _ | (unfold rng; omega) | (unfold rng at *; omega) | assumption))
        · rw [if_neg hc3]
          unfold w_X4_find_24
          refine ⟨b, eb, fun kk_b_2 => ?_⟩
          refine ⟨⟨by (first | omega | with_reducible assumption | with_reducible exact rng_toInt _ | with_reducible exact rng_wr _ | (unfold rng; omega) | (unfold rng at *; omega) | assumption), by (first | omega | with_reducible assumption | with_reducible exact rng_toInt _ | with_reducible exact rng_wr _ | (unfold rng; omega) | (unfold rng at *; omega) | assumption)⟩, ?_⟩
          refine ⟨b_1, eb_1, fun kk_b_1_1 => ?_⟩
          by_cases hc5 : gJ σ b_1 5 ≠ v1
          · rw [if_pos hc5]
            unfold w_X4_find_40
            refine ⟨by (first | omega | with_reducible assumption | with_reducible exact rng_toInt _ | with_reducible exact rng_wr _ | (unfold rng; omega) | (unfold rng at *; omega) | assumption), ?_⟩
            exact ih2 (v3 + 1) (by (first | omega | with_reducible assumption | with_reducible exact rng_toInt _ | with_reducible exact rng_wr _ | (unfold rng; omega) | (unfold rng at *; omega) | assumption)) (by (first | omega | with_reducible assumption | with_reducible exact rng_toInt _ | with_reducible exact rng_wr _ | (unfold rng; omega) | (unfold rng at *; omega) | assumption))
          · rw [if_neg hc5]
            have hc5q := Classical.not_not.mp hc5
            unfold w_X4_find_38
            exact hQ v3 (by (first | omega | with_reducible assumption | with_reducible exact rng_toInt _ | with_reducible exact rng_wr _ | (unfold rng; omega) | (unfold rng at *; omega) | assumption))
  exact ⟨_, Lp2 _ _ (by (first | omega | with_reducible assumption | with_reducible exact rng_toInt _ | with_reducible exact rng_wr _ | (unfold rng; omega) | (unfold rng at *; omega) | assumption)) (Nat.lt_succ_self _)⟩
set_option maxHeartbeats 1000000 in
theorem i_X4_pop {σ : Sg} {pl : Nat} {gq ci gr nc : Nat → Nat} {ot : Nat → Nat → Int} {LL : Nat → List Nat} {N nu : Nat → Nat} {th : Nat} (iσ : IV σ pl gq ci gr nc ot LL N nu) (kth : kO σ th 4) {Q : Sg → Int64 → Prop} {X : Sg → String → Prop} (hQ : ∀ (σ' : Sg) (r : Int64), IV σ' pl gq ci gr nc ot LL N nu → Fx [265] gr σ σ' → (True) → Q σ' r) : wp_X4_pop th σ Q X := by
  have fσ : Fx [265] gr σ σ := Fx.rf
  unfold wp_X4_pop
  unfold w_X4_pop_0
  have q2 := I_4_9 iσ.1 kth
  by_cases hc1 : gI σ th 9 ≠ 0
  · rw [if_pos hc1]
    unfold w_X4_pop_9
    refine ⟨by (first | omega | with_reducible assumption | with_reducible exact rng_toInt _ | with_reducible exact rng_wr _ | (unfold rng; omega) | (unfold rng at *; omega) | assumption), ?_⟩
    intro σ3 eσ3
    have xσ3 : Ext σ σ3 := by rw [eσ3]; exact fun _ h => ⟨h, rfl, rfl⟩
    have iσ3 : IV σ3 pl gq ci gr nc ot LL N nu := by rw [eσ3]; exact iσ.wO kth (by decide) (show (0 : Int) ≤ (gI σ th 9 - 1) ∧ (gI σ th 9 - 1) ≤ 64 from ⟨by (first | omega | with_reducible assumption | with_reducible exact rng_toInt _ | with_reducible exact rng_wr _ | (unfold rng; omega) | (unfold rng at *; omega) | assumption), by (first | omega | with_reducible assumption | with_reducible exact rng_toInt _ | with_reducible exact rng_wr _ | (unfold rng; omega) | (unfold rng at *; omega) | assumption)⟩)
    have fσ3 : Fx [265] gr σ σ3 := fσ.tr (Sk.fx (by rw [eσ3]; exact Sk.pI (by rw [fcdO kth (by decide)]; decide)))
    have wσ3 : gI σ3 th 9 = (gI σ th 9 - 1) := by rw [eσ3]; exact up2_s _ _ _ _
    obtain ⟨b, eb, fb⟩ := P_4_8 iσ3.1 (kth.up xσ3)
    have mb : kO σ3 b 101 := iσ3.1.kd (kth.up xσ3) rfl eb rfl
    refine ⟨b, eb, fun kk_b => ?_⟩
    refine ⟨⟨by (first | omega | with_reducible assumption | with_reducible exact rng_toInt _ | with_reducible exact rng_wr _ | (unfold rng; omega) | (unfold rng at *; omega) | assumption), by (first | omega | with_reducible assumption | with_reducible exact rng_toInt _ | with_reducible exact rng_wr _ | (unfold rng; omega) | (unfold rng at *; omega) | assumption)⟩, ?_⟩
    exact hQ σ3 (gJ σ3 b (gI σ3 th 9).toNat) iσ3 fσ3 (trivial)
  · rw [if_neg hc1]
    have hc1q := Classical.not_not.mp hc1
    unfold w_X4_pop_7
    exact hQ σ 0 iσ fσ (trivial)
set_option maxHeartbeats 1000000 in
theorem i_X4_push {σ : Sg} {pl : Nat} {gq ci gr nc : Nat → Nat} {ot : Nat → Nat → Int} {LL : Nat → List Nat} {N nu : Nat → Nat} {th : Nat} {v1 : Int64} (iσ : IV σ pl gq ci gr nc ot LL N nu) (kth : kO σ th 4) {Q : Sg → Unit → Prop} {X : Sg → String → Prop} (hQ : ∀ (σ' : Sg) (r : Unit), IV σ' pl gq ci gr nc ot LL N nu → Fx [265, 6464] gr σ σ' → (True) → Q σ' r) : wp_X4_push th v1 σ Q X := by
  have fσ : Fx [265, 6464] gr σ σ := Fx.rf
  unfold wp_X4_push
  unfold w_X4_push_0
  have q2 := I_4_9 iσ.1 kth
  by_cases hc1 : gI σ th 9 ≥ 64
  · rw [if_pos hc1]
    unfold w_X4_push_29
    exact hQ σ () iσ fσ (trivial)
  · rw [if_neg hc1]
    unfold w_X4_push_9
    obtain ⟨b, eb, fb⟩ := P_4_8 iσ.1 kth
    have mb : kO σ b 101 := iσ.1.kd kth rfl eb rfl
    refine ⟨b, eb, fun kk_b => ?_⟩
    refine ⟨⟨by (first | omega | with_reducible assumption | with_reducible exact rng_toInt _ | with_reducible exact rng_wr _ | (unfold rng; omega) | (unfold rng at *; omega) | assumption), by (first | omega | with_reducible assumption | with_reducible exact rng_toInt _ | with_reducible exact rng_wr _ | (unfold rng; omega) | (unfold rng at *; omega) | assumption)⟩, ?_⟩
    intro σ5 eσ5
    have xσ5 : Ext σ σ5 := by rw [eσ5]; exact fun _ h => ⟨h, rfl, rfl⟩
    have iσ5 : IV σ5 pl gq ci gr nc ot LL N nu := by rw [eσ5]; exact iσ.wL mb (by omega)
    have fσ5 : Fx [265, 6464] gr σ σ5 := fσ.tr (Sk.fx (by rw [eσ5]; exact Sk.pJ (by rw [fcdA mb (by decide)]; decide)))
    have kp3 : gI σ5 th 9 = gI σ th 9 := by rw [eσ5]
    have kp4 : gP σ5 th 8 = gP σ th 8 := by rw [eσ5]
    refine ⟨by (first | omega | with_reducible assumption | with_reducible exact rng_toInt _ | with_reducible exact rng_wr _ | (unfold rng; omega) | (unfold rng at *; omega) | assumption), ?_⟩
    intro σ6 eσ6
    have xσ6 : Ext σ5 σ6 := by rw [eσ6]; exact fun _ h => ⟨h, rfl, rfl⟩
    have iσ6 : IV σ6 pl gq ci gr nc ot LL N nu := by rw [eσ6]; exact iσ5.wO (kth.up xσ5) (by decide) (show (0 : Int) ≤ (gI σ5 th 9 + 1) ∧ (gI σ5 th 9 + 1) ≤ 64 from ⟨by (first | omega | with_reducible assumption | with_reducible exact rng_toInt _ | with_reducible exact rng_wr _ | (unfold rng; omega) | (unfold rng at *; omega) | assumption), by (first | omega | with_reducible assumption | with_reducible exact rng_toInt _ | with_reducible exact rng_wr _ | (unfold rng; omega) | (unfold rng at *; omega) | assumption)⟩)
    have fσ6 : Fx [265, 6464] gr σ σ6 := fσ5.tr (Sk.fx (by rw [eσ6]; exact Sk.pI (by rw [fcdO (kth.up xσ5) (by decide)]; decide)))
    have wσ6 : gI σ6 th 9 = (gI σ5 th 9 + 1) := by rw [eσ6]; exact up2_s _ _ _ _
    have kp5 : gP σ6 th 8 = gP σ5 th 8 := by rw [eσ6]
    unfold w_X4_push_29
    exact hQ σ6 () iσ6 fσ6 (trivial)
set_option maxHeartbeats 1000000 in
theorem i_X4_calculate {σ : Sg} {pl : Nat} {gq ci gr nc : Nat → Nat} {ot : Nat → Nat → Int} {LL : Nat → List Nat} {N nu : Nat → Nat} {th : Nat} {v1 : Int} {v2 : Int64} {v4 : Int64} (iσ : IV σ pl gq ci gr nc ot LL N nu) (kth : kO σ th 4) {Q : Sg → Int64 → Prop} {X : Sg → String → Prop} (hQ : ∀ (σ' : Sg) (r : Int64), IV σ' pl gq ci gr nc ot LL N nu → Fx [266] gr σ σ' → (True) → Q σ' r) : wp_X4_calculate th v1 v2 v4 σ Q X := by
  have fσ : Fx [266] gr σ σ := Fx.rf
  unfold wp_X4_calculate
  unfold w_X4_calculate_0
  by_cases hc1 : v1 = 11
  · rw [if_pos hc1]
    unfold w_X4_calculate_48
    exact hQ σ (v2 + v4) iσ fσ (trivial)
  · rw [if_neg hc1]
    by_cases hc2 : v1 = 12
    · rw [if_pos hc2]
      unfold w_X4_calculate_53
      exact hQ σ (v2 - v4) iσ fσ (trivial)
    · rw [if_neg hc2]
      by_cases hc3 : v1 = 13
      · rw [if_pos hc3]
        unfold w_X4_calculate_58
        exact hQ σ (v2 * v4) iσ fσ (trivial)
      · rw [if_neg hc3]
        by_cases hc4 : v1 = 16
        · rw [if_pos hc4]
          unfold w_X4_calculate_63
          by_cases hc5 : v2 ≥ v4
          · rw [if_pos hc5]
            unfold w_X4_calculate_74
            unfold w_X4_calculate_75
            exact hQ σ 0 iσ fσ (trivial)
          · rw [if_neg hc5]
            unfold w_X4_calculate_70
            unfold w_X4_calculate_75
            exact hQ σ 1 iσ fσ (trivial)
        · rw [if_neg hc4]
          by_cases hc6 : v1 = 17
          · rw [if_pos hc6]
            unfold w_X4_calculate_76
            by_cases hc7 : v2 ≤ v4
            · rw [if_pos hc7]
              unfold w_X4_calculate_87
              unfold w_X4_calculate_88
              exact hQ σ 0 iσ fσ (trivial)
            · rw [if_neg hc7]
              unfold w_X4_calculate_83
              unfold w_X4_calculate_88
              exact hQ σ 1 iσ fσ (trivial)
          · rw [if_neg hc6]
            by_cases hc8 : v1 = 18
            · rw [if_pos hc8]
              unfold w_X4_calculate_89
              by_cases hc9 : v2 ≠ v4
              · rw [if_pos hc9]
                unfold w_X4_calculate_100
                unfold w_X4_calculate_101
                exact hQ σ 0 iσ fσ (trivial)
              · rw [if_neg hc9]
                have hc9q := Classical.not_not.mp hc9
                unfold w_X4_calculate_96
                unfold w_X4_calculate_101
                exact hQ σ 1 iσ fσ (trivial)
            · rw [if_neg hc8]
              unfold w_X4_calculate_102
              by_cases hc10 : v4 ≠ 0
              · rw [if_pos hc10]
                unfold w_X4_calculate_116
                by_cases hc11 : v1 ≠ 14
                · rw [if_pos hc11]
                  unfold w_X4_calculate_129
                  refine ⟨by (first | omega | with_reducible assumption | with_reducible exact rng_toInt _ | with_reducible exact rng_wr _ | (unfold rng; omega) | (unfold rng at *; omega) | assumption), ?_⟩
                  unfold w_X4_calculate_133
                  exact hQ σ (v2 - v2 / v4 * v4) iσ fσ (trivial)
                · rw [if_neg hc11]
                  have hc11q := Classical.not_not.mp hc11
                  unfold w_X4_calculate_122
                  refine ⟨by (first | omega | with_reducible assumption | with_reducible exact rng_toInt _ | with_reducible exact rng_wr _ | (unfold rng; omega) | (unfold rng at *; omega) | assumption), ?_⟩
                  unfold w_X4_calculate_133
                  exact hQ σ (v2 / v4) iσ fσ (trivial)
              · rw [if_neg hc10]
                have hc10q := Classical.not_not.mp hc10
                unfold w_X4_calculate_109
                intro σ2 eσ2
                have xσ2 : Ext σ σ2 := by rw [eσ2]; exact fun _ h => ⟨h, rfl, rfl⟩
                have iσ2 : IV σ2 pl gq ci gr nc ot LL N nu := by rw [eσ2]; exact iσ.wO kth (by decide) (show (0 : Int) ≤ 1 ∧ 1 ≤ 1 from ⟨by (first | omega | with_reducible assumption | with_reducible exact rng_toInt _ | with_reducible exact rng_wr _ | (unfold rng; omega) | (unfold rng at *; omega) | assumption), by (first | omega | with_reducible assumption | with_reducible exact rng_toInt _ | with_reducible exact rng_wr _ | (unfold rng; omega) | (unfold rng at *; omega) | assumption)⟩)
                have fσ2 : Fx [266] gr σ σ2 := fσ.tr (Sk.fx (by rw [eσ2]; exact Sk.pI (by rw [fcdO kth (by decide)]; decide)))
                have wσ2 : gI σ2 th 10 = 1 := by rw [eσ2]; exact up2_s _ _ _ _
                exact hQ σ2 0 iσ2 fσ2 (trivial)
set_option maxHeartbeats 1000000 in
theorem i_X4_step {σ : Sg} {pl : Nat} {gq ci gr nc : Nat → Nat} {ot : Nat → Nat → Int} {LL : Nat → List Nat} {N nu : Nat → Nat} {th : Nat} {v1 : Int} {v2 : Option Nat} (iσ : IV σ pl gq ci gr nc ot LL N nu) (kth : kO σ th 4) {c2 : Nat} (hv2 : v2 = some c2) (kc2 : kO σ c2 0) (h1 : 0 ≤ v1 ∧ v1 < gI σ th 7) {Q : Sg → Int → Prop} {X : Sg → String → Prop} (hQ : ∀ (σ' : Sg) (r : Int), IV σ' pl gq ci gr nc ot LL N nu → Fx [265, 6464] gr σ σ' → (rng r) → Q σ' r) : wp_X4_step th v1 v2 σ Q X := by
  have fσ : Fx [265, 6464] gr σ σ := Fx.rf
  have q1 := I_4_7 iσ.1 kth
  unfold wp_X4_step
  unfold w_X4_step_0
  obtain ⟨b, eb, fb⟩ := P_4_6 iσ.1 kth
  have gb := iσ.code6 kth eb
  have mb : kO σ b 101 := iσ.1.kd kth rfl eb rfl
  refine ⟨b, eb, fun kk_b => ?_⟩
  refine ⟨⟨by (first | omega | with_reducible assumption | with_reducible exact rng_toInt _ | with_reducible exact rng_wr _ | (unfold rng; omega) | (unfold rng at *; omega) | assumption), by (first | omega | with_reducible assumption | with_reducible exact rng_toInt _ | with_reducible exact rng_wr _ | (unfold rng; omega) | (unfold rng at *; omega) | assumption)⟩, ?_⟩
  obtain ⟨b_1, eb_1, fb_1⟩ := P_4_5 iσ.1 kth
  have gb_1 := iσ.code5 kth eb_1
  have mb_1 : kO σ b_1 100 := iσ.1.kd kth rfl eb_1 rfl
  refine ⟨b_1, eb_1, fun kk_b_1 => ?_⟩
  refine ⟨⟨by (first | omega | with_reducible assumption | with_reducible exact rng_toInt _ | with_reducible exact rng_wr _ | (unfold rng; omega) | (unfold rng at *; omega) | assumption), by (first | omega | with_reducible assumption | with_reducible exact rng_toInt _ | with_reducible exact rng_wr _ | (unfold rng; omega) | (unfold rng at *; omega) | assumption)⟩, ?_⟩
  have q3 := iσ.rg b_1 v1.toNat; unfold rng at q3
  by_cases hc2 : (gI σ b_1 v1.toNat) = 1
  · rw [if_pos hc2]
    unfold w_X4_step_60
    refine i_X4_push iσ kth (fun σ46 _ iσ46 cσ46 pσ46 => ?_)
    intro xσ46
    have fσ46 : Fx [265, 6464] gr σ σ46 := fσ.tr (cσ46.mo (by decide))
    have kp4 : gI σ46 th 7 = gI σ th 7 := (cσ46.O kth (by decide)).1
    have kp5 : gP σ46 th 5 = gP σ th 5 := (cσ46.O kth (by decide)).2.1
    have kp6 : gP σ46 th 6 = gP σ th 6 := (cσ46.O kth (by decide)).2.1
    unfold w_X4_step_225
    refine ⟨by (first | omega | with_reducible assumption | with_reducible exact rng_toInt _ | with_reducible exact rng_wr _ | (unfold rng; omega) | (unfold rng at *; omega) | assumption), ?_⟩
    exact hQ σ46 (v1 + 1) iσ46 fσ46 (by (first | omega | with_reducible assumption | with_reducible exact rng_toInt _ | with_reducible exact rng_wr _ | (unfold rng; omega) | (unfold rng at *; omega) | assumption))
  · rw [if_neg hc2]
    by_cases hc7 : (gI σ b_1 v1.toNat) = 2
    · rw [if_pos hc7]
      unfold w_X4_step_68
      refine ⟨c2, hv2, fun kk_c2 => ?_⟩
      obtain ⟨b_2, eb_2, fb_2⟩ := P_0_0 iσ.1 kc2
      have mb_2 : kO σ b_2 101 := iσ.1.kd kc2 rfl eb_2 rfl
      refine ⟨b_2, eb_2, fun kk_b_2 => ?_⟩
      have q8 := andI_7 (((gJ σ b v1.toNat)).toInt32.toInt)
      refine ⟨⟨by (first | omega | with_reducible assumption | with_reducible exact rng_toInt _ | with_reducible exact rng_wr _ | (unfold rng; omega) | (unfold rng at *; omega) | assumption), by (first | omega | with_reducible assumption | with_reducible exact rng_toInt _ | with_reducible exact rng_wr _ | (unfold rng; omega) | (unfold rng at *; omega) | assumption)⟩, ?_⟩
      refine i_X4_push iσ kth (fun σ45 _ iσ45 cσ45 pσ45 => ?_)
      intro xσ45
      have fσ45 : Fx [265, 6464] gr σ σ45 := fσ.tr (cσ45.mo (by decide))
      have kp9 : gI σ45 th 7 = gI σ th 7 := (cσ45.O kth (by decide)).1
      have kp10 : gP σ45 c2 0 = gP σ c2 0 := (cσ45.O kc2 (by decide)).2.1
      have kp11 : gP σ45 th 5 = gP σ th 5 := (cσ45.O kth (by decide)).2.1
      have kp12 : gP σ45 th 6 = gP σ th 6 := (cσ45.O kth (by decide)).2.1
      unfold w_X4_step_225
      refine ⟨by (first | omega | with_reducible assumption | with_reducible exact rng_toInt _ | with_reducible exact rng_wr _ | (unfold rng; omega) | (unfold rng at *; omega) | assumption), ?_⟩
      exact hQ σ45 (v1 + 1) iσ45 fσ45 (by (first | omega | with_reducible assumption | with_reducible exact rng_toInt _ | with_reducible exact rng_wr _ | (unfold rng; omega) | (unfold rng at *; omega) | assumption))
    · rw [if_neg hc7]
      by_cases hc13 : (gI σ b_1 v1.toNat) = 3
      · rw [if_pos hc13]
        unfold w_X4_step_85
        refine ⟨c2, hv2, fun kk_c2_1 => ?_⟩
        refine i_X4_push iσ kth (fun σ42 _ iσ42 cσ42 pσ42 => ?_)
        intro xσ42
        have fσ42 : Fx [265, 6464] gr σ σ42 := fσ.tr (cσ42.mo (by decide))
        have kp14 : gI σ42 th 7 = gI σ th 7 := (cσ42.O kth (by decide)).1
        have kp15 : gP σ42 th 5 = gP σ th 5 := (cσ42.O kth (by decide)).2.1
        have kp16 : gP σ42 th 6 = gP σ th 6 := (cσ42.O kth (by decide)).2.1
        unfold w_X4_step_225
        refine ⟨by (first | omega | with_reducible assumption | with_reducible exact rng_toInt _ | with_reducible exact rng_wr _ | (unfold rng; omega) | (unfold rng at *; omega) | assumption), ?_⟩
        exact hQ σ42 (v1 + 1) iσ42 fσ42 (by (first | omega | with_reducible assumption | with_reducible exact rng_toInt _ | with_reducible exact rng_wr _ | (unfold rng; omega) | (unfold rng at *; omega) | assumption))
      · rw [if_neg hc13]
        by_cases hc17 : (gI σ b_1 v1.toNat) = 4
        · rw [if_pos hc17]
          unfold w_X4_step_96
          refine i_X4_pop iσ kth (fun σ38 r39 iσ38 cσ38 pσ38 => ?_)
          intro xσ38
          have fσ38 : Fx [265, 6464] gr σ σ38 := fσ.tr (cσ38.mo (by decide))
          have kp18 : gI σ38 th 7 = gI σ th 7 := (cσ38.O kth (by decide)).1
          have kp19 : gP σ38 th 5 = gP σ th 5 := (cσ38.O kth (by decide)).2.1
          have kp20 : gP σ38 th 6 = gP σ th 6 := (cσ38.O kth (by decide)).2.1
          refine i_X4_push iσ38 (kth.up xσ38) (fun σ40 _ iσ40 cσ40 pσ40 => ?_)
          intro xσ40
          have fσ40 : Fx [265, 6464] gr σ σ40 := fσ38.tr (cσ40.mo (by decide))
          have kp21 : gI σ40 th 7 = gI σ38 th 7 := (cσ40.O (kth.up xσ38) (by decide)).1
          have kp22 : gP σ40 th 5 = gP σ38 th 5 := (cσ40.O (kth.up xσ38) (by decide)).2.1
          have kp23 : gP σ40 th 6 = gP σ38 th 6 := (cσ40.O (kth.up xσ38) (by decide)).2.1
          unfold w_X4_step_225
          refine ⟨by (first | omega | with_reducible assumption | with_reducible exact rng_toInt _ | with_reducible exact rng_wr _ | (unfold rng; omega) | (unfold rng at *; omega) | assumption), ?_⟩
          exact hQ σ40 (v1 + 1) iσ40 fσ40 (by (first | omega | with_reducible assumption | with_reducible exact rng_toInt _ | with_reducible exact rng_wr _ | (unfold rng; omega) | (unfold rng at *; omega) | assumption))
        · rw [if_neg hc17]
          by_cases hc24 : (gI σ b_1 v1.toNat) = 5
          · rw [if_pos hc24]
            unfold w_X4_step_108
            refine i_X4_pop iσ kth (fun σ35 r36 iσ35 cσ35 pσ35 => ?_)
            intro xσ35
            have fσ35 : Fx [265, 6464] gr σ σ35 := fσ.tr (cσ35.mo (by decide))
            have kp25 : gI σ35 th 7 = gI σ th 7 := (cσ35.O kth (by decide)).1
            have kp26 : gP σ35 th 5 = gP σ th 5 := (cσ35.O kth (by decide)).2.1
            have kp27 : gP σ35 th 6 = gP σ th 6 := (cσ35.O kth (by decide)).2.1
            by_cases hc28 : r36 ≠ 0
            · rw [if_pos hc28]
              unfold w_X4_step_122
              unfold w_X4_step_123
              refine i_X4_push iσ35 (kth.up xσ35) (fun σ37 _ iσ37 cσ37 pσ37 => ?_)
              intro xσ37
              have fσ37 : Fx [265, 6464] gr σ σ37 := fσ35.tr (cσ37.mo (by decide))
              have kp29 : gI σ37 th 7 = gI σ35 th 7 := (cσ37.O (kth.up xσ35) (by decide)).1
              have kp30 : gP σ37 th 5 = gP σ35 th 5 := (cσ37.O (kth.up xσ35) (by decide)).2.1
              have kp31 : gP σ37 th 6 = gP σ35 th 6 := (cσ37.O (kth.up xσ35) (by decide)).2.1
              unfold w_X4_step_225
              refine ⟨by (first | omega | with_reducible assumption | with_reducible exact rng_toInt _ | with_reducible exact rng_wr _ | (unfold rng; omega) | (unfold rng at *; omega) | assumption), ?_⟩
              exact hQ σ37 (v1 + 1) iσ37 fσ37 (by (first | omega | with_reducible assumption | with_reducible exact rng_toInt _ | with_reducible exact rng_wr _ | (unfold rng; omega) | (unfold rng at *; omega) | assumption))
            · rw [if_neg hc28]
              have hc28q := Classical.not_not.mp hc28
              unfold w_X4_step_118
              unfold w_X4_step_123
              refine i_X4_push iσ35 (kth.up xσ35) (fun σ37_1 _ iσ37_1 cσ37_1 pσ37_1 => ?_)
              intro xσ37_1
              have fσ37_1 : Fx [265, 6464] gr σ σ37_1 := fσ35.tr (cσ37_1.mo (by decide))
              have kp32 : gI σ37_1 th 7 = gI σ35 th 7 := (cσ37_1.O (kth.up xσ35) (by decide)).1
              have kp33 : gP σ37_1 th 5 = gP σ35 th 5 := (cσ37_1.O (kth.up xσ35) (by decide)).2.1
              have kp34 : gP σ37_1 th 6 = gP σ35 th 6 := (cσ37_1.O (kth.up xσ35) (by decide)).2.1
              unfold w_X4_step_225
              refine ⟨by (first | omega | with_reducible assumption | with_reducible exact rng_toInt _ | with_reducible exact rng_wr _ | (unfold rng; omega) | (unfold rng at *; omega) | assumption), ?_⟩
              exact hQ σ37_1 (v1 + 1) iσ37_1 fσ37_1 (by (first | omega | with_reducible assumption | with_reducible exact rng_toInt _ | with_reducible exact rng_wr _ | (unfold rng; omega) | (unfold rng at *; omega) | assumption))
          · rw [if_neg hc24]
            by_cases hc35 : (gI σ b_1 v1.toNat) = 6
            · rw [if_pos hc35]
              unfold w_X4_step_129
              refine i_X4_pop iσ kth (fun σ32 r33 iσ32 cσ32 pσ32 => ?_)
              intro xσ32
              have fσ32 : Fx [265, 6464] gr σ σ32 := fσ.tr (cσ32.mo (by decide))
              have kp36 : gI σ32 th 7 = gI σ th 7 := (cσ32.O kth (by decide)).1
              have kp37 : gP σ32 th 5 = gP σ th 5 := (cσ32.O kth (by decide)).2.1
              have kp38 : gP σ32 th 6 = gP σ th 6 := (cσ32.O kth (by decide)).2.1
              by_cases hc39 : r33 ≠ 0
              · rw [if_pos hc39]
                unfold w_X4_step_143
                unfold w_X4_step_144
                refine i_X4_push iσ32 (kth.up xσ32) (fun σ34 _ iσ34 cσ34 pσ34 => ?_)
                intro xσ34
                have fσ34 : Fx [265, 6464] gr σ σ34 := fσ32.tr (cσ34.mo (by decide))
                have kp40 : gI σ34 th 7 = gI σ32 th 7 := (cσ34.O (kth.up xσ32) (by decide)).1
                have kp41 : gP σ34 th 5 = gP σ32 th 5 := (cσ34.O (kth.up xσ32) (by decide)).2.1
                have kp42 : gP σ34 th 6 = gP σ32 th 6 := (cσ34.O (kth.up xσ32) (by decide)).2.1
                unfold w_X4_step_225
                refine ⟨by (first | omega | with_reducible assumption | with_reducible exact rng_toInt _ | with_reducible exact rng_wr _ | (unfold rng; omega) | (unfold rng at *; omega) | assumption), ?_⟩
                exact hQ σ34 (v1 + 1) iσ34 fσ34 (by (first | omega | with_reducible assumption | with_reducible exact rng_toInt _ | with_reducible exact rng_wr _ | (unfold rng; omega) | (unfold rng at *; omega) | assumption))
              · rw [if_neg hc39]
                have hc39q := Classical.not_not.mp hc39
                unfold w_X4_step_139
                unfold w_X4_step_144
                refine i_X4_push iσ32 (kth.up xσ32) (fun σ34_1 _ iσ34_1 cσ34_1 pσ34_1 => ?_)
                intro xσ34_1
                have fσ34_1 : Fx [265, 6464] gr σ σ34_1 := fσ32.tr (cσ34_1.mo (by decide))
                have kp43 : gI σ34_1 th 7 = gI σ32 th 7 := (cσ34_1.O (kth.up xσ32) (by decide)).1
                have kp44 : gP σ34_1 th 5 = gP σ32 th 5 := (cσ34_1.O (kth.up xσ32) (by decide)).2.1
                have kp45 : gP σ34_1 th 6 = gP σ32 th 6 := (cσ34_1.O (kth.up xσ32) (by decide)).2.1
                unfold w_X4_step_225
                refine ⟨by (first | omega | with_reducible assumption | with_reducible exact rng_toInt _ | with_reducible exact rng_wr _ | (unfold rng; omega) | (unfold rng at *; omega) | assumption), ?_⟩
                exact hQ σ34_1 (v1 + 1) iσ34_1 fσ34_1 (by (first | omega | with_reducible assumption | with_reducible exact rng_toInt _ | with_reducible exact rng_wr _ | (unfold rng; omega) | (unfold rng at *; omega) | assumption))
            · rw [if_neg hc35]
              by_cases hc46 : (gI σ b_1 v1.toNat) = 7
              · rw [if_pos hc46]
                unfold w_X4_step_150
                exact hQ σ ((gJ σ b v1.toNat)).toInt32.toInt iσ fσ (by (first | omega | with_reducible assumption | with_reducible exact rng_toInt _ | with_reducible exact rng_wr _ | (unfold rng; omega) | (unfold rng at *; omega) | assumption))
              · rw [if_neg hc46]
                by_cases hc47 : (gI σ b_1 v1.toNat) = 8
                · rw [if_pos hc47]
                  unfold w_X4_step_153
                  refine i_X4_pop iσ kth (fun σ30 r31 iσ30 cσ30 pσ30 => ?_)
                  intro xσ30
                  have fσ30 : Fx [265, 6464] gr σ σ30 := fσ.tr (cσ30.mo (by decide))
                  have kp48 : gI σ30 th 7 = gI σ th 7 := (cσ30.O kth (by decide)).1
                  have kp49 : gP σ30 th 5 = gP σ th 5 := (cσ30.O kth (by decide)).2.1
                  have kp50 : gP σ30 th 6 = gP σ th 6 := (cσ30.O kth (by decide)).2.1
                  by_cases hc51 : r31 ≠ 0
                  · rw [if_pos hc51]
                    unfold w_X4_step_167
                    refine ⟨by (first | omega | with_reducible assumption | with_reducible exact rng_toInt _ | with_reducible exact rng_wr _ | (unfold rng; omega) | (unfold rng at *; omega) | assumption), ?_⟩
                    unfold w_X4_step_170
                    exact hQ σ30 (v1 + 1) iσ30 fσ30 (by (first | omega | with_reducible assumption | with_reducible exact rng_toInt _ | with_reducible exact rng_wr _ | (unfold rng; omega) | (unfold rng at *; omega) | assumption))
                  · rw [if_neg hc51]
                    have hc51q := Classical.not_not.mp hc51
                    unfold w_X4_step_162
                    unfold w_X4_step_170
                    exact hQ σ30 ((gJ σ b v1.toNat)).toInt32.toInt iσ30 fσ30 (by (first | omega | with_reducible assumption | with_reducible exact rng_toInt _ | with_reducible exact rng_wr _ | (unfold rng; omega) | (unfold rng at *; omega) | assumption))
                · rw [if_neg hc47]
                  unfold w_X4_step_171
                  refine i_X4_pop iσ kth (fun σ26 r27 iσ26 cσ26 pσ26 => ?_)
                  intro xσ26
                  have fσ26 : Fx [265, 6464] gr σ σ26 := fσ.tr (cσ26.mo (by decide))
                  have kp52 : gI σ26 th 7 = gI σ th 7 := (cσ26.O kth (by decide)).1
                  have kp53 : gP σ26 th 5 = gP σ th 5 := (cσ26.O kth (by decide)).2.1
                  have kp54 : gP σ26 th 6 = gP σ th 6 := (cσ26.O kth (by decide)).2.1
                  by_cases hc55 : r27 = 0
                  · rw [if_pos hc55]
                    unfold w_X4_step_184
                    unfold w_X4_step_185
                    refine ⟨b_1, (kp53.trans eb_1), fun kk_b_1_1 => ?_⟩
                    have q56 := (xσ26 b_1 mb_1.1).2.2
                    refine ⟨⟨by (first | omega | with_reducible assumption | with_reducible exact rng_toInt _ | with_reducible exact rng_wr _ | (unfold rng; omega) | (unfold rng at *; omega) | assumption), by (first | omega | with_reducible assumption | with_reducible exact rng_toInt _ | with_reducible exact rng_wr _ | (unfold rng; omega) | (unfold rng at *; omega) | assumption)⟩, ?_⟩
                    have q58 := iσ26.rg b_1 v1.toNat; unfold rng at q58
                    by_cases hc57 : (gI σ26 b_1 v1.toNat) ≠ 10
                    · rw [if_pos hc57]
                      unfold w_X4_step_204
                      unfold w_X4_step_205
                      rw [if_neg (by decide)]
                      unfold w_X4_step_208
                      rw [if_pos (by decide)]
                      unfold w_X4_step_218
                      unfold w_X4_step_219
                      refine i_X4_push iσ26 (kth.up xσ26) (fun σ29 _ iσ29 cσ29 pσ29 => ?_)
                      intro xσ29
                      have fσ29 : Fx [265, 6464] gr σ σ29 := fσ26.tr (cσ29.mo (by decide))
                      have kp61 : gI σ29 th 7 = gI σ26 th 7 := (cσ29.O (kth.up xσ26) (by decide)).1
                      have kp62 : gP σ29 th 5 = gP σ26 th 5 := (cσ29.O (kth.up xσ26) (by decide)).2.1
                      have kp63 : gP σ29 th 6 = gP σ26 th 6 := (cσ29.O (kth.up xσ26) (by decide)).2.1
                      exact hQ σ29 ((gJ σ b v1.toNat)).toInt32.toInt iσ29 fσ29 (by (first | omega | with_reducible assumption | with_reducible exact rng_toInt _ | with_reducible exact rng_wr _ | (unfold rng; omega) | (unfold rng at *; omega) | assumption))
                    · rw [if_neg hc57]
                      have hc57q := Classical.not_not.mp hc57
                      unfold w_X4_step_200
                      unfold w_X4_step_205
                      rw [if_pos (by decide)]
                      unfold w_X4_step_225
                      refine ⟨by (first | omega | with_reducible assumption | with_reducible exact rng_toInt _ | with_reducible exact rng_wr _ | (unfold rng; omega) | (unfold rng at *; omega) | assumption), ?_⟩
                      exact hQ σ26 (v1 + 1) iσ26 fσ26 (by (first | omega | with_reducible assumption | with_reducible exact rng_toInt _ | with_reducible exact rng_wr _ | (unfold rng; omega) | (unfold rng at *; omega) | assumption))
                  · rw [if_neg hc55]
                    unfold w_X4_step_180
                    unfold w_X4_step_185
                    refine ⟨b_1, (kp53.trans eb_1), fun kk_b_1_2 => ?_⟩
                    have q65 := (xσ26 b_1 mb_1.1).2.2
                    refine ⟨⟨by (first | omega | with_reducible assumption | with_reducible exact rng_toInt _ | with_reducible exact rng_wr _ | (unfold rng; omega) | (unfold rng at *; omega) | assumption), by (first | omega | with_reducible assumption | with_reducible exact rng_toInt _ | with_reducible exact rng_wr _ | (unfold rng; omega) | (unfold rng at *; omega) | assumption)⟩, ?_⟩
                    have q67 := iσ26.rg b_1 v1.toNat; unfold rng at q67
                    by_cases hc66 : (gI σ26 b_1 v1.toNat) ≠ 10
                    · rw [if_pos hc66]
                      unfold w_X4_step_204
                      unfold w_X4_step_205
                      rw [if_pos (by decide)]
                      unfold w_X4_step_225
                      refine ⟨by (first | omega | with_reducible assumption | with_reducible exact rng_toInt _ | with_reducible exact rng_wr _ | (unfold rng; omega) | (unfold rng at *; omega) | assumption), ?_⟩
                      exact hQ σ26 (v1 + 1) iσ26 fσ26 (by (first | omega | with_reducible assumption | with_reducible exact rng_toInt _ | with_reducible exact rng_wr _ | (unfold rng; omega) | (unfold rng at *; omega) | assumption))
                    · rw [if_neg hc66]
                      have hc66q := Classical.not_not.mp hc66
                      unfold w_X4_step_200
                      unfold w_X4_step_205
                      rw [if_neg (by decide)]
                      unfold w_X4_step_208
                      rw [if_neg (by decide)]
                      unfold w_X4_step_214
                      unfold w_X4_step_219
                      refine i_X4_push iσ26 (kth.up xσ26) (fun σ29_1 _ iσ29_1 cσ29_1 pσ29_1 => ?_)
                      intro xσ29_1
                      have fσ29_1 : Fx [265, 6464] gr σ σ29_1 := fσ26.tr (cσ29_1.mo (by decide))
                      have kp71 : gI σ29_1 th 7 = gI σ26 th 7 := (cσ29_1.O (kth.up xσ26) (by decide)).1
                      have kp72 : gP σ29_1 th 5 = gP σ26 th 5 := (cσ29_1.O (kth.up xσ26) (by decide)).2.1
                      have kp73 : gP σ29_1 th 6 = gP σ26 th 6 := (cσ29_1.O (kth.up xσ26) (by decide)).2.1
                      exact hQ σ29_1 ((gJ σ b v1.toNat)).toInt32.toInt iσ29_1 fσ29_1 (by (first | omega | with_reducible assumption | with_reducible exact rng_toInt _ | with_reducible exact rng_wr _ | (unfold rng; omega) | (unfold rng at *; omega) | assumption))
set_option maxHeartbeats 1000000 in
theorem i_X4_value {σ : Sg} {pl : Nat} {gq ci gr nc : Nat → Nat} {ot : Nat → Nat → Int} {LL : Nat → List Nat} {N nu : Nat → Nat} {th : Nat} {v1 : Int} {v2 : Option Nat} (iσ : IV σ pl gq ci gr nc ot LL N nu) (kth : kO σ th 4) {c2 : Nat} (hv2 : v2 = some c2) (kc2 : kO σ c2 0) {Q : Sg → Int64 → Prop} {X : Sg → String → Prop} (hQ : ∀ (σ' : Sg) (r : Int64), IV σ' pl gq ci gr nc ot LL N nu → Fx [265, 266, 6464] gr σ σ' → (True) → Q σ' r) : wp_X4_value th v1 v2 σ Q X := by
  have fσ : Fx [265, 266, 6464] gr σ σ := Fx.rf
  unfold wp_X4_value
  unfold w_X4_value_0
  intro σ17 eσ17
  have xσ17 : Ext σ σ17 := by rw [eσ17]; exact fun _ h => ⟨h, rfl, rfl⟩
  have iσ17 : IV σ17 pl gq ci gr nc ot LL N nu := by rw [eσ17]; exact iσ.wO kth (by decide) (show (0 : Int) ≤ 0 ∧ 0 ≤ 1 from ⟨by (first | omega | with_reducible assumption | with_reducible exact rng_toInt _ | with_reducible exact rng_wr _ | (unfold rng; omega) | (unfold rng at *; omega) | assumption), by (first | omega | with_reducible assumption | with_reducible exact rng_toInt _ | with_reducible exact rng_wr _ | (unfold rng; omega) | (unfold rng at *; omega) | assumption)⟩)
  have fσ17 : Fx [265, 266, 6464] gr σ σ17 := fσ.tr (Sk.fx (by rw [eσ17]; exact Sk.pI (by rw [fcdO kth (by decide)]; decide)))
  have wσ17 : gI σ17 th 10 = 0 := by rw [eσ17]; exact up2_s _ _ _ _
  intro σ18 eσ18
  have xσ18 : Ext σ17 σ18 := by rw [eσ18]; exact fun _ h => ⟨h, rfl, rfl⟩
  have iσ18 : IV σ18 pl gq ci gr nc ot LL N nu := by rw [eσ18]; exact iσ17.wO (kth.up xσ17) (by decide) (show (0 : Int) ≤ 0 ∧ 0 ≤ 64 from ⟨by (first | omega | with_reducible assumption | with_reducible exact rng_toInt _ | with_reducible exact rng_wr _ | (unfold rng; omega) | (unfold rng at *; omega) | assumption), by (first | omega | with_reducible assumption | with_reducible exact rng_toInt _ | with_reducible exact rng_wr _ | (unfold rng; omega) | (unfold rng at *; omega) | assumption)⟩)
  have fσ18 : Fx [265, 266, 6464] gr σ σ18 := fσ17.tr (Sk.fx (by rw [eσ18]; exact Sk.pI (by rw [fcdO (kth.up xσ17) (by decide)]; decide)))
  have wσ18 : gI σ18 th 9 = 0 := by rw [eσ18]; exact up2_s _ _ _ _
  have kp1 : gI σ18 th 10 = gI σ17 th 10 := by rw [eσ18]; exact up2_n _ _ (fun q => absurd q.2 (by decide))
  have Lp15 : ∀ (fu15 : Nat) (τ15 : Sg) (v3 : Int) (v4 : Int), IV τ15 pl gq ci gr nc ot LL N nu → Fx [265, 266, 6464] gr σ τ15 → Ext σ18 τ15 → (0 ≤ v4 ∧ v4 ≤ 6200) → ((6200 - v4).toNat) < fu15 → wl_X4_value_15 th Q X fu15 τ15 v2 v3 v4 := by
    intro fu15
    induction fu15 with
    | zero => intro _ _ _ _ _ _ _ h9; omega
    | succ fu15 ih15 =>
      intro τ15 v3 v4 iτ15 fτ15 xτ15 hi15 hm15
      unfold wl_X4_value_15
      unfold w_X4_value_15
      have q3 := I_4_7 iτ15.1 (kth.up (xσ17.trans (xσ18.trans xτ15)))
      by_cases hc2 : v4 ≥ gI τ15 th 7
      · rw [if_pos hc2]
        unfold w_X4_value_108
        refine i_X4_pop iτ15 (kth.up (xσ17.trans (xσ18.trans xτ15))) (fun σ31 r32 iσ31 cσ31 pσ31 => ?_)
        intro xσ31
        have fσ31 : Fx [265, 266, 6464] gr σ σ31 := fτ15.tr (cσ31.mo (by decide))
        have kp4 : gI σ31 th 7 = gI τ15 th 7 := (cσ31.O (kth.up (xσ17.trans (xσ18.trans xτ15))) (by decide)).1
        exact hQ σ31 r32 iσ31 fσ31 (trivial)
      · rw [if_neg hc2]
        unfold w_X4_value_24
        by_cases hc5 : v3 < 0
        · rw [if_pos hc5]
          unfold w_X4_value_108
          refine i_X4_pop iτ15 (kth.up (xσ17.trans (xσ18.trans xτ15))) (fun σ31_1 r32_1 iσ31_1 cσ31_1 pσ31_1 => ?_)
          intro xσ31_1
          have fσ31_1 : Fx [265, 266, 6464] gr σ σ31_1 := fτ15.tr (cσ31_1.mo (by decide))
          have kp6 : gI σ31_1 th 7 = gI τ15 th 7 := (cσ31_1.O (kth.up (xσ17.trans (xσ18.trans xτ15))) (by decide)).1
          exact hQ σ31_1 r32_1 iσ31_1 fσ31_1 (trivial)
        · rw [if_neg hc5]
          unfold w_X4_value_28
          by_cases hc7 : v3 ≥ gI τ15 th 7
          · rw [if_pos hc7]
            unfold w_X4_value_108
            refine i_X4_pop iτ15 (kth.up (xσ17.trans (xσ18.trans xτ15))) (fun σ31_2 r32_2 iσ31_2 cσ31_2 pσ31_2 => ?_)
            intro xσ31_2
            have fσ31_2 : Fx [265, 266, 6464] gr σ σ31_2 := fτ15.tr (cσ31_2.mo (by decide))
            have kp8 : gI σ31_2 th 7 = gI τ15 th 7 := (cσ31_2.O (kth.up (xσ17.trans (xσ18.trans xτ15))) (by decide)).1
            exact hQ σ31_2 r32_2 iσ31_2 fσ31_2 (trivial)
          · rw [if_neg hc7]
            unfold w_X4_value_36
            obtain ⟨b, eb, fb⟩ := P_4_5 iτ15.1 (kth.up (xσ17.trans (xσ18.trans xτ15)))
            have gb := iτ15.code5 (kth.up (xσ17.trans (xσ18.trans xτ15))) eb
            have mb : kO τ15 b 100 := iτ15.1.kd (kth.up (xσ17.trans (xσ18.trans xτ15))) rfl eb rfl
            refine ⟨b, eb, fun kk_b => ?_⟩
            refine ⟨⟨by (first | omega | with_reducible assumption | with_reducible exact rng_toInt _ | with_reducible exact rng_wr _ | (unfold rng; omega) | (unfold rng at *; omega) | assumption), by (first | omega | with_reducible assumption | with_reducible exact rng_toInt _ | with_reducible exact rng_wr _ | (unfold rng; omega) | (unfold rng at *; omega) | assumption)⟩, ?_⟩
            have q10 := iτ15.rg b v3.toNat; unfold rng at q10
            by_cases hc9 : (gI τ15 b v3.toNat) = 0
            · rw [if_pos hc9]
              unfold w_X4_value_108
              refine i_X4_pop iτ15 (kth.up (xσ17.trans (xσ18.trans xτ15))) (fun σ31_3 r32_3 iσ31_3 cσ31_3 pσ31_3 => ?_)
              intro xσ31_3
              have fσ31_3 : Fx [265, 266, 6464] gr σ σ31_3 := fτ15.tr (cσ31_3.mo (by decide))
              have kp11 : gI σ31_3 th 7 = gI τ15 th 7 := (cσ31_3.O (kth.up (xσ17.trans (xσ18.trans xτ15))) (by decide)).1
              have kp12 : gP σ31_3 th 5 = gP τ15 th 5 := (cσ31_3.O (kth.up (xσ17.trans (xσ18.trans xτ15))) (by decide)).2.1
              exact hQ σ31_3 r32_3 iσ31_3 fσ31_3 (trivial)
            · rw [if_neg hc9]
              unfold w_X4_value_45
              have q14 := I_4_10 iτ15.1 (kth.up (xσ17.trans (xσ18.trans xτ15)))
              by_cases hc13 : gI τ15 th 10 ≠ 0
              · rw [if_pos hc13]
                unfold w_X4_value_108
                refine i_X4_pop iτ15 (kth.up (xσ17.trans (xσ18.trans xτ15))) (fun σ31_4 r32_4 iσ31_4 cσ31_4 pσ31_4 => ?_)
                intro xσ31_4
                have fσ31_4 : Fx [265, 266, 6464] gr σ σ31_4 := fτ15.tr (cσ31_4.mo (by decide))
                have kp15 : gI σ31_4 th 10 = gI τ15 th 10 := (cσ31_4.O (kth.up (xσ17.trans (xσ18.trans xτ15))) (by decide)).1
                have kp16 : gI σ31_4 th 7 = gI τ15 th 7 := (cσ31_4.O (kth.up (xσ17.trans (xσ18.trans xτ15))) (by decide)).1
                have kp17 : gP σ31_4 th 5 = gP τ15 th 5 := (cσ31_4.O (kth.up (xσ17.trans (xσ18.trans xτ15))) (by decide)).2.1
                exact hQ σ31_4 r32_4 iσ31_4 fσ31_4 (trivial)
              · rw [if_neg hc13]
                have hc13q := Classical.not_not.mp hc13
                unfold w_X4_value_52
                refine ⟨b, eb, fun kk_b_1 => ?_⟩
                refine ⟨⟨by (first | omega | with_reducible assumption | with_reducible exact rng_toInt _ | with_reducible exact rng_wr _ | (unfold rng; omega) | (unfold rng at *; omega) | assumption), by (first | omega | with_reducible assumption | with_reducible exact rng_toInt _ | with_reducible exact rng_wr _ | (unfold rng; omega) | (unfold rng at *; omega) | assumption)⟩, ?_⟩
                by_cases hc18 : (gI τ15 b v3.toNat) ≥ 11
                · rw [if_pos hc18]
                  unfold w_X4_value_73
                  refine i_X4_pop iτ15 (kth.up (xσ17.trans (xσ18.trans xτ15))) (fun σ23 r24 iσ23 cσ23 pσ23 => ?_)
                  intro xσ23
                  have fσ23 : Fx [265, 266, 6464] gr σ σ23 := fτ15.tr (cσ23.mo (by decide))
                  have kp19 : gI σ23 th 10 = gI τ15 th 10 := (cσ23.O (kth.up (xσ17.trans (xσ18.trans xτ15))) (by decide)).1
                  have kp20 : gI σ23 th 7 = gI τ15 th 7 := (cσ23.O (kth.up (xσ17.trans (xσ18.trans xτ15))) (by decide)).1
                  have kp21 : gP σ23 th 5 = gP τ15 th 5 := (cσ23.O (kth.up (xσ17.trans (xσ18.trans xτ15))) (by decide)).2.1
                  refine ⟨b, (kp21.trans eb), fun kk_b_2 => ?_⟩
                  have q22 := (xσ23 b mb.1).2.2
                  refine ⟨⟨by (first | omega | with_reducible assumption | with_reducible exact rng_toInt _ | with_reducible exact rng_wr _ | (unfold rng; omega) | (unfold rng at *; omega) | assumption), by (first | omega | with_reducible assumption | with_reducible exact rng_toInt _ | with_reducible exact rng_wr _ | (unfold rng; omega) | (unfold rng at *; omega) | assumption)⟩, ?_⟩
                  refine i_X4_pop iσ23 (kth.up (xσ17.trans (xσ18.trans (xτ15.trans xσ23)))) (fun σ26 r27 iσ26 cσ26 pσ26 => ?_)
                  intro xσ26
                  have fσ26 : Fx [265, 266, 6464] gr σ σ26 := fσ23.tr (cσ26.mo (by decide))
                  have kp23 : gI σ26 th 10 = gI σ23 th 10 := (cσ26.O (kth.up (xσ17.trans (xσ18.trans (xτ15.trans xσ23)))) (by decide)).1
                  have kp24 : gI σ26 th 7 = gI σ23 th 7 := (cσ26.O (kth.up (xσ17.trans (xσ18.trans (xτ15.trans xσ23)))) (by decide)).1
                  have kp25 : gP σ26 th 5 = gP σ23 th 5 := (cσ26.O (kth.up (xσ17.trans (xσ18.trans (xτ15.trans xσ23)))) (by decide)).2.1
                  have q26 := iσ23.rg b v3.toNat; unfold rng at q26
                  refine i_X4_calculate iσ26 (kth.up (xσ17.trans (xσ18.trans (xτ15.trans (xσ23.trans xσ26))))) (fun σ28 r29 iσ28 cσ28 pσ28 => ?_)
                  intro xσ28
                  have fσ28 : Fx [265, 266, 6464] gr σ σ28 := fσ26.tr (cσ28.mo (by decide))
                  have kp27 : gI σ28 th 7 = gI σ26 th 7 := (cσ28.O (kth.up (xσ17.trans (xσ18.trans (xτ15.trans (xσ23.trans xσ26))))) (by decide)).1
                  have kp28 : gP σ28 th 5 = gP σ26 th 5 := (cσ28.O (kth.up (xσ17.trans (xσ18.trans (xτ15.trans (xσ23.trans xσ26))))) (by decide)).2.1
                  refine i_X4_push iσ28 (kth.up (xσ17.trans (xσ18.trans (xτ15.trans (xσ23.trans (xσ26.trans xσ28)))))) (fun σ30 _ iσ30 cσ30 pσ30 => ?_)
                  intro xσ30
                  have fσ30 : Fx [265, 266, 6464] gr σ σ30 := fσ28.tr (cσ30.mo (by decide))
                  have kp29 : gI σ30 th 7 = gI σ28 th 7 := (cσ30.O (kth.up (xσ17.trans (xσ18.trans (xτ15.trans (xσ23.trans (xσ26.trans xσ28)))))) (by decide)).1
                  have kp30 : gP σ30 th 5 = gP σ28 th 5 := (cσ30.O (kth.up (xσ17.trans (xσ18.trans (xτ15.trans (xσ23.trans (xσ26.trans xσ28)))))) (by decide)).2.1
                  refine ⟨by (first | omega | with_reducible assumption | with_reducible exact rng_toInt _ | with_reducible exact rng_wr _ | (unfold rng; omega) | (unfold rng at *; omega) | assumption), ?_⟩
                  unfold w_X4_value_102
                  refine ⟨by (first | omega | with_reducible assumption | with_reducible exact rng_toInt _ | with_reducible exact rng_wr _ | (unfold rng; omega) | (unfold rng at *; omega) | assumption), ?_⟩
                  exact ih15 σ30 (v3 + 1) (v4 + 1) iσ30 fσ30 (xτ15.trans (xσ23.trans (xσ26.trans (xσ28.trans xσ30)))) (by (first | omega | with_reducible assumption | with_reducible exact rng_toInt _ | with_reducible exact rng_wr _ | (unfold rng; omega) | (unfold rng at *; omega) | assumption)) (by (first | omega | with_reducible assumption | with_reducible exact rng_toInt _ | with_reducible exact rng_wr _ | (unfold rng; omega) | (unfold rng at *; omega) | assumption))
                · rw [if_neg hc18]
                  unfold w_X4_value_63
                  refine i_X4_step iτ15 (kth.up (xσ17.trans (xσ18.trans xτ15))) hv2 (kc2.up (xσ17.trans (xσ18.trans xτ15))) (by (first | omega | with_reducible assumption | with_reducible exact rng_toInt _ | with_reducible exact rng_wr _ | (unfold rng; omega) | (unfold rng at *; omega) | assumption)) (fun σ21 r22 iσ21 cσ21 pσ21 => ?_)
                  intro xσ21
                  have fσ21 : Fx [265, 266, 6464] gr σ σ21 := fτ15.tr (cσ21.mo (by decide))
                  have kp31 : gI σ21 th 10 = gI τ15 th 10 := (cσ21.O (kth.up (xσ17.trans (xσ18.trans xτ15))) (by decide)).1
                  have kp32 : gI σ21 th 7 = gI τ15 th 7 := (cσ21.O (kth.up (xσ17.trans (xσ18.trans xτ15))) (by decide)).1
                  have kp33 : gP σ21 th 5 = gP τ15 th 5 := (cσ21.O (kth.up (xσ17.trans (xσ18.trans xτ15))) (by decide)).2.1
                  unfold w_X4_value_102
                  refine ⟨by (first | omega | with_reducible assumption | with_reducible exact rng_toInt _ | with_reducible exact rng_wr _ | (unfold rng; omega) | (unfold rng at *; omega) | assumption), ?_⟩
                  exact ih15 σ21 r22 (v4 + 1) iσ21 fσ21 (xτ15.trans xσ21) (by (first | omega | with_reducible assumption | with_reducible exact rng_toInt _ | with_reducible exact rng_wr _ | (unfold rng; omega) | (unfold rng at *; omega) | assumption)) (by (first | omega | with_reducible assumption | with_reducible exact rng_toInt _ | with_reducible exact rng_wr _ | (unfold rng; omega) | (unfold rng at *; omega) | assumption))
  exact ⟨_, Lp15 _ σ18 _ _ iσ18 fσ18 (Ext.rfl' _) (by (first | omega | with_reducible assumption | with_reducible exact rng_toInt _ | with_reducible exact rng_wr _ | (unfold rng; omega) | (unfold rng at *; omega) | assumption)) (Nat.lt_succ_self _)⟩
set_option maxHeartbeats 1000000 in
theorem i_X4_outputOp {σ : Sg} {pl : Nat} {gq ci gr nc : Nat → Nat} {ot : Nat → Nat → Int} {LL : Nat → List Nat} {N nu : Nat → Nat} {th : Nat} {v1 : Int} (iσ : IV σ pl gq ci gr nc ot LL N nu) (kth : kO σ th 4) (h1 : 0 ≤ v1 ∧ v1 < 4) {Q : Sg → Option Nat → Prop} {X : Sg → String → Prop} (hQ : ∀ (co : Nat), (True) → Q σ (some co)) : wp_X4_outputOp th v1 σ Q X := by
  unfold wp_X4_outputOp
  unfold w_X4_outputOp_0
  obtain ⟨b, eb, fb⟩ := P_4_3 iσ.1 kth
  have mb : kO σ b 100 := iσ.1.kd kth rfl eb rfl
  refine ⟨b, eb, fun kk_b => ?_⟩
  refine ⟨⟨by (first | omega | with_reducible assumption | with_reducible exact rng_toInt _ | with_reducible exact rng_wr _ | (unfold rng; omega) | (unfold rng at *; omega) | assumption), by (first | omega | with_reducible assumption | with_reducible exact rng_toInt _ | with_reducible exact rng_wr _ | (unfold rng; omega) | (unfold rng at *; omega) | assumption)⟩, ?_⟩
  obtain ⟨b_1, eb_1, fb_1⟩ := P_4_0 iσ.1 kth
  have mb_1 : kO σ b_1 115 := iσ.1.kd kth rfl eb_1 rfl
  refine ⟨b_1, eb_1, fun kk_b_1 => ?_⟩
  have q1 := I_131 iσ.1 mb (by omega) v1.toNat
  refine ⟨⟨by (first | omega | with_reducible assumption | with_reducible exact rng_toInt _ | with_reducible exact rng_wr _ | (unfold rng; omega) | (unfold rng at *; omega) | assumption), by (first | omega | with_reducible assumption | with_reducible exact rng_toInt _ | with_reducible exact rng_wr _ | (unfold rng; omega) | (unfold rng at *; omega) | assumption)⟩, ?_⟩
  obtain ⟨b_2, eb_2⟩ := P_115 iσ.1 mb_1 (k := (gI σ b v1.toNat).toNat) (by (first | omega | with_reducible assumption | with_reducible exact rng_toInt _ | with_reducible exact rng_wr _ | (unfold rng; omega) | (unfold rng at *; omega) | assumption))
  have fb_2 := T_115 iσ.1 mb_1 eb_2
  have mb_2 : kO σ b_2 5 := iσ.1.kd mb_1 rfl eb_2 rfl
  rw [show (gP σ b_1 (gI σ b v1.toNat).toNat) = some b_2 from eb_2]
  exact hQ b_2 (trivial)
set_option maxHeartbeats 1000000 in
theorem i_X4_readInto {σ : Sg} {pl : Nat} {gq ci gr nc : Nat → Nat} {ot : Nat → Nat → Int} {LL : Nat → List Nat} {N nu : Nat → Nat} {th : Nat} {v1 : Option Nat} {v2 : Int} {v3 : Int} (iσ : IV σ pl gq ci gr nc ot LL N nu) (kth : kO σ th 4) {c1 : Nat} (hv1 : v1 = some c1) (kc1 : kO σ c1 0) (h2 : 0 ≤ v2 ∧ v2 < 4) (h3 : 0 ≤ v3 ∧ v3 < 64) {Q : Sg → Unit → Prop} {X : Sg → String → Prop} (hQ : ∀ (σ' : Sg) (r : Unit), IV σ' pl gq ci gr nc ot LL N nu → Fx [5, 6464] gr σ σ' → (True) → Q σ' r) : wp_X4_readInto th v1 v2 v3 σ Q X := by
  have fσ : Fx [5, 6464] gr σ σ := Fx.rf
  unfold wp_X4_readInto
  unfold w_X4_readInto_0
  refine ⟨by (first | omega | with_reducible assumption | with_reducible exact rng_toInt _ | with_reducible exact rng_wr _ | (unfold rng; omega) | (unfold rng at *; omega) | assumption), ?_⟩
  obtain ⟨b, eb, fb⟩ := P_4_11 iσ.1 kth
  have mb : kO σ b 200 := iσ.1.kd kth rfl eb rfl
  refine ⟨b, eb, fun kk_b => ?_⟩
  refine ⟨⟨by (first | omega | with_reducible assumption | with_reducible exact rng_toInt _ | with_reducible exact rng_wr _ | (unfold rng; omega) | (unfold rng at *; omega) | assumption), by (first | omega | with_reducible assumption | with_reducible exact rng_toInt _ | with_reducible exact rng_wr _ | (unfold rng; omega) | (unfold rng at *; omega) | assumption)⟩, ?_⟩
  obtain ⟨b_1, eb_1⟩ := P_200 iσ.1 mb (k := v2.toNat) (by (first | omega | with_reducible assumption | with_reducible exact rng_toInt _ | with_reducible exact rng_wr _ | (unfold rng; omega) | (unfold rng at *; omega) | assumption))
  have fb_1 := T_200 iσ.1 mb eb_1
  have mb_1 : kO σ b_1 101 := iσ.1.kd mb rfl eb_1 rfl
  refine ⟨b_1, eb_1, fun kk_b_1 => ?_⟩
  refine ⟨⟨by (first | omega | with_reducible assumption | with_reducible exact rng_toInt _ | with_reducible exact rng_wr _ | (unfold rng; omega) | (unfold rng at *; omega) | assumption), by (first | omega | with_reducible assumption | with_reducible exact rng_toInt _ | with_reducible exact rng_wr _ | (unfold rng; omega) | (unfold rng at *; omega) | assumption)⟩, ?_⟩
  refine ⟨c1, hv1, fun kk_c1 => ?_⟩
  intro σ12 eσ12
  have xσ12 : Ext σ σ12 := by rw [eσ12]; exact fun _ h => ⟨h, rfl, rfl⟩
  have iσ12 : IV σ12 pl gq ci gr nc ot LL N nu := by rw [eσ12]; exact iσ.wT kc1 (by decide) (iσ.tg mb_1 (by omega) (by omega))
  have fσ12 : Fx [5, 6464] gr σ σ12 := fσ.tr (Sk.fx (by rw [eσ12]; exact Sk.pJ (by rw [fcdO kc1 (by decide)]; decide)))
  have kp1 : gP σ12 b v2.toNat = gP σ b v2.toNat := by rw [eσ12]
  have kp2 : gP σ12 th 11 = gP σ th 11 := by rw [eσ12]
  refine ⟨b, (kp2.trans eb), fun kk_b_2 => ?_⟩
  have q3 := (xσ12 b mb.1).2.2
  refine ⟨⟨by (first | omega | with_reducible assumption | with_reducible exact rng_toInt _ | with_reducible exact rng_wr _ | (unfold rng; omega) | (unfold rng at *; omega) | assumption), by (first | omega | with_reducible assumption | with_reducible exact rng_toInt _ | with_reducible exact rng_wr _ | (unfold rng; omega) | (unfold rng at *; omega) | assumption)⟩, ?_⟩
  refine ⟨by (first | omega | with_reducible assumption | with_reducible exact rng_toInt _ | with_reducible exact rng_wr _ | (unfold rng; omega) | (unfold rng at *; omega) | assumption), ?_⟩
  refine ⟨b_1, (kp1.trans eb_1), fun kk_b_1_1 => ?_⟩
  obtain ⟨b_2, eb_2, fb_2⟩ := P_0_0 iσ12.1 (kc1.up xσ12)
  have mb_2 : kO σ12 b_2 101 := iσ12.1.kd (kc1.up xσ12) rfl eb_2 rfl
  refine ⟨b_2, eb_2, fun kk_b_2_1 => ?_⟩
  have q4 := (xσ12 b_1 mb_1.1).2.2
  refine ⟨⟨⟨by (first | omega | with_reducible assumption | with_reducible exact rng_toInt _ | with_reducible exact rng_wr _ | (unfold rng; omega) | (unfold rng at *; omega) | assumption), by (first | omega | with_reducible assumption | with_reducible exact rng_toInt _ | with_reducible exact rng_wr _ | (unfold rng; omega) | (unfold rng at *; omega) | assumption), by (first | omega | with_reducible assumption | with_reducible exact rng_toInt _ | with_reducible exact rng_wr _ | (unfold rng; omega) | (unfold rng at *; omega) | assumption)⟩, by (first | omega | with_reducible assumption | with_reducible exact rng_toInt _ | with_reducible exact rng_wr _ | (unfold rng; omega) | (unfold rng at *; omega) | assumption), by (first | omega | with_reducible assumption | with_reducible exact rng_toInt _ | with_reducible exact rng_wr _ | (unfold rng; omega) | (unfold rng at *; omega) | assumption)⟩, ?_⟩
  intro σ16 eσ16
  have xσ16 : Ext σ12 σ16 := by rw [eσ16]; exact fun _ h => ⟨h, rfl, rfl⟩
  have iσ16 : IV σ16 pl gq ci gr nc ot LL N nu := by rw [eσ16]; exact iσ12.wC mb_2 (by omega)
  have fσ16 : Fx [5, 6464] gr σ σ16 := fσ12.tr (Sk.fx (by rw [eσ16]; exact Sk.cpJ (fun _ => by rw [fcdA mb_2 (by decide)]; decide)))
  have kp5 : gP σ16 b v2.toNat = gP σ12 b v2.toNat := by rw [eσ16]; rfl
  have kp6 : gP σ16 c1 0 = gP σ12 c1 0 := by rw [eσ16]; rfl
  have kp7 : gP σ16 th 11 = gP σ12 th 11 := by rw [eσ16]; rfl
  exact hQ σ16 () iσ16 fσ16 (trivial)
set_option maxHeartbeats 1000000 in
theorem i_X8_membersOf {σ : Sg} {pl : Nat} {gq ci gr nc : Nat → Nat} {ot : Nat → Nat → Int} {LL : Nat → List Nat} {N nu : Nat → Nat} {th : Nat} {v1 : Int} (iσ : IV σ pl gq ci gr nc ot LL N nu) (kth : kO σ th 8) (h1 : v1 < nu 2) {Q : Sg → Int → Prop} {X : Sg → String → Prop} (hQ : ∀ (r : Int), (True) → Q σ r) : wp_X8_membersOf th v1 σ Q X := by
  have qn := iσ.nu2
  unfold wp_X8_membersOf
  unfold w_X8_membersOf_0
  have Lp4 : ∀ (fu4 : Nat) (v2 : Int) (v3 : Int), (0 ≤ v3 ∧ v3 ≤ 4) → ((4 - v3).toNat) < fu4 → wl_X8_membersOf_4 th Q X fu4 σ v1 v2 v3 := by
    intro fu4
    induction fu4 with
    | zero => intro _ _ _ h9; omega
    | succ fu4 ih4 =>
      intro v2 v3 hi4 hm4
      unfold wl_X8_membersOf_4
      unfold w_X8_membersOf_4
      by_cases hc1 : v3 ≥ 4
      · rw [if_pos hc1]
        unfold w_X8_membersOf_35
        exact hQ v2 (trivial)
      · rw [if_neg hc1]
        unfold w_X8_membersOf_9
        by_cases hc2 : v1 < 0
        · rw [if_pos hc2]
          unfold w_X8_membersOf_35
          exact hQ v2 (trivial)
        · rw [if_neg hc2]
          unfold w_X8_membersOf_13
          refine ⟨by (first | omega | with_reducible assumption | with_reducible exact rng_toInt _ | with_reducible exact rng_wr _ | (unfold rng; omega) | (unfold rng at *; omega) | assumption), ?_⟩
          refine ⟨by (first | omega | with_reducible assumption | with_reducible exact rng_toInt _ | with_reducible exact rng_wr _ | (unfold rng; omega) | (unfold rng at *; omega) | assumption), ?_⟩
          obtain ⟨b, eb, fb⟩ := P_8_2 iσ.1 kth
          have mb : kO σ b 101 := iσ.1.kd kth rfl eb rfl
          refine ⟨b, eb, fun kk_b => ?_⟩
          refine ⟨⟨by (first | omega | with_reducible assumption | with_reducible exact rng_toInt _ | with_reducible exact rng_wr _ | (unfold rng; omega) | (unfold rng at *; omega) | assumption), by (first | omega | with_reducible assumption | with_reducible exact rng_toInt _ | with_reducible exact rng_wr _ | (unfold rng; omega) | (unfold rng at *; omega) | assumption)⟩, ?_⟩
          refine i_J13_bitCount_95d88 iσ (fun r6 pσ5 => ?_)
          intro xσ5
          refine ⟨by (first | omega | with_reducible assumption | with_reducible exact rng_toInt _ | with_reducible exact rng_wr _ | (unfold rng; omega) | (unfold rng at *; omega) | assumption), ?_⟩
          exact ih4 (wr (v2 + r6)) (v3 + 1) (by (first | omega | with_reducible assumption | with_reducible exact rng_toInt _ | with_reducible exact rng_wr _ | (unfold rng; omega) | (unfold rng at *; omega) | assumption)) (by (first | omega | with_reducible assumption | with_reducible exact rng_toInt _ | with_reducible exact rng_wr _ | (unfold rng; omega) | (unfold rng at *; omega) | assumption))
  exact ⟨_, Lp4 _ _ _ (by (first | omega | with_reducible assumption | with_reducible exact rng_toInt _ | with_reducible exact rng_wr _ | (unfold rng; omega) | (unfold rng at *; omega) | assumption)) (Nat.lt_succ_self _)⟩
set_option maxHeartbeats 1000000 in
theorem i_X8_memberOf {σ : Sg} {pl : Nat} {gq ci gr nc : Nat → Nat} {ot : Nat → Nat → Int} {LL : Nat → List Nat} {N nu : Nat → Nat} {th : Nat} {v1 : Int} {v2 : Int} (iσ : IV σ pl gq ci gr nc ot LL N nu) (kth : kO σ th 8) (h1 : v1 < nu 2) {Q : Sg → Int → Prop} {X : Sg → String → Prop} (hQ : ∀ (r : Int), (True) → Q σ r) : wp_X8_memberOf th v1 v2 σ Q X := by
  have qn := iσ.nu2
  unfold wp_X8_memberOf
  unfold w_X8_memberOf_0
  have Lp5 : ∀ (fu5 : Nat) (v3 : Int) (v4 : Int), (0 ≤ v4 ∧ v4 ≤ 256 ∧ 0 ≤ v3 ∧ v3 ≤ v4) → ((256 - v4).toNat) < fu5 → wl_X8_memberOf_5 th Q X fu5 σ v1 v2 v3 v4 := by
    intro fu5
    induction fu5 with
    | zero => intro _ _ _ h9; omega
    | succ fu5 ih5 =>
      intro v3 v4 hi5 hm5
      unfold wl_X8_memberOf_5
      unfold w_X8_memberOf_5
      by_cases hc1 : v4 ≥ 256
      · rw [if_pos hc1]
        unfold w_X8_memberOf_65
        exact hQ (-1) (trivial)
      · rw [if_neg hc1]
        unfold w_X8_memberOf_13
        by_cases hc2 : v1 < 0
        · rw [if_pos hc2]
          unfold w_X8_memberOf_65
          exact hQ (-1) (trivial)
        · rw [if_neg hc2]
          unfold w_X8_memberOf_17
          by_cases hc3 : v2 < 0
          · rw [if_pos hc3]
            unfold w_X8_memberOf_65
            exact hQ (-1) (trivial)
          · rw [if_neg hc3]
            unfold w_X8_memberOf_21
            refine ⟨by (first | omega | with_reducible assumption | with_reducible exact rng_toInt _ | with_reducible exact rng_wr _ | (unfold rng; omega) | (unfold rng at *; omega) | assumption), ?_⟩
            have q4 := divI_b (x := v4) (y := 64) (by (first | omega | with_reducible assumption | with_reducible exact rng_toInt _ | with_reducible exact rng_wr _ | (unfold rng; omega) | (unfold rng at *; omega) | assumption)) (by (first | omega | with_reducible assumption | with_reducible exact rng_toInt _ | with_reducible exact rng_wr _ | (unfold rng; omega) | (unfold rng at *; omega) | assumption))
            refine ⟨by (first | omega | with_reducible assumption | with_reducible exact rng_toInt _ | with_reducible exact rng_wr _ | (unfold rng; omega) | (unfold rng at *; omega) | assumption), ?_⟩
            obtain ⟨b, eb, fb⟩ := P_8_2 iσ.1 kth
            have mb : kO σ b 101 := iσ.1.kd kth rfl eb rfl
            refine ⟨b, eb, fun kk_b => ?_⟩
            refine ⟨⟨by (first | omega | with_reducible assumption | with_reducible exact rng_toInt _ | with_reducible exact rng_wr _ | (unfold rng; omega) | (unfold rng at *; omega) | assumption), by (first | omega | with_reducible assumption | with_reducible exact rng_toInt _ | with_reducible exact rng_wr _ | (unfold rng; omega) | (unfold rng at *; omega) | assumption)⟩, ?_⟩
            have q6 := remI_b (x := v4) (y := 64) (by (first | omega | with_reducible assumption | with_reducible exact rng_toInt _ | with_reducible exact rng_wr _ | (unfold rng; omega) | (unfold rng at *; omega) | assumption)) (by (first | omega | with_reducible assumption | with_reducible exact rng_toInt _ | with_reducible exact rng_wr _ | (unfold rng; omega) | (unfold rng at *; omega) | assumption))
            by_cases hc5 : ((((gJ σ b ((v1 * 4) + (divI v4 64)).toNat)).toUInt64 >>> ((i32 (remI v4 64)).toInt64.toUInt64 &&& Int64.toUInt64 63)).toInt64 &&& 1) = 0
            · rw [if_pos hc5]
              unfold w_X8_memberOf_59
              refine ⟨by (first | omega | with_reducible assumption | with_reducible exact rng_toInt _ | with_reducible exact rng_wr _ | (unfold rng; omega) | (unfold rng at *; omega) | assumption), ?_⟩
              exact ih5 v3 (v4 + 1) (by (first | omega | with_reducible assumption | with_reducible exact rng_toInt _ | with_reducible exact rng_wr _ | (unfold rng; omega) | (unfold rng at *; omega) | assumption)) (by (first | omega | with_reducible assumption | with_reducible exact rng_toInt _ | with_reducible exact rng_wr _ | (unfold rng; omega) | (unfold rng at *; omega) | assumption))
            · rw [if_neg hc5]
              unfold w_X8_memberOf_48
              by_cases hc7 : v3 ≠ v2
              · rw [if_pos hc7]
                unfold w_X8_memberOf_56
                refine ⟨by (first | omega | with_reducible assumption | with_reducible exact rng_toInt _ | with_reducible exact rng_wr _ | (unfold rng; omega) | (unfold rng at *; omega) | assumption), ?_⟩
                unfold w_X8_memberOf_59
                refine ⟨by (first | omega | with_reducible assumption | with_reducible exact rng_toInt _ | with_reducible exact rng_wr _ | (unfold rng; omega) | (unfold rng at *; omega) | assumption), ?_⟩
                exact ih5 (v3 + 1) (v4 + 1) (by (first | omega | with_reducible assumption | with_reducible exact rng_toInt _ | with_reducible exact rng_wr _ | (unfold rng; omega) | (unfold rng at *; omega) | assumption)) (by (first | omega | with_reducible assumption | with_reducible exact rng_toInt _ | with_reducible exact rng_wr _ | (unfold rng; omega) | (unfold rng at *; omega) | assumption))
              · rw [if_neg hc7]
                have hc7q := Classical.not_not.mp hc7
                unfold w_X8_memberOf_53
                exact hQ v4 (trivial)
  exact ⟨_, Lp5 _ _ _ (by (first | omega | with_reducible assumption | with_reducible exact rng_toInt _ | with_reducible exact rng_wr _ | (unfold rng; omega) | (unfold rng at *; omega) | assumption)) (Nat.lt_succ_self _)⟩
set_option maxHeartbeats 1000000 in
theorem i_X2_ofChannel {σ : Sg} {pl : Nat} {gq ci gr nc : Nat → Nat} {ot : Nat → Nat → Int} {LL : Nat → List Nat} {N nu : Nat → Nat} {th : Nat} {v1 : Int} (iσ : IV σ pl gq ci gr nc ot LL N nu) (kth : kO σ th 2) {Q : Sg → Int64 → Prop} {X : Sg → String → Prop} (hQ : ∀ (r : Int64), (True) → Q σ r) : wp_X2_ofChannel th v1 σ Q X := by
  unfold wp_X2_ofChannel
  unfold w_X2_ofChannel_0
  by_cases hc1 : v1 = 0
  · rw [if_pos hc1]
    unfold w_X2_ofChannel_36
    have q2 := iσ.rg th 1; unfold rng at q2
    exact hQ (Int64.ofInt (gI σ th 1)) (trivial)
  · rw [if_neg hc1]
    by_cases hc3 : v1 = 1
    · rw [if_pos hc3]
      unfold w_X2_ofChannel_42
      have q4 := iσ.rg th 2; unfold rng at q4
      exact hQ (Int64.ofInt (gI σ th 2)) (trivial)
    · rw [if_neg hc3]
      by_cases hc5 : v1 = 2
      · rw [if_pos hc5]
        unfold w_X2_ofChannel_48
        obtain ⟨b, eb, fb⟩ := P_2_0 iσ.1 kth
        have mb : kO σ b 1 := iσ.1.kd kth rfl eb rfl
        refine ⟨b, eb, fun kk_b => ?_⟩
        have q6 := iσ.size mb
        have qz6 := iσ.sz mb.1
        exact hQ (Int64.ofInt (gI σ b 2)) (trivial)
      · rw [if_neg hc5]
        by_cases hc7 : v1 = 3
        · rw [if_pos hc7]
          unfold w_X2_ofChannel_57
          exact hQ (gJ σ th 4) (trivial)
        · rw [if_neg hc7]
          by_cases hc8 : v1 = 4
          · rw [if_pos hc8]
            unfold w_X2_ofChannel_62
            have q10 := I_2_5 iσ.1 kth
            by_cases hc9 : gI σ th 5 = 0
            · rw [if_pos hc9]
              unfold w_X2_ofChannel_73
              unfold w_X2_ofChannel_74
              exact hQ 0 (trivial)
            · rw [if_neg hc9]
              unfold w_X2_ofChannel_69
              unfold w_X2_ofChannel_74
              exact hQ 1 (trivial)
          · rw [if_neg hc8]
            unfold w_X2_ofChannel_75
            have q11 := iσ.rg th 6; unfold rng at q11
            exact hQ (Int64.ofInt (gI σ th 6)) (trivial)
set_option maxHeartbeats 1000000 in
theorem i_X12_isKeyed {σ : Sg} {pl : Nat} {gq ci gr nc : Nat → Nat} {ot : Nat → Nat → Int} {LL : Nat → List Nat} {N nu : Nat → Nat} {v0 : Int} (iσ : IV σ pl gq ci gr nc ot LL N nu) {Q : Sg → Int → Prop} {X : Sg → String → Prop} (hQ : ∀ (r : Int), ((r = 0 ∨ r = 1) ∧ (r = 1 → 4 ≤ v0 ∧ v0 ≤ 9)) → Q σ r) : wp_X12_isKeyed v0 σ Q X := by
  unfold wp_X12_isKeyed
  unfold w_X12_isKeyed_0
  by_cases hc1 : v0 < 4
  · rw [if_pos hc1]
    unfold w_X12_isKeyed_15
    unfold w_X12_isKeyed_16
    refine ⟨by (first | omega | with_reducible assumption | with_reducible exact rng_toInt _ | with_reducible exact rng_wr _ | (unfold rng; omega) | (unfold rng at *; omega) | assumption), ?_⟩
    exact hQ 0 (by (first | omega | with_reducible assumption | with_reducible exact rng_toInt _ | with_reducible exact rng_wr _ | (unfold rng; omega) | (unfold rng at *; omega) | assumption))
  · rw [if_neg hc1]
    unfold w_X12_isKeyed_5
    by_cases hc2 : v0 > 9
    · rw [if_pos hc2]
      unfold w_X12_isKeyed_15
      unfold w_X12_isKeyed_16
      refine ⟨by (first | omega | with_reducible assumption | with_reducible exact rng_toInt _ | with_reducible exact rng_wr _ | (unfold rng; omega) | (unfold rng at *; omega) | assumption), ?_⟩
      exact hQ 0 (by (first | omega | with_reducible assumption | with_reducible exact rng_toInt _ | with_reducible exact rng_wr _ | (unfold rng; omega) | (unfold rng at *; omega) | assumption))
    · rw [if_neg hc2]
      unfold w_X12_isKeyed_11
      unfold w_X12_isKeyed_16
      refine ⟨by (first | omega | with_reducible assumption | with_reducible exact rng_toInt _ | with_reducible exact rng_wr _ | (unfold rng; omega) | (unfold rng at *; omega) | assumption), ?_⟩
      exact hQ 1 (by (first | omega | with_reducible assumption | with_reducible exact rng_toInt _ | with_reducible exact rng_wr _ | (unfold rng; omega) | (unfold rng at *; omega) | assumption))
set_option maxHeartbeats 1000000 in
theorem i_X12_hasOneTask {σ : Sg} {pl : Nat} {gq ci gr nc : Nat → Nat} {ot : Nat → Nat → Int} {LL : Nat → List Nat} {N nu : Nat → Nat} {v0 : Int} (iσ : IV σ pl gq ci gr nc ot LL N nu) {Q : Sg → Int → Prop} {X : Sg → String → Prop} (hQ : ∀ (r : Int), ((r = 0 ∨ r = 1) ∧ (r = 1 ↔ (v0 = 0 ∨ v0 = 10 ∨ v0 = 11))) → Q σ r) : wp_X12_hasOneTask v0 σ Q X := by
  unfold wp_X12_hasOneTask
  unfold w_X12_hasOneTask_0
  by_cases hc1 : v0 = 0
  · rw [if_pos hc1]
    unfold w_X12_hasOneTask_16
    unfold w_X12_hasOneTask_21
    refine ⟨by (first | omega | with_reducible assumption | with_reducible exact rng_toInt _ | with_reducible exact rng_wr _ | (unfold rng; omega) | (unfold rng at *; omega) | assumption), ?_⟩
    exact hQ 1 (by (first | omega | with_reducible assumption | with_reducible exact rng_toInt _ | with_reducible exact rng_wr _ | (unfold rng; omega) | (unfold rng at *; omega) | assumption))
  · rw [if_neg hc1]
    unfold w_X12_hasOneTask_4
    by_cases hc2 : v0 = 10
    · rw [if_pos hc2]
      unfold w_X12_hasOneTask_16
      unfold w_X12_hasOneTask_21
      refine ⟨by (first | omega | with_reducible assumption | with_reducible exact rng_toInt _ | with_reducible exact rng_wr _ | (unfold rng; omega) | (unfold rng at *; omega) | assumption), ?_⟩
      exact hQ 1 (by (first | omega | with_reducible assumption | with_reducible exact rng_toInt _ | with_reducible exact rng_wr _ | (unfold rng; omega) | (unfold rng at *; omega) | assumption))
    · rw [if_neg hc2]
      unfold w_X12_hasOneTask_10
      by_cases hc3 : v0 ≠ 11
      · rw [if_pos hc3]
        unfold w_X12_hasOneTask_20
        unfold w_X12_hasOneTask_21
        refine ⟨by (first | omega | with_reducible assumption | with_reducible exact rng_toInt _ | with_reducible exact rng_wr _ | (unfold rng; omega) | (unfold rng at *; omega) | assumption), ?_⟩
        exact hQ 0 (by (first | omega | with_reducible assumption | with_reducible exact rng_toInt _ | with_reducible exact rng_wr _ | (unfold rng; omega) | (unfold rng at *; omega) | assumption))
      · rw [if_neg hc3]
        have hc3q := Classical.not_not.mp hc3
        unfold w_X12_hasOneTask_16
        unfold w_X12_hasOneTask_21
        refine ⟨by (first | omega | with_reducible assumption | with_reducible exact rng_toInt _ | with_reducible exact rng_wr _ | (unfold rng; omega) | (unfold rng at *; omega) | assumption), ?_⟩
        exact hQ 1 (by (first | omega | with_reducible assumption | with_reducible exact rng_toInt _ | with_reducible exact rng_wr _ | (unfold rng; omega) | (unfold rng at *; omega) | assumption))
set_option maxHeartbeats 1000000 in
theorem i_X11_orderOf {σ : Sg} {pl : Nat} {gq ci gr nc : Nat → Nat} {ot : Nat → Nat → Int} {LL : Nat → List Nat} {N nu : Nat → Nat} {v0 : Int} {v1 : Int} (iσ : IV σ pl gq ci gr nc ot LL N nu) {Q : Sg → Int → Prop} {X : Sg → String → Prop} (hQ : ∀ (r : Int), (True) → Q σ r) : wp_X11_orderOf v0 v1 σ Q X := by
  unfold wp_X11_orderOf
  unfold w_X11_orderOf_0
  by_cases hc1 : v0 = 7
  · rw [if_pos hc1]
    unfold w_X11_orderOf_34
    exact hQ 1 (trivial)
  · rw [if_neg hc1]
    by_cases hc2 : v0 = 8
    · rw [if_pos hc2]
      unfold w_X11_orderOf_36
      by_cases hc3 : v1 ≠ 0
      · rw [if_pos hc3]
        unfold w_X11_orderOf_44
        unfold w_X11_orderOf_45
        exact hQ 0 (trivial)
      · rw [if_neg hc3]
        have hc3q := Classical.not_not.mp hc3
        unfold w_X11_orderOf_40
        unfold w_X11_orderOf_45
        exact hQ 1 (trivial)
    · rw [if_neg hc2]
      by_cases hc4 : v0 = 9
      · rw [if_pos hc4]
        unfold w_X11_orderOf_36
        by_cases hc5 : v1 ≠ 0
        · rw [if_pos hc5]
          unfold w_X11_orderOf_44
          unfold w_X11_orderOf_45
          exact hQ 0 (trivial)
        · rw [if_neg hc5]
          have hc5q := Classical.not_not.mp hc5
          unfold w_X11_orderOf_40
          unfold w_X11_orderOf_45
          exact hQ 1 (trivial)
      · rw [if_neg hc4]
        by_cases hc6 : v0 = 10
        · rw [if_pos hc6]
          unfold w_X11_orderOf_32
          exact hQ 3 (trivial)
        · rw [if_neg hc6]
          unfold w_X11_orderOf_46
          exact hQ 0 (trivial)
set_option maxHeartbeats 1000000 in
theorem i_X6_isSign {σ : Sg} {pl : Nat} {gq ci gr nc : Nat → Nat} {ot : Nat → Nat → Int} {LL : Nat → List Nat} {N nu : Nat → Nat} {th : Nat} {v1 : Int} (iσ : IV σ pl gq ci gr nc ot LL N nu) (kth : kO σ th 6) {Q : Sg → Int → Prop} {X : Sg → String → Prop} (hQ : ∀ (r : Int), ((r = 0 ∨ r = 1) ∧ (r = 1 → gI σ th 3 = 5)) → Q σ r) : wp_X6_isSign th v1 σ Q X := by
  unfold wp_X6_isSign
  unfold w_X6_isSign_0
  have q2 := iσ.rg th 3; unfold rng at q2
  by_cases hc1 : gI σ th 3 ≠ 5
  · rw [if_pos hc1]
    unfold w_X6_isSign_22
    unfold w_X6_isSign_23
    refine ⟨by (first | omega | with_reducible assumption | with_reducible exact rng_toInt _ | with_reducible exact rng_wr _ | (unfold rng; omega) | (unfold rng at *; omega) | assumption), ?_⟩
    exact hQ 0 (by (first | omega | with_reducible assumption | with_reducible exact rng_toInt _ | with_reducible exact rng_wr _ | (unfold rng; omega) | (unfold rng at *; omega) | assumption))
  · rw [if_neg hc1]
    have hc1q := Classical.not_not.mp hc1
    unfold w_X6_isSign_8
    by_cases hc3 : gJ σ th 4 ≠ (Int64.ofInt v1)
    · rw [if_pos hc3]
      unfold w_X6_isSign_22
      unfold w_X6_isSign_23
      refine ⟨by (first | omega | with_reducible assumption | with_reducible exact rng_toInt _ | with_reducible exact rng_wr _ | (unfold rng; omega) | (unfold rng at *; omega) | assumption), ?_⟩
      exact hQ 0 (by (first | omega | with_reducible assumption | with_reducible exact rng_toInt _ | with_reducible exact rng_wr _ | (unfold rng; omega) | (unfold rng at *; omega) | assumption))
    · rw [if_neg hc3]
      have hc3q := Classical.not_not.mp hc3
      unfold w_X6_isSign_18
      unfold w_X6_isSign_23
      refine ⟨by (first | omega | with_reducible assumption | with_reducible exact rng_toInt _ | with_reducible exact rng_wr _ | (unfold rng; omega) | (unfold rng at *; omega) | assumption), ?_⟩
      exact hQ 1 (by (first | omega | with_reducible assumption | with_reducible exact rng_toInt _ | with_reducible exact rng_wr _ | (unfold rng; omega) | (unfold rng at *; omega) | assumption))
set_option maxHeartbeats 1000000 in
theorem i_X6_isWord {σ : Sg} {pl : Nat} {gq ci gr nc : Nat → Nat} {ot : Nat → Nat → Int} {LL : Nat → List Nat} {N nu : Nat → Nat} {th : Nat} {v1 : Int} (iσ : IV σ pl gq ci gr nc ot LL N nu) (kth : kO σ th 6) {Q : Sg → Int → Prop} {X : Sg → String → Prop} (hQ : ∀ (r : Int), ((r = 0 ∨ r = 1) ∧ (r = 1 → gI σ th 3 = 2)) → Q σ r) : wp_X6_isWord th v1 σ Q X := by
  unfold wp_X6_isWord
  unfold w_X6_isWord_0
  have q2 := iσ.rg th 3; unfold rng at q2
  by_cases hc1 : gI σ th 3 ≠ 2
  · rw [if_pos hc1]
    unfold w_X6_isWord_22
    unfold w_X6_isWord_23
    refine ⟨by (first | omega | with_reducible assumption | with_reducible exact rng_toInt _ | with_reducible exact rng_wr _ | (unfold rng; omega) | (unfold rng at *; omega) | assumption), ?_⟩
    exact hQ 0 (by (first | omega | with_reducible assumption | with_reducible exact rng_toInt _ | with_reducible exact rng_wr _ | (unfold rng; omega) | (unfold rng at *; omega) | assumption))
  · rw [if_neg hc1]
    have hc1q := Classical.not_not.mp hc1
    unfold w_X6_isWord_8
    by_cases hc3 : gJ σ th 4 ≠ (Int64.ofInt v1)
    · rw [if_pos hc3]
      unfold w_X6_isWord_22
      unfold w_X6_isWord_23
      refine ⟨by (first | omega | with_reducible assumption | with_reducible exact rng_toInt _ | with_reducible exact rng_wr _ | (unfold rng; omega) | (unfold rng at *; omega) | assumption), ?_⟩
      exact hQ 0 (by (first | omega | with_reducible assumption | with_reducible exact rng_toInt _ | with_reducible exact rng_wr _ | (unfold rng; omega) | (unfold rng at *; omega) | assumption))
    · rw [if_neg hc3]
      have hc3q := Classical.not_not.mp hc3
      unfold w_X6_isWord_18
      unfold w_X6_isWord_23
      refine ⟨by (first | omega | with_reducible assumption | with_reducible exact rng_toInt _ | with_reducible exact rng_wr _ | (unfold rng; omega) | (unfold rng at *; omega) | assumption), ?_⟩
      exact hQ 1 (by (first | omega | with_reducible assumption | with_reducible exact rng_toInt _ | with_reducible exact rng_wr _ | (unfold rng; omega) | (unfold rng at *; omega) | assumption))
set_option maxHeartbeats 1000000 in
theorem i_X6_isSignByte {σ : Sg} {pl : Nat} {gq ci gr nc : Nat → Nat} {ot : Nat → Nat → Int} {LL : Nat → List Nat} {N nu : Nat → Nat} {v0 : Int} (iσ : IV σ pl gq ci gr nc ot LL N nu) {Q : Sg → Int → Prop} {X : Sg → String → Prop} (hQ : ∀ (r : Int), ((r = 0 ∨ r = 1)) → Q σ r) : wp_X6_isSignByte v0 σ Q X := by
  unfold wp_X6_isSignByte
  unfold w_X6_isSignByte_0
  by_cases hc1 : v0 = 33
  · rw [if_pos hc1]
    unfold w_X6_isSignByte_148
    exact hQ 1 (by (first | omega | with_reducible assumption | with_reducible exact rng_toInt _ | with_reducible exact rng_wr _ | (unfold rng; omega) | (unfold rng at *; omega) | assumption))
  · rw [if_neg hc1]
    by_cases hc2 : v0 = 37
    · rw [if_pos hc2]
      unfold w_X6_isSignByte_148
      exact hQ 1 (by (first | omega | with_reducible assumption | with_reducible exact rng_toInt _ | with_reducible exact rng_wr _ | (unfold rng; omega) | (unfold rng at *; omega) | assumption))
    · rw [if_neg hc2]
      by_cases hc3 : v0 = 38
      · rw [if_pos hc3]
        unfold w_X6_isSignByte_148
        exact hQ 1 (by (first | omega | with_reducible assumption | with_reducible exact rng_toInt _ | with_reducible exact rng_wr _ | (unfold rng; omega) | (unfold rng at *; omega) | assumption))
      · rw [if_neg hc3]
        by_cases hc4 : v0 = 40
        · rw [if_pos hc4]
          unfold w_X6_isSignByte_148
          exact hQ 1 (by (first | omega | with_reducible assumption | with_reducible exact rng_toInt _ | with_reducible exact rng_wr _ | (unfold rng; omega) | (unfold rng at *; omega) | assumption))
        · rw [if_neg hc4]
          by_cases hc5 : v0 = 41
          · rw [if_pos hc5]
            unfold w_X6_isSignByte_148
            exact hQ 1 (by (first | omega | with_reducible assumption | with_reducible exact rng_toInt _ | with_reducible exact rng_wr _ | (unfold rng; omega) | (unfold rng at *; omega) | assumption))
          · rw [if_neg hc5]
            by_cases hc6 : v0 = 42
            · rw [if_pos hc6]
              unfold w_X6_isSignByte_148
              exact hQ 1 (by (first | omega | with_reducible assumption | with_reducible exact rng_toInt _ | with_reducible exact rng_wr _ | (unfold rng; omega) | (unfold rng at *; omega) | assumption))
            · rw [if_neg hc6]
              by_cases hc7 : v0 = 43
              · rw [if_pos hc7]
                unfold w_X6_isSignByte_148
                exact hQ 1 (by (first | omega | with_reducible assumption | with_reducible exact rng_toInt _ | with_reducible exact rng_wr _ | (unfold rng; omega) | (unfold rng at *; omega) | assumption))
              · rw [if_neg hc7]
                by_cases hc8 : v0 = 44
                · rw [if_pos hc8]
                  unfold w_X6_isSignByte_148
                  exact hQ 1 (by (first | omega | with_reducible assumption | with_reducible exact rng_toInt _ | with_reducible exact rng_wr _ | (unfold rng; omega) | (unfold rng at *; omega) | assumption))
                · rw [if_neg hc8]
                  by_cases hc9 : v0 = 45
                  · rw [if_pos hc9]
                    unfold w_X6_isSignByte_148
                    exact hQ 1 (by (first | omega | with_reducible assumption | with_reducible exact rng_toInt _ | with_reducible exact rng_wr _ | (unfold rng; omega) | (unfold rng at *; omega) | assumption))
                  · rw [if_neg hc9]
                    by_cases hc10 : v0 = 47
                    · rw [if_pos hc10]
                      unfold w_X6_isSignByte_148
                      exact hQ 1 (by (first | omega | with_reducible assumption | with_reducible exact rng_toInt _ | with_reducible exact rng_wr _ | (unfold rng; omega) | (unfold rng at *; omega) | assumption))
                    · rw [if_neg hc10]
                      by_cases hc11 : v0 = 58
                      · rw [if_pos hc11]
                        unfold w_X6_isSignByte_148
                        exact hQ 1 (by (first | omega | with_reducible assumption | with_reducible exact rng_toInt _ | with_reducible exact rng_wr _ | (unfold rng; omega) | (unfold rng at *; omega) | assumption))
                      · rw [if_neg hc11]
                        by_cases hc12 : v0 = 59
                        · rw [if_pos hc12]
                          unfold w_X6_isSignByte_148
                          exact hQ 1 (by (first | omega | with_reducible assumption | with_reducible exact rng_toInt _ | with_reducible exact rng_wr _ | (unfold rng; omega) | (unfold rng at *; omega) | assumption))
                        · rw [if_neg hc12]
                          by_cases hc13 : v0 = 60
                          · rw [if_pos hc13]
                            unfold w_X6_isSignByte_148
                            exact hQ 1 (by (first | omega | with_reducible assumption | with_reducible exact rng_toInt _ | with_reducible exact rng_wr _ | (unfold rng; omega) | (unfold rng at *; omega) | assumption))
                          · rw [if_neg hc13]
                            by_cases hc14 : v0 = 61
                            · rw [if_pos hc14]
                              unfold w_X6_isSignByte_148
                              exact hQ 1 (by (first | omega | with_reducible assumption | with_reducible exact rng_toInt _ | with_reducible exact rng_wr _ | (unfold rng; omega) | (unfold rng at *; omega) | assumption))
                            · rw [if_neg hc14]
                              by_cases hc15 : v0 = 62
                              · rw [if_pos hc15]
                                unfold w_X6_isSignByte_148
                                exact hQ 1 (by (first | omega | with_reducible assumption | with_reducible exact rng_toInt _ | with_reducible exact rng_wr _ | (unfold rng; omega) | (unfold rng at *; omega) | assumption))
                              · rw [if_neg hc15]
                                by_cases hc16 : v0 = 63
                                · rw [if_pos hc16]
                                  unfold w_X6_isSignByte_148
                                  exact hQ 1 (by (first | omega | with_reducible assumption | with_reducible exact rng_toInt _ | with_reducible exact rng_wr _ | (unfold rng; omega) | (unfold rng at *; omega) | assumption))
                                · rw [if_neg hc16]
                                  by_cases hc17 : v0 = 124
                                  · rw [if_pos hc17]
                                    unfold w_X6_isSignByte_148
                                    exact hQ 1 (by (first | omega | with_reducible assumption | with_reducible exact rng_toInt _ | with_reducible exact rng_wr _ | (unfold rng; omega) | (unfold rng at *; omega) | assumption))
                                  · rw [if_neg hc17]
                                    unfold w_X6_isSignByte_150
                                    exact hQ 0 (by (first | omega | with_reducible assumption | with_reducible exact rng_toInt _ | with_reducible exact rng_wr _ | (unfold rng; omega) | (unfold rng at *; omega) | assumption))
set_option maxHeartbeats 1000000 in
theorem i_X6_levelOfToken {σ : Sg} {pl : Nat} {gq ci gr nc : Nat → Nat} {ot : Nat → Nat → Int} {LL : Nat → List Nat} {N nu : Nat → Nat} {th : Nat} (iσ : IV σ pl gq ci gr nc ot LL N nu) (kth : kO σ th 6) {Q : Sg → Int → Prop} {X : Sg → String → Prop} (hQ : ∀ (r : Int), ((-1 ≤ r ∧ r ≤ 3) ∧ (0 ≤ r → gI σ th 3 = 5)) → Q σ r) : wp_X6_levelOfToken th σ Q X := by
  unfold wp_X6_levelOfToken
  unfold w_X6_levelOfToken_0
  have q2 := iσ.rg th 3; unfold rng at q2
  by_cases hc1 : gI σ th 3 = 5
  · rw [if_pos hc1]
    unfold w_X6_levelOfToken_10
    by_cases hc3 : (gJ σ th 4).toInt32.toInt = 37
    · rw [if_pos hc3]
      unfold w_X6_levelOfToken_110
      exact hQ 3 (by (first | omega | with_reducible assumption | with_reducible exact rng_toInt _ | with_reducible exact rng_wr _ | (unfold rng; omega) | (unfold rng at *; omega) | assumption))
    · rw [if_neg hc3]
      by_cases hc4 : (gJ σ th 4).toInt32.toInt = 38
      · rw [if_pos hc4]
        unfold w_X6_levelOfToken_104
        exact hQ 0 (by (first | omega | with_reducible assumption | with_reducible exact rng_toInt _ | with_reducible exact rng_wr _ | (unfold rng; omega) | (unfold rng at *; omega) | assumption))
      · rw [if_neg hc4]
        by_cases hc5 : (gJ σ th 4).toInt32.toInt = 42
        · rw [if_pos hc5]
          unfold w_X6_levelOfToken_110
          exact hQ 3 (by (first | omega | with_reducible assumption | with_reducible exact rng_toInt _ | with_reducible exact rng_wr _ | (unfold rng; omega) | (unfold rng at *; omega) | assumption))
        · rw [if_neg hc5]
          by_cases hc6 : (gJ σ th 4).toInt32.toInt = 43
          · rw [if_pos hc6]
            unfold w_X6_levelOfToken_108
            exact hQ 2 (by (first | omega | with_reducible assumption | with_reducible exact rng_toInt _ | with_reducible exact rng_wr _ | (unfold rng; omega) | (unfold rng at *; omega) | assumption))
          · rw [if_neg hc6]
            by_cases hc7 : (gJ σ th 4).toInt32.toInt = 45
            · rw [if_pos hc7]
              unfold w_X6_levelOfToken_108
              exact hQ 2 (by (first | omega | with_reducible assumption | with_reducible exact rng_toInt _ | with_reducible exact rng_wr _ | (unfold rng; omega) | (unfold rng at *; omega) | assumption))
            · rw [if_neg hc7]
              by_cases hc8 : (gJ σ th 4).toInt32.toInt = 47
              · rw [if_pos hc8]
                unfold w_X6_levelOfToken_110
                exact hQ 3 (by (first | omega | with_reducible assumption | with_reducible exact rng_toInt _ | with_reducible exact rng_wr _ | (unfold rng; omega) | (unfold rng at *; omega) | assumption))
              · rw [if_neg hc8]
                by_cases hc9 : (gJ σ th 4).toInt32.toInt = 60
                · rw [if_pos hc9]
                  unfold w_X6_levelOfToken_106
                  exact hQ 1 (by (first | omega | with_reducible assumption | with_reducible exact rng_toInt _ | with_reducible exact rng_wr _ | (unfold rng; omega) | (unfold rng at *; omega) | assumption))
                · rw [if_neg hc9]
                  by_cases hc10 : (gJ σ th 4).toInt32.toInt = 61
                  · rw [if_pos hc10]
                    unfold w_X6_levelOfToken_106
                    exact hQ 1 (by (first | omega | with_reducible assumption | with_reducible exact rng_toInt _ | with_reducible exact rng_wr _ | (unfold rng; omega) | (unfold rng at *; omega) | assumption))
                  · rw [if_neg hc10]
                    by_cases hc11 : (gJ σ th 4).toInt32.toInt = 62
                    · rw [if_pos hc11]
                      unfold w_X6_levelOfToken_106
                      exact hQ 1 (by (first | omega | with_reducible assumption | with_reducible exact rng_toInt _ | with_reducible exact rng_wr _ | (unfold rng; omega) | (unfold rng at *; omega) | assumption))
                    · rw [if_neg hc11]
                      by_cases hc12 : (gJ σ th 4).toInt32.toInt = 124
                      · rw [if_pos hc12]
                        unfold w_X6_levelOfToken_104
                        exact hQ 0 (by (first | omega | with_reducible assumption | with_reducible exact rng_toInt _ | with_reducible exact rng_wr _ | (unfold rng; omega) | (unfold rng at *; omega) | assumption))
                      · rw [if_neg hc12]
                        unfold w_X6_levelOfToken_112
                        exact hQ (-1) (by (first | omega | with_reducible assumption | with_reducible exact rng_toInt _ | with_reducible exact rng_wr _ | (unfold rng; omega) | (unfold rng at *; omega) | assumption))
  · rw [if_neg hc1]
    unfold w_X6_levelOfToken_8
    exact hQ (-1) (by (first | omega | with_reducible assumption | with_reducible exact rng_toInt _ | with_reducible exact rng_wr _ | (unfold rng; omega) | (unfold rng at *; omega) | assumption))
set_option maxHeartbeats 1000000 in
theorem i_X6_instructionOfToken {σ : Sg} {pl : Nat} {gq ci gr nc : Nat → Nat} {ot : Nat → Nat → Int} {LL : Nat → List Nat} {N nu : Nat → Nat} {th : Nat} (iσ : IV σ pl gq ci gr nc ot LL N nu) (kth : kO σ th 6) {Q : Sg → Int → Prop} {X : Sg → String → Prop} (hQ : ∀ (r : Int), (rng r) → Q σ r) : wp_X6_instructionOfToken th σ Q X := by
  unfold wp_X6_instructionOfToken
  unfold w_X6_instructionOfToken_0
  by_cases hc1 : (gJ σ th 4).toInt32.toInt = 38
  · rw [if_pos hc1]
    unfold w_X6_instructionOfToken_91
    exact hQ 9 (by (first | omega | with_reducible assumption | with_reducible exact rng_toInt _ | with_reducible exact rng_wr _ | (unfold rng; omega) | (unfold rng at *; omega) | assumption))
  · rw [if_neg hc1]
    by_cases hc2 : (gJ σ th 4).toInt32.toInt = 42
    · rw [if_pos hc2]
      unfold w_X6_instructionOfToken_109
      exact hQ 13 (by (first | omega | with_reducible assumption | with_reducible exact rng_toInt _ | with_reducible exact rng_wr _ | (unfold rng; omega) | (unfold rng at *; omega) | assumption))
    · rw [if_neg hc2]
      by_cases hc3 : (gJ σ th 4).toInt32.toInt = 43
      · rw [if_pos hc3]
        unfold w_X6_instructionOfToken_103
        exact hQ 11 (by (first | omega | with_reducible assumption | with_reducible exact rng_toInt _ | with_reducible exact rng_wr _ | (unfold rng; omega) | (unfold rng at *; omega) | assumption))
      · rw [if_neg hc3]
        by_cases hc4 : (gJ σ th 4).toInt32.toInt = 45
        · rw [if_pos hc4]
          unfold w_X6_instructionOfToken_106
          exact hQ 12 (by (first | omega | with_reducible assumption | with_reducible exact rng_toInt _ | with_reducible exact rng_wr _ | (unfold rng; omega) | (unfold rng at *; omega) | assumption))
        · rw [if_neg hc4]
          by_cases hc5 : (gJ σ th 4).toInt32.toInt = 47
          · rw [if_pos hc5]
            unfold w_X6_instructionOfToken_112
            exact hQ 14 (by (first | omega | with_reducible assumption | with_reducible exact rng_toInt _ | with_reducible exact rng_wr _ | (unfold rng; omega) | (unfold rng at *; omega) | assumption))
          · rw [if_neg hc5]
            by_cases hc6 : (gJ σ th 4).toInt32.toInt = 60
            · rw [if_pos hc6]
              unfold w_X6_instructionOfToken_94
              exact hQ 16 (by (first | omega | with_reducible assumption | with_reducible exact rng_toInt _ | with_reducible exact rng_wr _ | (unfold rng; omega) | (unfold rng at *; omega) | assumption))
            · rw [if_neg hc6]
              by_cases hc7 : (gJ σ th 4).toInt32.toInt = 61
              · rw [if_pos hc7]
                unfold w_X6_instructionOfToken_100
                exact hQ 18 (by (first | omega | with_reducible assumption | with_reducible exact rng_toInt _ | with_reducible exact rng_wr _ | (unfold rng; omega) | (unfold rng at *; omega) | assumption))
              · rw [if_neg hc7]
                by_cases hc8 : (gJ σ th 4).toInt32.toInt = 62
                · rw [if_pos hc8]
                  unfold w_X6_instructionOfToken_97
                  exact hQ 17 (by (first | omega | with_reducible assumption | with_reducible exact rng_toInt _ | with_reducible exact rng_wr _ | (unfold rng; omega) | (unfold rng at *; omega) | assumption))
                · rw [if_neg hc8]
                  by_cases hc9 : (gJ σ th 4).toInt32.toInt = 124
                  · rw [if_pos hc9]
                    unfold w_X6_instructionOfToken_88
                    exact hQ 10 (by (first | omega | with_reducible assumption | with_reducible exact rng_toInt _ | with_reducible exact rng_wr _ | (unfold rng; omega) | (unfold rng at *; omega) | assumption))
                  · rw [if_neg hc9]
                    unfold w_X6_instructionOfToken_115
                    exact hQ 15 (by (first | omega | with_reducible assumption | with_reducible exact rng_toInt _ | with_reducible exact rng_wr _ | (unfold rng; omega) | (unfold rng at *; omega) | assumption))
set_option maxHeartbeats 1000000 in
theorem i_X5_hasColumnsOf {σ : Sg} {pl : Nat} {gq ci gr nc : Nat → Nat} {ot : Nat → Nat → Int} {LL : Nat → List Nat} {N nu : Nat → Nat} {th : Nat} {v1 : Option Nat} (iσ : IV σ pl gq ci gr nc ot LL N nu) (kth : kO σ th 5) {c1 : Nat} (hv1 : v1 = some c1) (kc1 : kO σ c1 5) {Q : Sg → Int → Prop} {X : Sg → String → Prop} (hQ : ∀ (r : Int), ((r = 0 ∨ r = 1)) → Q σ r) : wp_X5_hasColumnsOf th v1 σ Q X := by
  unfold wp_X5_hasColumnsOf
  unfold w_X5_hasColumnsOf_0
  have Lp2 : ∀ (fu2 : Nat) (v2 : Int), (0 ≤ v2 ∧ v2 ≤ 8) → ((8 - v2).toNat) < fu2 → wl_X5_hasColumnsOf_2 th Q X fu2 σ v1 v2 := by
    intro fu2
    induction fu2 with
    | zero => intro _ _ h9; omega
    | succ fu2 ih2 =>
      intro v2 hi2 hm2
      unfold wl_X5_hasColumnsOf_2
      unfold w_X5_hasColumnsOf_2
      have q2 := I_5_3 iσ.1 kth
      by_cases hc1 : v2 ≥ gI σ th 3
      · rw [if_pos hc1]
        unfold w_X5_hasColumnsOf_42
        refine ⟨c1, hv1, fun kk_c1 => ?_⟩
        have q4 := I_5_3 iσ.1 kc1
        by_cases hc3 : gI σ th 3 ≠ gI σ c1 3
        · rw [if_pos hc3]
          unfold w_X5_hasColumnsOf_57
          unfold w_X5_hasColumnsOf_58
          refine ⟨by (first | omega | with_reducible assumption | with_reducible exact rng_toInt _ | with_reducible exact rng_wr _ | (unfold rng; omega) | (unfold rng at *; omega) | assumption), ?_⟩
          exact hQ 0 (by (first | omega | with_reducible assumption | with_reducible exact rng_toInt _ | with_reducible exact rng_wr _ | (unfold rng; omega) | (unfold rng at *; omega) | assumption))
        · rw [if_neg hc3]
          have hc3q := Classical.not_not.mp hc3
          unfold w_X5_hasColumnsOf_53
          unfold w_X5_hasColumnsOf_58
          refine ⟨by (first | omega | with_reducible assumption | with_reducible exact rng_toInt _ | with_reducible exact rng_wr _ | (unfold rng; omega) | (unfold rng at *; omega) | assumption), ?_⟩
          exact hQ 1 (by (first | omega | with_reducible assumption | with_reducible exact rng_toInt _ | with_reducible exact rng_wr _ | (unfold rng; omega) | (unfold rng at *; omega) | assumption))
      · rw [if_neg hc1]
        unfold w_X5_hasColumnsOf_10
        refine ⟨c1, hv1, fun kk_c1_1 => ?_⟩
        have q6 := I_5_3 iσ.1 kc1
        by_cases hc5 : v2 ≥ gI σ c1 3
        · rw [if_pos hc5]
          unfold w_X5_hasColumnsOf_42
          refine ⟨c1, hv1, fun kk_c1_2 => ?_⟩
          by_cases hc7 : gI σ th 3 ≠ gI σ c1 3
          · rw [if_pos hc7]
            unfold w_X5_hasColumnsOf_57
            unfold w_X5_hasColumnsOf_58
            refine ⟨by (first | omega | with_reducible assumption | with_reducible exact rng_toInt _ | with_reducible exact rng_wr _ | (unfold rng; omega) | (unfold rng at *; omega) | assumption), ?_⟩
            exact hQ 0 (by (first | omega | with_reducible assumption | with_reducible exact rng_toInt _ | with_reducible exact rng_wr _ | (unfold rng; omega) | (unfold rng at *; omega) | assumption))
          · rw [if_neg hc7]
            have hc7q := Classical.not_not.mp hc7
            unfold w_X5_hasColumnsOf_53
            unfold w_X5_hasColumnsOf_58
            refine ⟨by (first | omega | with_reducible assumption | with_reducible exact rng_toInt _ | with_reducible exact rng_wr _ | (unfold rng; omega) | (unfold rng at *; omega) | assumption), ?_⟩
            exact hQ 1 (by (first | omega | with_reducible assumption | with_reducible exact rng_toInt _ | with_reducible exact rng_wr _ | (unfold rng; omega) | (unfold rng at *; omega) | assumption))
        · rw [if_neg hc5]
          unfold w_X5_hasColumnsOf_18
          obtain ⟨b, eb, fb⟩ := P_5_0 iσ.1 kth
          have mb : kO σ b 101 := iσ.1.kd kth rfl eb rfl
          refine ⟨b, eb, fun kk_b => ?_⟩
          refine ⟨⟨by (first | omega | with_reducible assumption | with_reducible exact rng_toInt _ | with_reducible exact rng_wr _ | (unfold rng; omega) | (unfold rng at *; omega) | assumption), by (first | omega | with_reducible assumption | with_reducible exact rng_toInt _ | with_reducible exact rng_wr _ | (unfold rng; omega) | (unfold rng at *; omega) | assumption)⟩, ?_⟩
          refine ⟨c1, hv1, fun kk_c1_3 => ?_⟩
          obtain ⟨b_1, eb_1, fb_1⟩ := P_5_0 iσ.1 kc1
          have mb_1 : kO σ b_1 101 := iσ.1.kd kc1 rfl eb_1 rfl
          refine ⟨b_1, eb_1, fun kk_b_1 => ?_⟩
          refine ⟨⟨by (first | omega | with_reducible assumption | with_reducible exact rng_toInt _ | with_reducible exact rng_wr _ | (unfold rng; omega) | (unfold rng at *; omega) | assumption), by (first | omega | with_reducible assumption | with_reducible exact rng_toInt _ | with_reducible exact rng_wr _ | (unfold rng; omega) | (unfold rng at *; omega) | assumption)⟩, ?_⟩
          by_cases hc8 : (gJ σ b v2.toNat) = (gJ σ b_1 v2.toNat)
          · rw [if_pos hc8]
            unfold w_X5_hasColumnsOf_36
            refine ⟨by (first | omega | with_reducible assumption | with_reducible exact rng_toInt _ | with_reducible exact rng_wr _ | (unfold rng; omega) | (unfold rng at *; omega) | assumption), ?_⟩
            exact ih2 (v2 + 1) (by (first | omega | with_reducible assumption | with_reducible exact rng_toInt _ | with_reducible exact rng_wr _ | (unfold rng; omega) | (unfold rng at *; omega) | assumption)) (by (first | omega | with_reducible assumption | with_reducible exact rng_toInt _ | with_reducible exact rng_wr _ | (unfold rng; omega) | (unfold rng at *; omega) | assumption))
          · rw [if_neg hc8]
            unfold w_X5_hasColumnsOf_34
            exact hQ 0 (by (first | omega | with_reducible assumption | with_reducible exact rng_toInt _ | with_reducible exact rng_wr _ | (unfold rng; omega) | (unfold rng at *; omega) | assumption))
  exact ⟨_, Lp2 _ _ (by (first | omega | with_reducible assumption | with_reducible exact rng_toInt _ | with_reducible exact rng_wr _ | (unfold rng; omega) | (unfold rng at *; omega) | assumption)) (Nat.lt_succ_self _)⟩
set_option maxHeartbeats 1000000 in
theorem i_X5_sharesColumnWith {σ : Sg} {pl : Nat} {gq ci gr nc : Nat → Nat} {ot : Nat → Nat → Int} {LL : Nat → List Nat} {N nu : Nat → Nat} {th : Nat} {v1 : Option Nat} (iσ : IV σ pl gq ci gr nc ot LL N nu) (kth : kO σ th 5) {c1 : Nat} (hv1 : v1 = some c1) (kc1 : kO σ c1 5) {Q : Sg → Int → Prop} {X : Sg → String → Prop} (hQ : ∀ (r : Int), ((r = 0 ∨ r = 1)) → Q σ r) : wp_X5_sharesColumnWith th v1 σ Q X := by
  unfold wp_X5_sharesColumnWith
  unfold w_X5_sharesColumnWith_0
  have Lp2 : ∀ (fu2 : Nat) (v2 : Int), (0 ≤ v2 ∧ v2 ≤ 8) → ((8 - v2).toNat) < fu2 → wl_X5_sharesColumnWith_2 th Q X fu2 σ v1 v2 := by
    intro fu2
    induction fu2 with
    | zero => intro _ _ h9; omega
    | succ fu2 ih2 =>
      intro v2 hi2 hm2
      unfold wl_X5_sharesColumnWith_2
      unfold w_X5_sharesColumnWith_2
      have q2 := I_5_3 iσ.1 kth
      by_cases hc1 : v2 ≥ gI σ th 3
      · rw [if_pos hc1]
        unfold w_X5_sharesColumnWith_32
        exact hQ 0 (by (first | omega | with_reducible assumption | with_reducible exact rng_toInt _ | with_reducible exact rng_wr _ | (unfold rng; omega) | (unfold rng at *; omega) | assumption))
      · rw [if_neg hc1]
        unfold w_X5_sharesColumnWith_10
        obtain ⟨b, eb, fb⟩ := P_5_0 iσ.1 kth
        have mb : kO σ b 101 := iσ.1.kd kth rfl eb rfl
        refine ⟨b, eb, fun kk_b => ?_⟩
        refine ⟨⟨by (first | omega | with_reducible assumption | with_reducible exact rng_toInt _ | with_reducible exact rng_wr _ | (unfold rng; omega) | (unfold rng at *; omega) | assumption), by (first | omega | with_reducible assumption | with_reducible exact rng_toInt _ | with_reducible exact rng_wr _ | (unfold rng; omega) | (unfold rng at *; omega) | assumption)⟩, ?_⟩
        refine ⟨c1, hv1, fun kk_c1 => ?_⟩
        refine i_X5_find iσ kc1 (fun r7 pσ6 => ?_)
        intro xσ6
        by_cases hc3 : r7 = (-1)
        · rw [if_pos hc3]
          unfold w_X5_sharesColumnWith_26
          refine ⟨by (first | omega | with_reducible assumption | with_reducible exact rng_toInt _ | with_reducible exact rng_wr _ | (unfold rng; omega) | (unfold rng at *; omega) | assumption), ?_⟩
          exact ih2 (v2 + 1) (by (first | omega | with_reducible assumption | with_reducible exact rng_toInt _ | with_reducible exact rng_wr _ | (unfold rng; omega) | (unfold rng at *; omega) | assumption)) (by (first | omega | with_reducible assumption | with_reducible exact rng_toInt _ | with_reducible exact rng_wr _ | (unfold rng; omega) | (unfold rng at *; omega) | assumption))
        · rw [if_neg hc3]
          unfold w_X5_sharesColumnWith_24
          exact hQ 1 (by (first | omega | with_reducible assumption | with_reducible exact rng_toInt _ | with_reducible exact rng_wr _ | (unfold rng; omega) | (unfold rng at *; omega) | assumption))
  exact ⟨_, Lp2 _ _ (by (first | omega | with_reducible assumption | with_reducible exact rng_toInt _ | with_reducible exact rng_wr _ | (unfold rng; omega) | (unfold rng at *; omega) | assumption)) (Nat.lt_succ_self _)⟩

set_option maxHeartbeats 1000000 in
theorem i_X1_at {σ : Sg} {pl : Nat} {gq ci gr nc : Nat → Nat} {ot : Nat → Nat → Int} {LL : Nat → List Nat} {N nu : Nat → Nat} {th : Nat} {v1 : Int} (iσ : IV σ pl gq ci gr nc ot LL N nu) (kth : kO σ th 1) (h1 : rng v1) {Q : Sg → Option Nat → Prop} {X : Sg → String → Prop} (hQ : ∀ (r : Option Nat), (True) → Q σ r) : wp_X1_at th v1 σ Q X := by
  obtain ⟨own, hp⟩ := iσ.2.2.2.2.2.2.2
  exact s_X1_at hp kth h1 (hQ none trivial) (fun c _ => hQ (some c) trivial)
set_option maxHeartbeats 1000000 in
theorem i_X9_ofTask {σ : Sg} {pl : Nat} {gq ci gr nc : Nat → Nat} {ot : Nat → Nat → Int} {LL : Nat → List Nat} {N nu : Nat → Nat} {th : Nat} {v1 : Option Nat} {v2 : Int} {J : Nat} (iσ : IV σ pl gq ci gr nc ot LL N nu) (kth : kO σ th 9) {t : Nat} (hv1 : v1 = some t) (kt : kO σ t 10) (hj : gP σ th 9 = some J) (kJ : kO σ J 4) (hJ : gq J = nc 0) (h0 : 0 ≤ gI σ t 0 ∧ gI σ t 0 < (nc 1 : Int)) {Q : Sg → Int64 → Prop} {X : Sg → String → Prop} (hQ : ∀ (r : Int64), (True) → Q σ r) : wp_X9_ofTask th v1 v2 σ Q X := by
  have q1 := I_10_0 iσ.1 kt
  have n16 := iσ.n16
  unfold wp_X9_ofTask
  unfold w_X9_ofTask_0
  refine ⟨J, hj, fun kk_J => ?_⟩
  refine ⟨t, hv1, fun kk_t => ?_⟩
  obtain ⟨b, eb, fb⟩ := P_4_0 iσ.1 kJ
  have mb : kO σ b 115 := iσ.1.kd kJ rfl eb rfl
  refine ⟨b, eb, fun kk_b => ?_⟩
  refine ⟨⟨by (first | omega | with_reducible assumption | with_reducible exact rng_toInt _ | with_reducible exact rng_wr _ | (unfold rng; omega) | (unfold rng at *; omega) | assumption), by (first | omega | with_reducible assumption | with_reducible exact rng_toInt _ | with_reducible exact rng_wr _ | (unfold rng; omega) | (unfold rng at *; omega) | assumption)⟩, ?_⟩
  by_cases hc2 : v2 = 0
  · rw [if_pos hc2]
    unfold w_X9_ofTask_60
    refine ⟨t, hv1, fun kk_t_1 => ?_⟩
    exact hQ (Int64.ofInt (gI σ t 0)) (trivial)
  · rw [if_neg hc2]
    by_cases hc3 : v2 = 1
    · rw [if_pos hc3]
      unfold w_X9_ofTask_66
      refine ⟨t, hv1, fun kk_t_2 => ?_⟩
      have q4 := I_10_1 iσ.1 kt
      exact hQ (Int64.ofInt (gI σ t 1)) (trivial)
    · rw [if_neg hc3]
      by_cases hc5 : v2 = 2
      · rw [if_pos hc5]
        unfold w_X9_ofTask_72
        refine ⟨t, hv1, fun kk_t_3 => ?_⟩
        exact hQ (gJ σ t 7) (trivial)
      · rw [if_neg hc5]
        by_cases hc6 : v2 = 3
        · rw [if_pos hc6]
          unfold w_X9_ofTask_77
          refine ⟨t, hv1, fun kk_t_4 => ?_⟩
          obtain ⟨b_1, eb_1, fb_1⟩ := P_10_4 iσ.1 kt
          have mb_1 : kO σ b_1 1 := iσ.1.kd kt rfl eb_1 rfl
          refine ⟨b_1, eb_1, fun kk_b_1 => ?_⟩
          have q7 := iσ.size mb_1
          have qz7 := iσ.sz mb_1.1
          exact hQ (Int64.ofInt (gI σ b_1 2)) (trivial)
        · rw [if_neg hc6]
          by_cases hc8 : v2 = 4
          · rw [if_pos hc8]
            unfold w_X9_ofTask_86
            obtain ⟨b_2, eb_2⟩ := P_115 iσ.1 mb (k := (gI σ t 0).toNat) (by (first | omega | with_reducible assumption | with_reducible exact rng_toInt _ | with_reducible exact rng_wr _ | (unfold rng; omega) | (unfold rng at *; omega) | assumption))
            have fb_2 := T_115 iσ.1 mb eb_2
            have mb_2 : kO σ b_2 5 := iσ.1.kd mb rfl eb_2 rfl
            refine ⟨b_2, eb_2, fun kk_b_2 => ?_⟩
            have q10 := I_5_6 iσ.1 mb_2
            by_cases hc9 : gI σ b_2 6 ≠ 11
            · rw [if_pos hc9]
              unfold w_X9_ofTask_111
              refine ⟨t, hv1, fun kk_t_5 => ?_⟩
              refine i_X10_held iσ kt (fun r34 pσ33 => ?_)
              intro xσ33
              unfold w_X9_ofTask_116
              exact hQ (Int64.ofInt r34) (trivial)
            · rw [if_neg hc9]
              have hc9q := Classical.not_not.mp hc9
              unfold w_X9_ofTask_95
              have o6 := iσ.op mb_2 (i := (gI σ t 0).toNat) (by omega) (by omega) 6 (by decide)
              have o9 := iσ.op mb_2 (i := (gI σ t 0).toNat) (by omega) (by omega) 9 (by decide)
              have ok9 := iσ.opok (i := (gI σ t 0).toNat) (by omega)
              have h9 := ok9.2.2.2.2.2.2.2.2.1 (by omega)
              refine ⟨b_2, eb_2, fun kk_b_2_1 => ?_⟩
              obtain ⟨b_3, eb_3, fb_3⟩ := P_9_6 iσ.1 kth
              have mb_3 : kO σ b_3 111 := iσ.1.kd kth rfl eb_3 rfl
              refine ⟨b_3, eb_3, fun kk_b_3 => ?_⟩
              have q11 := I_5_9 iσ.1 mb_2
              refine ⟨⟨by (first | omega | with_reducible assumption | with_reducible exact rng_toInt _ | with_reducible exact rng_wr _ | (unfold rng; omega) | (unfold rng at *; omega) | assumption), by (first | omega | with_reducible assumption | with_reducible exact rng_toInt _ | with_reducible exact rng_wr _ | (unfold rng; omega) | (unfold rng at *; omega) | assumption)⟩, ?_⟩
              obtain ⟨b_4, eb_4⟩ := P_111 iσ.1 mb_3 (k := (gI σ b_2 9).toNat) (by (first | omega | with_reducible assumption | with_reducible exact rng_toInt _ | with_reducible exact rng_wr _ | (unfold rng; omega) | (unfold rng at *; omega) | assumption))
              have fb_4 := T_111 iσ.1 mb_3 eb_4
              have mb_4 : kO σ b_4 1 := iσ.1.kd mb_3 rfl eb_4 rfl
              refine ⟨b_4, eb_4, fun kk_b_4 => ?_⟩
              unfold w_X9_ofTask_116
              have q12 := iσ.size mb_4
              have qz12 := iσ.sz mb_4.1
              exact hQ (Int64.ofInt (gI σ b_4 2)) (trivial)
          · rw [if_neg hc8]
            by_cases hc13 : v2 = 5
            · rw [if_pos hc13]
              unfold w_X9_ofTask_117
              refine ⟨t, hv1, fun kk_t_6 => ?_⟩
              have q14 := iσ.rg t 8; unfold rng at q14
              exact hQ (Int64.ofInt (gI σ t 8)) (trivial)
            · rw [if_neg hc13]
              by_cases hc15 : v2 = 6
              · rw [if_pos hc15]
                unfold w_X9_ofTask_123
                refine ⟨t, hv1, fun kk_t_7 => ?_⟩
                have q16 := iσ.rg t 5; unfold rng at q16
                exact hQ (Int64.ofInt (gI σ t 5)) (trivial)
              · rw [if_neg hc15]
                by_cases hc17 : v2 = 7
                · rw [if_pos hc17]
                  unfold w_X9_ofTask_129
                  obtain ⟨b_5, eb_5⟩ := P_115 iσ.1 mb (k := (gI σ t 0).toNat) (by (first | omega | with_reducible assumption | with_reducible exact rng_toInt _ | with_reducible exact rng_wr _ | (unfold rng; omega) | (unfold rng at *; omega) | assumption))
                  have fb_5 := T_115 iσ.1 mb eb_5
                  have mb_5 : kO σ b_5 5 := iσ.1.kd mb rfl eb_5 rfl
                  refine ⟨b_5, eb_5, fun kk_b_5 => ?_⟩
                  have q19 := I_5_6 iσ.1 mb_5
                  by_cases hc18 : gI σ b_5 6 ≠ 0
                  · rw [if_pos hc18]
                    unfold w_X9_ofTask_144
                    unfold w_X9_ofTask_147
                    exact hQ (-1) (trivial)
                  · rw [if_neg hc18]
                    have hc18q := Classical.not_not.mp hc18
                    unfold w_X9_ofTask_136
                    refine ⟨t, hv1, fun kk_t_8 => ?_⟩
                    unfold w_X9_ofTask_147
                    have q20 := I_10_6 iσ.1 kt
                    exact hQ (Int64.ofInt (gI σ t 6)) (trivial)
                · rw [if_neg hc17]
                  unfold w_X9_ofTask_148
                  refine ⟨t, hv1, fun kk_t_9 => ?_⟩
                  have q22 := I_10_10 iσ.1 kt
                  by_cases hc21 : gI σ t 10 = 0
                  · rw [if_pos hc21]
                    unfold w_X9_ofTask_159
                    unfold w_X9_ofTask_160
                    exact hQ 0 (trivial)
                  · rw [if_neg hc21]
                    unfold w_X9_ofTask_155
                    unfold w_X9_ofTask_160
                    exact hQ 1 (trivial)
set_option maxHeartbeats 1000000 in
theorem i_X9_toldOfRun {σ : Sg} {pl : Nat} {gq ci gr nc : Nat → Nat} {ot : Nat → Nat → Int} {LL : Nat → List Nat} {N nu : Nat → Nat} {th : Nat} {v1 : Int} (iσ : IV σ pl gq ci gr nc ot LL N nu) (kth : kO σ th 9) {Q : Sg → Int → Prop} {X : Sg → String → Prop} (hQ : ∀ (r : Int), (True) → Q σ r) : wp_X9_toldOfRun th v1 σ Q X := by
  unfold wp_X9_toldOfRun
  unfold w_X9_toldOfRun_0
  by_cases hc1 : v1 = 1
  · rw [if_pos hc1]
    unfold w_X9_toldOfRun_60
    have q2 := iσ.tc kth
    have q3 := I_9_10 iσ.1 kth
    exact hQ (gI σ th 10) (trivial)
  · rw [if_neg hc1]
    by_cases hc4 : v1 = 2
    · rw [if_pos hc4]
      unfold w_X9_toldOfRun_65
      have q5 := iσ.tc kth
      have q6 := I_9_11 iσ.1 kth
      exact hQ (gI σ th 11) (trivial)
    · rw [if_neg hc4]
      by_cases hc7 : v1 = 3
      · rw [if_pos hc7]
        unfold w_X9_toldOfRun_70
        have q8 := iσ.rg th 17; unfold rng at q8
        exact hQ (gI σ th 17) (trivial)
      · rw [if_neg hc7]
        by_cases hc9 : v1 = 4
        · rw [if_pos hc9]
          unfold w_X9_toldOfRun_75
          have q10 := iσ.rg th 18; unfold rng at q10
          exact hQ (gI σ th 18) (trivial)
        · rw [if_neg hc9]
          by_cases hc11 : v1 = 7
          · rw [if_pos hc11]
            unfold w_X9_toldOfRun_80
            have q12 := iσ.rg th 19; unfold rng at q12
            exact hQ (gI σ th 19) (trivial)
          · rw [if_neg hc11]
            by_cases hc13 : v1 = 8
            · rw [if_pos hc13]
              unfold w_X9_toldOfRun_85
              have q15 := I_9_16 iσ.1 kth
              by_cases hc14 : gI σ th 16 = 0
              · rw [if_pos hc14]
                unfold w_X9_toldOfRun_96
                unfold w_X9_toldOfRun_97
                exact hQ 0 (trivial)
              · rw [if_neg hc14]
                unfold w_X9_toldOfRun_92
                unfold w_X9_toldOfRun_97
                exact hQ 1 (trivial)
            · rw [if_neg hc13]
              by_cases hc16 : v1 = 10
              · rw [if_pos hc16]
                unfold w_X9_toldOfRun_98
                have Lp100 : ∀ (fu100 : Nat) (v2 : Int) (v3 : Int), (0 ≤ v3 ∧ v3 ≤ 4) → ((4 - v3).toNat) < fu100 → wl_X9_toldOfRun_100 th Q X fu100 σ v1 v2 v3 := by
                  intro fu100
                  induction fu100 with
                  | zero => intro _ _ _ h9; omega
                  | succ fu100 ih100 =>
                    intro v2 v3 hi100 hm100
                    unfold wl_X9_toldOfRun_100
                    unfold w_X9_toldOfRun_100
                    by_cases hc17 : v3 ≥ 4
                    · rw [if_pos hc17]
                      unfold w_X9_toldOfRun_136
                      exact hQ v2 (trivial)
                    · rw [if_neg hc17]
                      unfold w_X9_toldOfRun_105
                      by_cases hc18 : v1 ≠ 10
                      · rw [if_pos hc18]
                        unfold w_X9_toldOfRun_119
                        unfold w_X9_toldOfRun_123
                        obtain ⟨b, eb, fb⟩ := P_9_6 iσ.1 kth
                        have mb : kO σ b 111 := iσ.1.kd kth rfl eb rfl
                        refine ⟨b, eb, fun kk_b => ?_⟩
                        refine ⟨⟨by (first | omega | with_reducible assumption | with_reducible exact rng_toInt _ | with_reducible exact rng_wr _ | (unfold rng; omega) | (unfold rng at *; omega) | assumption), by (first | omega | with_reducible assumption | with_reducible exact rng_toInt _ | with_reducible exact rng_wr _ | (unfold rng; omega) | (unfold rng at *; omega) | assumption)⟩, ?_⟩
                        obtain ⟨b_1, eb_1⟩ := P_111 iσ.1 mb (k := v3.toNat) (by (first | omega | with_reducible assumption | with_reducible exact rng_toInt _ | with_reducible exact rng_wr _ | (unfold rng; omega) | (unfold rng at *; omega) | assumption))
                        have fb_1 := T_111 iσ.1 mb eb_1
                        have mb_1 : kO σ b_1 1 := iσ.1.kd mb rfl eb_1 rfl
                        refine ⟨b_1, eb_1, fun kk_b_1 => ?_⟩
                        refine ⟨by (first | omega | with_reducible assumption | with_reducible exact rng_toInt _ | with_reducible exact rng_wr _ | (unfold rng; omega) | (unfold rng at *; omega) | assumption), ?_⟩
                        have q19 := iσ.size mb_1
                        have qz19 := iσ.sz mb_1.1
                        exact ih100 (wr (v2 + gI σ b_1 2)) (v3 + 1) (by (first | omega | with_reducible assumption | with_reducible exact rng_toInt _ | with_reducible exact rng_wr _ | (unfold rng; omega) | (unfold rng at *; omega) | assumption)) (by (first | omega | with_reducible assumption | with_reducible exact rng_toInt _ | with_reducible exact rng_wr _ | (unfold rng; omega) | (unfold rng at *; omega) | assumption))
                      · rw [if_neg hc18]
                        have hc18q := Classical.not_not.mp hc18
                        unfold w_X9_toldOfRun_112
                        unfold w_X9_toldOfRun_123
                        obtain ⟨b_2, eb_2, fb_2⟩ := P_9_7 iσ.1 kth
                        have mb_2 : kO σ b_2 111 := iσ.1.kd kth rfl eb_2 rfl
                        refine ⟨b_2, eb_2, fun kk_b_2 => ?_⟩
                        refine ⟨⟨by (first | omega | with_reducible assumption | with_reducible exact rng_toInt _ | with_reducible exact rng_wr _ | (unfold rng; omega) | (unfold rng at *; omega) | assumption), by (first | omega | with_reducible assumption | with_reducible exact rng_toInt _ | with_reducible exact rng_wr _ | (unfold rng; omega) | (unfold rng at *; omega) | assumption)⟩, ?_⟩
                        obtain ⟨b_3, eb_3⟩ := P_111 iσ.1 mb_2 (k := v3.toNat) (by (first | omega | with_reducible assumption | with_reducible exact rng_toInt _ | with_reducible exact rng_wr _ | (unfold rng; omega) | (unfold rng at *; omega) | assumption))
                        have fb_3 := T_111 iσ.1 mb_2 eb_3
                        have mb_3 : kO σ b_3 1 := iσ.1.kd mb_2 rfl eb_3 rfl
                        refine ⟨b_3, eb_3, fun kk_b_3 => ?_⟩
                        refine ⟨by (first | omega | with_reducible assumption | with_reducible exact rng_toInt _ | with_reducible exact rng_wr _ | (unfold rng; omega) | (unfold rng at *; omega) | assumption), ?_⟩
                        have q20 := iσ.size mb_3
                        have qz20 := iσ.sz mb_3.1
                        exact ih100 (wr (v2 + gI σ b_3 2)) (v3 + 1) (by (first | omega | with_reducible assumption | with_reducible exact rng_toInt _ | with_reducible exact rng_wr _ | (unfold rng; omega) | (unfold rng at *; omega) | assumption)) (by (first | omega | with_reducible assumption | with_reducible exact rng_toInt _ | with_reducible exact rng_wr _ | (unfold rng; omega) | (unfold rng at *; omega) | assumption))
                exact ⟨_, Lp100 _ _ _ (by (first | omega | with_reducible assumption | with_reducible exact rng_toInt _ | with_reducible exact rng_wr _ | (unfold rng; omega) | (unfold rng at *; omega) | assumption)) (Nat.lt_succ_self _)⟩
              · rw [if_neg hc16]
                by_cases hc21 : v1 = 11
                · rw [if_pos hc21]
                  unfold w_X9_toldOfRun_98
                  have Lp100 : ∀ (fu100 : Nat) (v2 : Int) (v3 : Int), (0 ≤ v3 ∧ v3 ≤ 4) → ((4 - v3).toNat) < fu100 → wl_X9_toldOfRun_100 th Q X fu100 σ v1 v2 v3 := by
                    intro fu100
                    induction fu100 with
                    | zero => intro _ _ _ h9; omega
                    | succ fu100 ih100 =>
                      intro v2 v3 hi100 hm100
                      unfold wl_X9_toldOfRun_100
                      unfold w_X9_toldOfRun_100
                      by_cases hc22 : v3 ≥ 4
                      · rw [if_pos hc22]
                        unfold w_X9_toldOfRun_136
                        exact hQ v2 (trivial)
                      · rw [if_neg hc22]
                        unfold w_X9_toldOfRun_105
                        by_cases hc23 : v1 ≠ 10
                        · rw [if_pos hc23]
                          unfold w_X9_toldOfRun_119
                          unfold w_X9_toldOfRun_123
                          obtain ⟨b_4, eb_4, fb_4⟩ := P_9_6 iσ.1 kth
                          have mb_4 : kO σ b_4 111 := iσ.1.kd kth rfl eb_4 rfl
                          refine ⟨b_4, eb_4, fun kk_b_4 => ?_⟩
                          refine ⟨⟨by (first | omega | with_reducible assumption | with_reducible exact rng_toInt _ | with_reducible exact rng_wr _ | (unfold rng; omega) | (unfold rng at *; omega) | assumption), by (first | omega | with_reducible assumption | with_reducible exact rng_toInt _ | with_reducible exact rng_wr _ | (unfold rng; omega) | (unfold rng at *; omega) | assumption)⟩, ?_⟩
                          obtain ⟨b_5, eb_5⟩ := P_111 iσ.1 mb_4 (k := v3.toNat) (by (first | omega | with_reducible assumption | with_reducible exact rng_toInt _ | with_reducible exact rng_wr _ | (unfold rng; omega) | (unfold rng at *; omega) | assumption))
                          have fb_5 := T_111 iσ.1 mb_4 eb_5
                          have mb_5 : kO σ b_5 1 := iσ.1.kd mb_4 rfl eb_5 rfl
                          refine ⟨b_5, eb_5, fun kk_b_5 => ?_⟩
                          refine ⟨by (first | omega | with_reducible assumption | with_reducible exact rng_toInt _ | with_reducible exact rng_wr _ | (unfold rng; omega) | (unfold rng at *; omega) | assumption), ?_⟩
                          have q24 := iσ.size mb_5
                          have qz24 := iσ.sz mb_5.1
                          exact ih100 (wr (v2 + gI σ b_5 2)) (v3 + 1) (by (first | omega | with_reducible assumption | with_reducible exact rng_toInt _ | with_reducible exact rng_wr _ | (unfold rng; omega) | (unfold rng at *; omega) | assumption)) (by (first | omega | with_reducible assumption | with_reducible exact rng_toInt _ | with_reducible exact rng_wr _ | (unfold rng; omega) | (unfold rng at *; omega) | assumption))
                        · rw [if_neg hc23]
                          have hc23q := Classical.not_not.mp hc23
                          unfold w_X9_toldOfRun_112
                          unfold w_X9_toldOfRun_123
                          obtain ⟨b_6, eb_6, fb_6⟩ := P_9_7 iσ.1 kth
                          have mb_6 : kO σ b_6 111 := iσ.1.kd kth rfl eb_6 rfl
                          refine ⟨b_6, eb_6, fun kk_b_6 => ?_⟩
                          refine ⟨⟨by (first | omega | with_reducible assumption | with_reducible exact rng_toInt _ | with_reducible exact rng_wr _ | (unfold rng; omega) | (unfold rng at *; omega) | assumption), by (first | omega | with_reducible assumption | with_reducible exact rng_toInt _ | with_reducible exact rng_wr _ | (unfold rng; omega) | (unfold rng at *; omega) | assumption)⟩, ?_⟩
                          obtain ⟨b_7, eb_7⟩ := P_111 iσ.1 mb_6 (k := v3.toNat) (by (first | omega | with_reducible assumption | with_reducible exact rng_toInt _ | with_reducible exact rng_wr _ | (unfold rng; omega) | (unfold rng at *; omega) | assumption))
                          have fb_7 := T_111 iσ.1 mb_6 eb_7
                          have mb_7 : kO σ b_7 1 := iσ.1.kd mb_6 rfl eb_7 rfl
                          refine ⟨b_7, eb_7, fun kk_b_7 => ?_⟩
                          refine ⟨by (first | omega | with_reducible assumption | with_reducible exact rng_toInt _ | with_reducible exact rng_wr _ | (unfold rng; omega) | (unfold rng at *; omega) | assumption), ?_⟩
                          have q25 := iσ.size mb_7
                          have qz25 := iσ.sz mb_7.1
                          exact ih100 (wr (v2 + gI σ b_7 2)) (v3 + 1) (by (first | omega | with_reducible assumption | with_reducible exact rng_toInt _ | with_reducible exact rng_wr _ | (unfold rng; omega) | (unfold rng at *; omega) | assumption)) (by (first | omega | with_reducible assumption | with_reducible exact rng_toInt _ | with_reducible exact rng_wr _ | (unfold rng; omega) | (unfold rng at *; omega) | assumption))
                  exact ⟨_, Lp100 _ _ _ (by (first | omega | with_reducible assumption | with_reducible exact rng_toInt _ | with_reducible exact rng_wr _ | (unfold rng; omega) | (unfold rng at *; omega) | assumption)) (Nat.lt_succ_self _)⟩
                · rw [if_neg hc21]
                  unfold w_X9_toldOfRun_138
                  exact hQ (-1) (trivial)
set_option maxHeartbeats 1000000 in
theorem i_X12_needRun {σ : Sg} {pl : Nat} {gq ci gr nc : Nat → Nat} {ot : Nat → Nat → Int} {LL : Nat → List Nat} {N nu : Nat → Nat} {th : Nat} {R D : Nat} (iσ : IV σ pl gq ci gr nc ot LL N nu) (kth : kO σ th 12) (hR : gP σ th 7 = some R) (kR : kO σ R 9) (hD : gP σ R 2 = some D) (kD : kO σ D 3) (h5 : nu 5 < 24000) {Q : Sg → Unit → Prop} {X : Sg → String → Prop} (hQ : ∀ (r : Unit), (nu 15 ≠ 0 ∧ gI σ D 9 = 0) → Q σ r) (hX : ∀ (σ' : Sg) (LL' : Nat → List Nat) (N' nu' : Nat → Nat) (E : String), IV σ' pl gq ci gr nc ot LL' N' nu' → Fx [] gr σ σ' → NX nu nu' → (LL' = LL ∧ N' = N ∧ (E = "java/lang/IllegalStateException")) → X σ' E) : wp_X12_needRun th σ Q X := by
  have tc9 := iσ.tc kR
  unfold wp_X12_needRun
  unfold w_X12_needRun_0
  refine ⟨R, hR, fun kk_R => ?_⟩
  have q2 := iσ.tc kR
  have q3 := I_9_10 iσ.1 kR
  by_cases hc1 : gI σ R 10 = 0
  · rw [if_pos hc1]
    unfold w_X12_needRun_23
    refine ⟨iσ.room, ?_⟩
    exact hX _ _ _ _ _ (iσ.bump (by (first | omega | with_reducible assumption | with_reducible exact rng_toInt _ | with_reducible exact rng_wr _ | (unfold rng; omega) | (unfold rng at *; omega) | assumption))) (Fx.bump) (NX.bump) (⟨rfl, rfl, by first | exact rfl | exact Or.inl rfl | exact Or.inr rfl | exact Or.inr (Or.inl rfl) | exact Or.inr (Or.inr rfl) | exact Or.inr (Or.inr (Or.inl rfl)) | exact Or.inr (Or.inr (Or.inr rfl))⟩)
  · rw [if_neg hc1]
    unfold w_X12_needRun_10
    refine ⟨R, hR, fun kk_R_1 => ?_⟩
    refine ⟨D, hD, fun kk_D => ?_⟩
    have q5 := I_3_9 iσ.1 kD
    by_cases hc4 : gI σ D 9 = 0
    · rw [if_pos hc4]
      unfold w_X12_needRun_31
      exact hQ () (by (first | omega | with_reducible assumption | with_reducible exact rng_toInt _ | with_reducible exact rng_wr _ | (unfold rng; omega) | (unfold rng at *; omega) | assumption))
    · rw [if_neg hc4]
      unfold w_X12_needRun_23
      refine ⟨iσ.room, ?_⟩
      exact hX _ _ _ _ _ (iσ.bump (by (first | omega | with_reducible assumption | with_reducible exact rng_toInt _ | with_reducible exact rng_wr _ | (unfold rng; omega) | (unfold rng at *; omega) | assumption))) (Fx.bump) (NX.bump) (⟨rfl, rfl, by first | exact rfl | exact Or.inl rfl | exact Or.inr rfl | exact Or.inr (Or.inl rfl) | exact Or.inr (Or.inr rfl) | exact Or.inr (Or.inr (Or.inl rfl)) | exact Or.inr (Or.inr (Or.inr rfl))⟩)
set_option maxHeartbeats 1000000 in
theorem i_X12_needWholeRun {σ : Sg} {pl : Nat} {gq ci gr nc : Nat → Nat} {ot : Nat → Nat → Int} {LL : Nat → List Nat} {N nu : Nat → Nat} {th : Nat} {R D : Nat} (iσ : IV σ pl gq ci gr nc ot LL N nu) (kth : kO σ th 12) (hR : gP σ th 7 = some R) (kR : kO σ R 9) (hD : gP σ R 2 = some D) (kD : kO σ D 3) (h5 : nu 5 < 24000) {Q : Sg → Unit → Prop} {X : Sg → String → Prop} (hQ : ∀ (r : Unit), (gI σ D 9 = 0 ∧ gI σ R 16 = 0) → Q σ r) (hX : ∀ (σ' : Sg) (LL' : Nat → List Nat) (N' nu' : Nat → Nat) (E : String), IV σ' pl gq ci gr nc ot LL' N' nu' → Fx [] gr σ σ' → NX nu nu' → (LL' = LL ∧ N' = N ∧ (E = "java/lang/IllegalStateException")) → X σ' E) : wp_X12_needWholeRun th σ Q X := by
  unfold wp_X12_needWholeRun
  unfold w_X12_needWholeRun_0
  refine ⟨R, hR, fun kk_R => ?_⟩
  refine ⟨D, hD, fun kk_D => ?_⟩
  have q2 := I_3_9 iσ.1 kD
  by_cases hc1 : gI σ D 9 ≠ 0
  · rw [if_pos hc1]
    unfold w_X12_needWholeRun_23
    refine ⟨iσ.room, ?_⟩
    exact hX _ _ _ _ _ (iσ.bump (by (first | omega | with_reducible assumption | with_reducible exact rng_toInt _ | with_reducible exact rng_wr _ | (unfold rng; omega) | (unfold rng at *; omega) | assumption))) (Fx.bump) (NX.bump) (⟨rfl, rfl, by first | exact rfl | exact Or.inl rfl | exact Or.inr rfl | exact Or.inr (Or.inl rfl) | exact Or.inr (Or.inr rfl) | exact Or.inr (Or.inr (Or.inl rfl)) | exact Or.inr (Or.inr (Or.inr rfl))⟩)
  · rw [if_neg hc1]
    have hc1q := Classical.not_not.mp hc1
    unfold w_X12_needWholeRun_13
    refine ⟨R, hR, fun kk_R_1 => ?_⟩
    have q4 := I_9_16 iσ.1 kR
    by_cases hc3 : gI σ R 16 = 0
    · rw [if_pos hc3]
      unfold w_X12_needWholeRun_31
      exact hQ () (by (first | omega | with_reducible assumption | with_reducible exact rng_toInt _ | with_reducible exact rng_wr _ | (unfold rng; omega) | (unfold rng at *; omega) | assumption))
    · rw [if_neg hc3]
      unfold w_X12_needWholeRun_23
      refine ⟨iσ.room, ?_⟩
      exact hX _ _ _ _ _ (iσ.bump (by (first | omega | with_reducible assumption | with_reducible exact rng_toInt _ | with_reducible exact rng_wr _ | (unfold rng; omega) | (unfold rng at *; omega) | assumption))) (Fx.bump) (NX.bump) (⟨rfl, rfl, by first | exact rfl | exact Or.inl rfl | exact Or.inr rfl | exact Or.inr (Or.inl rfl) | exact Or.inr (Or.inr rfl) | exact Or.inr (Or.inr (Or.inl rfl)) | exact Or.inr (Or.inr (Or.inr rfl))⟩)
set_option maxHeartbeats 1000000 in
theorem i_X12_needOutput {σ : Sg} {pl : Nat} {gq ci gr nc : Nat → Nat} {ot : Nat → Nat → Int} {LL : Nat → List Nat} {N nu : Nat → Nat} {th : Nat} {v1 : Int} {J : Nat} (iσ : IV σ pl gq ci gr nc ot LL N nu) (kth : kO σ th 12) (h4 : gP σ th 4 = some J) (kJ : kO σ J 4) (hJ : gq J = nc 0) (h5 : nu 5 < 24000) {Q : Sg → Unit → Prop} {X : Sg → String → Prop} (hQ : ∀ (r : Unit), (0 ≤ v1 ∧ v1 < (nc 2 : Int)) → Q σ r) (hX : ∀ (σ' : Sg) (LL' : Nat → List Nat) (N' nu' : Nat → Nat) (E : String), IV σ' pl gq ci gr nc ot LL' N' nu' → Fx [] gr σ σ' → NX nu nu' → (LL' = LL ∧ N' = N ∧ (E = "java/lang/IndexOutOfBoundsException")) → X σ' E) : wp_X12_needOutput th v1 σ Q X := by
  have jc := iσ.jc kJ hJ
  unfold wp_X12_needOutput
  unfold w_X12_needOutput_0
  by_cases hc1 : v1 < 0
  · rw [if_pos hc1]
    unfold w_X12_needOutput_15
    refine ⟨iσ.room, ?_⟩
    exact hX _ _ _ _ _ (iσ.bump (by (first | omega | with_reducible assumption | with_reducible exact rng_toInt _ | with_reducible exact rng_wr _ | (unfold rng; omega) | (unfold rng at *; omega) | assumption))) (Fx.bump) (NX.bump) (⟨rfl, rfl, by first | exact rfl | exact Or.inl rfl | exact Or.inr rfl | exact Or.inr (Or.inl rfl) | exact Or.inr (Or.inr rfl) | exact Or.inr (Or.inr (Or.inl rfl)) | exact Or.inr (Or.inr (Or.inr rfl))⟩)
  · rw [if_neg hc1]
    unfold w_X12_needOutput_4
    refine ⟨J, h4, fun kk_J => ?_⟩
    have q3 := I_4_2 iσ.1 kJ
    by_cases hc2 : v1 < gI σ J 2
    · rw [if_pos hc2]
      unfold w_X12_needOutput_23
      exact hQ () (by (first | omega | with_reducible assumption | with_reducible exact rng_toInt _ | with_reducible exact rng_wr _ | (unfold rng; omega) | (unfold rng at *; omega) | assumption))
    · rw [if_neg hc2]
      unfold w_X12_needOutput_15
      refine ⟨iσ.room, ?_⟩
      exact hX _ _ _ _ _ (iσ.bump (by (first | omega | with_reducible assumption | with_reducible exact rng_toInt _ | with_reducible exact rng_wr _ | (unfold rng; omega) | (unfold rng at *; omega) | assumption))) (Fx.bump) (NX.bump) (⟨rfl, rfl, by first | exact rfl | exact Or.inl rfl | exact Or.inr rfl | exact Or.inr (Or.inl rfl) | exact Or.inr (Or.inr rfl) | exact Or.inr (Or.inr (Or.inl rfl)) | exact Or.inr (Or.inr (Or.inr rfl))⟩)
set_option maxHeartbeats 1000000 in
theorem i_X12_visibleRow {σ : Sg} {pl : Nat} {gq ci gr nc : Nat → Nat} {ot : Nat → Nat → Int} {LL : Nat → List Nat} {N nu : Nat → Nat} {th : Nat} {v1 : Int} {v2 : Int} {J R : Nat} (iσ : IV σ pl gq ci gr nc ot LL N nu) (kth : kO σ th 12) (h4 : gP σ th 4 = some J) (kJ : kO σ J 4) (hJ : gq J = nc 0) (hR : gP σ th 7 = some R) (kR : kO σ R 9) (h5 : nu 5 < 24000) (h2 : rng v2) {Q : Sg → Option Nat → Prop} {X : Sg → String → Prop} (hQ : ∀ (cc : Nat), (0 ≤ v1 ∧ v1 < (nc 2 : Int)) → Q σ (some cc)) (hX : ∀ (σ' : Sg) (LL' : Nat → List Nat) (N' nu' : Nat → Nat) (E : String), IV σ' pl gq ci gr nc ot LL' N' nu' → Fx [] gr σ σ' → NX nu nu' → (LL' = LL ∧ N' = N ∧ (E = "java/lang/IndexOutOfBoundsException")) → X σ' E) : wp_X12_visibleRow th v1 v2 σ Q X := by
  have jc := iσ.jc kJ hJ
  have nc2 := iσ.ncb
  unfold wp_X12_visibleRow
  unfold w_X12_visibleRow_0
  refine i_X12_needOutput iσ kth h4 kJ (by (first | omega | with_reducible assumption | with_reducible exact rng_toInt _ | with_reducible exact rng_wr _ | (unfold rng; omega) | (unfold rng at *; omega) | assumption)) (by (first | omega | with_reducible assumption | with_reducible exact rng_toInt _ | with_reducible exact rng_wr _ | (unfold rng; omega) | (unfold rng at *; omega) | assumption)) (fun _ pσ7 => ?_) (fun σx LLx Nx nux E ix cx ux px => hX σx LLx Nx nux E ix (cx) (ux) (by first | exact px | exact ⟨px.1, px.2.1, Or.inl px.2.2⟩ | exact ⟨px.1, px.2.1, Or.inr px.2.2⟩ | exact ⟨px.1, px.2.1, Or.inr (Or.inl px.2.2)⟩ | exact ⟨px.1, px.2.1, Or.inr (Or.inr px.2.2)⟩ | exact ⟨px.1, px.2.1, Or.inr (Or.inr (Or.inl px.2.2))⟩ | exact ⟨px.1, px.2.1, Or.inr (Or.inr (Or.inr px.2.2))⟩))
  intro xσ7
  refine ⟨R, hR, fun kk_R => ?_⟩
  obtain ⟨b, eb, fb⟩ := P_9_8 iσ.1 kR
  have mb : kO σ b 111 := iσ.1.kd kR rfl eb rfl
  refine ⟨b, eb, fun kk_b => ?_⟩
  refine ⟨⟨by (first | omega | with_reducible assumption | with_reducible exact rng_toInt _ | with_reducible exact rng_wr _ | (unfold rng; omega) | (unfold rng at *; omega) | assumption), by (first | omega | with_reducible assumption | with_reducible exact rng_toInt _ | with_reducible exact rng_wr _ | (unfold rng; omega) | (unfold rng at *; omega) | assumption)⟩, ?_⟩
  obtain ⟨b_1, eb_1⟩ := P_111 iσ.1 mb (k := v1.toNat) (by (first | omega | with_reducible assumption | with_reducible exact rng_toInt _ | with_reducible exact rng_wr _ | (unfold rng; omega) | (unfold rng at *; omega) | assumption))
  have fb_1 := T_111 iσ.1 mb eb_1
  have mb_1 : kO σ b_1 1 := iσ.1.kd mb rfl eb_1 rfl
  refine ⟨b_1, eb_1, fun kk_b_1 => ?_⟩
  refine i_X1_at iσ mb_1 (by (first | omega | with_reducible assumption | with_reducible exact rng_toInt _ | with_reducible exact rng_wr _ | (unfold rng; omega) | (unfold rng at *; omega) | assumption)) (fun r11 pσ10 => ?_)
  intro xσ10
  intro tyt
  by_cases hc1 : r11 ≠ none
  · rw [if_pos hc1]
    unfold w_X12_visibleRow_31
    obtain ⟨b_2, eb_2⟩ := Option.ne_none_iff_exists'.mp hc1
    rw [show r11 = some b_2 from eb_2]
    exact hQ b_2 (by (first | omega | with_reducible assumption | with_reducible exact rng_toInt _ | with_reducible exact rng_wr _ | (unfold rng; omega) | (unfold rng at *; omega) | assumption))
  · rw [if_neg hc1]
    have hc1q := Classical.not_not.mp hc1
    unfold w_X12_visibleRow_23
    refine ⟨iσ.room, ?_⟩
    exact hX _ _ _ _ _ (iσ.bump (by (first | omega | with_reducible assumption | with_reducible exact rng_toInt _ | with_reducible exact rng_wr _ | (unfold rng; omega) | (unfold rng at *; omega) | assumption))) (Fx.bump) (NX.bump) (⟨rfl, rfl, by first | exact rfl | exact Or.inl rfl | exact Or.inr rfl | exact Or.inr (Or.inl rfl) | exact Or.inr (Or.inr rfl) | exact Or.inr (Or.inr (Or.inl rfl)) | exact Or.inr (Or.inr (Or.inr rfl))⟩)
set_option maxHeartbeats 1000000 in
theorem i_X12_fault {σ : Sg} {pl : Nat} {gq ci gr nc : Nat → Nat} {ot : Nat → Nat → Int} {LL : Nat → List Nat} {N nu : Nat → Nat} {th : Nat} (iσ : IV σ pl gq ci gr nc ot LL N nu) (kth : kO σ th 12) {Q : Sg → Int → Prop} {X : Sg → String → Prop} (hQ : ∀ (r : Int), (True) → Q σ r) : wp_X12_fault th σ Q X := by
  unfold wp_X12_fault
  unfold w_X12_fault_0
  have q1 := iσ.rg th 2; unfold rng at q1
  exact hQ (gI σ th 2) (trivial)
set_option maxHeartbeats 1000000 in
theorem i_X12_operator {σ : Sg} {pl : Nat} {gq ci gr nc : Nat → Nat} {ot : Nat → Nat → Int} {LL : Nat → List Nat} {N nu : Nat → Nat} {th : Nat} {v1 : Int} {v2 : Int} {J : Nat} (iσ : IV σ pl gq ci gr nc ot LL N nu) (kth : kO σ th 12) (h4 : gP σ th 4 = some J) (kJ : kO σ J 4) (hJ : gq J = nc 0) (h5 : nu 5 < 24000) {Q : Sg → Int64 → Prop} {X : Sg → String → Prop} (hQ : ∀ (r : Int64), (True) → Q σ r) (hX : ∀ (σ' : Sg) (LL' : Nat → List Nat) (N' nu' : Nat → Nat) (E : String), IV σ' pl gq ci gr nc ot LL' N' nu' → Fx [] gr σ σ' → NX nu nu' → (LL' = LL ∧ N' = N ∧ (E = "java/lang/IndexOutOfBoundsException" ∨ E = "java/lang/IllegalArgumentException")) → X σ' E) : wp_X12_operator th v1 v2 σ Q X := by
  have jc := iσ.jc kJ hJ
  have nc2 := iσ.ncb
  unfold wp_X12_operator
  unfold w_X12_operator_0
  by_cases hc1 : v1 < 0
  · rw [if_pos hc1]
    unfold w_X12_operator_15
    refine ⟨iσ.room, ?_⟩
    exact hX _ _ _ _ _ (iσ.bump (by (first | omega | with_reducible assumption | with_reducible exact rng_toInt _ | with_reducible exact rng_wr _ | (unfold rng; omega) | (unfold rng at *; omega) | assumption))) (Fx.bump) (NX.bump) (⟨rfl, rfl, by first | exact rfl | exact Or.inl rfl | exact Or.inr rfl | exact Or.inr (Or.inl rfl) | exact Or.inr (Or.inr rfl) | exact Or.inr (Or.inr (Or.inl rfl)) | exact Or.inr (Or.inr (Or.inr rfl))⟩)
  · rw [if_neg hc1]
    unfold w_X12_operator_4
    refine ⟨J, h4, fun kk_J => ?_⟩
    have q3 := I_4_1 iσ.1 kJ
    by_cases hc2 : v1 < gI σ J 1
    · rw [if_pos hc2]
      unfold w_X12_operator_23
      by_cases hc4 : v2 < 0
      · rw [if_pos hc4]
        unfold w_X12_operator_33
        refine ⟨iσ.room, ?_⟩
        exact hX _ _ _ _ _ (iσ.bump (by (first | omega | with_reducible assumption | with_reducible exact rng_toInt _ | with_reducible exact rng_wr _ | (unfold rng; omega) | (unfold rng at *; omega) | assumption))) (Fx.bump) (NX.bump) (⟨rfl, rfl, by first | exact rfl | exact Or.inl rfl | exact Or.inr rfl | exact Or.inr (Or.inl rfl) | exact Or.inr (Or.inr rfl) | exact Or.inr (Or.inr (Or.inl rfl)) | exact Or.inr (Or.inr (Or.inr rfl))⟩)
      · rw [if_neg hc4]
        unfold w_X12_operator_27
        by_cases hc5 : v2 ≤ 11
        · rw [if_pos hc5]
          unfold w_X12_operator_41
          refine ⟨J, h4, fun kk_J_1 => ?_⟩
          obtain ⟨b, eb, fb⟩ := P_4_0 iσ.1 kJ
          have mb : kO σ b 115 := iσ.1.kd kJ rfl eb rfl
          refine ⟨b, eb, fun kk_b => ?_⟩
          refine ⟨⟨by (first | omega | with_reducible assumption | with_reducible exact rng_toInt _ | with_reducible exact rng_wr _ | (unfold rng; omega) | (unfold rng at *; omega) | assumption), by (first | omega | with_reducible assumption | with_reducible exact rng_toInt _ | with_reducible exact rng_wr _ | (unfold rng; omega) | (unfold rng at *; omega) | assumption)⟩, ?_⟩
          by_cases hc6 : v2 = 0
          · rw [if_pos hc6]
            unfold w_X12_operator_84
            obtain ⟨b_1, eb_1⟩ := P_115 iσ.1 mb (k := v1.toNat) (by (first | omega | with_reducible assumption | with_reducible exact rng_toInt _ | with_reducible exact rng_wr _ | (unfold rng; omega) | (unfold rng at *; omega) | assumption))
            have fb_1 := T_115 iσ.1 mb eb_1
            have mb_1 : kO σ b_1 5 := iσ.1.kd mb rfl eb_1 rfl
            refine ⟨b_1, eb_1, fun kk_b_1 => ?_⟩
            have q7 := I_5_6 iσ.1 mb_1
            exact hQ (Int64.ofInt (gI σ b_1 6)) (trivial)
          · rw [if_neg hc6]
            by_cases hc8 : v2 = 1
            · rw [if_pos hc8]
              unfold w_X12_operator_90
              obtain ⟨b_2, eb_2⟩ := P_115 iσ.1 mb (k := v1.toNat) (by (first | omega | with_reducible assumption | with_reducible exact rng_toInt _ | with_reducible exact rng_wr _ | (unfold rng; omega) | (unfold rng at *; omega) | assumption))
              have fb_2 := T_115 iσ.1 mb eb_2
              have mb_2 : kO σ b_2 5 := iσ.1.kd mb rfl eb_2 rfl
              refine ⟨b_2, eb_2, fun kk_b_2 => ?_⟩
              have q9 := I_5_7 iσ.1 mb_2
              exact hQ (Int64.ofInt (gI σ b_2 7)) (trivial)
            · rw [if_neg hc8]
              by_cases hc10 : v2 = 2
              · rw [if_pos hc10]
                unfold w_X12_operator_96
                obtain ⟨b_3, eb_3⟩ := P_115 iσ.1 mb (k := v1.toNat) (by (first | omega | with_reducible assumption | with_reducible exact rng_toInt _ | with_reducible exact rng_wr _ | (unfold rng; omega) | (unfold rng at *; omega) | assumption))
                have fb_3 := T_115 iσ.1 mb eb_3
                have mb_3 : kO σ b_3 5 := iσ.1.kd mb rfl eb_3 rfl
                refine ⟨b_3, eb_3, fun kk_b_3 => ?_⟩
                have q11 := I_5_8 iσ.1 mb_3
                exact hQ (Int64.ofInt (gI σ b_3 8)) (trivial)
              · rw [if_neg hc10]
                by_cases hc12 : v2 = 3
                · rw [if_pos hc12]
                  unfold w_X12_operator_102
                  obtain ⟨b_4, eb_4⟩ := P_115 iσ.1 mb (k := v1.toNat) (by (first | omega | with_reducible assumption | with_reducible exact rng_toInt _ | with_reducible exact rng_wr _ | (unfold rng; omega) | (unfold rng at *; omega) | assumption))
                  have fb_4 := T_115 iσ.1 mb eb_4
                  have mb_4 : kO σ b_4 5 := iσ.1.kd mb rfl eb_4 rfl
                  refine ⟨b_4, eb_4, fun kk_b_4 => ?_⟩
                  have q13 := I_5_3 iσ.1 mb_4
                  exact hQ (Int64.ofInt (gI σ b_4 3)) (trivial)
                · rw [if_neg hc12]
                  unfold w_X12_operator_108
                  refine ⟨by (first | omega | with_reducible assumption | with_reducible exact rng_toInt _ | with_reducible exact rng_wr _ | (unfold rng; omega) | (unfold rng at *; omega) | assumption), ?_⟩
                  obtain ⟨b_5, eb_5⟩ := P_115 iσ.1 mb (k := v1.toNat) (by (first | omega | with_reducible assumption | with_reducible exact rng_toInt _ | with_reducible exact rng_wr _ | (unfold rng; omega) | (unfold rng at *; omega) | assumption))
                  have fb_5 := T_115 iσ.1 mb eb_5
                  have mb_5 : kO σ b_5 5 := iσ.1.kd mb rfl eb_5 rfl
                  refine ⟨b_5, eb_5, fun kk_b_5 => ?_⟩
                  have q15 := I_5_3 iσ.1 mb_5
                  by_cases hc14 : (v2 - 4) ≥ gI σ b_5 3
                  · rw [if_pos hc14]
                    unfold w_X12_operator_129
                    unfold w_X12_operator_130
                    exact hQ 0 (trivial)
                  · rw [if_neg hc14]
                    unfold w_X12_operator_118
                    refine ⟨b_5, eb_5, fun kk_b_5_1 => ?_⟩
                    refine ⟨by (first | omega | with_reducible assumption | with_reducible exact rng_toInt _ | with_reducible exact rng_wr _ | (unfold rng; omega) | (unfold rng at *; omega) | assumption), ?_⟩
                    obtain ⟨b_6, eb_6, fb_6⟩ := P_5_0 iσ.1 mb_5
                    have mb_6 : kO σ b_6 101 := iσ.1.kd mb_5 rfl eb_6 rfl
                    refine ⟨b_6, eb_6, fun kk_b_6 => ?_⟩
                    refine ⟨⟨by (first | omega | with_reducible assumption | with_reducible exact rng_toInt _ | with_reducible exact rng_wr _ | (unfold rng; omega) | (unfold rng at *; omega) | assumption), by (first | omega | with_reducible assumption | with_reducible exact rng_toInt _ | with_reducible exact rng_wr _ | (unfold rng; omega) | (unfold rng at *; omega) | assumption)⟩, ?_⟩
                    unfold w_X12_operator_130
                    exact hQ (gJ σ b_6 (v2 - 4).toNat) (trivial)
        · rw [if_neg hc5]
          unfold w_X12_operator_33
          refine ⟨iσ.room, ?_⟩
          exact hX _ _ _ _ _ (iσ.bump (by (first | omega | with_reducible assumption | with_reducible exact rng_toInt _ | with_reducible exact rng_wr _ | (unfold rng; omega) | (unfold rng at *; omega) | assumption))) (Fx.bump) (NX.bump) (⟨rfl, rfl, by first | exact rfl | exact Or.inl rfl | exact Or.inr rfl | exact Or.inr (Or.inl rfl) | exact Or.inr (Or.inr rfl) | exact Or.inr (Or.inr (Or.inl rfl)) | exact Or.inr (Or.inr (Or.inr rfl))⟩)
    · rw [if_neg hc2]
      unfold w_X12_operator_15
      refine ⟨iσ.room, ?_⟩
      exact hX _ _ _ _ _ (iσ.bump (by (first | omega | with_reducible assumption | with_reducible exact rng_toInt _ | with_reducible exact rng_wr _ | (unfold rng; omega) | (unfold rng at *; omega) | assumption))) (Fx.bump) (NX.bump) (⟨rfl, rfl, by first | exact rfl | exact Or.inl rfl | exact Or.inr rfl | exact Or.inr (Or.inl rfl) | exact Or.inr (Or.inr rfl) | exact Or.inr (Or.inr (Or.inl rfl)) | exact Or.inr (Or.inr (Or.inr rfl))⟩)
set_option maxHeartbeats 1000000 in
theorem i_X12_visible {σ : Sg} {pl : Nat} {gq ci gr nc : Nat → Nat} {ot : Nat → Nat → Int} {LL : Nat → List Nat} {N nu : Nat → Nat} {th : Nat} {v1 : Int} {J R : Nat} (iσ : IV σ pl gq ci gr nc ot LL N nu) (kth : kO σ th 12) (h4 : gP σ th 4 = some J) (kJ : kO σ J 4) (hJ : gq J = nc 0) (hR : gP σ th 7 = some R) (kR : kO σ R 9) (h5 : nu 5 < 24000) {Q : Sg → Int → Prop} {X : Sg → String → Prop} (hQ : ∀ (r : Int), (True) → Q σ r) (hX : ∀ (σ' : Sg) (LL' : Nat → List Nat) (N' nu' : Nat → Nat) (E : String), IV σ' pl gq ci gr nc ot LL' N' nu' → Fx [] gr σ σ' → NX nu nu' → (LL' = LL ∧ N' = N ∧ (E = "java/lang/IndexOutOfBoundsException")) → X σ' E) : wp_X12_visible th v1 σ Q X := by
  have jc := iσ.jc kJ hJ
  have nc2 := iσ.ncb
  unfold wp_X12_visible
  unfold w_X12_visible_0
  refine i_X12_needOutput iσ kth h4 kJ (by (first | omega | with_reducible assumption | with_reducible exact rng_toInt _ | with_reducible exact rng_wr _ | (unfold rng; omega) | (unfold rng at *; omega) | assumption)) (by (first | omega | with_reducible assumption | with_reducible exact rng_toInt _ | with_reducible exact rng_wr _ | (unfold rng; omega) | (unfold rng at *; omega) | assumption)) (fun _ pσ5 => ?_) (fun σx LLx Nx nux E ix cx ux px => hX σx LLx Nx nux E ix (cx) (ux) (by first | exact px | exact ⟨px.1, px.2.1, Or.inl px.2.2⟩ | exact ⟨px.1, px.2.1, Or.inr px.2.2⟩ | exact ⟨px.1, px.2.1, Or.inr (Or.inl px.2.2)⟩ | exact ⟨px.1, px.2.1, Or.inr (Or.inr px.2.2)⟩ | exact ⟨px.1, px.2.1, Or.inr (Or.inr (Or.inl px.2.2))⟩ | exact ⟨px.1, px.2.1, Or.inr (Or.inr (Or.inr px.2.2))⟩))
  intro xσ5
  refine ⟨R, hR, fun kk_R => ?_⟩
  obtain ⟨b, eb, fb⟩ := P_9_8 iσ.1 kR
  have mb : kO σ b 111 := iσ.1.kd kR rfl eb rfl
  refine ⟨b, eb, fun kk_b => ?_⟩
  refine ⟨⟨by (first | omega | with_reducible assumption | with_reducible exact rng_toInt _ | with_reducible exact rng_wr _ | (unfold rng; omega) | (unfold rng at *; omega) | assumption), by (first | omega | with_reducible assumption | with_reducible exact rng_toInt _ | with_reducible exact rng_wr _ | (unfold rng; omega) | (unfold rng at *; omega) | assumption)⟩, ?_⟩
  obtain ⟨b_1, eb_1⟩ := P_111 iσ.1 mb (k := v1.toNat) (by (first | omega | with_reducible assumption | with_reducible exact rng_toInt _ | with_reducible exact rng_wr _ | (unfold rng; omega) | (unfold rng at *; omega) | assumption))
  have fb_1 := T_111 iσ.1 mb eb_1
  have mb_1 : kO σ b_1 1 := iσ.1.kd mb rfl eb_1 rfl
  refine ⟨b_1, eb_1, fun kk_b_1 => ?_⟩
  have q1 := iσ.size mb_1
  have qz1 := iσ.sz mb_1.1
  exact hQ (gI σ b_1 2) (trivial)
set_option maxHeartbeats 1000000 in
theorem i_X12_row {σ : Sg} {pl : Nat} {gq ci gr nc : Nat → Nat} {ot : Nat → Nat → Int} {LL : Nat → List Nat} {N nu : Nat → Nat} {th : Nat} {v1 : Int} {v2 : Int} {v3 : Int} {J R : Nat} (iσ : IV σ pl gq ci gr nc ot LL N nu) (kth : kO σ th 12) (h4 : gP σ th 4 = some J) (kJ : kO σ J 4) (hJ : gq J = nc 0) (hR : gP σ th 7 = some R) (kR : kO σ R 9) (h5 : nu 5 < 24000) (h2 : rng v2) {Q : Sg → Int64 → Prop} {X : Sg → String → Prop} (hQ : ∀ (r : Int64), (True) → Q σ r) (hX : ∀ (σ' : Sg) (LL' : Nat → List Nat) (N' nu' : Nat → Nat) (E : String), IV σ' pl gq ci gr nc ot LL' N' nu' → Fx [] gr σ σ' → NX nu nu' → (LL' = LL ∧ N' = N ∧ (E = "java/lang/IndexOutOfBoundsException")) → X σ' E) : wp_X12_row th v1 v2 v3 σ Q X := by
  have jc := iσ.jc kJ hJ
  have nc2 := iσ.ncb
  unfold wp_X12_row
  unfold w_X12_row_0
  refine i_X12_visibleRow iσ kth h4 kJ (by (first | omega | with_reducible assumption | with_reducible exact rng_toInt _ | with_reducible exact rng_wr _ | (unfold rng; omega) | (unfold rng at *; omega) | assumption)) hR kR (by (first | omega | with_reducible assumption | with_reducible exact rng_toInt _ | with_reducible exact rng_wr _ | (unfold rng; omega) | (unfold rng at *; omega) | assumption)) (by (first | omega | with_reducible assumption | with_reducible exact rng_toInt _ | with_reducible exact rng_wr _ | (unfold rng; omega) | (unfold rng at *; omega) | assumption)) (fun c_σ10 pσ10 => ?_) (fun σx LLx Nx nux E ix cx ux px => hX σx LLx Nx nux E ix (cx) (ux) (by first | exact px | exact ⟨px.1, px.2.1, Or.inl px.2.2⟩ | exact ⟨px.1, px.2.1, Or.inr px.2.2⟩ | exact ⟨px.1, px.2.1, Or.inr (Or.inl px.2.2)⟩ | exact ⟨px.1, px.2.1, Or.inr (Or.inr px.2.2)⟩ | exact ⟨px.1, px.2.1, Or.inr (Or.inr (Or.inl px.2.2))⟩ | exact ⟨px.1, px.2.1, Or.inr (Or.inr (Or.inr px.2.2))⟩))
  intro xσ10
  intro tyt
  have krc_σ10 : kO σ c_σ10 0 := tyt c_σ10 rfl
  by_cases hc1 : v3 < (-1)
  · rw [if_pos hc1]
    unfold w_X12_row_28
    refine ⟨iσ.room, ?_⟩
    exact hX _ _ _ _ _ (iσ.bump (by (first | omega | with_reducible assumption | with_reducible exact rng_toInt _ | with_reducible exact rng_wr _ | (unfold rng; omega) | (unfold rng at *; omega) | assumption))) (Fx.bump) (NX.bump) (⟨rfl, rfl, by first | exact rfl | exact Or.inl rfl | exact Or.inr rfl | exact Or.inr (Or.inl rfl) | exact Or.inr (Or.inr rfl) | exact Or.inr (Or.inr (Or.inl rfl)) | exact Or.inr (Or.inr (Or.inr rfl))⟩)
  · rw [if_neg hc1]
    unfold w_X12_row_13
    refine ⟨J, h4, fun kk_J => ?_⟩
    refine i_X4_outputOp iσ kJ (by (first | omega | with_reducible assumption | with_reducible exact rng_toInt _ | with_reducible exact rng_wr _ | (unfold rng; omega) | (unfold rng at *; omega) | assumption)) (fun c_σ12 pσ12 => ?_)
    intro xσ12
    intro tyt_1
    have krc_σ12 : kO σ c_σ12 5 := tyt_1 c_σ12 rfl
    refine ⟨c_σ12, rfl, fun kk_c_σ12 => ?_⟩
    have q3 := I_5_3 iσ.1 krc_σ12
    by_cases hc2 : v3 < gI σ c_σ12 3
    · rw [if_pos hc2]
      unfold w_X12_row_36
      by_cases hc4 : v3 ≠ (-1)
      · rw [if_pos hc4]
        unfold w_X12_row_49
        refine ⟨c_σ10, rfl, fun kk_c_σ10 => ?_⟩
        obtain ⟨b, eb, fb⟩ := P_0_0 iσ.1 krc_σ10
        have mb : kO σ b 101 := iσ.1.kd krc_σ10 rfl eb rfl
        refine ⟨b, eb, fun kk_b => ?_⟩
        refine ⟨⟨by (first | omega | with_reducible assumption | with_reducible exact rng_toInt _ | with_reducible exact rng_wr _ | (unfold rng; omega) | (unfold rng at *; omega) | assumption), by (first | omega | with_reducible assumption | with_reducible exact rng_toInt _ | with_reducible exact rng_wr _ | (unfold rng; omega) | (unfold rng at *; omega) | assumption)⟩, ?_⟩
        unfold w_X12_row_56
        exact hQ (gJ σ b v3.toNat) (trivial)
      · rw [if_neg hc4]
        have hc4q := Classical.not_not.mp hc4
        unfold w_X12_row_41
        refine ⟨c_σ10, rfl, fun kk_c_σ10_1 => ?_⟩
        unfold w_X12_row_56
        exact hQ (gJ σ c_σ10 5) (trivial)
    · rw [if_neg hc2]
      unfold w_X12_row_28
      refine ⟨iσ.room, ?_⟩
      exact hX _ _ _ _ _ (iσ.bump (by (first | omega | with_reducible assumption | with_reducible exact rng_toInt _ | with_reducible exact rng_wr _ | (unfold rng; omega) | (unfold rng at *; omega) | assumption))) (Fx.bump) (NX.bump) (⟨rfl, rfl, by first | exact rfl | exact Or.inl rfl | exact Or.inr rfl | exact Or.inr (Or.inl rfl) | exact Or.inr (Or.inr rfl) | exact Or.inr (Or.inr (Or.inl rfl)) | exact Or.inr (Or.inr (Or.inr rfl))⟩)
set_option maxHeartbeats 1000000 in
theorem i_X12_lineage {σ : Sg} {pl : Nat} {gq ci gr nc : Nat → Nat} {ot : Nat → Nat → Int} {LL : Nat → List Nat} {N nu : Nat → Nat} {th : Nat} {v1 : Int} {v2 : Int} {v3 : Int} {J R : Nat} (iσ : IV σ pl gq ci gr nc ot LL N nu) (kth : kO σ th 12) (h4 : gP σ th 4 = some J) (kJ : kO σ J 4) (hJ : gq J = nc 0) (hR : gP σ th 7 = some R) (kR : kO σ R 9) (h5 : nu 5 < 24000) (h2 : rng v2) {Q : Sg → Int → Prop} {X : Sg → String → Prop} (hQ : ∀ (r : Int), (True) → Q σ r) (hX : ∀ (σ' : Sg) (LL' : Nat → List Nat) (N' nu' : Nat → Nat) (E : String), IV σ' pl gq ci gr nc ot LL' N' nu' → Fx [] gr σ σ' → NX nu nu' → (LL' = LL ∧ N' = N ∧ (E = "java/lang/IndexOutOfBoundsException")) → X σ' E) : wp_X12_lineage th v1 v2 v3 σ Q X := by
  have jc := iσ.jc kJ hJ
  unfold wp_X12_lineage
  unfold w_X12_lineage_0
  refine i_X12_visibleRow iσ kth h4 kJ (by (first | omega | with_reducible assumption | with_reducible exact rng_toInt _ | with_reducible exact rng_wr _ | (unfold rng; omega) | (unfold rng at *; omega) | assumption)) hR kR (by (first | omega | with_reducible assumption | with_reducible exact rng_toInt _ | with_reducible exact rng_wr _ | (unfold rng; omega) | (unfold rng at *; omega) | assumption)) (by (first | omega | with_reducible assumption | with_reducible exact rng_toInt _ | with_reducible exact rng_wr _ | (unfold rng; omega) | (unfold rng at *; omega) | assumption)) (fun c_σ11 pσ11 => ?_) (fun σx LLx Nx nux E ix cx ux px => hX σx LLx Nx nux E ix (cx) (ux) (by first | exact px | exact ⟨px.1, px.2.1, Or.inl px.2.2⟩ | exact ⟨px.1, px.2.1, Or.inr px.2.2⟩ | exact ⟨px.1, px.2.1, Or.inr (Or.inl px.2.2)⟩ | exact ⟨px.1, px.2.1, Or.inr (Or.inr px.2.2)⟩ | exact ⟨px.1, px.2.1, Or.inr (Or.inr (Or.inl px.2.2))⟩ | exact ⟨px.1, px.2.1, Or.inr (Or.inr (Or.inr px.2.2))⟩))
  intro xσ11
  intro tyt
  have krc_σ11 : kO σ c_σ11 0 := tyt c_σ11 rfl
  by_cases hc1 : v3 ≠ (-1)
  · rw [if_pos hc1]
    unfold w_X12_lineage_26
    refine ⟨c_σ11, rfl, fun kk_c_σ11 => ?_⟩
    obtain ⟨b, eb⟩ := P_12_6 iσ.1 kth
    refine ⟨b, eb, fun kk_b => ?_⟩
    have q2 := I_0_4 iσ.1 krc_σ11
    refine i_X8_memberOf iσ kk_b (by (first | omega | with_reducible assumption | with_reducible exact rng_toInt _ | with_reducible exact rng_wr _ | (unfold rng; omega) | (unfold rng at *; omega) | assumption)) (fun r19 pσ18 => ?_)
    intro xσ18
    by_cases hc3 : r19 ≠ (-1)
    · rw [if_pos hc3]
      unfold w_X12_lineage_55
      exact hQ r19 (trivial)
    · rw [if_neg hc3]
      have hc3q := Classical.not_not.mp hc3
      unfold w_X12_lineage_47
      refine ⟨iσ.room, ?_⟩
      exact hX _ _ _ _ _ (iσ.bump (by (first | omega | with_reducible assumption | with_reducible exact rng_toInt _ | with_reducible exact rng_wr _ | (unfold rng; omega) | (unfold rng at *; omega) | assumption))) (Fx.bump) (NX.bump) (⟨rfl, rfl, by first | exact rfl | exact Or.inl rfl | exact Or.inr rfl | exact Or.inr (Or.inl rfl) | exact Or.inr (Or.inr rfl) | exact Or.inr (Or.inr (Or.inl rfl)) | exact Or.inr (Or.inr (Or.inr rfl))⟩)
  · rw [if_neg hc1]
    have hc1q := Classical.not_not.mp hc1
    unfold w_X12_lineage_13
    refine ⟨c_σ11, rfl, fun kk_c_σ11_1 => ?_⟩
    obtain ⟨b_1, eb_1⟩ := P_12_6 iσ.1 kth
    refine ⟨b_1, eb_1, fun kk_b_1 => ?_⟩
    have q4 := I_0_4 iσ.1 krc_σ11
    refine i_X8_membersOf iσ kk_b_1 (by (first | omega | with_reducible assumption | with_reducible exact rng_toInt _ | with_reducible exact rng_wr _ | (unfold rng; omega) | (unfold rng at *; omega) | assumption)) (fun r15 pσ14 => ?_)
    intro xσ14
    exact hQ r15 (trivial)
set_option maxHeartbeats 1000000 in
theorem i_X12_task {σ : Sg} {pl : Nat} {gq ci gr nc : Nat → Nat} {ot : Nat → Nat → Int} {LL : Nat → List Nat} {N nu : Nat → Nat} {th : Nat} {v1 : Int} {v2 : Int} {J R D W : Nat} (iσ : IV σ pl gq ci gr nc ot LL N nu) (kth : kO σ th 12) (h4 : gP σ th 4 = some J) (kJ : kO σ J 4) (hJ : gq J = nc 0) (hR : gP σ th 7 = some R) (kR : kO σ R 9) (hD : gP σ R 2 = some D) (kD : kO σ D 3) (hW : gP σ R 1 = some W) (kW : kO σ W 11) (hu : HU σ nc nu J R W D) (h5 : nu 5 < 24000) {Q : Sg → Int64 → Prop} {X : Sg → String → Prop} (hQ : ∀ (r : Int64), (True) → Q σ r) (hX : ∀ (σ' : Sg) (LL' : Nat → List Nat) (N' nu' : Nat → Nat) (E : String), IV σ' pl gq ci gr nc ot LL' N' nu' → Fx [] gr σ σ' → NX nu nu' → (LL' = LL ∧ N' = N ∧ (E = "java/lang/IndexOutOfBoundsException" ∨ E = "java/lang/IllegalStateException" ∨ E = "java/lang/IllegalArgumentException")) → X σ' E) : wp_X12_task th v1 v2 σ Q X := by
  have jc := iσ.jc kJ hJ
  have tc9 := iσ.tc kR
  have n16 := iσ.n16
  unfold wp_X12_task
  unfold w_X12_task_0
  by_cases hc1 : v1 < 0
  · rw [if_pos hc1]
    unfold w_X12_task_15
    refine ⟨iσ.room, ?_⟩
    exact hX _ _ _ _ _ (iσ.bump (by (first | omega | with_reducible assumption | with_reducible exact rng_toInt _ | with_reducible exact rng_wr _ | (unfold rng; omega) | (unfold rng at *; omega) | assumption))) (Fx.bump) (NX.bump) (⟨rfl, rfl, by first | exact rfl | exact Or.inl rfl | exact Or.inr rfl | exact Or.inr (Or.inl rfl) | exact Or.inr (Or.inr rfl) | exact Or.inr (Or.inr (Or.inl rfl)) | exact Or.inr (Or.inr (Or.inr rfl))⟩)
  · rw [if_neg hc1]
    unfold w_X12_task_4
    refine ⟨R, hR, fun kk_R => ?_⟩
    have q3 := iσ.tc kR
    have q4 := I_9_10 iσ.1 kR
    by_cases hc2 : v1 < gI σ R 10
    · rw [if_pos hc2]
      unfold w_X12_task_23
      refine i_X12_needWholeRun iσ kth hR kR hD kD (by (first | omega | with_reducible assumption | with_reducible exact rng_toInt _ | with_reducible exact rng_wr _ | (unfold rng; omega) | (unfold rng at *; omega) | assumption)) (fun _ pσ8 => ?_) (fun σx LLx Nx nux E ix cx ux px => hX σx LLx Nx nux E ix (cx) (ux) (by first | exact px | exact ⟨px.1, px.2.1, Or.inl px.2.2⟩ | exact ⟨px.1, px.2.1, Or.inr px.2.2⟩ | exact ⟨px.1, px.2.1, Or.inr (Or.inl px.2.2)⟩ | exact ⟨px.1, px.2.1, Or.inr (Or.inr px.2.2)⟩ | exact ⟨px.1, px.2.1, Or.inr (Or.inr (Or.inl px.2.2))⟩ | exact ⟨px.1, px.2.1, Or.inr (Or.inr (Or.inr px.2.2))⟩))
      intro xσ8
      by_cases hc5 : v2 < 0
      · rw [if_pos hc5]
        unfold w_X12_task_37
        refine ⟨iσ.room, ?_⟩
        exact hX _ _ _ _ _ (iσ.bump (by (first | omega | with_reducible assumption | with_reducible exact rng_toInt _ | with_reducible exact rng_wr _ | (unfold rng; omega) | (unfold rng at *; omega) | assumption))) (Fx.bump) (NX.bump) (⟨rfl, rfl, by first | exact rfl | exact Or.inl rfl | exact Or.inr rfl | exact Or.inr (Or.inl rfl) | exact Or.inr (Or.inr rfl) | exact Or.inr (Or.inr (Or.inl rfl)) | exact Or.inr (Or.inr (Or.inr rfl))⟩)
      · rw [if_neg hc5]
        unfold w_X12_task_31
        by_cases hc6 : v2 ≤ 8
        · rw [if_pos hc6]
          unfold w_X12_task_45
          refine ⟨R, hR, fun kk_R_1 => ?_⟩
          obtain ⟨b, eb, fb⟩ := P_9_3 iσ.1 kR
          have mb : kO σ b 120 := iσ.1.kd kR rfl eb rfl
          refine ⟨b, eb, fun kk_b => ?_⟩
          refine ⟨⟨by (first | omega | with_reducible assumption | with_reducible exact rng_toInt _ | with_reducible exact rng_wr _ | (unfold rng; omega) | (unfold rng at *; omega) | assumption), by (first | omega | with_reducible assumption | with_reducible exact rng_toInt _ | with_reducible exact rng_wr _ | (unfold rng; omega) | (unfold rng at *; omega) | assumption)⟩, ?_⟩
          have n16b_1 := iσ.n16
          obtain ⟨b_1, eb_1, mb_1, fb_1⟩ := P_120 iσ mb (by omega) (k := v1.toNat) (by (first | omega | with_reducible assumption | with_reducible exact rng_toInt _ | with_reducible exact rng_wr _ | (unfold rng; omega) | (unfold rng at *; omega) | assumption))
          refine i_X9_ofTask iσ kR eb_1 mb_1 (hu.1 (by omega)).1 kJ (by (first | omega | with_reducible assumption | with_reducible exact rng_toInt _ | with_reducible exact rng_wr _ | (unfold rng; omega) | (unfold rng at *; omega) | assumption)) (by have to9 := iσ.tko mb_1 (by omega) (by omega); have hu9 := hu.1 (by omega); have r0 := I_10_0 iσ.1 mb_1; omega) (fun r12 pσ11 => ?_)
          intro xσ11
          exact hQ r12 (trivial)
        · rw [if_neg hc6]
          unfold w_X12_task_37
          refine ⟨iσ.room, ?_⟩
          exact hX _ _ _ _ _ (iσ.bump (by (first | omega | with_reducible assumption | with_reducible exact rng_toInt _ | with_reducible exact rng_wr _ | (unfold rng; omega) | (unfold rng at *; omega) | assumption))) (Fx.bump) (NX.bump) (⟨rfl, rfl, by first | exact rfl | exact Or.inl rfl | exact Or.inr rfl | exact Or.inr (Or.inl rfl) | exact Or.inr (Or.inr rfl) | exact Or.inr (Or.inr (Or.inl rfl)) | exact Or.inr (Or.inr (Or.inr rfl))⟩)
    · rw [if_neg hc2]
      unfold w_X12_task_15
      refine ⟨iσ.room, ?_⟩
      exact hX _ _ _ _ _ (iσ.bump (by (first | omega | with_reducible assumption | with_reducible exact rng_toInt _ | with_reducible exact rng_wr _ | (unfold rng; omega) | (unfold rng at *; omega) | assumption))) (Fx.bump) (NX.bump) (⟨rfl, rfl, by first | exact rfl | exact Or.inl rfl | exact Or.inr rfl | exact Or.inr (Or.inl rfl) | exact Or.inr (Or.inr rfl) | exact Or.inr (Or.inr (Or.inl rfl)) | exact Or.inr (Or.inr (Or.inr rfl))⟩)
set_option maxHeartbeats 1000000 in
theorem i_X12_channel {σ : Sg} {pl : Nat} {gq ci gr nc : Nat → Nat} {ot : Nat → Nat → Int} {LL : Nat → List Nat} {N nu : Nat → Nat} {th : Nat} {v1 : Int} {v2 : Int} {R D : Nat} (iσ : IV σ pl gq ci gr nc ot LL N nu) (kth : kO σ th 12) (hR : gP σ th 7 = some R) (kR : kO σ R 9) (hD : gP σ R 2 = some D) (kD : kO σ D 3) (h5 : nu 5 < 24000) {Q : Sg → Int64 → Prop} {X : Sg → String → Prop} (hQ : ∀ (r : Int64), (True) → Q σ r) (hX : ∀ (σ' : Sg) (LL' : Nat → List Nat) (N' nu' : Nat → Nat) (E : String), IV σ' pl gq ci gr nc ot LL' N' nu' → Fx [] gr σ σ' → NX nu nu' → (LL' = LL ∧ N' = N ∧ (E = "java/lang/IndexOutOfBoundsException" ∨ E = "java/lang/IllegalStateException" ∨ E = "java/lang/IllegalArgumentException")) → X σ' E) : wp_X12_channel th v1 v2 σ Q X := by
  have tc9 := iσ.tc kR
  have n16 := iσ.n16
  unfold wp_X12_channel
  unfold w_X12_channel_0
  by_cases hc1 : v1 < 0
  · rw [if_pos hc1]
    unfold w_X12_channel_15
    refine ⟨iσ.room, ?_⟩
    exact hX _ _ _ _ _ (iσ.bump (by (first | omega | with_reducible assumption | with_reducible exact rng_toInt _ | with_reducible exact rng_wr _ | (unfold rng; omega) | (unfold rng at *; omega) | assumption))) (Fx.bump) (NX.bump) (⟨rfl, rfl, by first | exact rfl | exact Or.inl rfl | exact Or.inr rfl | exact Or.inr (Or.inl rfl) | exact Or.inr (Or.inr rfl) | exact Or.inr (Or.inr (Or.inl rfl)) | exact Or.inr (Or.inr (Or.inr rfl))⟩)
  · rw [if_neg hc1]
    unfold w_X12_channel_4
    refine ⟨R, hR, fun kk_R => ?_⟩
    have q3 := iσ.tc kR
    have q4 := I_9_11 iσ.1 kR
    by_cases hc2 : v1 < gI σ R 11
    · rw [if_pos hc2]
      unfold w_X12_channel_23
      refine i_X12_needWholeRun iσ kth hR kR hD kD (by (first | omega | with_reducible assumption | with_reducible exact rng_toInt _ | with_reducible exact rng_wr _ | (unfold rng; omega) | (unfold rng at *; omega) | assumption)) (fun _ pσ9 => ?_) (fun σx LLx Nx nux E ix cx ux px => hX σx LLx Nx nux E ix (cx) (ux) (by first | exact px | exact ⟨px.1, px.2.1, Or.inl px.2.2⟩ | exact ⟨px.1, px.2.1, Or.inr px.2.2⟩ | exact ⟨px.1, px.2.1, Or.inr (Or.inl px.2.2)⟩ | exact ⟨px.1, px.2.1, Or.inr (Or.inr px.2.2)⟩ | exact ⟨px.1, px.2.1, Or.inr (Or.inr (Or.inl px.2.2))⟩ | exact ⟨px.1, px.2.1, Or.inr (Or.inr (Or.inr px.2.2))⟩))
      intro xσ9
      by_cases hc5 : v2 < 0
      · rw [if_pos hc5]
        unfold w_X12_channel_36
        refine ⟨iσ.room, ?_⟩
        exact hX _ _ _ _ _ (iσ.bump (by (first | omega | with_reducible assumption | with_reducible exact rng_toInt _ | with_reducible exact rng_wr _ | (unfold rng; omega) | (unfold rng at *; omega) | assumption))) (Fx.bump) (NX.bump) (⟨rfl, rfl, by first | exact rfl | exact Or.inl rfl | exact Or.inr rfl | exact Or.inr (Or.inl rfl) | exact Or.inr (Or.inr rfl) | exact Or.inr (Or.inr (Or.inl rfl)) | exact Or.inr (Or.inr (Or.inr rfl))⟩)
      · rw [if_neg hc5]
        unfold w_X12_channel_31
        by_cases hc6 : v2 ≤ 5
        · rw [if_pos hc6]
          unfold w_X12_channel_44
          refine ⟨R, hR, fun kk_R_1 => ?_⟩
          obtain ⟨b, eb, fb⟩ := P_9_4 iσ.1 kR
          have mb : kO σ b 112 := iσ.1.kd kR rfl eb rfl
          refine ⟨b, eb, fun kk_b => ?_⟩
          refine ⟨⟨by (first | omega | with_reducible assumption | with_reducible exact rng_toInt _ | with_reducible exact rng_wr _ | (unfold rng; omega) | (unfold rng at *; omega) | assumption), by (first | omega | with_reducible assumption | with_reducible exact rng_toInt _ | with_reducible exact rng_wr _ | (unfold rng; omega) | (unfold rng at *; omega) | assumption)⟩, ?_⟩
          have n16b_1 := iσ.n16
          obtain ⟨b_1, eb_1, mb_1, fb_1⟩ := P_112 iσ mb (k := v1.toNat) (by (first | omega | with_reducible assumption | with_reducible exact rng_toInt _ | with_reducible exact rng_wr _ | (unfold rng; omega) | (unfold rng at *; omega) | assumption))
          refine ⟨b_1, eb_1, fun kk_b_1 => ?_⟩
          refine i_X2_ofChannel iσ mb_1 (fun r13 pσ12 => ?_)
          intro xσ12
          exact hQ r13 (trivial)
        · rw [if_neg hc6]
          unfold w_X12_channel_36
          refine ⟨iσ.room, ?_⟩
          exact hX _ _ _ _ _ (iσ.bump (by (first | omega | with_reducible assumption | with_reducible exact rng_toInt _ | with_reducible exact rng_wr _ | (unfold rng; omega) | (unfold rng at *; omega) | assumption))) (Fx.bump) (NX.bump) (⟨rfl, rfl, by first | exact rfl | exact Or.inl rfl | exact Or.inr rfl | exact Or.inr (Or.inl rfl) | exact Or.inr (Or.inr rfl) | exact Or.inr (Or.inr (Or.inl rfl)) | exact Or.inr (Or.inr (Or.inr rfl))⟩)
    · rw [if_neg hc2]
      unfold w_X12_channel_15
      refine ⟨iσ.room, ?_⟩
      exact hX _ _ _ _ _ (iσ.bump (by (first | omega | with_reducible assumption | with_reducible exact rng_toInt _ | with_reducible exact rng_wr _ | (unfold rng; omega) | (unfold rng at *; omega) | assumption))) (Fx.bump) (NX.bump) (⟨rfl, rfl, by first | exact rfl | exact Or.inl rfl | exact Or.inr rfl | exact Or.inr (Or.inl rfl) | exact Or.inr (Or.inr rfl) | exact Or.inr (Or.inr (Or.inl rfl)) | exact Or.inr (Or.inr (Or.inr rfl))⟩)
set_option maxHeartbeats 1000000 in
theorem i_X12_records {σ : Sg} {pl : Nat} {gq ci gr nc : Nat → Nat} {ot : Nat → Nat → Int} {LL : Nat → List Nat} {N nu : Nat → Nat} {th : Nat} {v1 : Int} {v2 : Int64} {J R D : Nat} (iσ : IV σ pl gq ci gr nc ot LL N nu) (kth : kO σ th 12) (h4 : gP σ th 4 = some J) (kJ : kO σ J 4) (hJ : gq J = nc 0) (hR : gP σ th 7 = some R) (kR : kO σ R 9) (hD : gP σ R 2 = some D) (kD : kO σ D 3) (h5 : nu 5 < 24000) {Q : Sg → Int → Prop} {X : Sg → String → Prop} (hQ : ∀ (r : Int), (True) → Q σ r) (hX : ∀ (σ' : Sg) (LL' : Nat → List Nat) (N' nu' : Nat → Nat) (E : String), IV σ' pl gq ci gr nc ot LL' N' nu' → Fx [] gr σ σ' → NX nu nu' → (LL' = LL ∧ N' = N ∧ (E = "java/lang/IndexOutOfBoundsException" ∨ E = "java/lang/IllegalStateException" ∨ E = "java/lang/IllegalArgumentException")) → X σ' E) : wp_X12_records th v1 v2 σ Q X := by
  have jc := iσ.jc kJ hJ
  have nc2 := iσ.ncb
  unfold wp_X12_records
  unfold w_X12_records_0
  by_cases hc1 : v1 < 0
  · rw [if_pos hc1]
    unfold w_X12_records_15
    refine ⟨iσ.room, ?_⟩
    exact hX _ _ _ _ _ (iσ.bump (by (first | omega | with_reducible assumption | with_reducible exact rng_toInt _ | with_reducible exact rng_wr _ | (unfold rng; omega) | (unfold rng at *; omega) | assumption))) (Fx.bump) (NX.bump) (⟨rfl, rfl, by first | exact rfl | exact Or.inl rfl | exact Or.inr rfl | exact Or.inr (Or.inl rfl) | exact Or.inr (Or.inr rfl) | exact Or.inr (Or.inr (Or.inl rfl)) | exact Or.inr (Or.inr (Or.inr rfl))⟩)
  · rw [if_neg hc1]
    unfold w_X12_records_4
    refine ⟨J, h4, fun kk_J => ?_⟩
    have q3 := I_4_1 iσ.1 kJ
    by_cases hc2 : v1 < gI σ J 1
    · rw [if_pos hc2]
      unfold w_X12_records_23
      refine i_X12_needRun iσ kth hR kR hD kD (by (first | omega | with_reducible assumption | with_reducible exact rng_toInt _ | with_reducible exact rng_wr _ | (unfold rng; omega) | (unfold rng at *; omega) | assumption)) (fun _ pσ13 => ?_) (fun σx LLx Nx nux E ix cx ux px => hX σx LLx Nx nux E ix (cx) (ux) (by first | exact px | exact ⟨px.1, px.2.1, Or.inl px.2.2⟩ | exact ⟨px.1, px.2.1, Or.inr px.2.2⟩ | exact ⟨px.1, px.2.1, Or.inr (Or.inl px.2.2)⟩ | exact ⟨px.1, px.2.1, Or.inr (Or.inr px.2.2)⟩ | exact ⟨px.1, px.2.1, Or.inr (Or.inr (Or.inl px.2.2))⟩ | exact ⟨px.1, px.2.1, Or.inr (Or.inr (Or.inr px.2.2))⟩))
      intro xσ13
      refine ⟨J, h4, fun kk_J_1 => ?_⟩
      obtain ⟨b, eb, fb⟩ := P_4_0 iσ.1 kJ
      have mb : kO σ b 115 := iσ.1.kd kJ rfl eb rfl
      refine ⟨b, eb, fun kk_b => ?_⟩
      refine ⟨⟨by (first | omega | with_reducible assumption | with_reducible exact rng_toInt _ | with_reducible exact rng_wr _ | (unfold rng; omega) | (unfold rng at *; omega) | assumption), by (first | omega | with_reducible assumption | with_reducible exact rng_toInt _ | with_reducible exact rng_wr _ | (unfold rng; omega) | (unfold rng at *; omega) | assumption)⟩, ?_⟩
      obtain ⟨b_1, eb_1⟩ := P_115 iσ.1 mb (k := v1.toNat) (by (first | omega | with_reducible assumption | with_reducible exact rng_toInt _ | with_reducible exact rng_wr _ | (unfold rng; omega) | (unfold rng at *; omega) | assumption))
      have fb_1 := T_115 iσ.1 mb eb_1
      have mb_1 : kO σ b_1 5 := iσ.1.kd mb rfl eb_1 rfl
      refine ⟨b_1, eb_1, fun kk_b_1 => ?_⟩
      have q4 := I_5_6 iσ.1 mb_1
      refine i_X12_isKeyed iσ (fun r18 pσ17 => ?_)
      intro xσ17
      by_cases hc5 : r18 ≠ 0
      · rw [if_pos hc5]
        unfold w_X12_records_53
        refine ⟨R, hR, fun kk_R => ?_⟩
        refine ⟨D, hD, fun kk_D => ?_⟩
        refine i_X3_recordsOf iσ kD (by (first | omega | with_reducible assumption | with_reducible exact rng_toInt _ | with_reducible exact rng_wr _ | (unfold rng; omega) | (unfold rng at *; omega) | assumption)) (fun r21 pσ20 => ?_)
        intro xσ20
        exact hQ r21 (trivial)
      · rw [if_neg hc5]
        have hc5q := Classical.not_not.mp hc5
        unfold w_X12_records_45
        refine ⟨iσ.room, ?_⟩
        exact hX _ _ _ _ _ (iσ.bump (by (first | omega | with_reducible assumption | with_reducible exact rng_toInt _ | with_reducible exact rng_wr _ | (unfold rng; omega) | (unfold rng at *; omega) | assumption))) (Fx.bump) (NX.bump) (⟨rfl, rfl, by first | exact rfl | exact Or.inl rfl | exact Or.inr rfl | exact Or.inr (Or.inl rfl) | exact Or.inr (Or.inr rfl) | exact Or.inr (Or.inr (Or.inl rfl)) | exact Or.inr (Or.inr (Or.inr rfl))⟩)
    · rw [if_neg hc2]
      unfold w_X12_records_15
      refine ⟨iσ.room, ?_⟩
      exact hX _ _ _ _ _ (iσ.bump (by (first | omega | with_reducible assumption | with_reducible exact rng_toInt _ | with_reducible exact rng_wr _ | (unfold rng; omega) | (unfold rng at *; omega) | assumption))) (Fx.bump) (NX.bump) (⟨rfl, rfl, by first | exact rfl | exact Or.inl rfl | exact Or.inr rfl | exact Or.inr (Or.inl rfl) | exact Or.inr (Or.inr rfl) | exact Or.inr (Or.inr (Or.inl rfl)) | exact Or.inr (Or.inr (Or.inr rfl))⟩)
set_option maxHeartbeats 1000000 in
theorem i_X12_told {σ : Sg} {pl : Nat} {gq ci gr nc : Nat → Nat} {ot : Nat → Nat → Int} {LL : Nat → List Nat} {N nu : Nat → Nat} {th : Nat} {v1 : Int} {J R D : Nat} (iσ : IV σ pl gq ci gr nc ot LL N nu) (kth : kO σ th 12) (h4 : gP σ th 4 = some J) (kJ : kO σ J 4) (hJ : gq J = nc 0) (hR : gP σ th 7 = some R) (kR : kO σ R 9) (hD : gP σ R 2 = some D) (kD : kO σ D 3) {Q : Sg → Int → Prop} {X : Sg → String → Prop} (hQ : ∀ (r : Int), (True) → Q σ r) : wp_X12_told th v1 σ Q X := by
  have jc := iσ.jc kJ hJ
  unfold wp_X12_told
  unfold w_X12_told_0
  by_cases hc1 : v1 = 0
  · rw [if_pos hc1]
    unfold w_X12_told_76
    refine ⟨J, h4, fun kk_J => ?_⟩
    have q2 := I_4_1 iσ.1 kJ
    exact hQ (gI σ J 1) (trivial)
  · rw [if_neg hc1]
    by_cases hc3 : v1 = 5
    · rw [if_pos hc3]
      unfold w_X12_told_84
      refine ⟨R, hR, fun kk_R => ?_⟩
      refine ⟨D, hD, fun kk_D => ?_⟩
      have q4 := iσ.rg D 4; unfold rng at q4
      exact hQ (gI σ D 4) (trivial)
    · rw [if_neg hc3]
      by_cases hc5 : v1 = 6
      · rw [if_pos hc5]
        unfold w_X12_told_95
        refine ⟨R, hR, fun kk_R_1 => ?_⟩
        refine ⟨D, hD, fun kk_D_1 => ?_⟩
        have q6 := iσ.rg D 3; unfold rng at q6
        exact hQ (gI σ D 3) (trivial)
      · rw [if_neg hc5]
        by_cases hc7 : v1 = 9
        · rw [if_pos hc7]
          unfold w_X12_told_106
          refine ⟨R, hR, fun kk_R_2 => ?_⟩
          refine ⟨D, hD, fun kk_D_2 => ?_⟩
          have q9 := I_3_9 iσ.1 kD
          by_cases hc8 : gI σ D 9 = 0
          · rw [if_pos hc8]
            unfold w_X12_told_123
            unfold w_X12_told_124
            exact hQ 0 (trivial)
          · rw [if_neg hc8]
            unfold w_X12_told_119
            unfold w_X12_told_124
            exact hQ 1 (trivial)
        · rw [if_neg hc7]
          by_cases hc10 : v1 = 12
          · rw [if_pos hc10]
            unfold w_X12_told_125
            obtain ⟨b, eb⟩ := P_12_6 iσ.1 kth
            refine ⟨b, eb, fun kk_b => ?_⟩
            have q11 := I_8_1 iσ.1 kk_b
            exact hQ (gI σ b 1) (trivial)
          · rw [if_neg hc10]
            by_cases hc12 : v1 = 13
            · rw [if_pos hc12]
              unfold w_X12_told_133
              refine ⟨J, h4, fun kk_J_1 => ?_⟩
              have q13 := I_4_2 iσ.1 kJ
              exact hQ (gI σ J 2) (trivial)
            · rw [if_neg hc12]
              by_cases hc14 : v1 = 14
              · rw [if_pos hc14]
                unfold w_X12_told_141
                have q15 := I_12_1 iσ.1 kth
                exact hQ (gI σ th 1) (trivial)
              · rw [if_neg hc14]
                unfold w_X12_told_146
                refine ⟨R, hR, fun kk_R_3 => ?_⟩
                refine i_X9_toldOfRun iσ kR (fun r14 pσ13 => ?_)
                intro xσ13
                exact hQ r14 (trivial)

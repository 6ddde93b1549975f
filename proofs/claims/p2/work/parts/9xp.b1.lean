set_option maxHeartbeats 1000000 in
theorem i2_X3_partOfLatest {σ : Sg} {pl : Nat} {gq ci gr nc : Nat → Nat} {ot : Nat → Nat → Int} {LL : Nat → List Nat} {N nu : Nat → Nat} {th : Nat} {v1 : Int} {v2 : Int} (iσ : IV σ pl gq ci gr nc ot LL N nu) (kth : kO σ th 3) (h1 : 0 ≤ v1 ∧ v1 ≤ 15) (h2 : 0 ≤ v2 ∧ v2 ≤ 3) {Q : Sg → Option Nat → Prop} {X : Sg → String → Prop} (hQ : ∀ (r : Option Nat), (∀ t9, r = some t9 → kO σ t9 10 ∧ (∃ s9, gP σ th 1 = some s9 ∧ gq t9 = gq s9) ∧ (ci t9 : Int) = v1 * 4 + v2) → Q σ r) : wp_X3_partOfLatest th v1 v2 σ Q X := by
  unfold wp_X3_partOfLatest
  unfold w_X3_partOfLatest_0
  have q2 := iσ.rg th 4; unfold rng at q2
  by_cases hc1 : gI σ th 4 ≠ 0
  · rw [if_pos hc1]
    unfold w_X3_partOfLatest_11
    refine ⟨by (first | omega | with_reducible assumption | with_reducible exact rng_toInt _ | with_reducible exact rng_wr _ | (unfold rng; omega) | (unfold rng at *; omega) | assumption), ?_⟩
    refine ⟨by (first | omega | with_reducible assumption | with_reducible exact rng_toInt _ | with_reducible exact rng_wr _ | (unfold rng; omega) | (unfold rng at *; omega) | assumption), ?_⟩
    obtain ⟨b, eb, fb⟩ := P_3_1 iσ.1 kth
    have mb : kO σ b 120 := iσ.1.kd kth rfl eb rfl
    refine ⟨b, eb, fun kk_b => ?_⟩
    refine ⟨⟨by (first | omega | with_reducible assumption | with_reducible exact rng_toInt _ | with_reducible exact rng_wr _ | (unfold rng; omega) | (unfold rng at *; omega) | assumption), by (first | omega | with_reducible assumption | with_reducible exact rng_toInt _ | with_reducible exact rng_wr _ | (unfold rng; omega) | (unfold rng at *; omega) | assumption)⟩, ?_⟩
    unfold w_X3_partOfLatest_21
    exact hQ (gP σ b ((v1 * 4) + v2).toNat) (by first | (intro t9 q9; exact ⟨iσ.1.kd mb rfl q9 rfl, ⟨b, eb, (T_120 iσ.1 mb q9).1⟩, by have := (T_120 iσ.1 mb q9).2; omega⟩) | exact fun _ q => nomatch q)
  · rw [if_neg hc1]
    have hc1q := Classical.not_not.mp hc1
    unfold w_X3_partOfLatest_7
    unfold w_X3_partOfLatest_21
    exact hQ none (by first | (intro t9 q9; exact ⟨iσ.1.kd mb rfl q9 rfl, ⟨b, eb, (T_120 iσ.1 mb q9).1⟩, by have := (T_120 iσ.1 mb q9).2; omega⟩) | exact fun _ q => nomatch q)
set_option maxHeartbeats 1000000 in
theorem i_X9_restoreRecords {σ : Sg} {pl : Nat} {gq ci gr nc : Nat → Nat} {ot : Nat → Nat → Int} {LL : Nat → List Nat} {N nu : Nat → Nat} {th : Nat} {v1 : Int} {v2 : Option Nat} {v3 : Int} {J W F P : Nat} (iσ : IV σ pl gq ci gr nc ot LL N nu) (kth : kO σ th 9) {x : Nat} (hv2 : v2 = some x) (kx : kO σ x 1) (hj : gP σ th 9 = some J) (kJ : kO σ J 4) (hJ : gq J = nc 0) (hw : gP σ th 1 = some W) (kW : kO σ W 11) (hWJ : gP σ W 5 = some J) (hF : gP σ th 5 = some F) (kF : kO σ F 100) (gF : gr F = 3) (hP : 1 ≤ P ∧ P ≤ 4) (hl1 : LT1 σ gq ci nu ot P) (hf1 : FT1 σ F ot P (nc 1 + 1)) (h15 : nu 15 = bsO ot P (nc 1)) (h12 : gI σ th 12 = (P : Int)) (h1 : 0 ≤ v1 ∧ v1 < (nc 1 : Int)) (hx : gq x = 21 ∨ gq x = 22 ∨ gq x = 31 ∨ gq x = 32) (hR : LL x ≠ [] → 0 ≤ ot v1.toNat 7) (h3 : v3 = 0 ∨ v3 = 1) (h5 : nu 5 < 24000) (hb : N 14 + N 44 + N 74 + N 1 ≤ 30000) {Q : Sg → Unit → Prop} {X : Sg → String → Prop} (hQ : ∀ (σ' : Sg) (LL' : Nat → List Nat) (N' nu' : Nat → Nat) (r : Unit), IV σ' pl gq ci gr nc ot LL' N' nu' → Fx [1, 2, 3, 4, 5, 6, 7, 64, 512, 708, 6464] gr σ σ' → NU nu nu' → Hn (gD σ) [11, 12] [] gq LL LL' N N' → (N' 1 = N 1) → Q σ' r) (hX : ∀ (σ' : Sg) (LL' : Nat → List Nat) (N' nu' : Nat → Nat) (E : String), IV σ' pl gq ci gr nc ot LL' N' nu' → Fx [1, 2, 3, 4, 5, 6, 7, 64, 512, 708, 6464] gr σ σ' → NX nu nu' → ((N' 1 ≤ N 1 + 1 ∧ N' 5 = N 5 ∧ N' 3 = N 3 ∧ N' 14 = N 14 ∧ N' 44 = N 44 ∧ N' 74 = N 74) ∧ E = "java/lang/IllegalStateException") → X σ' E) : wp_X9_restoreRecords th v1 v2 v3 σ Q X := by
  have fσ : Fx [1, 2, 3, 4, 5, 6, 7, 64, 512, 708, 6464] gr σ σ := Fx.rf
  have hnσ : Hn (gD σ) [11, 12] [] gq LL LL N N := Hn.rf
  have q1 := I_9_12 iσ.1 kth
  have n16 := iσ.n16
  have ncb := iσ.ncb
  have fW := T_9_1 iσ.1 kth hw
  have b0 := hf1 v1.toNat (by omega)
  have bu := bsO_up (ot := ot) hP v1.toNat
  have bm := bsO_mono (ot := ot) hP (i := v1.toNat + 1) (j := nc 1) (by omega)
  have bl := bsO_le (ot := ot) hP (nc 1)
  have gF8 := (T_9_5 iσ.1 kth hF).1
  unfold wp_X9_restoreRecords
  unfold w_X9_restoreRecords_0
  refine ⟨J, hj, fun kk_J => ?_⟩
  obtain ⟨b, eb, fb⟩ := P_4_0 iσ.1 kJ
  have mb : kO σ b 115 := iσ.1.kd kJ rfl eb rfl
  refine ⟨b, eb, fun kk_b => ?_⟩
  refine ⟨⟨by (first | omega | with_reducible assumption | with_reducible exact rng_toInt _ | with_reducible exact rng_wr _ | (unfold rng; omega) | (unfold rng at *; omega) | assumption), by (first | omega | with_reducible assumption | with_reducible exact rng_toInt _ | with_reducible exact rng_wr _ | (unfold rng; omega) | (unfold rng at *; omega) | assumption)⟩, ?_⟩
  refine ⟨x, hv2, fun kk_x => ?_⟩
  obtain ⟨b_1, eb_1⟩ := P_115 iσ.1 mb (k := v1.toNat) (by (first | omega | with_reducible assumption | with_reducible exact rng_toInt _ | with_reducible exact rng_wr _ | (unfold rng; omega) | (unfold rng at *; omega) | assumption))
  have fb_1 := T_115 iσ.1 mb eb_1
  have mb_1 : kO σ b_1 5 := iσ.1.kd mb rfl eb_1 rfl
  have Lp17 : ∀ (fu17 : Nat) (τ17 : Sg) (LLt17 : Nat → List Nat) (Nt17 nut17 : Nat → Nat) (v5 : Option Nat), IV τ17 pl gq ci gr nc ot LLt17 Nt17 nut17 → Fx [1, 2, 3, 4, 5, 6, 7, 64, 512, 708, 6464] gr σ τ17 → Ext σ τ17 → NU nu nut17 → Hn (gD σ) [11, 12] [] gq LL LLt17 N Nt17 → (∃ (A B : List Nat), ((LLt17 x = A ++ B ∧ v5 = B.head?) ∧ Nt17 1 = N 1 ∧ (v5 ≠ none → LL x ≠ [])) ∧ (B.length) < fu17) → wl_X9_restoreRecords_17 th Q X fu17 τ17 v1 v3 (gP σ b v1.toNat) v5 := by
    intro fu17
    induction fu17 with
    | zero => intro _ _ _ _ _ _ _ _ _ _ h9; obtain ⟨_, _, _, h9⟩ := h9; omega
    | succ fu17 ih17 =>
      intro τ17 LLt17 Nt17 nut17 v5 iτ17 fτ17 xτ17 nu_τ17 hnτ17 hi17
      obtain ⟨A, B, hi17, hm17⟩ := hi17
      have nτ17_3 := hnτ17.2.2 3 (by first | decide | (simp; done) | (simp only [List.mem_cons, List.mem_nil_iff, or_false, not_or]; omega)) (by first | decide | omega) (by first | decide | omega) (by first | decide | omega)
      have nτ17_5 := hnτ17.2.2 5 (by first | decide | (simp; done) | (simp only [List.mem_cons, List.mem_nil_iff, or_false, not_or]; omega)) (by first | decide | omega) (by first | decide | omega) (by first | decide | omega)
      have nτ17_14 := hnτ17.2.2 14 (by first | decide | (simp; done) | (simp only [List.mem_cons, List.mem_nil_iff, or_false, not_or]; omega)) (by first | decide | omega) (by first | decide | omega) (by first | decide | omega)
      have nτ17_44 := hnτ17.2.2 44 (by first | decide | (simp; done) | (simp only [List.mem_cons, List.mem_nil_iff, or_false, not_or]; omega)) (by first | decide | omega) (by first | decide | omega) (by first | decide | omega)
      have nτ17_74 := hnτ17.2.2 74 (by first | decide | (simp; done) | (simp only [List.mem_cons, List.mem_nil_iff, or_false, not_or]; omega)) (by first | decide | omega) (by first | decide | omega) (by first | decide | omega)
      have nτ17_41 := hnτ17.2.2 41 (by first | decide | (simp; done) | (simp only [List.mem_cons, List.mem_nil_iff, or_false, not_or]; omega)) (by first | decide | omega) (by first | decide | omega) (by first | decide | omega)
      have nτ17_42 := hnτ17.2.2 42 (by first | decide | (simp; done) | (simp only [List.mem_cons, List.mem_nil_iff, or_false, not_or]; omega)) (by first | decide | omega) (by first | decide | omega) (by first | decide | omega)
      have nτ17_13 := hnτ17.2.2 13 (by first | decide | (simp; done) | (simp only [List.mem_cons, List.mem_nil_iff, or_false, not_or]; omega)) (by first | decide | omega) (by first | decide | omega) (by first | decide | omega)
      have nτ17_50 := hnτ17.2.2 50 (by first | decide | (simp; done) | (simp only [List.mem_cons, List.mem_nil_iff, or_false, not_or]; omega)) (by first | decide | omega) (by first | decide | omega) (by first | decide | omega)
      have uτ17_0 := nu_τ17.1 0 (by decide)
      have uτ17_1 := nu_τ17.1 1 (by decide)
      have uτ17_2 := nu_τ17.2
      have uτ17_5 := nu_τ17.1 5 (by decide)
      have uτ17_15 := nu_τ17.1 15 (by decide)
      have uτ17_16 := nu_τ17.1 16 (by decide)
      unfold wl_X9_restoreRecords_17
      have kp2 : gI τ17 th 12 = gI σ th 12 := (fτ17.O kth (by decide)).1
      have kp3 : gP τ17 J 0 = gP σ J 0 := (fτ17.O kJ (by decide)).2.1
      have kp4 : gP τ17 W 5 = gP σ W 5 := (fτ17.O kW (by decide)).2.1
      have kp5 : gP τ17 b v1.toNat = gP σ b v1.toNat := (fτ17.A mb (by decide)).2.1
      have kp6 : gP τ17 th 1 = gP σ th 1 := (fτ17.O kth (by decide)).2.1
      have kp7 : gP τ17 th 5 = gP σ th 5 := (fτ17.O kth (by decide)).2.1
      have kp8 : gP τ17 th 9 = gP σ th 9 := (fτ17.O kth (by decide)).2.1
      have lt17 := hl1.fx iσ iτ17 GE.rf fτ17 (by omega) (by decide)
      have ft17 := hf1.fx kF gF fτ17 (by decide)
      have b17 := ft17 v1.toNat (by omega)
      have n17 := iτ17.n16
      unfold w_X9_restoreRecords_17
      by_cases hc9 : v5 = none
      · rw [if_pos hc9]
        unfold w_X9_restoreRecords_94
        exact hQ τ17 LLt17 Nt17 nut17 () iτ17 fτ17 (nu_τ17) hnτ17 (by (first | omega | with_reducible assumption | with_reducible exact rng_toInt _ | with_reducible exact rng_wr _ | (unfold rng; omega) | (unfold rng at *; omega) | assumption))
      · rw [if_neg hc9]
        unfold w_X9_restoreRecords_22
        have o6 := iτ17.op (mb_1.up xτ17) (i := v1.toNat) (by omega) (by omega) 6 (by decide)
        refine ⟨b_1, eb_1, fun kk_b_1 => ?_⟩
        have q10 := I_5_6 iτ17.1 (mb_1.up xτ17)
        refine i_X12_isKeyed iτ17 (fun r23 pσ22 => ?_)
        intro xσ22
        by_cases hc11 : r23 = 0
        · rw [if_pos hc11]
          unfold w_X9_restoreRecords_48
          unfold w_X9_restoreRecords_49
          refine ⟨F, (kp7.trans hF), fun kk_F => ?_⟩
          have q12 := (xτ17 F kF.1).2.2
          refine ⟨⟨by (first | omega | with_reducible assumption | with_reducible exact rng_toInt _ | with_reducible exact rng_wr _ | (unfold rng; omega) | (unfold rng at *; omega) | assumption), by (first | omega | with_reducible assumption | with_reducible exact rng_toInt _ | with_reducible exact rng_wr _ | (unfold rng; omega) | (unfold rng at *; omega) | assumption)⟩, ?_⟩
          have q13 := iτ17.rg F v1.toNat; unfold rng at q13
          refine ⟨by (first | omega | with_reducible assumption | with_reducible exact rng_toInt _ | with_reducible exact rng_wr _ | (unfold rng; omega) | (unfold rng at *; omega) | assumption), ?_⟩
          obtain ⟨b_2, eb_2, fb_2⟩ := P_9_3 iτ17.1 (kth.up xτ17)
          have mb_2 : kO τ17 b_2 120 := iτ17.1.kd (kth.up xτ17) rfl eb_2 rfl
          refine ⟨b_2, eb_2, fun kk_b_2 => ?_⟩
          refine ⟨⟨by (first | omega | with_reducible assumption | with_reducible exact rng_toInt _ | with_reducible exact rng_wr _ | (unfold rng; omega) | (unfold rng at *; omega) | assumption), by (first | omega | with_reducible assumption | with_reducible exact rng_toInt _ | with_reducible exact rng_wr _ | (unfold rng; omega) | (unfold rng at *; omega) | assumption)⟩, ?_⟩
          obtain ⟨b_3, eb_3⟩ := P_9_0 iτ17.1 (kth.up xτ17)
          refine ⟨b_3, eb_3, fun kk_b_3 => ?_⟩
          obtain ⟨b_4, eb_4⟩ := Option.ne_none_iff_exists'.mp hc9
          have knb_4 : kO τ17 b_4 0 := iτ17.cell (it_mem hi17.1 eb_4)
          refine i_X8_copyOf iτ17 kk_b_3 eb_4 knb_4 (by (first | omega | with_reducible assumption | with_reducible exact rng_toInt _ | with_reducible exact rng_wr _ | (unfold rng; omega) | (unfold rng at *; omega) | assumption)) (fun σ29 LLσ29 Nσ29 nuσ29 c_σ29 iσ29 cσ29 uσ29 hσ29 pσ29 => ?_)
          intro xσ29
          have fσ29 : Fx [1, 2, 3, 4, 5, 6, 7, 64, 512, 708, 6464] gr σ σ29 := fτ17.tr (cσ29.mo (by decide))
          have hnσ29 : Hn (gD σ) [11, 12] [] gq LL LLσ29 N Nσ29 := hnτ17.go hσ29 (fun d hd => (fτ17.1 d hd).1) (by first | decide | exact fun _ h => h | (simp; done) | (intro x hx; simp only [List.mem_cons, List.mem_nil_iff, or_false] at hx ⊢; omega)) (fun d hd => absurd hd (by simp))
          have hf_c_σ29 : ∀ x, c_σ29 ∉ LLσ29 x := pσ29.1
          have lo_c_σ29 : Lo [] (gD σ) LL c_σ29 := hnτ17.loc (fun d hd => (fτ17.1 d hd).1) pσ29.2.2.1
          have nσ29_3 := hσ29.2.2 3 (by first | decide | (simp; done) | (simp only [List.mem_cons, List.mem_nil_iff, or_false, not_or]; omega)) (by first | decide | omega) (by first | decide | omega) (by first | decide | omega)
          have nσ29_5 := hσ29.2.2 5 (by first | decide | (simp; done) | (simp only [List.mem_cons, List.mem_nil_iff, or_false, not_or]; omega)) (by first | decide | omega) (by first | decide | omega) (by first | decide | omega)
          have nσ29_14 := hσ29.2.2 14 (by first | decide | (simp; done) | (simp only [List.mem_cons, List.mem_nil_iff, or_false, not_or]; omega)) (by first | decide | omega) (by first | decide | omega) (by first | decide | omega)
          have nσ29_44 := hσ29.2.2 44 (by first | decide | (simp; done) | (simp only [List.mem_cons, List.mem_nil_iff, or_false, not_or]; omega)) (by first | decide | omega) (by first | decide | omega) (by first | decide | omega)
          have nσ29_74 := hσ29.2.2 74 (by first | decide | (simp; done) | (simp only [List.mem_cons, List.mem_nil_iff, or_false, not_or]; omega)) (by first | decide | omega) (by first | decide | omega) (by first | decide | omega)
          have nσ29_11 := hσ29.2.2 11 (by first | decide | (simp; done) | (simp only [List.mem_cons, List.mem_nil_iff, or_false, not_or]; omega)) (by first | decide | omega) (by first | decide | omega) (by first | decide | omega)
          have nσ29_12 := hσ29.2.2 12 (by first | decide | (simp; done) | (simp only [List.mem_cons, List.mem_nil_iff, or_false, not_or]; omega)) (by first | decide | omega) (by first | decide | omega) (by first | decide | omega)
          have nσ29_41 := hσ29.2.2 41 (by first | decide | (simp; done) | (simp only [List.mem_cons, List.mem_nil_iff, or_false, not_or]; omega)) (by first | decide | omega) (by first | decide | omega) (by first | decide | omega)
          have nσ29_42 := hσ29.2.2 42 (by first | decide | (simp; done) | (simp only [List.mem_cons, List.mem_nil_iff, or_false, not_or]; omega)) (by first | decide | omega) (by first | decide | omega) (by first | decide | omega)
          have nσ29_13 := hσ29.2.2 13 (by first | decide | (simp; done) | (simp only [List.mem_cons, List.mem_nil_iff, or_false, not_or]; omega)) (by first | decide | omega) (by first | decide | omega) (by first | decide | omega)
          have nσ29_50 := hσ29.2.2 50 (by first | decide | (simp; done) | (simp only [List.mem_cons, List.mem_nil_iff, or_false, not_or]; omega)) (by first | decide | omega) (by first | decide | omega) (by first | decide | omega)
          have nu_σ29 : NU nu nuσ29 := nu_τ17.tr uσ29
          have uσ29_0 := uσ29.1 0 (by decide)
          have uσ29_1 := uσ29.1 1 (by decide)
          have uσ29_2 := uσ29.2
          have uσ29_5 := uσ29.1 5 (by decide)
          have uσ29_15 := uσ29.1 15 (by decide)
          have uσ29_16 := uσ29.1 16 (by decide)
          have kp14 : gI σ29 b_1 6 = gI τ17 b_1 6 := (cσ29.O (mb_1.up xτ17) (by decide)).1
          have kp15 : gI σ29 th 12 = gI τ17 th 12 := (cσ29.O (kth.up xτ17) (by decide)).1
          have kp16 : gP σ29 J 0 = gP τ17 J 0 := (cσ29.O (kJ.up xτ17) (by decide)).2.1
          have kp17 : gP σ29 W 5 = gP τ17 W 5 := (cσ29.O (kW.up xτ17) (by decide)).2.1
          have kp18 : gP σ29 b v1.toNat = gP τ17 b v1.toNat := (cσ29.A (mb.up xτ17) (by decide)).2.1
          have kp19 : gP σ29 th 0 = gP τ17 th 0 := (cσ29.O (kth.up xτ17) (by decide)).2.1
          have kp20 : gP σ29 th 1 = gP τ17 th 1 := (cσ29.O (kth.up xτ17) (by decide)).2.1
          have kp21 : gP σ29 th 3 = gP τ17 th 3 := (cσ29.O (kth.up xτ17) (by decide)).2.1
          have kp22 : gP σ29 th 5 = gP τ17 th 5 := (cσ29.O (kth.up xτ17) (by decide)).2.1
          have kp23 : gP σ29 th 9 = gP τ17 th 9 := (cσ29.O (kth.up xτ17) (by decide)).2.1
          have hLa := hσ29.1 x (kx.up xτ17).1 (by simp) (by omega)
          intro tyt
          have krc_σ29 : kO σ29 c_σ29 0 := tyt c_σ29 rfl
          refine ⟨W, (kp6.trans hw), fun kk_W => ?_⟩
          have n16b_5 := iτ17.n16
          obtain ⟨b_5, eb_5, mb_5, fb_5⟩ := P_120 iτ17 mb_2 (by omega) (k := ((gI τ17 F v1.toNat) + 0).toNat) (by (first | omega | with_reducible assumption | with_reducible exact rng_toInt _ | with_reducible exact rng_wr _ | (unfold rng; omega) | (unfold rng at *; omega) | assumption))
          have lt9 := (lt17 b_5 mb_5 (by omega) (by omega)).2 v1.toNat (by omega) (by omega)
          have lt8 : gI σ29 b_5 0 = _ := (cσ29.O mb_5 (by decide)).1.trans lt9
          have h7 := hR (hi17.2.2 (by rw [eb_4]; simp))
          refine i1_keep2 (i := v1.toNat) iσ29 (kW.up (xτ17.trans xσ29)) eb_1 (mb_1.up (xτ17.trans xσ29)) eb_5 (mb_5.up xσ29) rfl krc_σ29 (by (first | omega | with_reducible assumption | with_reducible exact rng_toInt _ | with_reducible exact rng_wr _ | (unfold rng; omega) | (unfold rng at *; omega) | assumption)) (by (first | omega | with_reducible assumption | with_reducible exact rng_toInt _ | with_reducible exact rng_wr _ | (unfold rng; omega) | (unfold rng at *; omega) | assumption)) (by (first | omega | with_reducible assumption | with_reducible exact rng_toInt _ | with_reducible exact rng_wr _ | (unfold rng; omega) | (unfold rng at *; omega) | assumption)) (kp17.trans (kp4.trans hWJ)) (kJ.up (xτ17.trans xσ29)) (by (first | omega | with_reducible assumption | with_reducible exact rng_toInt _ | with_reducible exact rng_wr _ | (unfold rng; omega) | (unfold rng at *; omega) | assumption)) (by (first | omega | with_reducible assumption | with_reducible exact rng_toInt _ | with_reducible exact rng_wr _ | (unfold rng; omega) | (unfold rng at *; omega) | assumption)) (by (first | omega | with_reducible assumption | with_reducible exact rng_toInt _ | with_reducible exact rng_wr _ | (unfold rng; omega) | (unfold rng at *; omega) | assumption)) (by (first | omega | with_reducible assumption | with_reducible exact rng_toInt _ | with_reducible exact rng_wr _ | (unfold rng; omega) | (unfold rng at *; omega) | assumption)) (by (first | omega | with_reducible assumption | with_reducible exact rng_toInt _ | with_reducible exact rng_wr _ | (unfold rng; omega) | (unfold rng at *; omega) | assumption)) lt8 (by (first | omega | with_reducible assumption | with_reducible exact rng_toInt _ | with_reducible exact rng_wr _ | (unfold rng; omega) | (unfold rng at *; omega) | assumption)) h7 (fun σ32 LLσ32 Nσ32 nuσ32 _ iσ32 cσ32 uσ32 hσ32 pσ32 => ?_) (fun σx LLx Nx nux E ix cx ux px => hX σx LLx Nx nux E ix (fσ29.tr (cx.mo (by decide))) (nu_σ29.x ux) (by first | exact px | exact ⟨by have := px.1; omega, px.2⟩ | (first | omega | with_reducible assumption | with_reducible exact rng_toInt _ | with_reducible exact rng_wr _ | (unfold rng; omega) | (unfold rng at *; omega) | assumption)))
          intro xσ32
          have fσ32 : Fx [1, 2, 3, 4, 5, 6, 7, 64, 512, 708, 6464] gr σ σ32 := fσ29.tr (cσ32.mo (by decide))
          have hnσ32 : Hn (gD σ) [11, 12] [] gq LL LLσ32 N Nσ32 := hnσ29.go hσ32 (fun d hd => (fσ29.1 d hd).1) (by first | decide | exact fun _ h => h | (simp; done) | (intro x hx; simp only [List.mem_cons, List.mem_nil_iff, or_false] at hx ⊢; omega)) (fun d hd => by rw [List.mem_singleton.mp hd]; exact lo_c_σ29)
          have nσ32_3 := hσ32.2.2 3 (by first | decide | (simp; done) | (simp only [List.mem_cons, List.mem_nil_iff, or_false, not_or]; omega)) (by first | decide | omega) (by first | decide | omega) (by first | decide | omega)
          have nσ32_5 := hσ32.2.2 5 (by first | decide | (simp; done) | (simp only [List.mem_cons, List.mem_nil_iff, or_false, not_or]; omega)) (by first | decide | omega) (by first | decide | omega) (by first | decide | omega)
          have nσ32_14 := hσ32.2.2 14 (by first | decide | (simp; done) | (simp only [List.mem_cons, List.mem_nil_iff, or_false, not_or]; omega)) (by first | decide | omega) (by first | decide | omega) (by first | decide | omega)
          have nσ32_44 := hσ32.2.2 44 (by first | decide | (simp; done) | (simp only [List.mem_cons, List.mem_nil_iff, or_false, not_or]; omega)) (by first | decide | omega) (by first | decide | omega) (by first | decide | omega)
          have nσ32_74 := hσ32.2.2 74 (by first | decide | (simp; done) | (simp only [List.mem_cons, List.mem_nil_iff, or_false, not_or]; omega)) (by first | decide | omega) (by first | decide | omega) (by first | decide | omega)
          have nσ32_41 := hσ32.2.2 41 (by first | decide | (simp; done) | (simp only [List.mem_cons, List.mem_nil_iff, or_false, not_or]; omega)) (by first | decide | omega) (by first | decide | omega) (by first | decide | omega)
          have nσ32_42 := hσ32.2.2 42 (by first | decide | (simp; done) | (simp only [List.mem_cons, List.mem_nil_iff, or_false, not_or]; omega)) (by first | decide | omega) (by first | decide | omega) (by first | decide | omega)
          have nσ32_13 := hσ32.2.2 13 (by first | decide | (simp; done) | (simp only [List.mem_cons, List.mem_nil_iff, or_false, not_or]; omega)) (by first | decide | omega) (by first | decide | omega) (by first | decide | omega)
          have nσ32_50 := hσ32.2.2 50 (by first | decide | (simp; done) | (simp only [List.mem_cons, List.mem_nil_iff, or_false, not_or]; omega)) (by first | decide | omega) (by first | decide | omega) (by first | decide | omega)
          have nu_σ32 : NU nu nuσ32 := nu_σ29.tr uσ32
          have uσ32_0 := uσ32.1 0 (by decide)
          have uσ32_1 := uσ32.1 1 (by decide)
          have uσ32_2 := uσ32.2
          have uσ32_5 := uσ32.1 5 (by decide)
          have uσ32_15 := uσ32.1 15 (by decide)
          have uσ32_16 := uσ32.1 16 (by decide)
          have kp24 : gI σ32 b_1 6 = gI σ29 b_1 6 := (cσ32.O (mb_1.up (xτ17.trans xσ29)) (by decide)).1
          have kp25 : gI σ32 th 12 = gI σ29 th 12 := (cσ32.O (kth.up (xτ17.trans xσ29)) (by decide)).1
          have kp26 : gP σ32 J 0 = gP σ29 J 0 := (cσ32.O (kJ.up (xτ17.trans xσ29)) (by decide)).2.1
          have kp27 : gP σ32 W 5 = gP σ29 W 5 := (cσ32.O (kW.up (xτ17.trans xσ29)) (by decide)).2.1
          have kp28 : gP σ32 b v1.toNat = gP σ29 b v1.toNat := (cσ32.A (mb.up (xτ17.trans xσ29)) (by decide)).2.1
          have kp29 : gP σ32 th 0 = gP σ29 th 0 := (cσ32.O (kth.up (xτ17.trans xσ29)) (by decide)).2.1
          have kp30 : gP σ32 th 1 = gP σ29 th 1 := (cσ32.O (kth.up (xτ17.trans xσ29)) (by decide)).2.1
          have kp31 : gP σ32 th 3 = gP σ29 th 3 := (cσ32.O (kth.up (xτ17.trans xσ29)) (by decide)).2.1
          have kp32 : gP σ32 th 5 = gP σ29 th 5 := (cσ32.O (kth.up (xτ17.trans xσ29)) (by decide)).2.1
          have kp33 : gP σ32 th 9 = gP σ29 th 9 := (cσ32.O (kth.up (xτ17.trans xσ29)) (by decide)).2.1
          have hLb := hσ32.1 x (kx.up (xτ17.trans xσ29)).1 (by first | (simp; done) | (simp only [List.mem_cons, List.mem_nil_iff, or_false, not_or]; omega)) (by omega)
          obtain ⟨A1, B1, p1, p2, p3, p4⟩ := it_step iσ32 (kx.up (xτ17.trans (xσ29.trans xσ32))) ⟨(by rw [hLb, hLa]; exact hi17.1.1), hi17.1.2⟩ eb_4
          refine ⟨b_4, eb_4, fun kk_b_4 => ?_⟩
          exact ih17 σ32 LLσ32 Nσ32 nuσ32 (gP σ32 b_4 1) iσ32 fσ32 (xτ17.trans (xσ29.trans xσ32)) nu_σ32 hnσ32 (⟨A1, B1, ⟨⟨p1, p2⟩, by omega, fun _ => hi17.2.2 (by rw [eb_4]; simp)⟩, by omega⟩)
        · rw [if_neg hc11]
          unfold w_X9_restoreRecords_33
          obtain ⟨b_6, eb_6⟩ := Option.ne_none_iff_exists'.mp hc9
          have knb_6 : kO τ17 b_6 0 := iτ17.cell (it_mem hi17.1 eb_6)
          refine ⟨b_6, eb_6, fun kk_b_6 => ?_⟩
          refine i_X12_partOf iτ17 (by (first | omega | with_reducible assumption | with_reducible exact rng_toInt _ | with_reducible exact rng_wr _ | (unfold rng; omega) | (unfold rng at *; omega) | assumption)) (fun r26 pσ25 => ?_)
          intro xσ25
          unfold w_X9_restoreRecords_49
          refine ⟨F, (kp7.trans hF), fun kk_F_1 => ?_⟩
          have q34 := (xτ17 F kF.1).2.2
          refine ⟨⟨by (first | omega | with_reducible assumption | with_reducible exact rng_toInt _ | with_reducible exact rng_wr _ | (unfold rng; omega) | (unfold rng at *; omega) | assumption), by (first | omega | with_reducible assumption | with_reducible exact rng_toInt _ | with_reducible exact rng_wr _ | (unfold rng; omega) | (unfold rng at *; omega) | assumption)⟩, ?_⟩
          have q35 := iτ17.rg F v1.toNat; unfold rng at q35
          refine ⟨by (first | omega | with_reducible assumption | with_reducible exact rng_toInt _ | with_reducible exact rng_wr _ | (unfold rng; omega) | (unfold rng at *; omega) | assumption), ?_⟩
          obtain ⟨b_7, eb_7, fb_7⟩ := P_9_3 iτ17.1 (kth.up xτ17)
          have mb_7 : kO τ17 b_7 120 := iτ17.1.kd (kth.up xτ17) rfl eb_7 rfl
          refine ⟨b_7, eb_7, fun kk_b_7 => ?_⟩
          refine ⟨⟨by (first | omega | with_reducible assumption | with_reducible exact rng_toInt _ | with_reducible exact rng_wr _ | (unfold rng; omega) | (unfold rng at *; omega) | assumption), by (first | omega | with_reducible assumption | with_reducible exact rng_toInt _ | with_reducible exact rng_wr _ | (unfold rng; omega) | (unfold rng at *; omega) | assumption)⟩, ?_⟩
          obtain ⟨b_8, eb_8⟩ := P_9_0 iτ17.1 (kth.up xτ17)
          refine ⟨b_8, eb_8, fun kk_b_8 => ?_⟩
          refine i_X8_copyOf iτ17 kk_b_8 eb_6 knb_6 (by (first | omega | with_reducible assumption | with_reducible exact rng_toInt _ | with_reducible exact rng_wr _ | (unfold rng; omega) | (unfold rng at *; omega) | assumption)) (fun σ29_1 LLσ29_1 Nσ29_1 nuσ29_1 c_σ29_1 iσ29_1 cσ29_1 uσ29_1 hσ29_1 pσ29_1 => ?_)
          intro xσ29_1
          have fσ29_1 : Fx [1, 2, 3, 4, 5, 6, 7, 64, 512, 708, 6464] gr σ σ29_1 := fτ17.tr (cσ29_1.mo (by decide))
          have hnσ29_1 : Hn (gD σ) [11, 12] [] gq LL LLσ29_1 N Nσ29_1 := hnτ17.go hσ29_1 (fun d hd => (fτ17.1 d hd).1) (by first | decide | exact fun _ h => h | (simp; done) | (intro x hx; simp only [List.mem_cons, List.mem_nil_iff, or_false] at hx ⊢; omega)) (fun d hd => absurd hd (by simp))
          have hf_c_σ29_1 : ∀ x, c_σ29_1 ∉ LLσ29_1 x := pσ29_1.1
          have lo_c_σ29_1 : Lo [] (gD σ) LL c_σ29_1 := hnτ17.loc (fun d hd => (fτ17.1 d hd).1) pσ29_1.2.2.1
          have nσ29_1_3 := hσ29_1.2.2 3 (by first | decide | (simp; done) | (simp only [List.mem_cons, List.mem_nil_iff, or_false, not_or]; omega)) (by first | decide | omega) (by first | decide | omega) (by first | decide | omega)
          have nσ29_1_5 := hσ29_1.2.2 5 (by first | decide | (simp; done) | (simp only [List.mem_cons, List.mem_nil_iff, or_false, not_or]; omega)) (by first | decide | omega) (by first | decide | omega) (by first | decide | omega)
          have nσ29_1_14 := hσ29_1.2.2 14 (by first | decide | (simp; done) | (simp only [List.mem_cons, List.mem_nil_iff, or_false, not_or]; omega)) (by first | decide | omega) (by first | decide | omega) (by first | decide | omega)
          have nσ29_1_44 := hσ29_1.2.2 44 (by first | decide | (simp; done) | (simp only [List.mem_cons, List.mem_nil_iff, or_false, not_or]; omega)) (by first | decide | omega) (by first | decide | omega) (by first | decide | omega)
          have nσ29_1_74 := hσ29_1.2.2 74 (by first | decide | (simp; done) | (simp only [List.mem_cons, List.mem_nil_iff, or_false, not_or]; omega)) (by first | decide | omega) (by first | decide | omega) (by first | decide | omega)
          have nσ29_1_11 := hσ29_1.2.2 11 (by first | decide | (simp; done) | (simp only [List.mem_cons, List.mem_nil_iff, or_false, not_or]; omega)) (by first | decide | omega) (by first | decide | omega) (by first | decide | omega)
          have nσ29_1_12 := hσ29_1.2.2 12 (by first | decide | (simp; done) | (simp only [List.mem_cons, List.mem_nil_iff, or_false, not_or]; omega)) (by first | decide | omega) (by first | decide | omega) (by first | decide | omega)
          have nσ29_1_41 := hσ29_1.2.2 41 (by first | decide | (simp; done) | (simp only [List.mem_cons, List.mem_nil_iff, or_false, not_or]; omega)) (by first | decide | omega) (by first | decide | omega) (by first | decide | omega)
          have nσ29_1_42 := hσ29_1.2.2 42 (by first | decide | (simp; done) | (simp only [List.mem_cons, List.mem_nil_iff, or_false, not_or]; omega)) (by first | decide | omega) (by first | decide | omega) (by first | decide | omega)
          have nσ29_1_13 := hσ29_1.2.2 13 (by first | decide | (simp; done) | (simp only [List.mem_cons, List.mem_nil_iff, or_false, not_or]; omega)) (by first | decide | omega) (by first | decide | omega) (by first | decide | omega)
          have nσ29_1_50 := hσ29_1.2.2 50 (by first | decide | (simp; done) | (simp only [List.mem_cons, List.mem_nil_iff, or_false, not_or]; omega)) (by first | decide | omega) (by first | decide | omega) (by first | decide | omega)
          have nu_σ29_1 : NU nu nuσ29_1 := nu_τ17.tr uσ29_1
          have uσ29_1_0 := uσ29_1.1 0 (by decide)
          have uσ29_1_1 := uσ29_1.1 1 (by decide)
          have uσ29_1_2 := uσ29_1.2
          have uσ29_1_5 := uσ29_1.1 5 (by decide)
          have uσ29_1_15 := uσ29_1.1 15 (by decide)
          have uσ29_1_16 := uσ29_1.1 16 (by decide)
          have kp36 : gI σ29_1 b_1 6 = gI τ17 b_1 6 := (cσ29_1.O (mb_1.up xτ17) (by decide)).1
          have kp37 : gI σ29_1 th 12 = gI τ17 th 12 := (cσ29_1.O (kth.up xτ17) (by decide)).1
          have kp38 : gP σ29_1 J 0 = gP τ17 J 0 := (cσ29_1.O (kJ.up xτ17) (by decide)).2.1
          have kp39 : gP σ29_1 W 5 = gP τ17 W 5 := (cσ29_1.O (kW.up xτ17) (by decide)).2.1
          have kp40 : gP σ29_1 b v1.toNat = gP τ17 b v1.toNat := (cσ29_1.A (mb.up xτ17) (by decide)).2.1
          have kp41 : gP σ29_1 th 0 = gP τ17 th 0 := (cσ29_1.O (kth.up xτ17) (by decide)).2.1
          have kp42 : gP σ29_1 th 1 = gP τ17 th 1 := (cσ29_1.O (kth.up xτ17) (by decide)).2.1
          have kp43 : gP σ29_1 th 3 = gP τ17 th 3 := (cσ29_1.O (kth.up xτ17) (by decide)).2.1
          have kp44 : gP σ29_1 th 5 = gP τ17 th 5 := (cσ29_1.O (kth.up xτ17) (by decide)).2.1
          have kp45 : gP σ29_1 th 9 = gP τ17 th 9 := (cσ29_1.O (kth.up xτ17) (by decide)).2.1
          have hLa := hσ29_1.1 x (kx.up xτ17).1 (by simp) (by omega)
          intro tyt_1
          have krc_σ29_1 : kO σ29_1 c_σ29_1 0 := tyt_1 c_σ29_1 rfl
          refine ⟨W, (kp6.trans hw), fun kk_W_1 => ?_⟩
          have n16b_9 := iτ17.n16
          obtain ⟨b_9, eb_9, mb_9, fb_9⟩ := P_120 iτ17 mb_7 (by omega) (k := ((gI τ17 F v1.toNat) + r26).toNat) (by (first | omega | with_reducible assumption | with_reducible exact rng_toInt _ | with_reducible exact rng_wr _ | (unfold rng; omega) | (unfold rng at *; omega) | assumption))
          have lt9 := (lt17 b_9 mb_9 (by omega) (by omega)).2 v1.toNat (by omega) (by omega)
          have lt8 : gI σ29_1 b_9 0 = _ := (cσ29.O mb_9 (by decide)).1.trans lt9
          have h7 := hR (hi17.2.2 (by rw [eb_6]; simp))
          refine i1_keep2 (i := v1.toNat) iσ29_1 (kW.up (xτ17.trans xσ29_1)) eb_1 (mb_1.up (xτ17.trans xσ29_1)) eb_9 (mb_9.up xσ29_1) rfl krc_σ29_1 (by (first | omega | with_reducible assumption | with_reducible exact rng_toInt _ | with_reducible exact rng_wr _ | (unfold rng; omega) | (unfold rng at *; omega) | assumption)) (by (first | omega | with_reducible assumption | with_reducible exact rng_toInt _ | with_reducible exact rng_wr _ | (unfold rng; omega) | (unfold rng at *; omega) | assumption)) (by (first | omega | with_reducible assumption | with_reducible exact rng_toInt _ | with_reducible exact rng_wr _ | (unfold rng; omega) | (unfold rng at *; omega) | assumption)) (kp39.trans (kp4.trans hWJ)) (kJ.up (xτ17.trans xσ29_1)) (by (first | omega | with_reducible assumption | with_reducible exact rng_toInt _ | with_reducible exact rng_wr _ | (unfold rng; omega) | (unfold rng at *; omega) | assumption)) (by (first | omega | with_reducible assumption | with_reducible exact rng_toInt _ | with_reducible exact rng_wr _ | (unfold rng; omega) | (unfold rng at *; omega) | assumption)) (by (first | omega | with_reducible assumption | with_reducible exact rng_toInt _ | with_reducible exact rng_wr _ | (unfold rng; omega) | (unfold rng at *; omega) | assumption)) (by (first | omega | with_reducible assumption | with_reducible exact rng_toInt _ | with_reducible exact rng_wr _ | (unfold rng; omega) | (unfold rng at *; omega) | assumption)) (by (first | omega | with_reducible assumption | with_reducible exact rng_toInt _ | with_reducible exact rng_wr _ | (unfold rng; omega) | (unfold rng at *; omega) | assumption)) lt8 (by (first | omega | with_reducible assumption | with_reducible exact rng_toInt _ | with_reducible exact rng_wr _ | (unfold rng; omega) | (unfold rng at *; omega) | assumption)) h7 (fun σ32_1 LLσ32_1 Nσ32_1 nuσ32_1 _ iσ32_1 cσ32_1 uσ32_1 hσ32_1 pσ32_1 => ?_) (fun σx LLx Nx nux E ix cx ux px => hX σx LLx Nx nux E ix (fσ29_1.tr (cx.mo (by decide))) (nu_σ29_1.x ux) (by first | exact px | exact ⟨by have := px.1; omega, px.2⟩ | (first | omega | with_reducible assumption | with_reducible exact rng_toInt _ | with_reducible exact rng_wr _ | (unfold rng; omega) | (unfold rng at *; omega) | assumption)))
          intro xσ32_1
          have fσ32_1 : Fx [1, 2, 3, 4, 5, 6, 7, 64, 512, 708, 6464] gr σ σ32_1 := fσ29_1.tr (cσ32_1.mo (by decide))
          have hnσ32_1 : Hn (gD σ) [11, 12] [] gq LL LLσ32_1 N Nσ32_1 := hnσ29_1.go hσ32_1 (fun d hd => (fσ29_1.1 d hd).1) (by first | decide | exact fun _ h => h | (simp; done) | (intro x hx; simp only [List.mem_cons, List.mem_nil_iff, or_false] at hx ⊢; omega)) (fun d hd => by rw [List.mem_singleton.mp hd]; exact lo_c_σ29_1)
          have nσ32_1_3 := hσ32_1.2.2 3 (by first | decide | (simp; done) | (simp only [List.mem_cons, List.mem_nil_iff, or_false, not_or]; omega)) (by first | decide | omega) (by first | decide | omega) (by first | decide | omega)
          have nσ32_1_5 := hσ32_1.2.2 5 (by first | decide | (simp; done) | (simp only [List.mem_cons, List.mem_nil_iff, or_false, not_or]; omega)) (by first | decide | omega) (by first | decide | omega) (by first | decide | omega)
          have nσ32_1_14 := hσ32_1.2.2 14 (by first | decide | (simp; done) | (simp only [List.mem_cons, List.mem_nil_iff, or_false, not_or]; omega)) (by first | decide | omega) (by first | decide | omega) (by first | decide | omega)
          have nσ32_1_44 := hσ32_1.2.2 44 (by first | decide | (simp; done) | (simp only [List.mem_cons, List.mem_nil_iff, or_false, not_or]; omega)) (by first | decide | omega) (by first | decide | omega) (by first | decide | omega)
          have nσ32_1_74 := hσ32_1.2.2 74 (by first | decide | (simp; done) | (simp only [List.mem_cons, List.mem_nil_iff, or_false, not_or]; omega)) (by first | decide | omega) (by first | decide | omega) (by first | decide | omega)
          have nσ32_1_41 := hσ32_1.2.2 41 (by first | decide | (simp; done) | (simp only [List.mem_cons, List.mem_nil_iff, or_false, not_or]; omega)) (by first | decide | omega) (by first | decide | omega) (by first | decide | omega)
          have nσ32_1_42 := hσ32_1.2.2 42 (by first | decide | (simp; done) | (simp only [List.mem_cons, List.mem_nil_iff, or_false, not_or]; omega)) (by first | decide | omega) (by first | decide | omega) (by first | decide | omega)
          have nσ32_1_13 := hσ32_1.2.2 13 (by first | decide | (simp; done) | (simp only [List.mem_cons, List.mem_nil_iff, or_false, not_or]; omega)) (by first | decide | omega) (by first | decide | omega) (by first | decide | omega)
          have nσ32_1_50 := hσ32_1.2.2 50 (by first | decide | (simp; done) | (simp only [List.mem_cons, List.mem_nil_iff, or_false, not_or]; omega)) (by first | decide | omega) (by first | decide | omega) (by first | decide | omega)
          have nu_σ32_1 : NU nu nuσ32_1 := nu_σ29_1.tr uσ32_1
          have uσ32_1_0 := uσ32_1.1 0 (by decide)
          have uσ32_1_1 := uσ32_1.1 1 (by decide)
          have uσ32_1_2 := uσ32_1.2
          have uσ32_1_5 := uσ32_1.1 5 (by decide)
          have uσ32_1_15 := uσ32_1.1 15 (by decide)
          have uσ32_1_16 := uσ32_1.1 16 (by decide)
          have kp46 : gI σ32_1 b_1 6 = gI σ29_1 b_1 6 := (cσ32_1.O (mb_1.up (xτ17.trans xσ29_1)) (by decide)).1
          have kp47 : gI σ32_1 th 12 = gI σ29_1 th 12 := (cσ32_1.O (kth.up (xτ17.trans xσ29_1)) (by decide)).1
          have kp48 : gP σ32_1 J 0 = gP σ29_1 J 0 := (cσ32_1.O (kJ.up (xτ17.trans xσ29_1)) (by decide)).2.1
          have kp49 : gP σ32_1 W 5 = gP σ29_1 W 5 := (cσ32_1.O (kW.up (xτ17.trans xσ29_1)) (by decide)).2.1
          have kp50 : gP σ32_1 b v1.toNat = gP σ29_1 b v1.toNat := (cσ32_1.A (mb.up (xτ17.trans xσ29_1)) (by decide)).2.1
          have kp51 : gP σ32_1 th 0 = gP σ29_1 th 0 := (cσ32_1.O (kth.up (xτ17.trans xσ29_1)) (by decide)).2.1
          have kp52 : gP σ32_1 th 1 = gP σ29_1 th 1 := (cσ32_1.O (kth.up (xτ17.trans xσ29_1)) (by decide)).2.1
          have kp53 : gP σ32_1 th 3 = gP σ29_1 th 3 := (cσ32_1.O (kth.up (xτ17.trans xσ29_1)) (by decide)).2.1
          have kp54 : gP σ32_1 th 5 = gP σ29_1 th 5 := (cσ32_1.O (kth.up (xτ17.trans xσ29_1)) (by decide)).2.1
          have kp55 : gP σ32_1 th 9 = gP σ29_1 th 9 := (cσ32_1.O (kth.up (xτ17.trans xσ29_1)) (by decide)).2.1
          have hLb := hσ32_1.1 x (kx.up (xτ17.trans xσ29_1)).1 (by first | (simp; done) | (simp only [List.mem_cons, List.mem_nil_iff, or_false, not_or]; omega)) (by omega)
          obtain ⟨A1, B1, p1, p2, p3, p4⟩ := it_step iσ32_1 (kx.up (xτ17.trans (xσ29_1.trans xσ32_1))) ⟨(by rw [hLb, hLa]; exact hi17.1.1), hi17.1.2⟩ eb_6
          refine ⟨b_6, eb_6, fun kk_b_6_1 => ?_⟩
          exact ih17 σ32_1 LLσ32_1 Nσ32_1 nuσ32_1 (gP σ32_1 b_6 1) iσ32_1 fσ32_1 (xτ17.trans (xσ29_1.trans xσ32_1)) nu_σ32_1 hnσ32_1 (⟨A1, B1, ⟨⟨p1, p2⟩, by omega, fun _ => hi17.2.2 (by rw [eb_6]; simp)⟩, by omega⟩)
  exact ⟨(LL x).length + 1, Lp17 _ σ LL N nu _ iσ fσ (Ext.rfl' _) NU.rf hnσ (⟨[], LL x, ⟨⟨by simp, iσ.first kx⟩, rfl, fun q e => q (by rw [iσ.first kx, e]; rfl)⟩, Nat.lt_succ_self _⟩)⟩
set_option maxHeartbeats 1000000 in
theorem i_X9_restore {σ : Sg} {pl : Nat} {gq ci gr nc : Nat → Nat} {ot : Nat → Nat → Int} {LL : Nat → List Nat} {N nu : Nat → Nat} {th : Nat} {v1 : Int} {J W F P : Nat} (iσ : IV σ pl gq ci gr nc ot LL N nu) (kth : kO σ th 9) (hj : gP σ th 9 = some J) (kJ : kO σ J 4) (hJ : gq J = nc 0) (hw : gP σ th 1 = some W) (kW : kO σ W 11) (hWJ : gP σ W 5 = some J) (hF : gP σ th 5 = some F) (kF : kO σ F 100) (gF : gr F = 3) (hP : 1 ≤ P ∧ P ≤ 4) (hl1 : LT1 σ gq ci nu ot P) (hf1 : FT1 σ F ot P (nc 1 + 1)) (h15 : nu 15 = bsO ot P (nc 1)) (h12 : gI σ th 12 = (P : Int)) (h1 : 0 ≤ v1 ∧ v1 < (nc 1 : Int)) (h5 : nu 5 < 24000) (hb : N 14 + N 44 + N 74 + N 1 ≤ 30000) {Q : Sg → Unit → Prop} {X : Sg → String → Prop} (hQ : ∀ (σ' : Sg) (LL' : Nat → List Nat) (N' nu' : Nat → Nat) (r : Unit), IV σ' pl gq ci gr nc ot LL' N' nu' → Fx [1, 2, 3, 4, 5, 6, 7, 64, 512, 645, 646, 647, 708, 6464] gr σ σ' → NU nu nu' → Hn (gD σ) [11, 12] [] gq LL LL' N N' → (N' 1 = N 1) → Q σ' r) (hX : ∀ (σ' : Sg) (LL' : Nat → List Nat) (N' nu' : Nat → Nat) (E : String), IV σ' pl gq ci gr nc ot LL' N' nu' → Fx [1, 2, 3, 4, 5, 6, 7, 64, 512, 645, 646, 647, 708, 6464] gr σ σ' → NX nu nu' → ((N' 1 ≤ N 1 + 1 ∧ N' 5 = N 5 ∧ N' 3 = N 3 ∧ N' 14 = N 14 ∧ N' 44 = N 44 ∧ N' 74 = N 74) ∧ E = "java/lang/IllegalStateException") → X σ' E) : wp_X9_restore th v1 σ Q X := by
  have fσ : Fx [1, 2, 3, 4, 5, 6, 7, 64, 512, 645, 646, 647, 708, 6464] gr σ σ := Fx.rf
  have hnσ : Hn (gD σ) [11, 12] [] gq LL LL N N := Hn.rf
  have q1 := I_9_12 iσ.1 kth
  have n16 := iσ.n16
  have ncb := iσ.ncb
  have fW := T_9_1 iσ.1 kth hw
  have b0 := hf1 v1.toNat (by omega)
  have bu := bsO_up (ot := ot) hP v1.toNat
  have bm := bsO_mono (ot := ot) hP (i := v1.toNat + 1) (j := nc 1) (by omega)
  have bl := bsO_le (ot := ot) hP (nc 1)
  have gF8 := (T_9_5 iσ.1 kth hF).1
  unfold wp_X9_restore
  unfold w_X9_restore_0
  refine ⟨J, hj, fun kk_J => ?_⟩
  obtain ⟨b, eb, fb⟩ := P_4_0 iσ.1 kJ
  have mb : kO σ b 115 := iσ.1.kd kJ rfl eb rfl
  refine ⟨b, eb, fun kk_b => ?_⟩
  refine ⟨⟨by (first | omega | with_reducible assumption | with_reducible exact rng_toInt _ | with_reducible exact rng_wr _ | (unfold rng; omega) | (unfold rng at *; omega) | assumption), by (first | omega | with_reducible assumption | with_reducible exact rng_toInt _ | with_reducible exact rng_wr _ | (unfold rng; omega) | (unfold rng at *; omega) | assumption)⟩, ?_⟩
  obtain ⟨b_1, eb_1⟩ := P_115 iσ.1 mb (k := v1.toNat) (by (first | omega | with_reducible assumption | with_reducible exact rng_toInt _ | with_reducible exact rng_wr _ | (unfold rng; omega) | (unfold rng at *; omega) | assumption))
  have fb_1 := T_115 iσ.1 mb eb_1
  have mb_1 : kO σ b_1 5 := iσ.1.kd mb rfl eb_1 rfl
  refine ⟨b_1, eb_1, fun kk_b_1 => ?_⟩
  have q2 := I_5_6 iσ.1 mb_1
  refine i_X12_hasOneTask iσ (fun r30 pσ29 => ?_)
  intro xσ29
  have o6 := iσ.op mb_1 (i := v1.toNat) (by omega) (by omega) 6 (by decide)
  have bq : (bsO ot P (v1.toNat + 1) : Int) = bsO ot P v1.toNat + 1 ∧ r30 = 1 ∨ (bsO ot P (v1.toNat + 1) : Int) = bsO ot P v1.toNat + P ∧ r30 = 0 := by by_cases w9 : ot v1.toNat 6 = 0 ∨ ot v1.toNat 6 = 10 ∨ ot v1.toNat 6 = 11; (left; have := bsO_one (P := P) w9; omega); (right; have := bsO_P (P := P) w9; omega)
  by_cases hc3 : r30 = 0
  · rw [if_pos hc3]
    unfold w_X9_restore_22
    obtain ⟨b_2, eb_2⟩ := P_9_2 iσ.1 kth
    refine ⟨b_2, eb_2, fun kk_b_2 => ?_⟩
    unfold w_X9_restore_29
    have Lp32 : ∀ (fu32 : Nat) (τ32 : Sg) (LLt32 : Nat → List Nat) (Nt32 nut32 : Nat → Nat) (v3 : Int), IV τ32 pl gq ci gr nc ot LLt32 Nt32 nut32 → Fx [1, 2, 3, 4, 5, 6, 7, 64, 512, 645, 646, 647, 708, 6464] gr σ τ32 → Ext σ τ32 → NU nu nut32 → Hn (gD σ) [11, 12] [] gq LL LLt32 N Nt32 → ((0 ≤ v3 ∧ v3 ≤ 4) ∧ Nt32 1 = N 1) → ((4 - v3).toNat) < fu32 → wl_X9_restore_32 th Q X fu32 τ32 v1 (gI σ b_2 5) v3 := by
      intro fu32
      induction fu32 with
      | zero => intro _ _ _ _ _ _ _ _ _ _ _ h9; omega
      | succ fu32 ih32 =>
        intro τ32 LLt32 Nt32 nut32 v3 iτ32 fτ32 xτ32 nu_τ32 hnτ32 hi32 hm32
        have nτ32_3 := hnτ32.2.2 3 (by first | decide | (simp; done) | (simp only [List.mem_cons, List.mem_nil_iff, or_false, not_or]; omega)) (by first | decide | omega) (by first | decide | omega) (by first | decide | omega)
        have nτ32_5 := hnτ32.2.2 5 (by first | decide | (simp; done) | (simp only [List.mem_cons, List.mem_nil_iff, or_false, not_or]; omega)) (by first | decide | omega) (by first | decide | omega) (by first | decide | omega)
        have nτ32_14 := hnτ32.2.2 14 (by first | decide | (simp; done) | (simp only [List.mem_cons, List.mem_nil_iff, or_false, not_or]; omega)) (by first | decide | omega) (by first | decide | omega) (by first | decide | omega)
        have nτ32_44 := hnτ32.2.2 44 (by first | decide | (simp; done) | (simp only [List.mem_cons, List.mem_nil_iff, or_false, not_or]; omega)) (by first | decide | omega) (by first | decide | omega) (by first | decide | omega)
        have nτ32_74 := hnτ32.2.2 74 (by first | decide | (simp; done) | (simp only [List.mem_cons, List.mem_nil_iff, or_false, not_or]; omega)) (by first | decide | omega) (by first | decide | omega) (by first | decide | omega)
        have nτ32_41 := hnτ32.2.2 41 (by first | decide | (simp; done) | (simp only [List.mem_cons, List.mem_nil_iff, or_false, not_or]; omega)) (by first | decide | omega) (by first | decide | omega) (by first | decide | omega)
        have nτ32_42 := hnτ32.2.2 42 (by first | decide | (simp; done) | (simp only [List.mem_cons, List.mem_nil_iff, or_false, not_or]; omega)) (by first | decide | omega) (by first | decide | omega) (by first | decide | omega)
        have nτ32_13 := hnτ32.2.2 13 (by first | decide | (simp; done) | (simp only [List.mem_cons, List.mem_nil_iff, or_false, not_or]; omega)) (by first | decide | omega) (by first | decide | omega) (by first | decide | omega)
        have nτ32_50 := hnτ32.2.2 50 (by first | decide | (simp; done) | (simp only [List.mem_cons, List.mem_nil_iff, or_false, not_or]; omega)) (by first | decide | omega) (by first | decide | omega) (by first | decide | omega)
        have uτ32_0 := nu_τ32.1 0 (by decide)
        have uτ32_1 := nu_τ32.1 1 (by decide)
        have uτ32_2 := nu_τ32.2
        have uτ32_5 := nu_τ32.1 5 (by decide)
        have uτ32_15 := nu_τ32.1 15 (by decide)
        have uτ32_16 := nu_τ32.1 16 (by decide)
        unfold wl_X9_restore_32
        have kp4 : gI τ32 b_1 6 = gI σ b_1 6 := (fτ32.O mb_1 (by decide)).1
        have kp5 : gI τ32 th 12 = gI σ th 12 := (fτ32.O kth (by decide)).1
        have kp6 : gP τ32 J 0 = gP σ J 0 := (fτ32.O kJ (by decide)).2.1
        have kp7 : gP τ32 W 5 = gP σ W 5 := (fτ32.O kW (by decide)).2.1
        have kp8 : gP τ32 b v1.toNat = gP σ b v1.toNat := (fτ32.A mb (by decide)).2.1
        have kp9 : gP τ32 th 1 = gP σ th 1 := (fτ32.O kth (by decide)).2.1
        have kp10 : gP τ32 th 2 = gP σ th 2 := (fτ32.O kth (by decide)).2.1
        have kp11 : gP τ32 th 5 = gP σ th 5 := (fτ32.O kth (by decide)).2.1
        have kp12 : gP τ32 th 9 = gP σ th 9 := (fτ32.O kth (by decide)).2.1
        have lt32 := hl1.fx iσ iτ32 GE.rf fτ32 (by omega) (by decide)
        have ft32 := hf1.fx kF gF fτ32 (by decide)
        have b32 := ft32 v1.toNat (by omega)
        have n32 := iτ32.n16
        have tc32 := iτ32.tc (kth.up xτ32)
        unfold w_X9_restore_32
        have q14 := I_3_5 iσ.1 kk_b_2
        by_cases hc13 : v3 ≥ (gI σ b_2 5)
        · rw [if_pos hc13]
          unfold w_X9_restore_169
          exact hQ τ32 LLt32 Nt32 nut32 () iτ32 fτ32 (nu_τ32) hnτ32 (by (first | omega | with_reducible assumption | with_reducible exact rng_toInt _ | with_reducible exact rng_wr _ | (unfold rng; omega) | (unfold rng at *; omega) | assumption))
        · rw [if_neg hc13]
          unfold w_X9_restore_37
          by_cases hc15 : v3 ≥ 4
          · rw [if_pos hc15]
            unfold w_X9_restore_169
            exact hQ τ32 LLt32 Nt32 nut32 () iτ32 fτ32 (nu_τ32) hnτ32 (by (first | omega | with_reducible assumption | with_reducible exact rng_toInt _ | with_reducible exact rng_wr _ | (unfold rng; omega) | (unfold rng at *; omega) | assumption))
          · rw [if_neg hc15]
            unfold w_X9_restore_42
            refine ⟨b_2, (kp10.trans eb_2), fun kk_b_2_1 => ?_⟩
            refine i2_X3_partOfLatest iτ32 (kk_b_2.up xτ32) (by (first | omega | with_reducible assumption | with_reducible exact rng_toInt _ | with_reducible exact rng_wr _ | (unfold rng; omega) | (unfold rng at *; omega) | assumption)) (by (first | omega | with_reducible assumption | with_reducible exact rng_toInt _ | with_reducible exact rng_wr _ | (unfold rng; omega) | (unfold rng at *; omega) | assumption)) (fun r32 pσ31 => ?_)
            intro xσ31
            intro tyt
            by_cases hc16 : r32 = none
            · rw [if_pos hc16]
              unfold w_X9_restore_163
              refine ⟨by (first | omega | with_reducible assumption | with_reducible exact rng_toInt _ | with_reducible exact rng_wr _ | (unfold rng; omega) | (unfold rng at *; omega) | assumption), ?_⟩
              exact ih32 τ32 LLt32 Nt32 nut32 (v3 + 1) iτ32 fτ32 xτ32 nu_τ32 hnτ32 (by (first | omega | with_reducible assumption | with_reducible exact rng_toInt _ | with_reducible exact rng_wr _ | (unfold rng; omega) | (unfold rng at *; omega) | assumption)) (by (first | omega | with_reducible assumption | with_reducible exact rng_toInt _ | with_reducible exact rng_wr _ | (unfold rng; omega) | (unfold rng at *; omega) | assumption))
            · rw [if_neg hc16]
              unfold w_X9_restore_58
              obtain ⟨b_3, eb_3⟩ := Option.ne_none_iff_exists'.mp hc16
              have knb_3 : kO τ32 b_3 10 := (pσ31 _ eb_3).1
              obtain ⟨k9, ⟨s9, es9, gs9⟩, c9⟩ := pσ31 _ eb_3
              have ts9 := T_3_1 iτ32.1 (kk_b_2.up xτ32) es9
              refine ⟨F, (kp11.trans hF), fun kk_F => ?_⟩
              have q17 := (xτ32 F kF.1).2.2
              refine ⟨⟨by (first | omega | with_reducible assumption | with_reducible exact rng_toInt _ | with_reducible exact rng_wr _ | (unfold rng; omega) | (unfold rng at *; omega) | assumption), by (first | omega | with_reducible assumption | with_reducible exact rng_toInt _ | with_reducible exact rng_wr _ | (unfold rng; omega) | (unfold rng at *; omega) | assumption)⟩, ?_⟩
              refine ⟨b_2, (kp10.trans eb_2), fun kk_b_2_2 => ?_⟩
              have q19 := I_3_5 iτ32.1 (kk_b_2.up xτ32)
              by_cases hc18 : gI τ32 th 12 ≠ gI τ32 b_2 5
              · rw [if_pos hc18]
                unfold w_X9_restore_86
                unfold w_X9_restore_87
                have q20 := iτ32.rg F v1.toNat; unfold rng at q20
                refine ⟨by (first | omega | with_reducible assumption | with_reducible exact rng_toInt _ | with_reducible exact rng_wr _ | (unfold rng; omega) | (unfold rng at *; omega) | assumption), ?_⟩
                obtain ⟨b_4, eb_4, fb_4⟩ := P_9_3 iτ32.1 (kth.up xτ32)
                have mb_4 : kO τ32 b_4 120 := iτ32.1.kd (kth.up xτ32) rfl eb_4 rfl
                refine ⟨b_4, eb_4, fun kk_b_4 => ?_⟩
                refine ⟨⟨by (first | omega | with_reducible assumption | with_reducible exact rng_toInt _ | with_reducible exact rng_wr _ | (unfold rng; omega) | (unfold rng at *; omega) | assumption), by (first | omega | with_reducible assumption | with_reducible exact rng_toInt _ | with_reducible exact rng_wr _ | (unfold rng; omega) | (unfold rng at *; omega) | assumption)⟩, ?_⟩
                have n16b_5 := iτ32.n16
                obtain ⟨b_5, eb_5, mb_5, fb_5⟩ := P_120 iτ32 mb_4 (by omega) (k := ((gI τ32 F v1.toNat) + 0).toNat) (by (first | omega | with_reducible assumption | with_reducible exact rng_toInt _ | with_reducible exact rng_wr _ | (unfold rng; omega) | (unfold rng at *; omega) | assumption))
                refine ⟨b_5, eb_5, fun kk_b_5 => ?_⟩
                refine ⟨b_3, eb_3, fun kk_b_3 => ?_⟩
                intro σ39 eσ39
                have xσ39 : Ext τ32 σ39 := by rw [eσ39]; exact fun _ h => ⟨h, rfl, rfl⟩
                have q21 := iτ32.rg b_5 5; unfold rng at q21
                have q22 := iτ32.rg b_3 5; unfold rng at q22
                have iσ39 : IV σ39 pl gq ci gr nc ot LLt32 Nt32 nut32 := by rw [eσ39]; exact iτ32.wO mb_5 (by decide) (rngb (by first | exact rng_wr _ | (first | omega | with_reducible assumption | with_reducible exact rng_toInt _ | with_reducible exact rng_wr _ | (unfold rng; omega) | (unfold rng at *; omega) | assumption)))
                have fσ39 : Fx [1, 2, 3, 4, 5, 6, 7, 64, 512, 645, 646, 647, 708, 6464] gr σ σ39 := fτ32.tr (Sk.fx (by rw [eσ39]; exact Sk.pI (by rw [fcdO mb_5 (by decide)]; decide)))
                have wσ39 : gI σ39 b_5 5 = (wr (gI τ32 b_5 5 + gI τ32 b_3 5)) := by rw [eσ39]; exact up2_s _ _ _ _
                have kp23 : gI σ39 b_1 6 = gI τ32 b_1 6 := by rw [eσ39]; exact up2_n _ _ (fun q => absurd q.2 (by decide))
                have kp24 : gI σ39 b_2 5 = gI τ32 b_2 5 := by rw [eσ39]; exact up2_n _ _ (fun q => absurd q.1 (kO.ne (kk_b_2.up xτ32) mb_5 (by decide)))
                have kp25 : gI σ39 th 12 = gI τ32 th 12 := by rw [eσ39]; exact up2_n _ _ (fun q => absurd q.2 (by decide))
                have kp26 : gP σ39 J 0 = gP τ32 J 0 := by rw [eσ39]
                have kp27 : gP σ39 W 5 = gP τ32 W 5 := by rw [eσ39]
                have kp28 : gP σ39 b v1.toNat = gP τ32 b v1.toNat := by rw [eσ39]
                have kp29 : gP σ39 b_4 ((gI τ32 F v1.toNat) + 0).toNat = gP τ32 b_4 ((gI τ32 F v1.toNat) + 0).toNat := by rw [eσ39]
                have kp30 : gP σ39 th 1 = gP τ32 th 1 := by rw [eσ39]
                have kp31 : gP σ39 th 2 = gP τ32 th 2 := by rw [eσ39]
                have kp32 : gP σ39 th 3 = gP τ32 th 3 := by rw [eσ39]
                have kp33 : gP σ39 th 5 = gP τ32 th 5 := by rw [eσ39]
                have kp34 : gP σ39 th 9 = gP τ32 th 9 := by rw [eσ39]
                refine ⟨J, (kp34.trans (kp12.trans hj)), fun kk_J_1 => ?_⟩
                refine ⟨b, (kp26.trans (kp6.trans eb)), fun kk_b_6 => ?_⟩
                have q35 := ((xτ32.trans xσ39) b mb.1).2.2
                refine ⟨⟨by (first | omega | with_reducible assumption | with_reducible exact rng_toInt _ | with_reducible exact rng_wr _ | (unfold rng; omega) | (unfold rng at *; omega) | assumption), by (first | omega | with_reducible assumption | with_reducible exact rng_toInt _ | with_reducible exact rng_wr _ | (unfold rng; omega) | (unfold rng at *; omega) | assumption)⟩, ?_⟩
                refine ⟨b_1, (kp28.trans (kp8.trans eb_1)), fun kk_b_1_1 => ?_⟩
                by_cases hc36 : gI σ39 b_1 6 ≠ 0
                · rw [if_pos hc36]
                  unfold w_X9_restore_141
                  refine ⟨b_3, eb_3, fun kk_b_3_1 => ?_⟩
                  obtain ⟨b_6, eb_6, fb_6⟩ := P_10_2 iσ39.1 (knb_3.up xσ39)
                  have mb_6 : kO σ39 b_6 1 := iσ39.1.kd (knb_3.up xσ39) rfl eb_6 rfl
                  refine i_X9_restoreRecords iσ39 (kth.up (xτ32.trans xσ39)) eb_6 mb_6 (kp34.trans (kp12.trans hj)) (kJ.up (xτ32.trans xσ39)) (by (first | omega | with_reducible assumption | with_reducible exact rng_toInt _ | with_reducible exact rng_wr _ | (unfold rng; omega) | (unfold rng at *; omega) | assumption)) (kp30.trans (kp9.trans hw)) (kW.up (xτ32.trans xσ39)) (kp27.trans (kp7.trans hWJ)) (kp33.trans (kp11.trans hF)) (kF.up (xτ32.trans xσ39)) gF hP (hl1.fx iσ iσ39 GE.rf fσ39 (by omega) (by decide)) (hf1.fx kF gF fσ39 (by decide)) (by (first | omega | with_reducible assumption | with_reducible exact rng_toInt _ | with_reducible exact rng_wr _ | (unfold rng; omega) | (unfold rng at *; omega) | assumption)) (by (first | omega | with_reducible assumption | with_reducible exact rng_toInt _ | with_reducible exact rng_wr _ | (unfold rng; omega) | (unfold rng at *; omega) | assumption)) (by (first | omega | with_reducible assumption | with_reducible exact rng_toInt _ | with_reducible exact rng_wr _ | (unfold rng; omega) | (unfold rng at *; omega) | assumption)) (by (first | omega | with_reducible assumption | with_reducible exact rng_toInt _ | with_reducible exact rng_wr _ | (unfold rng; omega) | (unfold rng at *; omega) | assumption)) (fun hL => by have z9 := (iσ39.ss.2.2.2.2.2.1 b_6 mb_6 hL).2.2.2.2.2.1 (by omega); rw [show ci b_6 / 4 = v1.toNat by omega] at z9; exact z9) (by (first | omega | with_reducible assumption | with_reducible exact rng_toInt _ | with_reducible exact rng_wr _ | (unfold rng; omega) | (unfold rng at *; omega) | assumption)) (by (first | omega | with_reducible assumption | with_reducible exact rng_toInt _ | with_reducible exact rng_wr _ | (unfold rng; omega) | (unfold rng at *; omega) | assumption)) (by (first | omega | with_reducible assumption | with_reducible exact rng_toInt _ | with_reducible exact rng_wr _ | (unfold rng; omega) | (unfold rng at *; omega) | assumption)) (fun σ48 LLσ48 Nσ48 nuσ48 _ iσ48 cσ48 uσ48 hσ48 pσ48 => ?_) (fun σx LLx Nx nux E ix cx ux px => hX σx LLx Nx nux E ix (fσ39.tr (cx.mo (by decide))) (nu_τ32.x ux) (by first | exact px | exact ⟨by have := px.1; omega, px.2⟩ | (first | omega | with_reducible assumption | with_reducible exact rng_toInt _ | with_reducible exact rng_wr _ | (unfold rng; omega) | (unfold rng at *; omega) | assumption)))
                  intro xσ48
                  have fσ48 : Fx [1, 2, 3, 4, 5, 6, 7, 64, 512, 645, 646, 647, 708, 6464] gr σ σ48 := fσ39.tr (cσ48.mo (by decide))
                  have hnσ48 : Hn (gD σ) [11, 12] [] gq LL LLσ48 N Nσ48 := hnτ32.go hσ48 (fun d hd => (fσ39.1 d hd).1) (by first | decide | exact fun _ h => h | (simp; done) | (intro x hx; simp only [List.mem_cons, List.mem_nil_iff, or_false] at hx ⊢; omega)) (fun d hd => absurd hd (by simp))
                  have nσ48_3 := hσ48.2.2 3 (by first | decide | (simp; done) | (simp only [List.mem_cons, List.mem_nil_iff, or_false, not_or]; omega)) (by first | decide | omega) (by first | decide | omega) (by first | decide | omega)
                  have nσ48_5 := hσ48.2.2 5 (by first | decide | (simp; done) | (simp only [List.mem_cons, List.mem_nil_iff, or_false, not_or]; omega)) (by first | decide | omega) (by first | decide | omega) (by first | decide | omega)
                  have nσ48_14 := hσ48.2.2 14 (by first | decide | (simp; done) | (simp only [List.mem_cons, List.mem_nil_iff, or_false, not_or]; omega)) (by first | decide | omega) (by first | decide | omega) (by first | decide | omega)
                  have nσ48_44 := hσ48.2.2 44 (by first | decide | (simp; done) | (simp only [List.mem_cons, List.mem_nil_iff, or_false, not_or]; omega)) (by first | decide | omega) (by first | decide | omega) (by first | decide | omega)
                  have nσ48_74 := hσ48.2.2 74 (by first | decide | (simp; done) | (simp only [List.mem_cons, List.mem_nil_iff, or_false, not_or]; omega)) (by first | decide | omega) (by first | decide | omega) (by first | decide | omega)
                  have nσ48_41 := hσ48.2.2 41 (by first | decide | (simp; done) | (simp only [List.mem_cons, List.mem_nil_iff, or_false, not_or]; omega)) (by first | decide | omega) (by first | decide | omega) (by first | decide | omega)
                  have nσ48_42 := hσ48.2.2 42 (by first | decide | (simp; done) | (simp only [List.mem_cons, List.mem_nil_iff, or_false, not_or]; omega)) (by first | decide | omega) (by first | decide | omega) (by first | decide | omega)
                  have nσ48_13 := hσ48.2.2 13 (by first | decide | (simp; done) | (simp only [List.mem_cons, List.mem_nil_iff, or_false, not_or]; omega)) (by first | decide | omega) (by first | decide | omega) (by first | decide | omega)
                  have nσ48_50 := hσ48.2.2 50 (by first | decide | (simp; done) | (simp only [List.mem_cons, List.mem_nil_iff, or_false, not_or]; omega)) (by first | decide | omega) (by first | decide | omega) (by first | decide | omega)
                  have nu_σ48 : NU nu nuσ48 := nu_τ32.tr uσ48
                  have uσ48_0 := uσ48.1 0 (by decide)
                  have uσ48_1 := uσ48.1 1 (by decide)
                  have uσ48_2 := uσ48.2
                  have uσ48_5 := uσ48.1 5 (by decide)
                  have uσ48_15 := uσ48.1 15 (by decide)
                  have uσ48_16 := uσ48.1 16 (by decide)
                  have kp37 : gI σ48 b_1 6 = gI σ39 b_1 6 := (cσ48.O (mb_1.up (xτ32.trans xσ39)) (by decide)).1
                  have kp38 : gI σ48 b_2 5 = gI σ39 b_2 5 := (cσ48.O (kk_b_2.up (xτ32.trans xσ39)) (by decide)).1
                  have kp39 : gI σ48 b_5 5 = gI σ39 b_5 5 := (cσ48.O (mb_5.up xσ39) (by decide)).1
                  have kp40 : gI σ48 th 12 = gI σ39 th 12 := (cσ48.O (kth.up (xτ32.trans xσ39)) (by decide)).1
                  have kp41 : gP σ48 J 0 = gP σ39 J 0 := (cσ48.O (kJ.up (xτ32.trans xσ39)) (by decide)).2.1
                  have kp42 : gP σ48 W 5 = gP σ39 W 5 := (cσ48.O (kW.up (xτ32.trans xσ39)) (by decide)).2.1
                  have kp43 : gP σ48 b v1.toNat = gP σ39 b v1.toNat := (cσ48.A (mb.up (xτ32.trans xσ39)) (by decide)).2.1
                  have kp44 : gP σ48 b_3 2 = gP σ39 b_3 2 := (cσ48.O (knb_3.up xσ39) (by decide)).2.1
                  have kp45 : gP σ48 b_4 ((gI τ32 F v1.toNat) + 0).toNat = gP σ39 b_4 ((gI τ32 F v1.toNat) + 0).toNat := (cσ48.A (mb_4.up xσ39) (by decide)).2.1
                  have kp46 : gP σ48 th 1 = gP σ39 th 1 := (cσ48.O (kth.up (xτ32.trans xσ39)) (by decide)).2.1
                  have kp47 : gP σ48 th 2 = gP σ39 th 2 := (cσ48.O (kth.up (xτ32.trans xσ39)) (by decide)).2.1
                  have kp48 : gP σ48 th 3 = gP σ39 th 3 := (cσ48.O (kth.up (xτ32.trans xσ39)) (by decide)).2.1
                  have kp49 : gP σ48 th 5 = gP σ39 th 5 := (cσ48.O (kth.up (xτ32.trans xσ39)) (by decide)).2.1
                  have kp50 : gP σ48 th 9 = gP σ39 th 9 := (cσ48.O (kth.up (xτ32.trans xσ39)) (by decide)).2.1
                  obtain ⟨b_7, eb_7, fb_7⟩ := P_10_3 iσ48.1 (knb_3.up (xσ39.trans xσ48))
                  have mb_7 : kO σ48 b_7 1 := iσ48.1.kd (knb_3.up (xσ39.trans xσ48)) rfl eb_7 rfl
                  refine i_X9_restoreRecords iσ48 (kth.up (xτ32.trans (xσ39.trans xσ48))) eb_7 mb_7 (kp50.trans (kp34.trans (kp12.trans hj))) (kJ.up (xτ32.trans (xσ39.trans xσ48))) (by (first | omega | with_reducible assumption | with_reducible exact rng_toInt _ | with_reducible exact rng_wr _ | (unfold rng; omega) | (unfold rng at *; omega) | assumption)) (kp46.trans (kp30.trans (kp9.trans hw))) (kW.up (xτ32.trans (xσ39.trans xσ48))) (kp42.trans (kp27.trans (kp7.trans hWJ))) (kp49.trans (kp33.trans (kp11.trans hF))) (kF.up (xτ32.trans (xσ39.trans xσ48))) gF hP (hl1.fx iσ iσ48 GE.rf fσ48 (by omega) (by decide)) (hf1.fx kF gF fσ48 (by decide)) (by (first | omega | with_reducible assumption | with_reducible exact rng_toInt _ | with_reducible exact rng_wr _ | (unfold rng; omega) | (unfold rng at *; omega) | assumption)) (by (first | omega | with_reducible assumption | with_reducible exact rng_toInt _ | with_reducible exact rng_wr _ | (unfold rng; omega) | (unfold rng at *; omega) | assumption)) (by (first | omega | with_reducible assumption | with_reducible exact rng_toInt _ | with_reducible exact rng_wr _ | (unfold rng; omega) | (unfold rng at *; omega) | assumption)) (by (first | omega | with_reducible assumption | with_reducible exact rng_toInt _ | with_reducible exact rng_wr _ | (unfold rng; omega) | (unfold rng at *; omega) | assumption)) (fun hL => by have z9 := (iσ48.ss.2.2.2.2.2.1 b_7 mb_7 hL).2.2.2.2.2.1 (by omega); rw [show ci b_7 / 4 = v1.toNat by omega] at z9; exact z9) (by (first | omega | with_reducible assumption | with_reducible exact rng_toInt _ | with_reducible exact rng_wr _ | (unfold rng; omega) | (unfold rng at *; omega) | assumption)) (by (first | omega | with_reducible assumption | with_reducible exact rng_toInt _ | with_reducible exact rng_wr _ | (unfold rng; omega) | (unfold rng at *; omega) | assumption)) (by (first | omega | with_reducible assumption | with_reducible exact rng_toInt _ | with_reducible exact rng_wr _ | (unfold rng; omega) | (unfold rng at *; omega) | assumption)) (fun σ49 LLσ49 Nσ49 nuσ49 _ iσ49 cσ49 uσ49 hσ49 pσ49 => ?_) (fun σx LLx Nx nux E ix cx ux px => hX σx LLx Nx nux E ix (fσ48.tr (cx.mo (by decide))) (nu_σ48.x ux) (by first | exact px | exact ⟨by have := px.1; omega, px.2⟩ | (first | omega | with_reducible assumption | with_reducible exact rng_toInt _ | with_reducible exact rng_wr _ | (unfold rng; omega) | (unfold rng at *; omega) | assumption)))
                  intro xσ49
                  have fσ49 : Fx [1, 2, 3, 4, 5, 6, 7, 64, 512, 645, 646, 647, 708, 6464] gr σ σ49 := fσ48.tr (cσ49.mo (by decide))
                  have hnσ49 : Hn (gD σ) [11, 12] [] gq LL LLσ49 N Nσ49 := hnσ48.go hσ49 (fun d hd => (fσ48.1 d hd).1) (by first | decide | exact fun _ h => h | (simp; done) | (intro x hx; simp only [List.mem_cons, List.mem_nil_iff, or_false] at hx ⊢; omega)) (fun d hd => absurd hd (by simp))
                  have nσ49_3 := hσ49.2.2 3 (by first | decide | (simp; done) | (simp only [List.mem_cons, List.mem_nil_iff, or_false, not_or]; omega)) (by first | decide | omega) (by first | decide | omega) (by first | decide | omega)
                  have nσ49_5 := hσ49.2.2 5 (by first | decide | (simp; done) | (simp only [List.mem_cons, List.mem_nil_iff, or_false, not_or]; omega)) (by first | decide | omega) (by first | decide | omega) (by first | decide | omega)
                  have nσ49_14 := hσ49.2.2 14 (by first | decide | (simp; done) | (simp only [List.mem_cons, List.mem_nil_iff, or_false, not_or]; omega)) (by first | decide | omega) (by first | decide | omega) (by first | decide | omega)
                  have nσ49_44 := hσ49.2.2 44 (by first | decide | (simp; done) | (simp only [List.mem_cons, List.mem_nil_iff, or_false, not_or]; omega)) (by first | decide | omega) (by first | decide | omega) (by first | decide | omega)
                  have nσ49_74 := hσ49.2.2 74 (by first | decide | (simp; done) | (simp only [List.mem_cons, List.mem_nil_iff, or_false, not_or]; omega)) (by first | decide | omega) (by first | decide | omega) (by first | decide | omega)
                  have nσ49_41 := hσ49.2.2 41 (by first | decide | (simp; done) | (simp only [List.mem_cons, List.mem_nil_iff, or_false, not_or]; omega)) (by first | decide | omega) (by first | decide | omega) (by first | decide | omega)
                  have nσ49_42 := hσ49.2.2 42 (by first | decide | (simp; done) | (simp only [List.mem_cons, List.mem_nil_iff, or_false, not_or]; omega)) (by first | decide | omega) (by first | decide | omega) (by first | decide | omega)
                  have nσ49_13 := hσ49.2.2 13 (by first | decide | (simp; done) | (simp only [List.mem_cons, List.mem_nil_iff, or_false, not_or]; omega)) (by first | decide | omega) (by first | decide | omega) (by first | decide | omega)
                  have nσ49_50 := hσ49.2.2 50 (by first | decide | (simp; done) | (simp only [List.mem_cons, List.mem_nil_iff, or_false, not_or]; omega)) (by first | decide | omega) (by first | decide | omega) (by first | decide | omega)
                  have nu_σ49 : NU nu nuσ49 := nu_σ48.tr uσ49
                  have uσ49_0 := uσ49.1 0 (by decide)
                  have uσ49_1 := uσ49.1 1 (by decide)
                  have uσ49_2 := uσ49.2
                  have uσ49_5 := uσ49.1 5 (by decide)
                  have uσ49_15 := uσ49.1 15 (by decide)
                  have uσ49_16 := uσ49.1 16 (by decide)
                  have kp51 : gI σ49 b_1 6 = gI σ48 b_1 6 := (cσ49.O (mb_1.up (xτ32.trans (xσ39.trans xσ48))) (by decide)).1
                  have kp52 : gI σ49 b_2 5 = gI σ48 b_2 5 := (cσ49.O (kk_b_2.up (xτ32.trans (xσ39.trans xσ48))) (by decide)).1
                  have kp53 : gI σ49 b_5 5 = gI σ48 b_5 5 := (cσ49.O (mb_5.up (xσ39.trans xσ48)) (by decide)).1
                  have kp54 : gI σ49 th 12 = gI σ48 th 12 := (cσ49.O (kth.up (xτ32.trans (xσ39.trans xσ48))) (by decide)).1
                  have kp55 : gP σ49 J 0 = gP σ48 J 0 := (cσ49.O (kJ.up (xτ32.trans (xσ39.trans xσ48))) (by decide)).2.1
                  have kp56 : gP σ49 W 5 = gP σ48 W 5 := (cσ49.O (kW.up (xτ32.trans (xσ39.trans xσ48))) (by decide)).2.1
                  have kp57 : gP σ49 b v1.toNat = gP σ48 b v1.toNat := (cσ49.A (mb.up (xτ32.trans (xσ39.trans xσ48))) (by decide)).2.1
                  have kp58 : gP σ49 b_3 2 = gP σ48 b_3 2 := (cσ49.O (knb_3.up (xσ39.trans xσ48)) (by decide)).2.1
                  have kp59 : gP σ49 b_3 3 = gP σ48 b_3 3 := (cσ49.O (knb_3.up (xσ39.trans xσ48)) (by decide)).2.1
                  have kp60 : gP σ49 b_4 ((gI τ32 F v1.toNat) + 0).toNat = gP σ48 b_4 ((gI τ32 F v1.toNat) + 0).toNat := (cσ49.A (mb_4.up (xσ39.trans xσ48)) (by decide)).2.1
                  have kp61 : gP σ49 th 1 = gP σ48 th 1 := (cσ49.O (kth.up (xτ32.trans (xσ39.trans xσ48))) (by decide)).2.1
                  have kp62 : gP σ49 th 2 = gP σ48 th 2 := (cσ49.O (kth.up (xτ32.trans (xσ39.trans xσ48))) (by decide)).2.1
                  have kp63 : gP σ49 th 3 = gP σ48 th 3 := (cσ49.O (kth.up (xτ32.trans (xσ39.trans xσ48))) (by decide)).2.1
                  have kp64 : gP σ49 th 5 = gP σ48 th 5 := (cσ49.O (kth.up (xτ32.trans (xσ39.trans xσ48))) (by decide)).2.1
                  have kp65 : gP σ49 th 9 = gP σ48 th 9 := (cσ49.O (kth.up (xτ32.trans (xσ39.trans xσ48))) (by decide)).2.1
                  unfold w_X9_restore_163
                  refine ⟨by (first | omega | with_reducible assumption | with_reducible exact rng_toInt _ | with_reducible exact rng_wr _ | (unfold rng; omega) | (unfold rng at *; omega) | assumption), ?_⟩
                  exact ih32 σ49 LLσ49 Nσ49 nuσ49 (v3 + 1) iσ49 fσ49 (xτ32.trans (xσ39.trans (xσ48.trans xσ49))) nu_σ49 hnσ49 (by (first | omega | with_reducible assumption | with_reducible exact rng_toInt _ | with_reducible exact rng_wr _ | (unfold rng; omega) | (unfold rng at *; omega) | assumption)) (by (first | omega | with_reducible assumption | with_reducible exact rng_toInt _ | with_reducible exact rng_wr _ | (unfold rng; omega) | (unfold rng at *; omega) | assumption))
                · rw [if_neg hc36]
                  have hc36q := Classical.not_not.mp hc36
                  unfold w_X9_restore_121
                  refine ⟨b_3, eb_3, fun kk_b_3_2 => ?_⟩
                  refine ⟨b_5, eb_5, fun kk_b_5_1 => ?_⟩
                  intro σ45 eσ45
                  have xσ45 : Ext σ39 σ45 := by rw [eσ45]; exact fun _ h => ⟨h, rfl, rfl⟩
                  have q66 := I_10_6 iσ39.1 (knb_3.up xσ39)
                  have iσ45 : IV σ45 pl gq ci gr nc ot LLt32 Nt32 nut32 := by rw [eσ45]; exact iσ39.wO (mb_5.up xσ39) (by decide) (show (0 : Int) ≤ (gI σ39 b_3 6) ∧ (gI σ39 b_3 6) ≤ 64 from ⟨by (first | omega | with_reducible assumption | with_reducible exact rng_toInt _ | with_reducible exact rng_wr _ | (unfold rng; omega) | (unfold rng at *; omega) | assumption), by (first | omega | with_reducible assumption | with_reducible exact rng_toInt _ | with_reducible exact rng_wr _ | (unfold rng; omega) | (unfold rng at *; omega) | assumption)⟩)
                  have fσ45 : Fx [1, 2, 3, 4, 5, 6, 7, 64, 512, 645, 646, 647, 708, 6464] gr σ σ45 := fσ39.tr (Sk.fx (by rw [eσ45]; exact Sk.pI (by rw [fcdO (mb_5.up xσ39) (by decide)]; decide)))
                  have wσ45 : gI σ45 b_5 6 = (gI σ39 b_3 6) := by rw [eσ45]; exact up2_s _ _ _ _
                  have kp67 : gI σ45 b_1 6 = gI σ39 b_1 6 := by rw [eσ45]; exact up2_n _ _ (fun q => absurd q.1 (kO.ne (mb_1.up (xτ32.trans xσ39)) (mb_5.up xσ39) (by decide)))
                  have kp68 : gI σ45 b_2 5 = gI σ39 b_2 5 := by rw [eσ45]; exact up2_n _ _ (fun q => absurd q.2 (by decide))
                  have kp69 : gI σ45 b_5 5 = gI σ39 b_5 5 := by rw [eσ45]; exact up2_n _ _ (fun q => absurd q.2 (by decide))
                  have kp70 : gI σ45 th 12 = gI σ39 th 12 := by rw [eσ45]; exact up2_n _ _ (fun q => absurd q.2 (by decide))
                  have kp71 : gP σ45 J 0 = gP σ39 J 0 := by rw [eσ45]
                  have kp72 : gP σ45 W 5 = gP σ39 W 5 := by rw [eσ45]
                  have kp73 : gP σ45 b v1.toNat = gP σ39 b v1.toNat := by rw [eσ45]
                  have kp74 : gP σ45 b_4 ((gI τ32 F v1.toNat) + 0).toNat = gP σ39 b_4 ((gI τ32 F v1.toNat) + 0).toNat := by rw [eσ45]
                  have kp75 : gP σ45 th 1 = gP σ39 th 1 := by rw [eσ45]
                  have kp76 : gP σ45 th 2 = gP σ39 th 2 := by rw [eσ45]
                  have kp77 : gP σ45 th 3 = gP σ39 th 3 := by rw [eσ45]
                  have kp78 : gP σ45 th 5 = gP σ39 th 5 := by rw [eσ45]
                  have kp79 : gP σ45 th 9 = gP σ39 th 9 := by rw [eσ45]
                  intro σ46 eσ46
                  have xσ46 : Ext σ45 σ46 := by rw [eσ46]; exact fun _ h => ⟨h, rfl, rfl⟩
                  have iσ46 : IV σ46 pl gq ci gr nc ot LLt32 Nt32 nut32 := by rw [eσ46]; exact iσ45.wT (mb_5.up (xσ39.trans xσ45)) (by decide) (iσ45.t7 (knb_3.up (xσ39.trans xσ45)))
                  have fσ46 : Fx [1, 2, 3, 4, 5, 6, 7, 64, 512, 645, 646, 647, 708, 6464] gr σ σ46 := fσ45.tr (Sk.fx (by rw [eσ46]; exact Sk.pJ (by rw [fcdO (mb_5.up (xσ39.trans xσ45)) (by decide)]; decide)))
                  have kp80 : gI σ46 b_1 6 = gI σ45 b_1 6 := by rw [eσ46]
                  have kp81 : gI σ46 b_2 5 = gI σ45 b_2 5 := by rw [eσ46]
                  have kp82 : gI σ46 b_5 5 = gI σ45 b_5 5 := by rw [eσ46]
                  have kp83 : gI σ46 b_5 6 = gI σ45 b_5 6 := by rw [eσ46]
                  have kp84 : gI σ46 th 12 = gI σ45 th 12 := by rw [eσ46]
                  have kp85 : gP σ46 J 0 = gP σ45 J 0 := by rw [eσ46]
                  have kp86 : gP σ46 W 5 = gP σ45 W 5 := by rw [eσ46]
                  have kp87 : gP σ46 b v1.toNat = gP σ45 b v1.toNat := by rw [eσ46]
                  have kp88 : gP σ46 b_4 ((gI τ32 F v1.toNat) + 0).toNat = gP σ45 b_4 ((gI τ32 F v1.toNat) + 0).toNat := by rw [eσ46]
                  have kp89 : gP σ46 th 1 = gP σ45 th 1 := by rw [eσ46]
                  have kp90 : gP σ46 th 2 = gP σ45 th 2 := by rw [eσ46]
                  have kp91 : gP σ46 th 3 = gP σ45 th 3 := by rw [eσ46]
                  have kp92 : gP σ46 th 5 = gP σ45 th 5 := by rw [eσ46]
                  have kp93 : gP σ46 th 9 = gP σ45 th 9 := by rw [eσ46]
                  unfold w_X9_restore_141
                  refine ⟨b_3, eb_3, fun kk_b_3_3 => ?_⟩
                  obtain ⟨b_8, eb_8, fb_8⟩ := P_10_2 iσ46.1 (knb_3.up (xσ39.trans (xσ45.trans xσ46)))
                  have mb_8 : kO σ46 b_8 1 := iσ46.1.kd (knb_3.up (xσ39.trans (xσ45.trans xσ46))) rfl eb_8 rfl
                  refine i_X9_restoreRecords iσ46 (kth.up (xτ32.trans (xσ39.trans (xσ45.trans xσ46)))) eb_8 mb_8 (kp93.trans (kp79.trans (kp34.trans (kp12.trans hj)))) (kJ.up (xτ32.trans (xσ39.trans (xσ45.trans xσ46)))) (by (first | omega | with_reducible assumption | with_reducible exact rng_toInt _ | with_reducible exact rng_wr _ | (unfold rng; omega) | (unfold rng at *; omega) | assumption)) (kp89.trans (kp75.trans (kp30.trans (kp9.trans hw)))) (kW.up (xτ32.trans (xσ39.trans (xσ45.trans xσ46)))) (kp86.trans (kp72.trans (kp27.trans (kp7.trans hWJ)))) (kp92.trans (kp78.trans (kp33.trans (kp11.trans hF)))) (kF.up (xτ32.trans (xσ39.trans (xσ45.trans xσ46)))) gF hP (hl1.fx iσ iσ46 GE.rf fσ46 (by omega) (by decide)) (hf1.fx kF gF fσ46 (by decide)) (by (first | omega | with_reducible assumption | with_reducible exact rng_toInt _ | with_reducible exact rng_wr _ | (unfold rng; omega) | (unfold rng at *; omega) | assumption)) (by (first | omega | with_reducible assumption | with_reducible exact rng_toInt _ | with_reducible exact rng_wr _ | (unfold rng; omega) | (unfold rng at *; omega) | assumption)) (by (first | omega | with_reducible assumption | with_reducible exact rng_toInt _ | with_reducible exact rng_wr _ | (unfold rng; omega) | (unfold rng at *; omega) | assumption)) (by (first | omega | with_reducible assumption | with_reducible exact rng_toInt _ | with_reducible exact rng_wr _ | (unfold rng; omega) | (unfold rng at *; omega) | assumption)) (fun hL => by have z9 := (iσ46.ss.2.2.2.2.2.1 b_8 mb_8 hL).2.2.2.2.2.1 (by omega); rw [show ci b_8 / 4 = v1.toNat by omega] at z9; exact z9) (by (first | omega | with_reducible assumption | with_reducible exact rng_toInt _ | with_reducible exact rng_wr _ | (unfold rng; omega) | (unfold rng at *; omega) | assumption)) (by (first | omega | with_reducible assumption | with_reducible exact rng_toInt _ | with_reducible exact rng_wr _ | (unfold rng; omega) | (unfold rng at *; omega) | assumption)) (by (first | omega | with_reducible assumption | with_reducible exact rng_toInt _ | with_reducible exact rng_wr _ | (unfold rng; omega) | (unfold rng at *; omega) | assumption)) (fun σ48_1 LLσ48_1 Nσ48_1 nuσ48_1 _ iσ48_1 cσ48_1 uσ48_1 hσ48_1 pσ48_1 => ?_) (fun σx LLx Nx nux E ix cx ux px => hX σx LLx Nx nux E ix (fσ46.tr (cx.mo (by decide))) (nu_τ32.x ux) (by first | exact px | exact ⟨by have := px.1; omega, px.2⟩ | (first | omega | with_reducible assumption | with_reducible exact rng_toInt _ | with_reducible exact rng_wr _ | (unfold rng; omega) | (unfold rng at *; omega) | assumption)))
                  intro xσ48_1
                  have fσ48_1 : Fx [1, 2, 3, 4, 5, 6, 7, 64, 512, 645, 646, 647, 708, 6464] gr σ σ48_1 := fσ46.tr (cσ48_1.mo (by decide))
                  have hnσ48_1 : Hn (gD σ) [11, 12] [] gq LL LLσ48_1 N Nσ48_1 := hnτ32.go hσ48_1 (fun d hd => (fσ46.1 d hd).1) (by first | decide | exact fun _ h => h | (simp; done) | (intro x hx; simp only [List.mem_cons, List.mem_nil_iff, or_false] at hx ⊢; omega)) (fun d hd => absurd hd (by simp))
                  have nσ48_1_3 := hσ48_1.2.2 3 (by first | decide | (simp; done) | (simp only [List.mem_cons, List.mem_nil_iff, or_false, not_or]; omega)) (by first | decide | omega) (by first | decide | omega) (by first | decide | omega)
                  have nσ48_1_5 := hσ48_1.2.2 5 (by first | decide | (simp; done) | (simp only [List.mem_cons, List.mem_nil_iff, or_false, not_or]; omega)) (by first | decide | omega) (by first | decide | omega) (by first | decide | omega)
                  have nσ48_1_14 := hσ48_1.2.2 14 (by first | decide | (simp; done) | (simp only [List.mem_cons, List.mem_nil_iff, or_false, not_or]; omega)) (by first | decide | omega) (by first | decide | omega) (by first | decide | omega)
                  have nσ48_1_44 := hσ48_1.2.2 44 (by first | decide | (simp; done) | (simp only [List.mem_cons, List.mem_nil_iff, or_false, not_or]; omega)) (by first | decide | omega) (by first | decide | omega) (by first | decide | omega)
                  have nσ48_1_74 := hσ48_1.2.2 74 (by first | decide | (simp; done) | (simp only [List.mem_cons, List.mem_nil_iff, or_false, not_or]; omega)) (by first | decide | omega) (by first | decide | omega) (by first | decide | omega)
                  have nσ48_1_41 := hσ48_1.2.2 41 (by first | decide | (simp; done) | (simp only [List.mem_cons, List.mem_nil_iff, or_false, not_or]; omega)) (by first | decide | omega) (by first | decide | omega) (by first | decide | omega)
                  have nσ48_1_42 := hσ48_1.2.2 42 (by first | decide | (simp; done) | (simp only [List.mem_cons, List.mem_nil_iff, or_false, not_or]; omega)) (by first | decide | omega) (by first | decide | omega) (by first | decide | omega)
                  have nσ48_1_13 := hσ48_1.2.2 13 (by first | decide | (simp; done) | (simp only [List.mem_cons, List.mem_nil_iff, or_false, not_or]; omega)) (by first | decide | omega) (by first | decide | omega) (by first | decide | omega)
                  have nσ48_1_50 := hσ48_1.2.2 50 (by first | decide | (simp; done) | (simp only [List.mem_cons, List.mem_nil_iff, or_false, not_or]; omega)) (by first | decide | omega) (by first | decide | omega) (by first | decide | omega)
                  have nu_σ48_1 : NU nu nuσ48_1 := nu_τ32.tr uσ48_1
                  have uσ48_1_0 := uσ48_1.1 0 (by decide)
                  have uσ48_1_1 := uσ48_1.1 1 (by decide)
                  have uσ48_1_2 := uσ48_1.2
                  have uσ48_1_5 := uσ48_1.1 5 (by decide)
                  have uσ48_1_15 := uσ48_1.1 15 (by decide)
                  have uσ48_1_16 := uσ48_1.1 16 (by decide)
                  have kp94 : gI σ48_1 b_1 6 = gI σ46 b_1 6 := (cσ48_1.O (mb_1.up (xτ32.trans (xσ39.trans (xσ45.trans xσ46)))) (by decide)).1
                  have kp95 : gI σ48_1 b_2 5 = gI σ46 b_2 5 := (cσ48_1.O (kk_b_2.up (xτ32.trans (xσ39.trans (xσ45.trans xσ46)))) (by decide)).1
                  have kp96 : gI σ48_1 b_5 5 = gI σ46 b_5 5 := (cσ48_1.O (mb_5.up (xσ39.trans (xσ45.trans xσ46))) (by decide)).1
                  have kp97 : gI σ48_1 b_5 6 = gI σ46 b_5 6 := (cσ48_1.O (mb_5.up (xσ39.trans (xσ45.trans xσ46))) (by decide)).1
                  have kp98 : gI σ48_1 th 12 = gI σ46 th 12 := (cσ48_1.O (kth.up (xτ32.trans (xσ39.trans (xσ45.trans xσ46)))) (by decide)).1
                  have kp99 : gP σ48_1 J 0 = gP σ46 J 0 := (cσ48_1.O (kJ.up (xτ32.trans (xσ39.trans (xσ45.trans xσ46)))) (by decide)).2.1
                  have kp100 : gP σ48_1 W 5 = gP σ46 W 5 := (cσ48_1.O (kW.up (xτ32.trans (xσ39.trans (xσ45.trans xσ46)))) (by decide)).2.1
                  have kp101 : gP σ48_1 b v1.toNat = gP σ46 b v1.toNat := (cσ48_1.A (mb.up (xτ32.trans (xσ39.trans (xσ45.trans xσ46)))) (by decide)).2.1
                  have kp102 : gP σ48_1 b_3 2 = gP σ46 b_3 2 := (cσ48_1.O (knb_3.up (xσ39.trans (xσ45.trans xσ46))) (by decide)).2.1
                  have kp103 : gP σ48_1 b_4 ((gI τ32 F v1.toNat) + 0).toNat = gP σ46 b_4 ((gI τ32 F v1.toNat) + 0).toNat := (cσ48_1.A (mb_4.up (xσ39.trans (xσ45.trans xσ46))) (by decide)).2.1
                  have kp104 : gP σ48_1 th 1 = gP σ46 th 1 := (cσ48_1.O (kth.up (xτ32.trans (xσ39.trans (xσ45.trans xσ46)))) (by decide)).2.1
                  have kp105 : gP σ48_1 th 2 = gP σ46 th 2 := (cσ48_1.O (kth.up (xτ32.trans (xσ39.trans (xσ45.trans xσ46)))) (by decide)).2.1
                  have kp106 : gP σ48_1 th 3 = gP σ46 th 3 := (cσ48_1.O (kth.up (xτ32.trans (xσ39.trans (xσ45.trans xσ46)))) (by decide)).2.1
                  have kp107 : gP σ48_1 th 5 = gP σ46 th 5 := (cσ48_1.O (kth.up (xτ32.trans (xσ39.trans (xσ45.trans xσ46)))) (by decide)).2.1
                  have kp108 : gP σ48_1 th 9 = gP σ46 th 9 := (cσ48_1.O (kth.up (xτ32.trans (xσ39.trans (xσ45.trans xσ46)))) (by decide)).2.1
                  obtain ⟨b_9, eb_9, fb_9⟩ := P_10_3 iσ48_1.1 (knb_3.up (xσ39.trans (xσ45.trans (xσ46.trans xσ48_1))))
                  have mb_9 : kO σ48_1 b_9 1 := iσ48_1.1.kd (knb_3.up (xσ39.trans (xσ45.trans (xσ46.trans xσ48_1)))) rfl eb_9 rfl
                  refine i_X9_restoreRecords iσ48_1 (kth.up (xτ32.trans (xσ39.trans (xσ45.trans (xσ46.trans xσ48_1))))) eb_9 mb_9 (kp108.trans (kp93.trans (kp79.trans (kp34.trans (kp12.trans hj))))) (kJ.up (xτ32.trans (xσ39.trans (xσ45.trans (xσ46.trans xσ48_1))))) (by (first | omega | with_reducible assumption | with_reducible exact rng_toInt _ | with_reducible exact rng_wr _ | (unfold rng; omega) | (unfold rng at *; omega) | assumption)) (kp104.trans (kp89.trans (kp75.trans (kp30.trans (kp9.trans hw))))) (kW.up (xτ32.trans (xσ39.trans (xσ45.trans (xσ46.trans xσ48_1))))) (kp100.trans (kp86.trans (kp72.trans (kp27.trans (kp7.trans hWJ))))) (kp107.trans (kp92.trans (kp78.trans (kp33.trans (kp11.trans hF))))) (kF.up (xτ32.trans (xσ39.trans (xσ45.trans (xσ46.trans xσ48_1))))) gF hP (hl1.fx iσ iσ48_1 GE.rf fσ48_1 (by omega) (by decide)) (hf1.fx kF gF fσ48_1 (by decide)) (by (first | omega | with_reducible assumption | with_reducible exact rng_toInt _ | with_reducible exact rng_wr _ | (unfold rng; omega) | (unfold rng at *; omega) | assumption)) (by (first | omega | with_reducible assumption | with_reducible exact rng_toInt _ | with_reducible exact rng_wr _ | (unfold rng; omega) | (unfold rng at *; omega) | assumption)) (by (first | omega | with_reducible assumption | with_reducible exact rng_toInt _ | with_reducible exact rng_wr _ | (unfold rng; omega) | (unfold rng at *; omega) | assumption)) (by (first | omega | with_reducible assumption | with_reducible exact rng_toInt _ | with_reducible exact rng_wr _ | (unfold rng; omega) | (unfold rng at *; omega) | assumption)) (fun hL => by have z9 := (iσ48_1.ss.2.2.2.2.2.1 b_9 mb_9 hL).2.2.2.2.2.1 (by omega); rw [show ci b_9 / 4 = v1.toNat by omega] at z9; exact z9) (by (first | omega | with_reducible assumption | with_reducible exact rng_toInt _ | with_reducible exact rng_wr _ | (unfold rng; omega) | (unfold rng at *; omega) | assumption)) (by (first | omega | with_reducible assumption | with_reducible exact rng_toInt _ | with_reducible exact rng_wr _ | (unfold rng; omega) | (unfold rng at *; omega) | assumption)) (by (first | omega | with_reducible assumption | with_reducible exact rng_toInt _ | with_reducible exact rng_wr _ | (unfold rng; omega) | (unfold rng at *; omega) | assumption)) (fun σ49_1 LLσ49_1 Nσ49_1 nuσ49_1 _ iσ49_1 cσ49_1 uσ49_1 hσ49_1 pσ49_1 => ?_) (fun σx LLx Nx nux E ix cx ux px => hX σx LLx Nx nux E ix (fσ48_1.tr (cx.mo (by decide))) (nu_σ48_1.x ux) (by first | exact px | exact ⟨by have := px.1; omega, px.2⟩ | (first | omega | with_reducible assumption | with_reducible exact rng_toInt _ | with_reducible exact rng_wr _ | (unfold rng; omega) | (unfold rng at *; omega) | assumption)))
                  intro xσ49_1
                  have fσ49_1 : Fx [1, 2, 3, 4, 5, 6, 7, 64, 512, 645, 646, 647, 708, 6464] gr σ σ49_1 := fσ48_1.tr (cσ49_1.mo (by decide))
                  have hnσ49_1 : Hn (gD σ) [11, 12] [] gq LL LLσ49_1 N Nσ49_1 := hnσ48_1.go hσ49_1 (fun d hd => (fσ48_1.1 d hd).1) (by first | decide | exact fun _ h => h | (simp; done) | (intro x hx; simp only [List.mem_cons, List.mem_nil_iff, or_false] at hx ⊢; omega)) (fun d hd => absurd hd (by simp))
                  have nσ49_1_3 := hσ49_1.2.2 3 (by first | decide | (simp; done) | (simp only [List.mem_cons, List.mem_nil_iff, or_false, not_or]; omega)) (by first | decide | omega) (by first | decide | omega) (by first | decide | omega)
                  have nσ49_1_5 := hσ49_1.2.2 5 (by first | decide | (simp; done) | (simp only [List.mem_cons, List.mem_nil_iff, or_false, not_or]; omega)) (by first | decide | omega) (by first | decide | omega) (by first | decide | omega)
                  have nσ49_1_14 := hσ49_1.2.2 14 (by first | decide | (simp; done) | (simp only [List.mem_cons, List.mem_nil_iff, or_false, not_or]; omega)) (by first | decide | omega) (by first | decide | omega) (by first | decide | omega)
                  have nσ49_1_44 := hσ49_1.2.2 44 (by first | decide | (simp; done) | (simp only [List.mem_cons, List.mem_nil_iff, or_false, not_or]; omega)) (by first | decide | omega) (by first | decide | omega) (by first | decide | omega)
                  have nσ49_1_74 := hσ49_1.2.2 74 (by first | decide | (simp; done) | (simp only [List.mem_cons, List.mem_nil_iff, or_false, not_or]; omega)) (by first | decide | omega) (by first | decide | omega) (by first | decide | omega)
                  have nσ49_1_41 := hσ49_1.2.2 41 (by first | decide | (simp; done) | (simp only [List.mem_cons, List.mem_nil_iff, or_false, not_or]; omega)) (by first | decide | omega) (by first | decide | omega) (by first | decide | omega)
                  have nσ49_1_42 := hσ49_1.2.2 42 (by first | decide | (simp; done) | (simp only [List.mem_cons, List.mem_nil_iff, or_false, not_or]; omega)) (by first | decide | omega) (by first | decide | omega) (by first | decide | omega)
                  have nσ49_1_13 := hσ49_1.2.2 13 (by first | decide | (simp; done) | (simp only [List.mem_cons, List.mem_nil_iff, or_false, not_or]; omega)) (by first | decide | omega) (by first | decide | omega) (by first | decide | omega)
                  have nσ49_1_50 := hσ49_1.2.2 50 (by first | decide | (simp; done) | (simp only [List.mem_cons, List.mem_nil_iff, or_false, not_or]; omega)) (by first | decide | omega) (by first | decide | omega) (by first | decide | omega)
                  have nu_σ49_1 : NU nu nuσ49_1 := nu_σ48_1.tr uσ49_1
                  have uσ49_1_0 := uσ49_1.1 0 (by decide)
                  have uσ49_1_1 := uσ49_1.1 1 (by decide)
                  have uσ49_1_2 := uσ49_1.2
                  have uσ49_1_5 := uσ49_1.1 5 (by decide)
                  have uσ49_1_15 := uσ49_1.1 15 (by decide)
                  have uσ49_1_16 := uσ49_1.1 16 (by decide)
                  have kp109 : gI σ49_1 b_1 6 = gI σ48_1 b_1 6 := (cσ49_1.O (mb_1.up (xτ32.trans (xσ39.trans (xσ45.trans (xσ46.trans xσ48_1))))) (by decide)).1
                  have kp110 : gI σ49_1 b_2 5 = gI σ48_1 b_2 5 := (cσ49_1.O (kk_b_2.up (xτ32.trans (xσ39.trans (xσ45.trans (xσ46.trans xσ48_1))))) (by decide)).1
                  have kp111 : gI σ49_1 b_5 5 = gI σ48_1 b_5 5 := (cσ49_1.O (mb_5.up (xσ39.trans (xσ45.trans (xσ46.trans xσ48_1)))) (by decide)).1
                  have kp112 : gI σ49_1 b_5 6 = gI σ48_1 b_5 6 := (cσ49_1.O (mb_5.up (xσ39.trans (xσ45.trans (xσ46.trans xσ48_1)))) (by decide)).1
                  have kp113 : gI σ49_1 th 12 = gI σ48_1 th 12 := (cσ49_1.O (kth.up (xτ32.trans (xσ39.trans (xσ45.trans (xσ46.trans xσ48_1))))) (by decide)).1
                  have kp114 : gP σ49_1 J 0 = gP σ48_1 J 0 := (cσ49_1.O (kJ.up (xτ32.trans (xσ39.trans (xσ45.trans (xσ46.trans xσ48_1))))) (by decide)).2.1
                  have kp115 : gP σ49_1 W 5 = gP σ48_1 W 5 := (cσ49_1.O (kW.up (xτ32.trans (xσ39.trans (xσ45.trans (xσ46.trans xσ48_1))))) (by decide)).2.1
                  have kp116 : gP σ49_1 b v1.toNat = gP σ48_1 b v1.toNat := (cσ49_1.A (mb.up (xτ32.trans (xσ39.trans (xσ45.trans (xσ46.trans xσ48_1))))) (by decide)).2.1
                  have kp117 : gP σ49_1 b_3 2 = gP σ48_1 b_3 2 := (cσ49_1.O (knb_3.up (xσ39.trans (xσ45.trans (xσ46.trans xσ48_1)))) (by decide)).2.1
                  have kp118 : gP σ49_1 b_3 3 = gP σ48_1 b_3 3 := (cσ49_1.O (knb_3.up (xσ39.trans (xσ45.trans (xσ46.trans xσ48_1)))) (by decide)).2.1
                  have kp119 : gP σ49_1 b_4 ((gI τ32 F v1.toNat) + 0).toNat = gP σ48_1 b_4 ((gI τ32 F v1.toNat) + 0).toNat := (cσ49_1.A (mb_4.up (xσ39.trans (xσ45.trans (xσ46.trans xσ48_1)))) (by decide)).2.1
                  have kp120 : gP σ49_1 th 1 = gP σ48_1 th 1 := (cσ49_1.O (kth.up (xτ32.trans (xσ39.trans (xσ45.trans (xσ46.trans xσ48_1))))) (by decide)).2.1
                  have kp121 : gP σ49_1 th 2 = gP σ48_1 th 2 := (cσ49_1.O (kth.up (xτ32.trans (xσ39.trans (xσ45.trans (xσ46.trans xσ48_1))))) (by decide)).2.1
                  have kp122 : gP σ49_1 th 3 = gP σ48_1 th 3 := (cσ49_1.O (kth.up (xτ32.trans (xσ39.trans (xσ45.trans (xσ46.trans xσ48_1))))) (by decide)).2.1
                  have kp123 : gP σ49_1 th 5 = gP σ48_1 th 5 := (cσ49_1.O (kth.up (xτ32.trans (xσ39.trans (xσ45.trans (xσ46.trans xσ48_1))))) (by decide)).2.1
                  have kp124 : gP σ49_1 th 9 = gP σ48_1 th 9 := (cσ49_1.O (kth.up (xτ32.trans (xσ39.trans (xσ45.trans (xσ46.trans xσ48_1))))) (by decide)).2.1
                  unfold w_X9_restore_163
                  refine ⟨by (first | omega | with_reducible assumption | with_reducible exact rng_toInt _ | with_reducible exact rng_wr _ | (unfold rng; omega) | (unfold rng at *; omega) | assumption), ?_⟩
                  exact ih32 σ49_1 LLσ49_1 Nσ49_1 nuσ49_1 (v3 + 1) iσ49_1 fσ49_1 (xτ32.trans (xσ39.trans (xσ45.trans (xσ46.trans (xσ48_1.trans xσ49_1))))) nu_σ49_1 hnσ49_1 (by (first | omega | with_reducible assumption | with_reducible exact rng_toInt _ | with_reducible exact rng_wr _ | (unfold rng; omega) | (unfold rng at *; omega) | assumption)) (by (first | omega | with_reducible assumption | with_reducible exact rng_toInt _ | with_reducible exact rng_wr _ | (unfold rng; omega) | (unfold rng at *; omega) | assumption))
              · rw [if_neg hc18]
                have hc18q := Classical.not_not.mp hc18
                unfold w_X9_restore_82
                unfold w_X9_restore_87
                have q125 := iτ32.rg F v1.toNat; unfold rng at q125
                refine ⟨by (first | omega | with_reducible assumption | with_reducible exact rng_toInt _ | with_reducible exact rng_wr _ | (unfold rng; omega) | (unfold rng at *; omega) | assumption), ?_⟩
                obtain ⟨b_10, eb_10, fb_10⟩ := P_9_3 iτ32.1 (kth.up xτ32)
                have mb_10 : kO τ32 b_10 120 := iτ32.1.kd (kth.up xτ32) rfl eb_10 rfl
                refine ⟨b_10, eb_10, fun kk_b_10 => ?_⟩
                refine ⟨⟨by (first | omega | with_reducible assumption | with_reducible exact rng_toInt _ | with_reducible exact rng_wr _ | (unfold rng; omega) | (unfold rng at *; omega) | assumption), by (first | omega | with_reducible assumption | with_reducible exact rng_toInt _ | with_reducible exact rng_wr _ | (unfold rng; omega) | (unfold rng at *; omega) | assumption)⟩, ?_⟩
                have n16b_11 := iτ32.n16
                obtain ⟨b_11, eb_11, mb_11, fb_11⟩ := P_120 iτ32 mb_10 (by omega) (k := ((gI τ32 F v1.toNat) + v3).toNat) (by (first | omega | with_reducible assumption | with_reducible exact rng_toInt _ | with_reducible exact rng_wr _ | (unfold rng; omega) | (unfold rng at *; omega) | assumption))
                refine ⟨b_11, eb_11, fun kk_b_11 => ?_⟩
                refine ⟨b_3, eb_3, fun kk_b_3_4 => ?_⟩
                intro σ39_1 eσ39_1
                have xσ39_1 : Ext τ32 σ39_1 := by rw [eσ39_1]; exact fun _ h => ⟨h, rfl, rfl⟩
                have q126 := iτ32.rg b_11 5; unfold rng at q126
                have q127 := iτ32.rg b_3 5; unfold rng at q127
                have iσ39_1 : IV σ39_1 pl gq ci gr nc ot LLt32 Nt32 nut32 := by rw [eσ39_1]; exact iτ32.wO mb_11 (by decide) (rngb (by first | exact rng_wr _ | (first | omega | with_reducible assumption | with_reducible exact rng_toInt _ | with_reducible exact rng_wr _ | (unfold rng; omega) | (unfold rng at *; omega) | assumption)))
                have fσ39_1 : Fx [1, 2, 3, 4, 5, 6, 7, 64, 512, 645, 646, 647, 708, 6464] gr σ σ39_1 := fτ32.tr (Sk.fx (by rw [eσ39_1]; exact Sk.pI (by rw [fcdO mb_11 (by decide)]; decide)))
                have wσ39_1 : gI σ39_1 b_11 5 = (wr (gI τ32 b_11 5 + gI τ32 b_3 5)) := by rw [eσ39_1]; exact up2_s _ _ _ _
                have kp128 : gI σ39_1 b_1 6 = gI τ32 b_1 6 := by rw [eσ39_1]; exact up2_n _ _ (fun q => absurd q.2 (by decide))
                have kp129 : gI σ39_1 b_2 5 = gI τ32 b_2 5 := by rw [eσ39_1]; exact up2_n _ _ (fun q => absurd q.1 (kO.ne (kk_b_2.up xτ32) mb_11 (by decide)))
                have kp130 : gI σ39_1 th 12 = gI τ32 th 12 := by rw [eσ39_1]; exact up2_n _ _ (fun q => absurd q.2 (by decide))
                have kp131 : gP σ39_1 J 0 = gP τ32 J 0 := by rw [eσ39_1]
                have kp132 : gP σ39_1 W 5 = gP τ32 W 5 := by rw [eσ39_1]
                have kp133 : gP σ39_1 b v1.toNat = gP τ32 b v1.toNat := by rw [eσ39_1]
                have kp134 : gP σ39_1 b_10 ((gI τ32 F v1.toNat) + v3).toNat = gP τ32 b_10 ((gI τ32 F v1.toNat) + v3).toNat := by rw [eσ39_1]
                have kp135 : gP σ39_1 th 1 = gP τ32 th 1 := by rw [eσ39_1]
                have kp136 : gP σ39_1 th 2 = gP τ32 th 2 := by rw [eσ39_1]
                have kp137 : gP σ39_1 th 3 = gP τ32 th 3 := by rw [eσ39_1]
                have kp138 : gP σ39_1 th 5 = gP τ32 th 5 := by rw [eσ39_1]
                have kp139 : gP σ39_1 th 9 = gP τ32 th 9 := by rw [eσ39_1]
                refine ⟨J, (kp139.trans (kp12.trans hj)), fun kk_J_2 => ?_⟩
                refine ⟨b, (kp131.trans (kp6.trans eb)), fun kk_b_7 => ?_⟩
                have q140 := ((xτ32.trans xσ39_1) b mb.1).2.2
                refine ⟨⟨by (first | omega | with_reducible assumption | with_reducible exact rng_toInt _ | with_reducible exact rng_wr _ | (unfold rng; omega) | (unfold rng at *; omega) | assumption), by (first | omega | with_reducible assumption | with_reducible exact rng_toInt _ | with_reducible exact rng_wr _ | (unfold rng; omega) | (unfold rng at *; omega) | assumption)⟩, ?_⟩
                refine ⟨b_1, (kp133.trans (kp8.trans eb_1)), fun kk_b_1_2 => ?_⟩
                by_cases hc141 : gI σ39_1 b_1 6 ≠ 0
                · rw [if_pos hc141]
                  unfold w_X9_restore_141
                  refine ⟨b_3, eb_3, fun kk_b_3_5 => ?_⟩
                  obtain ⟨b_12, eb_12, fb_12⟩ := P_10_2 iσ39_1.1 (knb_3.up xσ39_1)
                  have mb_12 : kO σ39_1 b_12 1 := iσ39_1.1.kd (knb_3.up xσ39_1) rfl eb_12 rfl
                  refine i_X9_restoreRecords iσ39_1 (kth.up (xτ32.trans xσ39_1)) eb_12 mb_12 (kp139.trans (kp12.trans hj)) (kJ.up (xτ32.trans xσ39_1)) (by (first | omega | with_reducible assumption | with_reducible exact rng_toInt _ | with_reducible exact rng_wr _ | (unfold rng; omega) | (unfold rng at *; omega) | assumption)) (kp135.trans (kp9.trans hw)) (kW.up (xτ32.trans xσ39_1)) (kp132.trans (kp7.trans hWJ)) (kp138.trans (kp11.trans hF)) (kF.up (xτ32.trans xσ39_1)) gF hP (hl1.fx iσ iσ39_1 GE.rf fσ39_1 (by omega) (by decide)) (hf1.fx kF gF fσ39_1 (by decide)) (by (first | omega | with_reducible assumption | with_reducible exact rng_toInt _ | with_reducible exact rng_wr _ | (unfold rng; omega) | (unfold rng at *; omega) | assumption)) (by (first | omega | with_reducible assumption | with_reducible exact rng_toInt _ | with_reducible exact rng_wr _ | (unfold rng; omega) | (unfold rng at *; omega) | assumption)) (by (first | omega | with_reducible assumption | with_reducible exact rng_toInt _ | with_reducible exact rng_wr _ | (unfold rng; omega) | (unfold rng at *; omega) | assumption)) (by (first | omega | with_reducible assumption | with_reducible exact rng_toInt _ | with_reducible exact rng_wr _ | (unfold rng; omega) | (unfold rng at *; omega) | assumption)) (fun hL => by have z9 := (iσ39_1.ss.2.2.2.2.2.1 b_12 mb_12 hL).2.2.2.2.2.1 (by omega); rw [show ci b_12 / 4 = v1.toNat by omega] at z9; exact z9) (by (first | omega | with_reducible assumption | with_reducible exact rng_toInt _ | with_reducible exact rng_wr _ | (unfold rng; omega) | (unfold rng at *; omega) | assumption)) (by (first | omega | with_reducible assumption | with_reducible exact rng_toInt _ | with_reducible exact rng_wr _ | (unfold rng; omega) | (unfold rng at *; omega) | assumption)) (by (first | omega | with_reducible assumption | with_reducible exact rng_toInt _ | with_reducible exact rng_wr _ | (unfold rng; omega) | (unfold rng at *; omega) | assumption)) (fun σ48_2 LLσ48_2 Nσ48_2 nuσ48_2 _ iσ48_2 cσ48_2 uσ48_2 hσ48_2 pσ48_2 => ?_) (fun σx LLx Nx nux E ix cx ux px => hX σx LLx Nx nux E ix (fσ39_1.tr (cx.mo (by decide))) (nu_τ32.x ux) (by first | exact px | exact ⟨by have := px.1; omega, px.2⟩ | (first | omega | with_reducible assumption | with_reducible exact rng_toInt _ | with_reducible exact rng_wr _ | (unfold rng; omega) | (unfold rng at *; omega) | assumption)))
                  intro xσ48_2
                  have fσ48_2 : Fx [1, 2, 3, 4, 5, 6, 7, 64, 512, 645, 646, 647, 708, 6464] gr σ σ48_2 := fσ39_1.tr (cσ48_2.mo (by decide))
                  have hnσ48_2 : Hn (gD σ) [11, 12] [] gq LL LLσ48_2 N Nσ48_2 := hnτ32.go hσ48_2 (fun d hd => (fσ39_1.1 d hd).1) (by first | decide | exact fun _ h => h | (simp; done) | (intro x hx; simp only [List.mem_cons, List.mem_nil_iff, or_false] at hx ⊢; omega)) (fun d hd => absurd hd (by simp))
                  have nσ48_2_3 := hσ48_2.2.2 3 (by first | decide | (simp; done) | (simp only [List.mem_cons, List.mem_nil_iff, or_false, not_or]; omega)) (by first | decide | omega) (by first | decide | omega) (by first | decide | omega)
                  have nσ48_2_5 := hσ48_2.2.2 5 (by first | decide | (simp; done) | (simp only [List.mem_cons, List.mem_nil_iff, or_false, not_or]; omega)) (by first | decide | omega) (by first | decide | omega) (by first | decide | omega)
                  have nσ48_2_14 := hσ48_2.2.2 14 (by first | decide | (simp; done) | (simp only [List.mem_cons, List.mem_nil_iff, or_false, not_or]; omega)) (by first | decide | omega) (by first | decide | omega) (by first | decide | omega)
                  have nσ48_2_44 := hσ48_2.2.2 44 (by first | decide | (simp; done) | (simp only [List.mem_cons, List.mem_nil_iff, or_false, not_or]; omega)) (by first | decide | omega) (by first | decide | omega) (by first | decide | omega)
                  have nσ48_2_74 := hσ48_2.2.2 74 (by first | decide | (simp; done) | (simp only [List.mem_cons, List.mem_nil_iff, or_false, not_or]; omega)) (by first | decide | omega) (by first | decide | omega) (by first | decide | omega)
                  have nσ48_2_41 := hσ48_2.2.2 41 (by first | decide | (simp; done) | (simp only [List.mem_cons, List.mem_nil_iff, or_false, not_or]; omega)) (by first | decide | omega) (by first | decide | omega) (by first | decide | omega)
                  have nσ48_2_42 := hσ48_2.2.2 42 (by first | decide | (simp; done) | (simp only [List.mem_cons, List.mem_nil_iff, or_false, not_or]; omega)) (by first | decide | omega) (by first | decide | omega) (by first | decide | omega)
                  have nσ48_2_13 := hσ48_2.2.2 13 (by first | decide | (simp; done) | (simp only [List.mem_cons, List.mem_nil_iff, or_false, not_or]; omega)) (by first | decide | omega) (by first | decide | omega) (by first | decide | omega)
                  have nσ48_2_50 := hσ48_2.2.2 50 (by first | decide | (simp; done) | (simp only [List.mem_cons, List.mem_nil_iff, or_false, not_or]; omega)) (by first | decide | omega) (by first | decide | omega) (by first | decide | omega)
                  have nu_σ48_2 : NU nu nuσ48_2 := nu_τ32.tr uσ48_2
                  have uσ48_2_0 := uσ48_2.1 0 (by decide)
                  have uσ48_2_1 := uσ48_2.1 1 (by decide)
                  have uσ48_2_2 := uσ48_2.2
                  have uσ48_2_5 := uσ48_2.1 5 (by decide)
                  have uσ48_2_15 := uσ48_2.1 15 (by decide)
                  have uσ48_2_16 := uσ48_2.1 16 (by decide)
                  have kp142 : gI σ48_2 b_1 6 = gI σ39_1 b_1 6 := (cσ48_2.O (mb_1.up (xτ32.trans xσ39_1)) (by decide)).1
                  have kp143 : gI σ48_2 b_11 5 = gI σ39_1 b_11 5 := (cσ48_2.O (mb_11.up xσ39_1) (by decide)).1
                  have kp144 : gI σ48_2 b_2 5 = gI σ39_1 b_2 5 := (cσ48_2.O (kk_b_2.up (xτ32.trans xσ39_1)) (by decide)).1
                  have kp145 : gI σ48_2 th 12 = gI σ39_1 th 12 := (cσ48_2.O (kth.up (xτ32.trans xσ39_1)) (by decide)).1
                  have kp146 : gP σ48_2 J 0 = gP σ39_1 J 0 := (cσ48_2.O (kJ.up (xτ32.trans xσ39_1)) (by decide)).2.1
                  have kp147 : gP σ48_2 W 5 = gP σ39_1 W 5 := (cσ48_2.O (kW.up (xτ32.trans xσ39_1)) (by decide)).2.1
                  have kp148 : gP σ48_2 b v1.toNat = gP σ39_1 b v1.toNat := (cσ48_2.A (mb.up (xτ32.trans xσ39_1)) (by decide)).2.1
                  have kp149 : gP σ48_2 b_10 ((gI τ32 F v1.toNat) + v3).toNat = gP σ39_1 b_10 ((gI τ32 F v1.toNat) + v3).toNat := (cσ48_2.A (mb_10.up xσ39_1) (by decide)).2.1
                  have kp150 : gP σ48_2 b_3 2 = gP σ39_1 b_3 2 := (cσ48_2.O (knb_3.up xσ39_1) (by decide)).2.1
                  have kp151 : gP σ48_2 th 1 = gP σ39_1 th 1 := (cσ48_2.O (kth.up (xτ32.trans xσ39_1)) (by decide)).2.1
                  have kp152 : gP σ48_2 th 2 = gP σ39_1 th 2 := (cσ48_2.O (kth.up (xτ32.trans xσ39_1)) (by decide)).2.1
                  have kp153 : gP σ48_2 th 3 = gP σ39_1 th 3 := (cσ48_2.O (kth.up (xτ32.trans xσ39_1)) (by decide)).2.1
                  have kp154 : gP σ48_2 th 5 = gP σ39_1 th 5 := (cσ48_2.O (kth.up (xτ32.trans xσ39_1)) (by decide)).2.1
                  have kp155 : gP σ48_2 th 9 = gP σ39_1 th 9 := (cσ48_2.O (kth.up (xτ32.trans xσ39_1)) (by decide)).2.1
                  obtain ⟨b_13, eb_13, fb_13⟩ := P_10_3 iσ48_2.1 (knb_3.up (xσ39_1.trans xσ48_2))
                  have mb_13 : kO σ48_2 b_13 1 := iσ48_2.1.kd (knb_3.up (xσ39_1.trans xσ48_2)) rfl eb_13 rfl
                  refine i_X9_restoreRecords iσ48_2 (kth.up (xτ32.trans (xσ39_1.trans xσ48_2))) eb_13 mb_13 (kp155.trans (kp139.trans (kp12.trans hj))) (kJ.up (xτ32.trans (xσ39_1.trans xσ48_2))) (by (first | omega | with_reducible assumption | with_reducible exact rng_toInt _ | with_reducible exact rng_wr _ | (unfold rng; omega) | (unfold rng at *; omega) | assumption)) (kp151.trans (kp135.trans (kp9.trans hw))) (kW.up (xτ32.trans (xσ39_1.trans xσ48_2))) (kp147.trans (kp132.trans (kp7.trans hWJ))) (kp154.trans (kp138.trans (kp11.trans hF))) (kF.up (xτ32.trans (xσ39_1.trans xσ48_2))) gF hP (hl1.fx iσ iσ48_2 GE.rf fσ48_2 (by omega) (by decide)) (hf1.fx kF gF fσ48_2 (by decide)) (by (first | omega | with_reducible assumption | with_reducible exact rng_toInt _ | with_reducible exact rng_wr _ | (unfold rng; omega) | (unfold rng at *; omega) | assumption)) (by (first | omega | with_reducible assumption | with_reducible exact rng_toInt _ | with_reducible exact rng_wr _ | (unfold rng; omega) | (unfold rng at *; omega) | assumption)) (by (first | omega | with_reducible assumption | with_reducible exact rng_toInt _ | with_reducible exact rng_wr _ | (unfold rng; omega) | (unfold rng at *; omega) | assumption)) (by (first | omega | with_reducible assumption | with_reducible exact rng_toInt _ | with_reducible exact rng_wr _ | (unfold rng; omega) | (unfold rng at *; omega) | assumption)) (fun hL => by have z9 := (iσ48_2.ss.2.2.2.2.2.1 b_13 mb_13 hL).2.2.2.2.2.1 (by omega); rw [show ci b_13 / 4 = v1.toNat by omega] at z9; exact z9) (by (first | omega | with_reducible assumption | with_reducible exact rng_toInt _ | with_reducible exact rng_wr _ | (unfold rng; omega) | (unfold rng at *; omega) | assumption)) (by (first | omega | with_reducible assumption | with_reducible exact rng_toInt _ | with_reducible exact rng_wr _ | (unfold rng; omega) | (unfold rng at *; omega) | assumption)) (by (first | omega | with_reducible assumption | with_reducible exact rng_toInt _ | with_reducible exact rng_wr _ | (unfold rng; omega) | (unfold rng at *; omega) | assumption)) (fun σ49_2 LLσ49_2 Nσ49_2 nuσ49_2 _ iσ49_2 cσ49_2 uσ49_2 hσ49_2 pσ49_2 => ?_) (fun σx LLx Nx nux E ix cx ux px => hX σx LLx Nx nux E ix (fσ48_2.tr (cx.mo (by decide))) (nu_σ48_2.x ux) (by first | exact px | exact ⟨by have := px.1; omega, px.2⟩ | (first | omega | with_reducible assumption | with_reducible exact rng_toInt _ | with_reducible exact rng_wr _ | (unfold rng; omega) | (unfold rng at *; omega) | assumption)))
                  intro xσ49_2
                  have fσ49_2 : Fx [1, 2, 3, 4, 5, 6, 7, 64, 512, 645, 646, 647, 708, 6464] gr σ σ49_2 := fσ48_2.tr (cσ49_2.mo (by decide))
                  have hnσ49_2 : Hn (gD σ) [11, 12] [] gq LL LLσ49_2 N Nσ49_2 := hnσ48_2.go hσ49_2 (fun d hd => (fσ48_2.1 d hd).1) (by first | decide | exact fun _ h => h | (simp; done) | (intro x hx; simp only [List.mem_cons, List.mem_nil_iff, or_false] at hx ⊢; omega)) (fun d hd => absurd hd (by simp))
                  have nσ49_2_3 := hσ49_2.2.2 3 (by first | decide | (simp; done) | (simp only [List.mem_cons, List.mem_nil_iff, or_false, not_or]; omega)) (by first | decide | omega) (by first | decide | omega) (by first | decide | omega)
                  have nσ49_2_5 := hσ49_2.2.2 5 (by first | decide | (simp; done) | (simp only [List.mem_cons, List.mem_nil_iff, or_false, not_or]; omega)) (by first | decide | omega) (by first | decide | omega) (by first | decide | omega)
                  have nσ49_2_14 := hσ49_2.2.2 14 (by first | decide | (simp; done) | (simp only [List.mem_cons, List.mem_nil_iff, or_false, not_or]; omega)) (by first | decide | omega) (by first | decide | omega) (by first | decide | omega)
                  have nσ49_2_44 := hσ49_2.2.2 44 (by first | decide | (simp; done) | (simp only [List.mem_cons, List.mem_nil_iff, or_false, not_or]; omega)) (by first | decide | omega) (by first | decide | omega) (by first | decide | omega)
                  have nσ49_2_74 := hσ49_2.2.2 74 (by first | decide | (simp; done) | (simp only [List.mem_cons, List.mem_nil_iff, or_false, not_or]; omega)) (by first | decide | omega) (by first | decide | omega) (by first | decide | omega)
                  have nσ49_2_41 := hσ49_2.2.2 41 (by first | decide | (simp; done) | (simp only [List.mem_cons, List.mem_nil_iff, or_false, not_or]; omega)) (by first | decide | omega) (by first | decide | omega) (by first | decide | omega)
                  have nσ49_2_42 := hσ49_2.2.2 42 (by first | decide | (simp; done) | (simp only [List.mem_cons, List.mem_nil_iff, or_false, not_or]; omega)) (by first | decide | omega) (by first | decide | omega) (by first | decide | omega)
                  have nσ49_2_13 := hσ49_2.2.2 13 (by first | decide | (simp; done) | (simp only [List.mem_cons, List.mem_nil_iff, or_false, not_or]; omega)) (by first | decide | omega) (by first | decide | omega) (by first | decide | omega)
                  have nσ49_2_50 := hσ49_2.2.2 50 (by first | decide | (simp; done) | (simp only [List.mem_cons, List.mem_nil_iff, or_false, not_or]; omega)) (by first | decide | omega) (by first | decide | omega) (by first | decide | omega)
                  have nu_σ49_2 : NU nu nuσ49_2 := nu_σ48_2.tr uσ49_2
                  have uσ49_2_0 := uσ49_2.1 0 (by decide)
                  have uσ49_2_1 := uσ49_2.1 1 (by decide)
                  have uσ49_2_2 := uσ49_2.2
                  have uσ49_2_5 := uσ49_2.1 5 (by decide)
                  have uσ49_2_15 := uσ49_2.1 15 (by decide)
                  have uσ49_2_16 := uσ49_2.1 16 (by decide)
                  have kp156 : gI σ49_2 b_1 6 = gI σ48_2 b_1 6 := (cσ49_2.O (mb_1.up (xτ32.trans (xσ39_1.trans xσ48_2))) (by decide)).1
                  have kp157 : gI σ49_2 b_11 5 = gI σ48_2 b_11 5 := (cσ49_2.O (mb_11.up (xσ39_1.trans xσ48_2)) (by decide)).1
                  have kp158 : gI σ49_2 b_2 5 = gI σ48_2 b_2 5 := (cσ49_2.O (kk_b_2.up (xτ32.trans (xσ39_1.trans xσ48_2))) (by decide)).1
                  have kp159 : gI σ49_2 th 12 = gI σ48_2 th 12 := (cσ49_2.O (kth.up (xτ32.trans (xσ39_1.trans xσ48_2))) (by decide)).1
                  have kp160 : gP σ49_2 J 0 = gP σ48_2 J 0 := (cσ49_2.O (kJ.up (xτ32.trans (xσ39_1.trans xσ48_2))) (by decide)).2.1
                  have kp161 : gP σ49_2 W 5 = gP σ48_2 W 5 := (cσ49_2.O (kW.up (xτ32.trans (xσ39_1.trans xσ48_2))) (by decide)).2.1
                  have kp162 : gP σ49_2 b v1.toNat = gP σ48_2 b v1.toNat := (cσ49_2.A (mb.up (xτ32.trans (xσ39_1.trans xσ48_2))) (by decide)).2.1
                  have kp163 : gP σ49_2 b_10 ((gI τ32 F v1.toNat) + v3).toNat = gP σ48_2 b_10 ((gI τ32 F v1.toNat) + v3).toNat := (cσ49_2.A (mb_10.up (xσ39_1.trans xσ48_2)) (by decide)).2.1
                  have kp164 : gP σ49_2 b_3 2 = gP σ48_2 b_3 2 := (cσ49_2.O (knb_3.up (xσ39_1.trans xσ48_2)) (by decide)).2.1
                  have kp165 : gP σ49_2 b_3 3 = gP σ48_2 b_3 3 := (cσ49_2.O (knb_3.up (xσ39_1.trans xσ48_2)) (by decide)).2.1
                  have kp166 : gP σ49_2 th 1 = gP σ48_2 th 1 := (cσ49_2.O (kth.up (xτ32.trans (xσ39_1.trans xσ48_2))) (by decide)).2.1
                  have kp167 : gP σ49_2 th 2 = gP σ48_2 th 2 := (cσ49_2.O (kth.up (xτ32.trans (xσ39_1.trans xσ48_2))) (by decide)).2.1
                  have kp168 : gP σ49_2 th 3 = gP σ48_2 th 3 := (cσ49_2.O (kth.up (xτ32.trans (xσ39_1.trans xσ48_2))) (by decide)).2.1
                  have kp169 : gP σ49_2 th 5 = gP σ48_2 th 5 := (cσ49_2.O (kth.up (xτ32.trans (xσ39_1.trans xσ48_2))) (by decide)).2.1
                  have kp170 : gP σ49_2 th 9 = gP σ48_2 th 9 := (cσ49_2.O (kth.up (xτ32.trans (xσ39_1.trans xσ48_2))) (by decide)).2.1
                  unfold w_X9_restore_163
                  refine ⟨by (first | omega | with_reducible assumption | with_reducible exact rng_toInt _ | with_reducible exact rng_wr _ | (unfold rng; omega) | (unfold rng at *; omega) | assumption), ?_⟩
                  exact ih32 σ49_2 LLσ49_2 Nσ49_2 nuσ49_2 (v3 + 1) iσ49_2 fσ49_2 (xτ32.trans (xσ39_1.trans (xσ48_2.trans xσ49_2))) nu_σ49_2 hnσ49_2 (by (first | omega | with_reducible assumption | with_reducible exact rng_toInt _ | with_reducible exact rng_wr _ | (unfold rng; omega) | (unfold rng at *; omega) | assumption)) (by (first | omega | with_reducible assumption | with_reducible exact rng_toInt _ | with_reducible exact rng_wr _ | (unfold rng; omega) | (unfold rng at *; omega) | assumption))
                · rw [if_neg hc141]
                  have hc141q := Classical.not_not.mp hc141
                  unfold w_X9_restore_121
                  refine ⟨b_3, eb_3, fun kk_b_3_6 => ?_⟩
                  refine ⟨b_11, eb_11, fun kk_b_11_1 => ?_⟩
                  intro σ45_1 eσ45_1
                  have xσ45_1 : Ext σ39_1 σ45_1 := by rw [eσ45_1]; exact fun _ h => ⟨h, rfl, rfl⟩
                  have q171 := I_10_6 iσ39_1.1 (knb_3.up xσ39_1)
                  have iσ45_1 : IV σ45_1 pl gq ci gr nc ot LLt32 Nt32 nut32 := by rw [eσ45_1]; exact iσ39_1.wO (mb_11.up xσ39_1) (by decide) (show (0 : Int) ≤ (gI σ39_1 b_3 6) ∧ (gI σ39_1 b_3 6) ≤ 64 from ⟨by (first | omega | with_reducible assumption | with_reducible exact rng_toInt _ | with_reducible exact rng_wr _ | (unfold rng; omega) | (unfold rng at *; omega) | assumption), by (first | omega | with_reducible assumption | with_reducible exact rng_toInt _ | with_reducible exact rng_wr _ | (unfold rng; omega) | (unfold rng at *; omega) | assumption)⟩)
                  have fσ45_1 : Fx [1, 2, 3, 4, 5, 6, 7, 64, 512, 645, 646, 647, 708, 6464] gr σ σ45_1 := fσ39_1.tr (Sk.fx (by rw [eσ45_1]; exact Sk.pI (by rw [fcdO (mb_11.up xσ39_1) (by decide)]; decide)))
                  have wσ45_1 : gI σ45_1 b_11 6 = (gI σ39_1 b_3 6) := by rw [eσ45_1]; exact up2_s _ _ _ _
                  have kp172 : gI σ45_1 b_1 6 = gI σ39_1 b_1 6 := by rw [eσ45_1]; exact up2_n _ _ (fun q => absurd q.1 (kO.ne (mb_1.up (xτ32.trans xσ39_1)) (mb_11.up xσ39_1) (by decide)))
                  have kp173 : gI σ45_1 b_11 5 = gI σ39_1 b_11 5 := by rw [eσ45_1]; exact up2_n _ _ (fun q => absurd q.2 (by decide))
                  have kp174 : gI σ45_1 b_2 5 = gI σ39_1 b_2 5 := by rw [eσ45_1]; exact up2_n _ _ (fun q => absurd q.2 (by decide))
                  have kp175 : gI σ45_1 th 12 = gI σ39_1 th 12 := by rw [eσ45_1]; exact up2_n _ _ (fun q => absurd q.2 (by decide))
                  have kp176 : gP σ45_1 J 0 = gP σ39_1 J 0 := by rw [eσ45_1]
                  have kp177 : gP σ45_1 W 5 = gP σ39_1 W 5 := by rw [eσ45_1]
                  have kp178 : gP σ45_1 b v1.toNat = gP σ39_1 b v1.toNat := by rw [eσ45_1]
                  have kp179 : gP σ45_1 b_10 ((gI τ32 F v1.toNat) + v3).toNat = gP σ39_1 b_10 ((gI τ32 F v1.toNat) + v3).toNat := by rw [eσ45_1]
                  have kp180 : gP σ45_1 th 1 = gP σ39_1 th 1 := by rw [eσ45_1]
                  have kp181 : gP σ45_1 th 2 = gP σ39_1 th 2 := by rw [eσ45_1]
                  have kp182 : gP σ45_1 th 3 = gP σ39_1 th 3 := by rw [eσ45_1]
                  have kp183 : gP σ45_1 th 5 = gP σ39_1 th 5 := by rw [eσ45_1]
                  have kp184 : gP σ45_1 th 9 = gP σ39_1 th 9 := by rw [eσ45_1]
                  intro σ46_1 eσ46_1
                  have xσ46_1 : Ext σ45_1 σ46_1 := by rw [eσ46_1]; exact fun _ h => ⟨h, rfl, rfl⟩
                  have iσ46_1 : IV σ46_1 pl gq ci gr nc ot LLt32 Nt32 nut32 := by rw [eσ46_1]; exact iσ45_1.wT (mb_11.up (xσ39_1.trans xσ45_1)) (by decide) (iσ45_1.t7 (knb_3.up (xσ39_1.trans xσ45_1)))
                  have fσ46_1 : Fx [1, 2, 3, 4, 5, 6, 7, 64, 512, 645, 646, 647, 708, 6464] gr σ σ46_1 := fσ45_1.tr (Sk.fx (by rw [eσ46_1]; exact Sk.pJ (by rw [fcdO (mb_11.up (xσ39_1.trans xσ45_1)) (by decide)]; decide)))
                  have kp185 : gI σ46_1 b_1 6 = gI σ45_1 b_1 6 := by rw [eσ46_1]
                  have kp186 : gI σ46_1 b_11 5 = gI σ45_1 b_11 5 := by rw [eσ46_1]
                  have kp187 : gI σ46_1 b_11 6 = gI σ45_1 b_11 6 := by rw [eσ46_1]
                  have kp188 : gI σ46_1 b_2 5 = gI σ45_1 b_2 5 := by rw [eσ46_1]
                  have kp189 : gI σ46_1 th 12 = gI σ45_1 th 12 := by rw [eσ46_1]
                  have kp190 : gP σ46_1 J 0 = gP σ45_1 J 0 := by rw [eσ46_1]
                  have kp191 : gP σ46_1 W 5 = gP σ45_1 W 5 := by rw [eσ46_1]
                  have kp192 : gP σ46_1 b v1.toNat = gP σ45_1 b v1.toNat := by rw [eσ46_1]
                  have kp193 : gP σ46_1 b_10 ((gI τ32 F v1.toNat) + v3).toNat = gP σ45_1 b_10 ((gI τ32 F v1.toNat) + v3).toNat := by rw [eσ46_1]
                  have kp194 : gP σ46_1 th 1 = gP σ45_1 th 1 := by rw [eσ46_1]
                  have kp195 : gP σ46_1 th 2 = gP σ45_1 th 2 := by rw [eσ46_1]
                  have kp196 : gP σ46_1 th 3 = gP σ45_1 th 3 := by rw [eσ46_1]
                  have kp197 : gP σ46_1 th 5 = gP σ45_1 th 5 := by rw [eσ46_1]
                  have kp198 : gP σ46_1 th 9 = gP σ45_1 th 9 := by rw [eσ46_1]
                  unfold w_X9_restore_141
                  refine ⟨b_3, eb_3, fun kk_b_3_7 => ?_⟩
                  obtain ⟨b_14, eb_14, fb_14⟩ := P_10_2 iσ46_1.1 (knb_3.up (xσ39_1.trans (xσ45_1.trans xσ46_1)))
                  have mb_14 : kO σ46_1 b_14 1 := iσ46_1.1.kd (knb_3.up (xσ39_1.trans (xσ45_1.trans xσ46_1))) rfl eb_14 rfl
                  refine i_X9_restoreRecords iσ46_1 (kth.up (xτ32.trans (xσ39_1.trans (xσ45_1.trans xσ46_1)))) eb_14 mb_14 (kp198.trans (kp184.trans (kp139.trans (kp12.trans hj)))) (kJ.up (xτ32.trans (xσ39_1.trans (xσ45_1.trans xσ46_1)))) (by (first | omega | with_reducible assumption | with_reducible exact rng_toInt _ | with_reducible exact rng_wr _ | (unfold rng; omega) | (unfold rng at *; omega) | assumption)) (kp194.trans (kp180.trans (kp135.trans (kp9.trans hw)))) (kW.up (xτ32.trans (xσ39_1.trans (xσ45_1.trans xσ46_1)))) (kp191.trans (kp177.trans (kp132.trans (kp7.trans hWJ)))) (kp197.trans (kp183.trans (kp138.trans (kp11.trans hF)))) (kF.up (xτ32.trans (xσ39_1.trans (xσ45_1.trans xσ46_1)))) gF hP (hl1.fx iσ iσ46_1 GE.rf fσ46_1 (by omega) (by decide)) (hf1.fx kF gF fσ46_1 (by decide)) (by (first | omega | with_reducible assumption | with_reducible exact rng_toInt _ | with_reducible exact rng_wr _ | (unfold rng; omega) | (unfold rng at *; omega) | assumption)) (by (first | omega | with_reducible assumption | with_reducible exact rng_toInt _ | with_reducible exact rng_wr _ | (unfold rng; omega) | (unfold rng at *; omega) | assumption)) (by (first | omega | with_reducible assumption | with_reducible exact rng_toInt _ | with_reducible exact rng_wr _ | (unfold rng; omega) | (unfold rng at *; omega) | assumption)) (by (first | omega | with_reducible assumption | with_reducible exact rng_toInt _ | with_reducible exact rng_wr _ | (unfold rng; omega) | (unfold rng at *; omega) | assumption)) (fun hL => by have z9 := (iσ46_1.ss.2.2.2.2.2.1 b_14 mb_14 hL).2.2.2.2.2.1 (by omega); rw [show ci b_14 / 4 = v1.toNat by omega] at z9; exact z9) (by (first | omega | with_reducible assumption | with_reducible exact rng_toInt _ | with_reducible exact rng_wr _ | (unfold rng; omega) | (unfold rng at *; omega) | assumption)) (by (first | omega | with_reducible assumption | with_reducible exact rng_toInt _ | with_reducible exact rng_wr _ | (unfold rng; omega) | (unfold rng at *; omega) | assumption)) (by (first | omega | with_reducible assumption | with_reducible exact rng_toInt _ | with_reducible exact rng_wr _ | (unfold rng; omega) | (unfold rng at *; omega) | assumption)) (fun σ48_3 LLσ48_3 Nσ48_3 nuσ48_3 _ iσ48_3 cσ48_3 uσ48_3 hσ48_3 pσ48_3 => ?_) (fun σx LLx Nx nux E ix cx ux px => hX σx LLx Nx nux E ix (fσ46_1.tr (cx.mo (by decide))) (nu_τ32.x ux) (by first | exact px | exact ⟨by have := px.1; omega, px.2⟩ | (first | omega | with_reducible assumption | with_reducible exact rng_toInt _ | with_reducible exact rng_wr _ | (unfold rng; omega) | (unfold rng at *; omega) | assumption)))
                  intro xσ48_3
                  have fσ48_3 : Fx [1, 2, 3, 4, 5, 6, 7, 64, 512, 645, 646, 647, 708, 6464] gr σ σ48_3 := fσ46_1.tr (cσ48_3.mo (by decide))
                  have hnσ48_3 : Hn (gD σ) [11, 12] [] gq LL LLσ48_3 N Nσ48_3 := hnτ32.go hσ48_3 (fun d hd => (fσ46_1.1 d hd).1) (by first | decide | exact fun _ h => h | (simp; done) | (intro x hx; simp only [List.mem_cons, List.mem_nil_iff, or_false] at hx ⊢; omega)) (fun d hd => absurd hd (by simp))
                  have nσ48_3_3 := hσ48_3.2.2 3 (by first | decide | (simp; done) | (simp only [List.mem_cons, List.mem_nil_iff, or_false, not_or]; omega)) (by first | decide | omega) (by first | decide | omega) (by first | decide | omega)
                  have nσ48_3_5 := hσ48_3.2.2 5 (by first | decide | (simp; done) | (simp only [List.mem_cons, List.mem_nil_iff, or_false, not_or]; omega)) (by first | decide | omega) (by first | decide | omega) (by first | decide | omega)
                  have nσ48_3_14 := hσ48_3.2.2 14 (by first | decide | (simp; done) | (simp only [List.mem_cons, List.mem_nil_iff, or_false, not_or]; omega)) (by first | decide | omega) (by first | decide | omega) (by first | decide | omega)
                  have nσ48_3_44 := hσ48_3.2.2 44 (by first | decide | (simp; done) | (simp only [List.mem_cons, List.mem_nil_iff, or_false, not_or]; omega)) (by first | decide | omega) (by first | decide | omega) (by first | decide | omega)
                  have nσ48_3_74 := hσ48_3.2.2 74 (by first | decide | (simp; done) | (simp only [List.mem_cons, List.mem_nil_iff, or_false, not_or]; omega)) (by first | decide | omega) (by first | decide | omega) (by first | decide | omega)
                  have nσ48_3_41 := hσ48_3.2.2 41 (by first | decide | (simp; done) | (simp only [List.mem_cons, List.mem_nil_iff, or_false, not_or]; omega)) (by first | decide | omega) (by first | decide | omega) (by first | decide | omega)
                  have nσ48_3_42 := hσ48_3.2.2 42 (by first | decide | (simp; done) | (simp only [List.mem_cons, List.mem_nil_iff, or_false, not_or]; omega)) (by first | decide | omega) (by first | decide | omega) (by first | decide | omega)
                  have nσ48_3_13 := hσ48_3.2.2 13 (by first | decide | (simp; done) | (simp only [List.mem_cons, List.mem_nil_iff, or_false, not_or]; omega)) (by first | decide | omega) (by first | decide | omega) (by first | decide | omega)
                  have nσ48_3_50 := hσ48_3.2.2 50 (by first | decide | (simp; done) | (simp only [List.mem_cons, List.mem_nil_iff, or_false, not_or]; omega)) (by first | decide | omega) (by first | decide | omega) (by first | decide | omega)
                  have nu_σ48_3 : NU nu nuσ48_3 := nu_τ32.tr uσ48_3
                  have uσ48_3_0 := uσ48_3.1 0 (by decide)
                  have uσ48_3_1 := uσ48_3.1 1 (by decide)
                  have uσ48_3_2 := uσ48_3.2
                  have uσ48_3_5 := uσ48_3.1 5 (by decide)
                  have uσ48_3_15 := uσ48_3.1 15 (by decide)
                  have uσ48_3_16 := uσ48_3.1 16 (by decide)
                  have kp199 : gI σ48_3 b_1 6 = gI σ46_1 b_1 6 := (cσ48_3.O (mb_1.up (xτ32.trans (xσ39_1.trans (xσ45_1.trans xσ46_1)))) (by decide)).1
                  have kp200 : gI σ48_3 b_11 5 = gI σ46_1 b_11 5 := (cσ48_3.O (mb_11.up (xσ39_1.trans (xσ45_1.trans xσ46_1))) (by decide)).1
                  have kp201 : gI σ48_3 b_11 6 = gI σ46_1 b_11 6 := (cσ48_3.O (mb_11.up (xσ39_1.trans (xσ45_1.trans xσ46_1))) (by decide)).1
                  have kp202 : gI σ48_3 b_2 5 = gI σ46_1 b_2 5 := (cσ48_3.O (kk_b_2.up (xτ32.trans (xσ39_1.trans (xσ45_1.trans xσ46_1)))) (by decide)).1
                  have kp203 : gI σ48_3 th 12 = gI σ46_1 th 12 := (cσ48_3.O (kth.up (xτ32.trans (xσ39_1.trans (xσ45_1.trans xσ46_1)))) (by decide)).1
                  have kp204 : gP σ48_3 J 0 = gP σ46_1 J 0 := (cσ48_3.O (kJ.up (xτ32.trans (xσ39_1.trans (xσ45_1.trans xσ46_1)))) (by decide)).2.1
                  have kp205 : gP σ48_3 W 5 = gP σ46_1 W 5 := (cσ48_3.O (kW.up (xτ32.trans (xσ39_1.trans (xσ45_1.trans xσ46_1)))) (by decide)).2.1
                  have kp206 : gP σ48_3 b v1.toNat = gP σ46_1 b v1.toNat := (cσ48_3.A (mb.up (xτ32.trans (xσ39_1.trans (xσ45_1.trans xσ46_1)))) (by decide)).2.1
                  have kp207 : gP σ48_3 b_10 ((gI τ32 F v1.toNat) + v3).toNat = gP σ46_1 b_10 ((gI τ32 F v1.toNat) + v3).toNat := (cσ48_3.A (mb_10.up (xσ39_1.trans (xσ45_1.trans xσ46_1))) (by decide)).2.1
                  have kp208 : gP σ48_3 b_3 2 = gP σ46_1 b_3 2 := (cσ48_3.O (knb_3.up (xσ39_1.trans (xσ45_1.trans xσ46_1))) (by decide)).2.1
                  have kp209 : gP σ48_3 th 1 = gP σ46_1 th 1 := (cσ48_3.O (kth.up (xτ32.trans (xσ39_1.trans (xσ45_1.trans xσ46_1)))) (by decide)).2.1
                  have kp210 : gP σ48_3 th 2 = gP σ46_1 th 2 := (cσ48_3.O (kth.up (xτ32.trans (xσ39_1.trans (xσ45_1.trans xσ46_1)))) (by decide)).2.1
                  have kp211 : gP σ48_3 th 3 = gP σ46_1 th 3 := (cσ48_3.O (kth.up (xτ32.trans (xσ39_1.trans (xσ45_1.trans xσ46_1)))) (by decide)).2.1
                  have kp212 : gP σ48_3 th 5 = gP σ46_1 th 5 := (cσ48_3.O (kth.up (xτ32.trans (xσ39_1.trans (xσ45_1.trans xσ46_1)))) (by decide)).2.1
                  have kp213 : gP σ48_3 th 9 = gP σ46_1 th 9 := (cσ48_3.O (kth.up (xτ32.trans (xσ39_1.trans (xσ45_1.trans xσ46_1)))) (by decide)).2.1
                  obtain ⟨b_15, eb_15, fb_15⟩ := P_10_3 iσ48_3.1 (knb_3.up (xσ39_1.trans (xσ45_1.trans (xσ46_1.trans xσ48_3))))
                  have mb_15 : kO σ48_3 b_15 1 := iσ48_3.1.kd (knb_3.up (xσ39_1.trans (xσ45_1.trans (xσ46_1.trans xσ48_3)))) rfl eb_15 rfl
                  refine i_X9_restoreRecords iσ48_3 (kth.up (xτ32.trans (xσ39_1.trans (xσ45_1.trans (xσ46_1.trans xσ48_3))))) eb_15 mb_15 (kp213.trans (kp198.trans (kp184.trans (kp139.trans (kp12.trans hj))))) (kJ.up (xτ32.trans (xσ39_1.trans (xσ45_1.trans (xσ46_1.trans xσ48_3))))) (by (first | omega | with_reducible assumption | with_reducible exact rng_toInt _ | with_reducible exact rng_wr _ | (unfold rng; omega) | (unfold rng at *; omega) | assumption)) (kp209.trans (kp194.trans (kp180.trans (kp135.trans (kp9.trans hw))))) (kW.up (xτ32.trans (xσ39_1.trans (xσ45_1.trans (xσ46_1.trans xσ48_3))))) (kp205.trans (kp191.trans (kp177.trans (kp132.trans (kp7.trans hWJ))))) (kp212.trans (kp197.trans (kp183.trans (kp138.trans (kp11.trans hF))))) (kF.up (xτ32.trans (xσ39_1.trans (xσ45_1.trans (xσ46_1.trans xσ48_3))))) gF hP (hl1.fx iσ iσ48_3 GE.rf fσ48_3 (by omega) (by decide)) (hf1.fx kF gF fσ48_3 (by decide)) (by (first | omega | with_reducible assumption | with_reducible exact rng_toInt _ | with_reducible exact rng_wr _ | (unfold rng; omega) | (unfold rng at *; omega) | assumption)) (by (first | omega | with_reducible assumption | with_reducible exact rng_toInt _ | with_reducible exact rng_wr _ | (unfold rng; omega) | (unfold rng at *; omega) | assumption)) (by (first | omega | with_reducible assumption | with_reducible exact rng_toInt _ | with_reducible exact rng_wr _ | (unfold rng; omega) | (unfold rng at *; omega) | assumption)) (by (first | omega | with_reducible assumption | with_reducible exact rng_toInt _ | with_reducible exact rng_wr _ | (unfold rng; omega) | (unfold rng at *; omega) | assumption)) (fun hL => by have z9 := (iσ48_3.ss.2.2.2.2.2.1 b_15 mb_15 hL).2.2.2.2.2.1 (by omega); rw [show ci b_15 / 4 = v1.toNat by omega] at z9; exact z9) (by (first | omega | with_reducible assumption | with_reducible exact rng_toInt _ | with_reducible exact rng_wr _ | (unfold rng; omega) | (unfold rng at *; omega) | assumption)) (by (first | omega | with_reducible assumption | with_reducible exact rng_toInt _ | with_reducible exact rng_wr _ | (unfold rng; omega) | (unfold rng at *; omega) | assumption)) (by (first | omega | with_reducible assumption | with_reducible exact rng_toInt _ | with_reducible exact rng_wr _ | (unfold rng; omega) | (unfold rng at *; omega) | assumption)) (fun σ49_3 LLσ49_3 Nσ49_3 nuσ49_3 _ iσ49_3 cσ49_3 uσ49_3 hσ49_3 pσ49_3 => ?_) (fun σx LLx Nx nux E ix cx ux px => hX σx LLx Nx nux E ix (fσ48_3.tr (cx.mo (by decide))) (nu_σ48_3.x ux) (by first | exact px | exact ⟨by have := px.1; omega, px.2⟩ | (first | omega | with_reducible assumption | with_reducible exact rng_toInt _ | with_reducible exact rng_wr _ | (unfold rng; omega) | (unfold rng at *; omega) | assumption)))
                  intro xσ49_3
                  have fσ49_3 : Fx [1, 2, 3, 4, 5, 6, 7, 64, 512, 645, 646, 647, 708, 6464] gr σ σ49_3 := fσ48_3.tr (cσ49_3.mo (by decide))
                  have hnσ49_3 : Hn (gD σ) [11, 12] [] gq LL LLσ49_3 N Nσ49_3 := hnσ48_3.go hσ49_3 (fun d hd => (fσ48_3.1 d hd).1) (by first | decide | exact fun _ h => h | (simp; done) | (intro x hx; simp only [List.mem_cons, List.mem_nil_iff, or_false] at hx ⊢; omega)) (fun d hd => absurd hd (by simp))
                  have nσ49_3_3 := hσ49_3.2.2 3 (by first | decide | (simp; done) | (simp only [List.mem_cons, List.mem_nil_iff, or_false, not_or]; omega)) (by first | decide | omega) (by first | decide | omega) (by first | decide | omega)
                  have nσ49_3_5 := hσ49_3.2.2 5 (by first | decide | (simp; done) | (simp only [List.mem_cons, List.mem_nil_iff, or_false, not_or]; omega)) (by first | decide | omega) (by first | decide | omega) (by first | decide | omega)
                  have nσ49_3_14 := hσ49_3.2.2 14 (by first | decide | (simp; done) | (simp only [List.mem_cons, List.mem_nil_iff, or_false, not_or]; omega)) (by first | decide | omega) (by first | decide | omega) (by first | decide | omega)
                  have nσ49_3_44 := hσ49_3.2.2 44 (by first | decide | (simp; done) | (simp only [List.mem_cons, List.mem_nil_iff, or_false, not_or]; omega)) (by first | decide | omega) (by first | decide | omega) (by first | decide | omega)
                  have nσ49_3_74 := hσ49_3.2.2 74 (by first | decide | (simp; done) | (simp only [List.mem_cons, List.mem_nil_iff, or_false, not_or]; omega)) (by first | decide | omega) (by first | decide | omega) (by first | decide | omega)
                  have nσ49_3_41 := hσ49_3.2.2 41 (by first | decide | (simp; done) | (simp only [List.mem_cons, List.mem_nil_iff, or_false, not_or]; omega)) (by first | decide | omega) (by first | decide | omega) (by first | decide | omega)
                  have nσ49_3_42 := hσ49_3.2.2 42 (by first | decide | (simp; done) | (simp only [List.mem_cons, List.mem_nil_iff, or_false, not_or]; omega)) (by first | decide | omega) (by first | decide | omega) (by first | decide | omega)
                  have nσ49_3_13 := hσ49_3.2.2 13 (by first | decide | (simp; done) | (simp only [List.mem_cons, List.mem_nil_iff, or_false, not_or]; omega)) (by first | decide | omega) (by first | decide | omega) (by first | decide | omega)
                  have nσ49_3_50 := hσ49_3.2.2 50 (by first | decide | (simp; done) | (simp only [List.mem_cons, List.mem_nil_iff, or_false, not_or]; omega)) (by first | decide | omega) (by first | decide | omega) (by first | decide | omega)
                  have nu_σ49_3 : NU nu nuσ49_3 := nu_σ48_3.tr uσ49_3
                  have uσ49_3_0 := uσ49_3.1 0 (by decide)
                  have uσ49_3_1 := uσ49_3.1 1 (by decide)
                  have uσ49_3_2 := uσ49_3.2
                  have uσ49_3_5 := uσ49_3.1 5 (by decide)
                  have uσ49_3_15 := uσ49_3.1 15 (by decide)
                  have uσ49_3_16 := uσ49_3.1 16 (by decide)
                  have kp214 : gI σ49_3 b_1 6 = gI σ48_3 b_1 6 := (cσ49_3.O (mb_1.up (xτ32.trans (xσ39_1.trans (xσ45_1.trans (xσ46_1.trans xσ48_3))))) (by decide)).1
                  have kp215 : gI σ49_3 b_11 5 = gI σ48_3 b_11 5 := (cσ49_3.O (mb_11.up (xσ39_1.trans (xσ45_1.trans (xσ46_1.trans xσ48_3)))) (by decide)).1
                  have kp216 : gI σ49_3 b_11 6 = gI σ48_3 b_11 6 := (cσ49_3.O (mb_11.up (xσ39_1.trans (xσ45_1.trans (xσ46_1.trans xσ48_3)))) (by decide)).1
                  have kp217 : gI σ49_3 b_2 5 = gI σ48_3 b_2 5 := (cσ49_3.O (kk_b_2.up (xτ32.trans (xσ39_1.trans (xσ45_1.trans (xσ46_1.trans xσ48_3))))) (by decide)).1
                  have kp218 : gI σ49_3 th 12 = gI σ48_3 th 12 := (cσ49_3.O (kth.up (xτ32.trans (xσ39_1.trans (xσ45_1.trans (xσ46_1.trans xσ48_3))))) (by decide)).1
                  have kp219 : gP σ49_3 J 0 = gP σ48_3 J 0 := (cσ49_3.O (kJ.up (xτ32.trans (xσ39_1.trans (xσ45_1.trans (xσ46_1.trans xσ48_3))))) (by decide)).2.1
                  have kp220 : gP σ49_3 W 5 = gP σ48_3 W 5 := (cσ49_3.O (kW.up (xτ32.trans (xσ39_1.trans (xσ45_1.trans (xσ46_1.trans xσ48_3))))) (by decide)).2.1
                  have kp221 : gP σ49_3 b v1.toNat = gP σ48_3 b v1.toNat := (cσ49_3.A (mb.up (xτ32.trans (xσ39_1.trans (xσ45_1.trans (xσ46_1.trans xσ48_3))))) (by decide)).2.1
                  have kp222 : gP σ49_3 b_10 ((gI τ32 F v1.toNat) + v3).toNat = gP σ48_3 b_10 ((gI τ32 F v1.toNat) + v3).toNat := (cσ49_3.A (mb_10.up (xσ39_1.trans (xσ45_1.trans (xσ46_1.trans xσ48_3)))) (by decide)).2.1
                  have kp223 : gP σ49_3 b_3 2 = gP σ48_3 b_3 2 := (cσ49_3.O (knb_3.up (xσ39_1.trans (xσ45_1.trans (xσ46_1.trans xσ48_3)))) (by decide)).2.1
                  have kp224 : gP σ49_3 b_3 3 = gP σ48_3 b_3 3 := (cσ49_3.O (knb_3.up (xσ39_1.trans (xσ45_1.trans (xσ46_1.trans xσ48_3)))) (by decide)).2.1
                  have kp225 : gP σ49_3 th 1 = gP σ48_3 th 1 := (cσ49_3.O (kth.up (xτ32.trans (xσ39_1.trans (xσ45_1.trans (xσ46_1.trans xσ48_3))))) (by decide)).2.1
                  have kp226 : gP σ49_3 th 2 = gP σ48_3 th 2 := (cσ49_3.O (kth.up (xτ32.trans (xσ39_1.trans (xσ45_1.trans (xσ46_1.trans xσ48_3))))) (by decide)).2.1
                  have kp227 : gP σ49_3 th 3 = gP σ48_3 th 3 := (cσ49_3.O (kth.up (xτ32.trans (xσ39_1.trans (xσ45_1.trans (xσ46_1.trans xσ48_3))))) (by decide)).2.1
                  have kp228 : gP σ49_3 th 5 = gP σ48_3 th 5 := (cσ49_3.O (kth.up (xτ32.trans (xσ39_1.trans (xσ45_1.trans (xσ46_1.trans xσ48_3))))) (by decide)).2.1
                  have kp229 : gP σ49_3 th 9 = gP σ48_3 th 9 := (cσ49_3.O (kth.up (xτ32.trans (xσ39_1.trans (xσ45_1.trans (xσ46_1.trans xσ48_3))))) (by decide)).2.1
                  unfold w_X9_restore_163
                  refine ⟨by (first | omega | with_reducible assumption | with_reducible exact rng_toInt _ | with_reducible exact rng_wr _ | (unfold rng; omega) | (unfold rng at *; omega) | assumption), ?_⟩
                  exact ih32 σ49_3 LLσ49_3 Nσ49_3 nuσ49_3 (v3 + 1) iσ49_3 fσ49_3 (xτ32.trans (xσ39_1.trans (xσ45_1.trans (xσ46_1.trans (xσ48_3.trans xσ49_3))))) nu_σ49_3 hnσ49_3 (by (first | omega | with_reducible assumption | with_reducible exact rng_toInt _ | with_reducible exact rng_wr _ | (unfold rng; omega) | (unfold rng at *; omega) | assumption)) (by (first | omega | with_reducible assumption | with_reducible exact rng_toInt _ | with_reducible exact rng_wr _ | (unfold rng; omega) | (unfold rng at *; omega) | assumption))
    have q230 := I_3_5 iσ.1 kk_b_2
    exact ⟨_, Lp32 _ σ LL N nu _ iσ fσ (Ext.rfl' _) NU.rf hnσ (by (first | omega | with_reducible assumption | with_reducible exact rng_toInt _ | with_reducible exact rng_wr _ | (unfold rng; omega) | (unfold rng at *; omega) | assumption)) (Nat.lt_succ_self _)⟩
  · rw [if_neg hc3]
    unfold w_X9_restore_18
    unfold w_X9_restore_29
    have Lp32 : ∀ (fu32 : Nat) (τ32 : Sg) (LLt32 : Nat → List Nat) (Nt32 nut32 : Nat → Nat) (v3 : Int), IV τ32 pl gq ci gr nc ot LLt32 Nt32 nut32 → Fx [1, 2, 3, 4, 5, 6, 7, 64, 512, 645, 646, 647, 708, 6464] gr σ τ32 → Ext σ τ32 → NU nu nut32 → Hn (gD σ) [11, 12] [] gq LL LLt32 N Nt32 → ((0 ≤ v3 ∧ v3 ≤ 4) ∧ Nt32 1 = N 1) → ((4 - v3).toNat) < fu32 → wl_X9_restore_32 th Q X fu32 τ32 v1 1 v3 := by
      intro fu32
      induction fu32 with
      | zero => intro _ _ _ _ _ _ _ _ _ _ _ h9; omega
      | succ fu32 ih32 =>
        intro τ32 LLt32 Nt32 nut32 v3 iτ32 fτ32 xτ32 nu_τ32 hnτ32 hi32 hm32
        have nτ32_3 := hnτ32.2.2 3 (by first | decide | (simp; done) | (simp only [List.mem_cons, List.mem_nil_iff, or_false, not_or]; omega)) (by first | decide | omega) (by first | decide | omega) (by first | decide | omega)
        have nτ32_5 := hnτ32.2.2 5 (by first | decide | (simp; done) | (simp only [List.mem_cons, List.mem_nil_iff, or_false, not_or]; omega)) (by first | decide | omega) (by first | decide | omega) (by first | decide | omega)
        have nτ32_14 := hnτ32.2.2 14 (by first | decide | (simp; done) | (simp only [List.mem_cons, List.mem_nil_iff, or_false, not_or]; omega)) (by first | decide | omega) (by first | decide | omega) (by first | decide | omega)
        have nτ32_44 := hnτ32.2.2 44 (by first | decide | (simp; done) | (simp only [List.mem_cons, List.mem_nil_iff, or_false, not_or]; omega)) (by first | decide | omega) (by first | decide | omega) (by first | decide | omega)
        have nτ32_74 := hnτ32.2.2 74 (by first | decide | (simp; done) | (simp only [List.mem_cons, List.mem_nil_iff, or_false, not_or]; omega)) (by first | decide | omega) (by first | decide | omega) (by first | decide | omega)
        have nτ32_41 := hnτ32.2.2 41 (by first | decide | (simp; done) | (simp only [List.mem_cons, List.mem_nil_iff, or_false, not_or]; omega)) (by first | decide | omega) (by first | decide | omega) (by first | decide | omega)
        have nτ32_42 := hnτ32.2.2 42 (by first | decide | (simp; done) | (simp only [List.mem_cons, List.mem_nil_iff, or_false, not_or]; omega)) (by first | decide | omega) (by first | decide | omega) (by first | decide | omega)
        have nτ32_13 := hnτ32.2.2 13 (by first | decide | (simp; done) | (simp only [List.mem_cons, List.mem_nil_iff, or_false, not_or]; omega)) (by first | decide | omega) (by first | decide | omega) (by first | decide | omega)
        have nτ32_50 := hnτ32.2.2 50 (by first | decide | (simp; done) | (simp only [List.mem_cons, List.mem_nil_iff, or_false, not_or]; omega)) (by first | decide | omega) (by first | decide | omega) (by first | decide | omega)
        have uτ32_0 := nu_τ32.1 0 (by decide)
        have uτ32_1 := nu_τ32.1 1 (by decide)
        have uτ32_2 := nu_τ32.2
        have uτ32_5 := nu_τ32.1 5 (by decide)
        have uτ32_15 := nu_τ32.1 15 (by decide)
        have uτ32_16 := nu_τ32.1 16 (by decide)
        unfold wl_X9_restore_32
        have kp231 : gI τ32 b_1 6 = gI σ b_1 6 := (fτ32.O mb_1 (by decide)).1
        have kp232 : gI τ32 th 12 = gI σ th 12 := (fτ32.O kth (by decide)).1
        have kp233 : gP τ32 J 0 = gP σ J 0 := (fτ32.O kJ (by decide)).2.1
        have kp234 : gP τ32 W 5 = gP σ W 5 := (fτ32.O kW (by decide)).2.1
        have kp235 : gP τ32 b v1.toNat = gP σ b v1.toNat := (fτ32.A mb (by decide)).2.1
        have kp236 : gP τ32 th 1 = gP σ th 1 := (fτ32.O kth (by decide)).2.1
        have kp237 : gP τ32 th 5 = gP σ th 5 := (fτ32.O kth (by decide)).2.1
        have kp238 : gP τ32 th 9 = gP σ th 9 := (fτ32.O kth (by decide)).2.1
        have lt32 := hl1.fx iσ iτ32 GE.rf fτ32 (by omega) (by decide)
        have ft32 := hf1.fx kF gF fτ32 (by decide)
        have b32 := ft32 v1.toNat (by omega)
        have n32 := iτ32.n16
        have tc32 := iτ32.tc (kth.up xτ32)
        unfold w_X9_restore_32
        by_cases hc239 : v3 ≥ 1
        · rw [if_pos hc239]
          unfold w_X9_restore_169
          exact hQ τ32 LLt32 Nt32 nut32 () iτ32 fτ32 (nu_τ32) hnτ32 (by (first | omega | with_reducible assumption | with_reducible exact rng_toInt _ | with_reducible exact rng_wr _ | (unfold rng; omega) | (unfold rng at *; omega) | assumption))
        · rw [if_neg hc239]
          unfold w_X9_restore_37
          by_cases hc240 : v3 ≥ 4
          · rw [if_pos hc240]
            unfold w_X9_restore_169
            exact hQ τ32 LLt32 Nt32 nut32 () iτ32 fτ32 (nu_τ32) hnτ32 (by (first | omega | with_reducible assumption | with_reducible exact rng_toInt _ | with_reducible exact rng_wr _ | (unfold rng; omega) | (unfold rng at *; omega) | assumption))
          · rw [if_neg hc240]
            unfold w_X9_restore_42
            obtain ⟨b_16, eb_16⟩ := P_9_2 iτ32.1 (kth.up xτ32)
            refine ⟨b_16, eb_16, fun kk_b_16 => ?_⟩
            refine i2_X3_partOfLatest iτ32 kk_b_16 (by (first | omega | with_reducible assumption | with_reducible exact rng_toInt _ | with_reducible exact rng_wr _ | (unfold rng; omega) | (unfold rng at *; omega) | assumption)) (by (first | omega | with_reducible assumption | with_reducible exact rng_toInt _ | with_reducible exact rng_wr _ | (unfold rng; omega) | (unfold rng at *; omega) | assumption)) (fun r32_1 pσ31_1 => ?_)
            intro xσ31_1
            intro tyt_1
            by_cases hc241 : r32_1 = none
            · rw [if_pos hc241]
              unfold w_X9_restore_163
              refine ⟨by (first | omega | with_reducible assumption | with_reducible exact rng_toInt _ | with_reducible exact rng_wr _ | (unfold rng; omega) | (unfold rng at *; omega) | assumption), ?_⟩
              exact ih32 τ32 LLt32 Nt32 nut32 (v3 + 1) iτ32 fτ32 xτ32 nu_τ32 hnτ32 (by (first | omega | with_reducible assumption | with_reducible exact rng_toInt _ | with_reducible exact rng_wr _ | (unfold rng; omega) | (unfold rng at *; omega) | assumption)) (by (first | omega | with_reducible assumption | with_reducible exact rng_toInt _ | with_reducible exact rng_wr _ | (unfold rng; omega) | (unfold rng at *; omega) | assumption))
            · rw [if_neg hc241]
              unfold w_X9_restore_58
              obtain ⟨b_17, eb_17⟩ := Option.ne_none_iff_exists'.mp hc241
              obtain ⟨k9, ⟨s9, es9, gs9⟩, c9⟩ := pσ31_1 _ eb_17
              have ts9 := T_3_1 iτ32.1 kk_b_16 es9
              refine ⟨F, (kp237.trans hF), fun kk_F_1 => ?_⟩
              have q242 := (xτ32 F kF.1).2.2
              refine ⟨⟨by (first | omega | with_reducible assumption | with_reducible exact rng_toInt _ | with_reducible exact rng_wr _ | (unfold rng; omega) | (unfold rng at *; omega) | assumption), by (first | omega | with_reducible assumption | with_reducible exact rng_toInt _ | with_reducible exact rng_wr _ | (unfold rng; omega) | (unfold rng at *; omega) | assumption)⟩, ?_⟩
              refine ⟨b_16, eb_16, fun kk_b_16_1 => ?_⟩
              have q244 := I_3_5 iτ32.1 kk_b_16
              by_cases hc243 : gI τ32 th 12 ≠ gI τ32 b_16 5
              · rw [if_pos hc243]
                unfold w_X9_restore_86
                unfold w_X9_restore_87
                have q245 := iτ32.rg F v1.toNat; unfold rng at q245
                refine ⟨by (first | omega | with_reducible assumption | with_reducible exact rng_toInt _ | with_reducible exact rng_wr _ | (unfold rng; omega) | (unfold rng at *; omega) | assumption), ?_⟩
                obtain ⟨b_18, eb_18, fb_18⟩ := P_9_3 iτ32.1 (kth.up xτ32)
                have mb_18 : kO τ32 b_18 120 := iτ32.1.kd (kth.up xτ32) rfl eb_18 rfl
                refine ⟨b_18, eb_18, fun kk_b_18 => ?_⟩
                refine ⟨⟨by (first | omega | with_reducible assumption | with_reducible exact rng_toInt _ | with_reducible exact rng_wr _ | (unfold rng; omega) | (unfold rng at *; omega) | assumption), by (first | omega | with_reducible assumption | with_reducible exact rng_toInt _ | with_reducible exact rng_wr _ | (unfold rng; omega) | (unfold rng at *; omega) | assumption)⟩, ?_⟩
                have n16b_19 := iτ32.n16
                obtain ⟨b_19, eb_19, mb_19, fb_19⟩ := P_120 iτ32 mb_18 (by omega) (k := ((gI τ32 F v1.toNat) + 0).toNat) (by (first | omega | with_reducible assumption | with_reducible exact rng_toInt _ | with_reducible exact rng_wr _ | (unfold rng; omega) | (unfold rng at *; omega) | assumption))
                refine ⟨b_19, eb_19, fun kk_b_19 => ?_⟩
                refine ⟨b_17, eb_17, fun kk_b_17 => ?_⟩
                intro σ39_2 eσ39_2
                have xσ39_2 : Ext τ32 σ39_2 := by rw [eσ39_2]; exact fun _ h => ⟨h, rfl, rfl⟩
                have q246 := iτ32.rg b_19 5; unfold rng at q246
                have q247 := iτ32.rg b_17 5; unfold rng at q247
                have iσ39_2 : IV σ39_2 pl gq ci gr nc ot LLt32 Nt32 nut32 := by rw [eσ39_2]; exact iτ32.wO mb_19 (by decide) (rngb (by first | exact rng_wr _ | (first | omega | with_reducible assumption | with_reducible exact rng_toInt _ | with_reducible exact rng_wr _ | (unfold rng; omega) | (unfold rng at *; omega) | assumption)))
                have fσ39_2 : Fx [1, 2, 3, 4, 5, 6, 7, 64, 512, 645, 646, 647, 708, 6464] gr σ σ39_2 := fτ32.tr (Sk.fx (by rw [eσ39_2]; exact Sk.pI (by rw [fcdO mb_19 (by decide)]; decide)))
                have wσ39_2 : gI σ39_2 b_19 5 = (wr (gI τ32 b_19 5 + gI τ32 b_17 5)) := by rw [eσ39_2]; exact up2_s _ _ _ _
                have kp248 : gI σ39_2 b_1 6 = gI τ32 b_1 6 := by rw [eσ39_2]; exact up2_n _ _ (fun q => absurd q.2 (by decide))
                have kp249 : gI σ39_2 b_16 5 = gI τ32 b_16 5 := by rw [eσ39_2]; exact up2_n _ _ (fun q => absurd q.1 (kO.ne kk_b_16 mb_19 (by decide)))
                have kp250 : gI σ39_2 th 12 = gI τ32 th 12 := by rw [eσ39_2]; exact up2_n _ _ (fun q => absurd q.2 (by decide))
                have kp251 : gP σ39_2 J 0 = gP τ32 J 0 := by rw [eσ39_2]
                have kp252 : gP σ39_2 W 5 = gP τ32 W 5 := by rw [eσ39_2]
                have kp253 : gP σ39_2 b v1.toNat = gP τ32 b v1.toNat := by rw [eσ39_2]
                have kp254 : gP σ39_2 b_18 ((gI τ32 F v1.toNat) + 0).toNat = gP τ32 b_18 ((gI τ32 F v1.toNat) + 0).toNat := by rw [eσ39_2]
                have kp255 : gP σ39_2 th 1 = gP τ32 th 1 := by rw [eσ39_2]
                have kp256 : gP σ39_2 th 2 = gP τ32 th 2 := by rw [eσ39_2]
                have kp257 : gP σ39_2 th 3 = gP τ32 th 3 := by rw [eσ39_2]
                have kp258 : gP σ39_2 th 5 = gP τ32 th 5 := by rw [eσ39_2]
                have kp259 : gP σ39_2 th 9 = gP τ32 th 9 := by rw [eσ39_2]
                refine ⟨J, (kp259.trans (kp238.trans hj)), fun kk_J_3 => ?_⟩
                refine ⟨b, (kp251.trans (kp233.trans eb)), fun kk_b_8 => ?_⟩
                have q260 := ((xτ32.trans xσ39_2) b mb.1).2.2
                refine ⟨⟨by (first | omega | with_reducible assumption | with_reducible exact rng_toInt _ | with_reducible exact rng_wr _ | (unfold rng; omega) | (unfold rng at *; omega) | assumption), by (first | omega | with_reducible assumption | with_reducible exact rng_toInt _ | with_reducible exact rng_wr _ | (unfold rng; omega) | (unfold rng at *; omega) | assumption)⟩, ?_⟩
                refine ⟨b_1, (kp253.trans (kp235.trans eb_1)), fun kk_b_1_3 => ?_⟩
                by_cases hc261 : gI σ39_2 b_1 6 ≠ 0
                · rw [if_pos hc261]
                  unfold w_X9_restore_141
                  refine ⟨b_17, eb_17, fun kk_b_17_1 => ?_⟩
                  obtain ⟨b_20, eb_20, fb_20⟩ := P_10_2 iσ39_2.1 (kk_b_17.up xσ39_2)
                  have mb_20 : kO σ39_2 b_20 1 := iσ39_2.1.kd (kk_b_17.up xσ39_2) rfl eb_20 rfl
                  refine i_X9_restoreRecords iσ39_2 (kth.up (xτ32.trans xσ39_2)) eb_20 mb_20 (kp259.trans (kp238.trans hj)) (kJ.up (xτ32.trans xσ39_2)) (by (first | omega | with_reducible assumption | with_reducible exact rng_toInt _ | with_reducible exact rng_wr _ | (unfold rng; omega) | (unfold rng at *; omega) | assumption)) (kp255.trans (kp236.trans hw)) (kW.up (xτ32.trans xσ39_2)) (kp252.trans (kp234.trans hWJ)) (kp258.trans (kp237.trans hF)) (kF.up (xτ32.trans xσ39_2)) gF hP (hl1.fx iσ iσ39_2 GE.rf fσ39_2 (by omega) (by decide)) (hf1.fx kF gF fσ39_2 (by decide)) (by (first | omega | with_reducible assumption | with_reducible exact rng_toInt _ | with_reducible exact rng_wr _ | (unfold rng; omega) | (unfold rng at *; omega) | assumption)) (by (first | omega | with_reducible assumption | with_reducible exact rng_toInt _ | with_reducible exact rng_wr _ | (unfold rng; omega) | (unfold rng at *; omega) | assumption)) (by (first | omega | with_reducible assumption | with_reducible exact rng_toInt _ | with_reducible exact rng_wr _ | (unfold rng; omega) | (unfold rng at *; omega) | assumption)) (by (first | omega | with_reducible assumption | with_reducible exact rng_toInt _ | with_reducible exact rng_wr _ | (unfold rng; omega) | (unfold rng at *; omega) | assumption)) (fun hL => by have z9 := (iσ39_2.ss.2.2.2.2.2.1 b_20 mb_20 hL).2.2.2.2.2.1 (by omega); rw [show ci b_20 / 4 = v1.toNat by omega] at z9; exact z9) (by (first | omega | with_reducible assumption | with_reducible exact rng_toInt _ | with_reducible exact rng_wr _ | (unfold rng; omega) | (unfold rng at *; omega) | assumption)) (by (first | omega | with_reducible assumption | with_reducible exact rng_toInt _ | with_reducible exact rng_wr _ | (unfold rng; omega) | (unfold rng at *; omega) | assumption)) (by (first | omega | with_reducible assumption | with_reducible exact rng_toInt _ | with_reducible exact rng_wr _ | (unfold rng; omega) | (unfold rng at *; omega) | assumption)) (fun σ48_4 LLσ48_4 Nσ48_4 nuσ48_4 _ iσ48_4 cσ48_4 uσ48_4 hσ48_4 pσ48_4 => ?_) (fun σx LLx Nx nux E ix cx ux px => hX σx LLx Nx nux E ix (fσ39_2.tr (cx.mo (by decide))) (nu_τ32.x ux) (by first | exact px | exact ⟨by have := px.1; omega, px.2⟩ | (first | omega | with_reducible assumption | with_reducible exact rng_toInt _ | with_reducible exact rng_wr _ | (unfold rng; omega) | (unfold rng at *; omega) | assumption)))
                  intro xσ48_4
                  have fσ48_4 : Fx [1, 2, 3, 4, 5, 6, 7, 64, 512, 645, 646, 647, 708, 6464] gr σ σ48_4 := fσ39_2.tr (cσ48_4.mo (by decide))
                  have hnσ48_4 : Hn (gD σ) [11, 12] [] gq LL LLσ48_4 N Nσ48_4 := hnτ32.go hσ48_4 (fun d hd => (fσ39_2.1 d hd).1) (by first | decide | exact fun _ h => h | (simp; done) | (intro x hx; simp only [List.mem_cons, List.mem_nil_iff, or_false] at hx ⊢; omega)) (fun d hd => absurd hd (by simp))
                  have nσ48_4_3 := hσ48_4.2.2 3 (by first | decide | (simp; done) | (simp only [List.mem_cons, List.mem_nil_iff, or_false, not_or]; omega)) (by first | decide | omega) (by first | decide | omega) (by first | decide | omega)
                  have nσ48_4_5 := hσ48_4.2.2 5 (by first | decide | (simp; done) | (simp only [List.mem_cons, List.mem_nil_iff, or_false, not_or]; omega)) (by first | decide | omega) (by first | decide | omega) (by first | decide | omega)
                  have nσ48_4_14 := hσ48_4.2.2 14 (by first | decide | (simp; done) | (simp only [List.mem_cons, List.mem_nil_iff, or_false, not_or]; omega)) (by first | decide | omega) (by first | decide | omega) (by first | decide | omega)
                  have nσ48_4_44 := hσ48_4.2.2 44 (by first | decide | (simp; done) | (simp only [List.mem_cons, List.mem_nil_iff, or_false, not_or]; omega)) (by first | decide | omega) (by first | decide | omega) (by first | decide | omega)
                  have nσ48_4_74 := hσ48_4.2.2 74 (by first | decide | (simp; done) | (simp only [List.mem_cons, List.mem_nil_iff, or_false, not_or]; omega)) (by first | decide | omega) (by first | decide | omega) (by first | decide | omega)
                  have nσ48_4_41 := hσ48_4.2.2 41 (by first | decide | (simp; done) | (simp only [List.mem_cons, List.mem_nil_iff, or_false, not_or]; omega)) (by first | decide | omega) (by first | decide | omega) (by first | decide | omega)
                  have nσ48_4_42 := hσ48_4.2.2 42 (by first | decide | (simp; done) | (simp only [List.mem_cons, List.mem_nil_iff, or_false, not_or]; omega)) (by first | decide | omega) (by first | decide | omega) (by first | decide | omega)
                  have nσ48_4_13 := hσ48_4.2.2 13 (by first | decide | (simp; done) | (simp only [List.mem_cons, List.mem_nil_iff, or_false, not_or]; omega)) (by first | decide | omega) (by first | decide | omega) (by first | decide | omega)
                  have nσ48_4_50 := hσ48_4.2.2 50 (by first | decide | (simp; done) | (simp only [List.mem_cons, List.mem_nil_iff, or_false, not_or]; omega)) (by first | decide | omega) (by first | decide | omega) (by first | decide | omega)
                  have nu_σ48_4 : NU nu nuσ48_4 := nu_τ32.tr uσ48_4
                  have uσ48_4_0 := uσ48_4.1 0 (by decide)
                  have uσ48_4_1 := uσ48_4.1 1 (by decide)
                  have uσ48_4_2 := uσ48_4.2
                  have uσ48_4_5 := uσ48_4.1 5 (by decide)
                  have uσ48_4_15 := uσ48_4.1 15 (by decide)
                  have uσ48_4_16 := uσ48_4.1 16 (by decide)
                  have kp262 : gI σ48_4 b_1 6 = gI σ39_2 b_1 6 := (cσ48_4.O (mb_1.up (xτ32.trans xσ39_2)) (by decide)).1
                  have kp263 : gI σ48_4 b_16 5 = gI σ39_2 b_16 5 := (cσ48_4.O (kk_b_16.up xσ39_2) (by decide)).1
                  have kp264 : gI σ48_4 b_19 5 = gI σ39_2 b_19 5 := (cσ48_4.O (mb_19.up xσ39_2) (by decide)).1
                  have kp265 : gI σ48_4 th 12 = gI σ39_2 th 12 := (cσ48_4.O (kth.up (xτ32.trans xσ39_2)) (by decide)).1
                  have kp266 : gP σ48_4 J 0 = gP σ39_2 J 0 := (cσ48_4.O (kJ.up (xτ32.trans xσ39_2)) (by decide)).2.1
                  have kp267 : gP σ48_4 W 5 = gP σ39_2 W 5 := (cσ48_4.O (kW.up (xτ32.trans xσ39_2)) (by decide)).2.1
                  have kp268 : gP σ48_4 b v1.toNat = gP σ39_2 b v1.toNat := (cσ48_4.A (mb.up (xτ32.trans xσ39_2)) (by decide)).2.1
                  have kp269 : gP σ48_4 b_17 2 = gP σ39_2 b_17 2 := (cσ48_4.O (kk_b_17.up xσ39_2) (by decide)).2.1
                  have kp270 : gP σ48_4 b_18 ((gI τ32 F v1.toNat) + 0).toNat = gP σ39_2 b_18 ((gI τ32 F v1.toNat) + 0).toNat := (cσ48_4.A (mb_18.up xσ39_2) (by decide)).2.1
                  have kp271 : gP σ48_4 th 1 = gP σ39_2 th 1 := (cσ48_4.O (kth.up (xτ32.trans xσ39_2)) (by decide)).2.1
                  have kp272 : gP σ48_4 th 2 = gP σ39_2 th 2 := (cσ48_4.O (kth.up (xτ32.trans xσ39_2)) (by decide)).2.1
                  have kp273 : gP σ48_4 th 3 = gP σ39_2 th 3 := (cσ48_4.O (kth.up (xτ32.trans xσ39_2)) (by decide)).2.1
                  have kp274 : gP σ48_4 th 5 = gP σ39_2 th 5 := (cσ48_4.O (kth.up (xτ32.trans xσ39_2)) (by decide)).2.1
                  have kp275 : gP σ48_4 th 9 = gP σ39_2 th 9 := (cσ48_4.O (kth.up (xτ32.trans xσ39_2)) (by decide)).2.1
                  obtain ⟨b_21, eb_21, fb_21⟩ := P_10_3 iσ48_4.1 (kk_b_17.up (xσ39_2.trans xσ48_4))
                  have mb_21 : kO σ48_4 b_21 1 := iσ48_4.1.kd (kk_b_17.up (xσ39_2.trans xσ48_4)) rfl eb_21 rfl
                  refine i_X9_restoreRecords iσ48_4 (kth.up (xτ32.trans (xσ39_2.trans xσ48_4))) eb_21 mb_21 (kp275.trans (kp259.trans (kp238.trans hj))) (kJ.up (xτ32.trans (xσ39_2.trans xσ48_4))) (by (first | omega | with_reducible assumption | with_reducible exact rng_toInt _ | with_reducible exact rng_wr _ | (unfold rng; omega) | (unfold rng at *; omega) | assumption)) (kp271.trans (kp255.trans (kp236.trans hw))) (kW.up (xτ32.trans (xσ39_2.trans xσ48_4))) (kp267.trans (kp252.trans (kp234.trans hWJ))) (kp274.trans (kp258.trans (kp237.trans hF))) (kF.up (xτ32.trans (xσ39_2.trans xσ48_4))) gF hP (hl1.fx iσ iσ48_4 GE.rf fσ48_4 (by omega) (by decide)) (hf1.fx kF gF fσ48_4 (by decide)) (by (first | omega | with_reducible assumption | with_reducible exact rng_toInt _ | with_reducible exact rng_wr _ | (unfold rng; omega) | (unfold rng at *; omega) | assumption)) (by (first | omega | with_reducible assumption | with_reducible exact rng_toInt _ | with_reducible exact rng_wr _ | (unfold rng; omega) | (unfold rng at *; omega) | assumption)) (by (first | omega | with_reducible assumption | with_reducible exact rng_toInt _ | with_reducible exact rng_wr _ | (unfold rng; omega) | (unfold rng at *; omega) | assumption)) (by (first | omega | with_reducible assumption | with_reducible exact rng_toInt _ | with_reducible exact rng_wr _ | (unfold rng; omega) | (unfold rng at *; omega) | assumption)) (fun hL => by have z9 := (iσ48_4.ss.2.2.2.2.2.1 b_21 mb_21 hL).2.2.2.2.2.1 (by omega); rw [show ci b_21 / 4 = v1.toNat by omega] at z9; exact z9) (by (first | omega | with_reducible assumption | with_reducible exact rng_toInt _ | with_reducible exact rng_wr _ | (unfold rng; omega) | (unfold rng at *; omega) | assumption)) (by (first | omega | with_reducible assumption | with_reducible exact rng_toInt _ | with_reducible exact rng_wr _ | (unfold rng; omega) | (unfold rng at *; omega) | assumption)) (by (first | omega | with_reducible assumption | with_reducible exact rng_toInt _ | with_reducible exact rng_wr _ | (unfold rng; omega) | (unfold rng at *; omega) | assumption)) (fun σ49_4 LLσ49_4 Nσ49_4 nuσ49_4 _ iσ49_4 cσ49_4 uσ49_4 hσ49_4 pσ49_4 => ?_) (fun σx LLx Nx nux E ix cx ux px => hX σx LLx Nx nux E ix (fσ48_4.tr (cx.mo (by decide))) (nu_σ48_4.x ux) (by first | exact px | exact ⟨by have := px.1; omega, px.2⟩ | (first | omega | with_reducible assumption | with_reducible exact rng_toInt _ | with_reducible exact rng_wr _ | (unfold rng; omega) | (unfold rng at *; omega) | assumption)))
                  intro xσ49_4
                  have fσ49_4 : Fx [1, 2, 3, 4, 5, 6, 7, 64, 512, 645, 646, 647, 708, 6464] gr σ σ49_4 := fσ48_4.tr (cσ49_4.mo (by decide))
                  have hnσ49_4 : Hn (gD σ) [11, 12] [] gq LL LLσ49_4 N Nσ49_4 := hnσ48_4.go hσ49_4 (fun d hd => (fσ48_4.1 d hd).1) (by first | decide | exact fun _ h => h | (simp; done) | (intro x hx; simp only [List.mem_cons, List.mem_nil_iff, or_false] at hx ⊢; omega)) (fun d hd => absurd hd (by simp))
                  have nσ49_4_3 := hσ49_4.2.2 3 (by first | decide | (simp; done) | (simp only [List.mem_cons, List.mem_nil_iff, or_false, not_or]; omega)) (by first | decide | omega) (by first | decide | omega) (by first | decide | omega)
                  have nσ49_4_5 := hσ49_4.2.2 5 (by first | decide | (simp; done) | (simp only [List.mem_cons, List.mem_nil_iff, or_false, not_or]; omega)) (by first | decide | omega) (by first | decide | omega) (by first | decide | omega)
                  have nσ49_4_14 := hσ49_4.2.2 14 (by first | decide | (simp; done) | (simp only [List.mem_cons, List.mem_nil_iff, or_false, not_or]; omega)) (by first | decide | omega) (by first | decide | omega) (by first | decide | omega)
                  have nσ49_4_44 := hσ49_4.2.2 44 (by first | decide | (simp; done) | (simp only [List.mem_cons, List.mem_nil_iff, or_false, not_or]; omega)) (by first | decide | omega) (by first | decide | omega) (by first | decide | omega)
                  have nσ49_4_74 := hσ49_4.2.2 74 (by first | decide | (simp; done) | (simp only [List.mem_cons, List.mem_nil_iff, or_false, not_or]; omega)) (by first | decide | omega) (by first | decide | omega) (by first | decide | omega)
                  have nσ49_4_41 := hσ49_4.2.2 41 (by first | decide | (simp; done) | (simp only [List.mem_cons, List.mem_nil_iff, or_false, not_or]; omega)) (by first | decide | omega) (by first | decide | omega) (by first | decide | omega)
                  have nσ49_4_42 := hσ49_4.2.2 42 (by first | decide | (simp; done) | (simp only [List.mem_cons, List.mem_nil_iff, or_false, not_or]; omega)) (by first | decide | omega) (by first | decide | omega) (by first | decide | omega)
                  have nσ49_4_13 := hσ49_4.2.2 13 (by first | decide | (simp; done) | (simp only [List.mem_cons, List.mem_nil_iff, or_false, not_or]; omega)) (by first | decide | omega) (by first | decide | omega) (by first | decide | omega)
                  have nσ49_4_50 := hσ49_4.2.2 50 (by first | decide | (simp; done) | (simp only [List.mem_cons, List.mem_nil_iff, or_false, not_or]; omega)) (by first | decide | omega) (by first | decide | omega) (by first | decide | omega)
                  have nu_σ49_4 : NU nu nuσ49_4 := nu_σ48_4.tr uσ49_4
                  have uσ49_4_0 := uσ49_4.1 0 (by decide)
                  have uσ49_4_1 := uσ49_4.1 1 (by decide)
                  have uσ49_4_2 := uσ49_4.2
                  have uσ49_4_5 := uσ49_4.1 5 (by decide)
                  have uσ49_4_15 := uσ49_4.1 15 (by decide)
                  have uσ49_4_16 := uσ49_4.1 16 (by decide)
                  have kp276 : gI σ49_4 b_1 6 = gI σ48_4 b_1 6 := (cσ49_4.O (mb_1.up (xτ32.trans (xσ39_2.trans xσ48_4))) (by decide)).1
                  have kp277 : gI σ49_4 b_16 5 = gI σ48_4 b_16 5 := (cσ49_4.O (kk_b_16.up (xσ39_2.trans xσ48_4)) (by decide)).1
                  have kp278 : gI σ49_4 b_19 5 = gI σ48_4 b_19 5 := (cσ49_4.O (mb_19.up (xσ39_2.trans xσ48_4)) (by decide)).1
                  have kp279 : gI σ49_4 th 12 = gI σ48_4 th 12 := (cσ49_4.O (kth.up (xτ32.trans (xσ39_2.trans xσ48_4))) (by decide)).1
                  have kp280 : gP σ49_4 J 0 = gP σ48_4 J 0 := (cσ49_4.O (kJ.up (xτ32.trans (xσ39_2.trans xσ48_4))) (by decide)).2.1
                  have kp281 : gP σ49_4 W 5 = gP σ48_4 W 5 := (cσ49_4.O (kW.up (xτ32.trans (xσ39_2.trans xσ48_4))) (by decide)).2.1
                  have kp282 : gP σ49_4 b v1.toNat = gP σ48_4 b v1.toNat := (cσ49_4.A (mb.up (xτ32.trans (xσ39_2.trans xσ48_4))) (by decide)).2.1
                  have kp283 : gP σ49_4 b_17 2 = gP σ48_4 b_17 2 := (cσ49_4.O (kk_b_17.up (xσ39_2.trans xσ48_4)) (by decide)).2.1
                  have kp284 : gP σ49_4 b_17 3 = gP σ48_4 b_17 3 := (cσ49_4.O (kk_b_17.up (xσ39_2.trans xσ48_4)) (by decide)).2.1
                  have kp285 : gP σ49_4 b_18 ((gI τ32 F v1.toNat) + 0).toNat = gP σ48_4 b_18 ((gI τ32 F v1.toNat) + 0).toNat := (cσ49_4.A (mb_18.up (xσ39_2.trans xσ48_4)) (by decide)).2.1
                  have kp286 : gP σ49_4 th 1 = gP σ48_4 th 1 := (cσ49_4.O (kth.up (xτ32.trans (xσ39_2.trans xσ48_4))) (by decide)).2.1
                  have kp287 : gP σ49_4 th 2 = gP σ48_4 th 2 := (cσ49_4.O (kth.up (xτ32.trans (xσ39_2.trans xσ48_4))) (by decide)).2.1
                  have kp288 : gP σ49_4 th 3 = gP σ48_4 th 3 := (cσ49_4.O (kth.up (xτ32.trans (xσ39_2.trans xσ48_4))) (by decide)).2.1
                  have kp289 : gP σ49_4 th 5 = gP σ48_4 th 5 := (cσ49_4.O (kth.up (xτ32.trans (xσ39_2.trans xσ48_4))) (by decide)).2.1
                  have kp290 : gP σ49_4 th 9 = gP σ48_4 th 9 := (cσ49_4.O (kth.up (xτ32.trans (xσ39_2.trans xσ48_4))) (by decide)).2.1
                  unfold w_X9_restore_163
                  refine ⟨by (first | omega | with_reducible assumption | with_reducible exact rng_toInt _ | with_reducible exact rng_wr _ | (unfold rng; omega) | (unfold rng at *; omega) | assumption), ?_⟩
                  exact ih32 σ49_4 LLσ49_4 Nσ49_4 nuσ49_4 (v3 + 1) iσ49_4 fσ49_4 (xτ32.trans (xσ39_2.trans (xσ48_4.trans xσ49_4))) nu_σ49_4 hnσ49_4 (by (first | omega | with_reducible assumption | with_reducible exact rng_toInt _ | with_reducible exact rng_wr _ | (unfold rng; omega) | (unfold rng at *; omega) | assumption)) (by (first | omega | with_reducible assumption | with_reducible exact rng_toInt _ | with_reducible exact rng_wr _ | (unfold rng; omega) | (unfold rng at *; omega) | assumption))
                · rw [if_neg hc261]
                  have hc261q := Classical.not_not.mp hc261
                  unfold w_X9_restore_121
                  refine ⟨b_17, eb_17, fun kk_b_17_2 => ?_⟩
                  refine ⟨b_19, eb_19, fun kk_b_19_1 => ?_⟩
                  intro σ45_2 eσ45_2
                  have xσ45_2 : Ext σ39_2 σ45_2 := by rw [eσ45_2]; exact fun _ h => ⟨h, rfl, rfl⟩
                  have q291 := I_10_6 iσ39_2.1 (kk_b_17.up xσ39_2)
                  have iσ45_2 : IV σ45_2 pl gq ci gr nc ot LLt32 Nt32 nut32 := by rw [eσ45_2]; exact iσ39_2.wO (mb_19.up xσ39_2) (by decide) (show (0 : Int) ≤ (gI σ39_2 b_17 6) ∧ (gI σ39_2 b_17 6) ≤ 64 from ⟨by (first | omega | with_reducible assumption | with_reducible exact rng_toInt _ | with_reducible exact rng_wr _ | (unfold rng; omega) | (unfold rng at *; omega) | assumption), by (first | omega | with_reducible assumption | with_reducible exact rng_toInt _ | with_reducible exact rng_wr _ | (unfold rng; omega) | (unfold rng at *; omega) | assumption)⟩)
                  have fσ45_2 : Fx [1, 2, 3, 4, 5, 6, 7, 64, 512, 645, 646, 647, 708, 6464] gr σ σ45_2 := fσ39_2.tr (Sk.fx (by rw [eσ45_2]; exact Sk.pI (by rw [fcdO (mb_19.up xσ39_2) (by decide)]; decide)))
                  have wσ45_2 : gI σ45_2 b_19 6 = (gI σ39_2 b_17 6) := by rw [eσ45_2]; exact up2_s _ _ _ _
                  have kp292 : gI σ45_2 b_1 6 = gI σ39_2 b_1 6 := by rw [eσ45_2]; exact up2_n _ _ (fun q => absurd q.1 (kO.ne (mb_1.up (xτ32.trans xσ39_2)) (mb_19.up xσ39_2) (by decide)))
                  have kp293 : gI σ45_2 b_16 5 = gI σ39_2 b_16 5 := by rw [eσ45_2]; exact up2_n _ _ (fun q => absurd q.2 (by decide))
                  have kp294 : gI σ45_2 b_19 5 = gI σ39_2 b_19 5 := by rw [eσ45_2]; exact up2_n _ _ (fun q => absurd q.2 (by decide))
                  have kp295 : gI σ45_2 th 12 = gI σ39_2 th 12 := by rw [eσ45_2]; exact up2_n _ _ (fun q => absurd q.2 (by decide))
                  have kp296 : gP σ45_2 J 0 = gP σ39_2 J 0 := by rw [eσ45_2]
                  have kp297 : gP σ45_2 W 5 = gP σ39_2 W 5 := by rw [eσ45_2]
                  have kp298 : gP σ45_2 b v1.toNat = gP σ39_2 b v1.toNat := by rw [eσ45_2]
                  have kp299 : gP σ45_2 b_18 ((gI τ32 F v1.toNat) + 0).toNat = gP σ39_2 b_18 ((gI τ32 F v1.toNat) + 0).toNat := by rw [eσ45_2]
                  have kp300 : gP σ45_2 th 1 = gP σ39_2 th 1 := by rw [eσ45_2]
                  have kp301 : gP σ45_2 th 2 = gP σ39_2 th 2 := by rw [eσ45_2]
                  have kp302 : gP σ45_2 th 3 = gP σ39_2 th 3 := by rw [eσ45_2]
                  have kp303 : gP σ45_2 th 5 = gP σ39_2 th 5 := by rw [eσ45_2]
                  have kp304 : gP σ45_2 th 9 = gP σ39_2 th 9 := by rw [eσ45_2]
                  intro σ46_2 eσ46_2
                  have xσ46_2 : Ext σ45_2 σ46_2 := by rw [eσ46_2]; exact fun _ h => ⟨h, rfl, rfl⟩
                  have iσ46_2 : IV σ46_2 pl gq ci gr nc ot LLt32 Nt32 nut32 := by rw [eσ46_2]; exact iσ45_2.wT (mb_19.up (xσ39_2.trans xσ45_2)) (by decide) (iσ45_2.t7 (kk_b_17.up (xσ39_2.trans xσ45_2)))
                  have fσ46_2 : Fx [1, 2, 3, 4, 5, 6, 7, 64, 512, 645, 646, 647, 708, 6464] gr σ σ46_2 := fσ45_2.tr (Sk.fx (by rw [eσ46_2]; exact Sk.pJ (by rw [fcdO (mb_19.up (xσ39_2.trans xσ45_2)) (by decide)]; decide)))
                  have kp305 : gI σ46_2 b_1 6 = gI σ45_2 b_1 6 := by rw [eσ46_2]
                  have kp306 : gI σ46_2 b_16 5 = gI σ45_2 b_16 5 := by rw [eσ46_2]
                  have kp307 : gI σ46_2 b_19 5 = gI σ45_2 b_19 5 := by rw [eσ46_2]
                  have kp308 : gI σ46_2 b_19 6 = gI σ45_2 b_19 6 := by rw [eσ46_2]
                  have kp309 : gI σ46_2 th 12 = gI σ45_2 th 12 := by rw [eσ46_2]
                  have kp310 : gP σ46_2 J 0 = gP σ45_2 J 0 := by rw [eσ46_2]
                  have kp311 : gP σ46_2 W 5 = gP σ45_2 W 5 := by rw [eσ46_2]
                  have kp312 : gP σ46_2 b v1.toNat = gP σ45_2 b v1.toNat := by rw [eσ46_2]
                  have kp313 : gP σ46_2 b_18 ((gI τ32 F v1.toNat) + 0).toNat = gP σ45_2 b_18 ((gI τ32 F v1.toNat) + 0).toNat := by rw [eσ46_2]
                  have kp314 : gP σ46_2 th 1 = gP σ45_2 th 1 := by rw [eσ46_2]
                  have kp315 : gP σ46_2 th 2 = gP σ45_2 th 2 := by rw [eσ46_2]
                  have kp316 : gP σ46_2 th 3 = gP σ45_2 th 3 := by rw [eσ46_2]
                  have kp317 : gP σ46_2 th 5 = gP σ45_2 th 5 := by rw [eσ46_2]
                  have kp318 : gP σ46_2 th 9 = gP σ45_2 th 9 := by rw [eσ46_2]
                  unfold w_X9_restore_141
                  refine ⟨b_17, eb_17, fun kk_b_17_3 => ?_⟩
                  obtain ⟨b_22, eb_22, fb_22⟩ := P_10_2 iσ46_2.1 (kk_b_17.up (xσ39_2.trans (xσ45_2.trans xσ46_2)))
                  have mb_22 : kO σ46_2 b_22 1 := iσ46_2.1.kd (kk_b_17.up (xσ39_2.trans (xσ45_2.trans xσ46_2))) rfl eb_22 rfl
                  refine i_X9_restoreRecords iσ46_2 (kth.up (xτ32.trans (xσ39_2.trans (xσ45_2.trans xσ46_2)))) eb_22 mb_22 (kp318.trans (kp304.trans (kp259.trans (kp238.trans hj)))) (kJ.up (xτ32.trans (xσ39_2.trans (xσ45_2.trans xσ46_2)))) (by (first | omega | with_reducible assumption | with_reducible exact rng_toInt _ | with_reducible exact rng_wr _ | (unfold rng; omega) | (unfold rng at *; omega) | assumption)) (kp314.trans (kp300.trans (kp255.trans (kp236.trans hw)))) (kW.up (xτ32.trans (xσ39_2.trans (xσ45_2.trans xσ46_2)))) (kp311.trans (kp297.trans (kp252.trans (kp234.trans hWJ)))) (kp317.trans (kp303.trans (kp258.trans (kp237.trans hF)))) (kF.up (xτ32.trans (xσ39_2.trans (xσ45_2.trans xσ46_2)))) gF hP (hl1.fx iσ iσ46_2 GE.rf fσ46_2 (by omega) (by decide)) (hf1.fx kF gF fσ46_2 (by decide)) (by (first | omega | with_reducible assumption | with_reducible exact rng_toInt _ | with_reducible exact rng_wr _ | (unfold rng; omega) | (unfold rng at *; omega) | assumption)) (by (first | omega | with_reducible assumption | with_reducible exact rng_toInt _ | with_reducible exact rng_wr _ | (unfold rng; omega) | (unfold rng at *; omega) | assumption)) (by (first | omega | with_reducible assumption | with_reducible exact rng_toInt _ | with_reducible exact rng_wr _ | (unfold rng; omega) | (unfold rng at *; omega) | assumption)) (by (first | omega | with_reducible assumption | with_reducible exact rng_toInt _ | with_reducible exact rng_wr _ | (unfold rng; omega) | (unfold rng at *; omega) | assumption)) (fun hL => by have z9 := (iσ46_2.ss.2.2.2.2.2.1 b_22 mb_22 hL).2.2.2.2.2.1 (by omega); rw [show ci b_22 / 4 = v1.toNat by omega] at z9; exact z9) (by (first | omega | with_reducible assumption | with_reducible exact rng_toInt _ | with_reducible exact rng_wr _ | (unfold rng; omega) | (unfold rng at *; omega) | assumption)) (by (first | omega | with_reducible assumption | with_reducible exact rng_toInt _ | with_reducible exact rng_wr _ | (unfold rng; omega) | (unfold rng at *; omega) | assumption)) (by (first | omega | with_reducible assumption | with_reducible exact rng_toInt _ | with_reducible exact rng_wr _ | (unfold rng; omega) | (unfold rng at *; omega) | assumption)) (fun σ48_5 LLσ48_5 Nσ48_5 nuσ48_5 _ iσ48_5 cσ48_5 uσ48_5 hσ48_5 pσ48_5 => ?_) (fun σx LLx Nx nux E ix cx ux px => hX σx LLx Nx nux E ix (fσ46_2.tr (cx.mo (by decide))) (nu_τ32.x ux) (by first | exact px | exact ⟨by have := px.1; omega, px.2⟩ | (first | omega | with_reducible assumption | with_reducible exact rng_toInt _ | with_reducible exact rng_wr _ | (unfold rng; omega) | (unfold rng at *; omega) | assumption)))
                  intro xσ48_5
                  have fσ48_5 : Fx [1, 2, 3, 4, 5, 6, 7, 64, 512, 645, 646, 647, 708, 6464] gr σ σ48_5 := fσ46_2.tr (cσ48_5.mo (by decide))
                  have hnσ48_5 : Hn (gD σ) [11, 12] [] gq LL LLσ48_5 N Nσ48_5 := hnτ32.go hσ48_5 (fun d hd => (fσ46_2.1 d hd).1) (by first | decide | exact fun _ h => h | (simp; done) | (intro x hx; simp only [List.mem_cons, List.mem_nil_iff, or_false] at hx ⊢; omega)) (fun d hd => absurd hd (by simp))
                  have nσ48_5_3 := hσ48_5.2.2 3 (by first | decide | (simp; done) | (simp only [List.mem_cons, List.mem_nil_iff, or_false, not_or]; omega)) (by first | decide | omega) (by first | decide | omega) (by first | decide | omega)
                  have nσ48_5_5 := hσ48_5.2.2 5 (by first | decide | (simp; done) | (simp only [List.mem_cons, List.mem_nil_iff, or_false, not_or]; omega)) (by first | decide | omega) (by first | decide | omega) (by first | decide | omega)
                  have nσ48_5_14 := hσ48_5.2.2 14 (by first | decide | (simp; done) | (simp only [List.mem_cons, List.mem_nil_iff, or_false, not_or]; omega)) (by first | decide | omega) (by first | decide | omega) (by first | decide | omega)
                  have nσ48_5_44 := hσ48_5.2.2 44 (by first | decide | (simp; done) | (simp only [List.mem_cons, List.mem_nil_iff, or_false, not_or]; omega)) (by first | decide | omega) (by first | decide | omega) (by first | decide | omega)
                  have nσ48_5_74 := hσ48_5.2.2 74 (by first | decide | (simp; done) | (simp only [List.mem_cons, List.mem_nil_iff, or_false, not_or]; omega)) (by first | decide | omega) (by first | decide | omega) (by first | decide | omega)
                  have nσ48_5_41 := hσ48_5.2.2 41 (by first | decide | (simp; done) | (simp only [List.mem_cons, List.mem_nil_iff, or_false, not_or]; omega)) (by first | decide | omega) (by first | decide | omega) (by first | decide | omega)
                  have nσ48_5_42 := hσ48_5.2.2 42 (by first | decide | (simp; done) | (simp only [List.mem_cons, List.mem_nil_iff, or_false, not_or]; omega)) (by first | decide | omega) (by first | decide | omega) (by first | decide | omega)
                  have nσ48_5_13 := hσ48_5.2.2 13 (by first | decide | (simp; done) | (simp only [List.mem_cons, List.mem_nil_iff, or_false, not_or]; omega)) (by first | decide | omega) (by first | decide | omega) (by first | decide | omega)
                  have nσ48_5_50 := hσ48_5.2.2 50 (by first | decide | (simp; done) | (simp only [List.mem_cons, List.mem_nil_iff, or_false, not_or]; omega)) (by first | decide | omega) (by first | decide | omega) (by first | decide | omega)
                  have nu_σ48_5 : NU nu nuσ48_5 := nu_τ32.tr uσ48_5
                  have uσ48_5_0 := uσ48_5.1 0 (by decide)
                  have uσ48_5_1 := uσ48_5.1 1 (by decide)
                  have uσ48_5_2 := uσ48_5.2
                  have uσ48_5_5 := uσ48_5.1 5 (by decide)
                  have uσ48_5_15 := uσ48_5.1 15 (by decide)
                  have uσ48_5_16 := uσ48_5.1 16 (by decide)
                  have kp319 : gI σ48_5 b_1 6 = gI σ46_2 b_1 6 := (cσ48_5.O (mb_1.up (xτ32.trans (xσ39_2.trans (xσ45_2.trans xσ46_2)))) (by decide)).1
                  have kp320 : gI σ48_5 b_16 5 = gI σ46_2 b_16 5 := (cσ48_5.O (kk_b_16.up (xσ39_2.trans (xσ45_2.trans xσ46_2))) (by decide)).1
                  have kp321 : gI σ48_5 b_19 5 = gI σ46_2 b_19 5 := (cσ48_5.O (mb_19.up (xσ39_2.trans (xσ45_2.trans xσ46_2))) (by decide)).1
                  have kp322 : gI σ48_5 b_19 6 = gI σ46_2 b_19 6 := (cσ48_5.O (mb_19.up (xσ39_2.trans (xσ45_2.trans xσ46_2))) (by decide)).1
                  have kp323 : gI σ48_5 th 12 = gI σ46_2 th 12 := (cσ48_5.O (kth.up (xτ32.trans (xσ39_2.trans (xσ45_2.trans xσ46_2)))) (by decide)).1
                  have kp324 : gP σ48_5 J 0 = gP σ46_2 J 0 := (cσ48_5.O (kJ.up (xτ32.trans (xσ39_2.trans (xσ45_2.trans xσ46_2)))) (by decide)).2.1
                  have kp325 : gP σ48_5 W 5 = gP σ46_2 W 5 := (cσ48_5.O (kW.up (xτ32.trans (xσ39_2.trans (xσ45_2.trans xσ46_2)))) (by decide)).2.1
                  have kp326 : gP σ48_5 b v1.toNat = gP σ46_2 b v1.toNat := (cσ48_5.A (mb.up (xτ32.trans (xσ39_2.trans (xσ45_2.trans xσ46_2)))) (by decide)).2.1
                  have kp327 : gP σ48_5 b_17 2 = gP σ46_2 b_17 2 := (cσ48_5.O (kk_b_17.up (xσ39_2.trans (xσ45_2.trans xσ46_2))) (by decide)).2.1
                  have kp328 : gP σ48_5 b_18 ((gI τ32 F v1.toNat) + 0).toNat = gP σ46_2 b_18 ((gI τ32 F v1.toNat) + 0).toNat := (cσ48_5.A (mb_18.up (xσ39_2.trans (xσ45_2.trans xσ46_2))) (by decide)).2.1
                  have kp329 : gP σ48_5 th 1 = gP σ46_2 th 1 := (cσ48_5.O (kth.up (xτ32.trans (xσ39_2.trans (xσ45_2.trans xσ46_2)))) (by decide)).2.1
                  have kp330 : gP σ48_5 th 2 = gP σ46_2 th 2 := (cσ48_5.O (kth.up (xτ32.trans (xσ39_2.trans (xσ45_2.trans xσ46_2)))) (by decide)).2.1
                  have kp331 : gP σ48_5 th 3 = gP σ46_2 th 3 := (cσ48_5.O (kth.up (xτ32.trans (xσ39_2.trans (xσ45_2.trans xσ46_2)))) (by decide)).2.1
                  have kp332 : gP σ48_5 th 5 = gP σ46_2 th 5 := (cσ48_5.O (kth.up (xτ32.trans (xσ39_2.trans (xσ45_2.trans xσ46_2)))) (by decide)).2.1
                  have kp333 : gP σ48_5 th 9 = gP σ46_2 th 9 := (cσ48_5.O (kth.up (xτ32.trans (xσ39_2.trans (xσ45_2.trans xσ46_2)))) (by decide)).2.1
                  obtain ⟨b_23, eb_23, fb_23⟩ := P_10_3 iσ48_5.1 (kk_b_17.up (xσ39_2.trans (xσ45_2.trans (xσ46_2.trans xσ48_5))))
                  have mb_23 : kO σ48_5 b_23 1 := iσ48_5.1.kd (kk_b_17.up (xσ39_2.trans (xσ45_2.trans (xσ46_2.trans xσ48_5)))) rfl eb_23 rfl
                  refine i_X9_restoreRecords iσ48_5 (kth.up (xτ32.trans (xσ39_2.trans (xσ45_2.trans (xσ46_2.trans xσ48_5))))) eb_23 mb_23 (kp333.trans (kp318.trans (kp304.trans (kp259.trans (kp238.trans hj))))) (kJ.up (xτ32.trans (xσ39_2.trans (xσ45_2.trans (xσ46_2.trans xσ48_5))))) (by (first | omega | with_reducible assumption | with_reducible exact rng_toInt _ | with_reducible exact rng_wr _ | (unfold rng; omega) | (unfold rng at *; omega) | assumption)) (kp329.trans (kp314.trans (kp300.trans (kp255.trans (kp236.trans hw))))) (kW.up (xτ32.trans (xσ39_2.trans (xσ45_2.trans (xσ46_2.trans xσ48_5))))) (kp325.trans (kp311.trans (kp297.trans (kp252.trans (kp234.trans hWJ))))) (kp332.trans (kp317.trans (kp303.trans (kp258.trans (kp237.trans hF))))) (kF.up (xτ32.trans (xσ39_2.trans (xσ45_2.trans (xσ46_2.trans xσ48_5))))) gF hP (hl1.fx iσ iσ48_5 GE.rf fσ48_5 (by omega) (by decide)) (hf1.fx kF gF fσ48_5 (by decide)) (by (first | omega | with_reducible assumption | with_reducible exact rng_toInt _ | with_reducible exact rng_wr _ | (unfold rng; omega) | (unfold rng at *; omega) | assumption)) (by (first | omega | with_reducible assumption | with_reducible exact rng_toInt _ | with_reducible exact rng_wr _ | (unfold rng; omega) | (unfold rng at *; omega) | assumption)) (by (first | omega | with_reducible assumption | with_reducible exact rng_toInt _ | with_reducible exact rng_wr _ | (unfold rng; omega) | (unfold rng at *; omega) | assumption)) (by (first | omega | with_reducible assumption | with_reducible exact rng_toInt _ | with_reducible exact rng_wr _ | (unfold rng; omega) | (unfold rng at *; omega) | assumption)) (fun hL => by have z9 := (iσ48_5.ss.2.2.2.2.2.1 b_23 mb_23 hL).2.2.2.2.2.1 (by omega); rw [show ci b_23 / 4 = v1.toNat by omega] at z9; exact z9) (by (first | omega | with_reducible assumption | with_reducible exact rng_toInt _ | with_reducible exact rng_wr _ | (unfold rng; omega) | (unfold rng at *; omega) | assumption)) (by (first | omega | with_reducible assumption | with_reducible exact rng_toInt _ | with_reducible exact rng_wr _ | (unfold rng; omega) | (unfold rng at *; omega) | assumption)) (by (first | omega | with_reducible assumption | with_reducible exact rng_toInt _ | with_reducible exact rng_wr _ | (unfold rng; omega) | (unfold rng at *; omega) | assumption)) (fun σ49_5 LLσ49_5 Nσ49_5 nuσ49_5 _ iσ49_5 cσ49_5 uσ49_5 hσ49_5 pσ49_5 => ?_) (fun σx LLx Nx nux E ix cx ux px => hX σx LLx Nx nux E ix (fσ48_5.tr (cx.mo (by decide))) (nu_σ48_5.x ux) (by first | exact px | exact ⟨by have := px.1; omega, px.2⟩ | (first | omega | with_reducible assumption | with_reducible exact rng_toInt _ | with_reducible exact rng_wr _ | (unfold rng; omega) | (unfold rng at *; omega) | assumption)))
                  intro xσ49_5
                  have fσ49_5 : Fx [1, 2, 3, 4, 5, 6, 7, 64, 512, 645, 646, 647, 708, 6464] gr σ σ49_5 := fσ48_5.tr (cσ49_5.mo (by decide))
                  have hnσ49_5 : Hn (gD σ) [11, 12] [] gq LL LLσ49_5 N Nσ49_5 := hnσ48_5.go hσ49_5 (fun d hd => (fσ48_5.1 d hd).1) (by first | decide | exact fun _ h => h | (simp; done) | (intro x hx; simp only [List.mem_cons, List.mem_nil_iff, or_false] at hx ⊢; omega)) (fun d hd => absurd hd (by simp))
                  have nσ49_5_3 := hσ49_5.2.2 3 (by first | decide | (simp; done) | (simp only [List.mem_cons, List.mem_nil_iff, or_false, not_or]; omega)) (by first | decide | omega) (by first | decide | omega) (by first | decide | omega)
                  have nσ49_5_5 := hσ49_5.2.2 5 (by first | decide | (simp; done) | (simp only [List.mem_cons, List.mem_nil_iff, or_false, not_or]; omega)) (by first | decide | omega) (by first | decide | omega) (by first | decide | omega)
                  have nσ49_5_14 := hσ49_5.2.2 14 (by first | decide | (simp; done) | (simp only [List.mem_cons, List.mem_nil_iff, or_false, not_or]; omega)) (by first | decide | omega) (by first | decide | omega) (by first | decide | omega)
                  have nσ49_5_44 := hσ49_5.2.2 44 (by first | decide | (simp; done) | (simp only [List.mem_cons, List.mem_nil_iff, or_false, not_or]; omega)) (by first | decide | omega) (by first | decide | omega) (by first | decide | omega)
                  have nσ49_5_74 := hσ49_5.2.2 74 (by first | decide | (simp; done) | (simp only [List.mem_cons, List.mem_nil_iff, or_false, not_or]; omega)) (by first | decide | omega) (by first | decide | omega) (by first | decide | omega)
                  have nσ49_5_41 := hσ49_5.2.2 41 (by first | decide | (simp; done) | (simp only [List.mem_cons, List.mem_nil_iff, or_false, not_or]; omega)) (by first | decide | omega) (by first | decide | omega) (by first | decide | omega)
                  have nσ49_5_42 := hσ49_5.2.2 42 (by first | decide | (simp; done) | (simp only [List.mem_cons, List.mem_nil_iff, or_false, not_or]; omega)) (by first | decide | omega) (by first | decide | omega) (by first | decide | omega)
                  have nσ49_5_13 := hσ49_5.2.2 13 (by first | decide | (simp; done) | (simp only [List.mem_cons, List.mem_nil_iff, or_false, not_or]; omega)) (by first | decide | omega) (by first | decide | omega) (by first | decide | omega)
                  have nσ49_5_50 := hσ49_5.2.2 50 (by first | decide | (simp; done) | (simp only [List.mem_cons, List.mem_nil_iff, or_false, not_or]; omega)) (by first | decide | omega) (by first | decide | omega) (by first | decide | omega)
                  have nu_σ49_5 : NU nu nuσ49_5 := nu_σ48_5.tr uσ49_5
                  have uσ49_5_0 := uσ49_5.1 0 (by decide)
                  have uσ49_5_1 := uσ49_5.1 1 (by decide)
                  have uσ49_5_2 := uσ49_5.2
                  have uσ49_5_5 := uσ49_5.1 5 (by decide)
                  have uσ49_5_15 := uσ49_5.1 15 (by decide)
                  have uσ49_5_16 := uσ49_5.1 16 (by decide)
                  have kp334 : gI σ49_5 b_1 6 = gI σ48_5 b_1 6 := (cσ49_5.O (mb_1.up (xτ32.trans (xσ39_2.trans (xσ45_2.trans (xσ46_2.trans xσ48_5))))) (by decide)).1
                  have kp335 : gI σ49_5 b_16 5 = gI σ48_5 b_16 5 := (cσ49_5.O (kk_b_16.up (xσ39_2.trans (xσ45_2.trans (xσ46_2.trans xσ48_5)))) (by decide)).1
                  have kp336 : gI σ49_5 b_19 5 = gI σ48_5 b_19 5 := (cσ49_5.O (mb_19.up (xσ39_2.trans (xσ45_2.trans (xσ46_2.trans xσ48_5)))) (by decide)).1
                  have kp337 : gI σ49_5 b_19 6 = gI σ48_5 b_19 6 := (cσ49_5.O (mb_19.up (xσ39_2.trans (xσ45_2.trans (xσ46_2.trans xσ48_5)))) (by decide)).1
                  have kp338 : gI σ49_5 th 12 = gI σ48_5 th 12 := (cσ49_5.O (kth.up (xτ32.trans (xσ39_2.trans (xσ45_2.trans (xσ46_2.trans xσ48_5))))) (by decide)).1
                  have kp339 : gP σ49_5 J 0 = gP σ48_5 J 0 := (cσ49_5.O (kJ.up (xτ32.trans (xσ39_2.trans (xσ45_2.trans (xσ46_2.trans xσ48_5))))) (by decide)).2.1
                  have kp340 : gP σ49_5 W 5 = gP σ48_5 W 5 := (cσ49_5.O (kW.up (xτ32.trans (xσ39_2.trans (xσ45_2.trans (xσ46_2.trans xσ48_5))))) (by decide)).2.1
                  have kp341 : gP σ49_5 b v1.toNat = gP σ48_5 b v1.toNat := (cσ49_5.A (mb.up (xτ32.trans (xσ39_2.trans (xσ45_2.trans (xσ46_2.trans xσ48_5))))) (by decide)).2.1
                  have kp342 : gP σ49_5 b_17 2 = gP σ48_5 b_17 2 := (cσ49_5.O (kk_b_17.up (xσ39_2.trans (xσ45_2.trans (xσ46_2.trans xσ48_5)))) (by decide)).2.1
                  have kp343 : gP σ49_5 b_17 3 = gP σ48_5 b_17 3 := (cσ49_5.O (kk_b_17.up (xσ39_2.trans (xσ45_2.trans (xσ46_2.trans xσ48_5)))) (by decide)).2.1
                  have kp344 : gP σ49_5 b_18 ((gI τ32 F v1.toNat) + 0).toNat = gP σ48_5 b_18 ((gI τ32 F v1.toNat) + 0).toNat := (cσ49_5.A (mb_18.up (xσ39_2.trans (xσ45_2.trans (xσ46_2.trans xσ48_5)))) (by decide)).2.1
                  have kp345 : gP σ49_5 th 1 = gP σ48_5 th 1 := (cσ49_5.O (kth.up (xτ32.trans (xσ39_2.trans (xσ45_2.trans (xσ46_2.trans xσ48_5))))) (by decide)).2.1
                  have kp346 : gP σ49_5 th 2 = gP σ48_5 th 2 := (cσ49_5.O (kth.up (xτ32.trans (xσ39_2.trans (xσ45_2.trans (xσ46_2.trans xσ48_5))))) (by decide)).2.1
                  have kp347 : gP σ49_5 th 3 = gP σ48_5 th 3 := (cσ49_5.O (kth.up (xτ32.trans (xσ39_2.trans (xσ45_2.trans (xσ46_2.trans xσ48_5))))) (by decide)).2.1
                  have kp348 : gP σ49_5 th 5 = gP σ48_5 th 5 := (cσ49_5.O (kth.up (xτ32.trans (xσ39_2.trans (xσ45_2.trans (xσ46_2.trans xσ48_5))))) (by decide)).2.1
                  have kp349 : gP σ49_5 th 9 = gP σ48_5 th 9 := (cσ49_5.O (kth.up (xτ32.trans (xσ39_2.trans (xσ45_2.trans (xσ46_2.trans xσ48_5))))) (by decide)).2.1
                  unfold w_X9_restore_163
                  refine ⟨by (first | omega | with_reducible assumption | with_reducible exact rng_toInt _ | with_reducible exact rng_wr _ | (unfold rng; omega) | (unfold rng at *; omega) | assumption), ?_⟩
                  exact ih32 σ49_5 LLσ49_5 Nσ49_5 nuσ49_5 (v3 + 1) iσ49_5 fσ49_5 (xτ32.trans (xσ39_2.trans (xσ45_2.trans (xσ46_2.trans (xσ48_5.trans xσ49_5))))) nu_σ49_5 hnσ49_5 (by (first | omega | with_reducible assumption | with_reducible exact rng_toInt _ | with_reducible exact rng_wr _ | (unfold rng; omega) | (unfold rng at *; omega) | assumption)) (by (first | omega | with_reducible assumption | with_reducible exact rng_toInt _ | with_reducible exact rng_wr _ | (unfold rng; omega) | (unfold rng at *; omega) | assumption))
              · rw [if_neg hc243]
                have hc243q := Classical.not_not.mp hc243
                unfold w_X9_restore_82
                unfold w_X9_restore_87
                have q350 := iτ32.rg F v1.toNat; unfold rng at q350
                refine ⟨by (first | omega | with_reducible assumption | with_reducible exact rng_toInt _ | with_reducible exact rng_wr _ | (unfold rng; omega) | (unfold rng at *; omega) | assumption), ?_⟩
                obtain ⟨b_24, eb_24, fb_24⟩ := P_9_3 iτ32.1 (kth.up xτ32)
                have mb_24 : kO τ32 b_24 120 := iτ32.1.kd (kth.up xτ32) rfl eb_24 rfl
                refine ⟨b_24, eb_24, fun kk_b_24 => ?_⟩
                refine ⟨⟨by (first | omega | with_reducible assumption | with_reducible exact rng_toInt _ | with_reducible exact rng_wr _ | (unfold rng; omega) | (unfold rng at *; omega) | assumption), by (first | omega | with_reducible assumption | with_reducible exact rng_toInt _ | with_reducible exact rng_wr _ | (unfold rng; omega) | (unfold rng at *; omega) | assumption)⟩, ?_⟩
                have n16b_25 := iτ32.n16
                obtain ⟨b_25, eb_25, mb_25, fb_25⟩ := P_120 iτ32 mb_24 (by omega) (k := ((gI τ32 F v1.toNat) + v3).toNat) (by (first | omega | with_reducible assumption | with_reducible exact rng_toInt _ | with_reducible exact rng_wr _ | (unfold rng; omega) | (unfold rng at *; omega) | assumption))
                refine ⟨b_25, eb_25, fun kk_b_25 => ?_⟩
                refine ⟨b_17, eb_17, fun kk_b_17_4 => ?_⟩
                intro σ39_3 eσ39_3
                have xσ39_3 : Ext τ32 σ39_3 := by rw [eσ39_3]; exact fun _ h => ⟨h, rfl, rfl⟩
                have q351 := iτ32.rg b_25 5; unfold rng at q351
                have q352 := iτ32.rg b_17 5; unfold rng at q352
                have iσ39_3 : IV σ39_3 pl gq ci gr nc ot LLt32 Nt32 nut32 := by rw [eσ39_3]; exact iτ32.wO mb_25 (by decide) (rngb (by first | exact rng_wr _ | (first | omega | with_reducible assumption | with_reducible exact rng_toInt _ | with_reducible exact rng_wr _ | (unfold rng; omega) | (unfold rng at *; omega) | assumption)))
                have fσ39_3 : Fx [1, 2, 3, 4, 5, 6, 7, 64, 512, 645, 646, 647, 708, 6464] gr σ σ39_3 := fτ32.tr (Sk.fx (by rw [eσ39_3]; exact Sk.pI (by rw [fcdO mb_25 (by decide)]; decide)))
                have wσ39_3 : gI σ39_3 b_25 5 = (wr (gI τ32 b_25 5 + gI τ32 b_17 5)) := by rw [eσ39_3]; exact up2_s _ _ _ _
                have kp353 : gI σ39_3 b_1 6 = gI τ32 b_1 6 := by rw [eσ39_3]; exact up2_n _ _ (fun q => absurd q.2 (by decide))
                have kp354 : gI σ39_3 b_16 5 = gI τ32 b_16 5 := by rw [eσ39_3]; exact up2_n _ _ (fun q => absurd q.1 (kO.ne kk_b_16 mb_25 (by decide)))
                have kp355 : gI σ39_3 th 12 = gI τ32 th 12 := by rw [eσ39_3]; exact up2_n _ _ (fun q => absurd q.2 (by decide))
                have kp356 : gP σ39_3 J 0 = gP τ32 J 0 := by rw [eσ39_3]
                have kp357 : gP σ39_3 W 5 = gP τ32 W 5 := by rw [eσ39_3]
                have kp358 : gP σ39_3 b v1.toNat = gP τ32 b v1.toNat := by rw [eσ39_3]
                have kp359 : gP σ39_3 b_24 ((gI τ32 F v1.toNat) + v3).toNat = gP τ32 b_24 ((gI τ32 F v1.toNat) + v3).toNat := by rw [eσ39_3]
                have kp360 : gP σ39_3 th 1 = gP τ32 th 1 := by rw [eσ39_3]
                have kp361 : gP σ39_3 th 2 = gP τ32 th 2 := by rw [eσ39_3]
                have kp362 : gP σ39_3 th 3 = gP τ32 th 3 := by rw [eσ39_3]
                have kp363 : gP σ39_3 th 5 = gP τ32 th 5 := by rw [eσ39_3]
                have kp364 : gP σ39_3 th 9 = gP τ32 th 9 := by rw [eσ39_3]
                refine ⟨J, (kp364.trans (kp238.trans hj)), fun kk_J_4 => ?_⟩
                refine ⟨b, (kp356.trans (kp233.trans eb)), fun kk_b_9 => ?_⟩
                have q365 := ((xτ32.trans xσ39_3) b mb.1).2.2
                refine ⟨⟨by (first | omega | with_reducible assumption | with_reducible exact rng_toInt _ | with_reducible exact rng_wr _ | (unfold rng; omega) | (unfold rng at *; omega) | assumption), by (first | omega | with_reducible assumption | with_reducible exact rng_toInt _ | with_reducible exact rng_wr _ | (unfold rng; omega) | (unfold rng at *; omega) | assumption)⟩, ?_⟩
                refine ⟨b_1, (kp358.trans (kp235.trans eb_1)), fun kk_b_1_4 => ?_⟩
                by_cases hc366 : gI σ39_3 b_1 6 ≠ 0
                · rw [if_pos hc366]
                  unfold w_X9_restore_141
                  refine ⟨b_17, eb_17, fun kk_b_17_5 => ?_⟩
                  obtain ⟨b_26, eb_26, fb_26⟩ := P_10_2 iσ39_3.1 (kk_b_17_4.up xσ39_3)
                  have mb_26 : kO σ39_3 b_26 1 := iσ39_3.1.kd (kk_b_17_4.up xσ39_3) rfl eb_26 rfl
                  refine i_X9_restoreRecords iσ39_3 (kth.up (xτ32.trans xσ39_3)) eb_26 mb_26 (kp364.trans (kp238.trans hj)) (kJ.up (xτ32.trans xσ39_3)) (by (first | omega | with_reducible assumption | with_reducible exact rng_toInt _ | with_reducible exact rng_wr _ | (unfold rng; omega) | (unfold rng at *; omega) | assumption)) (kp360.trans (kp236.trans hw)) (kW.up (xτ32.trans xσ39_3)) (kp357.trans (kp234.trans hWJ)) (kp363.trans (kp237.trans hF)) (kF.up (xτ32.trans xσ39_3)) gF hP (hl1.fx iσ iσ39_3 GE.rf fσ39_3 (by omega) (by decide)) (hf1.fx kF gF fσ39_3 (by decide)) (by (first | omega | with_reducible assumption | with_reducible exact rng_toInt _ | with_reducible exact rng_wr _ | (unfold rng; omega) | (unfold rng at *; omega) | assumption)) (by (first | omega | with_reducible assumption | with_reducible exact rng_toInt _ | with_reducible exact rng_wr _ | (unfold rng; omega) | (unfold rng at *; omega) | assumption)) (by (first | omega | with_reducible assumption | with_reducible exact rng_toInt _ | with_reducible exact rng_wr _ | (unfold rng; omega) | (unfold rng at *; omega) | assumption)) (by (first | omega | with_reducible assumption | with_reducible exact rng_toInt _ | with_reducible exact rng_wr _ | (unfold rng; omega) | (unfold rng at *; omega) | assumption)) (fun hL => by have z9 := (iσ39_3.ss.2.2.2.2.2.1 b_26 mb_26 hL).2.2.2.2.2.1 (by omega); rw [show ci b_26 / 4 = v1.toNat by omega] at z9; exact z9) (by (first | omega | with_reducible assumption | with_reducible exact rng_toInt _ | with_reducible exact rng_wr _ | (unfold rng; omega) | (unfold rng at *; omega) | assumption)) (by (first | omega | with_reducible assumption | with_reducible exact rng_toInt _ | with_reducible exact rng_wr _ | (unfold rng; omega) | (unfold rng at *; omega) | assumption)) (by (first | omega | with_reducible assumption | with_reducible exact rng_toInt _ | with_reducible exact rng_wr _ | (unfold rng; omega) | (unfold rng at *; omega) | assumption)) (fun σ48_6 LLσ48_6 Nσ48_6 nuσ48_6 _ iσ48_6 cσ48_6 uσ48_6 hσ48_6 pσ48_6 => ?_) (fun σx LLx Nx nux E ix cx ux px => hX σx LLx Nx nux E ix (fσ39_3.tr (cx.mo (by decide))) (nu_τ32.x ux) (by first | exact px | exact ⟨by have := px.1; omega, px.2⟩ | (first | omega | with_reducible assumption | with_reducible exact rng_toInt _ | with_reducible exact rng_wr _ | (unfold rng; omega) | (unfold rng at *; omega) | assumption)))
                  intro xσ48_6
                  have fσ48_6 : Fx [1, 2, 3, 4, 5, 6, 7, 64, 512, 645, 646, 647, 708, 6464] gr σ σ48_6 := fσ39_3.tr (cσ48_6.mo (by decide))
                  have hnσ48_6 : Hn (gD σ) [11, 12] [] gq LL LLσ48_6 N Nσ48_6 := hnτ32.go hσ48_6 (fun d hd => (fσ39_3.1 d hd).1) (by first | decide | exact fun _ h => h | (simp; done) | (intro x hx; simp only [List.mem_cons, List.mem_nil_iff, or_false] at hx ⊢; omega)) (fun d hd => absurd hd (by simp))
                  have nσ48_6_3 := hσ48_6.2.2 3 (by first | decide | (simp; done) | (simp only [List.mem_cons, List.mem_nil_iff, or_false, not_or]; omega)) (by first | decide | omega) (by first | decide | omega) (by first | decide | omega)
                  have nσ48_6_5 := hσ48_6.2.2 5 (by first | decide | (simp; done) | (simp only [List.mem_cons, List.mem_nil_iff, or_false, not_or]; omega)) (by first | decide | omega) (by first | decide | omega) (by first | decide | omega)
                  have nσ48_6_14 := hσ48_6.2.2 14 (by first | decide | (simp; done) | (simp only [List.mem_cons, List.mem_nil_iff, or_false, not_or]; omega)) (by first | decide | omega) (by first | decide | omega) (by first | decide | omega)
                  have nσ48_6_44 := hσ48_6.2.2 44 (by first | decide | (simp; done) | (simp only [List.mem_cons, List.mem_nil_iff, or_false, not_or]; omega)) (by first | decide | omega) (by first | decide | omega) (by first | decide | omega)
                  have nσ48_6_74 := hσ48_6.2.2 74 (by first | decide | (simp; done) | (simp only [List.mem_cons, List.mem_nil_iff, or_false, not_or]; omega)) (by first | decide | omega) (by first | decide | omega) (by first | decide | omega)
                  have nσ48_6_41 := hσ48_6.2.2 41 (by first | decide | (simp; done) | (simp only [List.mem_cons, List.mem_nil_iff, or_false, not_or]; omega)) (by first | decide | omega) (by first | decide | omega) (by first | decide | omega)
                  have nσ48_6_42 := hσ48_6.2.2 42 (by first | decide | (simp; done) | (simp only [List.mem_cons, List.mem_nil_iff, or_false, not_or]; omega)) (by first | decide | omega) (by first | decide | omega) (by first | decide | omega)
                  have nσ48_6_13 := hσ48_6.2.2 13 (by first | decide | (simp; done) | (simp only [List.mem_cons, List.mem_nil_iff, or_false, not_or]; omega)) (by first | decide | omega) (by first | decide | omega) (by first | decide | omega)
                  have nσ48_6_50 := hσ48_6.2.2 50 (by first | decide | (simp; done) | (simp only [List.mem_cons, List.mem_nil_iff, or_false, not_or]; omega)) (by first | decide | omega) (by first | decide | omega) (by first | decide | omega)
                  have nu_σ48_6 : NU nu nuσ48_6 := nu_τ32.tr uσ48_6
                  have uσ48_6_0 := uσ48_6.1 0 (by decide)
                  have uσ48_6_1 := uσ48_6.1 1 (by decide)
                  have uσ48_6_2 := uσ48_6.2
                  have uσ48_6_5 := uσ48_6.1 5 (by decide)
                  have uσ48_6_15 := uσ48_6.1 15 (by decide)
                  have uσ48_6_16 := uσ48_6.1 16 (by decide)
                  have kp367 : gI σ48_6 b_1 6 = gI σ39_3 b_1 6 := (cσ48_6.O (mb_1.up (xτ32.trans xσ39_3)) (by decide)).1
                  have kp368 : gI σ48_6 b_16 5 = gI σ39_3 b_16 5 := (cσ48_6.O (kk_b_16.up xσ39_3) (by decide)).1
                  have kp369 : gI σ48_6 b_25 5 = gI σ39_3 b_25 5 := (cσ48_6.O (mb_25.up xσ39_3) (by decide)).1
                  have kp370 : gI σ48_6 th 12 = gI σ39_3 th 12 := (cσ48_6.O (kth.up (xτ32.trans xσ39_3)) (by decide)).1
                  have kp371 : gP σ48_6 J 0 = gP σ39_3 J 0 := (cσ48_6.O (kJ.up (xτ32.trans xσ39_3)) (by decide)).2.1
                  have kp372 : gP σ48_6 W 5 = gP σ39_3 W 5 := (cσ48_6.O (kW.up (xτ32.trans xσ39_3)) (by decide)).2.1
                  have kp373 : gP σ48_6 b v1.toNat = gP σ39_3 b v1.toNat := (cσ48_6.A (mb.up (xτ32.trans xσ39_3)) (by decide)).2.1
                  have kp374 : gP σ48_6 b_17 2 = gP σ39_3 b_17 2 := (cσ48_6.O (kk_b_17_4.up xσ39_3) (by decide)).2.1
                  have kp375 : gP σ48_6 b_24 ((gI τ32 F v1.toNat) + v3).toNat = gP σ39_3 b_24 ((gI τ32 F v1.toNat) + v3).toNat := (cσ48_6.A (mb_24.up xσ39_3) (by decide)).2.1
                  have kp376 : gP σ48_6 th 1 = gP σ39_3 th 1 := (cσ48_6.O (kth.up (xτ32.trans xσ39_3)) (by decide)).2.1
                  have kp377 : gP σ48_6 th 2 = gP σ39_3 th 2 := (cσ48_6.O (kth.up (xτ32.trans xσ39_3)) (by decide)).2.1
                  have kp378 : gP σ48_6 th 3 = gP σ39_3 th 3 := (cσ48_6.O (kth.up (xτ32.trans xσ39_3)) (by decide)).2.1
                  have kp379 : gP σ48_6 th 5 = gP σ39_3 th 5 := (cσ48_6.O (kth.up (xτ32.trans xσ39_3)) (by decide)).2.1
                  have kp380 : gP σ48_6 th 9 = gP σ39_3 th 9 := (cσ48_6.O (kth.up (xτ32.trans xσ39_3)) (by decide)).2.1
                  obtain ⟨b_27, eb_27, fb_27⟩ := P_10_3 iσ48_6.1 (kk_b_17_4.up (xσ39_3.trans xσ48_6))
                  have mb_27 : kO σ48_6 b_27 1 := iσ48_6.1.kd (kk_b_17_4.up (xσ39_3.trans xσ48_6)) rfl eb_27 rfl
                  refine i_X9_restoreRecords iσ48_6 (kth.up (xτ32.trans (xσ39_3.trans xσ48_6))) eb_27 mb_27 (kp380.trans (kp364.trans (kp238.trans hj))) (kJ.up (xτ32.trans (xσ39_3.trans xσ48_6))) (by (first | omega | with_reducible assumption | with_reducible exact rng_toInt _ | with_reducible exact rng_wr _ | (unfold rng; omega) | (unfold rng at *; omega) | assumption)) (kp376.trans (kp360.trans (kp236.trans hw))) (kW.up (xτ32.trans (xσ39_3.trans xσ48_6))) (kp372.trans (kp357.trans (kp234.trans hWJ))) (kp379.trans (kp363.trans (kp237.trans hF))) (kF.up (xτ32.trans (xσ39_3.trans xσ48_6))) gF hP (hl1.fx iσ iσ48_6 GE.rf fσ48_6 (by omega) (by decide)) (hf1.fx kF gF fσ48_6 (by decide)) (by (first | omega | with_reducible assumption | with_reducible exact rng_toInt _ | with_reducible exact rng_wr _ | (unfold rng; omega) | (unfold rng at *; omega) | assumption)) (by (first | omega | with_reducible assumption | with_reducible exact rng_toInt _ | with_reducible exact rng_wr _ | (unfold rng; omega) | (unfold rng at *; omega) | assumption)) (by (first | omega | with_reducible assumption | with_reducible exact rng_toInt _ | with_reducible exact rng_wr _ | (unfold rng; omega) | (unfold rng at *; omega) | assumption)) (by (first | omega | with_reducible assumption | with_reducible exact rng_toInt _ | with_reducible exact rng_wr _ | (unfold rng; omega) | (unfold rng at *; omega) | assumption)) (fun hL => by have z9 := (iσ48_6.ss.2.2.2.2.2.1 b_27 mb_27 hL).2.2.2.2.2.1 (by omega); rw [show ci b_27 / 4 = v1.toNat by omega] at z9; exact z9) (by (first | omega | with_reducible assumption | with_reducible exact rng_toInt _ | with_reducible exact rng_wr _ | (unfold rng; omega) | (unfold rng at *; omega) | assumption)) (by (first | omega | with_reducible assumption | with_reducible exact rng_toInt _ | with_reducible exact rng_wr _ | (unfold rng; omega) | (unfold rng at *; omega) | assumption)) (by (first | omega | with_reducible assumption | with_reducible exact rng_toInt _ | with_reducible exact rng_wr _ | (unfold rng; omega) | (unfold rng at *; omega) | assumption)) (fun σ49_6 LLσ49_6 Nσ49_6 nuσ49_6 _ iσ49_6 cσ49_6 uσ49_6 hσ49_6 pσ49_6 => ?_) (fun σx LLx Nx nux E ix cx ux px => hX σx LLx Nx nux E ix (fσ48_6.tr (cx.mo (by decide))) (nu_σ48_6.x ux) (by first | exact px | exact ⟨by have := px.1; omega, px.2⟩ | (first | omega | with_reducible assumption | with_reducible exact rng_toInt _ | with_reducible exact rng_wr _ | (unfold rng; omega) | (unfold rng at *; omega) | assumption)))
                  intro xσ49_6
                  have fσ49_6 : Fx [1, 2, 3, 4, 5, 6, 7, 64, 512, 645, 646, 647, 708, 6464] gr σ σ49_6 := fσ48_6.tr (cσ49_6.mo (by decide))
                  have hnσ49_6 : Hn (gD σ) [11, 12] [] gq LL LLσ49_6 N Nσ49_6 := hnσ48_6.go hσ49_6 (fun d hd => (fσ48_6.1 d hd).1) (by first | decide | exact fun _ h => h | (simp; done) | (intro x hx; simp only [List.mem_cons, List.mem_nil_iff, or_false] at hx ⊢; omega)) (fun d hd => absurd hd (by simp))
                  have nσ49_6_3 := hσ49_6.2.2 3 (by first | decide | (simp; done) | (simp only [List.mem_cons, List.mem_nil_iff, or_false, not_or]; omega)) (by first | decide | omega) (by first | decide | omega) (by first | decide | omega)
                  have nσ49_6_5 := hσ49_6.2.2 5 (by first | decide | (simp; done) | (simp only [List.mem_cons, List.mem_nil_iff, or_false, not_or]; omega)) (by first | decide | omega) (by first | decide | omega) (by first | decide | omega)
                  have nσ49_6_14 := hσ49_6.2.2 14 (by first | decide | (simp; done) | (simp only [List.mem_cons, List.mem_nil_iff, or_false, not_or]; omega)) (by first | decide | omega) (by first | decide | omega) (by first | decide | omega)
                  have nσ49_6_44 := hσ49_6.2.2 44 (by first | decide | (simp; done) | (simp only [List.mem_cons, List.mem_nil_iff, or_false, not_or]; omega)) (by first | decide | omega) (by first | decide | omega) (by first | decide | omega)
                  have nσ49_6_74 := hσ49_6.2.2 74 (by first | decide | (simp; done) | (simp only [List.mem_cons, List.mem_nil_iff, or_false, not_or]; omega)) (by first | decide | omega) (by first | decide | omega) (by first | decide | omega)
                  have nσ49_6_41 := hσ49_6.2.2 41 (by first | decide | (simp; done) | (simp only [List.mem_cons, List.mem_nil_iff, or_false, not_or]; omega)) (by first | decide | omega) (by first | decide | omega) (by first | decide | omega)
                  have nσ49_6_42 := hσ49_6.2.2 42 (by first | decide | (simp; done) | (simp only [List.mem_cons, List.mem_nil_iff, or_false, not_or]; omega)) (by first | decide | omega) (by first | decide | omega) (by first | decide | omega)
                  have nσ49_6_13 := hσ49_6.2.2 13 (by first | decide | (simp; done) | (simp only [List.mem_cons, List.mem_nil_iff, or_false, not_or]; omega)) (by first | decide | omega) (by first | decide | omega) (by first | decide | omega)
                  have nσ49_6_50 := hσ49_6.2.2 50 (by first | decide | (simp; done) | (simp only [List.mem_cons, List.mem_nil_iff, or_false, not_or]; omega)) (by first | decide | omega) (by first | decide | omega) (by first | decide | omega)
                  have nu_σ49_6 : NU nu nuσ49_6 := nu_σ48_6.tr uσ49_6
                  have uσ49_6_0 := uσ49_6.1 0 (by decide)
                  have uσ49_6_1 := uσ49_6.1 1 (by decide)
                  have uσ49_6_2 := uσ49_6.2
                  have uσ49_6_5 := uσ49_6.1 5 (by decide)
                  have uσ49_6_15 := uσ49_6.1 15 (by decide)
                  have uσ49_6_16 := uσ49_6.1 16 (by decide)
                  have kp381 : gI σ49_6 b_1 6 = gI σ48_6 b_1 6 := (cσ49_6.O (mb_1.up (xτ32.trans (xσ39_3.trans xσ48_6))) (by decide)).1
                  have kp382 : gI σ49_6 b_16 5 = gI σ48_6 b_16 5 := (cσ49_6.O (kk_b_16.up (xσ39_3.trans xσ48_6)) (by decide)).1
                  have kp383 : gI σ49_6 b_25 5 = gI σ48_6 b_25 5 := (cσ49_6.O (mb_25.up (xσ39_3.trans xσ48_6)) (by decide)).1
                  have kp384 : gI σ49_6 th 12 = gI σ48_6 th 12 := (cσ49_6.O (kth.up (xτ32.trans (xσ39_3.trans xσ48_6))) (by decide)).1
                  have kp385 : gP σ49_6 J 0 = gP σ48_6 J 0 := (cσ49_6.O (kJ.up (xτ32.trans (xσ39_3.trans xσ48_6))) (by decide)).2.1
                  have kp386 : gP σ49_6 W 5 = gP σ48_6 W 5 := (cσ49_6.O (kW.up (xτ32.trans (xσ39_3.trans xσ48_6))) (by decide)).2.1
                  have kp387 : gP σ49_6 b v1.toNat = gP σ48_6 b v1.toNat := (cσ49_6.A (mb.up (xτ32.trans (xσ39_3.trans xσ48_6))) (by decide)).2.1
                  have kp388 : gP σ49_6 b_17 2 = gP σ48_6 b_17 2 := (cσ49_6.O (kk_b_17_4.up (xσ39_3.trans xσ48_6)) (by decide)).2.1
                  have kp389 : gP σ49_6 b_17 3 = gP σ48_6 b_17 3 := (cσ49_6.O (kk_b_17_4.up (xσ39_3.trans xσ48_6)) (by decide)).2.1
                  have kp390 : gP σ49_6 b_24 ((gI τ32 F v1.toNat) + v3).toNat = gP σ48_6 b_24 ((gI τ32 F v1.toNat) + v3).toNat := (cσ49_6.A (mb_24.up (xσ39_3.trans xσ48_6)) (by decide)).2.1
                  have kp391 : gP σ49_6 th 1 = gP σ48_6 th 1 := (cσ49_6.O (kth.up (xτ32.trans (xσ39_3.trans xσ48_6))) (by decide)).2.1
                  have kp392 : gP σ49_6 th 2 = gP σ48_6 th 2 := (cσ49_6.O (kth.up (xτ32.trans (xσ39_3.trans xσ48_6))) (by decide)).2.1
                  have kp393 : gP σ49_6 th 3 = gP σ48_6 th 3 := (cσ49_6.O (kth.up (xτ32.trans (xσ39_3.trans xσ48_6))) (by decide)).2.1
                  have kp394 : gP σ49_6 th 5 = gP σ48_6 th 5 := (cσ49_6.O (kth.up (xτ32.trans (xσ39_3.trans xσ48_6))) (by decide)).2.1
                  have kp395 : gP σ49_6 th 9 = gP σ48_6 th 9 := (cσ49_6.O (kth.up (xτ32.trans (xσ39_3.trans xσ48_6))) (by decide)).2.1
                  unfold w_X9_restore_163
                  refine ⟨by (first | omega | with_reducible assumption | with_reducible exact rng_toInt _ | with_reducible exact rng_wr _ | (unfold rng; omega) | (unfold rng at *; omega) | assumption), ?_⟩
                  exact ih32 σ49_6 LLσ49_6 Nσ49_6 nuσ49_6 (v3 + 1) iσ49_6 fσ49_6 (xτ32.trans (xσ39_3.trans (xσ48_6.trans xσ49_6))) nu_σ49_6 hnσ49_6 (by (first | omega | with_reducible assumption | with_reducible exact rng_toInt _ | with_reducible exact rng_wr _ | (unfold rng; omega) | (unfold rng at *; omega) | assumption)) (by (first | omega | with_reducible assumption | with_reducible exact rng_toInt _ | with_reducible exact rng_wr _ | (unfold rng; omega) | (unfold rng at *; omega) | assumption))
                · rw [if_neg hc366]
                  have hc366q := Classical.not_not.mp hc366
                  unfold w_X9_restore_121
                  refine ⟨b_17, eb_17, fun kk_b_17_6 => ?_⟩
                  refine ⟨b_25, eb_25, fun kk_b_25_1 => ?_⟩
                  intro σ45_3 eσ45_3
                  have xσ45_3 : Ext σ39_3 σ45_3 := by rw [eσ45_3]; exact fun _ h => ⟨h, rfl, rfl⟩
                  have q396 := I_10_6 iσ39_3.1 (kk_b_17_4.up xσ39_3)
                  have iσ45_3 : IV σ45_3 pl gq ci gr nc ot LLt32 Nt32 nut32 := by rw [eσ45_3]; exact iσ39_3.wO (mb_25.up xσ39_3) (by decide) (show (0 : Int) ≤ (gI σ39_3 b_17 6) ∧ (gI σ39_3 b_17 6) ≤ 64 from ⟨by (first | omega | with_reducible assumption | with_reducible exact rng_toInt _ | with_reducible exact rng_wr _ | (unfold rng; omega) | (unfold rng at *; omega) | assumption), by (first | omega | with_reducible assumption | with_reducible exact rng_toInt _ | with_reducible exact rng_wr _ | (unfold rng; omega) | (unfold rng at *; omega) | assumption)⟩)
                  have fσ45_3 : Fx [1, 2, 3, 4, 5, 6, 7, 64, 512, 645, 646, 647, 708, 6464] gr σ σ45_3 := fσ39_3.tr (Sk.fx (by rw [eσ45_3]; exact Sk.pI (by rw [fcdO (mb_25.up xσ39_3) (by decide)]; decide)))
                  have wσ45_3 : gI σ45_3 b_25 6 = (gI σ39_3 b_17 6) := by rw [eσ45_3]; exact up2_s _ _ _ _
                  have kp397 : gI σ45_3 b_1 6 = gI σ39_3 b_1 6 := by rw [eσ45_3]; exact up2_n _ _ (fun q => absurd q.1 (kO.ne (mb_1.up (xτ32.trans xσ39_3)) (mb_25.up xσ39_3) (by decide)))
                  have kp398 : gI σ45_3 b_16 5 = gI σ39_3 b_16 5 := by rw [eσ45_3]; exact up2_n _ _ (fun q => absurd q.2 (by decide))
                  have kp399 : gI σ45_3 b_25 5 = gI σ39_3 b_25 5 := by rw [eσ45_3]; exact up2_n _ _ (fun q => absurd q.2 (by decide))
                  have kp400 : gI σ45_3 th 12 = gI σ39_3 th 12 := by rw [eσ45_3]; exact up2_n _ _ (fun q => absurd q.2 (by decide))
                  have kp401 : gP σ45_3 J 0 = gP σ39_3 J 0 := by rw [eσ45_3]
                  have kp402 : gP σ45_3 W 5 = gP σ39_3 W 5 := by rw [eσ45_3]
                  have kp403 : gP σ45_3 b v1.toNat = gP σ39_3 b v1.toNat := by rw [eσ45_3]
                  have kp404 : gP σ45_3 b_24 ((gI τ32 F v1.toNat) + v3).toNat = gP σ39_3 b_24 ((gI τ32 F v1.toNat) + v3).toNat := by rw [eσ45_3]
                  have kp405 : gP σ45_3 th 1 = gP σ39_3 th 1 := by rw [eσ45_3]
                  have kp406 : gP σ45_3 th 2 = gP σ39_3 th 2 := by rw [eσ45_3]
                  have kp407 : gP σ45_3 th 3 = gP σ39_3 th 3 := by rw [eσ45_3]
                  have kp408 : gP σ45_3 th 5 = gP σ39_3 th 5 := by rw [eσ45_3]
                  have kp409 : gP σ45_3 th 9 = gP σ39_3 th 9 := by rw [eσ45_3]
                  intro σ46_3 eσ46_3
                  have xσ46_3 : Ext σ45_3 σ46_3 := by rw [eσ46_3]; exact fun _ h => ⟨h, rfl, rfl⟩
                  have iσ46_3 : IV σ46_3 pl gq ci gr nc ot LLt32 Nt32 nut32 := by rw [eσ46_3]; exact iσ45_3.wT (mb_25.up (xσ39_3.trans xσ45_3)) (by decide) (iσ45_3.t7 (kk_b_17_4.up (xσ39_3.trans xσ45_3)))
                  have fσ46_3 : Fx [1, 2, 3, 4, 5, 6, 7, 64, 512, 645, 646, 647, 708, 6464] gr σ σ46_3 := fσ45_3.tr (Sk.fx (by rw [eσ46_3]; exact Sk.pJ (by rw [fcdO (mb_25.up (xσ39_3.trans xσ45_3)) (by decide)]; decide)))
                  have kp410 : gI σ46_3 b_1 6 = gI σ45_3 b_1 6 := by rw [eσ46_3]
                  have kp411 : gI σ46_3 b_16 5 = gI σ45_3 b_16 5 := by rw [eσ46_3]
                  have kp412 : gI σ46_3 b_25 5 = gI σ45_3 b_25 5 := by rw [eσ46_3]
                  have kp413 : gI σ46_3 b_25 6 = gI σ45_3 b_25 6 := by rw [eσ46_3]
                  have kp414 : gI σ46_3 th 12 = gI σ45_3 th 12 := by rw [eσ46_3]
                  have kp415 : gP σ46_3 J 0 = gP σ45_3 J 0 := by rw [eσ46_3]
                  have kp416 : gP σ46_3 W 5 = gP σ45_3 W 5 := by rw [eσ46_3]
                  have kp417 : gP σ46_3 b v1.toNat = gP σ45_3 b v1.toNat := by rw [eσ46_3]
                  have kp418 : gP σ46_3 b_24 ((gI τ32 F v1.toNat) + v3).toNat = gP σ45_3 b_24 ((gI τ32 F v1.toNat) + v3).toNat := by rw [eσ46_3]
                  have kp419 : gP σ46_3 th 1 = gP σ45_3 th 1 := by rw [eσ46_3]
                  have kp420 : gP σ46_3 th 2 = gP σ45_3 th 2 := by rw [eσ46_3]
                  have kp421 : gP σ46_3 th 3 = gP σ45_3 th 3 := by rw [eσ46_3]
                  have kp422 : gP σ46_3 th 5 = gP σ45_3 th 5 := by rw [eσ46_3]
                  have kp423 : gP σ46_3 th 9 = gP σ45_3 th 9 := by rw [eσ46_3]
                  unfold w_X9_restore_141
                  refine ⟨b_17, eb_17, fun kk_b_17_7 => ?_⟩
                  obtain ⟨b_28, eb_28, fb_28⟩ := P_10_2 iσ46_3.1 (kk_b_17_4.up (xσ39_3.trans (xσ45_3.trans xσ46_3)))
                  have mb_28 : kO σ46_3 b_28 1 := iσ46_3.1.kd (kk_b_17_4.up (xσ39_3.trans (xσ45_3.trans xσ46_3))) rfl eb_28 rfl
                  refine i_X9_restoreRecords iσ46_3 (kth.up (xτ32.trans (xσ39_3.trans (xσ45_3.trans xσ46_3)))) eb_28 mb_28 (kp423.trans (kp409.trans (kp364.trans (kp238.trans hj)))) (kJ.up (xτ32.trans (xσ39_3.trans (xσ45_3.trans xσ46_3)))) (by (first | omega | with_reducible assumption | with_reducible exact rng_toInt _ | with_reducible exact rng_wr _ | (unfold rng; omega) | (unfold rng at *; omega) | assumption)) (kp419.trans (kp405.trans (kp360.trans (kp236.trans hw)))) (kW.up (xτ32.trans (xσ39_3.trans (xσ45_3.trans xσ46_3)))) (kp416.trans (kp402.trans (kp357.trans (kp234.trans hWJ)))) (kp422.trans (kp408.trans (kp363.trans (kp237.trans hF)))) (kF.up (xτ32.trans (xσ39_3.trans (xσ45_3.trans xσ46_3)))) gF hP (hl1.fx iσ iσ46_3 GE.rf fσ46_3 (by omega) (by decide)) (hf1.fx kF gF fσ46_3 (by decide)) (by (first | omega | with_reducible assumption | with_reducible exact rng_toInt _ | with_reducible exact rng_wr _ | (unfold rng; omega) | (unfold rng at *; omega) | assumption)) (by (first | omega | with_reducible assumption | with_reducible exact rng_toInt _ | with_reducible exact rng_wr _ | (unfold rng; omega) | (unfold rng at *; omega) | assumption)) (by (first | omega | with_reducible assumption | with_reducible exact rng_toInt _ | with_reducible exact rng_wr _ | (unfold rng; omega) | (unfold rng at *; omega) | assumption)) (by (first | omega | with_reducible assumption | with_reducible exact rng_toInt _ | with_reducible exact rng_wr _ | (unfold rng; omega) | (unfold rng at *; omega) | assumption)) (fun hL => by have z9 := (iσ46_3.ss.2.2.2.2.2.1 b_28 mb_28 hL).2.2.2.2.2.1 (by omega); rw [show ci b_28 / 4 = v1.toNat by omega] at z9; exact z9) (by (first | omega | with_reducible assumption | with_reducible exact rng_toInt _ | with_reducible exact rng_wr _ | (unfold rng; omega) | (unfold rng at *; omega) | assumption)) (by (first | omega | with_reducible assumption | with_reducible exact rng_toInt _ | with_reducible exact rng_wr _ | (unfold rng; omega) | (unfold rng at *; omega) | assumption)) (by (first | omega | with_reducible assumption | with_reducible exact rng_toInt _ | with_reducible exact rng_wr _ | (unfold rng; omega) | (unfold rng at *; omega) | assumption)) (fun σ48_7 LLσ48_7 Nσ48_7 nuσ48_7 _ iσ48_7 cσ48_7 uσ48_7 hσ48_7 pσ48_7 => ?_) (fun σx LLx Nx nux E ix cx ux px => hX σx LLx Nx nux E ix (fσ46_3.tr (cx.mo (by decide))) (nu_τ32.x ux) (by first | exact px | exact ⟨by have := px.1; omega, px.2⟩ | (first | omega | with_reducible assumption | with_reducible exact rng_toInt _ | with_reducible exact rng_wr _ | (unfold rng; omega) | (unfold rng at *; omega) | assumption)))
                  intro xσ48_7
                  have fσ48_7 : Fx [1, 2, 3, 4, 5, 6, 7, 64, 512, 645, 646, 647, 708, 6464] gr σ σ48_7 := fσ46_3.tr (cσ48_7.mo (by decide))
                  have hnσ48_7 : Hn (gD σ) [11, 12] [] gq LL LLσ48_7 N Nσ48_7 := hnτ32.go hσ48_7 (fun d hd => (fσ46_3.1 d hd).1) (by first | decide | exact fun _ h => h | (simp; done) | (intro x hx; simp only [List.mem_cons, List.mem_nil_iff, or_false] at hx ⊢; omega)) (fun d hd => absurd hd (by simp))
                  have nσ48_7_3 := hσ48_7.2.2 3 (by first | decide | (simp; done) | (simp only [List.mem_cons, List.mem_nil_iff, or_false, not_or]; omega)) (by first | decide | omega) (by first | decide | omega) (by first | decide | omega)
                  have nσ48_7_5 := hσ48_7.2.2 5 (by first | decide | (simp; done) | (simp only [List.mem_cons, List.mem_nil_iff, or_false, not_or]; omega)) (by first | decide | omega) (by first | decide | omega) (by first | decide | omega)
                  have nσ48_7_14 := hσ48_7.2.2 14 (by first | decide | (simp; done) | (simp only [List.mem_cons, List.mem_nil_iff, or_false, not_or]; omega)) (by first | decide | omega) (by first | decide | omega) (by first | decide | omega)
                  have nσ48_7_44 := hσ48_7.2.2 44 (by first | decide | (simp; done) | (simp only [List.mem_cons, List.mem_nil_iff, or_false, not_or]; omega)) (by first | decide | omega) (by first | decide | omega) (by first | decide | omega)
                  have nσ48_7_74 := hσ48_7.2.2 74 (by first | decide | (simp; done) | (simp only [List.mem_cons, List.mem_nil_iff, or_false, not_or]; omega)) (by first | decide | omega) (by first | decide | omega) (by first | decide | omega)
                  have nσ48_7_41 := hσ48_7.2.2 41 (by first | decide | (simp; done) | (simp only [List.mem_cons, List.mem_nil_iff, or_false, not_or]; omega)) (by first | decide | omega) (by first | decide | omega) (by first | decide | omega)
                  have nσ48_7_42 := hσ48_7.2.2 42 (by first | decide | (simp; done) | (simp only [List.mem_cons, List.mem_nil_iff, or_false, not_or]; omega)) (by first | decide | omega) (by first | decide | omega) (by first | decide | omega)
                  have nσ48_7_13 := hσ48_7.2.2 13 (by first | decide | (simp; done) | (simp only [List.mem_cons, List.mem_nil_iff, or_false, not_or]; omega)) (by first | decide | omega) (by first | decide | omega) (by first | decide | omega)
                  have nσ48_7_50 := hσ48_7.2.2 50 (by first | decide | (simp; done) | (simp only [List.mem_cons, List.mem_nil_iff, or_false, not_or]; omega)) (by first | decide | omega) (by first | decide | omega) (by first | decide | omega)
                  have nu_σ48_7 : NU nu nuσ48_7 := nu_τ32.tr uσ48_7
                  have uσ48_7_0 := uσ48_7.1 0 (by decide)
                  have uσ48_7_1 := uσ48_7.1 1 (by decide)
                  have uσ48_7_2 := uσ48_7.2
                  have uσ48_7_5 := uσ48_7.1 5 (by decide)
                  have uσ48_7_15 := uσ48_7.1 15 (by decide)
                  have uσ48_7_16 := uσ48_7.1 16 (by decide)
                  have kp424 : gI σ48_7 b_1 6 = gI σ46_3 b_1 6 := (cσ48_7.O (mb_1.up (xτ32.trans (xσ39_3.trans (xσ45_3.trans xσ46_3)))) (by decide)).1
                  have kp425 : gI σ48_7 b_16 5 = gI σ46_3 b_16 5 := (cσ48_7.O (kk_b_16.up (xσ39_3.trans (xσ45_3.trans xσ46_3))) (by decide)).1
                  have kp426 : gI σ48_7 b_25 5 = gI σ46_3 b_25 5 := (cσ48_7.O (mb_25.up (xσ39_3.trans (xσ45_3.trans xσ46_3))) (by decide)).1
                  have kp427 : gI σ48_7 b_25 6 = gI σ46_3 b_25 6 := (cσ48_7.O (mb_25.up (xσ39_3.trans (xσ45_3.trans xσ46_3))) (by decide)).1
                  have kp428 : gI σ48_7 th 12 = gI σ46_3 th 12 := (cσ48_7.O (kth.up (xτ32.trans (xσ39_3.trans (xσ45_3.trans xσ46_3)))) (by decide)).1
                  have kp429 : gP σ48_7 J 0 = gP σ46_3 J 0 := (cσ48_7.O (kJ.up (xτ32.trans (xσ39_3.trans (xσ45_3.trans xσ46_3)))) (by decide)).2.1
                  have kp430 : gP σ48_7 W 5 = gP σ46_3 W 5 := (cσ48_7.O (kW.up (xτ32.trans (xσ39_3.trans (xσ45_3.trans xσ46_3)))) (by decide)).2.1
                  have kp431 : gP σ48_7 b v1.toNat = gP σ46_3 b v1.toNat := (cσ48_7.A (mb.up (xτ32.trans (xσ39_3.trans (xσ45_3.trans xσ46_3)))) (by decide)).2.1
                  have kp432 : gP σ48_7 b_17 2 = gP σ46_3 b_17 2 := (cσ48_7.O (kk_b_17_4.up (xσ39_3.trans (xσ45_3.trans xσ46_3))) (by decide)).2.1
                  have kp433 : gP σ48_7 b_24 ((gI τ32 F v1.toNat) + v3).toNat = gP σ46_3 b_24 ((gI τ32 F v1.toNat) + v3).toNat := (cσ48_7.A (mb_24.up (xσ39_3.trans (xσ45_3.trans xσ46_3))) (by decide)).2.1
                  have kp434 : gP σ48_7 th 1 = gP σ46_3 th 1 := (cσ48_7.O (kth.up (xτ32.trans (xσ39_3.trans (xσ45_3.trans xσ46_3)))) (by decide)).2.1
                  have kp435 : gP σ48_7 th 2 = gP σ46_3 th 2 := (cσ48_7.O (kth.up (xτ32.trans (xσ39_3.trans (xσ45_3.trans xσ46_3)))) (by decide)).2.1
                  have kp436 : gP σ48_7 th 3 = gP σ46_3 th 3 := (cσ48_7.O (kth.up (xτ32.trans (xσ39_3.trans (xσ45_3.trans xσ46_3)))) (by decide)).2.1
                  have kp437 : gP σ48_7 th 5 = gP σ46_3 th 5 := (cσ48_7.O (kth.up (xτ32.trans (xσ39_3.trans (xσ45_3.trans xσ46_3)))) (by decide)).2.1
                  have kp438 : gP σ48_7 th 9 = gP σ46_3 th 9 := (cσ48_7.O (kth.up (xτ32.trans (xσ39_3.trans (xσ45_3.trans xσ46_3)))) (by decide)).2.1
                  obtain ⟨b_29, eb_29, fb_29⟩ := P_10_3 iσ48_7.1 (kk_b_17_4.up (xσ39_3.trans (xσ45_3.trans (xσ46_3.trans xσ48_7))))
                  have mb_29 : kO σ48_7 b_29 1 := iσ48_7.1.kd (kk_b_17_4.up (xσ39_3.trans (xσ45_3.trans (xσ46_3.trans xσ48_7)))) rfl eb_29 rfl
                  refine i_X9_restoreRecords iσ48_7 (kth.up (xτ32.trans (xσ39_3.trans (xσ45_3.trans (xσ46_3.trans xσ48_7))))) eb_29 mb_29 (kp438.trans (kp423.trans (kp409.trans (kp364.trans (kp238.trans hj))))) (kJ.up (xτ32.trans (xσ39_3.trans (xσ45_3.trans (xσ46_3.trans xσ48_7))))) (by (first | omega | with_reducible assumption | with_reducible exact rng_toInt _ | with_reducible exact rng_wr _ | (unfold rng; omega) | (unfold rng at *; omega) | assumption)) (kp434.trans (kp419.trans (kp405.trans (kp360.trans (kp236.trans hw))))) (kW.up (xτ32.trans (xσ39_3.trans (xσ45_3.trans (xσ46_3.trans xσ48_7))))) (kp430.trans (kp416.trans (kp402.trans (kp357.trans (kp234.trans hWJ))))) (kp437.trans (kp422.trans (kp408.trans (kp363.trans (kp237.trans hF))))) (kF.up (xτ32.trans (xσ39_3.trans (xσ45_3.trans (xσ46_3.trans xσ48_7))))) gF hP (hl1.fx iσ iσ48_7 GE.rf fσ48_7 (by omega) (by decide)) (hf1.fx kF gF fσ48_7 (by decide)) (by (first | omega | with_reducible assumption | with_reducible exact rng_toInt _ | with_reducible exact rng_wr _ | (unfold rng; omega) | (unfold rng at *; omega) | assumption)) (by (first | omega | with_reducible assumption | with_reducible exact rng_toInt _ | with_reducible exact rng_wr _ | (unfold rng; omega) | (unfold rng at *; omega) | assumption)) (by (first | omega | with_reducible assumption | with_reducible exact rng_toInt _ | with_reducible exact rng_wr _ | (unfold rng; omega) | (unfold rng at *; omega) | assumption)) (by (first | omega | with_reducible assumption | with_reducible exact rng_toInt _ | with_reducible exact rng_wr _ | (unfold rng; omega) | (unfold rng at *; omega) | assumption)) (fun hL => by have z9 := (iσ48_7.ss.2.2.2.2.2.1 b_29 mb_29 hL).2.2.2.2.2.1 (by omega); rw [show ci b_29 / 4 = v1.toNat by omega] at z9; exact z9) (by (first | omega | with_reducible assumption | with_reducible exact rng_toInt _ | with_reducible exact rng_wr _ | (unfold rng; omega) | (unfold rng at *; omega) | assumption)) (by (first | omega | with_reducible assumption | with_reducible exact rng_toInt _ | with_reducible exact rng_wr _ | (unfold rng; omega) | (unfold rng at *; omega) | assumption)) (by (first | omega | with_reducible assumption | with_reducible exact rng_toInt _ | with_reducible exact rng_wr _ | (unfold rng; omega) | (unfold rng at *; omega) | assumption)) (fun σ49_7 LLσ49_7 Nσ49_7 nuσ49_7 _ iσ49_7 cσ49_7 uσ49_7 hσ49_7 pσ49_7 => ?_) (fun σx LLx Nx nux E ix cx ux px => hX σx LLx Nx nux E ix (fσ48_7.tr (cx.mo (by decide))) (nu_σ48_7.x ux) (by first | exact px | exact ⟨by have := px.1; omega, px.2⟩ | (first | omega | with_reducible assumption | with_reducible exact rng_toInt _ | with_reducible exact rng_wr _ | (unfold rng; omega) | (unfold rng at *; omega) | assumption)))
                  intro xσ49_7
                  have fσ49_7 : Fx [1, 2, 3, 4, 5, 6, 7, 64, 512, 645, 646, 647, 708, 6464] gr σ σ49_7 := fσ48_7.tr (cσ49_7.mo (by decide))
                  have hnσ49_7 : Hn (gD σ) [11, 12] [] gq LL LLσ49_7 N Nσ49_7 := hnσ48_7.go hσ49_7 (fun d hd => (fσ48_7.1 d hd).1) (by first | decide | exact fun _ h => h | (simp; done) | (intro x hx; simp only [List.mem_cons, List.mem_nil_iff, or_false] at hx ⊢; omega)) (fun d hd => absurd hd (by simp))
                  have nσ49_7_3 := hσ49_7.2.2 3 (by first | decide | (simp; done) | (simp only [List.mem_cons, List.mem_nil_iff, or_false, not_or]; omega)) (by first | decide | omega) (by first | decide | omega) (by first | decide | omega)
                  have nσ49_7_5 := hσ49_7.2.2 5 (by first | decide | (simp; done) | (simp only [List.mem_cons, List.mem_nil_iff, or_false, not_or]; omega)) (by first | decide | omega) (by first | decide | omega) (by first | decide | omega)
                  have nσ49_7_14 := hσ49_7.2.2 14 (by first | decide | (simp; done) | (simp only [List.mem_cons, List.mem_nil_iff, or_false, not_or]; omega)) (by first | decide | omega) (by first | decide | omega) (by first | decide | omega)
                  have nσ49_7_44 := hσ49_7.2.2 44 (by first | decide | (simp; done) | (simp only [List.mem_cons, List.mem_nil_iff, or_false, not_or]; omega)) (by first | decide | omega) (by first | decide | omega) (by first | decide | omega)
                  have nσ49_7_74 := hσ49_7.2.2 74 (by first | decide | (simp; done) | (simp only [List.mem_cons, List.mem_nil_iff, or_false, not_or]; omega)) (by first | decide | omega) (by first | decide | omega) (by first | decide | omega)
                  have nσ49_7_41 := hσ49_7.2.2 41 (by first | decide | (simp; done) | (simp only [List.mem_cons, List.mem_nil_iff, or_false, not_or]; omega)) (by first | decide | omega) (by first | decide | omega) (by first | decide | omega)
                  have nσ49_7_42 := hσ49_7.2.2 42 (by first | decide | (simp; done) | (simp only [List.mem_cons, List.mem_nil_iff, or_false, not_or]; omega)) (by first | decide | omega) (by first | decide | omega) (by first | decide | omega)
                  have nσ49_7_13 := hσ49_7.2.2 13 (by first | decide | (simp; done) | (simp only [List.mem_cons, List.mem_nil_iff, or_false, not_or]; omega)) (by first | decide | omega) (by first | decide | omega) (by first | decide | omega)
                  have nσ49_7_50 := hσ49_7.2.2 50 (by first | decide | (simp; done) | (simp only [List.mem_cons, List.mem_nil_iff, or_false, not_or]; omega)) (by first | decide | omega) (by first | decide | omega) (by first | decide | omega)
                  have nu_σ49_7 : NU nu nuσ49_7 := nu_σ48_7.tr uσ49_7
                  have uσ49_7_0 := uσ49_7.1 0 (by decide)
                  have uσ49_7_1 := uσ49_7.1 1 (by decide)
                  have uσ49_7_2 := uσ49_7.2
                  have uσ49_7_5 := uσ49_7.1 5 (by decide)
                  have uσ49_7_15 := uσ49_7.1 15 (by decide)
                  have uσ49_7_16 := uσ49_7.1 16 (by decide)
                  have kp439 : gI σ49_7 b_1 6 = gI σ48_7 b_1 6 := (cσ49_7.O (mb_1.up (xτ32.trans (xσ39_3.trans (xσ45_3.trans (xσ46_3.trans xσ48_7))))) (by decide)).1
                  have kp440 : gI σ49_7 b_16 5 = gI σ48_7 b_16 5 := (cσ49_7.O (kk_b_16.up (xσ39_3.trans (xσ45_3.trans (xσ46_3.trans xσ48_7)))) (by decide)).1
                  have kp441 : gI σ49_7 b_25 5 = gI σ48_7 b_25 5 := (cσ49_7.O (mb_25.up (xσ39_3.trans (xσ45_3.trans (xσ46_3.trans xσ48_7)))) (by decide)).1
                  have kp442 : gI σ49_7 b_25 6 = gI σ48_7 b_25 6 := (cσ49_7.O (mb_25.up (xσ39_3.trans (xσ45_3.trans (xσ46_3.trans xσ48_7)))) (by decide)).1
                  have kp443 : gI σ49_7 th 12 = gI σ48_7 th 12 := (cσ49_7.O (kth.up (xτ32.trans (xσ39_3.trans (xσ45_3.trans (xσ46_3.trans xσ48_7))))) (by decide)).1
                  have kp444 : gP σ49_7 J 0 = gP σ48_7 J 0 := (cσ49_7.O (kJ.up (xτ32.trans (xσ39_3.trans (xσ45_3.trans (xσ46_3.trans xσ48_7))))) (by decide)).2.1
                  have kp445 : gP σ49_7 W 5 = gP σ48_7 W 5 := (cσ49_7.O (kW.up (xτ32.trans (xσ39_3.trans (xσ45_3.trans (xσ46_3.trans xσ48_7))))) (by decide)).2.1
                  have kp446 : gP σ49_7 b v1.toNat = gP σ48_7 b v1.toNat := (cσ49_7.A (mb.up (xτ32.trans (xσ39_3.trans (xσ45_3.trans (xσ46_3.trans xσ48_7))))) (by decide)).2.1
                  have kp447 : gP σ49_7 b_17 2 = gP σ48_7 b_17 2 := (cσ49_7.O (kk_b_17_4.up (xσ39_3.trans (xσ45_3.trans (xσ46_3.trans xσ48_7)))) (by decide)).2.1
                  have kp448 : gP σ49_7 b_17 3 = gP σ48_7 b_17 3 := (cσ49_7.O (kk_b_17_4.up (xσ39_3.trans (xσ45_3.trans (xσ46_3.trans xσ48_7)))) (by decide)).2.1
                  have kp449 : gP σ49_7 b_24 ((gI τ32 F v1.toNat) + v3).toNat = gP σ48_7 b_24 ((gI τ32 F v1.toNat) + v3).toNat := (cσ49_7.A (mb_24.up (xσ39_3.trans (xσ45_3.trans (xσ46_3.trans xσ48_7)))) (by decide)).2.1
                  have kp450 : gP σ49_7 th 1 = gP σ48_7 th 1 := (cσ49_7.O (kth.up (xτ32.trans (xσ39_3.trans (xσ45_3.trans (xσ46_3.trans xσ48_7))))) (by decide)).2.1
                  have kp451 : gP σ49_7 th 2 = gP σ48_7 th 2 := (cσ49_7.O (kth.up (xτ32.trans (xσ39_3.trans (xσ45_3.trans (xσ46_3.trans xσ48_7))))) (by decide)).2.1
                  have kp452 : gP σ49_7 th 3 = gP σ48_7 th 3 := (cσ49_7.O (kth.up (xτ32.trans (xσ39_3.trans (xσ45_3.trans (xσ46_3.trans xσ48_7))))) (by decide)).2.1
                  have kp453 : gP σ49_7 th 5 = gP σ48_7 th 5 := (cσ49_7.O (kth.up (xτ32.trans (xσ39_3.trans (xσ45_3.trans (xσ46_3.trans xσ48_7))))) (by decide)).2.1
                  have kp454 : gP σ49_7 th 9 = gP σ48_7 th 9 := (cσ49_7.O (kth.up (xτ32.trans (xσ39_3.trans (xσ45_3.trans (xσ46_3.trans xσ48_7))))) (by decide)).2.1
                  unfold w_X9_restore_163
                  refine ⟨by (first | omega | with_reducible assumption | with_reducible exact rng_toInt _ | with_reducible exact rng_wr _ | (unfold rng; omega) | (unfold rng at *; omega) | assumption), ?_⟩
                  exact ih32 σ49_7 LLσ49_7 Nσ49_7 nuσ49_7 (v3 + 1) iσ49_7 fσ49_7 (xτ32.trans (xσ39_3.trans (xσ45_3.trans (xσ46_3.trans (xσ48_7.trans xσ49_7))))) nu_σ49_7 hnσ49_7 (by (first | omega | with_reducible assumption | with_reducible exact rng_toInt _ | with_reducible exact rng_wr _ | (unfold rng; omega) | (unfold rng at *; omega) | assumption)) (by (first | omega | with_reducible assumption | with_reducible exact rng_toInt _ | with_reducible exact rng_wr _ | (unfold rng; omega) | (unfold rng at *; omega) | assumption))
    exact ⟨_, Lp32 _ σ LL N nu _ iσ fσ (Ext.rfl' _) NU.rf hnσ (by (first | omega | with_reducible assumption | with_reducible exact rng_toInt _ | with_reducible exact rng_wr _ | (unfold rng; omega) | (unfold rng at *; omega) | assumption)) (Nat.lt_succ_self _)⟩

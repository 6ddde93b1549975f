set_option maxHeartbeats 1000000 in
theorem i2_X3_partOfLatest {σ : Sg} {pl : Nat} {gq ci gr nc : Nat → Nat} {ot : Nat → Nat → Int} {LL : Nat → List Nat} {N nu : Nat → Nat} {th : Nat} {v1 : Int} {v2 : Int} (iσ : IV σ pl gq ci gr nc ot LL N nu) (kth : kO σ th 3) (h1 : 0 ≤ v1 ∧ v1 ≤ 15) (h2 : 0 ≤ v2 ∧ v2 ≤ 3) {Q : Sg → Option Nat → Prop} {X : Sg → String → Prop} (hQ : ∀ (r : Option Nat), (∀ t9, r = some t9 → kO σ t9 10 ∧ (∃ s9, gP σ th 1 = some s9 ∧ gq t9 = gq s9) ∧ (ci t9 : Int) = v1 * 4 + v2) → Q σ r) : wp_X3_partOfLatest th v1 v2 σ Q X := by
  unfold wp_X3_partOfLatest
  unfold w_X3_partOfLatest_0
  have q2 := iσ.rg th 4; unfold rng at q2
  by_cases hc1 : gI σ th 4 ≠ 0
  · rw [if_pos hc1]
    unfold w_X3_partOfLatest_11
    refine ⟨by (first | omega | with_reducible assumption | with_reducible exact rng_toInt _ | with_reducible exact rng_wr _ | (unfold rng; omega) | (unfold rng at *; omega) | assumption), ?_⟩
    refine ⟨by (first | omega | with_reducible assumption | with_reducible exact rng_toInt _ | with_reducible exact rng_wr _ | (unfold rng; omega) | (unfold rng at *; omega) | assumption), ?_⟩
    obtain ⟨b, eb, fb⟩ := P_3_1 iσ.1 kth
    have mb : kO σ b 120 := iσ.1.kd kth rfl eb rfl
    refine ⟨b, eb, fun kk_b => ?_⟩
    refine ⟨⟨by (first | omega | with_reducible assumption | with_reducible exact rng_toInt _ | with_reducible exact rng_wr _ | (unfold rng; omega) | (unfold rng at *; omega) | assumption), by (first | omega | with_reducible assumption | with_reducible exact rng_toInt _ | with_reducible exact rng_wr _ | (unfold rng; omega) | (unfold rng at *; omega) | assumption)⟩, ?_⟩
    unfold w_X3_partOfLatest_21
    exact hQ (gP σ b ((v1 * 4) + v2).toNat) (by first | (intro t9 q9; exact ⟨iσ.1.kd mb rfl q9 rfl, ⟨b, eb, (T_120 iσ.1 mb q9).1⟩, by have := (T_120 iσ.1 mb q9).2; omega⟩) | exact fun _ q => nomatch q)
  · rw [if_neg hc1]
    have hc1q := Classical.not_not.mp hc1
    unfold w_X3_partOfLatest_7
    unfold w_X3_partOfLatest_21
    exact hQ none (by first | (intro t9 q9; exact ⟨iσ.1.kd mb rfl q9 rfl, ⟨b, eb, (T_120 iσ.1 mb q9).1⟩, by have := (T_120 iσ.1 mb q9).2; omega⟩) | exact fun _ q => nomatch q)
set_option maxHeartbeats 1000000 in
theorem i_X9_restoreRecords {σ : Sg} {pl : Nat} {gq ci gr nc : Nat → Nat} {ot : Nat → Nat → Int} {LL : Nat → List Nat} {N nu : Nat → Nat} {th : Nat} {v1 : Int} {v2 : Option Nat} {v3 : Int} {J W F P : Nat} (iσ : IV σ pl gq ci gr nc ot LL N nu) (kth : kO σ th 9) {x : Nat} (hv2 : v2 = some x) (kx : kO σ x 1) (hj : gP σ th 9 = some J) (kJ : kO σ J 4) (hJ : gq J = nc 0) (hw : gP σ th 1 = some W) (kW : kO σ W 11) (hWJ : gP σ W 5 = some J) (hF : gP σ th 5 = some F) (kF : kO σ F 100) (gF : gr F = 3) (hP : 1 ≤ P ∧ P ≤ 4) (hl1 : LT1 σ gq ci nu ot P) (hf1 : FT1 σ F ot P (nc 1 + 1)) (h15 : nu 15 = bsO ot P (nc 1)) (h12 : gI σ th 12 = (P : Int)) (h1 : 0 ≤ v1 ∧ v1 < (nc 1 : Int)) (hx : gq x = 21 ∨ gq x = 22 ∨ gq x = 31 ∨ gq x = 32) (hR : LL x ≠ [] → 0 ≤ ot v1.toNat 7) (h3 : v3 = 0 ∨ v3 = 1) (h5 : nu 5 < 24000) (hb : N 14 + N 44 + N 74 + N 1 ≤ 30000) {Q : Sg → Unit → Prop} {X : Sg → String → Prop} (hQ : ∀ (σ' : Sg) (LL' : Nat → List Nat) (N' nu' : Nat → Nat) (r : Unit), IV σ' pl gq ci gr nc ot LL' N' nu' → Fx [1, 2, 3, 4, 5, 6, 7, 64, 512, 708, 6464] gr σ σ' → NU nu nu' → Hn (gD σ) [11, 12] [] gq LL LL' N N' → (N' 1 = N 1) → Q σ' r) (hX : ∀ (σ' : Sg) (LL' : Nat → List Nat) (N' nu' : Nat → Nat) (E : String), IV σ' pl gq ci gr nc ot LL' N' nu' → Fx [1, 2, 3, 4, 5, 6, 7, 64, 512, 708, 6464] gr σ σ' → NX nu nu' → ((N' 1 ≤ N 1 + 1 ∧ N' 5 = N 5 ∧ N' 3 = N 3 ∧ N' 14 = N 14 ∧ N' 44 = N 44 ∧ N' 74 = N 74) ∧ NZ N N' ∧ E = "java/lang/IllegalStateException") → X σ' E) : wp_X9_restoreRecords th v1 v2 v3 σ Q X := by
  have fσ : Fx [1, 2, 3, 4, 5, 6, 7, 64, 512, 708, 6464] gr σ σ := Fx.rf
  have hnσ : Hn (gD σ) [11, 12] [] gq LL LL N N := Hn.rf
  have q1 := I_9_12 iσ.1 kth
  have n16 := iσ.n16
  have ncb := iσ.ncb
  have fW := T_9_1 iσ.1 kth hw
  have b0 := hf1 v1.toNat (by omega)
  have bu := bsO_up (ot := ot) hP v1.toNat
  have bm := bsO_mono (ot := ot) hP (i := v1.toNat + 1) (j := nc 1) (by omega)
  have bl := bsO_le (ot := ot) hP (nc 1)
  have gF8 := (T_9_5 iσ.1 kth hF).1
  unfold wp_X9_restoreRecords
  unfold w_X9_restoreRecords_0
  refine ⟨J, hj, fun kk_J => ?_⟩
  obtain ⟨b, eb, fb⟩ := P_4_0 iσ.1 kJ
  have mb : kO σ b 115 := iσ.1.kd kJ rfl eb rfl
  refine ⟨b, eb, fun kk_b => ?_⟩
  refine ⟨⟨by (first | omega | with_reducible assumption | with_reducible exact rng_toInt _ | with_reducible exact rng_wr _ | (unfold rng; omega) | (unfold rng at *; omega) | assumption), by (first | omega | with_reducible assumption | with_reducible exact rng_toInt _ | with_reducible exact rng_wr _ | (unfold rng; omega) | (unfold rng at *; omega) | assumption)⟩, ?_⟩
  refine ⟨x, hv2, fun kk_x => ?_⟩
  obtain ⟨b_1, eb_1⟩ := P_115 iσ.1 mb (k := v1.toNat) (by (first | omega | with_reducible assumption | with_reducible exact rng_toInt _ | with_reducible exact rng_wr _ | (unfold rng; omega) | (unfold rng at *; omega) | assumption))
  have fb_1 := T_115 iσ.1 mb eb_1
  have mb_1 : kO σ b_1 5 := iσ.1.kd mb rfl eb_1 rfl
  have Lp17 : ∀ (fu17 : Nat) (τ17 : Sg) (LLt17 : Nat → List Nat) (Nt17 nut17 : Nat → Nat) (v5 : Option Nat), IV τ17 pl gq ci gr nc ot LLt17 Nt17 nut17 → Fx [1, 2, 3, 4, 5, 6, 7, 64, 512, 708, 6464] gr σ τ17 → Ext σ τ17 → NU nu nut17 → Hn (gD σ) [11, 12] [] gq LL LLt17 N Nt17 → (∃ (A B : List Nat), ((LLt17 x = A ++ B ∧ v5 = B.head?) ∧ Nt17 1 = N 1 ∧ (v5 ≠ none → LL x ≠ [])) ∧ (B.length) < fu17) → wl_X9_restoreRecords_17 th Q X fu17 τ17 v1 v3 (gP σ b v1.toNat) v5 := by
    intro fu17
    induction fu17 with
    | zero => intro _ _ _ _ _ _ _ _ _ _ h9; obtain ⟨_, _, _, h9⟩ := h9; omega
    | succ fu17 ih17 =>
      intro τ17 LLt17 Nt17 nut17 v5 iτ17 fτ17 xτ17 nu_τ17 hnτ17 hi17
      obtain ⟨A, B, hi17, hm17⟩ := hi17
      have nτ17_3 := hnτ17.2.2 3 (by first | decide | (simp; done) | (simp only [List.mem_cons, List.mem_nil_iff, or_false, not_or]; omega)) (by first | decide | omega) (by first | decide | omega) (by first | decide | omega)
      have nτ17_5 := hnτ17.2.2 5 (by first | decide | (simp; done) | (simp only [List.mem_cons, List.mem_nil_iff, or_false, not_or]; omega)) (by first | decide | omega) (by first | decide | omega) (by first | decide | omega)
      have nτ17_14 := hnτ17.2.2 14 (by first | decide | (simp; done) | (simp only [List.mem_cons, List.mem_nil_iff, or_false, not_or]; omega)) (by first | decide | omega) (by first | decide | omega) (by first | decide | omega)
      have nτ17_44 := hnτ17.2.2 44 (by first | decide | (simp; done) | (simp only [List.mem_cons, List.mem_nil_iff, or_false, not_or]; omega)) (by first | decide | omega) (by first | decide | omega) (by first | decide | omega)
      have nτ17_74 := hnτ17.2.2 74 (by first | decide | (simp; done) | (simp only [List.mem_cons, List.mem_nil_iff, or_false, not_or]; omega)) (by first | decide | omega) (by first | decide | omega) (by first | decide | omega)
      have nτ17_41 := hnτ17.2.2 41 (by first | decide | (simp; done) | (simp only [List.mem_cons, List.mem_nil_iff, or_false, not_or]; omega)) (by first | decide | omega) (by first | decide | omega) (by first | decide | omega)
      have nτ17_42 := hnτ17.2.2 42 (by first | decide | (simp; done) | (simp only [List.mem_cons, List.mem_nil_iff, or_false, not_or]; omega)) (by first | decide | omega) (by first | decide | omega) (by first | decide | omega)
      have nτ17_13 := hnτ17.2.2 13 (by first | decide | (simp; done) | (simp only [List.mem_cons, List.mem_nil_iff, or_false, not_or]; omega)) (by first | decide | omega) (by first | decide | omega) (by first | decide | omega)
      have nτ17_50 := hnτ17.2.2 50 (by first | decide | (simp; done) | (simp only [List.mem_cons, List.mem_nil_iff, or_false, not_or]; omega)) (by first | decide | omega) (by first | decide | omega) (by first | decide | omega)
      have uτ17_0 := nu_τ17.1 0 (by decide)
      have uτ17_1 := nu_τ17.1 1 (by decide)
      have uτ17_2 := nu_τ17.2
      have uτ17_5 := nu_τ17.1 5 (by decide)
      have uτ17_15 := nu_τ17.1 15 (by decide)
      have uτ17_16 := nu_τ17.1 16 (by decide)
      unfold wl_X9_restoreRecords_17
      have kp2 : gI τ17 th 12 = gI σ th 12 := (fτ17.O kth (by decide)).1
      have kp3 : gP τ17 J 0 = gP σ J 0 := (fτ17.O kJ (by decide)).2.1
      have kp4 : gP τ17 W 5 = gP σ W 5 := (fτ17.O kW (by decide)).2.1
      have kp5 : gP τ17 b v1.toNat = gP σ b v1.toNat := (fτ17.A mb (by decide)).2.1
      have kp6 : gP τ17 th 1 = gP σ th 1 := (fτ17.O kth (by decide)).2.1
      have kp7 : gP τ17 th 5 = gP σ th 5 := (fτ17.O kth (by decide)).2.1
      have kp8 : gP τ17 th 9 = gP σ th 9 := (fτ17.O kth (by decide)).2.1
      have lt17 := hl1.fx iσ iτ17 GE.rf fτ17 (by omega) (by decide)
      have ft17 := hf1.fx kF gF fτ17 (by decide)
      have b17 := ft17 v1.toNat (by omega)
      have n17 := iτ17.n16
      unfold w_X9_restoreRecords_17
      by_cases hc9 : v5 = none
      · rw [if_pos hc9]
        unfold w_X9_restoreRecords_94
        exact hQ τ17 LLt17 Nt17 nut17 () iτ17 fτ17 (nu_τ17) hnτ17 (by (first | omega | with_reducible assumption | with_reducible exact rng_toInt _ | with_reducible exact rng_wr _ | (unfold rng; omega) | (unfold rng at *; omega) | assumption))
      · rw [if_neg hc9]
        unfold w_X9_restoreRecords_22
        have o6 := iτ17.op (mb_1.up xτ17) (i := v1.toNat) (by omega) (by omega) 6 (by decide)
        refine ⟨b_1, eb_1, fun kk_b_1 => ?_⟩
        have q10 := I_5_6 iτ17.1 (mb_1.up xτ17)
        refine i_X12_isKeyed iτ17 (fun r23 pσ22 => ?_)
        intro xσ22
        by_cases hc11 : r23 = 0
        · rw [if_pos hc11]
          unfold w_X9_restoreRecords_48
          unfold w_X9_restoreRecords_49
          refine ⟨F, (kp7.trans hF), fun kk_F => ?_⟩
          have q12 := (xτ17 F kF.1).2.2
          refine ⟨⟨by (first | omega | with_reducible assumption | with_reducible exact rng_toInt _ | with_reducible exact rng_wr _ | (unfold rng; omega) | (unfold rng at *; omega) | assumption), by (first | omega | with_reducible assumption | with_reducible exact rng_toInt _ | with_reducible exact rng_wr _ | (unfold rng; omega) | (unfold rng at *; omega) | assumption)⟩, ?_⟩
          have q13 := iτ17.rg F v1.toNat; unfold rng at q13
          refine ⟨by (first | omega | with_reducible assumption | with_reducible exact rng_toInt _ | with_reducible exact rng_wr _ | (unfold rng; omega) | (unfold rng at *; omega) | assumption), ?_⟩
          obtain ⟨b_2, eb_2, fb_2⟩ := P_9_3 iτ17.1 (kth.up xτ17)
          have mb_2 : kO τ17 b_2 120 := iτ17.1.kd (kth.up xτ17) rfl eb_2 rfl
          refine ⟨b_2, eb_2, fun kk_b_2 => ?_⟩
          refine ⟨⟨by (first | omega | with_reducible assumption | with_reducible exact rng_toInt _ | with_reducible exact rng_wr _ | (unfold rng; omega) | (unfold rng at *; omega) | assumption), by (first | omega | with_reducible assumption | with_reducible exact rng_toInt _ | with_reducible exact rng_wr _ | (unfold rng; omega) | (unfold rng at *; omega) | assumption)⟩, ?_⟩
          obtain ⟨b_3, eb_3⟩ := P_9_0 iτ17.1 (kth.up xτ17)
          refine ⟨b_3, eb_3, fun kk_b_3 => ?_⟩
          obtain ⟨b_4, eb_4⟩ := Option.ne_none_iff_exists'.mp hc9
          have knb_4 : kO τ17 b_4 0 := iτ17.cell (it_mem hi17.1 eb_4)
          refine i_X8_copyOf iτ17 kk_b_3 eb_4 knb_4 (by (first | omega | with_reducible assumption | with_reducible exact rng_toInt _ | with_reducible exact rng_wr _ | (unfold rng; omega) | (unfold rng at *; omega) | assumption)) (fun σ29 LLσ29 Nσ29 nuσ29 c_σ29 iσ29 cσ29 uσ29 hσ29 pσ29 => ?_)
          intro xσ29
          have fσ29 : Fx [1, 2, 3, 4, 5, 6, 7, 64, 512, 708, 6464] gr σ σ29 := fτ17.tr (cσ29.mo (by decide))
          have hnσ29 : Hn (gD σ) [11, 12] [] gq LL LLσ29 N Nσ29 := hnτ17.go hσ29 (fun d hd => (fτ17.1 d hd).1) (by first | decide | exact fun _ h => h | (simp; done) | (intro x hx; simp only [List.mem_cons, List.mem_nil_iff, or_false] at hx ⊢; omega)) (fun d hd => absurd hd (by simp))
          have hf_c_σ29 : ∀ x, c_σ29 ∉ LLσ29 x := pσ29.1
          have lo_c_σ29 : Lo [] (gD σ) LL c_σ29 := hnτ17.loc (fun d hd => (fτ17.1 d hd).1) pσ29.2.2.1
          have nσ29_3 := hσ29.2.2 3 (by first | decide | (simp; done) | (simp only [List.mem_cons, List.mem_nil_iff, or_false, not_or]; omega)) (by first | decide | omega) (by first | decide | omega) (by first | decide | omega)
          have nσ29_5 := hσ29.2.2 5 (by first | decide | (simp; done) | (simp only [List.mem_cons, List.mem_nil_iff, or_false, not_or]; omega)) (by first | decide | omega) (by first | decide | omega) (by first | decide | omega)
          have nσ29_14 := hσ29.2.2 14 (by first | decide | (simp; done) | (simp only [List.mem_cons, List.mem_nil_iff, or_false, not_or]; omega)) (by first | decide | omega) (by first | decide | omega) (by first | decide | omega)
          have nσ29_44 := hσ29.2.2 44 (by first | decide | (simp; done) | (simp only [List.mem_cons, List.mem_nil_iff, or_false, not_or]; omega)) (by first | decide | omega) (by first | decide | omega) (by first | decide | omega)
          have nσ29_74 := hσ29.2.2 74 (by first | decide | (simp; done) | (simp only [List.mem_cons, List.mem_nil_iff, or_false, not_or]; omega)) (by first | decide | omega) (by first | decide | omega) (by first | decide | omega)
          have nσ29_11 := hσ29.2.2 11 (by first | decide | (simp; done) | (simp only [List.mem_cons, List.mem_nil_iff, or_false, not_or]; omega)) (by first | decide | omega) (by first | decide | omega) (by first | decide | omega)
          have nσ29_12 := hσ29.2.2 12 (by first | decide | (simp; done) | (simp only [List.mem_cons, List.mem_nil_iff, or_false, not_or]; omega)) (by first | decide | omega) (by first | decide | omega) (by first | decide | omega)
          have nσ29_41 := hσ29.2.2 41 (by first | decide | (simp; done) | (simp only [List.mem_cons, List.mem_nil_iff, or_false, not_or]; omega)) (by first | decide | omega) (by first | decide | omega) (by first | decide | omega)
          have nσ29_42 := hσ29.2.2 42 (by first | decide | (simp; done) | (simp only [List.mem_cons, List.mem_nil_iff, or_false, not_or]; omega)) (by first | decide | omega) (by first | decide | omega) (by first | decide | omega)
          have nσ29_13 := hσ29.2.2 13 (by first | decide | (simp; done) | (simp only [List.mem_cons, List.mem_nil_iff, or_false, not_or]; omega)) (by first | decide | omega) (by first | decide | omega) (by first | decide | omega)
          have nσ29_50 := hσ29.2.2 50 (by first | decide | (simp; done) | (simp only [List.mem_cons, List.mem_nil_iff, or_false, not_or]; omega)) (by first | decide | omega) (by first | decide | omega) (by first | decide | omega)
          have nu_σ29 : NU nu nuσ29 := nu_τ17.tr uσ29
          have uσ29_0 := uσ29.1 0 (by decide)
          have uσ29_1 := uσ29.1 1 (by decide)
          have uσ29_2 := uσ29.2
          have uσ29_5 := uσ29.1 5 (by decide)
          have uσ29_15 := uσ29.1 15 (by decide)
          have uσ29_16 := uσ29.1 16 (by decide)
          have kp14 : gI σ29 b_1 6 = gI τ17 b_1 6 := (cσ29.O (mb_1.up xτ17) (by decide)).1
          have kp15 : gI σ29 th 12 = gI τ17 th 12 := (cσ29.O (kth.up xτ17) (by decide)).1
          have kp16 : gP σ29 J 0 = gP τ17 J 0 := (cσ29.O (kJ.up xτ17) (by decide)).2.1
          have kp17 : gP σ29 W 5 = gP τ17 W 5 := (cσ29.O (kW.up xτ17) (by decide)).2.1
          have kp18 : gP σ29 b v1.toNat = gP τ17 b v1.toNat := (cσ29.A (mb.up xτ17) (by decide)).2.1
          have kp19 : gP σ29 th 0 = gP τ17 th 0 := (cσ29.O (kth.up xτ17) (by decide)).2.1
          have kp20 : gP σ29 th 1 = gP τ17 th 1 := (cσ29.O (kth.up xτ17) (by decide)).2.1
          have kp21 : gP σ29 th 3 = gP τ17 th 3 := (cσ29.O (kth.up xτ17) (by decide)).2.1
          have kp22 : gP σ29 th 5 = gP τ17 th 5 := (cσ29.O (kth.up xτ17) (by decide)).2.1
          have kp23 : gP σ29 th 9 = gP τ17 th 9 := (cσ29.O (kth.up xτ17) (by decide)).2.1
          have hLa := hσ29.1 x (kx.up xτ17).1 (by simp) (by omega)
          intro tyt
          have krc_σ29 : kO σ29 c_σ29 0 := tyt c_σ29 rfl
          refine ⟨W, (kp6.trans hw), fun kk_W => ?_⟩
          have n16b_5 := iτ17.n16
          obtain ⟨b_5, eb_5, mb_5, fb_5⟩ := P_120 iτ17 mb_2 (by omega) (k := ((gI τ17 F v1.toNat) + 0).toNat) (by (first | omega | with_reducible assumption | with_reducible exact rng_toInt _ | with_reducible exact rng_wr _ | (unfold rng; omega) | (unfold rng at *; omega) | assumption))
          have lt9 := (lt17 b_5 mb_5 (by omega) (by omega)).2 v1.toNat (by omega) (by omega)
          have lt8 : gI σ29 b_5 0 = _ := (cσ29.O mb_5 (by decide)).1.trans lt9
          have h7 := hR (hi17.2.2 (by rw [eb_4]; simp))
          refine i1_keep2 (i := v1.toNat) iσ29 (kW.up (xτ17.trans xσ29)) eb_1 (mb_1.up (xτ17.trans xσ29)) eb_5 (mb_5.up xσ29) rfl krc_σ29 (by (first | omega | with_reducible assumption | with_reducible exact rng_toInt _ | with_reducible exact rng_wr _ | (unfold rng; omega) | (unfold rng at *; omega) | assumption)) (by (first | omega | with_reducible assumption | with_reducible exact rng_toInt _ | with_reducible exact rng_wr _ | (unfold rng; omega) | (unfold rng at *; omega) | assumption)) (by (first | omega | with_reducible assumption | with_reducible exact rng_toInt _ | with_reducible exact rng_wr _ | (unfold rng; omega) | (unfold rng at *; omega) | assumption)) (kp17.trans (kp4.trans hWJ)) (kJ.up (xτ17.trans xσ29)) (by (first | omega | with_reducible assumption | with_reducible exact rng_toInt _ | with_reducible exact rng_wr _ | (unfold rng; omega) | (unfold rng at *; omega) | assumption)) (by (first | omega | with_reducible assumption | with_reducible exact rng_toInt _ | with_reducible exact rng_wr _ | (unfold rng; omega) | (unfold rng at *; omega) | assumption)) (by (first | omega | with_reducible assumption | with_reducible exact rng_toInt _ | with_reducible exact rng_wr _ | (unfold rng; omega) | (unfold rng at *; omega) | assumption)) (by (first | omega | with_reducible assumption | with_reducible exact rng_toInt _ | with_reducible exact rng_wr _ | (unfold rng; omega) | (unfold rng at *; omega) | assumption)) (by (first | omega | with_reducible assumption | with_reducible exact rng_toInt _ | with_reducible exact rng_wr _ | (unfold rng; omega) | (unfold rng at *; omega) | assumption)) lt8 (by (first | omega | with_reducible assumption | with_reducible exact rng_toInt _ | with_reducible exact rng_wr _ | (unfold rng; omega) | (unfold rng at *; omega) | assumption)) h7 (fun σ32 LLσ32 Nσ32 nuσ32 _ iσ32 cσ32 uσ32 hσ32 pσ32 => ?_) (fun σx LLx Nx nux E ix cx ux px => hX σx LLx Nx nux E ix (fσ29.tr (cx.mo (by decide))) (nu_σ29.x ux) (by first | exact px | exact ⟨by have := px.1; omega, (Hn.nz hnσ29 (by first | decide | (intro x hx; simp only [List.mem_cons, List.mem_nil_iff, or_false] at hx; omega))).tr px.2.1, px.2.2⟩ | (first | omega | with_reducible assumption | with_reducible exact rng_toInt _ | with_reducible exact rng_wr _ | (unfold rng; omega) | (unfold rng at *; omega) | assumption)))
          intro xσ32
          have fσ32 : Fx [1, 2, 3, 4, 5, 6, 7, 64, 512, 708, 6464] gr σ σ32 := fσ29.tr (cσ32.mo (by decide))
          have hnσ32 : Hn (gD σ) [11, 12] [] gq LL LLσ32 N Nσ32 := hnσ29.go hσ32 (fun d hd => (fσ29.1 d hd).1) (by first | decide | exact fun _ h => h | (simp; done) | (intro x hx; simp only [List.mem_cons, List.mem_nil_iff, or_false] at hx ⊢; omega)) (fun d hd => by rw [List.mem_singleton.mp hd]; exact lo_c_σ29)
          have nσ32_3 := hσ32.2.2 3 (by first | decide | (simp; done) | (simp only [List.mem_cons, List.mem_nil_iff, or_false, not_or]; omega)) (by first | decide | omega) (by first | decide | omega) (by first | decide | omega)
          have nσ32_5 := hσ32.2.2 5 (by first | decide | (simp; done) | (simp only [List.mem_cons, List.mem_nil_iff, or_false, not_or]; omega)) (by first | decide | omega) (by first | decide | omega) (by first | decide | omega)
          have nσ32_14 := hσ32.2.2 14 (by first | decide | (simp; done) | (simp only [List.mem_cons, List.mem_nil_iff, or_false, not_or]; omega)) (by first | decide | omega) (by first | decide | omega) (by first | decide | omega)
          have nσ32_44 := hσ32.2.2 44 (by first | decide | (simp; done) | (simp only [List.mem_cons, List.mem_nil_iff, or_false, not_or]; omega)) (by first | decide | omega) (by first | decide | omega) (by first | decide | omega)
          have nσ32_74 := hσ32.2.2 74 (by first | decide | (simp; done) | (simp only [List.mem_cons, List.mem_nil_iff, or_false, not_or]; omega)) (by first | decide | omega) (by first | decide | omega) (by first | decide | omega)
          have nσ32_41 := hσ32.2.2 41 (by first | decide | (simp; done) | (simp only [List.mem_cons, List.mem_nil_iff, or_false, not_or]; omega)) (by first | decide | omega) (by first | decide | omega) (by first | decide | omega)
          have nσ32_42 := hσ32.2.2 42 (by first | decide | (simp; done) | (simp only [List.mem_cons, List.mem_nil_iff, or_false, not_or]; omega)) (by first | decide | omega) (by first | decide | omega) (by first | decide | omega)
          have nσ32_13 := hσ32.2.2 13 (by first | decide | (simp; done) | (simp only [List.mem_cons, List.mem_nil_iff, or_false, not_or]; omega)) (by first | decide | omega) (by first | decide | omega) (by first | decide | omega)
          have nσ32_50 := hσ32.2.2 50 (by first | decide | (simp; done) | (simp only [List.mem_cons, List.mem_nil_iff, or_false, not_or]; omega)) (by first | decide | omega) (by first | decide | omega) (by first | decide | omega)
          have nu_σ32 : NU nu nuσ32 := nu_σ29.tr uσ32
          have uσ32_0 := uσ32.1 0 (by decide)
          have uσ32_1 := uσ32.1 1 (by decide)
          have uσ32_2 := uσ32.2
          have uσ32_5 := uσ32.1 5 (by decide)
          have uσ32_15 := uσ32.1 15 (by decide)
          have uσ32_16 := uσ32.1 16 (by decide)
          have kp24 : gI σ32 b_1 6 = gI σ29 b_1 6 := (cσ32.O (mb_1.up (xτ17.trans xσ29)) (by decide)).1
          have kp25 : gI σ32 th 12 = gI σ29 th 12 := (cσ32.O (kth.up (xτ17.trans xσ29)) (by decide)).1
          have kp26 : gP σ32 J 0 = gP σ29 J 0 := (cσ32.O (kJ.up (xτ17.trans xσ29)) (by decide)).2.1
          have kp27 : gP σ32 W 5 = gP σ29 W 5 := (cσ32.O (kW.up (xτ17.trans xσ29)) (by decide)).2.1
          have kp28 : gP σ32 b v1.toNat = gP σ29 b v1.toNat := (cσ32.A (mb.up (xτ17.trans xσ29)) (by decide)).2.1
          have kp29 : gP σ32 th 0 = gP σ29 th 0 := (cσ32.O (kth.up (xτ17.trans xσ29)) (by decide)).2.1
          have kp30 : gP σ32 th 1 = gP σ29 th 1 := (cσ32.O (kth.up (xτ17.trans xσ29)) (by decide)).2.1
          have kp31 : gP σ32 th 3 = gP σ29 th 3 := (cσ32.O (kth.up (xτ17.trans xσ29)) (by decide)).2.1
          have kp32 : gP σ32 th 5 = gP σ29 th 5 := (cσ32.O (kth.up (xτ17.trans xσ29)) (by decide)).2.1
          have kp33 : gP σ32 th 9 = gP σ29 th 9 := (cσ32.O (kth.up (xτ17.trans xσ29)) (by decide)).2.1
          have hLb := hσ32.1 x (kx.up (xτ17.trans xσ29)).1 (by first | (simp; done) | (simp only [List.mem_cons, List.mem_nil_iff, or_false, not_or]; omega)) (by omega)
          obtain ⟨A1, B1, p1, p2, p3, p4⟩ := it_step iσ32 (kx.up (xτ17.trans (xσ29.trans xσ32))) ⟨(by rw [hLb, hLa]; exact hi17.1.1), hi17.1.2⟩ eb_4
          refine ⟨b_4, eb_4, fun kk_b_4 => ?_⟩
          exact ih17 σ32 LLσ32 Nσ32 nuσ32 (gP σ32 b_4 1) iσ32 fσ32 (xτ17.trans (xσ29.trans xσ32)) nu_σ32 hnσ32 (⟨A1, B1, ⟨⟨p1, p2⟩, by omega, fun _ => hi17.2.2 (by rw [eb_4]; simp)⟩, by omega⟩)
        · rw [if_neg hc11]
          unfold w_X9_restoreRecords_33
          have bP := bsO_P (ot := ot) (P := P) (j := v1.toNat) (by omega)
          obtain ⟨b_6, eb_6⟩ := Option.ne_none_iff_exists'.mp hc9
          have knb_6 : kO τ17 b_6 0 := iτ17.cell (it_mem hi17.1 eb_6)
          refine ⟨b_6, eb_6, fun kk_b_6 => ?_⟩
          refine i_X12_partOf iτ17 (by (first | omega | with_reducible assumption | with_reducible exact rng_toInt _ | with_reducible exact rng_wr _ | (unfold rng; omega) | (unfold rng at *; omega) | assumption)) (fun r26 pσ25 => ?_)
          intro xσ25
          unfold w_X9_restoreRecords_49
          refine ⟨F, (kp7.trans hF), fun kk_F_1 => ?_⟩
          have q34 := (xτ17 F kF.1).2.2
          refine ⟨⟨by (first | omega | with_reducible assumption | with_reducible exact rng_toInt _ | with_reducible exact rng_wr _ | (unfold rng; omega) | (unfold rng at *; omega) | assumption), by (first | omega | with_reducible assumption | with_reducible exact rng_toInt _ | with_reducible exact rng_wr _ | (unfold rng; omega) | (unfold rng at *; omega) | assumption)⟩, ?_⟩
          have q35 := iτ17.rg F v1.toNat; unfold rng at q35
          refine ⟨by (first | omega | with_reducible assumption | with_reducible exact rng_toInt _ | with_reducible exact rng_wr _ | (unfold rng; omega) | (unfold rng at *; omega) | assumption), ?_⟩
          obtain ⟨b_7, eb_7, fb_7⟩ := P_9_3 iτ17.1 (kth.up xτ17)
          have mb_7 : kO τ17 b_7 120 := iτ17.1.kd (kth.up xτ17) rfl eb_7 rfl
          refine ⟨b_7, eb_7, fun kk_b_7 => ?_⟩
          refine ⟨⟨by (first | omega | with_reducible assumption | with_reducible exact rng_toInt _ | with_reducible exact rng_wr _ | (unfold rng; omega) | (unfold rng at *; omega) | assumption), by (first | omega | with_reducible assumption | with_reducible exact rng_toInt _ | with_reducible exact rng_wr _ | (unfold rng; omega) | (unfold rng at *; omega) | assumption)⟩, ?_⟩
          obtain ⟨b_8, eb_8⟩ := P_9_0 iτ17.1 (kth.up xτ17)
          refine ⟨b_8, eb_8, fun kk_b_8 => ?_⟩
          refine i_X8_copyOf iτ17 kk_b_8 eb_6 knb_6 (by (first | omega | with_reducible assumption | with_reducible exact rng_toInt _ | with_reducible exact rng_wr _ | (unfold rng; omega) | (unfold rng at *; omega) | assumption)) (fun σ29_1 LLσ29_1 Nσ29_1 nuσ29_1 c_σ29_1 iσ29_1 cσ29_1 uσ29_1 hσ29_1 pσ29_1 => ?_)
          intro xσ29_1
          have fσ29_1 : Fx [1, 2, 3, 4, 5, 6, 7, 64, 512, 708, 6464] gr σ σ29_1 := fτ17.tr (cσ29_1.mo (by decide))
          have hnσ29_1 : Hn (gD σ) [11, 12] [] gq LL LLσ29_1 N Nσ29_1 := hnτ17.go hσ29_1 (fun d hd => (fτ17.1 d hd).1) (by first | decide | exact fun _ h => h | (simp; done) | (intro x hx; simp only [List.mem_cons, List.mem_nil_iff, or_false] at hx ⊢; omega)) (fun d hd => absurd hd (by simp))
          have hf_c_σ29_1 : ∀ x, c_σ29_1 ∉ LLσ29_1 x := pσ29_1.1
          have lo_c_σ29_1 : Lo [] (gD σ) LL c_σ29_1 := hnτ17.loc (fun d hd => (fτ17.1 d hd).1) pσ29_1.2.2.1
          have nσ29_1_3 := hσ29_1.2.2 3 (by first | decide | (simp; done) | (simp only [List.mem_cons, List.mem_nil_iff, or_false, not_or]; omega)) (by first | decide | omega) (by first | decide | omega) (by first | decide | omega)
          have nσ29_1_5 := hσ29_1.2.2 5 (by first | decide | (simp; done) | (simp only [List.mem_cons, List.mem_nil_iff, or_false, not_or]; omega)) (by first | decide | omega) (by first | decide | omega) (by first | decide | omega)
          have nσ29_1_14 := hσ29_1.2.2 14 (by first | decide | (simp; done) | (simp only [List.mem_cons, List.mem_nil_iff, or_false, not_or]; omega)) (by first | decide | omega) (by first | decide | omega) (by first | decide | omega)
          have nσ29_1_44 := hσ29_1.2.2 44 (by first | decide | (simp; done) | (simp only [List.mem_cons, List.mem_nil_iff, or_false, not_or]; omega)) (by first | decide | omega) (by first | decide | omega) (by first | decide | omega)
          have nσ29_1_74 := hσ29_1.2.2 74 (by first | decide | (simp; done) | (simp only [List.mem_cons, List.mem_nil_iff, or_false, not_or]; omega)) (by first | decide | omega) (by first | decide | omega) (by first | decide | omega)
          have nσ29_1_11 := hσ29_1.2.2 11 (by first | decide | (simp; done) | (simp only [List.mem_cons, List.mem_nil_iff, or_false, not_or]; omega)) (by first | decide | omega) (by first | decide | omega) (by first | decide | omega)
          have nσ29_1_12 := hσ29_1.2.2 12 (by first | decide | (simp; done) | (simp only [List.mem_cons, List.mem_nil_iff, or_false, not_or]; omega)) (by first | decide | omega) (by first | decide | omega) (by first | decide | omega)
          have nσ29_1_41 := hσ29_1.2.2 41 (by first | decide | (simp; done) | (simp only [List.mem_cons, List.mem_nil_iff, or_false, not_or]; omega)) (by first | decide | omega) (by first | decide | omega) (by first | decide | omega)
          have nσ29_1_42 := hσ29_1.2.2 42 (by first | decide | (simp; done) | (simp only [List.mem_cons, List.mem_nil_iff, or_false, not_or]; omega)) (by first | decide | omega) (by first | decide | omega) (by first | decide | omega)
          have nσ29_1_13 := hσ29_1.2.2 13 (by first | decide | (simp; done) | (simp only [List.mem_cons, List.mem_nil_iff, or_false, not_or]; omega)) (by first | decide | omega) (by first | decide | omega) (by first | decide | omega)
          have nσ29_1_50 := hσ29_1.2.2 50 (by first | decide | (simp; done) | (simp only [List.mem_cons, List.mem_nil_iff, or_false, not_or]; omega)) (by first | decide | omega) (by first | decide | omega) (by first | decide | omega)
          have nu_σ29_1 : NU nu nuσ29_1 := nu_τ17.tr uσ29_1
          have uσ29_1_0 := uσ29_1.1 0 (by decide)
          have uσ29_1_1 := uσ29_1.1 1 (by decide)
          have uσ29_1_2 := uσ29_1.2
          have uσ29_1_5 := uσ29_1.1 5 (by decide)
          have uσ29_1_15 := uσ29_1.1 15 (by decide)
          have uσ29_1_16 := uσ29_1.1 16 (by decide)
          have kp36 : gI σ29_1 b_1 6 = gI τ17 b_1 6 := (cσ29_1.O (mb_1.up xτ17) (by decide)).1
          have kp37 : gI σ29_1 th 12 = gI τ17 th 12 := (cσ29_1.O (kth.up xτ17) (by decide)).1
          have kp38 : gP σ29_1 J 0 = gP τ17 J 0 := (cσ29_1.O (kJ.up xτ17) (by decide)).2.1
          have kp39 : gP σ29_1 W 5 = gP τ17 W 5 := (cσ29_1.O (kW.up xτ17) (by decide)).2.1
          have kp40 : gP σ29_1 b v1.toNat = gP τ17 b v1.toNat := (cσ29_1.A (mb.up xτ17) (by decide)).2.1
          have kp41 : gP σ29_1 th 0 = gP τ17 th 0 := (cσ29_1.O (kth.up xτ17) (by decide)).2.1
          have kp42 : gP σ29_1 th 1 = gP τ17 th 1 := (cσ29_1.O (kth.up xτ17) (by decide)).2.1
          have kp43 : gP σ29_1 th 3 = gP τ17 th 3 := (cσ29_1.O (kth.up xτ17) (by decide)).2.1
          have kp44 : gP σ29_1 th 5 = gP τ17 th 5 := (cσ29_1.O (kth.up xτ17) (by decide)).2.1
          have kp45 : gP σ29_1 th 9 = gP τ17 th 9 := (cσ29_1.O (kth.up xτ17) (by decide)).2.1
          have hLa := hσ29_1.1 x (kx.up xτ17).1 (by simp) (by omega)
          intro tyt_1
          have krc_σ29_1 : kO σ29_1 c_σ29_1 0 := tyt_1 c_σ29_1 rfl
          refine ⟨W, (kp6.trans hw), fun kk_W_1 => ?_⟩
          have n16b_9 := iτ17.n16
          obtain ⟨b_9, eb_9, mb_9, fb_9⟩ := P_120 iτ17 mb_7 (by omega) (k := ((gI τ17 F v1.toNat) + r26).toNat) (by (first | omega | with_reducible assumption | with_reducible exact rng_toInt _ | with_reducible exact rng_wr _ | (unfold rng; omega) | (unfold rng at *; omega) | assumption))
          have lt9 := (lt17 b_9 mb_9 (by omega) (by omega)).2 v1.toNat (by omega) (by omega)
          have lt8 : gI σ29_1 b_9 0 = _ := (cσ29_1.O mb_9 (by decide)).1.trans lt9
          have h7 := hR (hi17.2.2 (by rw [eb_6]; simp))
          refine i1_keep2 (i := v1.toNat) iσ29_1 (kW.up (xτ17.trans xσ29_1)) eb_1 (mb_1.up (xτ17.trans xσ29_1)) eb_9 (mb_9.up xσ29_1) rfl krc_σ29_1 (by (first | omega | with_reducible assumption | with_reducible exact rng_toInt _ | with_reducible exact rng_wr _ | (unfold rng; omega) | (unfold rng at *; omega) | assumption)) (by (first | omega | with_reducible assumption | with_reducible exact rng_toInt _ | with_reducible exact rng_wr _ | (unfold rng; omega) | (unfold rng at *; omega) | assumption)) (by (first | omega | with_reducible assumption | with_reducible exact rng_toInt _ | with_reducible exact rng_wr _ | (unfold rng; omega) | (unfold rng at *; omega) | assumption)) (kp39.trans (kp4.trans hWJ)) (kJ.up (xτ17.trans xσ29_1)) (by (first | omega | with_reducible assumption | with_reducible exact rng_toInt _ | with_reducible exact rng_wr _ | (unfold rng; omega) | (unfold rng at *; omega) | assumption)) (by (first | omega | with_reducible assumption | with_reducible exact rng_toInt _ | with_reducible exact rng_wr _ | (unfold rng; omega) | (unfold rng at *; omega) | assumption)) (by (first | omega | with_reducible assumption | with_reducible exact rng_toInt _ | with_reducible exact rng_wr _ | (unfold rng; omega) | (unfold rng at *; omega) | assumption)) (by (first | omega | with_reducible assumption | with_reducible exact rng_toInt _ | with_reducible exact rng_wr _ | (unfold rng; omega) | (unfold rng at *; omega) | assumption)) (by (first | omega | with_reducible assumption | with_reducible exact rng_toInt _ | with_reducible exact rng_wr _ | (unfold rng; omega) | (unfold rng at *; omega) | assumption)) lt8 (by (first | omega | with_reducible assumption | with_reducible exact rng_toInt _ | with_reducible exact rng_wr _ | (unfold rng; omega) | (unfold rng at *; omega) | assumption)) h7 (fun σ32_1 LLσ32_1 Nσ32_1 nuσ32_1 _ iσ32_1 cσ32_1 uσ32_1 hσ32_1 pσ32_1 => ?_) (fun σx LLx Nx nux E ix cx ux px => hX σx LLx Nx nux E ix (fσ29_1.tr (cx.mo (by decide))) (nu_σ29_1.x ux) (by first | exact px | exact ⟨by have := px.1; omega, (Hn.nz hnσ29_1 (by first | decide | (intro x hx; simp only [List.mem_cons, List.mem_nil_iff, or_false] at hx; omega))).tr px.2.1, px.2.2⟩ | (first | omega | with_reducible assumption | with_reducible exact rng_toInt _ | with_reducible exact rng_wr _ | (unfold rng; omega) | (unfold rng at *; omega) | assumption)))
          intro xσ32_1
          have fσ32_1 : Fx [1, 2, 3, 4, 5, 6, 7, 64, 512, 708, 6464] gr σ σ32_1 := fσ29_1.tr (cσ32_1.mo (by decide))
          have hnσ32_1 : Hn (gD σ) [11, 12] [] gq LL LLσ32_1 N Nσ32_1 := hnσ29_1.go hσ32_1 (fun d hd => (fσ29_1.1 d hd).1) (by first | decide | exact fun _ h => h | (simp; done) | (intro x hx; simp only [List.mem_cons, List.mem_nil_iff, or_false] at hx ⊢; omega)) (fun d hd => by rw [List.mem_singleton.mp hd]; exact lo_c_σ29_1)
          have nσ32_1_3 := hσ32_1.2.2 3 (by first | decide | (simp; done) | (simp only [List.mem_cons, List.mem_nil_iff, or_false, not_or]; omega)) (by first | decide | omega) (by first | decide | omega) (by first | decide | omega)
          have nσ32_1_5 := hσ32_1.2.2 5 (by first | decide | (simp; done) | (simp only [List.mem_cons, List.mem_nil_iff, or_false, not_or]; omega)) (by first | decide | omega) (by first | decide | omega) (by first | decide | omega)
          have nσ32_1_14 := hσ32_1.2.2 14 (by first | decide | (simp; done) | (simp only [List.mem_cons, List.mem_nil_iff, or_false, not_or]; omega)) (by first | decide | omega) (by first | decide | omega) (by first | decide | omega)
          have nσ32_1_44 := hσ32_1.2.2 44 (by first | decide | (simp; done) | (simp only [List.mem_cons, List.mem_nil_iff, or_false, not_or]; omega)) (by first | decide | omega) (by first | decide | omega) (by first | decide | omega)
          have nσ32_1_74 := hσ32_1.2.2 74 (by first | decide | (simp; done) | (simp only [List.mem_cons, List.mem_nil_iff, or_false, not_or]; omega)) (by first | decide | omega) (by first | decide | omega) (by first | decide | omega)
          have nσ32_1_41 := hσ32_1.2.2 41 (by first | decide | (simp; done) | (simp only [List.mem_cons, List.mem_nil_iff, or_false, not_or]; omega)) (by first | decide | omega) (by first | decide | omega) (by first | decide | omega)
          have nσ32_1_42 := hσ32_1.2.2 42 (by first | decide | (simp; done) | (simp only [List.mem_cons, List.mem_nil_iff, or_false, not_or]; omega)) (by first | decide | omega) (by first | decide | omega) (by first | decide | omega)
          have nσ32_1_13 := hσ32_1.2.2 13 (by first | decide | (simp; done) | (simp only [List.mem_cons, List.mem_nil_iff, or_false, not_or]; omega)) (by first | decide | omega) (by first | decide | omega) (by first | decide | omega)
          have nσ32_1_50 := hσ32_1.2.2 50 (by first | decide | (simp; done) | (simp only [List.mem_cons, List.mem_nil_iff, or_false, not_or]; omega)) (by first | decide | omega) (by first | decide | omega) (by first | decide | omega)
          have nu_σ32_1 : NU nu nuσ32_1 := nu_σ29_1.tr uσ32_1
          have uσ32_1_0 := uσ32_1.1 0 (by decide)
          have uσ32_1_1 := uσ32_1.1 1 (by decide)
          have uσ32_1_2 := uσ32_1.2
          have uσ32_1_5 := uσ32_1.1 5 (by decide)
          have uσ32_1_15 := uσ32_1.1 15 (by decide)
          have uσ32_1_16 := uσ32_1.1 16 (by decide)
          have kp46 : gI σ32_1 b_1 6 = gI σ29_1 b_1 6 := (cσ32_1.O (mb_1.up (xτ17.trans xσ29_1)) (by decide)).1
          have kp47 : gI σ32_1 th 12 = gI σ29_1 th 12 := (cσ32_1.O (kth.up (xτ17.trans xσ29_1)) (by decide)).1
          have kp48 : gP σ32_1 J 0 = gP σ29_1 J 0 := (cσ32_1.O (kJ.up (xτ17.trans xσ29_1)) (by decide)).2.1
          have kp49 : gP σ32_1 W 5 = gP σ29_1 W 5 := (cσ32_1.O (kW.up (xτ17.trans xσ29_1)) (by decide)).2.1
          have kp50 : gP σ32_1 b v1.toNat = gP σ29_1 b v1.toNat := (cσ32_1.A (mb.up (xτ17.trans xσ29_1)) (by decide)).2.1
          have kp51 : gP σ32_1 th 0 = gP σ29_1 th 0 := (cσ32_1.O (kth.up (xτ17.trans xσ29_1)) (by decide)).2.1
          have kp52 : gP σ32_1 th 1 = gP σ29_1 th 1 := (cσ32_1.O (kth.up (xτ17.trans xσ29_1)) (by decide)).2.1
          have kp53 : gP σ32_1 th 3 = gP σ29_1 th 3 := (cσ32_1.O (kth.up (xτ17.trans xσ29_1)) (by decide)).2.1
          have kp54 : gP σ32_1 th 5 = gP σ29_1 th 5 := (cσ32_1.O (kth.up (xτ17.trans xσ29_1)) (by decide)).2.1
          have kp55 : gP σ32_1 th 9 = gP σ29_1 th 9 := (cσ32_1.O (kth.up (xτ17.trans xσ29_1)) (by decide)).2.1
          have hLb := hσ32_1.1 x (kx.up (xτ17.trans xσ29_1)).1 (by first | (simp; done) | (simp only [List.mem_cons, List.mem_nil_iff, or_false, not_or]; omega)) (by omega)
          obtain ⟨A1, B1, p1, p2, p3, p4⟩ := it_step iσ32_1 (kx.up (xτ17.trans (xσ29_1.trans xσ32_1))) ⟨(by rw [hLb, hLa]; exact hi17.1.1), hi17.1.2⟩ eb_6
          refine ⟨b_6, eb_6, fun kk_b_6_1 => ?_⟩
          exact ih17 σ32_1 LLσ32_1 Nσ32_1 nuσ32_1 (gP σ32_1 b_6 1) iσ32_1 fσ32_1 (xτ17.trans (xσ29_1.trans xσ32_1)) nu_σ32_1 hnσ32_1 (⟨A1, B1, ⟨⟨p1, p2⟩, by omega, fun _ => hi17.2.2 (by rw [eb_6]; simp)⟩, by omega⟩)
  exact ⟨(LL x).length + 1, Lp17 _ σ LL N nu _ iσ fσ (Ext.rfl' _) NU.rf hnσ (⟨[], LL x, ⟨⟨by simp, iσ.first kx⟩, rfl, fun q e => q (by rw [iσ.first kx, e]; rfl)⟩, Nat.lt_succ_self _⟩)⟩

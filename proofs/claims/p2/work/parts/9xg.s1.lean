set_option maxHeartbeats 1000000 in
theorem i_X9_seal {σ : Sg} {pl : Nat} {gq ci gr nc : Nat → Nat} {ot : Nat → Nat → Int} {LL : Nat → List Nat} {N nu : Nat → Nat} {th : Nat} {J : Nat} (iσ : IV σ pl gq ci gr nc ot LL N nu) (kth : kO σ th 9) (hj : gP σ th 9 = some J) (kJ : kO σ J 4) (hJ : gq J = nc 0) (n5 : N 5 = 0) (n14 : N 14 = 0) {Q : Sg → Int → Prop} {X : Sg → String → Prop} (hQ : ∀ (σ' : Sg) (LL' : Nat → List Nat) (N' nu' : Nat → Nat) (r : Int), IV σ' pl gq ci gr nc ot LL' N' nu' → Fx [1, 64, 192, 193, 195, 196, 197, 200, 201, 512, 650] gr σ σ' → NU nu nu' → Hn (gD σ) [14, 64, 65, 66, 67, 68, 69, 70, 71, 21, 22, 31, 32, 5] [] gq LL LL' N N' → ((r = 0 ∨ r = 1) ∧ N' 1 = N 1 ∧ N' 14 = 0 ∧ N' 5 = 0) → Q σ' r) : wp_X9_seal th σ Q X := by
  have fσ : Fx [1, 64, 192, 193, 195, 196, 197, 200, 201, 512, 650] gr σ σ := Fx.rf
  have hnσ : Hn (gD σ) [14, 64, 65, 66, 67, 68, 69, 70, 71, 21, 22, 31, 32, 5] [] gq LL LL N N := Hn.rf
  unfold wp_X9_seal
  unfold w_X9_seal_0
  obtain ⟨b, eb⟩ := P_9_2 iσ.1 kth
  refine ⟨b, eb, fun kk_b => ?_⟩
  refine i_X3_write iσ kk_b (fun σ28 r29 iσ28 cσ28 pσ28 => ?_)
  intro xσ28
  have fσ28 : Fx [1, 64, 192, 193, 195, 196, 197, 200, 201, 512, 650] gr σ σ28 := fσ.tr (cσ28.mo (by decide))
  have kp1 : gP σ28 th 2 = gP σ th 2 := (cσ28.O kth (by decide)).2.1
  have kp2 : gP σ28 th 9 = gP σ th 9 := (cσ28.O kth (by decide)).2.1
  by_cases hc3 : r29 ≠ 0
  · rw [if_pos hc3]
    unfold w_X9_seal_12
    refine ⟨b, (kp1.trans eb), fun kk_b_1 => ?_⟩
    obtain ⟨P9, eP9, fP9⟩ := P_3_0 iσ28.1 (kk_b.up xσ28)
    obtain ⟨S9, eS9, fS9⟩ := P_3_1 iσ28.1 (kk_b.up xσ28)
    have dk9 := iσ28.dk (kk_b.up xσ28) eP9 eS9
    have kP9 : kO σ28 P9 120 := iσ28.1.kd (kk_b.up xσ28) rfl eP9 rfl
    have kS9 : kO σ28 S9 120 := iσ28.1.kd (kk_b.up xσ28) rfl eS9 rfl
    have q4 := I_9_12 iσ28.1 (kth.up xσ28)
    obtain ⟨b_1, eb_1⟩ := P_9_0 iσ28.1 (kth.up xσ28)
    refine i_X3_seal iσ28 (kk_b.up xσ28) eb_1 eP9 kP9 eS9 kS9 rfl rfl dk9.1 (by omega) (by (first | omega | with_reducible assumption | with_reducible exact rng_toInt _ | with_reducible exact rng_wr _ | (unfold rng; omega) | (unfold rng at *; omega) | assumption)) (fun σ31 LLσ31 Nσ31 nuσ31 _ iσ31 cσ31 uσ31 hσ31 pσ31 => ?_)
    intro xσ31
    have fσ31 : Fx [1, 64, 192, 193, 195, 196, 197, 200, 201, 512, 650] gr σ σ31 := fσ28.tr (cσ31.mo (by decide))
    have hnσ31 : Hn (gD σ) [14, 64, 65, 66, 67, 68, 69, 70, 71, 21, 22, 31, 32, 5] [] gq LL LLσ31 N Nσ31 := hnσ.go hσ31 (fun d hd => (fσ28.1 d hd).1) (by first | decide | exact fun _ h => h | (simp; done) | (intro x hx; simp only [List.mem_cons, List.mem_nil_iff, or_false] at hx ⊢; omega)) (fun d hd => absurd hd (by simp))
    have nσ31_3 := hσ31.2.2 3 (by first | decide | (simp; done) | (simp only [List.mem_cons, List.mem_nil_iff, or_false, not_or]; omega)) (by first | decide | omega) (by first | decide | omega) (by first | decide | omega)
    have nσ31_14 := hσ31.2.2 14 (by first | decide | (simp; done) | (simp only [List.mem_cons, List.mem_nil_iff, or_false, not_or]; omega)) (by first | decide | omega) (by first | decide | omega) (by first | decide | omega)
    have nσ31_44 := hσ31.2.2 44 (by first | decide | (simp; done) | (simp only [List.mem_cons, List.mem_nil_iff, or_false, not_or]; omega)) (by first | decide | omega) (by first | decide | omega) (by first | decide | omega)
    have nσ31_74 := hσ31.2.2 74 (by first | decide | (simp; done) | (simp only [List.mem_cons, List.mem_nil_iff, or_false, not_or]; omega)) (by first | decide | omega) (by first | decide | omega) (by first | decide | omega)
    have nσ31_11 := hσ31.2.2 11 (by first | decide | (simp; done) | (simp only [List.mem_cons, List.mem_nil_iff, or_false, not_or]; omega)) (by first | decide | omega) (by first | decide | omega) (by first | decide | omega)
    have nσ31_12 := hσ31.2.2 12 (by first | decide | (simp; done) | (simp only [List.mem_cons, List.mem_nil_iff, or_false, not_or]; omega)) (by first | decide | omega) (by first | decide | omega) (by first | decide | omega)
    have nσ31_41 := hσ31.2.2 41 (by first | decide | (simp; done) | (simp only [List.mem_cons, List.mem_nil_iff, or_false, not_or]; omega)) (by first | decide | omega) (by first | decide | omega) (by first | decide | omega)
    have nσ31_42 := hσ31.2.2 42 (by first | decide | (simp; done) | (simp only [List.mem_cons, List.mem_nil_iff, or_false, not_or]; omega)) (by first | decide | omega) (by first | decide | omega) (by first | decide | omega)
    have nσ31_13 := hσ31.2.2 13 (by first | decide | (simp; done) | (simp only [List.mem_cons, List.mem_nil_iff, or_false, not_or]; omega)) (by first | decide | omega) (by first | decide | omega) (by first | decide | omega)
    have nσ31_50 := hσ31.2.2 50 (by first | decide | (simp; done) | (simp only [List.mem_cons, List.mem_nil_iff, or_false, not_or]; omega)) (by first | decide | omega) (by first | decide | omega) (by first | decide | omega)
    have nu_σ31 : NU nu nuσ31 := uσ31
    have uσ31_0 := uσ31.1 0 (by decide)
    have uσ31_1 := uσ31.1 1 (by decide)
    have uσ31_2 := uσ31.2
    have uσ31_5 := uσ31.1 5 (by decide)
    have uσ31_15 := uσ31.1 15 (by decide)
    have uσ31_16 := uσ31.1 16 (by decide)
    have kp5 : gI σ31 th 12 = gI σ28 th 12 := (cσ31.O (kth.up xσ28) (by decide)).1
    have kp6 : gP σ31 th 0 = gP σ28 th 0 := (cσ31.O (kth.up xσ28) (by decide)).2.1
    have kp7 : gP σ31 th 2 = gP σ28 th 2 := (cσ31.O (kth.up xσ28) (by decide)).2.1
    have kp8 : gP σ31 th 9 = gP σ28 th 9 := (cσ31.O (kth.up xσ28) (by decide)).2.1
    have Lp29 : ∀ (fu29 : Nat) (τ29 : Sg) (LLt29 : Nat → List Nat) (Nt29 nut29 : Nat → Nat) (v1 : Int), IV τ29 pl gq ci gr nc ot LLt29 Nt29 nut29 → Fx [1, 64, 192, 193, 195, 196, 197, 200, 201, 512, 650] gr σ τ29 → Ext σ31 τ29 → NU nu nut29 → Hn (gD σ) [14, 64, 65, 66, 67, 68, 69, 70, 71, 21, 22, 31, 32, 5] [] gq LL LLt29 N Nt29 → ((0 ≤ v1 ∧ v1 ≤ 64) ∧ Nt29 1 = N 1 ∧ Nt29 14 = 0 ∧ Nt29 5 = 0) → ((64 - v1).toNat) < fu29 → wl_X9_seal_29 th Q X fu29 τ29 v1 := by
      intro fu29
      induction fu29 with
      | zero => intro _ _ _ _ _ _ _ _ _ _ _ h9; omega
      | succ fu29 ih29 =>
        intro τ29 LLt29 Nt29 nut29 v1 iτ29 fτ29 xτ29 nu_τ29 hnτ29 hi29 hm29
        have nτ29_3 := hnτ29.2.2 3 (by first | decide | (simp; done) | (simp only [List.mem_cons, List.mem_nil_iff, or_false, not_or]; omega)) (by first | decide | omega) (by first | decide | omega) (by first | decide | omega)
        have nτ29_44 := hnτ29.2.2 44 (by first | decide | (simp; done) | (simp only [List.mem_cons, List.mem_nil_iff, or_false, not_or]; omega)) (by first | decide | omega) (by first | decide | omega) (by first | decide | omega)
        have nτ29_74 := hnτ29.2.2 74 (by first | decide | (simp; done) | (simp only [List.mem_cons, List.mem_nil_iff, or_false, not_or]; omega)) (by first | decide | omega) (by first | decide | omega) (by first | decide | omega)
        have nτ29_11 := hnτ29.2.2 11 (by first | decide | (simp; done) | (simp only [List.mem_cons, List.mem_nil_iff, or_false, not_or]; omega)) (by first | decide | omega) (by first | decide | omega) (by first | decide | omega)
        have nτ29_12 := hnτ29.2.2 12 (by first | decide | (simp; done) | (simp only [List.mem_cons, List.mem_nil_iff, or_false, not_or]; omega)) (by first | decide | omega) (by first | decide | omega) (by first | decide | omega)
        have nτ29_41 := hnτ29.2.2 41 (by first | decide | (simp; done) | (simp only [List.mem_cons, List.mem_nil_iff, or_false, not_or]; omega)) (by first | decide | omega) (by first | decide | omega) (by first | decide | omega)
        have nτ29_42 := hnτ29.2.2 42 (by first | decide | (simp; done) | (simp only [List.mem_cons, List.mem_nil_iff, or_false, not_or]; omega)) (by first | decide | omega) (by first | decide | omega) (by first | decide | omega)
        have nτ29_13 := hnτ29.2.2 13 (by first | decide | (simp; done) | (simp only [List.mem_cons, List.mem_nil_iff, or_false, not_or]; omega)) (by first | decide | omega) (by first | decide | omega) (by first | decide | omega)
        have nτ29_50 := hnτ29.2.2 50 (by first | decide | (simp; done) | (simp only [List.mem_cons, List.mem_nil_iff, or_false, not_or]; omega)) (by first | decide | omega) (by first | decide | omega) (by first | decide | omega)
        have uτ29_0 := nu_τ29.1 0 (by decide)
        have uτ29_1 := nu_τ29.1 1 (by decide)
        have uτ29_2 := nu_τ29.2
        have uτ29_5 := nu_τ29.1 5 (by decide)
        have uτ29_15 := nu_τ29.1 15 (by decide)
        have uτ29_16 := nu_τ29.1 16 (by decide)
        unfold wl_X9_seal_29
        have kp9 : gP τ29 th 2 = gP σ th 2 := (fτ29.O kth (by decide)).2.1
        have kp10 : gP τ29 th 9 = gP σ th 9 := (fτ29.O kth (by decide)).2.1
        have kp11 : gI τ29 th 12 = gI σ31 th 12 := (fτ29.O kth (by decide)).1.trans (fσ31.O kth (by decide)).1.symm
        have kp12 : gP τ29 th 0 = gP σ31 th 0 := (fτ29.O kth (by decide)).2.1.trans (fσ31.O kth (by decide)).2.1.symm
        have n16t := iτ29.n16
        unfold w_X9_seal_29
        have q14 := iτ29.tc (kth.up (xσ28.trans (xσ31.trans xτ29)))
        have q15 := I_9_10 iτ29.1 (kth.up (xσ28.trans (xσ31.trans xτ29)))
        by_cases hc13 : v1 ≥ gI τ29 th 10
        · rw [if_pos hc13]
          unfold w_X9_seal_53
          obtain ⟨b_2, eb_2, fb_2⟩ := P_9_1 iτ29.1 (kth.up (xσ28.trans (xσ31.trans xτ29)))
          have mb_2 : kO τ29 b_2 11 := iτ29.1.kd (kth.up (xσ28.trans (xσ31.trans xτ29))) rfl eb_2 rfl
          refine ⟨b_2, eb_2, fun kk_b_2 => ?_⟩
          obtain ⟨b_3, eb_3, fb_3⟩ := P_11_2 iτ29.1 mb_2
          have mb_3 : kO τ29 b_3 1 := iτ29.1.kd mb_2 rfl eb_3 rfl
          have Lp63 : ∀ (fu63 : Nat) (τ63 : Sg) (LLt63 : Nat → List Nat) (Nt63 nut63 : Nat → Nat) (v2 : Int), IV τ63 pl gq ci gr nc ot LLt63 Nt63 nut63 → Fx [1, 64, 192, 193, 195, 196, 197, 200, 201, 512, 650] gr σ τ63 → Ext τ29 τ63 → NU nu nut63 → Hn (gD σ) [14, 64, 65, 66, 67, 68, 69, 70, 71, 21, 22, 31, 32, 5] [] gq LL LLt63 N Nt63 → ((0 ≤ v2 ∧ v2 ≤ 4) ∧ Nt63 1 = N 1 ∧ Nt63 14 = 0 ∧ Nt63 5 = 0) → ((4 - v2).toNat) < fu63 → wl_X9_seal_63 th Q X fu63 τ63 (gP τ29 b_2 2) v2 := by
            intro fu63
            induction fu63 with
            | zero => intro _ _ _ _ _ _ _ _ _ _ _ h9; omega
            | succ fu63 ih63 =>
              intro τ63 LLt63 Nt63 nut63 v2 iτ63 fτ63 xτ63 nu_τ63 hnτ63 hi63 hm63
              have nτ63_3 := hnτ63.2.2 3 (by first | decide | (simp; done) | (simp only [List.mem_cons, List.mem_nil_iff, or_false, not_or]; omega)) (by first | decide | omega) (by first | decide | omega) (by first | decide | omega)
              have nτ63_44 := hnτ63.2.2 44 (by first | decide | (simp; done) | (simp only [List.mem_cons, List.mem_nil_iff, or_false, not_or]; omega)) (by first | decide | omega) (by first | decide | omega) (by first | decide | omega)
              have nτ63_74 := hnτ63.2.2 74 (by first | decide | (simp; done) | (simp only [List.mem_cons, List.mem_nil_iff, or_false, not_or]; omega)) (by first | decide | omega) (by first | decide | omega) (by first | decide | omega)
              have nτ63_11 := hnτ63.2.2 11 (by first | decide | (simp; done) | (simp only [List.mem_cons, List.mem_nil_iff, or_false, not_or]; omega)) (by first | decide | omega) (by first | decide | omega) (by first | decide | omega)
              have nτ63_12 := hnτ63.2.2 12 (by first | decide | (simp; done) | (simp only [List.mem_cons, List.mem_nil_iff, or_false, not_or]; omega)) (by first | decide | omega) (by first | decide | omega) (by first | decide | omega)
              have nτ63_41 := hnτ63.2.2 41 (by first | decide | (simp; done) | (simp only [List.mem_cons, List.mem_nil_iff, or_false, not_or]; omega)) (by first | decide | omega) (by first | decide | omega) (by first | decide | omega)
              have nτ63_42 := hnτ63.2.2 42 (by first | decide | (simp; done) | (simp only [List.mem_cons, List.mem_nil_iff, or_false, not_or]; omega)) (by first | decide | omega) (by first | decide | omega) (by first | decide | omega)
              have nτ63_13 := hnτ63.2.2 13 (by first | decide | (simp; done) | (simp only [List.mem_cons, List.mem_nil_iff, or_false, not_or]; omega)) (by first | decide | omega) (by first | decide | omega) (by first | decide | omega)
              have nτ63_50 := hnτ63.2.2 50 (by first | decide | (simp; done) | (simp only [List.mem_cons, List.mem_nil_iff, or_false, not_or]; omega)) (by first | decide | omega) (by first | decide | omega) (by first | decide | omega)
              have uτ63_0 := nu_τ63.1 0 (by decide)
              have uτ63_1 := nu_τ63.1 1 (by decide)
              have uτ63_2 := nu_τ63.2
              have uτ63_5 := nu_τ63.1 5 (by decide)
              have uτ63_15 := nu_τ63.1 15 (by decide)
              have uτ63_16 := nu_τ63.1 16 (by decide)
              unfold wl_X9_seal_63
              have kp16 : gP τ63 th 2 = gP σ th 2 := (fτ63.O kth (by decide)).2.1
              have kp17 : gP τ63 th 9 = gP σ th 9 := (fτ63.O kth (by decide)).2.1
              have kp18 : gI τ63 th 10 = gI τ29 th 10 := (fτ63.O kth (by decide)).1.trans (fτ29.O kth (by decide)).1.symm
              have kp19 : gI τ63 th 12 = gI τ29 th 12 := (fτ63.O kth (by decide)).1.trans (fτ29.O kth (by decide)).1.symm
              have kp20 : gP τ63 th 0 = gP τ29 th 0 := (fτ63.O kth (by decide)).2.1.trans (fτ29.O kth (by decide)).2.1.symm
              have kp21 : gP τ63 th 1 = gP τ29 th 1 := (fτ63.O kth (by decide)).2.1.trans (fτ29.O kth (by decide)).2.1.symm
              unfold w_X9_seal_63
              refine ⟨J, (kp17.trans hj), fun kk_J => ?_⟩
              have q23 := I_4_2 iτ63.1 (kJ.up (xσ28.trans (xσ31.trans (xτ29.trans xτ63))))
              by_cases hc22 : v2 ≥ gI τ63 J 2
              · rw [if_pos hc22]
                unfold w_X9_seal_140
                exact hQ τ63 LLt63 Nt63 nut63 1 iτ63 fτ63 (nu_τ63) hnτ63 (by (first | omega | with_reducible assumption | with_reducible exact rng_toInt _ | with_reducible exact rng_wr _ | (unfold rng; omega) | (unfold rng at *; omega) | assumption))
              · rw [if_neg hc22]
                unfold w_X9_seal_74
                have s12a := iτ63.s12
                refine ⟨J, (kp17.trans hj), fun kk_J_1 => ?_⟩
                refine i_X4_outputOp iτ63 (kJ.up (xσ28.trans (xσ31.trans (xτ29.trans xτ63)))) (by (first | omega | with_reducible assumption | with_reducible exact rng_toInt _ | with_reducible exact rng_wr _ | (unfold rng; omega) | (unfold rng at *; omega) | assumption)) (fun c_σ38 pσ38 => ?_)
                intro xσ38
                intro tyt
                have krc_σ38 : kO τ63 c_σ38 5 := tyt c_σ38 rfl
                refine ⟨c_σ38, rfl, fun kk_c_σ38 => ?_⟩
                obtain ⟨b_4, eb_4, fb_4⟩ := P_9_7 iτ63.1 (kth.up (xσ28.trans (xσ31.trans (xτ29.trans xτ63))))
                have mb_4 : kO τ63 b_4 111 := iτ63.1.kd (kth.up (xσ28.trans (xσ31.trans (xτ29.trans xτ63)))) rfl eb_4 rfl
                refine ⟨b_4, eb_4, fun kk_b_4 => ?_⟩
                refine ⟨⟨by (first | omega | with_reducible assumption | with_reducible exact rng_toInt _ | with_reducible exact rng_wr _ | (unfold rng; omega) | (unfold rng at *; omega) | assumption), by (first | omega | with_reducible assumption | with_reducible exact rng_toInt _ | with_reducible exact rng_wr _ | (unfold rng; omega) | (unfold rng at *; omega) | assumption)⟩, ?_⟩
                obtain ⟨b_5, eb_5⟩ := P_111 iτ63.1 mb_4 (k := v2.toNat) (by (first | omega | with_reducible assumption | with_reducible exact rng_toInt _ | with_reducible exact rng_wr _ | (unfold rng; omega) | (unfold rng at *; omega) | assumption))
                have fb_5 := T_111 iτ63.1 mb_4 eb_5
                have mb_5 : kO τ63 b_5 1 := iτ63.1.kd mb_4 rfl eb_5 rfl
                refine ⟨b_5, eb_5, fun kk_b_5 => ?_⟩
                refine i_X1_takeFirst (G0 := (64 + v2.toNat)) iτ63 mb_5 (by omega) (fun σ43 LLσ43 Nσ43 nuσ43 r44 iσ43 cσ43 uσ43 hσ43 pσ43 => ?_)
                intro xσ43
                have fσ43 : Fx [1, 64, 192, 193, 195, 196, 197, 200, 201, 512, 650] gr σ σ43 := fτ63.tr (cσ43.mo (by decide))
                have hnσ43 : Hn (gD σ) [14, 64, 65, 66, 67, 68, 69, 70, 71, 21, 22, 31, 32, 5] [] gq LL LLσ43 N Nσ43 := hnτ63.go hσ43 (fun d hd => (fτ63.1 d hd).1) (by first | decide | exact fun _ h => h | (simp; done) | (intro x hx; simp only [List.mem_cons, List.mem_nil_iff, or_false] at hx ⊢; omega)) (fun d hd => absurd hd (by simp))
                have nσ43_3 := hσ43.2.2 3 (by first | decide | (simp; done) | (simp only [List.mem_cons, List.mem_nil_iff, or_false, not_or]; omega)) (by first | decide | omega) (by first | decide | omega) (by first | decide | omega)
                have nσ43_5 := hσ43.2.2 5 (by first | decide | (simp; done) | (simp only [List.mem_cons, List.mem_nil_iff, or_false, not_or]; omega)) (by first | decide | omega) (by first | decide | omega) (by first | decide | omega)
                have nσ43_14 := hσ43.2.2 14 (by first | decide | (simp; done) | (simp only [List.mem_cons, List.mem_nil_iff, or_false, not_or]; omega)) (by first | decide | omega) (by first | decide | omega) (by first | decide | omega)
                have nσ43_44 := hσ43.2.2 44 (by first | decide | (simp; done) | (simp only [List.mem_cons, List.mem_nil_iff, or_false, not_or]; omega)) (by first | decide | omega) (by first | decide | omega) (by first | decide | omega)
                have nσ43_74 := hσ43.2.2 74 (by first | decide | (simp; done) | (simp only [List.mem_cons, List.mem_nil_iff, or_false, not_or]; omega)) (by first | decide | omega) (by first | decide | omega) (by first | decide | omega)
                have nσ43_11 := hσ43.2.2 11 (by first | decide | (simp; done) | (simp only [List.mem_cons, List.mem_nil_iff, or_false, not_or]; omega)) (by first | decide | omega) (by first | decide | omega) (by first | decide | omega)
                have nσ43_12 := hσ43.2.2 12 (by first | decide | (simp; done) | (simp only [List.mem_cons, List.mem_nil_iff, or_false, not_or]; omega)) (by first | decide | omega) (by first | decide | omega) (by first | decide | omega)
                have nσ43_41 := hσ43.2.2 41 (by first | decide | (simp; done) | (simp only [List.mem_cons, List.mem_nil_iff, or_false, not_or]; omega)) (by first | decide | omega) (by first | decide | omega) (by first | decide | omega)
                have nσ43_42 := hσ43.2.2 42 (by first | decide | (simp; done) | (simp only [List.mem_cons, List.mem_nil_iff, or_false, not_or]; omega)) (by first | decide | omega) (by first | decide | omega) (by first | decide | omega)
                have nσ43_13 := hσ43.2.2 13 (by first | decide | (simp; done) | (simp only [List.mem_cons, List.mem_nil_iff, or_false, not_or]; omega)) (by first | decide | omega) (by first | decide | omega) (by first | decide | omega)
                have nσ43_50 := hσ43.2.2 50 (by first | decide | (simp; done) | (simp only [List.mem_cons, List.mem_nil_iff, or_false, not_or]; omega)) (by first | decide | omega) (by first | decide | omega) (by first | decide | omega)
                have nu_σ43 : NU nu nuσ43 := nu_τ63.tr uσ43
                have uσ43_0 := uσ43.1 0 (by decide)
                have uσ43_1 := uσ43.1 1 (by decide)
                have uσ43_2 := uσ43.2
                have uσ43_5 := uσ43.1 5 (by decide)
                have uσ43_15 := uσ43.1 15 (by decide)
                have uσ43_16 := uσ43.1 16 (by decide)
                have kp24 : gI σ43 J 2 = gI τ63 J 2 := (cσ43.O (kJ.up (xσ28.trans (xσ31.trans (xτ29.trans xτ63)))) (by decide)).1
                have kp25 : gI σ43 th 10 = gI τ63 th 10 := (cσ43.O (kth.up (xσ28.trans (xσ31.trans (xτ29.trans xτ63)))) (by decide)).1
                have kp26 : gI σ43 th 12 = gI τ63 th 12 := (cσ43.O (kth.up (xσ28.trans (xσ31.trans (xτ29.trans xτ63)))) (by decide)).1
                have kp27 : gP σ43 b_4 v2.toNat = gP τ63 b_4 v2.toNat := (cσ43.A mb_4 (by decide)).2.1
                have kp28 : gP σ43 th 0 = gP τ63 th 0 := (cσ43.O (kth.up (xσ28.trans (xσ31.trans (xτ29.trans xτ63)))) (by decide)).2.1
                have kp29 : gP σ43 th 1 = gP τ63 th 1 := (cσ43.O (kth.up (xσ28.trans (xσ31.trans (xτ29.trans xτ63)))) (by decide)).2.1
                have kp30 : gP σ43 th 2 = gP τ63 th 2 := (cσ43.O (kth.up (xσ28.trans (xσ31.trans (xτ29.trans xτ63)))) (by decide)).2.1
                have kp31 : gP σ43 th 7 = gP τ63 th 7 := (cσ43.O (kth.up (xσ28.trans (xσ31.trans (xτ29.trans xτ63)))) (by decide)).2.1
                have kp32 : gP σ43 th 9 = gP τ63 th 9 := (cσ43.O (kth.up (xσ28.trans (xσ31.trans (xτ29.trans xτ63)))) (by decide)).2.1
                intro tyt_1
                have Lp97 : ∀ (fu97 : Nat) (τ97 : Sg) (LLt97 : Nat → List Nat) (Nt97 nut97 : Nat → Nat) (v4 : Option Nat), IV τ97 pl gq ci gr nc ot LLt97 Nt97 nut97 → Fx [1, 64, 192, 193, 195, 196, 197, 200, 201, 512, 650] gr σ τ97 → Ext σ43 τ97 → NU nu nut97 → Hn (gD σ) [14, 64, 65, 66, 67, 68, 69, 70, 71, 21, 22, 31, 32, 5] [] gq LL LLt97 N Nt97 → ((∀ c9, v4 = some c9 → kO τ97 c9 0 ∧ (∀ x, c9 ∉ LLt97 x) ∧ Lo [] (gD σ) LL c9) ∧ (v4 = none → Nt97 1 = N 1 ∧ S12 Nt97 + Nt97 14 ≤ 2000) ∧ (v4 ≠ none → Nt97 1 = N 1 + 1 ∧ S12 Nt97 + Nt97 14 + 1 ≤ 2000) ∧ Nt97 5 = 0) → ((LLt97 b_5).length + (if v4 = none then 0 else 1)) < fu97 → wl_X9_seal_97 th (wl_X9_seal_63 th Q X fu63) Q X fu97 τ97 (gP τ29 b_2 2) v2 (gI τ63 c_σ38 3) v4 := by
                  intro fu97
                  induction fu97 with
                  | zero => intro _ _ _ _ _ _ _ _ _ _ _ h9; omega
                  | succ fu97 ih97 =>
                    intro τ97 LLt97 Nt97 nut97 v4 iτ97 fτ97 xτ97 nu_τ97 hnτ97 hi97 hm97
                    have nτ97_3 := hnτ97.2.2 3 (by first | decide | (simp; done) | (simp only [List.mem_cons, List.mem_nil_iff, or_false, not_or]; omega)) (by first | decide | omega) (by first | decide | omega) (by first | decide | omega)
                    have nτ97_44 := hnτ97.2.2 44 (by first | decide | (simp; done) | (simp only [List.mem_cons, List.mem_nil_iff, or_false, not_or]; omega)) (by first | decide | omega) (by first | decide | omega) (by first | decide | omega)
                    have nτ97_74 := hnτ97.2.2 74 (by first | decide | (simp; done) | (simp only [List.mem_cons, List.mem_nil_iff, or_false, not_or]; omega)) (by first | decide | omega) (by first | decide | omega) (by first | decide | omega)
                    have nτ97_11 := hnτ97.2.2 11 (by first | decide | (simp; done) | (simp only [List.mem_cons, List.mem_nil_iff, or_false, not_or]; omega)) (by first | decide | omega) (by first | decide | omega) (by first | decide | omega)
                    have nτ97_12 := hnτ97.2.2 12 (by first | decide | (simp; done) | (simp only [List.mem_cons, List.mem_nil_iff, or_false, not_or]; omega)) (by first | decide | omega) (by first | decide | omega) (by first | decide | omega)
                    have nτ97_41 := hnτ97.2.2 41 (by first | decide | (simp; done) | (simp only [List.mem_cons, List.mem_nil_iff, or_false, not_or]; omega)) (by first | decide | omega) (by first | decide | omega) (by first | decide | omega)
                    have nτ97_42 := hnτ97.2.2 42 (by first | decide | (simp; done) | (simp only [List.mem_cons, List.mem_nil_iff, or_false, not_or]; omega)) (by first | decide | omega) (by first | decide | omega) (by first | decide | omega)
                    have nτ97_13 := hnτ97.2.2 13 (by first | decide | (simp; done) | (simp only [List.mem_cons, List.mem_nil_iff, or_false, not_or]; omega)) (by first | decide | omega) (by first | decide | omega) (by first | decide | omega)
                    have nτ97_50 := hnτ97.2.2 50 (by first | decide | (simp; done) | (simp only [List.mem_cons, List.mem_nil_iff, or_false, not_or]; omega)) (by first | decide | omega) (by first | decide | omega) (by first | decide | omega)
                    have uτ97_0 := nu_τ97.1 0 (by decide)
                    have uτ97_1 := nu_τ97.1 1 (by decide)
                    have uτ97_2 := nu_τ97.2
                    have uτ97_5 := nu_τ97.1 5 (by decide)
                    have uτ97_15 := nu_τ97.1 15 (by decide)
                    have uτ97_16 := nu_τ97.1 16 (by decide)
                    unfold wl_X9_seal_97
                    have kp33 : gP τ97 th 2 = gP σ th 2 := (fτ97.O kth (by decide)).2.1
                    have kp34 : gP τ97 th 9 = gP σ th 9 := (fτ97.O kth (by decide)).2.1
                    have kp35 : gI τ97 J 2 = gI σ43 J 2 := (fτ97.O kJ (by decide)).1.trans (fσ43.O kJ (by decide)).1.symm
                    have kp36 : gI τ97 th 10 = gI σ43 th 10 := (fτ97.O kth (by decide)).1.trans (fσ43.O kth (by decide)).1.symm
                    have kp37 : gI τ97 th 12 = gI σ43 th 12 := (fτ97.O kth (by decide)).1.trans (fσ43.O kth (by decide)).1.symm
                    have kp38 : gP τ97 th 0 = gP σ43 th 0 := (fτ97.O kth (by decide)).2.1.trans (fσ43.O kth (by decide)).2.1.symm
                    have kp39 : gP τ97 th 1 = gP σ43 th 1 := (fτ97.O kth (by decide)).2.1.trans (fσ43.O kth (by decide)).2.1.symm
                    have kp40 : gP τ97 th 7 = gP σ43 th 7 := (fτ97.O kth (by decide)).2.1.trans (fσ43.O kth (by decide)).2.1.symm
                    unfold w_X9_seal_97
                    by_cases hc41 : v4 = none
                    · rw [if_pos hc41]
                      unfold w_X9_seal_124
                      have z97 := hi97.2.1 (by assumption)
                      obtain ⟨b_6, eb_6, fb_6⟩ := P_9_8 iτ97.1 (kth.up (xσ28.trans (xσ31.trans (xτ29.trans (xτ63.trans (xσ43.trans xτ97))))))
                      have mb_6 : kO τ97 b_6 111 := iτ97.1.kd (kth.up (xσ28.trans (xσ31.trans (xτ29.trans (xτ63.trans (xσ43.trans xτ97)))))) rfl eb_6 rfl
                      refine ⟨b_6, eb_6, fun kk_b_6 => ?_⟩
                      refine ⟨⟨by (first | omega | with_reducible assumption | with_reducible exact rng_toInt _ | with_reducible exact rng_wr _ | (unfold rng; omega) | (unfold rng at *; omega) | assumption), by (first | omega | with_reducible assumption | with_reducible exact rng_toInt _ | with_reducible exact rng_wr _ | (unfold rng; omega) | (unfold rng at *; omega) | assumption)⟩, ?_⟩
                      refine ⟨b_3, eb_3, fun kk_b_3 => ?_⟩
                      obtain ⟨b_7, eb_7⟩ := P_111 iτ97.1 mb_6 (k := v2.toNat) (by (first | omega | with_reducible assumption | with_reducible exact rng_toInt _ | with_reducible exact rng_wr _ | (unfold rng; omega) | (unfold rng at *; omega) | assumption))
                      have fb_7 := T_111 iτ97.1 mb_6 eb_7
                      have mb_7 : kO τ97 b_7 1 := iτ97.1.kd mb_6 rfl eb_7 rfl
                      refine i_X1_moveAllTo (G0 := 14) (G1 := (68 + v2.toNat)) iτ97 (mb_3.up (xτ63.trans (xσ43.trans xτ97))) eb_7 mb_7 (by omega) (by omega) (by omega) (by omega) (plc_y (G := 68 + v2.toNat) (by omega) (by rcases (show v2.toNat = 0 ∨ v2.toNat = 1 ∨ v2.toNat = 2 ∨ v2.toNat = 3 by omega) with e | e | e | e <;> rw [e] <;> decide)) (⟨by omega, by omega⟩) (fun N9 n1 n2 n3 => sc_mv iτ97 (by omega) n1 n2 n3 z97.2) (fun σ53 LLσ53 Nσ53 nuσ53 _ iσ53 cσ53 uσ53 hσ53 pσ53 => ?_)
                      intro xσ53
                      have fσ53 : Fx [1, 64, 192, 193, 195, 196, 197, 200, 201, 512, 650] gr σ σ53 := fτ97.tr (cσ53.mo (by decide))
                      have hnσ53 : Hn (gD σ) [14, 64, 65, 66, 67, 68, 69, 70, 71, 21, 22, 31, 32, 5] [] gq LL LLσ53 N Nσ53 := hnτ97.go hσ53 (fun d hd => (fτ97.1 d hd).1) (by first | decide | exact fun _ h => h | (simp; done) | (intro x hx; simp only [List.mem_cons, List.mem_nil_iff, or_false] at hx ⊢; omega)) (fun d hd => absurd hd (by simp))
                      have nσ53_3 := hσ53.2.2 3 (by first | decide | (simp; done) | (simp only [List.mem_cons, List.mem_nil_iff, or_false, not_or]; omega)) (by first | decide | omega) (by first | decide | omega) (by first | decide | omega)
                      have nσ53_5 := hσ53.2.2 5 (by first | decide | (simp; done) | (simp only [List.mem_cons, List.mem_nil_iff, or_false, not_or]; omega)) (by first | decide | omega) (by first | decide | omega) (by first | decide | omega)
                      have nσ53_44 := hσ53.2.2 44 (by first | decide | (simp; done) | (simp only [List.mem_cons, List.mem_nil_iff, or_false, not_or]; omega)) (by first | decide | omega) (by first | decide | omega) (by first | decide | omega)
                      have nσ53_74 := hσ53.2.2 74 (by first | decide | (simp; done) | (simp only [List.mem_cons, List.mem_nil_iff, or_false, not_or]; omega)) (by first | decide | omega) (by first | decide | omega) (by first | decide | omega)
                      have nσ53_11 := hσ53.2.2 11 (by first | decide | (simp; done) | (simp only [List.mem_cons, List.mem_nil_iff, or_false, not_or]; omega)) (by first | decide | omega) (by first | decide | omega) (by first | decide | omega)
                      have nσ53_12 := hσ53.2.2 12 (by first | decide | (simp; done) | (simp only [List.mem_cons, List.mem_nil_iff, or_false, not_or]; omega)) (by first | decide | omega) (by first | decide | omega) (by first | decide | omega)
                      have nσ53_41 := hσ53.2.2 41 (by first | decide | (simp; done) | (simp only [List.mem_cons, List.mem_nil_iff, or_false, not_or]; omega)) (by first | decide | omega) (by first | decide | omega) (by first | decide | omega)
                      have nσ53_42 := hσ53.2.2 42 (by first | decide | (simp; done) | (simp only [List.mem_cons, List.mem_nil_iff, or_false, not_or]; omega)) (by first | decide | omega) (by first | decide | omega) (by first | decide | omega)
                      have nσ53_13 := hσ53.2.2 13 (by first | decide | (simp; done) | (simp only [List.mem_cons, List.mem_nil_iff, or_false, not_or]; omega)) (by first | decide | omega) (by first | decide | omega) (by first | decide | omega)
                      have nσ53_50 := hσ53.2.2 50 (by first | decide | (simp; done) | (simp only [List.mem_cons, List.mem_nil_iff, or_false, not_or]; omega)) (by first | decide | omega) (by first | decide | omega) (by first | decide | omega)
                      have nu_σ53 : NU nu nuσ53 := nu_τ97.tr uσ53
                      have uσ53_0 := uσ53.1 0 (by decide)
                      have uσ53_1 := uσ53.1 1 (by decide)
                      have uσ53_2 := uσ53.2
                      have uσ53_5 := uσ53.1 5 (by decide)
                      have uσ53_15 := uσ53.1 15 (by decide)
                      have uσ53_16 := uσ53.1 16 (by decide)
                      have kp42 : gI σ53 J 2 = gI τ97 J 2 := (cσ53.O (kJ.up (xσ28.trans (xσ31.trans (xτ29.trans (xτ63.trans (xσ43.trans xτ97)))))) (by decide)).1
                      have kp43 : gI σ53 th 10 = gI τ97 th 10 := (cσ53.O (kth.up (xσ28.trans (xσ31.trans (xτ29.trans (xτ63.trans (xσ43.trans xτ97)))))) (by decide)).1
                      have kp44 : gI σ53 th 12 = gI τ97 th 12 := (cσ53.O (kth.up (xσ28.trans (xσ31.trans (xτ29.trans (xτ63.trans (xσ43.trans xτ97)))))) (by decide)).1
                      have kp45 : gP σ53 b_6 v2.toNat = gP τ97 b_6 v2.toNat := (cσ53.A mb_6 (by decide)).2.1
                      have kp46 : gP σ53 th 0 = gP τ97 th 0 := (cσ53.O (kth.up (xσ28.trans (xσ31.trans (xτ29.trans (xτ63.trans (xσ43.trans xτ97)))))) (by decide)).2.1
                      have kp47 : gP σ53 th 1 = gP τ97 th 1 := (cσ53.O (kth.up (xσ28.trans (xσ31.trans (xτ29.trans (xτ63.trans (xσ43.trans xτ97)))))) (by decide)).2.1
                      have kp48 : gP σ53 th 2 = gP τ97 th 2 := (cσ53.O (kth.up (xσ28.trans (xσ31.trans (xτ29.trans (xτ63.trans (xσ43.trans xτ97)))))) (by decide)).2.1
                      have kp49 : gP σ53 th 7 = gP τ97 th 7 := (cσ53.O (kth.up (xσ28.trans (xσ31.trans (xτ29.trans (xτ63.trans (xσ43.trans xτ97)))))) (by decide)).2.1
                      have kp50 : gP σ53 th 8 = gP τ97 th 8 := (cσ53.O (kth.up (xσ28.trans (xσ31.trans (xτ29.trans (xτ63.trans (xσ43.trans xτ97)))))) (by decide)).2.1
                      have kp51 : gP σ53 th 9 = gP τ97 th 9 := (cσ53.O (kth.up (xσ28.trans (xσ31.trans (xτ29.trans (xτ63.trans (xσ43.trans xτ97)))))) (by decide)).2.1
                      have o9 := iτ97.one (G := 14) (mb_3.up (xτ63.trans (xσ43.trans xτ97))) (by omega) (by decide)
                      refine ⟨by (first | omega | with_reducible assumption | with_reducible exact rng_toInt _ | with_reducible exact rng_wr _ | (unfold rng; omega) | (unfold rng at *; omega) | assumption), ?_⟩
                      exact ih63 σ53 LLσ53 Nσ53 nuσ53 (v2 + 1) iσ53 fσ53 (xτ63.trans (xσ43.trans (xτ97.trans xσ53))) nu_σ53 hnσ53 (by (first | omega | with_reducible assumption | with_reducible exact rng_toInt _ | with_reducible exact rng_wr _ | (unfold rng; omega) | (unfold rng at *; omega) | assumption)) (by (first | omega | with_reducible assumption | with_reducible exact rng_toInt _ | with_reducible exact rng_wr _ | (unfold rng; omega) | (unfold rng at *; omega) | assumption))
                    · rw [if_neg hc41]
                      unfold w_X9_seal_102
                      obtain ⟨b_8, eb_8⟩ := Option.ne_none_iff_exists'.mp hc41
                      have knb_8 : kO τ97 b_8 0 := (hi97.1 _ eb_8).1
                      have z9 := hi97.1 _ eb_8
                      have hz9 := z9.2.1
                      have lo_b_8 := z9.2.2
                      have n9 := hi97.2.2.1 (by rw [eb_8]; simp)
                      refine ⟨b_3, eb_3, fun kk_b_3_1 => ?_⟩
                      have q52 := I_5_3 iτ63.1 krc_σ38
                      refine i_X1_insert (G0 := 14) iτ97 (mb_3.up (xτ63.trans (xσ43.trans xτ97))) eb_8 knb_8 (by omega) (by (first | omega | with_reducible assumption | with_reducible exact rng_toInt _ | with_reducible exact rng_wr _ | (unfold rng; omega) | (unfold rng at *; omega) | assumption)) (by (first | omega | with_reducible assumption | with_reducible exact rng_toInt _ | with_reducible exact rng_wr _ | (unfold rng; omega) | (unfold rng at *; omega) | assumption)) (plc_y (G := 14) (by omega) (by decide)) (no50 (by decide)) (no13 (by decide)) (fun N9 n1 _ => iτ97.2.2.1.made (by decide) n1) (fun σ46 LLσ46 Nσ46 nuσ46 _ iσ46 cσ46 uσ46 hσ46 pσ46 => ?_)
                      intro xσ46
                      have fσ46 : Fx [1, 64, 192, 193, 195, 196, 197, 200, 201, 512, 650] gr σ σ46 := fτ97.tr (cσ46.mo (by decide))
                      have hnσ46 : Hn (gD σ) [14, 64, 65, 66, 67, 68, 69, 70, 71, 21, 22, 31, 32, 5] [] gq LL LLσ46 N Nσ46 := hnτ97.go hσ46 (fun d hd => (fτ97.1 d hd).1) (by first | decide | exact fun _ h => h | (simp; done) | (intro x hx; simp only [List.mem_cons, List.mem_nil_iff, or_false] at hx ⊢; omega)) (fun d hd => by rw [List.mem_singleton.mp hd]; exact lo_b_8)
                      have nσ46_3 := hσ46.2.2 3 (by first | decide | (simp; done) | (simp only [List.mem_cons, List.mem_nil_iff, or_false, not_or]; omega)) (by first | decide | omega) (by first | decide | omega) (by first | decide | omega)
                      have nσ46_5 := hσ46.2.2 5 (by first | decide | (simp; done) | (simp only [List.mem_cons, List.mem_nil_iff, or_false, not_or]; omega)) (by first | decide | omega) (by first | decide | omega) (by first | decide | omega)
                      have nσ46_44 := hσ46.2.2 44 (by first | decide | (simp; done) | (simp only [List.mem_cons, List.mem_nil_iff, or_false, not_or]; omega)) (by first | decide | omega) (by first | decide | omega) (by first | decide | omega)
                      have nσ46_74 := hσ46.2.2 74 (by first | decide | (simp; done) | (simp only [List.mem_cons, List.mem_nil_iff, or_false, not_or]; omega)) (by first | decide | omega) (by first | decide | omega) (by first | decide | omega)
                      have nσ46_11 := hσ46.2.2 11 (by first | decide | (simp; done) | (simp only [List.mem_cons, List.mem_nil_iff, or_false, not_or]; omega)) (by first | decide | omega) (by first | decide | omega) (by first | decide | omega)
                      have nσ46_12 := hσ46.2.2 12 (by first | decide | (simp; done) | (simp only [List.mem_cons, List.mem_nil_iff, or_false, not_or]; omega)) (by first | decide | omega) (by first | decide | omega) (by first | decide | omega)
                      have nσ46_41 := hσ46.2.2 41 (by first | decide | (simp; done) | (simp only [List.mem_cons, List.mem_nil_iff, or_false, not_or]; omega)) (by first | decide | omega) (by first | decide | omega) (by first | decide | omega)
                      have nσ46_42 := hσ46.2.2 42 (by first | decide | (simp; done) | (simp only [List.mem_cons, List.mem_nil_iff, or_false, not_or]; omega)) (by first | decide | omega) (by first | decide | omega) (by first | decide | omega)
                      have nσ46_13 := hσ46.2.2 13 (by first | decide | (simp; done) | (simp only [List.mem_cons, List.mem_nil_iff, or_false, not_or]; omega)) (by first | decide | omega) (by first | decide | omega) (by first | decide | omega)
                      have nσ46_50 := hσ46.2.2 50 (by first | decide | (simp; done) | (simp only [List.mem_cons, List.mem_nil_iff, or_false, not_or]; omega)) (by first | decide | omega) (by first | decide | omega) (by first | decide | omega)
                      have nu_σ46 : NU nu nuσ46 := nu_τ97.tr uσ46
                      have uσ46_0 := uσ46.1 0 (by decide)
                      have uσ46_1 := uσ46.1 1 (by decide)
                      have uσ46_2 := uσ46.2
                      have uσ46_5 := uσ46.1 5 (by decide)
                      have uσ46_15 := uσ46.1 15 (by decide)
                      have uσ46_16 := uσ46.1 16 (by decide)
                      have kp53 : gI σ46 J 2 = gI τ97 J 2 := (cσ46.O (kJ.up (xσ28.trans (xσ31.trans (xτ29.trans (xτ63.trans (xσ43.trans xτ97)))))) (by decide)).1
                      have kp54 : gI σ46 th 10 = gI τ97 th 10 := (cσ46.O (kth.up (xσ28.trans (xσ31.trans (xτ29.trans (xτ63.trans (xσ43.trans xτ97)))))) (by decide)).1
                      have kp55 : gI σ46 th 12 = gI τ97 th 12 := (cσ46.O (kth.up (xσ28.trans (xσ31.trans (xτ29.trans (xτ63.trans (xσ43.trans xτ97)))))) (by decide)).1
                      have kp56 : gP σ46 th 0 = gP τ97 th 0 := (cσ46.O (kth.up (xσ28.trans (xσ31.trans (xτ29.trans (xτ63.trans (xσ43.trans xτ97)))))) (by decide)).2.1
                      have kp57 : gP σ46 th 1 = gP τ97 th 1 := (cσ46.O (kth.up (xσ28.trans (xσ31.trans (xτ29.trans (xτ63.trans (xσ43.trans xτ97)))))) (by decide)).2.1
                      have kp58 : gP σ46 th 2 = gP τ97 th 2 := (cσ46.O (kth.up (xσ28.trans (xσ31.trans (xτ29.trans (xτ63.trans (xσ43.trans xτ97)))))) (by decide)).2.1
                      have kp59 : gP σ46 th 7 = gP τ97 th 7 := (cσ46.O (kth.up (xσ28.trans (xσ31.trans (xτ29.trans (xτ63.trans (xσ43.trans xτ97)))))) (by decide)).2.1
                      have kp60 : gP σ46 th 9 = gP τ97 th 9 := (cσ46.O (kth.up (xσ28.trans (xσ31.trans (xτ29.trans (xτ63.trans (xσ43.trans xτ97)))))) (by decide)).2.1
                      have laσ46 : (LLσ46 b_5).length = (LLt97 b_5).length := by rw [hσ46.1 b_5 (mb_5.up (xσ43.trans xτ97)).1 (by first | (simp; done) | (simp only [List.mem_cons, List.mem_nil_iff, or_false, not_or]; omega)) (by omega)]
                      have sqσ46 : S12 Nσ46 = S12 Nt97 := S12.eq (fun g a b => hσ46.2.2 g (by simp only [List.mem_cons, List.mem_nil_iff, or_false]; omega) (by omega) (by omega) (by omega))
                      refine ⟨b_4, (kp59.trans (kp40.trans (kp31.trans eb_4))), fun kk_b_4_1 => ?_⟩
                      have q61 := ((xσ43.trans (xτ97.trans xσ46)) b_4 mb_4.1).2.2
                      refine ⟨⟨by (first | omega | with_reducible assumption | with_reducible exact rng_toInt _ | with_reducible exact rng_wr _ | (unfold rng; omega) | (unfold rng at *; omega) | assumption), by (first | omega | with_reducible assumption | with_reducible exact rng_toInt _ | with_reducible exact rng_wr _ | (unfold rng; omega) | (unfold rng at *; omega) | assumption)⟩, ?_⟩
                      obtain ⟨b_9, eb_9⟩ := P_111 iσ46.1 (mb_4.up (xσ43.trans (xτ97.trans xσ46))) (k := v2.toNat) (by (first | omega | with_reducible assumption | with_reducible exact rng_toInt _ | with_reducible exact rng_wr _ | (unfold rng; omega) | (unfold rng at *; omega) | assumption))
                      have fb_9 := T_111 iσ46.1 (mb_4.up (xσ43.trans (xτ97.trans xσ46))) eb_9
                      have mb_9 : kO σ46 b_9 1 := iσ46.1.kd (mb_4.up (xσ43.trans (xτ97.trans xσ46))) rfl eb_9 rfl
                      refine ⟨b_9, eb_9, fun kk_b_9 => ?_⟩
                      have eqb : b_9 = b_5 := iσ46.unq mb_9 (mb_5.up (xσ43.trans (xτ97.trans xσ46))) rfl (by rw [show gq b_9 = 64 + v2.toNat by omega]; exact (by rcases (show v2.toNat = 0 ∨ v2.toNat = 1 ∨ v2.toNat = 2 ∨ v2.toNat = 3 by omega) with e | e | e | e <;> rw [e] <;> decide)) (by omega)
                      refine i_X1_takeFirst (G0 := (64 + v2.toNat)) iσ46 mb_9 (by omega) (fun σ49 LLσ49 Nσ49 nuσ49 r50 iσ49 cσ49 uσ49 hσ49 pσ49 => ?_)
                      intro xσ49
                      have fσ49 : Fx [1, 64, 192, 193, 195, 196, 197, 200, 201, 512, 650] gr σ σ49 := fσ46.tr (cσ49.mo (by decide))
                      have hnσ49 : Hn (gD σ) [14, 64, 65, 66, 67, 68, 69, 70, 71, 21, 22, 31, 32, 5] [] gq LL LLσ49 N Nσ49 := hnσ46.go hσ49 (fun d hd => (fσ46.1 d hd).1) (by first | decide | exact fun _ h => h | (simp; done) | (intro x hx; simp only [List.mem_cons, List.mem_nil_iff, or_false] at hx ⊢; omega)) (fun d hd => absurd hd (by simp))
                      have nσ49_3 := hσ49.2.2 3 (by first | decide | (simp; done) | (simp only [List.mem_cons, List.mem_nil_iff, or_false, not_or]; omega)) (by first | decide | omega) (by first | decide | omega) (by first | decide | omega)
                      have nσ49_5 := hσ49.2.2 5 (by first | decide | (simp; done) | (simp only [List.mem_cons, List.mem_nil_iff, or_false, not_or]; omega)) (by first | decide | omega) (by first | decide | omega) (by first | decide | omega)
                      have nσ49_14 := hσ49.2.2 14 (by first | decide | (simp; done) | (simp only [List.mem_cons, List.mem_nil_iff, or_false, not_or]; omega)) (by first | decide | omega) (by first | decide | omega) (by first | decide | omega)
                      have nσ49_44 := hσ49.2.2 44 (by first | decide | (simp; done) | (simp only [List.mem_cons, List.mem_nil_iff, or_false, not_or]; omega)) (by first | decide | omega) (by first | decide | omega) (by first | decide | omega)
                      have nσ49_74 := hσ49.2.2 74 (by first | decide | (simp; done) | (simp only [List.mem_cons, List.mem_nil_iff, or_false, not_or]; omega)) (by first | decide | omega) (by first | decide | omega) (by first | decide | omega)
                      have nσ49_11 := hσ49.2.2 11 (by first | decide | (simp; done) | (simp only [List.mem_cons, List.mem_nil_iff, or_false, not_or]; omega)) (by first | decide | omega) (by first | decide | omega) (by first | decide | omega)
                      have nσ49_12 := hσ49.2.2 12 (by first | decide | (simp; done) | (simp only [List.mem_cons, List.mem_nil_iff, or_false, not_or]; omega)) (by first | decide | omega) (by first | decide | omega) (by first | decide | omega)
                      have nσ49_41 := hσ49.2.2 41 (by first | decide | (simp; done) | (simp only [List.mem_cons, List.mem_nil_iff, or_false, not_or]; omega)) (by first | decide | omega) (by first | decide | omega) (by first | decide | omega)
                      have nσ49_42 := hσ49.2.2 42 (by first | decide | (simp; done) | (simp only [List.mem_cons, List.mem_nil_iff, or_false, not_or]; omega)) (by first | decide | omega) (by first | decide | omega) (by first | decide | omega)
                      have nσ49_13 := hσ49.2.2 13 (by first | decide | (simp; done) | (simp only [List.mem_cons, List.mem_nil_iff, or_false, not_or]; omega)) (by first | decide | omega) (by first | decide | omega) (by first | decide | omega)
                      have nσ49_50 := hσ49.2.2 50 (by first | decide | (simp; done) | (simp only [List.mem_cons, List.mem_nil_iff, or_false, not_or]; omega)) (by first | decide | omega) (by first | decide | omega) (by first | decide | omega)
                      have nu_σ49 : NU nu nuσ49 := nu_σ46.tr uσ49
                      have uσ49_0 := uσ49.1 0 (by decide)
                      have uσ49_1 := uσ49.1 1 (by decide)
                      have uσ49_2 := uσ49.2
                      have uσ49_5 := uσ49.1 5 (by decide)
                      have uσ49_15 := uσ49.1 15 (by decide)
                      have uσ49_16 := uσ49.1 16 (by decide)
                      have kp62 : gI σ49 J 2 = gI σ46 J 2 := (cσ49.O (kJ.up (xσ28.trans (xσ31.trans (xτ29.trans (xτ63.trans (xσ43.trans (xτ97.trans xσ46))))))) (by decide)).1
                      have kp63 : gI σ49 th 10 = gI σ46 th 10 := (cσ49.O (kth.up (xσ28.trans (xσ31.trans (xτ29.trans (xτ63.trans (xσ43.trans (xτ97.trans xσ46))))))) (by decide)).1
                      have kp64 : gI σ49 th 12 = gI σ46 th 12 := (cσ49.O (kth.up (xσ28.trans (xσ31.trans (xτ29.trans (xτ63.trans (xσ43.trans (xτ97.trans xσ46))))))) (by decide)).1
                      have kp65 : gP σ49 b_4 v2.toNat = gP σ46 b_4 v2.toNat := (cσ49.A (mb_4.up (xσ43.trans (xτ97.trans xσ46))) (by decide)).2.1
                      have kp66 : gP σ49 th 0 = gP σ46 th 0 := (cσ49.O (kth.up (xσ28.trans (xσ31.trans (xτ29.trans (xτ63.trans (xσ43.trans (xτ97.trans xσ46))))))) (by decide)).2.1
                      have kp67 : gP σ49 th 1 = gP σ46 th 1 := (cσ49.O (kth.up (xσ28.trans (xσ31.trans (xτ29.trans (xτ63.trans (xσ43.trans (xτ97.trans xσ46))))))) (by decide)).2.1
                      have kp68 : gP σ49 th 2 = gP σ46 th 2 := (cσ49.O (kth.up (xσ28.trans (xσ31.trans (xτ29.trans (xτ63.trans (xσ43.trans (xτ97.trans xσ46))))))) (by decide)).2.1
                      have kp69 : gP σ49 th 7 = gP σ46 th 7 := (cσ49.O (kth.up (xσ28.trans (xσ31.trans (xτ29.trans (xτ63.trans (xσ43.trans (xτ97.trans xσ46))))))) (by decide)).2.1
                      have kp70 : gP σ49 th 9 = gP σ46 th 9 := (cσ49.O (kth.up (xσ28.trans (xσ31.trans (xτ29.trans (xτ63.trans (xσ43.trans (xτ97.trans xσ46))))))) (by decide)).2.1
                      rw [eqb] at pσ49
                      intro tyt_2
                      exact ih97 σ49 LLσ49 Nσ49 nuσ49 r50 iσ49 fσ49 (xτ97.trans (xσ46.trans xσ49)) nu_σ49 hnσ49 (by rcases pσ49 with ⟨e1, e2, e3, e4⟩ | ⟨c, T9, e1, e2, e3, kc, hc, n1, n2, n3, n4⟩; (subst e2; exact ⟨fun _ q => (nomatch q), fun _ => ⟨by rw [e4]; omega, by rw [e4]; omega⟩, fun q => absurd rfl q, by rw [e4]; omega⟩); (subst e2; have s9 := S12.up (G := 64 + v2.toNat) (by omega) (fun g a b c => hσ49.2.2 g (by simp only [List.mem_cons, List.mem_nil_iff, or_false]; exact c) (by omega) (by omega) (by omega)); exact ⟨fun c9 q => by cases q; exact ⟨kc.up (by assumption), hc, hnσ46.loc (fun d hd => (fσ46.1 d hd).1) (Or.inr ⟨_, by rw [e1]; exact List.mem_cons_self⟩)⟩, fun q => (nomatch q), fun _ => ⟨by omega, by omega⟩, by omega⟩)) (by rcases pσ49 with ⟨e1, e2, e3, e4⟩ | ⟨c, T, e1, e2, e3, kc, hc, n1, n2, n3, n4⟩; (subst e2; rw [e3, if_pos rfl]; rw [if_neg (by rw [eb_8]; simp)] at hm97; omega); (subst e2; rw [if_neg (by simp)]; rw [if_neg (by rw [eb_8]; simp)] at hm97; have l1 := congrArg List.length e1; rw [List.length_cons] at l1; rw [e3, up1_s]; omega))
                have q71 := I_5_3 iτ63.1 krc_σ38
                exact ⟨_, Lp97 _ σ43 LLσ43 Nσ43 nuσ43 _ iσ43 fσ43 (Ext.rfl' _) nu_σ43 hnσ43 (by rcases pσ43 with ⟨e1, e2, e3, e4⟩ | ⟨c, T9, e1, e2, e3, kc, hc, n1, n2, n3, n4⟩; (subst e2; exact ⟨fun _ q => (nomatch q), fun _ => ⟨by rw [e4]; omega, by rw [e4]; omega⟩, fun q => absurd rfl q, by rw [e4]; omega⟩); (subst e2; have s9 := S12.up (G := 64 + v2.toNat) (by omega) (fun g a b c => hσ43.2.2 g (by simp only [List.mem_cons, List.mem_nil_iff, or_false]; exact c) (by omega) (by omega) (by omega)); exact ⟨fun c9 q => by cases q; exact ⟨kc.up xσ43, hc, hnτ63.loc (fun d hd => (fτ63.1 d hd).1) (Or.inr ⟨_, by rw [e1]; exact List.mem_cons_self⟩)⟩, fun q => (nomatch q), fun _ => ⟨by omega, by omega⟩, by omega⟩)) (Nat.lt_succ_self _)⟩
          exact ⟨_, Lp63 _ τ29 LLt29 Nt29 nut29 _ iτ29 fτ29 (Ext.rfl' _) nu_τ29 hnτ29 (by (first | omega | with_reducible assumption | with_reducible exact rng_toInt _ | with_reducible exact rng_wr _ | (unfold rng; omega) | (unfold rng at *; omega) | assumption)) (Nat.lt_succ_self _)⟩
        · rw [if_neg hc13]
          unfold w_X9_seal_37
          obtain ⟨b_10, eb_10, fb_10⟩ := P_9_3 iτ29.1 (kth.up (xσ28.trans (xσ31.trans xτ29)))
          have mb_10 : kO τ29 b_10 120 := iτ29.1.kd (kth.up (xσ28.trans (xσ31.trans xτ29))) rfl eb_10 rfl
          refine ⟨b_10, eb_10, fun kk_b_10 => ?_⟩
          refine ⟨⟨by (first | omega | with_reducible assumption | with_reducible exact rng_toInt _ | with_reducible exact rng_wr _ | (unfold rng; omega) | (unfold rng at *; omega) | assumption), by (first | omega | with_reducible assumption | with_reducible exact rng_toInt _ | with_reducible exact rng_wr _ | (unfold rng; omega) | (unfold rng at *; omega) | assumption)⟩, ?_⟩
          have n16b_11 := iτ29.n16
          obtain ⟨b_11, eb_11, mb_11, fb_11⟩ := P_120 iτ29 mb_10 (by omega) (k := v1.toNat) (by (first | omega | with_reducible assumption | with_reducible exact rng_toInt _ | with_reducible exact rng_wr _ | (unfold rng; omega) | (unfold rng at *; omega) | assumption))
          refine ⟨b_11, eb_11, fun kk_b_11 => ?_⟩
          intro σ35 eσ35
          have xσ35 : Ext τ29 σ35 := by rw [eσ35]; exact fun _ h => ⟨h, rfl, rfl⟩
          have iσ35 : IV σ35 pl gq ci gr nc ot LLt29 Nt29 nut29 := by rw [eσ35]; exact iτ29.wO mb_11 (by decide) (show (0 : Int) ≤ 0 ∧ 0 ≤ 1 from ⟨by (first | omega | with_reducible assumption | with_reducible exact rng_toInt _ | with_reducible exact rng_wr _ | (unfold rng; omega) | (unfold rng at *; omega) | assumption), by (first | omega | with_reducible assumption | with_reducible exact rng_toInt _ | with_reducible exact rng_wr _ | (unfold rng; omega) | (unfold rng at *; omega) | assumption)⟩)
          have fσ35 : Fx [1, 64, 192, 193, 195, 196, 197, 200, 201, 512, 650] gr σ σ35 := fτ29.tr (Sk.fx (by rw [eσ35]; exact Sk.pI (by rw [fcdO mb_11 (by decide)]; decide)))
          have wσ35 : gI σ35 b_11 10 = 0 := by rw [eσ35]; exact up2_s _ _ _ _
          have kp72 : gI σ35 th 10 = gI τ29 th 10 := by rw [eσ35]; exact up2_n _ _ (fun q => absurd q.1 (kO.ne (kth.up (xσ28.trans (xσ31.trans xτ29))) mb_11 (by decide)))
          have kp73 : gI σ35 th 12 = gI τ29 th 12 := by rw [eσ35]; exact up2_n _ _ (fun q => absurd q.2 (by decide))
          have kp74 : gP σ35 b_10 v1.toNat = gP τ29 b_10 v1.toNat := by rw [eσ35]
          have kp75 : gP σ35 th 0 = gP τ29 th 0 := by rw [eσ35]
          have kp76 : gP σ35 th 2 = gP τ29 th 2 := by rw [eσ35]
          have kp77 : gP σ35 th 3 = gP τ29 th 3 := by rw [eσ35]
          have kp78 : gP σ35 th 9 = gP τ29 th 9 := by rw [eσ35]
          refine ⟨by (first | omega | with_reducible assumption | with_reducible exact rng_toInt _ | with_reducible exact rng_wr _ | (unfold rng; omega) | (unfold rng at *; omega) | assumption), ?_⟩
          exact ih29 σ35 LLt29 Nt29 nut29 (v1 + 1) iσ35 fσ35 (xτ29.trans xσ35) nu_τ29 hnτ29 (by (first | omega | with_reducible assumption | with_reducible exact rng_toInt _ | with_reducible exact rng_wr _ | (unfold rng; omega) | (unfold rng at *; omega) | assumption)) (by (first | omega | with_reducible assumption | with_reducible exact rng_toInt _ | with_reducible exact rng_wr _ | (unfold rng; omega) | (unfold rng at *; omega) | assumption))
    exact ⟨_, Lp29 _ σ31 LLσ31 Nσ31 nuσ31 _ iσ31 fσ31 (Ext.rfl' _) nu_σ31 hnσ31 (by (first | omega | with_reducible assumption | with_reducible exact rng_toInt _ | with_reducible exact rng_wr _ | (unfold rng; omega) | (unfold rng at *; omega) | assumption)) (Nat.lt_succ_self _)⟩
  · rw [if_neg hc3]
    have hc3q := Classical.not_not.mp hc3
    unfold w_X9_seal_10
    exact hQ σ28 LL N nu 0 iσ28 fσ28 (NU.rf) hnσ (by (first | omega | with_reducible assumption | with_reducible exact rng_toInt _ | with_reducible exact rng_wr _ | (unfold rng; omega) | (unfold rng at *; omega) | assumption))

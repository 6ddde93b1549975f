set_option maxHeartbeats 1000000 in
theorem i_X7_limit {σ : Sg} {pl : Nat} {gq ci gr nc : Nat → Nat} {ot : Nat → Nat → Int} {LL : Nat → List Nat} {N nu : Nat → Nat} {th : Nat} (iσ : IV σ pl gq ci gr nc ot LL N nu) (kth : kO σ th 7) (h5 : nu 5 < 24000) {Q : Sg → Unit → Prop} {X : Sg → String → Prop} (hQ : ∀ (σ' : Sg) (r : Unit), IV σ' pl gq ci gr nc ot LL N nu → Fx [] gr σ σ' → (gI σ th 6 + (N 44 : Int) ≤ 4000) → Q σ' r) (hX : ∀ (σ' : Sg) (LL' : Nat → List Nat) (N' nu' : Nat → Nat) (E : String), IV σ' pl gq ci gr nc ot LL' N' nu' → Fx [] gr σ σ' → NX nu nu' → ((N' 1 ≤ N 1 + 0 ∧ N' 5 = N 5 ∧ N' 3 = N 3 ∧ N' 14 = N 14 ∧ N' 44 = N 44 ∧ N' 74 = N 74) ∧ E = "java/lang/IllegalStateException") → X σ' E) : wp_X7_limit th σ Q X := by
  have fσ : Fx [] gr σ σ := Fx.rf
  unfold wp_X7_limit
  unfold w_X7_limit_0
  obtain ⟨b, eb, fb⟩ := P_7_1 iσ.1 kth
  have mb : kO σ b 11 := iσ.1.kd kth rfl eb rfl
  refine ⟨b, eb, fun kk_b => ?_⟩
  obtain ⟨b_1, eb_1, fb_1⟩ := P_11_2 iσ.1 mb
  have mb_1 : kO σ b_1 1 := iσ.1.kd mb rfl eb_1 rfl
  refine ⟨b_1, eb_1, fun kk_b_1 => ?_⟩
  have q1 := I_7_6 iσ.1 kth
  have q2 := iσ.size mb_1
  have qz2 := iσ.sz mb_1.1
  refine ⟨by (first | omega | with_reducible assumption | with_reducible exact rng_toInt _ | with_reducible exact rng_wr _ | (unfold rng; omega) | (unfold rng at *; omega) | assumption), ?_⟩
  by_cases hc3 : (gI σ th 6 + gI σ b_1 2) ≤ 4000
  · rw [if_pos hc3]
    unfold w_X7_limit_29
    exact hQ σ () iσ fσ (by have o9 := iσ.one (G := 44) mb_1 (by omega) (by decide); omega)
  · rw [if_neg hc3]
    unfold w_X7_limit_21
    refine ⟨iσ.room, ?_⟩
    exact hX _ _ _ _ _ (iσ.bump (by (first | omega | with_reducible assumption | with_reducible exact rng_toInt _ | with_reducible exact rng_wr _ | (unfold rng; omega) | (unfold rng at *; omega) | assumption))) (fσ.tr Fx.bump) (NX.bump) (by first | exact ⟨by omega, rfl⟩ | (first | omega | with_reducible assumption | with_reducible exact rng_toInt _ | with_reducible exact rng_wr _ | (unfold rng; omega) | (unfold rng at *; omega) | assumption))
set_option maxHeartbeats 1000000 in
theorem i_X7_readSource {σ : Sg} {pl : Nat} {gq ci gr nc : Nat → Nat} {ot : Nat → Nat → Int} {LL : Nat → List Nat} {N nu : Nat → Nat} {th : Nat} {v1 : Option Nat} {J W i : Nat} (iσ : IV σ pl gq ci gr nc ot LL N nu) (kth : kO σ th 7) {o : Nat} (hv1 : v1 = some o) (ko : kO σ o 5) (hj : gP σ th 5 = some J) (hw : gP σ th 1 = some W) (kW : kO σ W 11) (hWJ : gP σ W 5 = some J) (kJ : kO σ J 4) (hJ : gq J = nc 0) (ho : gq o = 16 * nc 0 + i) (hi : i < nc 1) (hk : ot i 6 = 0) (hb : N 14 + N 44 + N 74 + N 1 ≤ 30000) {Q : Sg → Unit → Prop} {X : Sg → String → Prop} (hQ : ∀ (σ' : Sg) (LL' : Nat → List Nat) (N' nu' : Nat → Nat) (r : Unit), IV σ' pl gq ci gr nc ot LL' N' nu' → Fx [1, 2, 3, 4, 5, 6, 7, 64, 512, 6464] gr σ σ' → NU nu nu' → Hn (gD σ) [44] [] gq LL LL' N N' → (N' 1 = N 1 ∧ N' 44 ≤ N 44 + 64) → Q σ' r) : wp_X7_readSource th v1 σ Q X := by
  have fσ : Fx [1, 2, 3, 4, 5, 6, 7, 64, 512, 6464] gr σ σ := Fx.rf
  have hnσ : Hn (gD σ) [44] [] gq LL LL N N := Hn.rf
  have fW := T_7_1 iσ.1 kth hw
  have ok := iσ.opok hi
  have h9 := ok.2.2.2.2.2.2.2.2.1 (by omega)
  have h90 := ok.2.2.2.2.2.2.2.2.2.2.2.1
  unfold wp_X7_readSource
  unfold w_X7_readSource_0
  have Lp7 : ∀ (fu7 : Nat) (τ7 : Sg) (LLt7 : Nat → List Nat) (Nt7 nut7 : Nat → Nat) (v2 : Int64) (v4 : Int), IV τ7 pl gq ci gr nc ot LLt7 Nt7 nut7 → Fx [1, 2, 3, 4, 5, 6, 7, 64, 512, 6464] gr σ τ7 → Ext σ τ7 → NU nu nut7 → Hn (gD σ) [44] [] gq LL LLt7 N Nt7 → ((0 ≤ v4 ∧ v4 ≤ 64) ∧ Nt7 1 = N 1 ∧ Nt7 44 ≤ N 44 + v4.toNat) → ((64 - v4).toNat) < fu7 → wl_X7_readSource_7 th Q X fu7 τ7 v1 v2 v4 := by
    intro fu7
    induction fu7 with
    | zero => intro _ _ _ _ _ _ _ _ _ _ _ _ h9; omega
    | succ fu7 ih7 =>
      intro τ7 LLt7 Nt7 nut7 v2 v4 iτ7 fτ7 xτ7 nu_τ7 hnτ7 hi7 hm7
      have nτ7_3 := hnτ7.2.2 3 (by first | decide | (simp; done) | (simp only [List.mem_cons, List.mem_nil_iff, or_false, not_or]; omega)) (by first | decide | omega) (by first | decide | omega) (by first | decide | omega)
      have nτ7_5 := hnτ7.2.2 5 (by first | decide | (simp; done) | (simp only [List.mem_cons, List.mem_nil_iff, or_false, not_or]; omega)) (by first | decide | omega) (by first | decide | omega) (by first | decide | omega)
      have nτ7_14 := hnτ7.2.2 14 (by first | decide | (simp; done) | (simp only [List.mem_cons, List.mem_nil_iff, or_false, not_or]; omega)) (by first | decide | omega) (by first | decide | omega) (by first | decide | omega)
      have nτ7_74 := hnτ7.2.2 74 (by first | decide | (simp; done) | (simp only [List.mem_cons, List.mem_nil_iff, or_false, not_or]; omega)) (by first | decide | omega) (by first | decide | omega) (by first | decide | omega)
      have nτ7_41 := hnτ7.2.2 41 (by first | decide | (simp; done) | (simp only [List.mem_cons, List.mem_nil_iff, or_false, not_or]; omega)) (by first | decide | omega) (by first | decide | omega) (by first | decide | omega)
      have nτ7_42 := hnτ7.2.2 42 (by first | decide | (simp; done) | (simp only [List.mem_cons, List.mem_nil_iff, or_false, not_or]; omega)) (by first | decide | omega) (by first | decide | omega) (by first | decide | omega)
      have nτ7_11 := hnτ7.2.2 11 (by first | decide | (simp; done) | (simp only [List.mem_cons, List.mem_nil_iff, or_false, not_or]; omega)) (by first | decide | omega) (by first | decide | omega) (by first | decide | omega)
      have nτ7_12 := hnτ7.2.2 12 (by first | decide | (simp; done) | (simp only [List.mem_cons, List.mem_nil_iff, or_false, not_or]; omega)) (by first | decide | omega) (by first | decide | omega) (by first | decide | omega)
      have nτ7_13 := hnτ7.2.2 13 (by first | decide | (simp; done) | (simp only [List.mem_cons, List.mem_nil_iff, or_false, not_or]; omega)) (by first | decide | omega) (by first | decide | omega) (by first | decide | omega)
      have uτ7_0 := nu_τ7.1 0 (by decide)
      have uτ7_1 := nu_τ7.1 1 (by decide)
      have uτ7_2 := nu_τ7.2
      have uτ7_5 := nu_τ7.1 5 (by decide)
      have uτ7_15 := nu_τ7.1 15 (by decide)
      have uτ7_16 := nu_τ7.1 16 (by decide)
      unfold wl_X7_readSource_7
      have kp1 : gP τ7 W 5 = gP σ W 5 := (fτ7.O kW (by decide)).2.1
      have kp2 : gP τ7 th 1 = gP σ th 1 := (fτ7.O kth (by decide)).2.1
      have kp3 : gP τ7 th 5 = gP σ th 5 := (fτ7.O kth (by decide)).2.1
      unfold w_X7_readSource_7
      have q9 := iτ7.op (ko.up xτ7) ho hi 9 (by decide)
      refine ⟨J, (kp3.trans hj), fun kk_J => ?_⟩
      refine ⟨o, hv1, fun kk_o => ?_⟩
      obtain ⟨b, eb, fb⟩ := P_4_12 iτ7.1 (kJ.up xτ7)
      have mb : kO τ7 b 100 := iτ7.1.kd (kJ.up xτ7) rfl eb rfl
      refine ⟨b, eb, fun kk_b => ?_⟩
      have q4 := I_5_9 iτ7.1 (ko.up xτ7)
      refine ⟨⟨by (first | omega | with_reducible assumption | with_reducible exact rng_toInt _ | with_reducible exact rng_wr _ | (unfold rng; omega) | (unfold rng at *; omega) | assumption), by (first | omega | with_reducible assumption | with_reducible exact rng_toInt _ | with_reducible exact rng_wr _ | (unfold rng; omega) | (unfold rng at *; omega) | assumption)⟩, ?_⟩
      have q6 := I_132 iτ7.1 mb (by omega) (gI τ7 o 9).toNat
      by_cases hc5 : v4 ≥ (gI τ7 b (gI τ7 o 9).toNat)
      · rw [if_pos hc5]
        unfold w_X7_readSource_106
        exact hQ τ7 LLt7 Nt7 nut7 () iτ7 fτ7 (nu_τ7) hnτ7 (by (first | omega | with_reducible assumption | with_reducible exact rng_toInt _ | with_reducible exact rng_wr _ | (unfold rng; omega) | (unfold rng at *; omega) | assumption))
      · rw [if_neg hc5]
        unfold w_X7_readSource_24
        obtain ⟨b_1, eb_1⟩ := P_7_0 iτ7.1 (kth.up xτ7)
        refine ⟨b_1, eb_1, fun kk_b_1 => ?_⟩
        refine i_X8_fresh iτ7 kk_b_1 (by (first | omega | with_reducible assumption | with_reducible exact rng_toInt _ | with_reducible exact rng_wr _ | (unfold rng; omega) | (unfold rng at *; omega) | assumption)) (fun σ23 LLσ23 Nσ23 nuσ23 c_σ23 iσ23 cσ23 uσ23 hσ23 pσ23 => ?_)
        intro xσ23
        have fσ23 : Fx [1, 2, 3, 4, 5, 6, 7, 64, 512, 6464] gr σ σ23 := fτ7.tr (cσ23.mo (by decide))
        have hnσ23 : Hn (gD σ) [44] [] gq LL LLσ23 N Nσ23 := hnτ7.go hσ23 (fun d hd => (fτ7.1 d hd).1) (by first | decide | exact fun _ h => h | (simp; done) | (intro x hx; simp only [List.mem_cons, List.mem_nil_iff, or_false] at hx ⊢; omega)) (fun d hd => absurd hd (by simp))
        have hf_c_σ23 : ∀ x, c_σ23 ∉ LLσ23 x := pσ23.1
        have lo_c_σ23 : Lo [] (gD σ) LL c_σ23 := hnτ7.loc (fun d hd => (fτ7.1 d hd).1) pσ23.2.2.1
        have nσ23_3 := hσ23.2.2 3 (by first | decide | (simp; done) | (simp only [List.mem_cons, List.mem_nil_iff, or_false, not_or]; omega)) (by first | decide | omega) (by first | decide | omega) (by first | decide | omega)
        have nσ23_5 := hσ23.2.2 5 (by first | decide | (simp; done) | (simp only [List.mem_cons, List.mem_nil_iff, or_false, not_or]; omega)) (by first | decide | omega) (by first | decide | omega) (by first | decide | omega)
        have nσ23_14 := hσ23.2.2 14 (by first | decide | (simp; done) | (simp only [List.mem_cons, List.mem_nil_iff, or_false, not_or]; omega)) (by first | decide | omega) (by first | decide | omega) (by first | decide | omega)
        have nσ23_44 := hσ23.2.2 44 (by first | decide | (simp; done) | (simp only [List.mem_cons, List.mem_nil_iff, or_false, not_or]; omega)) (by first | decide | omega) (by first | decide | omega) (by first | decide | omega)
        have nσ23_74 := hσ23.2.2 74 (by first | decide | (simp; done) | (simp only [List.mem_cons, List.mem_nil_iff, or_false, not_or]; omega)) (by first | decide | omega) (by first | decide | omega) (by first | decide | omega)
        have nσ23_41 := hσ23.2.2 41 (by first | decide | (simp; done) | (simp only [List.mem_cons, List.mem_nil_iff, or_false, not_or]; omega)) (by first | decide | omega) (by first | decide | omega) (by first | decide | omega)
        have nσ23_42 := hσ23.2.2 42 (by first | decide | (simp; done) | (simp only [List.mem_cons, List.mem_nil_iff, or_false, not_or]; omega)) (by first | decide | omega) (by first | decide | omega) (by first | decide | omega)
        have nσ23_11 := hσ23.2.2 11 (by first | decide | (simp; done) | (simp only [List.mem_cons, List.mem_nil_iff, or_false, not_or]; omega)) (by first | decide | omega) (by first | decide | omega) (by first | decide | omega)
        have nσ23_12 := hσ23.2.2 12 (by first | decide | (simp; done) | (simp only [List.mem_cons, List.mem_nil_iff, or_false, not_or]; omega)) (by first | decide | omega) (by first | decide | omega) (by first | decide | omega)
        have nσ23_13 := hσ23.2.2 13 (by first | decide | (simp; done) | (simp only [List.mem_cons, List.mem_nil_iff, or_false, not_or]; omega)) (by first | decide | omega) (by first | decide | omega) (by first | decide | omega)
        have nu_σ23 : NU nu nuσ23 := nu_τ7.tr uσ23
        have uσ23_0 := uσ23.1 0 (by decide)
        have uσ23_1 := uσ23.1 1 (by decide)
        have uσ23_2 := uσ23.2
        have uσ23_5 := uσ23.1 5 (by decide)
        have uσ23_15 := uσ23.1 15 (by decide)
        have uσ23_16 := uσ23.1 16 (by decide)
        have kp7 : gI σ23 o 9 = gI τ7 o 9 := (cσ23.O (ko.up xτ7) (by decide)).1
        have kp8 : gP σ23 J 12 = gP τ7 J 12 := (cσ23.O (kJ.up xτ7) (by decide)).2.1
        have kp9 : gP σ23 W 5 = gP τ7 W 5 := (cσ23.O (kW.up xτ7) (by decide)).2.1
        have kp10 : gP σ23 th 0 = gP τ7 th 0 := (cσ23.O (kth.up xτ7) (by decide)).2.1
        have kp11 : gP σ23 th 1 = gP τ7 th 1 := (cσ23.O (kth.up xτ7) (by decide)).2.1
        have kp12 : gP σ23 th 5 = gP τ7 th 5 := (cσ23.O (kth.up xτ7) (by decide)).2.1
        have q9f := iσ23.op (ko.up (xτ7.trans xσ23)) ho hi 9 (by decide)
        intro tyt
        have krc_σ23 : kO σ23 c_σ23 0 := tyt c_σ23 rfl
        refine ⟨o, hv1, fun kk_o_1 => ?_⟩
        refine ⟨J, (kp12.trans (kp3.trans hj)), fun kk_J_1 => ?_⟩
        refine i_X4_readInto iσ23 (kJ.up (xτ7.trans xσ23)) rfl krc_σ23 (by (first | omega | with_reducible assumption | with_reducible exact rng_toInt _ | with_reducible exact rng_wr _ | (unfold rng; omega) | (unfold rng at *; omega) | assumption)) (by (first | omega | with_reducible assumption | with_reducible exact rng_toInt _ | with_reducible exact rng_wr _ | (unfold rng; omega) | (unfold rng at *; omega) | assumption)) (fun σ27 _ iσ27 cσ27 pσ27 => ?_)
        intro xσ27
        have fσ27 : Fx [1, 2, 3, 4, 5, 6, 7, 64, 512, 6464] gr σ σ27 := fσ23.tr (cσ27.mo (by decide))
        have kp13 : gI σ27 o 9 = gI σ23 o 9 := (cσ27.O (ko.up (xτ7.trans xσ23)) (by decide)).1
        have kp14 : gP σ27 J 12 = gP σ23 J 12 := (cσ27.O (kJ.up (xτ7.trans xσ23)) (by decide)).2.1
        have kp15 : gP σ27 W 5 = gP σ23 W 5 := (cσ27.O (kW.up (xτ7.trans xσ23)) (by decide)).2.1
        have kp16 : gP σ27 th 0 = gP σ23 th 0 := (cσ27.O (kth.up (xτ7.trans xσ23)) (by decide)).2.1
        have kp17 : gP σ27 th 1 = gP σ23 th 1 := (cσ27.O (kth.up (xτ7.trans xσ23)) (by decide)).2.1
        have kp18 : gP σ27 th 5 = gP σ23 th 5 := (cσ27.O (kth.up (xτ7.trans xσ23)) (by decide)).2.1
        refine ⟨c_σ23, rfl, fun kk_c_σ23 => ?_⟩
        by_cases hc19 : gJ σ27 c_σ23 5 ≤ v2
        · rw [if_pos hc19]
          unfold w_X7_readSource_91
          refine ⟨b_1, (kp16.trans (kp10.trans eb_1)), fun kk_b_1_1 => ?_⟩
          refine i_X8_release iσ27 (kk_b_1.up (xσ23.trans xσ27)) rfl (krc_σ23.up xσ27) (by (first | omega | with_reducible assumption | with_reducible exact rng_toInt _ | with_reducible exact rng_wr _ | (unfold rng; omega) | (unfold rng at *; omega) | assumption)) (by (first | omega | with_reducible assumption | with_reducible exact rng_toInt _ | with_reducible exact rng_wr _ | (unfold rng; omega) | (unfold rng at *; omega) | assumption)) (fun σ37 LLσ37 Nσ37 nuσ37 _ iσ37 cσ37 uσ37 hσ37 pσ37 => ?_)
          intro xσ37
          have fσ37 : Fx [1, 2, 3, 4, 5, 6, 7, 64, 512, 6464] gr σ σ37 := fσ27.tr (cσ37.mo (by decide))
          have hnσ37 : Hn (gD σ) [44] [] gq LL LLσ37 N Nσ37 := hnσ23.go hσ37 (fun d hd => (fσ27.1 d hd).1) (by first | decide | exact fun _ h => h | (simp; done) | (intro x hx; simp only [List.mem_cons, List.mem_nil_iff, or_false] at hx ⊢; omega)) (fun d hd => by rw [List.mem_singleton.mp hd]; exact lo_c_σ23)
          have nσ37_3 := hσ37.2.2 3 (by first | decide | (simp; done) | (simp only [List.mem_cons, List.mem_nil_iff, or_false, not_or]; omega)) (by first | decide | omega) (by first | decide | omega) (by first | decide | omega)
          have nσ37_5 := hσ37.2.2 5 (by first | decide | (simp; done) | (simp only [List.mem_cons, List.mem_nil_iff, or_false, not_or]; omega)) (by first | decide | omega) (by first | decide | omega) (by first | decide | omega)
          have nσ37_14 := hσ37.2.2 14 (by first | decide | (simp; done) | (simp only [List.mem_cons, List.mem_nil_iff, or_false, not_or]; omega)) (by first | decide | omega) (by first | decide | omega) (by first | decide | omega)
          have nσ37_44 := hσ37.2.2 44 (by first | decide | (simp; done) | (simp only [List.mem_cons, List.mem_nil_iff, or_false, not_or]; omega)) (by first | decide | omega) (by first | decide | omega) (by first | decide | omega)
          have nσ37_74 := hσ37.2.2 74 (by first | decide | (simp; done) | (simp only [List.mem_cons, List.mem_nil_iff, or_false, not_or]; omega)) (by first | decide | omega) (by first | decide | omega) (by first | decide | omega)
          have nσ37_41 := hσ37.2.2 41 (by first | decide | (simp; done) | (simp only [List.mem_cons, List.mem_nil_iff, or_false, not_or]; omega)) (by first | decide | omega) (by first | decide | omega) (by first | decide | omega)
          have nσ37_42 := hσ37.2.2 42 (by first | decide | (simp; done) | (simp only [List.mem_cons, List.mem_nil_iff, or_false, not_or]; omega)) (by first | decide | omega) (by first | decide | omega) (by first | decide | omega)
          have nσ37_11 := hσ37.2.2 11 (by first | decide | (simp; done) | (simp only [List.mem_cons, List.mem_nil_iff, or_false, not_or]; omega)) (by first | decide | omega) (by first | decide | omega) (by first | decide | omega)
          have nσ37_12 := hσ37.2.2 12 (by first | decide | (simp; done) | (simp only [List.mem_cons, List.mem_nil_iff, or_false, not_or]; omega)) (by first | decide | omega) (by first | decide | omega) (by first | decide | omega)
          have nσ37_13 := hσ37.2.2 13 (by first | decide | (simp; done) | (simp only [List.mem_cons, List.mem_nil_iff, or_false, not_or]; omega)) (by first | decide | omega) (by first | decide | omega) (by first | decide | omega)
          have nu_σ37 : NU nu nuσ37 := nu_σ23.tr uσ37
          have uσ37_0 := uσ37.1 0 (by decide)
          have uσ37_1 := uσ37.1 1 (by decide)
          have uσ37_2 := uσ37.2
          have uσ37_5 := uσ37.1 5 (by decide)
          have uσ37_15 := uσ37.1 15 (by decide)
          have uσ37_16 := uσ37.1 16 (by decide)
          have kp20 : gI σ37 o 9 = gI σ27 o 9 := (cσ37.O (ko.up (xτ7.trans (xσ23.trans xσ27))) (by decide)).1
          have kp21 : gP σ37 J 12 = gP σ27 J 12 := (cσ37.O (kJ.up (xτ7.trans (xσ23.trans xσ27))) (by decide)).2.1
          have kp22 : gP σ37 W 5 = gP σ27 W 5 := (cσ37.O (kW.up (xτ7.trans (xσ23.trans xσ27))) (by decide)).2.1
          have kp23 : gP σ37 th 0 = gP σ27 th 0 := (cσ37.O (kth.up (xτ7.trans (xσ23.trans xσ27))) (by decide)).2.1
          have kp24 : gP σ37 th 1 = gP σ27 th 1 := (cσ37.O (kth.up (xτ7.trans (xσ23.trans xσ27))) (by decide)).2.1
          have kp25 : gP σ37 th 5 = gP σ27 th 5 := (cσ37.O (kth.up (xτ7.trans (xσ23.trans xσ27))) (by decide)).2.1
          unfold w_X7_readSource_100
          refine ⟨by (first | omega | with_reducible assumption | with_reducible exact rng_toInt _ | with_reducible exact rng_wr _ | (unfold rng; omega) | (unfold rng at *; omega) | assumption), ?_⟩
          exact ih7 σ37 LLσ37 Nσ37 nuσ37 v2 (v4 + 1) iσ37 fσ37 (xτ7.trans (xσ23.trans (xσ27.trans xσ37))) nu_σ37 hnσ37 (by (first | omega | with_reducible assumption | with_reducible exact rng_toInt _ | with_reducible exact rng_wr _ | (unfold rng; omega) | (unfold rng at *; omega) | assumption)) (by (first | omega | with_reducible assumption | with_reducible exact rng_toInt _ | with_reducible exact rng_wr _ | (unfold rng; omega) | (unfold rng at *; omega) | assumption))
        · rw [if_neg hc19]
          unfold w_X7_readSource_58
          refine ⟨c_σ23, rfl, fun kk_c_σ23_1 => ?_⟩
          refine ⟨o, hv1, fun kk_o_2 => ?_⟩
          have q26 := I_5_10 iσ27.1 (ko.up (xτ7.trans (xσ23.trans xσ27)))
          refine i_J9_max_f86c9 iσ27 (fun r33 pσ32 => ?_)
          intro xσ32
          refine ⟨W, (kp17.trans (kp11.trans (kp2.trans hw))), fun kk_W => ?_⟩
          obtain ⟨b_2, eb_2, fb_2⟩ := P_11_2 iσ27.1 (kW.up (xτ7.trans (xσ23.trans xσ27)))
          have mb_2 : kO σ27 b_2 1 := iσ27.1.kd (kW.up (xτ7.trans (xσ23.trans xσ27))) rfl eb_2 rfl
          refine ⟨b_2, eb_2, fun kk_b_2 => ?_⟩
          refine i_X1_add (G0 := 44) iσ27 mb_2 rfl (krc_σ23.up xσ27) (by omega) (by (first | omega | with_reducible assumption | with_reducible exact rng_toInt _ | with_reducible exact rng_wr _ | (unfold rng; omega) | (unfold rng at *; omega) | assumption)) (by (first | omega | with_reducible assumption | with_reducible exact rng_toInt _ | with_reducible exact rng_wr _ | (unfold rng; omega) | (unfold rng at *; omega) | assumption)) (plc_y (G := 44) (by omega) (by decide)) (no50 (by decide)) (no13 (by decide)) (fun N9 n1 _ => iσ27.2.2.1.made (by decide) n1) (fun σ35 LLσ35 Nσ35 nuσ35 _ iσ35 cσ35 uσ35 hσ35 pσ35 => ?_)
          intro xσ35
          have fσ35 : Fx [1, 2, 3, 4, 5, 6, 7, 64, 512, 6464] gr σ σ35 := fσ27.tr (cσ35.mo (by decide))
          have hnσ35 : Hn (gD σ) [44] [] gq LL LLσ35 N Nσ35 := hnσ23.go hσ35 (fun d hd => (fσ27.1 d hd).1) (by first | decide | exact fun _ h => h | (simp; done) | (intro x hx; simp only [List.mem_cons, List.mem_nil_iff, or_false] at hx ⊢; omega)) (fun d hd => by rw [List.mem_singleton.mp hd]; exact lo_c_σ23)
          have nσ35_3 := hσ35.2.2 3 (by first | decide | (simp; done) | (simp only [List.mem_cons, List.mem_nil_iff, or_false, not_or]; omega)) (by first | decide | omega) (by first | decide | omega) (by first | decide | omega)
          have nσ35_5 := hσ35.2.2 5 (by first | decide | (simp; done) | (simp only [List.mem_cons, List.mem_nil_iff, or_false, not_or]; omega)) (by first | decide | omega) (by first | decide | omega) (by first | decide | omega)
          have nσ35_14 := hσ35.2.2 14 (by first | decide | (simp; done) | (simp only [List.mem_cons, List.mem_nil_iff, or_false, not_or]; omega)) (by first | decide | omega) (by first | decide | omega) (by first | decide | omega)
          have nσ35_74 := hσ35.2.2 74 (by first | decide | (simp; done) | (simp only [List.mem_cons, List.mem_nil_iff, or_false, not_or]; omega)) (by first | decide | omega) (by first | decide | omega) (by first | decide | omega)
          have nσ35_41 := hσ35.2.2 41 (by first | decide | (simp; done) | (simp only [List.mem_cons, List.mem_nil_iff, or_false, not_or]; omega)) (by first | decide | omega) (by first | decide | omega) (by first | decide | omega)
          have nσ35_42 := hσ35.2.2 42 (by first | decide | (simp; done) | (simp only [List.mem_cons, List.mem_nil_iff, or_false, not_or]; omega)) (by first | decide | omega) (by first | decide | omega) (by first | decide | omega)
          have nσ35_11 := hσ35.2.2 11 (by first | decide | (simp; done) | (simp only [List.mem_cons, List.mem_nil_iff, or_false, not_or]; omega)) (by first | decide | omega) (by first | decide | omega) (by first | decide | omega)
          have nσ35_12 := hσ35.2.2 12 (by first | decide | (simp; done) | (simp only [List.mem_cons, List.mem_nil_iff, or_false, not_or]; omega)) (by first | decide | omega) (by first | decide | omega) (by first | decide | omega)
          have nσ35_13 := hσ35.2.2 13 (by first | decide | (simp; done) | (simp only [List.mem_cons, List.mem_nil_iff, or_false, not_or]; omega)) (by first | decide | omega) (by first | decide | omega) (by first | decide | omega)
          have nu_σ35 : NU nu nuσ35 := nu_σ23.tr uσ35
          have uσ35_0 := uσ35.1 0 (by decide)
          have uσ35_1 := uσ35.1 1 (by decide)
          have uσ35_2 := uσ35.2
          have uσ35_5 := uσ35.1 5 (by decide)
          have uσ35_15 := uσ35.1 15 (by decide)
          have uσ35_16 := uσ35.1 16 (by decide)
          have kp27 : gI σ35 o 10 = gI σ27 o 10 := (cσ35.O (ko.up (xτ7.trans (xσ23.trans xσ27))) (by decide)).1
          have kp28 : gI σ35 o 9 = gI σ27 o 9 := (cσ35.O (ko.up (xτ7.trans (xσ23.trans xσ27))) (by decide)).1
          have kp29 : gP σ35 J 12 = gP σ27 J 12 := (cσ35.O (kJ.up (xτ7.trans (xσ23.trans xσ27))) (by decide)).2.1
          have kp30 : gP σ35 W 2 = gP σ27 W 2 := (cσ35.O (kW.up (xτ7.trans (xσ23.trans xσ27))) (by decide)).2.1
          have kp31 : gP σ35 W 5 = gP σ27 W 5 := (cσ35.O (kW.up (xτ7.trans (xσ23.trans xσ27))) (by decide)).2.1
          have kp32 : gP σ35 th 0 = gP σ27 th 0 := (cσ35.O (kth.up (xτ7.trans (xσ23.trans xσ27))) (by decide)).2.1
          have kp33 : gP σ35 th 1 = gP σ27 th 1 := (cσ35.O (kth.up (xτ7.trans (xσ23.trans xσ27))) (by decide)).2.1
          have kp34 : gP σ35 th 5 = gP σ27 th 5 := (cσ35.O (kth.up (xτ7.trans (xσ23.trans xσ27))) (by decide)).2.1
          unfold w_X7_readSource_100
          refine ⟨by (first | omega | with_reducible assumption | with_reducible exact rng_toInt _ | with_reducible exact rng_wr _ | (unfold rng; omega) | (unfold rng at *; omega) | assumption), ?_⟩
          exact ih7 σ35 LLσ35 Nσ35 nuσ35 r33 (v4 + 1) iσ35 fσ35 (xτ7.trans (xσ23.trans (xσ27.trans xσ35))) nu_σ35 hnσ35 (by (first | omega | with_reducible assumption | with_reducible exact rng_toInt _ | with_reducible exact rng_wr _ | (unfold rng; omega) | (unfold rng at *; omega) | assumption)) (by (first | omega | with_reducible assumption | with_reducible exact rng_toInt _ | with_reducible exact rng_wr _ | (unfold rng; omega) | (unfold rng at *; omega) | assumption))
  exact ⟨_, Lp7 _ σ LL N nu _ _ iσ fσ (Ext.rfl' _) NU.rf hnσ (by (first | omega | with_reducible assumption | with_reducible exact rng_toInt _ | with_reducible exact rng_wr _ | (unfold rng; omega) | (unfold rng at *; omega) | assumption)) (Nat.lt_succ_self _)⟩
set_option maxHeartbeats 1000000 in
theorem i_X7_acceptAll {σ : Sg} {pl : Nat} {gq ci gr nc : Nat → Nat} {ot : Nat → Nat → Int} {LL : Nat → List Nat} {N nu : Nat → Nat} {th : Nat} {v1 : Option Nat} {v2 : Int} {v3 : Int} {J W i : Nat} (iσ : IV σ pl gq ci gr nc ot LL N nu) (kth : kO σ th 7) {o : Nat} (hv1 : v1 = some o) (ko : kO σ o 5) (hj : gP σ th 5 = some J) (hw : gP σ th 1 = some W) (kW : kO σ W 11) (hWJ : gP σ W 5 = some J) (kJ : kO σ J 4) (hJ : gq J = nc 0) (ho : gq o = 16 * nc 0 + i) (hi : i < nc 1) (hin : (v2 = 0 ∧ v3 = ot i 7) ∨ (v2 = 1 ∧ v3 = ot i 8)) (h5 : nu 5 < 24000) (hb : N 14 + N 44 + N 74 + N 1 ≤ 20000) (hn4 : N 44 ≤ 4000) (h3 : N 3 ≤ 1152921504606846976) {Q : Sg → Unit → Prop} {X : Sg → String → Prop} (hQ : ∀ (σ' : Sg) (LL' : Nat → List Nat) (N' nu' : Nat → Nat) (r : Unit), IV σ' pl gq ci gr nc ot LL' N' nu' → Fx [1, 2, 3, 4, 5, 6, 7, 64, 265, 266, 512, 513, 514, 645, 708, 6464] gr σ σ' → NU nu nu' → Hn (gD σ) [3, 41, 42, 44] [] gq LL LL' N N' → (N' 1 = N 1 ∧ N' 44 ≤ 4000 ∧ N' 3 ≤ N 3 + 24000000) → Q σ' r) (hX : ∀ (σ' : Sg) (LL' : Nat → List Nat) (N' nu' : Nat → Nat) (E : String), IV σ' pl gq ci gr nc ot LL' N' nu' → Fx [1, 2, 3, 4, 5, 6, 7, 64, 265, 266, 512, 513, 514, 645, 708, 6464] gr σ σ' → NX nu nu' → ((N' 1 ≤ N 1 + 3 ∧ N' 5 = N 5 ∧ N' 3 ≤ N 3 + 25000000 ∧ N' 14 = N 14 ∧ N' 74 = N 74) ∧ E = "java/lang/IllegalStateException") → X σ' E) : wp_X7_acceptAll th v1 v2 v3 σ Q X := by
  have fσ : Fx [1, 2, 3, 4, 5, 6, 7, 64, 265, 266, 512, 513, 514, 645, 708, 6464] gr σ σ := Fx.rf
  have hnσ : Hn (gD σ) [3, 41, 42, 44] [] gq LL LL N N := Hn.rf
  have fW := T_7_1 iσ.1 kth hw
  have ok := iσ.opok hi
  have q6 := iσ.op ko ho hi 6 (by decide)
  have ncb := iσ.2.2.2.2.1.1
  have ok0 := ok.2.2.2.2.2.2.2.2.2.2.2.2
  have okl := ok.2.1
  have okr := ok.2.2.1
  unfold wp_X7_acceptAll
  unfold w_X7_acceptAll_0
  by_cases hc1 : v3 = (-1)
  · rw [if_pos hc1]
    unfold w_X7_acceptAll_14
    exact hQ σ LL N nu () iσ fσ (NU.rf) hnσ (by first | exact ⟨rfl, by omega, by omega⟩ | exact ⟨by omega, by omega, by omega⟩)
  · rw [if_neg hc1]
    unfold w_X7_acceptAll_5
    refine ⟨o, hv1, fun kk_o => ?_⟩
    have q3 := I_5_6 iσ.1 ko
    by_cases hc2 : gI σ o 6 ≠ 11
    · rw [if_pos hc2]
      unfold w_X7_acceptAll_15
      obtain ⟨b, eb, fb⟩ := P_7_3 iσ.1 kth
      have mb : kO σ b 111 := iσ.1.kd kth rfl eb rfl
      refine ⟨b, eb, fun kk_b => ?_⟩
      refine ⟨⟨by (first | omega | with_reducible assumption | with_reducible exact rng_toInt _ | with_reducible exact rng_wr _ | (unfold rng; omega) | (unfold rng at *; omega) | assumption), by (first | omega | with_reducible assumption | with_reducible exact rng_toInt _ | with_reducible exact rng_wr _ | (unfold rng; omega) | (unfold rng at *; omega) | assumption)⟩, ?_⟩
      obtain ⟨b_1, eb_1⟩ := P_111 iσ.1 mb (k := v3.toNat) (by (first | omega | with_reducible assumption | with_reducible exact rng_toInt _ | with_reducible exact rng_wr _ | (unfold rng; omega) | (unfold rng at *; omega) | assumption))
      have fb_1 := T_111 iσ.1 mb eb_1
      have mb_1 : kO σ b_1 1 := iσ.1.kd mb rfl eb_1 rfl
      refine ⟨b_1, eb_1, fun kk_b_1 => ?_⟩
      have s16 := iσ.s16 kth
      have t16 := I_7_6 iσ.1 kth
      have l16 := S16.le (N := N) (G := 80 + v3.toNat) (by omega)
      have o16 := iσ.one (G := 80 + v3.toNat) mb_1 (by omega) (md80 v3.toNat (by omega)).1
      have Lp26 : ∀ (fu26 : Nat) (τ26 : Sg) (LLt26 : Nat → List Nat) (Nt26 nut26 : Nat → Nat) (v4 : Option Nat), IV τ26 pl gq ci gr nc ot LLt26 Nt26 nut26 → Fx [1, 2, 3, 4, 5, 6, 7, 64, 265, 266, 512, 513, 514, 645, 708, 6464] gr σ τ26 → Ext σ τ26 → NU nu nut26 → Hn (gD σ) [3, 41, 42, 44] [] gq LL LLt26 N Nt26 → (∃ (A B : List Nat), ((LLt26 b_1 = A ++ B ∧ v4 = B.head?) ∧ Nt26 1 = N 1 ∧ Nt26 44 ≤ 4000 ∧ Nt26 3 + 6000 * B.length ≤ N 3 + 24000000) ∧ (B.length) < fu26) → wl_X7_acceptAll_26 th Q X fu26 τ26 v1 v2 v4 := by
        intro fu26
        induction fu26 with
        | zero => intro _ _ _ _ _ _ _ _ _ _ h9; obtain ⟨_, _, _, h9⟩ := h9; omega
        | succ fu26 ih26 =>
          intro τ26 LLt26 Nt26 nut26 v4 iτ26 fτ26 xτ26 nu_τ26 hnτ26 hi26
          obtain ⟨A, B, hi26, hm26⟩ := hi26
          have nτ26_5 := hnτ26.2.2 5 (by first | decide | (simp; done) | (simp only [List.mem_cons, List.mem_nil_iff, or_false, not_or]; omega)) (by first | decide | omega) (by first | decide | omega) (by first | decide | omega)
          have nτ26_14 := hnτ26.2.2 14 (by first | decide | (simp; done) | (simp only [List.mem_cons, List.mem_nil_iff, or_false, not_or]; omega)) (by first | decide | omega) (by first | decide | omega) (by first | decide | omega)
          have nτ26_74 := hnτ26.2.2 74 (by first | decide | (simp; done) | (simp only [List.mem_cons, List.mem_nil_iff, or_false, not_or]; omega)) (by first | decide | omega) (by first | decide | omega) (by first | decide | omega)
          have nτ26_11 := hnτ26.2.2 11 (by first | decide | (simp; done) | (simp only [List.mem_cons, List.mem_nil_iff, or_false, not_or]; omega)) (by first | decide | omega) (by first | decide | omega) (by first | decide | omega)
          have nτ26_12 := hnτ26.2.2 12 (by first | decide | (simp; done) | (simp only [List.mem_cons, List.mem_nil_iff, or_false, not_or]; omega)) (by first | decide | omega) (by first | decide | omega) (by first | decide | omega)
          have nτ26_13 := hnτ26.2.2 13 (by first | decide | (simp; done) | (simp only [List.mem_cons, List.mem_nil_iff, or_false, not_or]; omega)) (by first | decide | omega) (by first | decide | omega) (by first | decide | omega)
          have uτ26_0 := nu_τ26.1 0 (by decide)
          have uτ26_1 := nu_τ26.1 1 (by decide)
          have uτ26_2 := nu_τ26.2
          have uτ26_5 := nu_τ26.1 5 (by decide)
          have uτ26_15 := nu_τ26.1 15 (by decide)
          have uτ26_16 := nu_τ26.1 16 (by decide)
          unfold wl_X7_acceptAll_26
          have kp4 : gI τ26 o 6 = gI σ o 6 := (fτ26.O ko (by decide)).1
          have kp5 : gP τ26 W 5 = gP σ W 5 := (fτ26.O kW (by decide)).2.1
          have kp6 : gP τ26 b v3.toNat = gP σ b v3.toNat := (fτ26.A mb (by decide)).2.1
          have kp7 : gP τ26 th 1 = gP σ th 1 := (fτ26.O kth (by decide)).2.1
          have kp8 : gP τ26 th 3 = gP σ th 3 := (fτ26.O kth (by decide)).2.1
          have kp9 : gP τ26 th 5 = gP σ th 5 := (fτ26.O kth (by decide)).2.1
          unfold w_X7_acceptAll_26
          by_cases hc10 : v4 = none
          · rw [if_pos hc10]
            unfold w_X7_acceptAll_67
            exact hQ τ26 LLt26 Nt26 nut26 () iτ26 fτ26 (nu_τ26) hnτ26 (by first | exact ⟨rfl, by omega, by omega⟩ | exact ⟨by omega, by omega, by omega⟩)
          · rw [if_neg hc10]
            unfold w_X7_acceptAll_31
            obtain ⟨b_2, eb_2⟩ := P_7_0 iτ26.1 (kth.up xτ26)
            refine ⟨b_2, eb_2, fun kk_b_2 => ?_⟩
            obtain ⟨b_3, eb_3⟩ := Option.ne_none_iff_exists'.mp hc10
            have knb_3 : kO τ26 b_3 0 := iτ26.cell (it_mem hi26.1 eb_3)
            refine i_X8_copyOf iτ26 kk_b_2 eb_3 knb_3 (by (first | omega | with_reducible assumption | with_reducible exact rng_toInt _ | with_reducible exact rng_wr _ | (unfold rng; omega) | (unfold rng at *; omega) | assumption)) (fun σ14 LLσ14 Nσ14 nuσ14 c_σ14 iσ14 cσ14 uσ14 hσ14 pσ14 => ?_)
            intro xσ14
            have fσ14 : Fx [1, 2, 3, 4, 5, 6, 7, 64, 265, 266, 512, 513, 514, 645, 708, 6464] gr σ σ14 := fτ26.tr (cσ14.mo (by decide))
            have hnσ14 : Hn (gD σ) [3, 41, 42, 44] [] gq LL LLσ14 N Nσ14 := hnτ26.go hσ14 (fun d hd => (fτ26.1 d hd).1) (by first | decide | exact fun _ h => h | (simp; done) | (intro x hx; simp only [List.mem_cons, List.mem_nil_iff, or_false] at hx ⊢; omega)) (fun d hd => absurd hd (by simp))
            have hf_c_σ14 : ∀ x, c_σ14 ∉ LLσ14 x := pσ14.1
            have lo_c_σ14 : Lo [] (gD σ) LL c_σ14 := hnτ26.loc (fun d hd => (fτ26.1 d hd).1) pσ14.2.2.1
            have nσ14_3 := hσ14.2.2 3 (by first | decide | (simp; done) | (simp only [List.mem_cons, List.mem_nil_iff, or_false, not_or]; omega)) (by first | decide | omega) (by first | decide | omega) (by first | decide | omega)
            have nσ14_5 := hσ14.2.2 5 (by first | decide | (simp; done) | (simp only [List.mem_cons, List.mem_nil_iff, or_false, not_or]; omega)) (by first | decide | omega) (by first | decide | omega) (by first | decide | omega)
            have nσ14_14 := hσ14.2.2 14 (by first | decide | (simp; done) | (simp only [List.mem_cons, List.mem_nil_iff, or_false, not_or]; omega)) (by first | decide | omega) (by first | decide | omega) (by first | decide | omega)
            have nσ14_44 := hσ14.2.2 44 (by first | decide | (simp; done) | (simp only [List.mem_cons, List.mem_nil_iff, or_false, not_or]; omega)) (by first | decide | omega) (by first | decide | omega) (by first | decide | omega)
            have nσ14_74 := hσ14.2.2 74 (by first | decide | (simp; done) | (simp only [List.mem_cons, List.mem_nil_iff, or_false, not_or]; omega)) (by first | decide | omega) (by first | decide | omega) (by first | decide | omega)
            have nσ14_41 := hσ14.2.2 41 (by first | decide | (simp; done) | (simp only [List.mem_cons, List.mem_nil_iff, or_false, not_or]; omega)) (by first | decide | omega) (by first | decide | omega) (by first | decide | omega)
            have nσ14_42 := hσ14.2.2 42 (by first | decide | (simp; done) | (simp only [List.mem_cons, List.mem_nil_iff, or_false, not_or]; omega)) (by first | decide | omega) (by first | decide | omega) (by first | decide | omega)
            have nσ14_11 := hσ14.2.2 11 (by first | decide | (simp; done) | (simp only [List.mem_cons, List.mem_nil_iff, or_false, not_or]; omega)) (by first | decide | omega) (by first | decide | omega) (by first | decide | omega)
            have nσ14_12 := hσ14.2.2 12 (by first | decide | (simp; done) | (simp only [List.mem_cons, List.mem_nil_iff, or_false, not_or]; omega)) (by first | decide | omega) (by first | decide | omega) (by first | decide | omega)
            have nσ14_13 := hσ14.2.2 13 (by first | decide | (simp; done) | (simp only [List.mem_cons, List.mem_nil_iff, or_false, not_or]; omega)) (by first | decide | omega) (by first | decide | omega) (by first | decide | omega)
            have nu_σ14 : NU nu nuσ14 := nu_τ26.tr uσ14
            have uσ14_0 := uσ14.1 0 (by decide)
            have uσ14_1 := uσ14.1 1 (by decide)
            have uσ14_2 := uσ14.2
            have uσ14_5 := uσ14.1 5 (by decide)
            have uσ14_15 := uσ14.1 15 (by decide)
            have uσ14_16 := uσ14.1 16 (by decide)
            have kp11 : gI σ14 o 6 = gI τ26 o 6 := (cσ14.O (ko.up xτ26) (by decide)).1
            have kp12 : gP σ14 W 5 = gP τ26 W 5 := (cσ14.O (kW.up xτ26) (by decide)).2.1
            have kp13 : gP σ14 b v3.toNat = gP τ26 b v3.toNat := (cσ14.A (mb.up xτ26) (by decide)).2.1
            have kp14 : gP σ14 th 0 = gP τ26 th 0 := (cσ14.O (kth.up xτ26) (by decide)).2.1
            have kp15 : gP σ14 th 1 = gP τ26 th 1 := (cσ14.O (kth.up xτ26) (by decide)).2.1
            have kp16 : gP σ14 th 3 = gP τ26 th 3 := (cσ14.O (kth.up xτ26) (by decide)).2.1
            have kp17 : gP σ14 th 5 = gP τ26 th 5 := (cσ14.O (kth.up xτ26) (by decide)).2.1
            have hLa := hσ14.1 b_1 (mb_1.up xτ26).1 (by simp) (by omega)
            intro tyt
            have krc_σ14 : kO σ14 c_σ14 0 := tyt c_σ14 rfl
            refine ⟨W, (kp7.trans hw), fun kk_W => ?_⟩
            have q58 := iσ14.t5 krc_σ14
            unfold tb at q58
            obtain ⟨N9, iσ14, hN9, hN93⟩ := iσ14.raise 6000 (by omega)
            have hn9 := hnσ14.n3 hN9 (by decide)
            have e9_1 := hN9 1 (by decide)
            have e9_5 := hN9 5 (by decide)
            have e9_14 := hN9 14 (by decide)
            have e9_44 := hN9 44 (by decide)
            have e9_74 := hN9 74 (by decide)
            have e9_11 := hN9 11 (by decide)
            have e9_12 := hN9 12 (by decide)
            have e9_41 := hN9 41 (by decide)
            have e9_42 := hN9 42 (by decide)
            have e9_13 := hN9 13 (by decide)
            obtain ⟨b_4, eb_4, fb_4⟩ := P_7_2 iτ26.1 (kth.up xτ26)
            have mb_4 : kO τ26 b_4 10 := iτ26.1.kd (kth.up xτ26) rfl eb_4 rfl
            refine i4_X11_accept iσ14 (kW.up (xτ26.trans xσ14)) hv1 (ko.up (xτ26.trans xσ14)) eb_4 (mb_4.up xσ14) rfl krc_σ14 (by (first | omega | with_reducible assumption | with_reducible exact rng_toInt _ | with_reducible exact rng_wr _ | (unfold rng; omega) | (unfold rng at *; omega) | assumption)) (by (first | omega | with_reducible assumption | with_reducible exact rng_toInt _ | with_reducible exact rng_wr _ | (unfold rng; omega) | (unfold rng at *; omega) | assumption)) (by (first | omega | with_reducible assumption | with_reducible exact rng_toInt _ | with_reducible exact rng_wr _ | (unfold rng; omega) | (unfold rng at *; omega) | assumption)) (kp12.trans (kp5.trans hWJ)) (kJ.up (xτ26.trans xσ14)) (by (first | omega | with_reducible assumption | with_reducible exact rng_toInt _ | with_reducible exact rng_wr _ | (unfold rng; omega) | (unfold rng at *; omega) | assumption)) (by (first | omega | with_reducible assumption | with_reducible exact rng_toInt _ | with_reducible exact rng_wr _ | (unfold rng; omega) | (unfold rng at *; omega) | assumption)) (by (first | omega | with_reducible assumption | with_reducible exact rng_toInt _ | with_reducible exact rng_wr _ | (unfold rng; omega) | (unfold rng at *; omega) | assumption)) (by omega) (by (first | omega | with_reducible assumption | with_reducible exact rng_toInt _ | with_reducible exact rng_wr _ | (unfold rng; omega) | (unfold rng at *; omega) | assumption)) (by (first | omega | with_reducible assumption | with_reducible exact rng_toInt _ | with_reducible exact rng_wr _ | (unfold rng; omega) | (unfold rng at *; omega) | assumption)) (by (first | omega | with_reducible assumption | with_reducible exact rng_toInt _ | with_reducible exact rng_wr _ | (unfold rng; omega) | (unfold rng at *; omega) | assumption)) (by omega) (fun σ17 LLσ17 Nσ17 nuσ17 _ iσ17 cσ17 uσ17 hσ17 pσ17 => ?_) (fun σx LLx Nx nux E ix cx ux px => hX σx LLx Nx nux E ix (fσ14.tr (cx.mo (by decide))) (nu_σ14.x ux) (by first | exact px | exact ⟨by have := px.1; omega, px.2.2⟩ | (first | omega | with_reducible assumption | with_reducible exact rng_toInt _ | with_reducible exact rng_wr _ | (unfold rng; omega) | (unfold rng at *; omega) | assumption)))
            intro xσ17
            have fσ17 : Fx [1, 2, 3, 4, 5, 6, 7, 64, 265, 266, 512, 513, 514, 645, 708, 6464] gr σ σ17 := fσ14.tr (cσ17.mo (by decide))
            have hnσ17 : Hn (gD σ) [3, 41, 42, 44] [] gq LL LLσ17 N Nσ17 := hn9.go hσ17 (fun d hd => (fσ14.1 d hd).1) (by first | decide | exact fun _ h => h | (simp; done) | (intro x hx; simp only [List.mem_cons, List.mem_nil_iff, or_false] at hx ⊢; omega)) (fun d hd => by rw [List.mem_singleton.mp hd]; exact lo_c_σ14)
            have nσ17_3 := hσ17.2.2 3 (by first | decide | (simp; done) | (simp only [List.mem_cons, List.mem_nil_iff, or_false, not_or]; omega)) (by first | decide | omega) (by first | decide | omega) (by first | decide | omega)
            have nσ17_5 := hσ17.2.2 5 (by first | decide | (simp; done) | (simp only [List.mem_cons, List.mem_nil_iff, or_false, not_or]; omega)) (by first | decide | omega) (by first | decide | omega) (by first | decide | omega)
            have nσ17_14 := hσ17.2.2 14 (by first | decide | (simp; done) | (simp only [List.mem_cons, List.mem_nil_iff, or_false, not_or]; omega)) (by first | decide | omega) (by first | decide | omega) (by first | decide | omega)
            have nσ17_74 := hσ17.2.2 74 (by first | decide | (simp; done) | (simp only [List.mem_cons, List.mem_nil_iff, or_false, not_or]; omega)) (by first | decide | omega) (by first | decide | omega) (by first | decide | omega)
            have nσ17_11 := hσ17.2.2 11 (by first | decide | (simp; done) | (simp only [List.mem_cons, List.mem_nil_iff, or_false, not_or]; omega)) (by first | decide | omega) (by first | decide | omega) (by first | decide | omega)
            have nσ17_12 := hσ17.2.2 12 (by first | decide | (simp; done) | (simp only [List.mem_cons, List.mem_nil_iff, or_false, not_or]; omega)) (by first | decide | omega) (by first | decide | omega) (by first | decide | omega)
            have nσ17_13 := hσ17.2.2 13 (by first | decide | (simp; done) | (simp only [List.mem_cons, List.mem_nil_iff, or_false, not_or]; omega)) (by first | decide | omega) (by first | decide | omega) (by first | decide | omega)
            have nu_σ17 : NU nu nuσ17 := nu_σ14.tr uσ17
            have uσ17_0 := uσ17.1 0 (by decide)
            have uσ17_1 := uσ17.1 1 (by decide)
            have uσ17_2 := uσ17.2
            have uσ17_5 := uσ17.1 5 (by decide)
            have uσ17_15 := uσ17.1 15 (by decide)
            have uσ17_16 := uσ17.1 16 (by decide)
            have kp18 : gI σ17 o 6 = gI σ14 o 6 := (cσ17.O (ko.up (xτ26.trans xσ14)) (by decide)).1
            have kp19 : gP σ17 W 5 = gP σ14 W 5 := (cσ17.O (kW.up (xτ26.trans xσ14)) (by decide)).2.1
            have kp20 : gP σ17 b v3.toNat = gP σ14 b v3.toNat := (cσ17.A (mb.up (xτ26.trans xσ14)) (by decide)).2.1
            have kp21 : gP σ17 th 0 = gP σ14 th 0 := (cσ17.O (kth.up (xτ26.trans xσ14)) (by decide)).2.1
            have kp22 : gP σ17 th 1 = gP σ14 th 1 := (cσ17.O (kth.up (xτ26.trans xσ14)) (by decide)).2.1
            have kp23 : gP σ17 th 3 = gP σ14 th 3 := (cσ17.O (kth.up (xτ26.trans xσ14)) (by decide)).2.1
            have kp24 : gP σ17 th 5 = gP σ14 th 5 := (cσ17.O (kth.up (xτ26.trans xσ14)) (by decide)).2.1
            have hLb := hσ17.1 b_1 (mb_1.up (xτ26.trans xσ14)).1 (by first | (simp; done) | (simp only [List.mem_cons, List.mem_nil_iff, or_false, not_or]; omega)) (by omega)
            refine i_X7_limit iσ17 (kth.up (xτ26.trans (xσ14.trans xσ17))) (by (first | omega | with_reducible assumption | with_reducible exact rng_toInt _ | with_reducible exact rng_wr _ | (unfold rng; omega) | (unfold rng at *; omega) | assumption)) (fun σ19 _ iσ19 cσ19 pσ19 => ?_) (fun σx LLx Nx nux E ix cx ux px => hX σx LLx Nx nux E ix (fσ17.tr (cx.mo (by decide))) (nu_σ17.x ux) (by first | exact px | exact ⟨by have := px.1; omega, px.2⟩ | (first | omega | with_reducible assumption | with_reducible exact rng_toInt _ | with_reducible exact rng_wr _ | (unfold rng; omega) | (unfold rng at *; omega) | assumption)))
            intro xσ19
            have fσ19 : Fx [1, 2, 3, 4, 5, 6, 7, 64, 265, 266, 512, 513, 514, 645, 708, 6464] gr σ σ19 := fσ17.tr (cσ19.mo (by decide))
            have kp25 : gI σ19 o 6 = gI σ17 o 6 := (cσ19.O (ko.up (xτ26.trans (xσ14.trans xσ17))) (by decide)).1
            have kp26 : gP σ19 W 5 = gP σ17 W 5 := (cσ19.O (kW.up (xτ26.trans (xσ14.trans xσ17))) (by decide)).2.1
            have kp27 : gP σ19 b v3.toNat = gP σ17 b v3.toNat := (cσ19.A (mb.up (xτ26.trans (xσ14.trans xσ17))) (by decide)).2.1
            have kp28 : gP σ19 th 0 = gP σ17 th 0 := (cσ19.O (kth.up (xτ26.trans (xσ14.trans xσ17))) (by decide)).2.1
            have kp29 : gP σ19 th 1 = gP σ17 th 1 := (cσ19.O (kth.up (xτ26.trans (xσ14.trans xσ17))) (by decide)).2.1
            have kp30 : gP σ19 th 3 = gP σ17 th 3 := (cσ19.O (kth.up (xτ26.trans (xσ14.trans xσ17))) (by decide)).2.1
            have kp31 : gP σ19 th 5 = gP σ17 th 5 := (cσ19.O (kth.up (xτ26.trans (xσ14.trans xσ17))) (by decide)).2.1
            obtain ⟨A1, B1, p1, p2, p3, p4⟩ := it_step iσ19 (mb_1.up (xτ26.trans (xσ14.trans (xσ17.trans xσ19)))) ⟨(by rw [hLb, hLa]; exact hi26.1.1), hi26.1.2⟩ eb_3
            have r6 := I_7_6 iσ17.1 (kth.up (xτ26.trans (xσ14.trans xσ17)))
            refine ⟨b_3, eb_3, fun kk_b_3 => ?_⟩
            exact ih26 σ19 LLσ17 Nσ17 nuσ17 (gP σ19 b_3 1) iσ19 fσ19 (xτ26.trans (xσ14.trans (xσ17.trans xσ19))) nu_σ17 hnσ17 (⟨A1, B1, ⟨⟨p1, p2⟩, by omega, by omega, by omega⟩, by omega⟩)
      exact ⟨(LL b_1).length + 1, Lp26 _ σ LL N nu _ iσ fσ (Ext.rfl' _) NU.rf hnσ (⟨[], LL b_1, ⟨⟨by simp, iσ.first mb_1⟩, rfl, by omega, by omega⟩, Nat.lt_succ_self _⟩)⟩
    · rw [if_neg hc2]
      have hc2q := Classical.not_not.mp hc2
      unfold w_X7_acceptAll_14
      exact hQ σ LL N nu () iσ fσ (NU.rf) hnσ (by first | exact ⟨rfl, by omega, by omega⟩ | exact ⟨by omega, by omega, by omega⟩)
set_option maxHeartbeats 1000000 in
theorem i_X7_keepMade {σ : Sg} {pl : Nat} {gq ci gr nc : Nat → Nat} {ot : Nat → Nat → Int} {LL : Nat → List Nat} {N nu : Nat → Nat} {th : Nat} {v1 : Int} {v2 : Option Nat} {J W i : Nat} (iσ : IV σ pl gq ci gr nc ot LL N nu) (kth : kO σ th 7) {o : Nat} (hv2 : v2 = some o) (ko : kO σ o 5) (hj : gP σ th 5 = some J) (hw : gP σ th 1 = some W) (kW : kO σ W 11) (hWJ : gP σ W 5 = some J) (kJ : kO σ J 4) (hJ : gq J = nc 0) (ho : gq o = 16 * nc 0 + i) (hi : i < nc 1) (hvi : v1 = (i : Int)) (h5 : nu 5 < 24000) (hb : N 14 + N 44 + N 74 + N 1 ≤ 20000) {Q : Sg → Unit → Prop} {X : Sg → String → Prop} (hQ : ∀ (σ' : Sg) (LL' : Nat → List Nat) (N' nu' : Nat → Nat) (r : Unit), IV σ' pl gq ci gr nc ot LL' N' nu' → Fx [1, 2, 3, 4, 5, 6, 7, 64, 454, 512, 708, 6464] gr σ σ' → NU nu nu' → Hn (gD σ) [44, 41, 42, 80, 81, 82, 83, 84, 85, 86, 87, 88, 89, 90, 91, 92, 93, 94, 95] [] gq LL LL' N N' → (N' 1 = N 1 ∧ N' 44 = 0 ∧ N' 41 = 0 ∧ N' 42 = 0) → Q σ' r) (hX : ∀ (σ' : Sg) (LL' : Nat → List Nat) (N' nu' : Nat → Nat) (E : String), IV σ' pl gq ci gr nc ot LL' N' nu' → Fx [1, 2, 3, 4, 5, 6, 7, 64, 454, 512, 708, 6464] gr σ σ' → NX nu nu' → ((N' 1 ≤ N 1 + 0 ∧ N' 5 = N 5 ∧ N' 3 ≤ N 3 + 0 ∧ N' 14 = N 14 ∧ N' 74 = N 74) ∧ E = "java/lang/IllegalStateException") → X σ' E) : wp_X7_keepMade th v1 v2 σ Q X := by
  have fσ : Fx [1, 2, 3, 4, 5, 6, 7, 64, 454, 512, 708, 6464] gr σ σ := Fx.rf
  have hnσ : Hn (gD σ) [44, 41, 42, 80, 81, 82, 83, 84, 85, 86, 87, 88, 89, 90, 91, 92, 93, 94, 95] [] gq LL LL N N := Hn.rf
  have fW := T_7_1 iσ.1 kth hw
  have q6 := iσ.op ko ho hi 6 (by decide)
  have ncb := iσ.2.2.2.2.1.1
  unfold wp_X7_keepMade
  unfold w_X7_keepMade_0
  refine ⟨o, hv2, fun kk_o => ?_⟩
  have q2 := I_5_6 iσ.1 ko
  by_cases hc1 : gI σ o 6 ≠ 0
  · rw [if_pos hc1]
    unfold w_X7_keepMade_12
    have i44 := iσ.s16 kth
    have r67 := I_7_6 iσ.1 kth
    refine i_X7_limit iσ kth (by (first | omega | with_reducible assumption | with_reducible exact rng_toInt _ | with_reducible exact rng_wr _ | (unfold rng; omega) | (unfold rng at *; omega) | assumption)) (fun σ21 _ iσ21 cσ21 pσ21 => ?_) (fun σx LLx Nx nux E ix cx ux px => hX σx LLx Nx nux E ix (fσ.tr (cx.mo (by decide))) (ux) (by first | exact px | exact ⟨by have := px.1; omega, px.2⟩ | (first | omega | with_reducible assumption | with_reducible exact rng_toInt _ | with_reducible exact rng_wr _ | (unfold rng; omega) | (unfold rng at *; omega) | assumption)))
    intro xσ21
    have fσ21 : Fx [1, 2, 3, 4, 5, 6, 7, 64, 454, 512, 708, 6464] gr σ σ21 := fσ.tr (cσ21.mo (by decide))
    have kp3 : gI σ21 o 6 = gI σ o 6 := (cσ21.O ko (by decide)).1
    have kp4 : gP σ21 W 5 = gP σ W 5 := (cσ21.O kW (by decide)).2.1
    have kp5 : gP σ21 th 1 = gP σ th 1 := (cσ21.O kth (by decide)).2.1
    have kp6 : gP σ21 th 5 = gP σ th 5 := (cσ21.O kth (by decide)).2.1
    have kp7 : gI σ21 th 6 = gI σ th 6 := (cσ21.O kth (by decide)).1
    have i45 := iσ21.s16 (kth.up xσ21)
    have r68 := I_7_6 iσ21.1 (kth.up xσ21)
    refine ⟨W, (kp5.trans hw), fun kk_W => ?_⟩
    obtain ⟨b, eb, fb⟩ := P_11_2 iσ21.1 (kW.up xσ21)
    have mb : kO σ21 b 1 := iσ21.1.kd (kW.up xσ21) rfl eb rfl
    refine ⟨b, eb, fun kk_b => ?_⟩
    have q8 := I_7_6 iσ21.1 (kth.up xσ21)
    have q9 := iσ21.size mb
    have qz9 := iσ21.sz mb.1
    refine ⟨by (first | omega | with_reducible assumption | with_reducible exact rng_toInt _ | with_reducible exact rng_wr _ | (unfold rng; omega) | (unfold rng at *; omega) | assumption), ?_⟩
    intro σ24 eσ24
    have xσ24 : Ext σ21 σ24 := by rw [eσ24]; exact fun _ h => ⟨h, rfl, rfl⟩
    have iσ24 : IV σ24 pl gq ci gr nc ot LL N nu := by rw [eσ24]; exact iσ21.tot7 (kth.up xσ21) ⟨by have o9 := iσ21.one (G := 44) mb (by omega) (by decide); omega, by have o9 := iσ21.one (G := 44) mb (by omega) (by decide); omega⟩
    have fσ24 : Fx [1, 2, 3, 4, 5, 6, 7, 64, 454, 512, 708, 6464] gr σ σ24 := fσ21.tr (Sk.fx (by rw [eσ24]; exact Sk.pI (by rw [fcdO (kth.up xσ21) (by decide)]; decide)))
    have wσ24 : gI σ24 th 6 = (gI σ21 th 6 + gI σ21 b 2) := by rw [eσ24]; exact up2_s _ _ _ _
    have kp10 : gI σ24 b 2 = gI σ21 b 2 := by rw [eσ24]; exact up2_n _ _ (fun q => absurd q.2 (by decide))
    have kp11 : gI σ24 o 6 = gI σ21 o 6 := by rw [eσ24]; exact up2_n _ _ (fun q => absurd q.1 (kO.ne (ko.up xσ21) (kth.up xσ21) (by decide)))
    have kp12 : gP σ24 W 2 = gP σ21 W 2 := by rw [eσ24]
    have kp13 : gP σ24 W 5 = gP σ21 W 5 := by rw [eσ24]
    have kp14 : gP σ24 th 1 = gP σ21 th 1 := by rw [eσ24]
    have kp15 : gP σ24 th 5 = gP σ21 th 5 := by rw [eσ24]
    have w24 := iσ24.s16 (kth.up (xσ21.trans xσ24))
    refine ⟨W, (kp14.trans (kp5.trans hw)), fun kk_W_1 => ?_⟩
    obtain ⟨b_1, eb_1, fb_1⟩ := P_7_3 iσ24.1 (kth.up (xσ21.trans xσ24))
    have mb_1 : kO σ24 b_1 111 := iσ24.1.kd (kth.up (xσ21.trans xσ24)) rfl eb_1 rfl
    refine ⟨b_1, eb_1, fun kk_b_1 => ?_⟩
    refine ⟨⟨by (first | omega | with_reducible assumption | with_reducible exact rng_toInt _ | with_reducible exact rng_wr _ | (unfold rng; omega) | (unfold rng at *; omega) | assumption), by (first | omega | with_reducible assumption | with_reducible exact rng_toInt _ | with_reducible exact rng_wr _ | (unfold rng; omega) | (unfold rng at *; omega) | assumption)⟩, ?_⟩
    refine ⟨b, (kp12.trans eb), fun kk_b_2 => ?_⟩
    have s16 := iσ24.s16 (kth.up (xσ21.trans xσ24))
    have o44 := iσ24.one (G := 44) (mb.up xσ24) (by omega) (by decide)
    obtain ⟨b_2, eb_2⟩ := P_111 iσ24.1 mb_1 (k := v1.toNat) (by (first | omega | with_reducible assumption | with_reducible exact rng_toInt _ | with_reducible exact rng_wr _ | (unfold rng; omega) | (unfold rng at *; omega) | assumption))
    have fb_2 := T_111 iσ24.1 mb_1 eb_2
    have mb_2 : kO σ24 b_2 1 := iσ24.1.kd mb_1 rfl eb_2 rfl
    refine i_X1_moveAllTo (G0 := 44) (G1 := (80 + i)) iσ24 (mb.up xσ24) eb_2 mb_2 (by omega) (by omega) (by omega) (by decide) (plc_y (G := 80 + i) (by omega) (md80 i (by omega)).2) (⟨by omega, by omega⟩) (fun N9 n1 n2 n3 => sc_pass iσ24 (by omega) n1 n2 n3 (kth.up (xσ21.trans xσ24)) (by omega)) (fun σ27 LLσ27 Nσ27 nuσ27 _ iσ27 cσ27 uσ27 hσ27 pσ27 => ?_)
    intro xσ27
    have fσ27 : Fx [1, 2, 3, 4, 5, 6, 7, 64, 454, 512, 708, 6464] gr σ σ27 := fσ24.tr (cσ27.mo (by decide))
    have hnσ27 : Hn (gD σ) [44, 41, 42, 80, 81, 82, 83, 84, 85, 86, 87, 88, 89, 90, 91, 92, 93, 94, 95] [] gq LL LLσ27 N Nσ27 := hnσ.go hσ27 (fun d hd => (fσ24.1 d hd).1) (by first | decide | exact fun _ h => h | (simp; done) | (intro x hx; simp only [List.mem_cons, List.mem_nil_iff, or_false] at hx ⊢; omega)) (fun d hd => absurd hd (by simp))
    have nσ27_3 := hσ27.2.2 3 (by first | decide | (simp; done) | (simp only [List.mem_cons, List.mem_nil_iff, or_false, not_or]; omega)) (by first | decide | omega) (by first | decide | omega) (by first | decide | omega)
    have nσ27_5 := hσ27.2.2 5 (by first | decide | (simp; done) | (simp only [List.mem_cons, List.mem_nil_iff, or_false, not_or]; omega)) (by first | decide | omega) (by first | decide | omega) (by first | decide | omega)
    have nσ27_14 := hσ27.2.2 14 (by first | decide | (simp; done) | (simp only [List.mem_cons, List.mem_nil_iff, or_false, not_or]; omega)) (by first | decide | omega) (by first | decide | omega) (by first | decide | omega)
    have nσ27_74 := hσ27.2.2 74 (by first | decide | (simp; done) | (simp only [List.mem_cons, List.mem_nil_iff, or_false, not_or]; omega)) (by first | decide | omega) (by first | decide | omega) (by first | decide | omega)
    have nσ27_41 := hσ27.2.2 41 (by first | decide | (simp; done) | (simp only [List.mem_cons, List.mem_nil_iff, or_false, not_or]; omega)) (by first | decide | omega) (by first | decide | omega) (by first | decide | omega)
    have nσ27_42 := hσ27.2.2 42 (by first | decide | (simp; done) | (simp only [List.mem_cons, List.mem_nil_iff, or_false, not_or]; omega)) (by first | decide | omega) (by first | decide | omega) (by first | decide | omega)
    have nσ27_11 := hσ27.2.2 11 (by first | decide | (simp; done) | (simp only [List.mem_cons, List.mem_nil_iff, or_false, not_or]; omega)) (by first | decide | omega) (by first | decide | omega) (by first | decide | omega)
    have nσ27_12 := hσ27.2.2 12 (by first | decide | (simp; done) | (simp only [List.mem_cons, List.mem_nil_iff, or_false, not_or]; omega)) (by first | decide | omega) (by first | decide | omega) (by first | decide | omega)
    have nσ27_13 := hσ27.2.2 13 (by first | decide | (simp; done) | (simp only [List.mem_cons, List.mem_nil_iff, or_false, not_or]; omega)) (by first | decide | omega) (by first | decide | omega) (by first | decide | omega)
    have nu_σ27 : NU nu nuσ27 := uσ27
    have uσ27_0 := uσ27.1 0 (by decide)
    have uσ27_1 := uσ27.1 1 (by decide)
    have uσ27_2 := uσ27.2
    have uσ27_5 := uσ27.1 5 (by decide)
    have uσ27_15 := uσ27.1 15 (by decide)
    have uσ27_16 := uσ27.1 16 (by decide)
    have kp16 : gI σ27 o 6 = gI σ24 o 6 := (cσ27.O (ko.up (xσ21.trans xσ24)) (by decide)).1
    have kp17 : gI σ27 th 6 = gI σ24 th 6 := (cσ27.O (kth.up (xσ21.trans xσ24)) (by decide)).1
    have kp18 : gP σ27 W 2 = gP σ24 W 2 := (cσ27.O (kW.up (xσ21.trans xσ24)) (by decide)).2.1
    have kp19 : gP σ27 W 5 = gP σ24 W 5 := (cσ27.O (kW.up (xσ21.trans xσ24)) (by decide)).2.1
    have kp20 : gP σ27 b_1 v1.toNat = gP σ24 b_1 v1.toNat := (cσ27.A mb_1 (by decide)).2.1
    have kp21 : gP σ27 th 1 = gP σ24 th 1 := (cσ27.O (kth.up (xσ21.trans xσ24)) (by decide)).2.1
    have kp22 : gP σ27 th 3 = gP σ24 th 3 := (cσ27.O (kth.up (xσ21.trans xσ24)) (by decide)).2.1
    have kp23 : gP σ27 th 5 = gP σ24 th 5 := (cσ27.O (kth.up (xσ21.trans xσ24)) (by decide)).2.1
    obtain ⟨b_3, eb_3, fb_3⟩ := P_7_2 iσ27.1 (kth.up (xσ21.trans (xσ24.trans xσ27)))
    have mb_3 : kO σ27 b_3 10 := iσ27.1.kd (kth.up (xσ21.trans (xσ24.trans xσ27))) rfl eb_3 rfl
    refine ⟨b_3, eb_3, fun kk_b_3 => ?_⟩
    obtain ⟨b_4, eb_4⟩ := P_7_0 iσ27.1 (kth.up (xσ21.trans (xσ24.trans xσ27)))
    refine ⟨b_4, eb_4, fun kk_b_4 => ?_⟩
    obtain ⟨b_5, eb_5, fb_5⟩ := P_10_2 iσ27.1 mb_3
    have mb_5 : kO σ27 b_5 1 := iσ27.1.kd mb_3 rfl eb_5 rfl
    refine i_X8_releaseAll (G0 := 41) iσ27 kk_b_4 eb_5 mb_5 (by omega) (by omega) (fun σ30 LLσ30 Nσ30 nuσ30 _ iσ30 cσ30 uσ30 hσ30 pσ30 => ?_)
    intro xσ30
    have fσ30 : Fx [1, 2, 3, 4, 5, 6, 7, 64, 454, 512, 708, 6464] gr σ σ30 := fσ27.tr (cσ30.mo (by decide))
    have hnσ30 : Hn (gD σ) [44, 41, 42, 80, 81, 82, 83, 84, 85, 86, 87, 88, 89, 90, 91, 92, 93, 94, 95] [] gq LL LLσ30 N Nσ30 := hnσ27.go hσ30 (fun d hd => (fσ27.1 d hd).1) (by first | decide | exact fun _ h => h | (simp; done) | (intro x hx; simp only [List.mem_cons, List.mem_nil_iff, or_false] at hx ⊢; omega)) (fun d hd => absurd hd (by simp))
    have nσ30_3 := hσ30.2.2 3 (by first | decide | (simp; done) | (simp only [List.mem_cons, List.mem_nil_iff, or_false, not_or]; omega)) (by first | decide | omega) (by first | decide | omega) (by first | decide | omega)
    have nσ30_5 := hσ30.2.2 5 (by first | decide | (simp; done) | (simp only [List.mem_cons, List.mem_nil_iff, or_false, not_or]; omega)) (by first | decide | omega) (by first | decide | omega) (by first | decide | omega)
    have nσ30_14 := hσ30.2.2 14 (by first | decide | (simp; done) | (simp only [List.mem_cons, List.mem_nil_iff, or_false, not_or]; omega)) (by first | decide | omega) (by first | decide | omega) (by first | decide | omega)
    have nσ30_44 := hσ30.2.2 44 (by first | decide | (simp; done) | (simp only [List.mem_cons, List.mem_nil_iff, or_false, not_or]; omega)) (by first | decide | omega) (by first | decide | omega) (by first | decide | omega)
    have nσ30_74 := hσ30.2.2 74 (by first | decide | (simp; done) | (simp only [List.mem_cons, List.mem_nil_iff, or_false, not_or]; omega)) (by first | decide | omega) (by first | decide | omega) (by first | decide | omega)
    have nσ30_42 := hσ30.2.2 42 (by first | decide | (simp; done) | (simp only [List.mem_cons, List.mem_nil_iff, or_false, not_or]; omega)) (by first | decide | omega) (by first | decide | omega) (by first | decide | omega)
    have nσ30_11 := hσ30.2.2 11 (by first | decide | (simp; done) | (simp only [List.mem_cons, List.mem_nil_iff, or_false, not_or]; omega)) (by first | decide | omega) (by first | decide | omega) (by first | decide | omega)
    have nσ30_12 := hσ30.2.2 12 (by first | decide | (simp; done) | (simp only [List.mem_cons, List.mem_nil_iff, or_false, not_or]; omega)) (by first | decide | omega) (by first | decide | omega) (by first | decide | omega)
    have nσ30_13 := hσ30.2.2 13 (by first | decide | (simp; done) | (simp only [List.mem_cons, List.mem_nil_iff, or_false, not_or]; omega)) (by first | decide | omega) (by first | decide | omega) (by first | decide | omega)
    have nu_σ30 : NU nu nuσ30 := nu_σ27.tr uσ30
    have uσ30_0 := uσ30.1 0 (by decide)
    have uσ30_1 := uσ30.1 1 (by decide)
    have uσ30_2 := uσ30.2
    have uσ30_5 := uσ30.1 5 (by decide)
    have uσ30_15 := uσ30.1 15 (by decide)
    have uσ30_16 := uσ30.1 16 (by decide)
    have kp24 : gI σ30 o 6 = gI σ27 o 6 := (cσ30.O (ko.up (xσ21.trans (xσ24.trans xσ27))) (by decide)).1
    have kp25 : gI σ30 th 6 = gI σ27 th 6 := (cσ30.O (kth.up (xσ21.trans (xσ24.trans xσ27))) (by decide)).1
    have kp26 : gP σ30 W 2 = gP σ27 W 2 := (cσ30.O (kW.up (xσ21.trans (xσ24.trans xσ27))) (by decide)).2.1
    have kp27 : gP σ30 W 5 = gP σ27 W 5 := (cσ30.O (kW.up (xσ21.trans (xσ24.trans xσ27))) (by decide)).2.1
    have kp28 : gP σ30 b_1 v1.toNat = gP σ27 b_1 v1.toNat := (cσ30.A (mb_1.up xσ27) (by decide)).2.1
    have kp29 : gP σ30 b_3 2 = gP σ27 b_3 2 := (cσ30.O mb_3 (by decide)).2.1
    have kp30 : gP σ30 th 0 = gP σ27 th 0 := (cσ30.O (kth.up (xσ21.trans (xσ24.trans xσ27))) (by decide)).2.1
    have kp31 : gP σ30 th 1 = gP σ27 th 1 := (cσ30.O (kth.up (xσ21.trans (xσ24.trans xσ27))) (by decide)).2.1
    have kp32 : gP σ30 th 2 = gP σ27 th 2 := (cσ30.O (kth.up (xσ21.trans (xσ24.trans xσ27))) (by decide)).2.1
    have kp33 : gP σ30 th 3 = gP σ27 th 3 := (cσ30.O (kth.up (xσ21.trans (xσ24.trans xσ27))) (by decide)).2.1
    have kp34 : gP σ30 th 5 = gP σ27 th 5 := (cσ30.O (kth.up (xσ21.trans (xσ24.trans xσ27))) (by decide)).2.1
    have o9 := iσ27.one (G := 41) mb_5 (by omega) (by decide)
    refine ⟨b_3, (kp32.trans eb_3), fun kk_b_3_1 => ?_⟩
    refine ⟨b_4, (kp30.trans eb_4), fun kk_b_4_1 => ?_⟩
    obtain ⟨b_6, eb_6, fb_6⟩ := P_10_3 iσ30.1 (mb_3.up xσ30)
    have mb_6 : kO σ30 b_6 1 := iσ30.1.kd (mb_3.up xσ30) rfl eb_6 rfl
    refine i_X8_releaseAll (G0 := 42) iσ30 (kk_b_4.up xσ30) eb_6 mb_6 (by omega) (by omega) (fun σ33 LLσ33 Nσ33 nuσ33 _ iσ33 cσ33 uσ33 hσ33 pσ33 => ?_)
    intro xσ33
    have fσ33 : Fx [1, 2, 3, 4, 5, 6, 7, 64, 454, 512, 708, 6464] gr σ σ33 := fσ30.tr (cσ33.mo (by decide))
    have hnσ33 : Hn (gD σ) [44, 41, 42, 80, 81, 82, 83, 84, 85, 86, 87, 88, 89, 90, 91, 92, 93, 94, 95] [] gq LL LLσ33 N Nσ33 := hnσ30.go hσ33 (fun d hd => (fσ30.1 d hd).1) (by first | decide | exact fun _ h => h | (simp; done) | (intro x hx; simp only [List.mem_cons, List.mem_nil_iff, or_false] at hx ⊢; omega)) (fun d hd => absurd hd (by simp))
    have nσ33_3 := hσ33.2.2 3 (by first | decide | (simp; done) | (simp only [List.mem_cons, List.mem_nil_iff, or_false, not_or]; omega)) (by first | decide | omega) (by first | decide | omega) (by first | decide | omega)
    have nσ33_5 := hσ33.2.2 5 (by first | decide | (simp; done) | (simp only [List.mem_cons, List.mem_nil_iff, or_false, not_or]; omega)) (by first | decide | omega) (by first | decide | omega) (by first | decide | omega)
    have nσ33_14 := hσ33.2.2 14 (by first | decide | (simp; done) | (simp only [List.mem_cons, List.mem_nil_iff, or_false, not_or]; omega)) (by first | decide | omega) (by first | decide | omega) (by first | decide | omega)
    have nσ33_44 := hσ33.2.2 44 (by first | decide | (simp; done) | (simp only [List.mem_cons, List.mem_nil_iff, or_false, not_or]; omega)) (by first | decide | omega) (by first | decide | omega) (by first | decide | omega)
    have nσ33_74 := hσ33.2.2 74 (by first | decide | (simp; done) | (simp only [List.mem_cons, List.mem_nil_iff, or_false, not_or]; omega)) (by first | decide | omega) (by first | decide | omega) (by first | decide | omega)
    have nσ33_41 := hσ33.2.2 41 (by first | decide | (simp; done) | (simp only [List.mem_cons, List.mem_nil_iff, or_false, not_or]; omega)) (by first | decide | omega) (by first | decide | omega) (by first | decide | omega)
    have nσ33_11 := hσ33.2.2 11 (by first | decide | (simp; done) | (simp only [List.mem_cons, List.mem_nil_iff, or_false, not_or]; omega)) (by first | decide | omega) (by first | decide | omega) (by first | decide | omega)
    have nσ33_12 := hσ33.2.2 12 (by first | decide | (simp; done) | (simp only [List.mem_cons, List.mem_nil_iff, or_false, not_or]; omega)) (by first | decide | omega) (by first | decide | omega) (by first | decide | omega)
    have nσ33_13 := hσ33.2.2 13 (by first | decide | (simp; done) | (simp only [List.mem_cons, List.mem_nil_iff, or_false, not_or]; omega)) (by first | decide | omega) (by first | decide | omega) (by first | decide | omega)
    have nu_σ33 : NU nu nuσ33 := nu_σ30.tr uσ33
    have uσ33_0 := uσ33.1 0 (by decide)
    have uσ33_1 := uσ33.1 1 (by decide)
    have uσ33_2 := uσ33.2
    have uσ33_5 := uσ33.1 5 (by decide)
    have uσ33_15 := uσ33.1 15 (by decide)
    have uσ33_16 := uσ33.1 16 (by decide)
    have kp35 : gI σ33 o 6 = gI σ30 o 6 := (cσ33.O (ko.up (xσ21.trans (xσ24.trans (xσ27.trans xσ30)))) (by decide)).1
    have kp36 : gI σ33 th 6 = gI σ30 th 6 := (cσ33.O (kth.up (xσ21.trans (xσ24.trans (xσ27.trans xσ30)))) (by decide)).1
    have kp37 : gP σ33 W 2 = gP σ30 W 2 := (cσ33.O (kW.up (xσ21.trans (xσ24.trans (xσ27.trans xσ30)))) (by decide)).2.1
    have kp38 : gP σ33 W 5 = gP σ30 W 5 := (cσ33.O (kW.up (xσ21.trans (xσ24.trans (xσ27.trans xσ30)))) (by decide)).2.1
    have kp39 : gP σ33 b_1 v1.toNat = gP σ30 b_1 v1.toNat := (cσ33.A (mb_1.up (xσ27.trans xσ30)) (by decide)).2.1
    have kp40 : gP σ33 b_3 2 = gP σ30 b_3 2 := (cσ33.O (mb_3.up xσ30) (by decide)).2.1
    have kp41 : gP σ33 b_3 3 = gP σ30 b_3 3 := (cσ33.O (mb_3.up xσ30) (by decide)).2.1
    have kp42 : gP σ33 th 0 = gP σ30 th 0 := (cσ33.O (kth.up (xσ21.trans (xσ24.trans (xσ27.trans xσ30)))) (by decide)).2.1
    have kp43 : gP σ33 th 1 = gP σ30 th 1 := (cσ33.O (kth.up (xσ21.trans (xσ24.trans (xσ27.trans xσ30)))) (by decide)).2.1
    have kp44 : gP σ33 th 2 = gP σ30 th 2 := (cσ33.O (kth.up (xσ21.trans (xσ24.trans (xσ27.trans xσ30)))) (by decide)).2.1
    have kp45 : gP σ33 th 3 = gP σ30 th 3 := (cσ33.O (kth.up (xσ21.trans (xσ24.trans (xσ27.trans xσ30)))) (by decide)).2.1
    have kp46 : gP σ33 th 5 = gP σ30 th 5 := (cσ33.O (kth.up (xσ21.trans (xσ24.trans (xσ27.trans xσ30)))) (by decide)).2.1
    have o8 := iσ30.one (G := 42) mb_6 (by omega) (by decide)
    refine ⟨W, (kp43.trans (kp31.trans (kp21.trans (kp14.trans (kp5.trans hw))))), fun kk_W_2 => ?_⟩
    intro σ36 eσ36
    have xσ36 : Ext σ33 σ36 := by rw [eσ36]; exact fun _ h => ⟨h, rfl, rfl⟩
    have iσ36 : IV σ36 pl gq ci gr nc ot LLσ33 Nσ33 nuσ33 := by rw [eσ36]; exact iσ33.rec4 (kW.up (xσ21.trans (xσ24.trans (xσ27.trans (xσ30.trans xσ33))))) (by omega) (by omega) (by omega)
    have fσ36 : Fx [1, 2, 3, 4, 5, 6, 7, 64, 454, 512, 708, 6464] gr σ σ36 := fσ33.tr (Sk.fx (by rw [eσ36]; exact Sk.pI (by rw [fcdO (kW.up (xσ21.trans (xσ24.trans (xσ27.trans (xσ30.trans xσ33))))) (by decide)]; decide)))
    have wσ36 : gI σ36 W 4 = 0 := by rw [eσ36]; exact up2_s _ _ _ _
    have kp47 : gI σ36 o 6 = gI σ33 o 6 := by rw [eσ36]; exact up2_n _ _ (fun q => absurd q.2 (by decide))
    have kp48 : gI σ36 th 6 = gI σ33 th 6 := by rw [eσ36]; exact up2_n _ _ (fun q => absurd q.2 (by decide))
    have kp49 : gP σ36 W 2 = gP σ33 W 2 := by rw [eσ36]
    have kp50 : gP σ36 W 5 = gP σ33 W 5 := by rw [eσ36]
    have kp51 : gP σ36 b_1 v1.toNat = gP σ33 b_1 v1.toNat := by rw [eσ36]
    have kp52 : gP σ36 b_3 2 = gP σ33 b_3 2 := by rw [eσ36]
    have kp53 : gP σ36 b_3 3 = gP σ33 b_3 3 := by rw [eσ36]
    have kp54 : gP σ36 th 0 = gP σ33 th 0 := by rw [eσ36]
    have kp55 : gP σ36 th 1 = gP σ33 th 1 := by rw [eσ36]
    have kp56 : gP σ36 th 2 = gP σ33 th 2 := by rw [eσ36]
    have kp57 : gP σ36 th 3 = gP σ33 th 3 := by rw [eσ36]
    have kp58 : gP σ36 th 5 = gP σ33 th 5 := by rw [eσ36]
    exact hQ σ36 LLσ33 Nσ33 nuσ33 () iσ36 fσ36 (nu_σ33) hnσ33 (by (first | omega | with_reducible assumption | with_reducible exact rng_toInt _ | with_reducible exact rng_wr _ | (unfold rng; omega) | (unfold rng at *; omega) | assumption))
  · rw [if_neg hc1]
    have hc1q := Classical.not_not.mp hc1
    unfold w_X7_keepMade_7
    refine i_X7_readSource iσ kth hv2 ko hj hw kW hWJ kJ (by (first | omega | with_reducible assumption | with_reducible exact rng_toInt _ | with_reducible exact rng_wr _ | (unfold rng; omega) | (unfold rng at *; omega) | assumption)) (by (first | omega | with_reducible assumption | with_reducible exact rng_toInt _ | with_reducible exact rng_wr _ | (unfold rng; omega) | (unfold rng at *; omega) | assumption)) (by (first | omega | with_reducible assumption | with_reducible exact rng_toInt _ | with_reducible exact rng_wr _ | (unfold rng; omega) | (unfold rng at *; omega) | assumption)) (by omega) (by (first | omega | with_reducible assumption | with_reducible exact rng_toInt _ | with_reducible exact rng_wr _ | (unfold rng; omega) | (unfold rng at *; omega) | assumption)) (fun σ20 LLσ20 Nσ20 nuσ20 _ iσ20 cσ20 uσ20 hσ20 pσ20 => ?_)
    intro xσ20
    have fσ20 : Fx [1, 2, 3, 4, 5, 6, 7, 64, 454, 512, 708, 6464] gr σ σ20 := fσ.tr (cσ20.mo (by decide))
    have hnσ20 : Hn (gD σ) [44, 41, 42, 80, 81, 82, 83, 84, 85, 86, 87, 88, 89, 90, 91, 92, 93, 94, 95] [] gq LL LLσ20 N Nσ20 := hnσ.go hσ20 (fun d hd => (fσ.1 d hd).1) (by first | decide | exact fun _ h => h | (simp; done) | (intro x hx; simp only [List.mem_cons, List.mem_nil_iff, or_false] at hx ⊢; omega)) (fun d hd => absurd hd (by simp))
    have nσ20_3 := hσ20.2.2 3 (by first | decide | (simp; done) | (simp only [List.mem_cons, List.mem_nil_iff, or_false, not_or]; omega)) (by first | decide | omega) (by first | decide | omega) (by first | decide | omega)
    have nσ20_5 := hσ20.2.2 5 (by first | decide | (simp; done) | (simp only [List.mem_cons, List.mem_nil_iff, or_false, not_or]; omega)) (by first | decide | omega) (by first | decide | omega) (by first | decide | omega)
    have nσ20_14 := hσ20.2.2 14 (by first | decide | (simp; done) | (simp only [List.mem_cons, List.mem_nil_iff, or_false, not_or]; omega)) (by first | decide | omega) (by first | decide | omega) (by first | decide | omega)
    have nσ20_74 := hσ20.2.2 74 (by first | decide | (simp; done) | (simp only [List.mem_cons, List.mem_nil_iff, or_false, not_or]; omega)) (by first | decide | omega) (by first | decide | omega) (by first | decide | omega)
    have nσ20_41 := hσ20.2.2 41 (by first | decide | (simp; done) | (simp only [List.mem_cons, List.mem_nil_iff, or_false, not_or]; omega)) (by first | decide | omega) (by first | decide | omega) (by first | decide | omega)
    have nσ20_42 := hσ20.2.2 42 (by first | decide | (simp; done) | (simp only [List.mem_cons, List.mem_nil_iff, or_false, not_or]; omega)) (by first | decide | omega) (by first | decide | omega) (by first | decide | omega)
    have nσ20_11 := hσ20.2.2 11 (by first | decide | (simp; done) | (simp only [List.mem_cons, List.mem_nil_iff, or_false, not_or]; omega)) (by first | decide | omega) (by first | decide | omega) (by first | decide | omega)
    have nσ20_12 := hσ20.2.2 12 (by first | decide | (simp; done) | (simp only [List.mem_cons, List.mem_nil_iff, or_false, not_or]; omega)) (by first | decide | omega) (by first | decide | omega) (by first | decide | omega)
    have nσ20_13 := hσ20.2.2 13 (by first | decide | (simp; done) | (simp only [List.mem_cons, List.mem_nil_iff, or_false, not_or]; omega)) (by first | decide | omega) (by first | decide | omega) (by first | decide | omega)
    have nu_σ20 : NU nu nuσ20 := uσ20
    have uσ20_0 := uσ20.1 0 (by decide)
    have uσ20_1 := uσ20.1 1 (by decide)
    have uσ20_2 := uσ20.2
    have uσ20_5 := uσ20.1 5 (by decide)
    have uσ20_15 := uσ20.1 15 (by decide)
    have uσ20_16 := uσ20.1 16 (by decide)
    have kp59 : gI σ20 o 6 = gI σ o 6 := (cσ20.O ko (by decide)).1
    have kp60 : gP σ20 W 5 = gP σ W 5 := (cσ20.O kW (by decide)).2.1
    have kp61 : gP σ20 th 1 = gP σ th 1 := (cσ20.O kth (by decide)).2.1
    have kp62 : gP σ20 th 5 = gP σ th 5 := (cσ20.O kth (by decide)).2.1
    have kp63 : gI σ20 th 6 = gI σ th 6 := (cσ20.O kth (by decide)).1
    unfold w_X7_keepMade_12
    have i44 := iσ20.s16 (kth.up xσ20)
    have r67 := I_7_6 iσ20.1 (kth.up xσ20)
    refine i_X7_limit iσ20 (kth.up xσ20) (by (first | omega | with_reducible assumption | with_reducible exact rng_toInt _ | with_reducible exact rng_wr _ | (unfold rng; omega) | (unfold rng at *; omega) | assumption)) (fun σ21_1 _ iσ21_1 cσ21_1 pσ21_1 => ?_) (fun σx LLx Nx nux E ix cx ux px => hX σx LLx Nx nux E ix (fσ20.tr (cx.mo (by decide))) (nu_σ20.x ux) (by first | exact px | exact ⟨by have := px.1; omega, px.2⟩ | (first | omega | with_reducible assumption | with_reducible exact rng_toInt _ | with_reducible exact rng_wr _ | (unfold rng; omega) | (unfold rng at *; omega) | assumption)))
    intro xσ21_1
    have fσ21_1 : Fx [1, 2, 3, 4, 5, 6, 7, 64, 454, 512, 708, 6464] gr σ σ21_1 := fσ20.tr (cσ21_1.mo (by decide))
    have kp64 : gI σ21_1 o 6 = gI σ20 o 6 := (cσ21_1.O (ko.up xσ20) (by decide)).1
    have kp65 : gP σ21_1 W 5 = gP σ20 W 5 := (cσ21_1.O (kW.up xσ20) (by decide)).2.1
    have kp66 : gP σ21_1 th 1 = gP σ20 th 1 := (cσ21_1.O (kth.up xσ20) (by decide)).2.1
    have kp67 : gP σ21_1 th 5 = gP σ20 th 5 := (cσ21_1.O (kth.up xσ20) (by decide)).2.1
    have kp68 : gI σ21_1 th 6 = gI σ20 th 6 := (cσ21_1.O (kth.up xσ20) (by decide)).1
    have i45 := iσ21_1.s16 (kth.up (xσ20.trans xσ21_1))
    have r68 := I_7_6 iσ21_1.1 (kth.up (xσ20.trans xσ21_1))
    refine ⟨W, (kp66.trans (kp61.trans hw)), fun kk_W_3 => ?_⟩
    obtain ⟨b_7, eb_7, fb_7⟩ := P_11_2 iσ21_1.1 (kW.up (xσ20.trans xσ21_1))
    have mb_7 : kO σ21_1 b_7 1 := iσ21_1.1.kd (kW.up (xσ20.trans xσ21_1)) rfl eb_7 rfl
    refine ⟨b_7, eb_7, fun kk_b_7 => ?_⟩
    have q69 := I_7_6 iσ21_1.1 (kth.up (xσ20.trans xσ21_1))
    have q70 := iσ21_1.size mb_7
    have qz70 := iσ21_1.sz mb_7.1
    refine ⟨by (first | omega | with_reducible assumption | with_reducible exact rng_toInt _ | with_reducible exact rng_wr _ | (unfold rng; omega) | (unfold rng at *; omega) | assumption), ?_⟩
    intro σ24_1 eσ24_1
    have xσ24_1 : Ext σ21_1 σ24_1 := by rw [eσ24_1]; exact fun _ h => ⟨h, rfl, rfl⟩
    have iσ24_1 : IV σ24_1 pl gq ci gr nc ot LLσ20 Nσ20 nuσ20 := by rw [eσ24_1]; exact iσ21_1.tot7 (kth.up (xσ20.trans xσ21_1)) ⟨by have o9 := iσ21_1.one (G := 44) mb_7 (by omega) (by decide); omega, by have o9 := iσ21_1.one (G := 44) mb_7 (by omega) (by decide); omega⟩
    have fσ24_1 : Fx [1, 2, 3, 4, 5, 6, 7, 64, 454, 512, 708, 6464] gr σ σ24_1 := fσ21_1.tr (Sk.fx (by rw [eσ24_1]; exact Sk.pI (by rw [fcdO (kth.up (xσ20.trans xσ21_1)) (by decide)]; decide)))
    have wσ24_1 : gI σ24_1 th 6 = (gI σ21_1 th 6 + gI σ21_1 b_7 2) := by rw [eσ24_1]; exact up2_s _ _ _ _
    have kp71 : gI σ24_1 b_7 2 = gI σ21_1 b_7 2 := by rw [eσ24_1]; exact up2_n _ _ (fun q => absurd q.2 (by decide))
    have kp72 : gI σ24_1 o 6 = gI σ21_1 o 6 := by rw [eσ24_1]; exact up2_n _ _ (fun q => absurd q.1 (kO.ne (ko.up (xσ20.trans xσ21_1)) (kth.up (xσ20.trans xσ21_1)) (by decide)))
    have kp73 : gP σ24_1 W 2 = gP σ21_1 W 2 := by rw [eσ24_1]
    have kp74 : gP σ24_1 W 5 = gP σ21_1 W 5 := by rw [eσ24_1]
    have kp75 : gP σ24_1 th 1 = gP σ21_1 th 1 := by rw [eσ24_1]
    have kp76 : gP σ24_1 th 5 = gP σ21_1 th 5 := by rw [eσ24_1]
    have w24 := iσ24_1.s16 (kth.up (xσ20.trans (xσ21_1.trans xσ24_1)))
    refine ⟨W, (kp75.trans (kp66.trans (kp61.trans hw))), fun kk_W_4 => ?_⟩
    obtain ⟨b_8, eb_8, fb_8⟩ := P_7_3 iσ24_1.1 (kth.up (xσ20.trans (xσ21_1.trans xσ24_1)))
    have mb_8 : kO σ24_1 b_8 111 := iσ24_1.1.kd (kth.up (xσ20.trans (xσ21_1.trans xσ24_1))) rfl eb_8 rfl
    refine ⟨b_8, eb_8, fun kk_b_8 => ?_⟩
    refine ⟨⟨by (first | omega | with_reducible assumption | with_reducible exact rng_toInt _ | with_reducible exact rng_wr _ | (unfold rng; omega) | (unfold rng at *; omega) | assumption), by (first | omega | with_reducible assumption | with_reducible exact rng_toInt _ | with_reducible exact rng_wr _ | (unfold rng; omega) | (unfold rng at *; omega) | assumption)⟩, ?_⟩
    refine ⟨b_7, (kp73.trans eb_7), fun kk_b_7_1 => ?_⟩
    have s16 := iσ24_1.s16 (kth.up (xσ20.trans (xσ21_1.trans xσ24_1)))
    have o44 := iσ24_1.one (G := 44) (mb_7.up xσ24_1) (by omega) (by decide)
    obtain ⟨b_9, eb_9⟩ := P_111 iσ24_1.1 mb_8 (k := v1.toNat) (by (first | omega | with_reducible assumption | with_reducible exact rng_toInt _ | with_reducible exact rng_wr _ | (unfold rng; omega) | (unfold rng at *; omega) | assumption))
    have fb_9 := T_111 iσ24_1.1 mb_8 eb_9
    have mb_9 : kO σ24_1 b_9 1 := iσ24_1.1.kd mb_8 rfl eb_9 rfl
    refine i_X1_moveAllTo (G0 := 44) (G1 := (80 + i)) iσ24_1 (mb_7.up xσ24_1) eb_9 mb_9 (by omega) (by omega) (by omega) (by decide) (plc_y (G := 80 + i) (by omega) (md80 i (by omega)).2) (⟨by omega, by omega⟩) (fun N9 n1 n2 n3 => sc_pass iσ24_1 (by omega) n1 n2 n3 (kth.up (xσ20.trans (xσ21_1.trans xσ24_1))) (by omega)) (fun σ27_1 LLσ27_1 Nσ27_1 nuσ27_1 _ iσ27_1 cσ27_1 uσ27_1 hσ27_1 pσ27_1 => ?_)
    intro xσ27_1
    have fσ27_1 : Fx [1, 2, 3, 4, 5, 6, 7, 64, 454, 512, 708, 6464] gr σ σ27_1 := fσ24_1.tr (cσ27_1.mo (by decide))
    have hnσ27_1 : Hn (gD σ) [44, 41, 42, 80, 81, 82, 83, 84, 85, 86, 87, 88, 89, 90, 91, 92, 93, 94, 95] [] gq LL LLσ27_1 N Nσ27_1 := hnσ20.go hσ27_1 (fun d hd => (fσ24_1.1 d hd).1) (by first | decide | exact fun _ h => h | (simp; done) | (intro x hx; simp only [List.mem_cons, List.mem_nil_iff, or_false] at hx ⊢; omega)) (fun d hd => absurd hd (by simp))
    have nσ27_1_3 := hσ27_1.2.2 3 (by first | decide | (simp; done) | (simp only [List.mem_cons, List.mem_nil_iff, or_false, not_or]; omega)) (by first | decide | omega) (by first | decide | omega) (by first | decide | omega)
    have nσ27_1_5 := hσ27_1.2.2 5 (by first | decide | (simp; done) | (simp only [List.mem_cons, List.mem_nil_iff, or_false, not_or]; omega)) (by first | decide | omega) (by first | decide | omega) (by first | decide | omega)
    have nσ27_1_14 := hσ27_1.2.2 14 (by first | decide | (simp; done) | (simp only [List.mem_cons, List.mem_nil_iff, or_false, not_or]; omega)) (by first | decide | omega) (by first | decide | omega) (by first | decide | omega)
    have nσ27_1_74 := hσ27_1.2.2 74 (by first | decide | (simp; done) | (simp only [List.mem_cons, List.mem_nil_iff, or_false, not_or]; omega)) (by first | decide | omega) (by first | decide | omega) (by first | decide | omega)
    have nσ27_1_41 := hσ27_1.2.2 41 (by first | decide | (simp; done) | (simp only [List.mem_cons, List.mem_nil_iff, or_false, not_or]; omega)) (by first | decide | omega) (by first | decide | omega) (by first | decide | omega)
    have nσ27_1_42 := hσ27_1.2.2 42 (by first | decide | (simp; done) | (simp only [List.mem_cons, List.mem_nil_iff, or_false, not_or]; omega)) (by first | decide | omega) (by first | decide | omega) (by first | decide | omega)
    have nσ27_1_11 := hσ27_1.2.2 11 (by first | decide | (simp; done) | (simp only [List.mem_cons, List.mem_nil_iff, or_false, not_or]; omega)) (by first | decide | omega) (by first | decide | omega) (by first | decide | omega)
    have nσ27_1_12 := hσ27_1.2.2 12 (by first | decide | (simp; done) | (simp only [List.mem_cons, List.mem_nil_iff, or_false, not_or]; omega)) (by first | decide | omega) (by first | decide | omega) (by first | decide | omega)
    have nσ27_1_13 := hσ27_1.2.2 13 (by first | decide | (simp; done) | (simp only [List.mem_cons, List.mem_nil_iff, or_false, not_or]; omega)) (by first | decide | omega) (by first | decide | omega) (by first | decide | omega)
    have nu_σ27_1 : NU nu nuσ27_1 := nu_σ20.tr uσ27_1
    have uσ27_1_0 := uσ27_1.1 0 (by decide)
    have uσ27_1_1 := uσ27_1.1 1 (by decide)
    have uσ27_1_2 := uσ27_1.2
    have uσ27_1_5 := uσ27_1.1 5 (by decide)
    have uσ27_1_15 := uσ27_1.1 15 (by decide)
    have uσ27_1_16 := uσ27_1.1 16 (by decide)
    have kp77 : gI σ27_1 o 6 = gI σ24_1 o 6 := (cσ27_1.O (ko.up (xσ20.trans (xσ21_1.trans xσ24_1))) (by decide)).1
    have kp78 : gI σ27_1 th 6 = gI σ24_1 th 6 := (cσ27_1.O (kth.up (xσ20.trans (xσ21_1.trans xσ24_1))) (by decide)).1
    have kp79 : gP σ27_1 W 2 = gP σ24_1 W 2 := (cσ27_1.O (kW.up (xσ20.trans (xσ21_1.trans xσ24_1))) (by decide)).2.1
    have kp80 : gP σ27_1 W 5 = gP σ24_1 W 5 := (cσ27_1.O (kW.up (xσ20.trans (xσ21_1.trans xσ24_1))) (by decide)).2.1
    have kp81 : gP σ27_1 b_8 v1.toNat = gP σ24_1 b_8 v1.toNat := (cσ27_1.A mb_8 (by decide)).2.1
    have kp82 : gP σ27_1 th 1 = gP σ24_1 th 1 := (cσ27_1.O (kth.up (xσ20.trans (xσ21_1.trans xσ24_1))) (by decide)).2.1
    have kp83 : gP σ27_1 th 3 = gP σ24_1 th 3 := (cσ27_1.O (kth.up (xσ20.trans (xσ21_1.trans xσ24_1))) (by decide)).2.1
    have kp84 : gP σ27_1 th 5 = gP σ24_1 th 5 := (cσ27_1.O (kth.up (xσ20.trans (xσ21_1.trans xσ24_1))) (by decide)).2.1
    obtain ⟨b_10, eb_10, fb_10⟩ := P_7_2 iσ27_1.1 (kth.up (xσ20.trans (xσ21_1.trans (xσ24_1.trans xσ27_1))))
    have mb_10 : kO σ27_1 b_10 10 := iσ27_1.1.kd (kth.up (xσ20.trans (xσ21_1.trans (xσ24_1.trans xσ27_1)))) rfl eb_10 rfl
    refine ⟨b_10, eb_10, fun kk_b_10 => ?_⟩
    obtain ⟨b_11, eb_11⟩ := P_7_0 iσ27_1.1 (kth.up (xσ20.trans (xσ21_1.trans (xσ24_1.trans xσ27_1))))
    refine ⟨b_11, eb_11, fun kk_b_11 => ?_⟩
    obtain ⟨b_12, eb_12, fb_12⟩ := P_10_2 iσ27_1.1 mb_10
    have mb_12 : kO σ27_1 b_12 1 := iσ27_1.1.kd mb_10 rfl eb_12 rfl
    refine i_X8_releaseAll (G0 := 41) iσ27_1 kk_b_11 eb_12 mb_12 (by omega) (by omega) (fun σ30_1 LLσ30_1 Nσ30_1 nuσ30_1 _ iσ30_1 cσ30_1 uσ30_1 hσ30_1 pσ30_1 => ?_)
    intro xσ30_1
    have fσ30_1 : Fx [1, 2, 3, 4, 5, 6, 7, 64, 454, 512, 708, 6464] gr σ σ30_1 := fσ27_1.tr (cσ30_1.mo (by decide))
    have hnσ30_1 : Hn (gD σ) [44, 41, 42, 80, 81, 82, 83, 84, 85, 86, 87, 88, 89, 90, 91, 92, 93, 94, 95] [] gq LL LLσ30_1 N Nσ30_1 := hnσ27_1.go hσ30_1 (fun d hd => (fσ27_1.1 d hd).1) (by first | decide | exact fun _ h => h | (simp; done) | (intro x hx; simp only [List.mem_cons, List.mem_nil_iff, or_false] at hx ⊢; omega)) (fun d hd => absurd hd (by simp))
    have nσ30_1_3 := hσ30_1.2.2 3 (by first | decide | (simp; done) | (simp only [List.mem_cons, List.mem_nil_iff, or_false, not_or]; omega)) (by first | decide | omega) (by first | decide | omega) (by first | decide | omega)
    have nσ30_1_5 := hσ30_1.2.2 5 (by first | decide | (simp; done) | (simp only [List.mem_cons, List.mem_nil_iff, or_false, not_or]; omega)) (by first | decide | omega) (by first | decide | omega) (by first | decide | omega)
    have nσ30_1_14 := hσ30_1.2.2 14 (by first | decide | (simp; done) | (simp only [List.mem_cons, List.mem_nil_iff, or_false, not_or]; omega)) (by first | decide | omega) (by first | decide | omega) (by first | decide | omega)
    have nσ30_1_44 := hσ30_1.2.2 44 (by first | decide | (simp; done) | (simp only [List.mem_cons, List.mem_nil_iff, or_false, not_or]; omega)) (by first | decide | omega) (by first | decide | omega) (by first | decide | omega)
    have nσ30_1_74 := hσ30_1.2.2 74 (by first | decide | (simp; done) | (simp only [List.mem_cons, List.mem_nil_iff, or_false, not_or]; omega)) (by first | decide | omega) (by first | decide | omega) (by first | decide | omega)
    have nσ30_1_42 := hσ30_1.2.2 42 (by first | decide | (simp; done) | (simp only [List.mem_cons, List.mem_nil_iff, or_false, not_or]; omega)) (by first | decide | omega) (by first | decide | omega) (by first | decide | omega)
    have nσ30_1_11 := hσ30_1.2.2 11 (by first | decide | (simp; done) | (simp only [List.mem_cons, List.mem_nil_iff, or_false, not_or]; omega)) (by first | decide | omega) (by first | decide | omega) (by first | decide | omega)
    have nσ30_1_12 := hσ30_1.2.2 12 (by first | decide | (simp; done) | (simp only [List.mem_cons, List.mem_nil_iff, or_false, not_or]; omega)) (by first | decide | omega) (by first | decide | omega) (by first | decide | omega)
    have nσ30_1_13 := hσ30_1.2.2 13 (by first | decide | (simp; done) | (simp only [List.mem_cons, List.mem_nil_iff, or_false, not_or]; omega)) (by first | decide | omega) (by first | decide | omega) (by first | decide | omega)
    have nu_σ30_1 : NU nu nuσ30_1 := nu_σ27_1.tr uσ30_1
    have uσ30_1_0 := uσ30_1.1 0 (by decide)
    have uσ30_1_1 := uσ30_1.1 1 (by decide)
    have uσ30_1_2 := uσ30_1.2
    have uσ30_1_5 := uσ30_1.1 5 (by decide)
    have uσ30_1_15 := uσ30_1.1 15 (by decide)
    have uσ30_1_16 := uσ30_1.1 16 (by decide)
    have kp85 : gI σ30_1 o 6 = gI σ27_1 o 6 := (cσ30_1.O (ko.up (xσ20.trans (xσ21_1.trans (xσ24_1.trans xσ27_1)))) (by decide)).1
    have kp86 : gI σ30_1 th 6 = gI σ27_1 th 6 := (cσ30_1.O (kth.up (xσ20.trans (xσ21_1.trans (xσ24_1.trans xσ27_1)))) (by decide)).1
    have kp87 : gP σ30_1 W 2 = gP σ27_1 W 2 := (cσ30_1.O (kW.up (xσ20.trans (xσ21_1.trans (xσ24_1.trans xσ27_1)))) (by decide)).2.1
    have kp88 : gP σ30_1 W 5 = gP σ27_1 W 5 := (cσ30_1.O (kW.up (xσ20.trans (xσ21_1.trans (xσ24_1.trans xσ27_1)))) (by decide)).2.1
    have kp89 : gP σ30_1 b_10 2 = gP σ27_1 b_10 2 := (cσ30_1.O mb_10 (by decide)).2.1
    have kp90 : gP σ30_1 b_8 v1.toNat = gP σ27_1 b_8 v1.toNat := (cσ30_1.A (mb_8.up xσ27_1) (by decide)).2.1
    have kp91 : gP σ30_1 th 0 = gP σ27_1 th 0 := (cσ30_1.O (kth.up (xσ20.trans (xσ21_1.trans (xσ24_1.trans xσ27_1)))) (by decide)).2.1
    have kp92 : gP σ30_1 th 1 = gP σ27_1 th 1 := (cσ30_1.O (kth.up (xσ20.trans (xσ21_1.trans (xσ24_1.trans xσ27_1)))) (by decide)).2.1
    have kp93 : gP σ30_1 th 2 = gP σ27_1 th 2 := (cσ30_1.O (kth.up (xσ20.trans (xσ21_1.trans (xσ24_1.trans xσ27_1)))) (by decide)).2.1
    have kp94 : gP σ30_1 th 3 = gP σ27_1 th 3 := (cσ30_1.O (kth.up (xσ20.trans (xσ21_1.trans (xσ24_1.trans xσ27_1)))) (by decide)).2.1
    have kp95 : gP σ30_1 th 5 = gP σ27_1 th 5 := (cσ30_1.O (kth.up (xσ20.trans (xσ21_1.trans (xσ24_1.trans xσ27_1)))) (by decide)).2.1
    have o9 := iσ27_1.one (G := 41) mb_12 (by omega) (by decide)
    refine ⟨b_10, (kp93.trans eb_10), fun kk_b_10_1 => ?_⟩
    refine ⟨b_11, (kp91.trans eb_11), fun kk_b_11_1 => ?_⟩
    obtain ⟨b_13, eb_13, fb_13⟩ := P_10_3 iσ30_1.1 (mb_10.up xσ30_1)
    have mb_13 : kO σ30_1 b_13 1 := iσ30_1.1.kd (mb_10.up xσ30_1) rfl eb_13 rfl
    refine i_X8_releaseAll (G0 := 42) iσ30_1 (kk_b_11.up xσ30_1) eb_13 mb_13 (by omega) (by omega) (fun σ33_1 LLσ33_1 Nσ33_1 nuσ33_1 _ iσ33_1 cσ33_1 uσ33_1 hσ33_1 pσ33_1 => ?_)
    intro xσ33_1
    have fσ33_1 : Fx [1, 2, 3, 4, 5, 6, 7, 64, 454, 512, 708, 6464] gr σ σ33_1 := fσ30_1.tr (cσ33_1.mo (by decide))
    have hnσ33_1 : Hn (gD σ) [44, 41, 42, 80, 81, 82, 83, 84, 85, 86, 87, 88, 89, 90, 91, 92, 93, 94, 95] [] gq LL LLσ33_1 N Nσ33_1 := hnσ30_1.go hσ33_1 (fun d hd => (fσ30_1.1 d hd).1) (by first | decide | exact fun _ h => h | (simp; done) | (intro x hx; simp only [List.mem_cons, List.mem_nil_iff, or_false] at hx ⊢; omega)) (fun d hd => absurd hd (by simp))
    have nσ33_1_3 := hσ33_1.2.2 3 (by first | decide | (simp; done) | (simp only [List.mem_cons, List.mem_nil_iff, or_false, not_or]; omega)) (by first | decide | omega) (by first | decide | omega) (by first | decide | omega)
    have nσ33_1_5 := hσ33_1.2.2 5 (by first | decide | (simp; done) | (simp only [List.mem_cons, List.mem_nil_iff, or_false, not_or]; omega)) (by first | decide | omega) (by first | decide | omega) (by first | decide | omega)
    have nσ33_1_14 := hσ33_1.2.2 14 (by first | decide | (simp; done) | (simp only [List.mem_cons, List.mem_nil_iff, or_false, not_or]; omega)) (by first | decide | omega) (by first | decide | omega) (by first | decide | omega)
    have nσ33_1_44 := hσ33_1.2.2 44 (by first | decide | (simp; done) | (simp only [List.mem_cons, List.mem_nil_iff, or_false, not_or]; omega)) (by first | decide | omega) (by first | decide | omega) (by first | decide | omega)
    have nσ33_1_74 := hσ33_1.2.2 74 (by first | decide | (simp; done) | (simp only [List.mem_cons, List.mem_nil_iff, or_false, not_or]; omega)) (by first | decide | omega) (by first | decide | omega) (by first | decide | omega)
    have nσ33_1_41 := hσ33_1.2.2 41 (by first | decide | (simp; done) | (simp only [List.mem_cons, List.mem_nil_iff, or_false, not_or]; omega)) (by first | decide | omega) (by first | decide | omega) (by first | decide | omega)
    have nσ33_1_11 := hσ33_1.2.2 11 (by first | decide | (simp; done) | (simp only [List.mem_cons, List.mem_nil_iff, or_false, not_or]; omega)) (by first | decide | omega) (by first | decide | omega) (by first | decide | omega)
    have nσ33_1_12 := hσ33_1.2.2 12 (by first | decide | (simp; done) | (simp only [List.mem_cons, List.mem_nil_iff, or_false, not_or]; omega)) (by first | decide | omega) (by first | decide | omega) (by first | decide | omega)
    have nσ33_1_13 := hσ33_1.2.2 13 (by first | decide | (simp; done) | (simp only [List.mem_cons, List.mem_nil_iff, or_false, not_or]; omega)) (by first | decide | omega) (by first | decide | omega) (by first | decide | omega)
    have nu_σ33_1 : NU nu nuσ33_1 := nu_σ30_1.tr uσ33_1
    have uσ33_1_0 := uσ33_1.1 0 (by decide)
    have uσ33_1_1 := uσ33_1.1 1 (by decide)
    have uσ33_1_2 := uσ33_1.2
    have uσ33_1_5 := uσ33_1.1 5 (by decide)
    have uσ33_1_15 := uσ33_1.1 15 (by decide)
    have uσ33_1_16 := uσ33_1.1 16 (by decide)
    have kp96 : gI σ33_1 o 6 = gI σ30_1 o 6 := (cσ33_1.O (ko.up (xσ20.trans (xσ21_1.trans (xσ24_1.trans (xσ27_1.trans xσ30_1))))) (by decide)).1
    have kp97 : gI σ33_1 th 6 = gI σ30_1 th 6 := (cσ33_1.O (kth.up (xσ20.trans (xσ21_1.trans (xσ24_1.trans (xσ27_1.trans xσ30_1))))) (by decide)).1
    have kp98 : gP σ33_1 W 2 = gP σ30_1 W 2 := (cσ33_1.O (kW.up (xσ20.trans (xσ21_1.trans (xσ24_1.trans (xσ27_1.trans xσ30_1))))) (by decide)).2.1
    have kp99 : gP σ33_1 W 5 = gP σ30_1 W 5 := (cσ33_1.O (kW.up (xσ20.trans (xσ21_1.trans (xσ24_1.trans (xσ27_1.trans xσ30_1))))) (by decide)).2.1
    have kp100 : gP σ33_1 b_10 2 = gP σ30_1 b_10 2 := (cσ33_1.O (mb_10.up xσ30_1) (by decide)).2.1
    have kp101 : gP σ33_1 b_10 3 = gP σ30_1 b_10 3 := (cσ33_1.O (mb_10.up xσ30_1) (by decide)).2.1
    have kp102 : gP σ33_1 b_8 v1.toNat = gP σ30_1 b_8 v1.toNat := (cσ33_1.A (mb_8.up (xσ27_1.trans xσ30_1)) (by decide)).2.1
    have kp103 : gP σ33_1 th 0 = gP σ30_1 th 0 := (cσ33_1.O (kth.up (xσ20.trans (xσ21_1.trans (xσ24_1.trans (xσ27_1.trans xσ30_1))))) (by decide)).2.1
    have kp104 : gP σ33_1 th 1 = gP σ30_1 th 1 := (cσ33_1.O (kth.up (xσ20.trans (xσ21_1.trans (xσ24_1.trans (xσ27_1.trans xσ30_1))))) (by decide)).2.1
    have kp105 : gP σ33_1 th 2 = gP σ30_1 th 2 := (cσ33_1.O (kth.up (xσ20.trans (xσ21_1.trans (xσ24_1.trans (xσ27_1.trans xσ30_1))))) (by decide)).2.1
    have kp106 : gP σ33_1 th 3 = gP σ30_1 th 3 := (cσ33_1.O (kth.up (xσ20.trans (xσ21_1.trans (xσ24_1.trans (xσ27_1.trans xσ30_1))))) (by decide)).2.1
    have kp107 : gP σ33_1 th 5 = gP σ30_1 th 5 := (cσ33_1.O (kth.up (xσ20.trans (xσ21_1.trans (xσ24_1.trans (xσ27_1.trans xσ30_1))))) (by decide)).2.1
    have o8 := iσ30_1.one (G := 42) mb_13 (by omega) (by decide)
    refine ⟨W, (kp104.trans (kp92.trans (kp82.trans (kp75.trans (kp66.trans (kp61.trans hw)))))), fun kk_W_5 => ?_⟩
    intro σ36_1 eσ36_1
    have xσ36_1 : Ext σ33_1 σ36_1 := by rw [eσ36_1]; exact fun _ h => ⟨h, rfl, rfl⟩
    have iσ36_1 : IV σ36_1 pl gq ci gr nc ot LLσ33_1 Nσ33_1 nuσ33_1 := by rw [eσ36_1]; exact iσ33_1.rec4 (kW.up (xσ20.trans (xσ21_1.trans (xσ24_1.trans (xσ27_1.trans (xσ30_1.trans xσ33_1)))))) (by omega) (by omega) (by omega)
    have fσ36_1 : Fx [1, 2, 3, 4, 5, 6, 7, 64, 454, 512, 708, 6464] gr σ σ36_1 := fσ33_1.tr (Sk.fx (by rw [eσ36_1]; exact Sk.pI (by rw [fcdO (kW.up (xσ20.trans (xσ21_1.trans (xσ24_1.trans (xσ27_1.trans (xσ30_1.trans xσ33_1)))))) (by decide)]; decide)))
    have wσ36_1 : gI σ36_1 W 4 = 0 := by rw [eσ36_1]; exact up2_s _ _ _ _
    have kp108 : gI σ36_1 o 6 = gI σ33_1 o 6 := by rw [eσ36_1]; exact up2_n _ _ (fun q => absurd q.2 (by decide))
    have kp109 : gI σ36_1 th 6 = gI σ33_1 th 6 := by rw [eσ36_1]; exact up2_n _ _ (fun q => absurd q.2 (by decide))
    have kp110 : gP σ36_1 W 2 = gP σ33_1 W 2 := by rw [eσ36_1]
    have kp111 : gP σ36_1 W 5 = gP σ33_1 W 5 := by rw [eσ36_1]
    have kp112 : gP σ36_1 b_10 2 = gP σ33_1 b_10 2 := by rw [eσ36_1]
    have kp113 : gP σ36_1 b_10 3 = gP σ33_1 b_10 3 := by rw [eσ36_1]
    have kp114 : gP σ36_1 b_8 v1.toNat = gP σ33_1 b_8 v1.toNat := by rw [eσ36_1]
    have kp115 : gP σ36_1 th 0 = gP σ33_1 th 0 := by rw [eσ36_1]
    have kp116 : gP σ36_1 th 1 = gP σ33_1 th 1 := by rw [eσ36_1]
    have kp117 : gP σ36_1 th 2 = gP σ33_1 th 2 := by rw [eσ36_1]
    have kp118 : gP σ36_1 th 3 = gP σ33_1 th 3 := by rw [eσ36_1]
    have kp119 : gP σ36_1 th 5 = gP σ33_1 th 5 := by rw [eσ36_1]
    exact hQ σ36_1 LLσ33_1 Nσ33_1 nuσ33_1 () iσ36_1 fσ36_1 (nu_σ33_1) hnσ33_1 (by (first | omega | with_reducible assumption | with_reducible exact rng_toInt _ | with_reducible exact rng_wr _ | (unfold rng; omega) | (unfold rng at *; omega) | assumption))
set_option maxHeartbeats 1000000 in
theorem i_X7_hasSameRows {σ : Sg} {pl : Nat} {gq ci gr nc : Nat → Nat} {ot : Nat → Nat → Int} {LL : Nat → List Nat} {N nu : Nat → Nat} {th : Nat} {v1 : Option Nat} {v2 : Option Nat} {v3 : Int} {W : Nat} (iσ : IV σ pl gq ci gr nc ot LL N nu) (kth : kO σ th 7) {x : Nat} (hv1 : v1 = some x) (kx : kO σ x 1) {y : Nat} (hv2 : v2 = some y) (ky : kO σ y 1) (hw : gP σ th 1 = some W) (kW : kO σ W 11) (hx : 80 ≤ gq x ∧ gq x ≤ 95) (hy : 68 ≤ gq y ∧ gq y ≤ 71) (hb : N 14 + N 44 + N 74 + N 1 ≤ 20000) (n44 : N 44 = 0) {Q : Sg → Int → Prop} {X : Sg → String → Prop} (hQ : ∀ (σ' : Sg) (LL' : Nat → List Nat) (N' nu' : Nat → Nat) (r : Int), IV σ' pl gq ci gr nc ot LL' N' nu' → Fx [1, 2, 3, 4, 5, 6, 7, 64, 512, 6464] gr σ σ' → NU nu nu' → Hn (gD σ) [44, 74] [] gq LL LL' N N' → ((r = 0 ∨ r = 1) ∧ N' 1 = N 1 ∧ N' 44 = 0 ∧ (N' 74 ≤ 4000 ∨ N' 74 = N 74)) → Q σ' r) : wp_X7_hasSameRows th v1 v2 v3 σ Q X := by
  have fσ : Fx [1, 2, 3, 4, 5, 6, 7, 64, 512, 6464] gr σ σ := Fx.rf
  have hnσ : Hn (gD σ) [44, 74] [] gq LL LL N N := Hn.rf
  have fW := T_7_1 iσ.1 kth hw
  have lx := iσ.le kx.1 (by omega)
  have ly := iσ.le ky.1 (by omega)
  have s12 := iσ.s12
  have s16 := iσ.s16 kth
  have r67 := I_7_6 iσ.1 kth
  have lx2 := S16.le (N := N) (G := gq x) hx
  have ly2 := S12.le (N := N) (G := gq y) (by omega)
  unfold wp_X7_hasSameRows
  unfold w_X7_hasSameRows_0
  refine ⟨x, hv1, fun kk_x => ?_⟩
  refine ⟨y, hv2, fun kk_y => ?_⟩
  have q2 := iσ.size kx
  have qz2 := iσ.sz kx.1
  have q3 := iσ.size ky
  have qz3 := iσ.sz ky.1
  by_cases hc1 : gI σ x 2 = gI σ y 2
  · rw [if_pos hc1]
    unfold w_X7_hasSameRows_13
    obtain ⟨b, eb⟩ := P_7_0 iσ.1 kth
    refine ⟨b, eb, fun kk_b => ?_⟩
    obtain ⟨b_1, eb_1, fb_1⟩ := P_7_4 iσ.1 kth
    have mb_1 : kO σ b_1 1 := iσ.1.kd kth rfl eb_1 rfl
    refine i_X8_releaseAll (G0 := 74) iσ kk_b eb_1 mb_1 (by omega) (by omega) (fun σ30 LLσ30 Nσ30 nuσ30 _ iσ30 cσ30 uσ30 hσ30 pσ30 => ?_)
    intro xσ30
    have fσ30 : Fx [1, 2, 3, 4, 5, 6, 7, 64, 512, 6464] gr σ σ30 := fσ.tr (cσ30.mo (by decide))
    have hnσ30 : Hn (gD σ) [44, 74] [] gq LL LLσ30 N Nσ30 := hnσ.go hσ30 (fun d hd => (fσ.1 d hd).1) (by first | decide | exact fun _ h => h | (simp; done) | (intro x hx; simp only [List.mem_cons, List.mem_nil_iff, or_false] at hx ⊢; omega)) (fun d hd => absurd hd (by simp))
    have nσ30_3 := hσ30.2.2 3 (by first | decide | (simp; done) | (simp only [List.mem_cons, List.mem_nil_iff, or_false, not_or]; omega)) (by first | decide | omega) (by first | decide | omega) (by first | decide | omega)
    have nσ30_5 := hσ30.2.2 5 (by first | decide | (simp; done) | (simp only [List.mem_cons, List.mem_nil_iff, or_false, not_or]; omega)) (by first | decide | omega) (by first | decide | omega) (by first | decide | omega)
    have nσ30_14 := hσ30.2.2 14 (by first | decide | (simp; done) | (simp only [List.mem_cons, List.mem_nil_iff, or_false, not_or]; omega)) (by first | decide | omega) (by first | decide | omega) (by first | decide | omega)
    have nσ30_44 := hσ30.2.2 44 (by first | decide | (simp; done) | (simp only [List.mem_cons, List.mem_nil_iff, or_false, not_or]; omega)) (by first | decide | omega) (by first | decide | omega) (by first | decide | omega)
    have nσ30_41 := hσ30.2.2 41 (by first | decide | (simp; done) | (simp only [List.mem_cons, List.mem_nil_iff, or_false, not_or]; omega)) (by first | decide | omega) (by first | decide | omega) (by first | decide | omega)
    have nσ30_42 := hσ30.2.2 42 (by first | decide | (simp; done) | (simp only [List.mem_cons, List.mem_nil_iff, or_false, not_or]; omega)) (by first | decide | omega) (by first | decide | omega) (by first | decide | omega)
    have nσ30_11 := hσ30.2.2 11 (by first | decide | (simp; done) | (simp only [List.mem_cons, List.mem_nil_iff, or_false, not_or]; omega)) (by first | decide | omega) (by first | decide | omega) (by first | decide | omega)
    have nσ30_12 := hσ30.2.2 12 (by first | decide | (simp; done) | (simp only [List.mem_cons, List.mem_nil_iff, or_false, not_or]; omega)) (by first | decide | omega) (by first | decide | omega) (by first | decide | omega)
    have nσ30_13 := hσ30.2.2 13 (by first | decide | (simp; done) | (simp only [List.mem_cons, List.mem_nil_iff, or_false, not_or]; omega)) (by first | decide | omega) (by first | decide | omega) (by first | decide | omega)
    have nu_σ30 : NU nu nuσ30 := uσ30
    have uσ30_0 := uσ30.1 0 (by decide)
    have uσ30_1 := uσ30.1 1 (by decide)
    have uσ30_2 := uσ30.2
    have uσ30_5 := uσ30.1 5 (by decide)
    have uσ30_15 := uσ30.1 15 (by decide)
    have uσ30_16 := uσ30.1 16 (by decide)
    have kp4 : gP σ30 th 0 = gP σ th 0 := (cσ30.O kth (by decide)).2.1
    have kp5 : gP σ30 th 1 = gP σ th 1 := (cσ30.O kth (by decide)).2.1
    have kp6 : gP σ30 th 4 = gP σ th 4 := (cσ30.O kth (by decide)).2.1
    have o74 := iσ.one (G := 74) mb_1 (by omega) (by decide)
    have hx30 := hσ30.1 x kx.1 (by first | (simp; done) | (simp only [List.mem_cons, List.mem_nil_iff, or_false, not_or]; omega)) (by omega)
    have hy30 := hσ30.1 y ky.1 (by first | (simp; done) | (simp only [List.mem_cons, List.mem_nil_iff, or_false, not_or]; omega)) (by omega)
    refine ⟨x, hv1, fun kk_x_1 => ?_⟩
    have Lp30 : ∀ (fu30 : Nat) (τ30 : Sg) (LLt30 : Nat → List Nat) (Nt30 nut30 : Nat → Nat) (v4 : Option Nat), IV τ30 pl gq ci gr nc ot LLt30 Nt30 nut30 → Fx [1, 2, 3, 4, 5, 6, 7, 64, 512, 6464] gr σ τ30 → Ext σ30 τ30 → NU nu nut30 → Hn (gD σ) [44, 74] [] gq LL LLt30 N Nt30 → (∃ (A B : List Nat), ((LLt30 x = A ++ B ∧ v4 = B.head?) ∧ Nt30 1 = N 1 ∧ Nt30 44 = 0 ∧ Nt30 74 + B.length ≤ 4000 ∧ (LLt30 y).length = (LL y).length) ∧ (B.length) < fu30) → wl_X7_hasSameRows_30 th Q X fu30 τ30 v2 v3 v4 := by
      intro fu30
      induction fu30 with
      | zero => intro _ _ _ _ _ _ _ _ _ _ h9; obtain ⟨_, _, _, h9⟩ := h9; omega
      | succ fu30 ih30 =>
        intro τ30 LLt30 Nt30 nut30 v4 iτ30 fτ30 xτ30 nu_τ30 hnτ30 hi30
        obtain ⟨A, B, hi30, hm30⟩ := hi30
        have nτ30_3 := hnτ30.2.2 3 (by first | decide | (simp; done) | (simp only [List.mem_cons, List.mem_nil_iff, or_false, not_or]; omega)) (by first | decide | omega) (by first | decide | omega) (by first | decide | omega)
        have nτ30_5 := hnτ30.2.2 5 (by first | decide | (simp; done) | (simp only [List.mem_cons, List.mem_nil_iff, or_false, not_or]; omega)) (by first | decide | omega) (by first | decide | omega) (by first | decide | omega)
        have nτ30_14 := hnτ30.2.2 14 (by first | decide | (simp; done) | (simp only [List.mem_cons, List.mem_nil_iff, or_false, not_or]; omega)) (by first | decide | omega) (by first | decide | omega) (by first | decide | omega)
        have nτ30_41 := hnτ30.2.2 41 (by first | decide | (simp; done) | (simp only [List.mem_cons, List.mem_nil_iff, or_false, not_or]; omega)) (by first | decide | omega) (by first | decide | omega) (by first | decide | omega)
        have nτ30_42 := hnτ30.2.2 42 (by first | decide | (simp; done) | (simp only [List.mem_cons, List.mem_nil_iff, or_false, not_or]; omega)) (by first | decide | omega) (by first | decide | omega) (by first | decide | omega)
        have nτ30_11 := hnτ30.2.2 11 (by first | decide | (simp; done) | (simp only [List.mem_cons, List.mem_nil_iff, or_false, not_or]; omega)) (by first | decide | omega) (by first | decide | omega) (by first | decide | omega)
        have nτ30_12 := hnτ30.2.2 12 (by first | decide | (simp; done) | (simp only [List.mem_cons, List.mem_nil_iff, or_false, not_or]; omega)) (by first | decide | omega) (by first | decide | omega) (by first | decide | omega)
        have nτ30_13 := hnτ30.2.2 13 (by first | decide | (simp; done) | (simp only [List.mem_cons, List.mem_nil_iff, or_false, not_or]; omega)) (by first | decide | omega) (by first | decide | omega) (by first | decide | omega)
        have uτ30_0 := nu_τ30.1 0 (by decide)
        have uτ30_1 := nu_τ30.1 1 (by decide)
        have uτ30_2 := nu_τ30.2
        have uτ30_5 := nu_τ30.1 5 (by decide)
        have uτ30_15 := nu_τ30.1 15 (by decide)
        have uτ30_16 := nu_τ30.1 16 (by decide)
        unfold wl_X7_hasSameRows_30
        have kp7 : gP τ30 th 0 = gP σ th 0 := (fτ30.O kth (by decide)).2.1
        have kp8 : gP τ30 th 1 = gP σ th 1 := (fτ30.O kth (by decide)).2.1
        have kp9 : gP τ30 th 4 = gP σ th 4 := (fτ30.O kth (by decide)).2.1
        unfold w_X7_hasSameRows_30
        by_cases hc10 : v4 = none
        · rw [if_pos hc10]
          unfold w_X7_hasSameRows_63
          refine ⟨W, (kp8.trans hw), fun kk_W => ?_⟩
          refine ⟨y, hv2, fun kk_y_1 => ?_⟩
          obtain ⟨b_2, eb_2, fb_2⟩ := P_11_2 iτ30.1 (kW.up (xσ30.trans xτ30))
          have mb_2 : kO τ30 b_2 1 := iτ30.1.kd (kW.up (xσ30.trans xτ30)) rfl eb_2 rfl
          have Lp78 : ∀ (fu78 : Nat) (τ78 : Sg) (LLt78 : Nat → List Nat) (Nt78 nut78 : Nat → Nat) (v5 : Option Nat), IV τ78 pl gq ci gr nc ot LLt78 Nt78 nut78 → Fx [1, 2, 3, 4, 5, 6, 7, 64, 512, 6464] gr σ τ78 → Ext τ30 τ78 → NU nu nut78 → Hn (gD σ) [44, 74] [] gq LL LLt78 N Nt78 → (∃ (A B : List Nat), ((LLt78 y = A ++ B ∧ v5 = B.head?) ∧ Nt78 1 = N 1 ∧ Nt78 74 ≤ 4000 ∧ Nt78 44 + B.length ≤ 2000) ∧ (B.length) < fu78) → wl_X7_hasSameRows_78 th Q X fu78 τ78 v3 (gP τ30 W 2) v5 := by
            intro fu78
            induction fu78 with
            | zero => intro _ _ _ _ _ _ _ _ _ _ h9; obtain ⟨_, _, _, h9⟩ := h9; omega
            | succ fu78 ih78 =>
              intro τ78 LLt78 Nt78 nut78 v5 iτ78 fτ78 xτ78 nu_τ78 hnτ78 hi78
              obtain ⟨A, B, hi78, hm78⟩ := hi78
              have nτ78_3 := hnτ78.2.2 3 (by first | decide | (simp; done) | (simp only [List.mem_cons, List.mem_nil_iff, or_false, not_or]; omega)) (by first | decide | omega) (by first | decide | omega) (by first | decide | omega)
              have nτ78_5 := hnτ78.2.2 5 (by first | decide | (simp; done) | (simp only [List.mem_cons, List.mem_nil_iff, or_false, not_or]; omega)) (by first | decide | omega) (by first | decide | omega) (by first | decide | omega)
              have nτ78_14 := hnτ78.2.2 14 (by first | decide | (simp; done) | (simp only [List.mem_cons, List.mem_nil_iff, or_false, not_or]; omega)) (by first | decide | omega) (by first | decide | omega) (by first | decide | omega)
              have nτ78_41 := hnτ78.2.2 41 (by first | decide | (simp; done) | (simp only [List.mem_cons, List.mem_nil_iff, or_false, not_or]; omega)) (by first | decide | omega) (by first | decide | omega) (by first | decide | omega)
              have nτ78_42 := hnτ78.2.2 42 (by first | decide | (simp; done) | (simp only [List.mem_cons, List.mem_nil_iff, or_false, not_or]; omega)) (by first | decide | omega) (by first | decide | omega) (by first | decide | omega)
              have nτ78_11 := hnτ78.2.2 11 (by first | decide | (simp; done) | (simp only [List.mem_cons, List.mem_nil_iff, or_false, not_or]; omega)) (by first | decide | omega) (by first | decide | omega) (by first | decide | omega)
              have nτ78_12 := hnτ78.2.2 12 (by first | decide | (simp; done) | (simp only [List.mem_cons, List.mem_nil_iff, or_false, not_or]; omega)) (by first | decide | omega) (by first | decide | omega) (by first | decide | omega)
              have nτ78_13 := hnτ78.2.2 13 (by first | decide | (simp; done) | (simp only [List.mem_cons, List.mem_nil_iff, or_false, not_or]; omega)) (by first | decide | omega) (by first | decide | omega) (by first | decide | omega)
              have uτ78_0 := nu_τ78.1 0 (by decide)
              have uτ78_1 := nu_τ78.1 1 (by decide)
              have uτ78_2 := nu_τ78.2
              have uτ78_5 := nu_τ78.1 5 (by decide)
              have uτ78_15 := nu_τ78.1 15 (by decide)
              have uτ78_16 := nu_τ78.1 16 (by decide)
              unfold wl_X7_hasSameRows_78
              have kp11 : gP τ78 th 0 = gP σ th 0 := (fτ78.O kth (by decide)).2.1
              have kp12 : gP τ78 th 1 = gP σ th 1 := (fτ78.O kth (by decide)).2.1
              have kp13 : gP τ78 th 4 = gP σ th 4 := (fτ78.O kth (by decide)).2.1
              have kp14 : gP τ78 W 2 = gP τ30 W 2 := (fτ78.O kW (by decide)).2.1.trans (fτ30.O kW (by decide)).2.1.symm
              unfold w_X7_hasSameRows_78
              by_cases hc15 : v5 = none
              · rw [if_pos hc15]
                unfold w_X7_hasSameRows_109
                refine ⟨b_2, eb_2, fun kk_b_2 => ?_⟩
                refine ⟨b_1, (kp13.trans eb_1), fun kk_b_1 => ?_⟩
                have Lp128 : ∀ (fu128 : Nat) (v5 : Int) (v6 : Option Nat) (v7 : Option Nat), (∃ (A B C D : List Nat), ((LLt78 b_1 = A ++ B ∧ v7 = B.head?) ∧ (LLt78 b_2 = C ++ D ∧ v6 = D.head?) ∧ (v5 = 0 ∨ v5 = 1)) ∧ (B.length) < fu128) → wl_X7_hasSameRows_128 th Q X fu128 τ78 v3 (gP τ30 W 2) v5 v6 v7 := by
                  intro fu128
                  induction fu128 with
                  | zero => intro _ _ _ h9; obtain ⟨_, _, _, _, _, h9⟩ := h9; omega
                  | succ fu128 ih128 =>
                    intro v5 v6 v7 hi128
                    obtain ⟨A, B, C, D, hi128, hm128⟩ := hi128
                    unfold wl_X7_hasSameRows_128
                    unfold w_X7_hasSameRows_128
                    by_cases hc16 : v7 = none
                    · rw [if_pos hc16]
                      unfold w_X7_hasSameRows_179
                      refine ⟨b, (kp11.trans eb), fun kk_b_3 => ?_⟩
                      refine i_X8_releaseAll (G0 := 44) iτ78 (kk_b.up (xσ30.trans (xτ30.trans xτ78))) eb_2 (mb_2.up xτ78) (by omega) (by omega) (fun σ53 LLσ53 Nσ53 nuσ53 _ iσ53 cσ53 uσ53 hσ53 pσ53 => ?_)
                      intro xσ53
                      have fσ53 : Fx [1, 2, 3, 4, 5, 6, 7, 64, 512, 6464] gr σ σ53 := fτ78.tr (cσ53.mo (by decide))
                      have hnσ53 : Hn (gD σ) [44, 74] [] gq LL LLσ53 N Nσ53 := hnτ78.go hσ53 (fun d hd => (fτ78.1 d hd).1) (by first | decide | exact fun _ h => h | (simp; done) | (intro x hx; simp only [List.mem_cons, List.mem_nil_iff, or_false] at hx ⊢; omega)) (fun d hd => absurd hd (by simp))
                      have nσ53_3 := hσ53.2.2 3 (by first | decide | (simp; done) | (simp only [List.mem_cons, List.mem_nil_iff, or_false, not_or]; omega)) (by first | decide | omega) (by first | decide | omega) (by first | decide | omega)
                      have nσ53_5 := hσ53.2.2 5 (by first | decide | (simp; done) | (simp only [List.mem_cons, List.mem_nil_iff, or_false, not_or]; omega)) (by first | decide | omega) (by first | decide | omega) (by first | decide | omega)
                      have nσ53_14 := hσ53.2.2 14 (by first | decide | (simp; done) | (simp only [List.mem_cons, List.mem_nil_iff, or_false, not_or]; omega)) (by first | decide | omega) (by first | decide | omega) (by first | decide | omega)
                      have nσ53_74 := hσ53.2.2 74 (by first | decide | (simp; done) | (simp only [List.mem_cons, List.mem_nil_iff, or_false, not_or]; omega)) (by first | decide | omega) (by first | decide | omega) (by first | decide | omega)
                      have nσ53_41 := hσ53.2.2 41 (by first | decide | (simp; done) | (simp only [List.mem_cons, List.mem_nil_iff, or_false, not_or]; omega)) (by first | decide | omega) (by first | decide | omega) (by first | decide | omega)
                      have nσ53_42 := hσ53.2.2 42 (by first | decide | (simp; done) | (simp only [List.mem_cons, List.mem_nil_iff, or_false, not_or]; omega)) (by first | decide | omega) (by first | decide | omega) (by first | decide | omega)
                      have nσ53_11 := hσ53.2.2 11 (by first | decide | (simp; done) | (simp only [List.mem_cons, List.mem_nil_iff, or_false, not_or]; omega)) (by first | decide | omega) (by first | decide | omega) (by first | decide | omega)
                      have nσ53_12 := hσ53.2.2 12 (by first | decide | (simp; done) | (simp only [List.mem_cons, List.mem_nil_iff, or_false, not_or]; omega)) (by first | decide | omega) (by first | decide | omega) (by first | decide | omega)
                      have nσ53_13 := hσ53.2.2 13 (by first | decide | (simp; done) | (simp only [List.mem_cons, List.mem_nil_iff, or_false, not_or]; omega)) (by first | decide | omega) (by first | decide | omega) (by first | decide | omega)
                      have nu_σ53 : NU nu nuσ53 := nu_τ78.tr uσ53
                      have uσ53_0 := uσ53.1 0 (by decide)
                      have uσ53_1 := uσ53.1 1 (by decide)
                      have uσ53_2 := uσ53.2
                      have uσ53_5 := uσ53.1 5 (by decide)
                      have uσ53_15 := uσ53.1 15 (by decide)
                      have uσ53_16 := uσ53.1 16 (by decide)
                      have kp17 : gP σ53 W 2 = gP τ78 W 2 := (cσ53.O (kW.up (xσ30.trans (xτ30.trans xτ78))) (by decide)).2.1
                      have kp18 : gP σ53 th 0 = gP τ78 th 0 := (cσ53.O (kth.up (xσ30.trans (xτ30.trans xτ78))) (by decide)).2.1
                      have kp19 : gP σ53 th 1 = gP τ78 th 1 := (cσ53.O (kth.up (xσ30.trans (xτ30.trans xτ78))) (by decide)).2.1
                      have kp20 : gP σ53 th 4 = gP τ78 th 4 := (cσ53.O (kth.up (xσ30.trans (xτ30.trans xτ78))) (by decide)).2.1
                      have o44 := iτ78.one (G := 44) (mb_2.up xτ78) (by omega) (by decide)
                      refine ⟨by (first | omega | with_reducible assumption | with_reducible exact rng_toInt _ | with_reducible exact rng_wr _ | (unfold rng; omega) | (unfold rng at *; omega) | assumption), ?_⟩
                      exact hQ σ53 LLσ53 Nσ53 nuσ53 v5 iσ53 fσ53 (nu_σ53) hnσ53 (by (first | omega | with_reducible assumption | with_reducible exact rng_toInt _ | with_reducible exact rng_wr _ | (unfold rng; omega) | (unfold rng at *; omega) | assumption))
                    · rw [if_neg hc16]
                      unfold w_X7_hasSameRows_133
                      by_cases hc21 : v6 = none
                      · rw [if_pos hc21]
                        unfold w_X7_hasSameRows_179
                        refine ⟨b, (kp11.trans eb), fun kk_b_4 => ?_⟩
                        refine i_X8_releaseAll (G0 := 44) iτ78 (kk_b.up (xσ30.trans (xτ30.trans xτ78))) eb_2 (mb_2.up xτ78) (by omega) (by omega) (fun σ53_1 LLσ53_1 Nσ53_1 nuσ53_1 _ iσ53_1 cσ53_1 uσ53_1 hσ53_1 pσ53_1 => ?_)
                        intro xσ53_1
                        have fσ53_1 : Fx [1, 2, 3, 4, 5, 6, 7, 64, 512, 6464] gr σ σ53_1 := fτ78.tr (cσ53_1.mo (by decide))
                        have hnσ53_1 : Hn (gD σ) [44, 74] [] gq LL LLσ53_1 N Nσ53_1 := hnτ78.go hσ53_1 (fun d hd => (fτ78.1 d hd).1) (by first | decide | exact fun _ h => h | (simp; done) | (intro x hx; simp only [List.mem_cons, List.mem_nil_iff, or_false] at hx ⊢; omega)) (fun d hd => absurd hd (by simp))
                        have nσ53_1_3 := hσ53_1.2.2 3 (by first | decide | (simp; done) | (simp only [List.mem_cons, List.mem_nil_iff, or_false, not_or]; omega)) (by first | decide | omega) (by first | decide | omega) (by first | decide | omega)
                        have nσ53_1_5 := hσ53_1.2.2 5 (by first | decide | (simp; done) | (simp only [List.mem_cons, List.mem_nil_iff, or_false, not_or]; omega)) (by first | decide | omega) (by first | decide | omega) (by first | decide | omega)
                        have nσ53_1_14 := hσ53_1.2.2 14 (by first | decide | (simp; done) | (simp only [List.mem_cons, List.mem_nil_iff, or_false, not_or]; omega)) (by first | decide | omega) (by first | decide | omega) (by first | decide | omega)
                        have nσ53_1_74 := hσ53_1.2.2 74 (by first | decide | (simp; done) | (simp only [List.mem_cons, List.mem_nil_iff, or_false, not_or]; omega)) (by first | decide | omega) (by first | decide | omega) (by first | decide | omega)
                        have nσ53_1_41 := hσ53_1.2.2 41 (by first | decide | (simp; done) | (simp only [List.mem_cons, List.mem_nil_iff, or_false, not_or]; omega)) (by first | decide | omega) (by first | decide | omega) (by first | decide | omega)
                        have nσ53_1_42 := hσ53_1.2.2 42 (by first | decide | (simp; done) | (simp only [List.mem_cons, List.mem_nil_iff, or_false, not_or]; omega)) (by first | decide | omega) (by first | decide | omega) (by first | decide | omega)
                        have nσ53_1_11 := hσ53_1.2.2 11 (by first | decide | (simp; done) | (simp only [List.mem_cons, List.mem_nil_iff, or_false, not_or]; omega)) (by first | decide | omega) (by first | decide | omega) (by first | decide | omega)
                        have nσ53_1_12 := hσ53_1.2.2 12 (by first | decide | (simp; done) | (simp only [List.mem_cons, List.mem_nil_iff, or_false, not_or]; omega)) (by first | decide | omega) (by first | decide | omega) (by first | decide | omega)
                        have nσ53_1_13 := hσ53_1.2.2 13 (by first | decide | (simp; done) | (simp only [List.mem_cons, List.mem_nil_iff, or_false, not_or]; omega)) (by first | decide | omega) (by first | decide | omega) (by first | decide | omega)
                        have nu_σ53_1 : NU nu nuσ53_1 := nu_τ78.tr uσ53_1
                        have uσ53_1_0 := uσ53_1.1 0 (by decide)
                        have uσ53_1_1 := uσ53_1.1 1 (by decide)
                        have uσ53_1_2 := uσ53_1.2
                        have uσ53_1_5 := uσ53_1.1 5 (by decide)
                        have uσ53_1_15 := uσ53_1.1 15 (by decide)
                        have uσ53_1_16 := uσ53_1.1 16 (by decide)
                        have kp22 : gP σ53_1 W 2 = gP τ78 W 2 := (cσ53_1.O (kW.up (xσ30.trans (xτ30.trans xτ78))) (by decide)).2.1
                        have kp23 : gP σ53_1 th 0 = gP τ78 th 0 := (cσ53_1.O (kth.up (xσ30.trans (xτ30.trans xτ78))) (by decide)).2.1
                        have kp24 : gP σ53_1 th 1 = gP τ78 th 1 := (cσ53_1.O (kth.up (xσ30.trans (xτ30.trans xτ78))) (by decide)).2.1
                        have kp25 : gP σ53_1 th 4 = gP τ78 th 4 := (cσ53_1.O (kth.up (xσ30.trans (xτ30.trans xτ78))) (by decide)).2.1
                        have o44 := iτ78.one (G := 44) (mb_2.up xτ78) (by omega) (by decide)
                        refine ⟨by (first | omega | with_reducible assumption | with_reducible exact rng_toInt _ | with_reducible exact rng_wr _ | (unfold rng; omega) | (unfold rng at *; omega) | assumption), ?_⟩
                        exact hQ σ53_1 LLσ53_1 Nσ53_1 nuσ53_1 v5 iσ53_1 fσ53_1 (nu_σ53_1) hnσ53_1 (by (first | omega | with_reducible assumption | with_reducible exact rng_toInt _ | with_reducible exact rng_wr _ | (unfold rng; omega) | (unfold rng at *; omega) | assumption))
                      · rw [if_neg hc21]
                        unfold w_X7_hasSameRows_138
                        by_cases hc26 : v5 = 0
                        · rw [if_pos hc26]
                          unfold w_X7_hasSameRows_159
                          unfold w_X7_hasSameRows_160
                          obtain ⟨b_3, eb_3⟩ := Option.ne_none_iff_exists'.mp hc16
                          have knb_3 : kO τ78 b_3 0 := iτ78.cell (it_mem hi128.1 eb_3)
                          obtain ⟨A1, B1, p1, p2, p3, p4⟩ := it_step iτ78 (mb_1.up (xσ30.trans (xτ30.trans xτ78))) hi128.1 eb_3
                          obtain ⟨b_4, eb_4⟩ := Option.ne_none_iff_exists'.mp hc21
                          have knb_4 : kO τ78 b_4 0 := iτ78.cell (it_mem hi128.2.1 eb_4)
                          obtain ⟨C1, D1, t1, t2, t3, t4⟩ := it_step iτ78 (mb_2.up xτ78) hi128.2.1 eb_4
                          refine ⟨b_4, eb_4, fun kk_b_4_1 => ?_⟩
                          refine ⟨b_3, eb_3, fun kk_b_3_1 => ?_⟩
                          exact ih128 0 (gP τ78 b_4 1) (gP τ78 b_3 1) (⟨A1, B1, C1, D1, ⟨⟨p1, p2⟩, ⟨t1, t2⟩, by omega⟩, by omega⟩)
                        · rw [if_neg hc26]
                          unfold w_X7_hasSameRows_143
                          obtain ⟨b_5, eb_5⟩ := Option.ne_none_iff_exists'.mp hc16
                          have knb_5 : kO τ78 b_5 0 := iτ78.cell (it_mem hi128.1 eb_5)
                          obtain ⟨b_6, eb_6⟩ := Option.ne_none_iff_exists'.mp hc21
                          have knb_6 : kO τ78 b_6 0 := iτ78.cell (it_mem hi128.2.1 eb_6)
                          refine i_X1_compare iτ78 eb_5 knb_5 eb_6 knb_6 (fun r50 pσ49 => ?_)
                          intro xσ49
                          by_cases hc27 : r50 ≠ 0
                          · rw [if_pos hc27]
                            unfold w_X7_hasSameRows_159
                            unfold w_X7_hasSameRows_160
                            obtain ⟨A1, B1, p1, p2, p3, p4⟩ := it_step iτ78 (mb_1.up (xσ30.trans (xτ30.trans xτ78))) hi128.1 eb_5
                            obtain ⟨C1, D1, t1, t2, t3, t4⟩ := it_step iτ78 (mb_2.up xτ78) hi128.2.1 eb_6
                            refine ⟨b_6, eb_6, fun kk_b_6 => ?_⟩
                            refine ⟨b_5, eb_5, fun kk_b_5 => ?_⟩
                            exact ih128 0 (gP τ78 b_6 1) (gP τ78 b_5 1) (⟨A1, B1, C1, D1, ⟨⟨p1, p2⟩, ⟨t1, t2⟩, by omega⟩, by omega⟩)
                          · rw [if_neg hc27]
                            have hc27q := Classical.not_not.mp hc27
                            unfold w_X7_hasSameRows_155
                            unfold w_X7_hasSameRows_160
                            obtain ⟨A1, B1, p1, p2, p3, p4⟩ := it_step iτ78 (mb_1.up (xσ30.trans (xτ30.trans xτ78))) hi128.1 eb_5
                            obtain ⟨C1, D1, t1, t2, t3, t4⟩ := it_step iτ78 (mb_2.up xτ78) hi128.2.1 eb_6
                            refine ⟨b_6, eb_6, fun kk_b_6_1 => ?_⟩
                            refine ⟨b_5, eb_5, fun kk_b_5_1 => ?_⟩
                            exact ih128 1 (gP τ78 b_6 1) (gP τ78 b_5 1) (⟨A1, B1, C1, D1, ⟨⟨p1, p2⟩, ⟨t1, t2⟩, by omega⟩, by omega⟩)
                exact ⟨(LLt78 b_1).length + 1, Lp128 _ _ _ _ (⟨[], LLt78 b_1, [], LLt78 b_2, ⟨⟨by simp, iτ78.first (mb_1.up (xσ30.trans (xτ30.trans xτ78)))⟩, ⟨by simp, iτ78.first (mb_2.up xτ78)⟩, by omega⟩, Nat.lt_succ_self _⟩)⟩
              · rw [if_neg hc15]
                unfold w_X7_hasSameRows_83
                refine ⟨b, (kp11.trans eb), fun kk_b_7 => ?_⟩
                obtain ⟨b_7, eb_7⟩ := Option.ne_none_iff_exists'.mp hc15
                have knb_7 : kO τ78 b_7 0 := iτ78.cell (it_mem hi78.1 eb_7)
                refine i_X8_copyOf iτ78 (kk_b.up (xσ30.trans (xτ30.trans xτ78))) eb_7 knb_7 (by (first | omega | with_reducible assumption | with_reducible exact rng_toInt _ | with_reducible exact rng_wr _ | (unfold rng; omega) | (unfold rng at *; omega) | assumption)) (fun σ41 LLσ41 Nσ41 nuσ41 c_σ41 iσ41 cσ41 uσ41 hσ41 pσ41 => ?_)
                intro xσ41
                have fσ41 : Fx [1, 2, 3, 4, 5, 6, 7, 64, 512, 6464] gr σ σ41 := fτ78.tr (cσ41.mo (by decide))
                have hnσ41 : Hn (gD σ) [44, 74] [] gq LL LLσ41 N Nσ41 := hnτ78.go hσ41 (fun d hd => (fτ78.1 d hd).1) (by first | decide | exact fun _ h => h | (simp; done) | (intro x hx; simp only [List.mem_cons, List.mem_nil_iff, or_false] at hx ⊢; omega)) (fun d hd => absurd hd (by simp))
                have hf_c_σ41 : ∀ x, c_σ41 ∉ LLσ41 x := pσ41.1
                have lo_c_σ41 : Lo [] (gD σ) LL c_σ41 := hnτ78.loc (fun d hd => (fτ78.1 d hd).1) pσ41.2.2.1
                have nσ41_3 := hσ41.2.2 3 (by first | decide | (simp; done) | (simp only [List.mem_cons, List.mem_nil_iff, or_false, not_or]; omega)) (by first | decide | omega) (by first | decide | omega) (by first | decide | omega)
                have nσ41_5 := hσ41.2.2 5 (by first | decide | (simp; done) | (simp only [List.mem_cons, List.mem_nil_iff, or_false, not_or]; omega)) (by first | decide | omega) (by first | decide | omega) (by first | decide | omega)
                have nσ41_14 := hσ41.2.2 14 (by first | decide | (simp; done) | (simp only [List.mem_cons, List.mem_nil_iff, or_false, not_or]; omega)) (by first | decide | omega) (by first | decide | omega) (by first | decide | omega)
                have nσ41_44 := hσ41.2.2 44 (by first | decide | (simp; done) | (simp only [List.mem_cons, List.mem_nil_iff, or_false, not_or]; omega)) (by first | decide | omega) (by first | decide | omega) (by first | decide | omega)
                have nσ41_74 := hσ41.2.2 74 (by first | decide | (simp; done) | (simp only [List.mem_cons, List.mem_nil_iff, or_false, not_or]; omega)) (by first | decide | omega) (by first | decide | omega) (by first | decide | omega)
                have nσ41_41 := hσ41.2.2 41 (by first | decide | (simp; done) | (simp only [List.mem_cons, List.mem_nil_iff, or_false, not_or]; omega)) (by first | decide | omega) (by first | decide | omega) (by first | decide | omega)
                have nσ41_42 := hσ41.2.2 42 (by first | decide | (simp; done) | (simp only [List.mem_cons, List.mem_nil_iff, or_false, not_or]; omega)) (by first | decide | omega) (by first | decide | omega) (by first | decide | omega)
                have nσ41_11 := hσ41.2.2 11 (by first | decide | (simp; done) | (simp only [List.mem_cons, List.mem_nil_iff, or_false, not_or]; omega)) (by first | decide | omega) (by first | decide | omega) (by first | decide | omega)
                have nσ41_12 := hσ41.2.2 12 (by first | decide | (simp; done) | (simp only [List.mem_cons, List.mem_nil_iff, or_false, not_or]; omega)) (by first | decide | omega) (by first | decide | omega) (by first | decide | omega)
                have nσ41_13 := hσ41.2.2 13 (by first | decide | (simp; done) | (simp only [List.mem_cons, List.mem_nil_iff, or_false, not_or]; omega)) (by first | decide | omega) (by first | decide | omega) (by first | decide | omega)
                have nu_σ41 : NU nu nuσ41 := nu_τ78.tr uσ41
                have uσ41_0 := uσ41.1 0 (by decide)
                have uσ41_1 := uσ41.1 1 (by decide)
                have uσ41_2 := uσ41.2
                have uσ41_5 := uσ41.1 5 (by decide)
                have uσ41_15 := uσ41.1 15 (by decide)
                have uσ41_16 := uσ41.1 16 (by decide)
                have kp28 : gP σ41 W 2 = gP τ78 W 2 := (cσ41.O (kW.up (xσ30.trans (xτ30.trans xτ78))) (by decide)).2.1
                have kp29 : gP σ41 th 0 = gP τ78 th 0 := (cσ41.O (kth.up (xσ30.trans (xτ30.trans xτ78))) (by decide)).2.1
                have kp30 : gP σ41 th 1 = gP τ78 th 1 := (cσ41.O (kth.up (xσ30.trans (xτ30.trans xτ78))) (by decide)).2.1
                have kp31 : gP σ41 th 4 = gP τ78 th 4 := (cσ41.O (kth.up (xσ30.trans (xτ30.trans xτ78))) (by decide)).2.1
                have hLa := hσ41.1 y (ky.up (xσ30.trans (xτ30.trans xτ78))).1 (by simp) (by omega)
                intro tyt
                have krc_σ41 : kO σ41 c_σ41 0 := tyt c_σ41 rfl
                refine ⟨b_2, eb_2, fun kk_b_2_1 => ?_⟩
                refine i_X1_insert (G0 := 44) iσ41 (mb_2.up (xτ78.trans xσ41)) rfl krc_σ41 (by omega) (by (first | omega | with_reducible assumption | with_reducible exact rng_toInt _ | with_reducible exact rng_wr _ | (unfold rng; omega) | (unfold rng at *; omega) | assumption)) (by (first | omega | with_reducible assumption | with_reducible exact rng_toInt _ | with_reducible exact rng_wr _ | (unfold rng; omega) | (unfold rng at *; omega) | assumption)) (plc_y (G := 44) (by omega) (by decide)) (no50 (by decide)) (no13 (by decide)) (fun N9 n1 _ => iσ41.2.2.1.made (by decide) n1) (fun σ44 LLσ44 Nσ44 nuσ44 _ iσ44 cσ44 uσ44 hσ44 pσ44 => ?_)
                intro xσ44
                have fσ44 : Fx [1, 2, 3, 4, 5, 6, 7, 64, 512, 6464] gr σ σ44 := fσ41.tr (cσ44.mo (by decide))
                have hnσ44 : Hn (gD σ) [44, 74] [] gq LL LLσ44 N Nσ44 := hnσ41.go hσ44 (fun d hd => (fσ41.1 d hd).1) (by first | decide | exact fun _ h => h | (simp; done) | (intro x hx; simp only [List.mem_cons, List.mem_nil_iff, or_false] at hx ⊢; omega)) (fun d hd => by rw [List.mem_singleton.mp hd]; exact lo_c_σ41)
                have nσ44_3 := hσ44.2.2 3 (by first | decide | (simp; done) | (simp only [List.mem_cons, List.mem_nil_iff, or_false, not_or]; omega)) (by first | decide | omega) (by first | decide | omega) (by first | decide | omega)
                have nσ44_5 := hσ44.2.2 5 (by first | decide | (simp; done) | (simp only [List.mem_cons, List.mem_nil_iff, or_false, not_or]; omega)) (by first | decide | omega) (by first | decide | omega) (by first | decide | omega)
                have nσ44_14 := hσ44.2.2 14 (by first | decide | (simp; done) | (simp only [List.mem_cons, List.mem_nil_iff, or_false, not_or]; omega)) (by first | decide | omega) (by first | decide | omega) (by first | decide | omega)
                have nσ44_74 := hσ44.2.2 74 (by first | decide | (simp; done) | (simp only [List.mem_cons, List.mem_nil_iff, or_false, not_or]; omega)) (by first | decide | omega) (by first | decide | omega) (by first | decide | omega)
                have nσ44_41 := hσ44.2.2 41 (by first | decide | (simp; done) | (simp only [List.mem_cons, List.mem_nil_iff, or_false, not_or]; omega)) (by first | decide | omega) (by first | decide | omega) (by first | decide | omega)
                have nσ44_42 := hσ44.2.2 42 (by first | decide | (simp; done) | (simp only [List.mem_cons, List.mem_nil_iff, or_false, not_or]; omega)) (by first | decide | omega) (by first | decide | omega) (by first | decide | omega)
                have nσ44_11 := hσ44.2.2 11 (by first | decide | (simp; done) | (simp only [List.mem_cons, List.mem_nil_iff, or_false, not_or]; omega)) (by first | decide | omega) (by first | decide | omega) (by first | decide | omega)
                have nσ44_12 := hσ44.2.2 12 (by first | decide | (simp; done) | (simp only [List.mem_cons, List.mem_nil_iff, or_false, not_or]; omega)) (by first | decide | omega) (by first | decide | omega) (by first | decide | omega)
                have nσ44_13 := hσ44.2.2 13 (by first | decide | (simp; done) | (simp only [List.mem_cons, List.mem_nil_iff, or_false, not_or]; omega)) (by first | decide | omega) (by first | decide | omega) (by first | decide | omega)
                have nu_σ44 : NU nu nuσ44 := nu_σ41.tr uσ44
                have uσ44_0 := uσ44.1 0 (by decide)
                have uσ44_1 := uσ44.1 1 (by decide)
                have uσ44_2 := uσ44.2
                have uσ44_5 := uσ44.1 5 (by decide)
                have uσ44_15 := uσ44.1 15 (by decide)
                have uσ44_16 := uσ44.1 16 (by decide)
                have kp32 : gP σ44 W 2 = gP σ41 W 2 := (cσ44.O (kW.up (xσ30.trans (xτ30.trans (xτ78.trans xσ41)))) (by decide)).2.1
                have kp33 : gP σ44 th 0 = gP σ41 th 0 := (cσ44.O (kth.up (xσ30.trans (xτ30.trans (xτ78.trans xσ41)))) (by decide)).2.1
                have kp34 : gP σ44 th 1 = gP σ41 th 1 := (cσ44.O (kth.up (xσ30.trans (xτ30.trans (xτ78.trans xσ41)))) (by decide)).2.1
                have kp35 : gP σ44 th 4 = gP σ41 th 4 := (cσ44.O (kth.up (xσ30.trans (xτ30.trans (xτ78.trans xσ41)))) (by decide)).2.1
                have hLb := hσ44.1 y (ky.up (xσ30.trans (xτ30.trans (xτ78.trans xσ41)))).1 (by first | (simp; done) | (simp only [List.mem_cons, List.mem_nil_iff, or_false, not_or]; omega)) (by omega)
                obtain ⟨A1, B1, p1, p2, p3, p4⟩ := it_step iσ44 (ky.up (xσ30.trans (xτ30.trans (xτ78.trans (xσ41.trans xσ44))))) ⟨(by rw [hLb, hLa]; exact hi78.1.1), hi78.1.2⟩ eb_7
                refine ⟨b_7, eb_7, fun kk_b_7_1 => ?_⟩
                exact ih78 σ44 LLσ44 Nσ44 nuσ44 (gP σ44 b_7 1) iσ44 fσ44 (xτ78.trans (xσ41.trans xσ44)) nu_σ44 hnσ44 (⟨A1, B1, ⟨⟨p1, p2⟩, by omega, by omega, by omega⟩, by omega⟩)
          exact ⟨(LLt30 y).length + 1, Lp78 _ τ30 LLt30 Nt30 nut30 _ iτ30 fτ30 (Ext.rfl' _) nu_τ30 hnτ30 (⟨[], LLt30 y, ⟨⟨by simp, iτ30.first (ky.up (xσ30.trans xτ30))⟩, by omega, by omega, by omega⟩, Nat.lt_succ_self _⟩)⟩
        · rw [if_neg hc10]
          unfold w_X7_hasSameRows_35
          refine ⟨b, (kp7.trans eb), fun kk_b_8 => ?_⟩
          obtain ⟨b_8, eb_8⟩ := Option.ne_none_iff_exists'.mp hc10
          have knb_8 : kO τ30 b_8 0 := iτ30.cell (it_mem hi30.1 eb_8)
          refine i_X8_copyOf iτ30 (kk_b.up (xσ30.trans xτ30)) eb_8 knb_8 (by (first | omega | with_reducible assumption | with_reducible exact rng_toInt _ | with_reducible exact rng_wr _ | (unfold rng; omega) | (unfold rng at *; omega) | assumption)) (fun σ33 LLσ33 Nσ33 nuσ33 c_σ33 iσ33 cσ33 uσ33 hσ33 pσ33 => ?_)
          intro xσ33
          have fσ33 : Fx [1, 2, 3, 4, 5, 6, 7, 64, 512, 6464] gr σ σ33 := fτ30.tr (cσ33.mo (by decide))
          have hnσ33 : Hn (gD σ) [44, 74] [] gq LL LLσ33 N Nσ33 := hnτ30.go hσ33 (fun d hd => (fτ30.1 d hd).1) (by first | decide | exact fun _ h => h | (simp; done) | (intro x hx; simp only [List.mem_cons, List.mem_nil_iff, or_false] at hx ⊢; omega)) (fun d hd => absurd hd (by simp))
          have hf_c_σ33 : ∀ x, c_σ33 ∉ LLσ33 x := pσ33.1
          have lo_c_σ33 : Lo [] (gD σ) LL c_σ33 := hnτ30.loc (fun d hd => (fτ30.1 d hd).1) pσ33.2.2.1
          have nσ33_3 := hσ33.2.2 3 (by first | decide | (simp; done) | (simp only [List.mem_cons, List.mem_nil_iff, or_false, not_or]; omega)) (by first | decide | omega) (by first | decide | omega) (by first | decide | omega)
          have nσ33_5 := hσ33.2.2 5 (by first | decide | (simp; done) | (simp only [List.mem_cons, List.mem_nil_iff, or_false, not_or]; omega)) (by first | decide | omega) (by first | decide | omega) (by first | decide | omega)
          have nσ33_14 := hσ33.2.2 14 (by first | decide | (simp; done) | (simp only [List.mem_cons, List.mem_nil_iff, or_false, not_or]; omega)) (by first | decide | omega) (by first | decide | omega) (by first | decide | omega)
          have nσ33_44 := hσ33.2.2 44 (by first | decide | (simp; done) | (simp only [List.mem_cons, List.mem_nil_iff, or_false, not_or]; omega)) (by first | decide | omega) (by first | decide | omega) (by first | decide | omega)
          have nσ33_74 := hσ33.2.2 74 (by first | decide | (simp; done) | (simp only [List.mem_cons, List.mem_nil_iff, or_false, not_or]; omega)) (by first | decide | omega) (by first | decide | omega) (by first | decide | omega)
          have nσ33_41 := hσ33.2.2 41 (by first | decide | (simp; done) | (simp only [List.mem_cons, List.mem_nil_iff, or_false, not_or]; omega)) (by first | decide | omega) (by first | decide | omega) (by first | decide | omega)
          have nσ33_42 := hσ33.2.2 42 (by first | decide | (simp; done) | (simp only [List.mem_cons, List.mem_nil_iff, or_false, not_or]; omega)) (by first | decide | omega) (by first | decide | omega) (by first | decide | omega)
          have nσ33_11 := hσ33.2.2 11 (by first | decide | (simp; done) | (simp only [List.mem_cons, List.mem_nil_iff, or_false, not_or]; omega)) (by first | decide | omega) (by first | decide | omega) (by first | decide | omega)
          have nσ33_12 := hσ33.2.2 12 (by first | decide | (simp; done) | (simp only [List.mem_cons, List.mem_nil_iff, or_false, not_or]; omega)) (by first | decide | omega) (by first | decide | omega) (by first | decide | omega)
          have nσ33_13 := hσ33.2.2 13 (by first | decide | (simp; done) | (simp only [List.mem_cons, List.mem_nil_iff, or_false, not_or]; omega)) (by first | decide | omega) (by first | decide | omega) (by first | decide | omega)
          have nu_σ33 : NU nu nuσ33 := nu_τ30.tr uσ33
          have uσ33_0 := uσ33.1 0 (by decide)
          have uσ33_1 := uσ33.1 1 (by decide)
          have uσ33_2 := uσ33.2
          have uσ33_5 := uσ33.1 5 (by decide)
          have uσ33_15 := uσ33.1 15 (by decide)
          have uσ33_16 := uσ33.1 16 (by decide)
          have kp36 : gP σ33 th 0 = gP τ30 th 0 := (cσ33.O (kth.up (xσ30.trans xτ30)) (by decide)).2.1
          have kp37 : gP σ33 th 1 = gP τ30 th 1 := (cσ33.O (kth.up (xσ30.trans xτ30)) (by decide)).2.1
          have kp38 : gP σ33 th 4 = gP τ30 th 4 := (cσ33.O (kth.up (xσ30.trans xτ30)) (by decide)).2.1
          have hLa := hσ33.1 x (kx.up (xσ30.trans xτ30)).1 (by simp) (by omega)
          have hLy := hσ33.1 y (ky.up (xσ30.trans xτ30)).1 (by simp) (by omega)
          intro tyt_1
          have krc_σ33 : kO σ33 c_σ33 0 := tyt_1 c_σ33 rfl
          refine ⟨b_1, (kp9.trans eb_1), fun kk_b_1_1 => ?_⟩
          refine i_X1_insert (G0 := 74) iσ33 (mb_1.up (xσ30.trans (xτ30.trans xσ33))) rfl krc_σ33 (by omega) (by (first | omega | with_reducible assumption | with_reducible exact rng_toInt _ | with_reducible exact rng_wr _ | (unfold rng; omega) | (unfold rng at *; omega) | assumption)) (by (first | omega | with_reducible assumption | with_reducible exact rng_toInt _ | with_reducible exact rng_wr _ | (unfold rng; omega) | (unfold rng at *; omega) | assumption)) (plc_y (G := 74) (by omega) (by decide)) (no50 (by decide)) (no13 (by decide)) (fun N9 n1 _ => iσ33.2.2.1.made (by decide) n1) (fun σ36 LLσ36 Nσ36 nuσ36 _ iσ36 cσ36 uσ36 hσ36 pσ36 => ?_)
          intro xσ36
          have fσ36 : Fx [1, 2, 3, 4, 5, 6, 7, 64, 512, 6464] gr σ σ36 := fσ33.tr (cσ36.mo (by decide))
          have hnσ36 : Hn (gD σ) [44, 74] [] gq LL LLσ36 N Nσ36 := hnσ33.go hσ36 (fun d hd => (fσ33.1 d hd).1) (by first | decide | exact fun _ h => h | (simp; done) | (intro x hx; simp only [List.mem_cons, List.mem_nil_iff, or_false] at hx ⊢; omega)) (fun d hd => by rw [List.mem_singleton.mp hd]; exact lo_c_σ33)
          have nσ36_3 := hσ36.2.2 3 (by first | decide | (simp; done) | (simp only [List.mem_cons, List.mem_nil_iff, or_false, not_or]; omega)) (by first | decide | omega) (by first | decide | omega) (by first | decide | omega)
          have nσ36_5 := hσ36.2.2 5 (by first | decide | (simp; done) | (simp only [List.mem_cons, List.mem_nil_iff, or_false, not_or]; omega)) (by first | decide | omega) (by first | decide | omega) (by first | decide | omega)
          have nσ36_14 := hσ36.2.2 14 (by first | decide | (simp; done) | (simp only [List.mem_cons, List.mem_nil_iff, or_false, not_or]; omega)) (by first | decide | omega) (by first | decide | omega) (by first | decide | omega)
          have nσ36_44 := hσ36.2.2 44 (by first | decide | (simp; done) | (simp only [List.mem_cons, List.mem_nil_iff, or_false, not_or]; omega)) (by first | decide | omega) (by first | decide | omega) (by first | decide | omega)
          have nσ36_41 := hσ36.2.2 41 (by first | decide | (simp; done) | (simp only [List.mem_cons, List.mem_nil_iff, or_false, not_or]; omega)) (by first | decide | omega) (by first | decide | omega) (by first | decide | omega)
          have nσ36_42 := hσ36.2.2 42 (by first | decide | (simp; done) | (simp only [List.mem_cons, List.mem_nil_iff, or_false, not_or]; omega)) (by first | decide | omega) (by first | decide | omega) (by first | decide | omega)
          have nσ36_11 := hσ36.2.2 11 (by first | decide | (simp; done) | (simp only [List.mem_cons, List.mem_nil_iff, or_false, not_or]; omega)) (by first | decide | omega) (by first | decide | omega) (by first | decide | omega)
          have nσ36_12 := hσ36.2.2 12 (by first | decide | (simp; done) | (simp only [List.mem_cons, List.mem_nil_iff, or_false, not_or]; omega)) (by first | decide | omega) (by first | decide | omega) (by first | decide | omega)
          have nσ36_13 := hσ36.2.2 13 (by first | decide | (simp; done) | (simp only [List.mem_cons, List.mem_nil_iff, or_false, not_or]; omega)) (by first | decide | omega) (by first | decide | omega) (by first | decide | omega)
          have nu_σ36 : NU nu nuσ36 := nu_σ33.tr uσ36
          have uσ36_0 := uσ36.1 0 (by decide)
          have uσ36_1 := uσ36.1 1 (by decide)
          have uσ36_2 := uσ36.2
          have uσ36_5 := uσ36.1 5 (by decide)
          have uσ36_15 := uσ36.1 15 (by decide)
          have uσ36_16 := uσ36.1 16 (by decide)
          have kp39 : gP σ36 th 0 = gP σ33 th 0 := (cσ36.O (kth.up (xσ30.trans (xτ30.trans xσ33))) (by decide)).2.1
          have kp40 : gP σ36 th 1 = gP σ33 th 1 := (cσ36.O (kth.up (xσ30.trans (xτ30.trans xσ33))) (by decide)).2.1
          have kp41 : gP σ36 th 4 = gP σ33 th 4 := (cσ36.O (kth.up (xσ30.trans (xτ30.trans xσ33))) (by decide)).2.1
          have hLb := hσ36.1 x (kx.up (xσ30.trans (xτ30.trans xσ33))).1 (by first | (simp; done) | (simp only [List.mem_cons, List.mem_nil_iff, or_false, not_or]; omega)) (by omega)
          obtain ⟨A1, B1, p1, p2, p3, p4⟩ := it_step iσ36 (kx.up (xσ30.trans (xτ30.trans (xσ33.trans xσ36)))) ⟨(by rw [hLb, hLa]; exact hi30.1.1), hi30.1.2⟩ eb_8
          have hLz := hσ36.1 y (ky.up (xσ30.trans (xτ30.trans xσ33))).1 (by first | (simp; done) | (simp only [List.mem_cons, List.mem_nil_iff, or_false, not_or]; omega)) (by omega)
          refine ⟨b_8, eb_8, fun kk_b_8_1 => ?_⟩
          exact ih30 σ36 LLσ36 Nσ36 nuσ36 (gP σ36 b_8 1) iσ36 fσ36 (xτ30.trans (xσ33.trans xσ36)) nu_σ36 hnσ36 (⟨A1, B1, ⟨⟨p1, p2⟩, by omega, by omega, by omega, by rw [hLz, hLy]; exact hi30.2.2.2.2⟩, by omega⟩)
    exact ⟨(LLσ30 x).length + 1, Lp30 _ σ30 LLσ30 Nσ30 nuσ30 _ iσ30 fσ30 (Ext.rfl' _) nu_σ30 hnσ30 (⟨[], LLσ30 x, ⟨⟨by simp, iσ30.first (kx.up xσ30)⟩, by omega, by omega, by rw [hx30]; omega, by rw [hy30]⟩, Nat.lt_succ_self _⟩)⟩
  · rw [if_neg hc1]
    unfold w_X7_hasSameRows_11
    exact hQ σ LL N nu 0 iσ fσ (NU.rf) hnσ (by (first | omega | with_reducible assumption | with_reducible exact rng_toInt _ | with_reducible exact rng_wr _ | (unfold rng; omega) | (unfold rng at *; omega) | assumption))
set_option maxHeartbeats 1000000 in
theorem i_X7_forget {σ : Sg} {pl : Nat} {gq ci gr nc : Nat → Nat} {ot : Nat → Nat → Int} {LL : Nat → List Nat} {N nu : Nat → Nat} {th : Nat} (iσ : IV σ pl gq ci gr nc ot LL N nu) (kth : kO σ th 7) {Q : Sg → Unit → Prop} {X : Sg → String → Prop} (hQ : ∀ (σ' : Sg) (LL' : Nat → List Nat) (N' nu' : Nat → Nat) (r : Unit), IV σ' pl gq ci gr nc ot LL' N' nu' → Fx [1, 64, 512, 708] gr σ σ' → NU nu nu' → Hn (gD σ) [44, 74, 41, 42, 80, 81, 82, 83, 84, 85, 86, 87, 88, 89, 90, 91, 92, 93, 94, 95] [] gq LL LL' N N' → (N' 1 = N 1 ∧ N' 44 = 0 ∧ N' 74 = 0 ∧ ∀ g, 80 ≤ g → g ≤ 95 → N' g = 0) → Q σ' r) : wp_X7_forget th σ Q X := by
  have fσ : Fx [1, 64, 512, 708] gr σ σ := Fx.rf
  have hnσ : Hn (gD σ) [44, 74, 41, 42, 80, 81, 82, 83, 84, 85, 86, 87, 88, 89, 90, 91, 92, 93, 94, 95] [] gq LL LL N N := Hn.rf
  unfold wp_X7_forget
  unfold w_X7_forget_0
  have Lp2 : ∀ (fu2 : Nat) (τ2 : Sg) (LLt2 : Nat → List Nat) (Nt2 nut2 : Nat → Nat) (v1 : Int), IV τ2 pl gq ci gr nc ot LLt2 Nt2 nut2 → Fx [1, 64, 512, 708] gr σ τ2 → Ext σ τ2 → NU nu nut2 → Hn (gD σ) [44, 74, 41, 42, 80, 81, 82, 83, 84, 85, 86, 87, 88, 89, 90, 91, 92, 93, 94, 95] [] gq LL LLt2 N Nt2 → ((0 ≤ v1 ∧ v1 ≤ 16) ∧ Zr Nt2 80 v1 ∧ Nt2 1 = N 1) → ((16 - v1).toNat) < fu2 → wl_X7_forget_2 th Q X fu2 τ2 v1 := by
    intro fu2
    induction fu2 with
    | zero => intro _ _ _ _ _ _ _ _ _ _ _ h9; omega
    | succ fu2 ih2 =>
      intro τ2 LLt2 Nt2 nut2 v1 iτ2 fτ2 xτ2 nu_τ2 hnτ2 hi2 hm2
      have nτ2_3 := hnτ2.2.2 3 (by first | decide | (simp; done) | (simp only [List.mem_cons, List.mem_nil_iff, or_false, not_or]; omega)) (by first | decide | omega) (by first | decide | omega) (by first | decide | omega)
      have nτ2_5 := hnτ2.2.2 5 (by first | decide | (simp; done) | (simp only [List.mem_cons, List.mem_nil_iff, or_false, not_or]; omega)) (by first | decide | omega) (by first | decide | omega) (by first | decide | omega)
      have nτ2_14 := hnτ2.2.2 14 (by first | decide | (simp; done) | (simp only [List.mem_cons, List.mem_nil_iff, or_false, not_or]; omega)) (by first | decide | omega) (by first | decide | omega) (by first | decide | omega)
      have nτ2_11 := hnτ2.2.2 11 (by first | decide | (simp; done) | (simp only [List.mem_cons, List.mem_nil_iff, or_false, not_or]; omega)) (by first | decide | omega) (by first | decide | omega) (by first | decide | omega)
      have nτ2_12 := hnτ2.2.2 12 (by first | decide | (simp; done) | (simp only [List.mem_cons, List.mem_nil_iff, or_false, not_or]; omega)) (by first | decide | omega) (by first | decide | omega) (by first | decide | omega)
      have nτ2_13 := hnτ2.2.2 13 (by first | decide | (simp; done) | (simp only [List.mem_cons, List.mem_nil_iff, or_false, not_or]; omega)) (by first | decide | omega) (by first | decide | omega) (by first | decide | omega)
      have uτ2_0 := nu_τ2.1 0 (by decide)
      have uτ2_1 := nu_τ2.1 1 (by decide)
      have uτ2_2 := nu_τ2.2
      have uτ2_5 := nu_τ2.1 5 (by decide)
      have uτ2_15 := nu_τ2.1 15 (by decide)
      have uτ2_16 := nu_τ2.1 16 (by decide)
      unfold wl_X7_forget_2
      unfold w_X7_forget_2
      by_cases hc1 : v1 ≥ 16
      · rw [if_pos hc1]
        unfold w_X7_forget_27
        obtain ⟨b, eb, fb⟩ := P_7_2 iτ2.1 (kth.up xτ2)
        have mb : kO τ2 b 10 := iτ2.1.kd (kth.up xτ2) rfl eb rfl
        refine ⟨b, eb, fun kk_b => ?_⟩
        obtain ⟨b_1, eb_1⟩ := P_7_0 iτ2.1 (kth.up xτ2)
        refine ⟨b_1, eb_1, fun kk_b_1 => ?_⟩
        obtain ⟨b_2, eb_2, fb_2⟩ := P_10_2 iτ2.1 mb
        have mb_2 : kO τ2 b_2 1 := iτ2.1.kd mb rfl eb_2 rfl
        refine i_X8_releaseAll (G0 := 41) iτ2 kk_b_1 eb_2 mb_2 (by omega) (by omega) (fun σ21 LLσ21 Nσ21 nuσ21 _ iσ21 cσ21 uσ21 hσ21 pσ21 => ?_)
        intro xσ21
        have fσ21 : Fx [1, 64, 512, 708] gr σ σ21 := fτ2.tr (cσ21.mo (by decide))
        have hnσ21 : Hn (gD σ) [44, 74, 41, 42, 80, 81, 82, 83, 84, 85, 86, 87, 88, 89, 90, 91, 92, 93, 94, 95] [] gq LL LLσ21 N Nσ21 := hnτ2.go hσ21 (fun d hd => (fτ2.1 d hd).1) (by first | decide | exact fun _ h => h | (simp; done) | (intro x hx; simp only [List.mem_cons, List.mem_nil_iff, or_false] at hx ⊢; omega)) (fun d hd => absurd hd (by simp))
        have nσ21_3 := hσ21.2.2 3 (by first | decide | (simp; done) | (simp only [List.mem_cons, List.mem_nil_iff, or_false, not_or]; omega)) (by first | decide | omega) (by first | decide | omega) (by first | decide | omega)
        have nσ21_5 := hσ21.2.2 5 (by first | decide | (simp; done) | (simp only [List.mem_cons, List.mem_nil_iff, or_false, not_or]; omega)) (by first | decide | omega) (by first | decide | omega) (by first | decide | omega)
        have nσ21_14 := hσ21.2.2 14 (by first | decide | (simp; done) | (simp only [List.mem_cons, List.mem_nil_iff, or_false, not_or]; omega)) (by first | decide | omega) (by first | decide | omega) (by first | decide | omega)
        have nσ21_44 := hσ21.2.2 44 (by first | decide | (simp; done) | (simp only [List.mem_cons, List.mem_nil_iff, or_false, not_or]; omega)) (by first | decide | omega) (by first | decide | omega) (by first | decide | omega)
        have nσ21_74 := hσ21.2.2 74 (by first | decide | (simp; done) | (simp only [List.mem_cons, List.mem_nil_iff, or_false, not_or]; omega)) (by first | decide | omega) (by first | decide | omega) (by first | decide | omega)
        have nσ21_42 := hσ21.2.2 42 (by first | decide | (simp; done) | (simp only [List.mem_cons, List.mem_nil_iff, or_false, not_or]; omega)) (by first | decide | omega) (by first | decide | omega) (by first | decide | omega)
        have nσ21_11 := hσ21.2.2 11 (by first | decide | (simp; done) | (simp only [List.mem_cons, List.mem_nil_iff, or_false, not_or]; omega)) (by first | decide | omega) (by first | decide | omega) (by first | decide | omega)
        have nσ21_12 := hσ21.2.2 12 (by first | decide | (simp; done) | (simp only [List.mem_cons, List.mem_nil_iff, or_false, not_or]; omega)) (by first | decide | omega) (by first | decide | omega) (by first | decide | omega)
        have nσ21_13 := hσ21.2.2 13 (by first | decide | (simp; done) | (simp only [List.mem_cons, List.mem_nil_iff, or_false, not_or]; omega)) (by first | decide | omega) (by first | decide | omega) (by first | decide | omega)
        have nu_σ21 : NU nu nuσ21 := nu_τ2.tr uσ21
        have uσ21_0 := uσ21.1 0 (by decide)
        have uσ21_1 := uσ21.1 1 (by decide)
        have uσ21_2 := uσ21.2
        have uσ21_5 := uσ21.1 5 (by decide)
        have uσ21_15 := uσ21.1 15 (by decide)
        have uσ21_16 := uσ21.1 16 (by decide)
        have kp2 : gP σ21 b 2 = gP τ2 b 2 := (cσ21.O mb (by decide)).2.1
        have kp3 : gP σ21 th 0 = gP τ2 th 0 := (cσ21.O (kth.up xτ2) (by decide)).2.1
        have kp4 : gP σ21 th 2 = gP τ2 th 2 := (cσ21.O (kth.up xτ2) (by decide)).2.1
        have o41 := iτ2.one (G := 41) mb_2 (by omega) (by decide)
        have z41 : ∀ g, 80 ≤ g → g ≤ 95 → Nσ21 g = 0 := fun g a b => by rw [hσ21.2.2 g (by simp only [List.mem_cons, List.mem_nil_iff, or_false]; omega) (by omega) (by omega) (by omega)]; exact (hi2.2.1.all (by omega)) g a b
        refine ⟨b, (kp4.trans eb), fun kk_b_2 => ?_⟩
        refine ⟨b_1, (kp3.trans eb_1), fun kk_b_1_1 => ?_⟩
        obtain ⟨b_3, eb_3, fb_3⟩ := P_10_3 iσ21.1 (mb.up xσ21)
        have mb_3 : kO σ21 b_3 1 := iσ21.1.kd (mb.up xσ21) rfl eb_3 rfl
        refine i_X8_releaseAll (G0 := 42) iσ21 (kk_b_1.up xσ21) eb_3 mb_3 (by omega) (by omega) (fun σ24 LLσ24 Nσ24 nuσ24 _ iσ24 cσ24 uσ24 hσ24 pσ24 => ?_)
        intro xσ24
        have fσ24 : Fx [1, 64, 512, 708] gr σ σ24 := fσ21.tr (cσ24.mo (by decide))
        have hnσ24 : Hn (gD σ) [44, 74, 41, 42, 80, 81, 82, 83, 84, 85, 86, 87, 88, 89, 90, 91, 92, 93, 94, 95] [] gq LL LLσ24 N Nσ24 := hnσ21.go hσ24 (fun d hd => (fσ21.1 d hd).1) (by first | decide | exact fun _ h => h | (simp; done) | (intro x hx; simp only [List.mem_cons, List.mem_nil_iff, or_false] at hx ⊢; omega)) (fun d hd => absurd hd (by simp))
        have nσ24_3 := hσ24.2.2 3 (by first | decide | (simp; done) | (simp only [List.mem_cons, List.mem_nil_iff, or_false, not_or]; omega)) (by first | decide | omega) (by first | decide | omega) (by first | decide | omega)
        have nσ24_5 := hσ24.2.2 5 (by first | decide | (simp; done) | (simp only [List.mem_cons, List.mem_nil_iff, or_false, not_or]; omega)) (by first | decide | omega) (by first | decide | omega) (by first | decide | omega)
        have nσ24_14 := hσ24.2.2 14 (by first | decide | (simp; done) | (simp only [List.mem_cons, List.mem_nil_iff, or_false, not_or]; omega)) (by first | decide | omega) (by first | decide | omega) (by first | decide | omega)
        have nσ24_44 := hσ24.2.2 44 (by first | decide | (simp; done) | (simp only [List.mem_cons, List.mem_nil_iff, or_false, not_or]; omega)) (by first | decide | omega) (by first | decide | omega) (by first | decide | omega)
        have nσ24_74 := hσ24.2.2 74 (by first | decide | (simp; done) | (simp only [List.mem_cons, List.mem_nil_iff, or_false, not_or]; omega)) (by first | decide | omega) (by first | decide | omega) (by first | decide | omega)
        have nσ24_41 := hσ24.2.2 41 (by first | decide | (simp; done) | (simp only [List.mem_cons, List.mem_nil_iff, or_false, not_or]; omega)) (by first | decide | omega) (by first | decide | omega) (by first | decide | omega)
        have nσ24_11 := hσ24.2.2 11 (by first | decide | (simp; done) | (simp only [List.mem_cons, List.mem_nil_iff, or_false, not_or]; omega)) (by first | decide | omega) (by first | decide | omega) (by first | decide | omega)
        have nσ24_12 := hσ24.2.2 12 (by first | decide | (simp; done) | (simp only [List.mem_cons, List.mem_nil_iff, or_false, not_or]; omega)) (by first | decide | omega) (by first | decide | omega) (by first | decide | omega)
        have nσ24_13 := hσ24.2.2 13 (by first | decide | (simp; done) | (simp only [List.mem_cons, List.mem_nil_iff, or_false, not_or]; omega)) (by first | decide | omega) (by first | decide | omega) (by first | decide | omega)
        have nu_σ24 : NU nu nuσ24 := nu_σ21.tr uσ24
        have uσ24_0 := uσ24.1 0 (by decide)
        have uσ24_1 := uσ24.1 1 (by decide)
        have uσ24_2 := uσ24.2
        have uσ24_5 := uσ24.1 5 (by decide)
        have uσ24_15 := uσ24.1 15 (by decide)
        have uσ24_16 := uσ24.1 16 (by decide)
        have kp5 : gP σ24 b 2 = gP σ21 b 2 := (cσ24.O (mb.up xσ21) (by decide)).2.1
        have kp6 : gP σ24 b 3 = gP σ21 b 3 := (cσ24.O (mb.up xσ21) (by decide)).2.1
        have kp7 : gP σ24 th 0 = gP σ21 th 0 := (cσ24.O (kth.up (xτ2.trans xσ21)) (by decide)).2.1
        have kp8 : gP σ24 th 2 = gP σ21 th 2 := (cσ24.O (kth.up (xτ2.trans xσ21)) (by decide)).2.1
        have o42 := iσ21.one (G := 42) mb_3 (by omega) (by decide)
        have z42 : ∀ g, 80 ≤ g → g ≤ 95 → Nσ24 g = 0 := fun g a b => by rw [hσ24.2.2 g (by simp only [List.mem_cons, List.mem_nil_iff, or_false]; omega) (by omega) (by omega) (by omega)]; exact z41 g a b
        obtain ⟨b_4, eb_4, fb_4⟩ := P_7_1 iσ24.1 (kth.up (xτ2.trans (xσ21.trans xσ24)))
        have mb_4 : kO σ24 b_4 11 := iσ24.1.kd (kth.up (xτ2.trans (xσ21.trans xσ24))) rfl eb_4 rfl
        refine ⟨b_4, eb_4, fun kk_b_4 => ?_⟩
        refine ⟨b_1, (kp7.trans (kp3.trans eb_1)), fun kk_b_1_2 => ?_⟩
        obtain ⟨b_5, eb_5, fb_5⟩ := P_11_2 iσ24.1 mb_4
        have mb_5 : kO σ24 b_5 1 := iσ24.1.kd mb_4 rfl eb_5 rfl
        refine i_X8_releaseAll (G0 := 44) iσ24 (kk_b_1.up (xσ21.trans xσ24)) eb_5 mb_5 (by omega) (by omega) (fun σ27 LLσ27 Nσ27 nuσ27 _ iσ27 cσ27 uσ27 hσ27 pσ27 => ?_)
        intro xσ27
        have fσ27 : Fx [1, 64, 512, 708] gr σ σ27 := fσ24.tr (cσ27.mo (by decide))
        have hnσ27 : Hn (gD σ) [44, 74, 41, 42, 80, 81, 82, 83, 84, 85, 86, 87, 88, 89, 90, 91, 92, 93, 94, 95] [] gq LL LLσ27 N Nσ27 := hnσ24.go hσ27 (fun d hd => (fσ24.1 d hd).1) (by first | decide | exact fun _ h => h | (simp; done) | (intro x hx; simp only [List.mem_cons, List.mem_nil_iff, or_false] at hx ⊢; omega)) (fun d hd => absurd hd (by simp))
        have nσ27_3 := hσ27.2.2 3 (by first | decide | (simp; done) | (simp only [List.mem_cons, List.mem_nil_iff, or_false, not_or]; omega)) (by first | decide | omega) (by first | decide | omega) (by first | decide | omega)
        have nσ27_5 := hσ27.2.2 5 (by first | decide | (simp; done) | (simp only [List.mem_cons, List.mem_nil_iff, or_false, not_or]; omega)) (by first | decide | omega) (by first | decide | omega) (by first | decide | omega)
        have nσ27_14 := hσ27.2.2 14 (by first | decide | (simp; done) | (simp only [List.mem_cons, List.mem_nil_iff, or_false, not_or]; omega)) (by first | decide | omega) (by first | decide | omega) (by first | decide | omega)
        have nσ27_74 := hσ27.2.2 74 (by first | decide | (simp; done) | (simp only [List.mem_cons, List.mem_nil_iff, or_false, not_or]; omega)) (by first | decide | omega) (by first | decide | omega) (by first | decide | omega)
        have nσ27_41 := hσ27.2.2 41 (by first | decide | (simp; done) | (simp only [List.mem_cons, List.mem_nil_iff, or_false, not_or]; omega)) (by first | decide | omega) (by first | decide | omega) (by first | decide | omega)
        have nσ27_42 := hσ27.2.2 42 (by first | decide | (simp; done) | (simp only [List.mem_cons, List.mem_nil_iff, or_false, not_or]; omega)) (by first | decide | omega) (by first | decide | omega) (by first | decide | omega)
        have nσ27_11 := hσ27.2.2 11 (by first | decide | (simp; done) | (simp only [List.mem_cons, List.mem_nil_iff, or_false, not_or]; omega)) (by first | decide | omega) (by first | decide | omega) (by first | decide | omega)
        have nσ27_12 := hσ27.2.2 12 (by first | decide | (simp; done) | (simp only [List.mem_cons, List.mem_nil_iff, or_false, not_or]; omega)) (by first | decide | omega) (by first | decide | omega) (by first | decide | omega)
        have nσ27_13 := hσ27.2.2 13 (by first | decide | (simp; done) | (simp only [List.mem_cons, List.mem_nil_iff, or_false, not_or]; omega)) (by first | decide | omega) (by first | decide | omega) (by first | decide | omega)
        have nu_σ27 : NU nu nuσ27 := nu_σ24.tr uσ27
        have uσ27_0 := uσ27.1 0 (by decide)
        have uσ27_1 := uσ27.1 1 (by decide)
        have uσ27_2 := uσ27.2
        have uσ27_5 := uσ27.1 5 (by decide)
        have uσ27_15 := uσ27.1 15 (by decide)
        have uσ27_16 := uσ27.1 16 (by decide)
        have kp9 : gP σ27 b 2 = gP σ24 b 2 := (cσ27.O (mb.up (xσ21.trans xσ24)) (by decide)).2.1
        have kp10 : gP σ27 b 3 = gP σ24 b 3 := (cσ27.O (mb.up (xσ21.trans xσ24)) (by decide)).2.1
        have kp11 : gP σ27 b_4 2 = gP σ24 b_4 2 := (cσ27.O mb_4 (by decide)).2.1
        have kp12 : gP σ27 th 0 = gP σ24 th 0 := (cσ27.O (kth.up (xτ2.trans (xσ21.trans xσ24))) (by decide)).2.1
        have kp13 : gP σ27 th 1 = gP σ24 th 1 := (cσ27.O (kth.up (xτ2.trans (xσ21.trans xσ24))) (by decide)).2.1
        have kp14 : gP σ27 th 2 = gP σ24 th 2 := (cσ27.O (kth.up (xτ2.trans (xσ21.trans xσ24))) (by decide)).2.1
        have o44 := iσ24.one (G := 44) mb_5 (by omega) (by decide)
        have z44 : ∀ g, 80 ≤ g → g ≤ 95 → Nσ27 g = 0 := fun g a b => by rw [hσ27.2.2 g (by simp only [List.mem_cons, List.mem_nil_iff, or_false]; omega) (by omega) (by omega) (by omega)]; exact z42 g a b
        refine ⟨b_1, (kp12.trans (kp7.trans (kp3.trans eb_1))), fun kk_b_1_3 => ?_⟩
        obtain ⟨b_6, eb_6, fb_6⟩ := P_7_4 iσ27.1 (kth.up (xτ2.trans (xσ21.trans (xσ24.trans xσ27))))
        have mb_6 : kO σ27 b_6 1 := iσ27.1.kd (kth.up (xτ2.trans (xσ21.trans (xσ24.trans xσ27)))) rfl eb_6 rfl
        refine i_X8_releaseAll (G0 := 74) iσ27 (kk_b_1.up (xσ21.trans (xσ24.trans xσ27))) eb_6 mb_6 (by omega) (by omega) (fun σ29 LLσ29 Nσ29 nuσ29 _ iσ29 cσ29 uσ29 hσ29 pσ29 => ?_)
        intro xσ29
        have fσ29 : Fx [1, 64, 512, 708] gr σ σ29 := fσ27.tr (cσ29.mo (by decide))
        have hnσ29 : Hn (gD σ) [44, 74, 41, 42, 80, 81, 82, 83, 84, 85, 86, 87, 88, 89, 90, 91, 92, 93, 94, 95] [] gq LL LLσ29 N Nσ29 := hnσ27.go hσ29 (fun d hd => (fσ27.1 d hd).1) (by first | decide | exact fun _ h => h | (simp; done) | (intro x hx; simp only [List.mem_cons, List.mem_nil_iff, or_false] at hx ⊢; omega)) (fun d hd => absurd hd (by simp))
        have nσ29_3 := hσ29.2.2 3 (by first | decide | (simp; done) | (simp only [List.mem_cons, List.mem_nil_iff, or_false, not_or]; omega)) (by first | decide | omega) (by first | decide | omega) (by first | decide | omega)
        have nσ29_5 := hσ29.2.2 5 (by first | decide | (simp; done) | (simp only [List.mem_cons, List.mem_nil_iff, or_false, not_or]; omega)) (by first | decide | omega) (by first | decide | omega) (by first | decide | omega)
        have nσ29_14 := hσ29.2.2 14 (by first | decide | (simp; done) | (simp only [List.mem_cons, List.mem_nil_iff, or_false, not_or]; omega)) (by first | decide | omega) (by first | decide | omega) (by first | decide | omega)
        have nσ29_44 := hσ29.2.2 44 (by first | decide | (simp; done) | (simp only [List.mem_cons, List.mem_nil_iff, or_false, not_or]; omega)) (by first | decide | omega) (by first | decide | omega) (by first | decide | omega)
        have nσ29_41 := hσ29.2.2 41 (by first | decide | (simp; done) | (simp only [List.mem_cons, List.mem_nil_iff, or_false, not_or]; omega)) (by first | decide | omega) (by first | decide | omega) (by first | decide | omega)
        have nσ29_42 := hσ29.2.2 42 (by first | decide | (simp; done) | (simp only [List.mem_cons, List.mem_nil_iff, or_false, not_or]; omega)) (by first | decide | omega) (by first | decide | omega) (by first | decide | omega)
        have nσ29_11 := hσ29.2.2 11 (by first | decide | (simp; done) | (simp only [List.mem_cons, List.mem_nil_iff, or_false, not_or]; omega)) (by first | decide | omega) (by first | decide | omega) (by first | decide | omega)
        have nσ29_12 := hσ29.2.2 12 (by first | decide | (simp; done) | (simp only [List.mem_cons, List.mem_nil_iff, or_false, not_or]; omega)) (by first | decide | omega) (by first | decide | omega) (by first | decide | omega)
        have nσ29_13 := hσ29.2.2 13 (by first | decide | (simp; done) | (simp only [List.mem_cons, List.mem_nil_iff, or_false, not_or]; omega)) (by first | decide | omega) (by first | decide | omega) (by first | decide | omega)
        have nu_σ29 : NU nu nuσ29 := nu_σ27.tr uσ29
        have uσ29_0 := uσ29.1 0 (by decide)
        have uσ29_1 := uσ29.1 1 (by decide)
        have uσ29_2 := uσ29.2
        have uσ29_5 := uσ29.1 5 (by decide)
        have uσ29_15 := uσ29.1 15 (by decide)
        have uσ29_16 := uσ29.1 16 (by decide)
        have kp15 : gP σ29 b 2 = gP σ27 b 2 := (cσ29.O (mb.up (xσ21.trans (xσ24.trans xσ27))) (by decide)).2.1
        have kp16 : gP σ29 b 3 = gP σ27 b 3 := (cσ29.O (mb.up (xσ21.trans (xσ24.trans xσ27))) (by decide)).2.1
        have kp17 : gP σ29 b_4 2 = gP σ27 b_4 2 := (cσ29.O (mb_4.up xσ27) (by decide)).2.1
        have kp18 : gP σ29 th 0 = gP σ27 th 0 := (cσ29.O (kth.up (xτ2.trans (xσ21.trans (xσ24.trans xσ27)))) (by decide)).2.1
        have kp19 : gP σ29 th 1 = gP σ27 th 1 := (cσ29.O (kth.up (xτ2.trans (xσ21.trans (xσ24.trans xσ27)))) (by decide)).2.1
        have kp20 : gP σ29 th 2 = gP σ27 th 2 := (cσ29.O (kth.up (xτ2.trans (xσ21.trans (xσ24.trans xσ27)))) (by decide)).2.1
        have kp21 : gP σ29 th 4 = gP σ27 th 4 := (cσ29.O (kth.up (xτ2.trans (xσ21.trans (xσ24.trans xσ27)))) (by decide)).2.1
        have o74 := iσ27.one (G := 74) mb_6 (by omega) (by decide)
        have z74 : ∀ g, 80 ≤ g → g ≤ 95 → Nσ29 g = 0 := fun g a b => by rw [hσ29.2.2 g (by simp only [List.mem_cons, List.mem_nil_iff, or_false]; omega) (by omega) (by omega) (by omega)]; exact z44 g a b
        refine ⟨b_4, (kp19.trans (kp13.trans eb_4)), fun kk_b_4_1 => ?_⟩
        intro σ32 eσ32
        have xσ32 : Ext σ29 σ32 := by rw [eσ32]; exact fun _ h => ⟨h, rfl, rfl⟩
        have iσ32 : IV σ32 pl gq ci gr nc ot LLσ29 Nσ29 nuσ29 := by rw [eσ32]; exact iσ29.rec4 (mb_4.up (xσ27.trans xσ29)) (by omega) (by omega) (by omega)
        have fσ32 : Fx [1, 64, 512, 708] gr σ σ32 := fσ29.tr (Sk.fx (by rw [eσ32]; exact Sk.pI (by rw [fcdO (mb_4.up (xσ27.trans xσ29)) (by decide)]; decide)))
        have wσ32 : gI σ32 b_4 4 = 0 := by rw [eσ32]; exact up2_s _ _ _ _
        have kp22 : gP σ32 b 2 = gP σ29 b 2 := by rw [eσ32]
        have kp23 : gP σ32 b 3 = gP σ29 b 3 := by rw [eσ32]
        have kp24 : gP σ32 b_4 2 = gP σ29 b_4 2 := by rw [eσ32]
        have kp25 : gP σ32 th 0 = gP σ29 th 0 := by rw [eσ32]
        have kp26 : gP σ32 th 1 = gP σ29 th 1 := by rw [eσ32]
        have kp27 : gP σ32 th 2 = gP σ29 th 2 := by rw [eσ32]
        have kp28 : gP σ32 th 4 = gP σ29 th 4 := by rw [eσ32]
        exact hQ σ32 LLσ29 Nσ29 nuσ29 () iσ32 fσ32 (nu_σ29) hnσ29 (⟨by omega, by omega, by omega, z74⟩)
      · rw [if_neg hc1]
        unfold w_X7_forget_8
        obtain ⟨b_7, eb_7, fb_7⟩ := P_7_3 iτ2.1 (kth.up xτ2)
        have mb_7 : kO τ2 b_7 111 := iτ2.1.kd (kth.up xτ2) rfl eb_7 rfl
        refine ⟨b_7, eb_7, fun kk_b_7 => ?_⟩
        refine ⟨⟨by (first | omega | with_reducible assumption | with_reducible exact rng_toInt _ | with_reducible exact rng_wr _ | (unfold rng; omega) | (unfold rng at *; omega) | assumption), by (first | omega | with_reducible assumption | with_reducible exact rng_toInt _ | with_reducible exact rng_wr _ | (unfold rng; omega) | (unfold rng at *; omega) | assumption)⟩, ?_⟩
        obtain ⟨b_8, eb_8⟩ := P_7_0 iτ2.1 (kth.up xτ2)
        refine ⟨b_8, eb_8, fun kk_b_8 => ?_⟩
        obtain ⟨b_9, eb_9⟩ := P_111 iτ2.1 mb_7 (k := v1.toNat) (by (first | omega | with_reducible assumption | with_reducible exact rng_toInt _ | with_reducible exact rng_wr _ | (unfold rng; omega) | (unfold rng at *; omega) | assumption))
        have fb_9 := T_111 iτ2.1 mb_7 eb_9
        have mb_9 : kO τ2 b_9 1 := iτ2.1.kd mb_7 rfl eb_9 rfl
        refine i_X8_releaseAll (G0 := (80 + v1.toNat)) iτ2 kk_b_8 eb_9 mb_9 (by omega) (by omega) (fun σ18 LLσ18 Nσ18 nuσ18 _ iσ18 cσ18 uσ18 hσ18 pσ18 => ?_)
        intro xσ18
        have fσ18 : Fx [1, 64, 512, 708] gr σ σ18 := fτ2.tr (cσ18.mo (by decide))
        have hnσ18 : Hn (gD σ) [44, 74, 41, 42, 80, 81, 82, 83, 84, 85, 86, 87, 88, 89, 90, 91, 92, 93, 94, 95] [] gq LL LLσ18 N Nσ18 := hnτ2.go hσ18 (fun d hd => (fτ2.1 d hd).1) (by first | decide | exact fun _ h => h | (simp; done) | (intro x hx; simp only [List.mem_cons, List.mem_nil_iff, or_false] at hx ⊢; omega)) (fun d hd => absurd hd (by simp))
        have nσ18_3 := hσ18.2.2 3 (by first | decide | (simp; done) | (simp only [List.mem_cons, List.mem_nil_iff, or_false, not_or]; omega)) (by first | decide | omega) (by first | decide | omega) (by first | decide | omega)
        have nσ18_5 := hσ18.2.2 5 (by first | decide | (simp; done) | (simp only [List.mem_cons, List.mem_nil_iff, or_false, not_or]; omega)) (by first | decide | omega) (by first | decide | omega) (by first | decide | omega)
        have nσ18_14 := hσ18.2.2 14 (by first | decide | (simp; done) | (simp only [List.mem_cons, List.mem_nil_iff, or_false, not_or]; omega)) (by first | decide | omega) (by first | decide | omega) (by first | decide | omega)
        have nσ18_44 := hσ18.2.2 44 (by first | decide | (simp; done) | (simp only [List.mem_cons, List.mem_nil_iff, or_false, not_or]; omega)) (by first | decide | omega) (by first | decide | omega) (by first | decide | omega)
        have nσ18_74 := hσ18.2.2 74 (by first | decide | (simp; done) | (simp only [List.mem_cons, List.mem_nil_iff, or_false, not_or]; omega)) (by first | decide | omega) (by first | decide | omega) (by first | decide | omega)
        have nσ18_41 := hσ18.2.2 41 (by first | decide | (simp; done) | (simp only [List.mem_cons, List.mem_nil_iff, or_false, not_or]; omega)) (by first | decide | omega) (by first | decide | omega) (by first | decide | omega)
        have nσ18_42 := hσ18.2.2 42 (by first | decide | (simp; done) | (simp only [List.mem_cons, List.mem_nil_iff, or_false, not_or]; omega)) (by first | decide | omega) (by first | decide | omega) (by first | decide | omega)
        have nσ18_11 := hσ18.2.2 11 (by first | decide | (simp; done) | (simp only [List.mem_cons, List.mem_nil_iff, or_false, not_or]; omega)) (by first | decide | omega) (by first | decide | omega) (by first | decide | omega)
        have nσ18_12 := hσ18.2.2 12 (by first | decide | (simp; done) | (simp only [List.mem_cons, List.mem_nil_iff, or_false, not_or]; omega)) (by first | decide | omega) (by first | decide | omega) (by first | decide | omega)
        have nσ18_13 := hσ18.2.2 13 (by first | decide | (simp; done) | (simp only [List.mem_cons, List.mem_nil_iff, or_false, not_or]; omega)) (by first | decide | omega) (by first | decide | omega) (by first | decide | omega)
        have nu_σ18 : NU nu nuσ18 := nu_τ2.tr uσ18
        have uσ18_0 := uσ18.1 0 (by decide)
        have uσ18_1 := uσ18.1 1 (by decide)
        have uσ18_2 := uσ18.2
        have uσ18_5 := uσ18.1 5 (by decide)
        have uσ18_15 := uσ18.1 15 (by decide)
        have uσ18_16 := uσ18.1 16 (by decide)
        have kp29 : gP σ18 b_7 v1.toNat = gP τ2 b_7 v1.toNat := (cσ18.A mb_7 (by decide)).2.1
        have kp30 : gP σ18 th 0 = gP τ2 th 0 := (cσ18.O (kth.up xτ2) (by decide)).2.1
        have kp31 : gP σ18 th 3 = gP τ2 th 3 := (cσ18.O (kth.up xτ2) (by decide)).2.1
        have onσ18 := iτ2.one (G := 80 + v1.toNat) mb_9 (by omega) (md80 v1.toNat (by omega)).1
        have znσ18 : Nσ18 (80 + v1.toNat) = 0 := by omega
        have Z1 := hi2.2.1.up (by omega) (fun j hj => hσ18.2.2 (80 + j) (by simp only [List.mem_cons, List.mem_nil_iff, or_false]; omega) (by omega) (by omega) (by omega)) znσ18
        refine ⟨by (first | omega | with_reducible assumption | with_reducible exact rng_toInt _ | with_reducible exact rng_wr _ | (unfold rng; omega) | (unfold rng at *; omega) | assumption), ?_⟩
        exact ih2 σ18 LLσ18 Nσ18 nuσ18 (v1 + 1) iσ18 fσ18 (xτ2.trans xσ18) nu_σ18 hnσ18 (⟨by omega, Z1, by omega⟩) (by (first | omega | with_reducible assumption | with_reducible exact rng_toInt _ | with_reducible exact rng_wr _ | (unfold rng; omega) | (unfold rng at *; omega) | assumption))
  exact ⟨_, Lp2 _ σ LL N nu _ iσ fσ (Ext.rfl' _) NU.rf hnσ (⟨by omega, Zr.z, rfl⟩) (Nat.lt_succ_self _)⟩

set_option maxHeartbeats 1000000 in
theorem i_X9_putOut {σ : Sg} {pl : Nat} {gq ci gr nc : Nat → Nat} {ot : Nat → Nat → Int} {LL : Nat → List Nat} {N nu : Nat → Nat} {th : Nat} {v1 : Option Nat} {v2 : Option Nat} {i : Nat} (iσ : IV σ pl gq ci gr nc ot LL N nu) (kth : kO σ th 9) {o : Nat} (hv1 : v1 = some o) (ko : kO σ o 5) {c : Nat} (hv2 : v2 = some c) (kc : kO σ c 0) (hf : ∀ x, c ∉ LL x) (h1 : 1 ≤ N 1) (ho : gq o = 16 * nc 0 + i) (hi : i < nc 1) (hk : ot i 6 = 11) (h5 : nu 5 < 24000) {Q : Sg → Unit → Prop} {X : Sg → String → Prop} (hQ : ∀ (σ' : Sg) (LL' : Nat → List Nat) (N' nu' : Nat → Nat) (r : Unit), IV σ' pl gq ci gr nc ot LL' N' nu' → Fx [1, 64, 512] gr σ σ' → NU nu nu' → Hn (gD σ) [60, 61, 62, 63] [c] gq LL LL' N N' → (N' 1 + 1 = N 1) → Q σ' r) (hX : ∀ (σ' : Sg) (LL' : Nat → List Nat) (N' nu' : Nat → Nat) (E : String), IV σ' pl gq ci gr nc ot LL' N' nu' → Fx [1, 64, 512] gr σ σ' → NX nu nu' → ((N' 1 ≤ N 1 + 0 ∧ N' 5 = N 5 ∧ N' 3 = N 3 ∧ N' 44 = N 44 ∧ N' 74 = N 74) ∧ NZ N N' ∧ E = "java/lang/IllegalStateException") → X σ' E) : wp_X9_putOut th v1 v2 σ Q X := by
  have fσ : Fx [1, 64, 512] gr σ σ := Fx.rf
  have hnσ : Hn (gD σ) [60, 61, 62, 63] [c] gq LL LL N N := Hn.rf
  have lo_c : Lo [c] (gD σ) LL c := Or.inl (by simp)
  have ok := iσ.opok hi
  have h9 := ok.2.2.2.2.2.2.2.2.1 (by omega)
  have h90 := ok.2.2.2.2.2.2.2.2.2.2.2
  have q9 := iσ.op ko ho hi 9 (by decide)
  have so := iσ.2.2.1.2.2.2.1
  unfold wp_X9_putOut
  unfold w_X9_putOut_0
  have Lp5 : ∀ (fu5 : Nat) (v3 : Int) (v4 : Int), ((0 ≤ v4 ∧ v4 ≤ 4) ∧ (v4 = 0 → v3 = 0) ∧ (v4 = 1 → v3 = (N 60 + N 64 + N 68 : Int)) ∧ (v4 = 2 → v3 = (N 60 + N 64 + N 68 : Int) + (N 61 + N 65 + N 69 : Int)) ∧ (v4 = 3 → v3 = (N 60 + N 64 + N 68 : Int) + (N 61 + N 65 + N 69 : Int) + (N 62 + N 66 + N 70 : Int)) ∧ (v4 = 4 → v3 = (N 60 + N 64 + N 68 : Int) + (N 61 + N 65 + N 69 : Int) + (N 62 + N 66 + N 70 : Int) + (N 63 + N 67 + N 71 : Int)) ∧ 0 ≤ v3 ∧ v3 ≤ 2000) → ((4 - v4).toNat) < fu5 → wl_X9_putOut_5 th Q X fu5 σ v1 v2 v3 v4 := by
    intro fu5
    induction fu5 with
    | zero => intro _ _ _ h9; omega
    | succ fu5 ih5 =>
      intro v3 v4 hi5 hm5
      unfold wl_X9_putOut_5
      unfold w_X9_putOut_5
      by_cases hc1 : v4 ≥ 4
      · rw [if_pos hc1]
        unfold w_X9_putOut_52
        by_cases hc2 : v3 < 2000
        · rw [if_pos hc2]
          unfold w_X9_putOut_67
          refine ⟨o, hv1, fun kk_o => ?_⟩
          obtain ⟨b, eb, fb⟩ := P_9_6 iσ.1 kth
          have mb : kO σ b 111 := iσ.1.kd kth rfl eb rfl
          refine ⟨b, eb, fun kk_b => ?_⟩
          have q3 := I_5_9 iσ.1 ko
          refine ⟨⟨by (first | omega | with_reducible assumption | with_reducible exact rng_toInt _ | with_reducible exact rng_wr _ | (unfold rng; omega) | (unfold rng at *; omega) | assumption), by (first | omega | with_reducible assumption | with_reducible exact rng_toInt _ | with_reducible exact rng_wr _ | (unfold rng; omega) | (unfold rng at *; omega) | assumption)⟩, ?_⟩
          obtain ⟨b_1, eb_1⟩ := P_111 iσ.1 mb (k := (gI σ o 9).toNat) (by (first | omega | with_reducible assumption | with_reducible exact rng_toInt _ | with_reducible exact rng_wr _ | (unfold rng; omega) | (unfold rng at *; omega) | assumption))
          have fb_1 := T_111 iσ.1 mb eb_1
          have mb_1 : kO σ b_1 1 := iσ.1.kd mb rfl eb_1 rfl
          refine ⟨b_1, eb_1, fun kk_b_1 => ?_⟩
          refine i_X1_add (G0 := (60 + (gI σ o 9).toNat)) iσ mb_1 hv2 kc (by omega) (by (first | omega | with_reducible assumption | with_reducible exact rng_toInt _ | with_reducible exact rng_wr _ | (unfold rng; omega) | (unfold rng at *; omega) | assumption)) (by (first | omega | with_reducible assumption | with_reducible exact rng_toInt _ | with_reducible exact rng_wr _ | (unfold rng; omega) | (unfold rng at *; omega) | assumption)) (plc_y (G := 60 + (gI σ o 9).toNat) (by omega) (by rcases (show (gI σ o 9).toNat = 0 ∨ (gI σ o 9).toNat = 1 ∨ (gI σ o 9).toNat = 2 ∨ (gI σ o 9).toNat = 3 by omega) with e | e | e | e <;> rw [e] <;> decide)) (no50 (by omega)) (no13 (by omega)) (fun N9 n1 n2 => sc_out iσ.2.2.1 (by omega) n1 n2 (by omega)) (fun σ19 LLσ19 Nσ19 nuσ19 _ iσ19 cσ19 uσ19 hσ19 pσ19 => ?_)
          intro xσ19
          have fσ19 : Fx [1, 64, 512] gr σ σ19 := fσ.tr (cσ19.mo (by decide))
          have hnσ19 : Hn (gD σ) [60, 61, 62, 63] [c] gq LL LLσ19 N Nσ19 := hnσ.go hσ19 (fun d hd => (fσ.1 d hd).1) (by first | decide | exact fun _ h => h | (simp; done) | (intro x hx; simp only [List.mem_cons, List.mem_nil_iff, or_false] at hx ⊢; omega)) (fun d hd => by rw [List.mem_singleton.mp hd]; exact lo_c)
          have nσ19_3 := hσ19.2.2 3 (by first | decide | (simp; done) | (simp only [List.mem_cons, List.mem_nil_iff, or_false, not_or]; omega)) (by first | decide | omega) (by first | decide | omega) (by first | decide | omega)
          have nσ19_5 := hσ19.2.2 5 (by first | decide | (simp; done) | (simp only [List.mem_cons, List.mem_nil_iff, or_false, not_or]; omega)) (by first | decide | omega) (by first | decide | omega) (by first | decide | omega)
          have nσ19_14 := hσ19.2.2 14 (by first | decide | (simp; done) | (simp only [List.mem_cons, List.mem_nil_iff, or_false, not_or]; omega)) (by first | decide | omega) (by first | decide | omega) (by first | decide | omega)
          have nσ19_44 := hσ19.2.2 44 (by first | decide | (simp; done) | (simp only [List.mem_cons, List.mem_nil_iff, or_false, not_or]; omega)) (by first | decide | omega) (by first | decide | omega) (by first | decide | omega)
          have nσ19_74 := hσ19.2.2 74 (by first | decide | (simp; done) | (simp only [List.mem_cons, List.mem_nil_iff, or_false, not_or]; omega)) (by first | decide | omega) (by first | decide | omega) (by first | decide | omega)
          have nσ19_11 := hσ19.2.2 11 (by first | decide | (simp; done) | (simp only [List.mem_cons, List.mem_nil_iff, or_false, not_or]; omega)) (by first | decide | omega) (by first | decide | omega) (by first | decide | omega)
          have nσ19_12 := hσ19.2.2 12 (by first | decide | (simp; done) | (simp only [List.mem_cons, List.mem_nil_iff, or_false, not_or]; omega)) (by first | decide | omega) (by first | decide | omega) (by first | decide | omega)
          have nσ19_41 := hσ19.2.2 41 (by first | decide | (simp; done) | (simp only [List.mem_cons, List.mem_nil_iff, or_false, not_or]; omega)) (by first | decide | omega) (by first | decide | omega) (by first | decide | omega)
          have nσ19_42 := hσ19.2.2 42 (by first | decide | (simp; done) | (simp only [List.mem_cons, List.mem_nil_iff, or_false, not_or]; omega)) (by first | decide | omega) (by first | decide | omega) (by first | decide | omega)
          have nσ19_13 := hσ19.2.2 13 (by first | decide | (simp; done) | (simp only [List.mem_cons, List.mem_nil_iff, or_false, not_or]; omega)) (by first | decide | omega) (by first | decide | omega) (by first | decide | omega)
          have nσ19_50 := hσ19.2.2 50 (by first | decide | (simp; done) | (simp only [List.mem_cons, List.mem_nil_iff, or_false, not_or]; omega)) (by first | decide | omega) (by first | decide | omega) (by first | decide | omega)
          have nu_σ19 : NU nu nuσ19 := uσ19
          have uσ19_0 := uσ19.1 0 (by decide)
          have uσ19_1 := uσ19.1 1 (by decide)
          have uσ19_2 := uσ19.2
          have uσ19_5 := uσ19.1 5 (by decide)
          have uσ19_15 := uσ19.1 15 (by decide)
          have uσ19_16 := uσ19.1 16 (by decide)
          have kp4 : gI σ19 o 9 = gI σ o 9 := (cσ19.O ko (by decide)).1
          have kp5 : gP σ19 b (gI σ o 9).toNat = gP σ b (gI σ o 9).toNat := (cσ19.A mb (by decide)).2.1
          have kp6 : gP σ19 th 6 = gP σ th 6 := (cσ19.O kth (by decide)).2.1
          exact hQ σ19 LLσ19 Nσ19 nuσ19 () iσ19 fσ19 (nu_σ19) hnσ19 (by (first | omega | with_reducible assumption | with_reducible exact rng_toInt _ | with_reducible exact rng_wr _ | (unfold rng; omega) | (unfold rng at *; omega) | assumption))
        · rw [if_neg hc2]
          unfold w_X9_putOut_59
          refine ⟨iσ.room, ?_⟩
          exact hX _ _ _ _ _ (iσ.bump (by (first | omega | with_reducible assumption | with_reducible exact rng_toInt _ | with_reducible exact rng_wr _ | (unfold rng; omega) | (unfold rng at *; omega) | assumption))) (fσ.tr Fx.bump) (NX.bump) (by first | exact ⟨by omega, NZ.rf, rfl⟩ | (first | omega | with_reducible assumption | with_reducible exact rng_toInt _ | with_reducible exact rng_wr _ | (unfold rng; omega) | (unfold rng at *; omega) | assumption))
      · rw [if_neg hc1]
        unfold w_X9_putOut_11
        obtain ⟨b_2, eb_2, fb_2⟩ := P_9_6 iσ.1 kth
        have mb_2 : kO σ b_2 111 := iσ.1.kd kth rfl eb_2 rfl
        refine ⟨b_2, eb_2, fun kk_b_2 => ?_⟩
        refine ⟨⟨by (first | omega | with_reducible assumption | with_reducible exact rng_toInt _ | with_reducible exact rng_wr _ | (unfold rng; omega) | (unfold rng at *; omega) | assumption), by (first | omega | with_reducible assumption | with_reducible exact rng_toInt _ | with_reducible exact rng_wr _ | (unfold rng; omega) | (unfold rng at *; omega) | assumption)⟩, ?_⟩
        obtain ⟨b_3, eb_3⟩ := P_111 iσ.1 mb_2 (k := v4.toNat) (by (first | omega | with_reducible assumption | with_reducible exact rng_toInt _ | with_reducible exact rng_wr _ | (unfold rng; omega) | (unfold rng at *; omega) | assumption))
        have fb_3 := T_111 iσ.1 mb_2 eb_3
        have mb_3 : kO σ b_3 1 := iσ.1.kd mb_2 rfl eb_3 rfl
        refine ⟨b_3, eb_3, fun kk_b_3 => ?_⟩
        obtain ⟨b_4, eb_4, fb_4⟩ := P_9_7 iσ.1 kth
        have mb_4 : kO σ b_4 111 := iσ.1.kd kth rfl eb_4 rfl
        refine ⟨b_4, eb_4, fun kk_b_4 => ?_⟩
        refine ⟨⟨by (first | omega | with_reducible assumption | with_reducible exact rng_toInt _ | with_reducible exact rng_wr _ | (unfold rng; omega) | (unfold rng at *; omega) | assumption), by (first | omega | with_reducible assumption | with_reducible exact rng_toInt _ | with_reducible exact rng_wr _ | (unfold rng; omega) | (unfold rng at *; omega) | assumption)⟩, ?_⟩
        obtain ⟨b_5, eb_5⟩ := P_111 iσ.1 mb_4 (k := v4.toNat) (by (first | omega | with_reducible assumption | with_reducible exact rng_toInt _ | with_reducible exact rng_wr _ | (unfold rng; omega) | (unfold rng at *; omega) | assumption))
        have fb_5 := T_111 iσ.1 mb_4 eb_5
        have mb_5 : kO σ b_5 1 := iσ.1.kd mb_4 rfl eb_5 rfl
        refine ⟨b_5, eb_5, fun kk_b_5 => ?_⟩
        have q7 := iσ.size mb_3
        have qz7 := iσ.sz mb_3.1
        have q8 := iσ.size mb_5
        have qz8 := iσ.sz mb_5.1
        refine ⟨by (first | omega | with_reducible assumption | with_reducible exact rng_toInt _ | with_reducible exact rng_wr _ | (unfold rng; omega) | (unfold rng at *; omega) | assumption), ?_⟩
        obtain ⟨b_6, eb_6, fb_6⟩ := P_9_8 iσ.1 kth
        have mb_6 : kO σ b_6 111 := iσ.1.kd kth rfl eb_6 rfl
        refine ⟨b_6, eb_6, fun kk_b_6 => ?_⟩
        refine ⟨⟨by (first | omega | with_reducible assumption | with_reducible exact rng_toInt _ | with_reducible exact rng_wr _ | (unfold rng; omega) | (unfold rng at *; omega) | assumption), by (first | omega | with_reducible assumption | with_reducible exact rng_toInt _ | with_reducible exact rng_wr _ | (unfold rng; omega) | (unfold rng at *; omega) | assumption)⟩, ?_⟩
        obtain ⟨b_7, eb_7⟩ := P_111 iσ.1 mb_6 (k := v4.toNat) (by (first | omega | with_reducible assumption | with_reducible exact rng_toInt _ | with_reducible exact rng_wr _ | (unfold rng; omega) | (unfold rng at *; omega) | assumption))
        have fb_7 := T_111 iσ.1 mb_6 eb_7
        have mb_7 : kO σ b_7 1 := iσ.1.kd mb_6 rfl eb_7 rfl
        refine ⟨b_7, eb_7, fun kk_b_7 => ?_⟩
        have q9 := iσ.size mb_7
        have qz9 := iσ.sz mb_7.1
        refine ⟨by (first | omega | with_reducible assumption | with_reducible exact rng_toInt _ | with_reducible exact rng_wr _ | (unfold rng; omega) | (unfold rng at *; omega) | assumption), ?_⟩
        refine ⟨by (first | omega | with_reducible assumption | with_reducible exact rng_toInt _ | with_reducible exact rng_wr _ | (unfold rng; omega) | (unfold rng at *; omega) | assumption), ?_⟩
        refine ⟨by (first | omega | with_reducible assumption | with_reducible exact rng_toInt _ | with_reducible exact rng_wr _ | (unfold rng; omega) | (unfold rng at *; omega) | assumption), ?_⟩
        exact ih5 (v3 + ((gI σ b_3 2 + gI σ b_5 2) + gI σ b_7 2)) (v4 + 1) (by have o3 := iσ.out3 (k := v4.toNat) mb_3 mb_5 mb_7 (by omega) (by omega) (by omega) (by omega); rcases (show v4 = 0 ∨ v4 = 1 ∨ v4 = 2 ∨ v4 = 3 by omega) with e | e | e | e <;> subst e <;> simp only [Int.toNat_zero, Int.toNat_one, Int.reduceToNat, Nat.reduceAdd] at o3 <;> omega) (by (first | omega | with_reducible assumption | with_reducible exact rng_toInt _ | with_reducible exact rng_wr _ | (unfold rng; omega) | (unfold rng at *; omega) | assumption))
  exact ⟨_, Lp5 _ _ _ (by (first | omega | with_reducible assumption | with_reducible exact rng_toInt _ | with_reducible exact rng_wr _ | (unfold rng; omega) | (unfold rng at *; omega) | assumption)) (Nat.lt_succ_self _)⟩

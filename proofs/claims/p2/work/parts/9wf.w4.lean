set_option maxHeartbeats 1000000 in
theorem i4_X11_matchRow {σ : Sg} {pl : Nat} {gq ci gr nc : Nat → Nat} {ot : Nat → Nat → Int} {LL : Nat → List Nat} {N nu : Nat → Nat} {th : Nat} {v1 : Option Nat} {v2 : Option Nat} {v3 : Option Nat} {J i : Nat} (iσ : IV σ pl gq ci gr nc ot LL N nu) (kth : kO σ th 11) {o : Nat} (hv1 : v1 = some o) (ko : kO σ o 5) {t : Nat} (hv2 : v2 = some t) (kt : kO σ t 10) {c : Nat} (hv3 : v3 = some c) (kc : kO σ c 0) (hq : gq th = 4) (hf : ∀ x, c ∉ LL x) (h1 : 1 ≤ N 1) (hj : gP σ th 5 = some J) (kJ : kO σ J 4) (hJ : gq J = nc 0) (ho : gq o = 16 * nc 0 + i) (hi : i < nc 1) (ht : gq t = 4) (h5 : nu 5 < 24000) (h7 : 0 ≤ ot i 7) {Q : Sg → Unit → Prop} {X : Sg → String → Prop} (hQ : ∀ (σ' : Sg) (LL' : Nat → List Nat) (N' nu' : Nat → Nat) (r : Unit), IV σ' pl gq ci gr nc ot LL' N' nu' → Fx [1, 2, 7, 64, 265, 266, 512, 645, 708, 6464] gr σ σ' → NU nu nu' → Hn (gD σ) [41] [c] gq LL LL' N N' → (N' 1 + 1 = N 1) → Q σ' r) (hX : ∀ (σ' : Sg) (LL' : Nat → List Nat) (N' nu' : Nat → Nat) (E : String), IV σ' pl gq ci gr nc ot LL' N' nu' → Fx [1, 2, 7, 64, 265, 266, 512, 645, 708, 6464] gr σ σ' → NX nu nu' → ((N' 1 ≤ N 1 + 0 ∧ N' 5 = N 5 ∧ N' 3 = N 3 ∧ N' 14 = N 14 ∧ N' 74 = N 74) ∧ NZ N N' ∧ E = "java/lang/IllegalStateException") → X σ' E) : wp_X11_matchRow th v1 v2 v3 σ Q X := by
  have fσ : Fx [1, 2, 7, 64, 265, 266, 512, 645, 708, 6464] gr σ σ := Fx.rf
  have hnσ : Hn (gD σ) [41] [c] gq LL LL N N := Hn.rf
  have lo_c : Lo [c] (gD σ) LL c := Or.inl (by simp)
  unfold wp_X11_matchRow
  unfold w_X11_matchRow_0
  have Lp6 : ∀ (fu6 : Nat) (τ6 : Sg) (LLt6 : Nat → List Nat) (Nt6 nut6 : Nat → Nat) (v4 : Int) (v5 : Int), IV τ6 pl gq ci gr nc ot LLt6 Nt6 nut6 → Fx [1, 2, 7, 64, 265, 266, 512, 645, 708, 6464] gr σ τ6 → Ext σ τ6 → NU nu nut6 → Hn (gD σ) [41] [c] gq LL LLt6 N Nt6 → (∀ x, c ∉ LLt6 x) → ((0 ≤ v5 ∧ v5 ≤ 8) ∧ rng v4 ∧ Nt6 1 = N 1) → ((8 - v5).toNat) < fu6 → wl_X11_matchRow_6 th Q X fu6 τ6 v1 v2 v3 v4 v5 := by
    intro fu6
    induction fu6 with
    | zero => intro _ _ _ _ _ _ _ _ _ _ _ _ _ h9; omega
    | succ fu6 ih6 =>
      intro τ6 LLt6 Nt6 nut6 v4 v5 iτ6 fτ6 xτ6 nu_τ6 hnτ6 hg_c_τ6 hi6 hm6
      have nτ6_3 := hnτ6.2.2 3 (by first | decide | (simp; done) | (simp only [List.mem_cons, List.mem_nil_iff, or_false, not_or]; omega)) (by first | decide | omega) (by first | decide | omega) (by first | decide | omega)
      have nτ6_5 := hnτ6.2.2 5 (by first | decide | (simp; done) | (simp only [List.mem_cons, List.mem_nil_iff, or_false, not_or]; omega)) (by first | decide | omega) (by first | decide | omega) (by first | decide | omega)
      have nτ6_14 := hnτ6.2.2 14 (by first | decide | (simp; done) | (simp only [List.mem_cons, List.mem_nil_iff, or_false, not_or]; omega)) (by first | decide | omega) (by first | decide | omega) (by first | decide | omega)
      have nτ6_44 := hnτ6.2.2 44 (by first | decide | (simp; done) | (simp only [List.mem_cons, List.mem_nil_iff, or_false, not_or]; omega)) (by first | decide | omega) (by first | decide | omega) (by first | decide | omega)
      have nτ6_74 := hnτ6.2.2 74 (by first | decide | (simp; done) | (simp only [List.mem_cons, List.mem_nil_iff, or_false, not_or]; omega)) (by first | decide | omega) (by first | decide | omega) (by first | decide | omega)
      have nτ6_11 := hnτ6.2.2 11 (by first | decide | (simp; done) | (simp only [List.mem_cons, List.mem_nil_iff, or_false, not_or]; omega)) (by first | decide | omega) (by first | decide | omega) (by first | decide | omega)
      have nτ6_12 := hnτ6.2.2 12 (by first | decide | (simp; done) | (simp only [List.mem_cons, List.mem_nil_iff, or_false, not_or]; omega)) (by first | decide | omega) (by first | decide | omega) (by first | decide | omega)
      have nτ6_42 := hnτ6.2.2 42 (by first | decide | (simp; done) | (simp only [List.mem_cons, List.mem_nil_iff, or_false, not_or]; omega)) (by first | decide | omega) (by first | decide | omega) (by first | decide | omega)
      have nτ6_13 := hnτ6.2.2 13 (by first | decide | (simp; done) | (simp only [List.mem_cons, List.mem_nil_iff, or_false, not_or]; omega)) (by first | decide | omega) (by first | decide | omega) (by first | decide | omega)
      have uτ6_0 := nu_τ6.1 0 (by decide)
      have uτ6_1 := nu_τ6.1 1 (by decide)
      have uτ6_2 := nu_τ6.2
      have uτ6_5 := nu_τ6.1 5 (by decide)
      have uτ6_15 := nu_τ6.1 15 (by decide)
      have uτ6_16 := nu_τ6.1 16 (by decide)
      unfold wl_X11_matchRow_6
      have kp1 : gP τ6 th 5 = gP σ th 5 := (fτ6.O kth (by decide)).2.1
      have kp2 : gI τ6 t 0 = gI σ t 0 := (fτ6.O kt (by decide)).1
      unfold w_X11_matchRow_6
      refine ⟨o, hv1, fun kk_o => ?_⟩
      have q4 := I_5_4 iτ6.1 (ko.up xτ6)
      by_cases hc3 : v5 ≥ gI τ6 o 4
      · rw [if_pos hc3]
        unfold w_X11_matchRow_75
        refine ⟨c, hv3, fun kk_c => ?_⟩
        intro σ24 eσ24
        have xσ24 : Ext τ6 σ24 := by rw [eσ24]; exact fun _ h => ⟨h, rfl, rfl⟩
        have iσ24 : IV σ24 pl gq ci gr nc ot LLt6 Nt6 nut6 := by rw [eσ24]; exact iτ6.wO (kc.up xτ6) (by decide) (rngb (by first | exact rng_wr _ | (first | omega | with_reducible assumption | with_reducible exact rng_toInt _ | with_reducible exact rng_wr _ | (unfold rng; omega) | (unfold rng at *; omega) | assumption)))
        have fσ24 : Fx [1, 2, 7, 64, 265, 266, 512, 645, 708, 6464] gr σ σ24 := fτ6.tr (Sk.fx (by rw [eσ24]; exact Sk.pI (by rw [fcdO (kc.up xτ6) (by decide)]; decide)))
        have wσ24 : gI σ24 c 2 = v4 := by rw [eσ24]; exact up2_s _ _ _ _
        have kp5 : gI σ24 o 4 = gI τ6 o 4 := by rw [eσ24]; exact up2_n _ _ (fun q => absurd q.2 (by decide))
        have kp6 : gP σ24 th 5 = gP τ6 th 5 := by rw [eσ24]
        have kp7 : gI σ24 t 0 = gI τ6 t 0 := by rw [eσ24]; exact up2_n _ _ (fun q => absurd q.2 (by decide))
        refine ⟨o, hv1, fun kk_o_1 => ?_⟩
        obtain ⟨b, eb, fb⟩ := P_0_0 iσ24.1 (kc.up (xτ6.trans xσ24))
        have mb : kO σ24 b 101 := iσ24.1.kd (kc.up (xτ6.trans xσ24)) rfl eb rfl
        refine ⟨b, eb, fun kk_b => ?_⟩
        have q8 := I_5_13 iσ24.1 (ko.up (xτ6.trans xσ24))
        refine ⟨⟨by (first | omega | with_reducible assumption | with_reducible exact rng_toInt _ | with_reducible exact rng_wr _ | (unfold rng; omega) | (unfold rng at *; omega) | assumption), by (first | omega | with_reducible assumption | with_reducible exact rng_toInt _ | with_reducible exact rng_wr _ | (unfold rng; omega) | (unfold rng at *; omega) | assumption)⟩, ?_⟩
        intro σ27 eσ27
        have xσ27 : Ext σ24 σ27 := by rw [eσ27]; exact fun _ h => ⟨h, rfl, rfl⟩
        have iσ27 : IV σ27 pl gq ci gr nc ot LLt6 Nt6 nut6 := by rw [eσ27]; exact iσ24.wJ (kc.up (xτ6.trans xσ24)) (by decide)
        have fσ27 : Fx [1, 2, 7, 64, 265, 266, 512, 645, 708, 6464] gr σ σ27 := fσ24.tr (Sk.fx (by rw [eσ27]; exact Sk.pJ (by rw [fcdO (kc.up (xτ6.trans xσ24)) (by decide)]; decide)))
        have kp9 : gI σ27 c 2 = gI σ24 c 2 := by rw [eσ27]
        have kp10 : gI σ27 o 13 = gI σ24 o 13 := by rw [eσ27]
        have kp11 : gI σ27 o 4 = gI σ24 o 4 := by rw [eσ27]
        have kp12 : gP σ27 c 0 = gP σ24 c 0 := by rw [eσ27]
        have kp13 : gP σ27 th 5 = gP σ24 th 5 := by rw [eσ27]
        have kp14 : gI σ27 t 0 = gI σ24 t 0 := by rw [eσ27]
        refine i4_X11_keep (G0 := 41) iσ27 (kth.up (xτ6.trans (xσ24.trans xσ27))) hv1 (ko.up (xτ6.trans (xσ24.trans xσ27))) hv2 (kt.up (xτ6.trans (xσ24.trans xσ27))) hv3 (kc.up (xτ6.trans (xσ24.trans xσ27))) (by (first | omega | with_reducible assumption | with_reducible exact rng_toInt _ | with_reducible exact rng_wr _ | (unfold rng; omega) | (unfold rng at *; omega) | assumption)) (by (first | omega | with_reducible assumption | with_reducible exact rng_toInt _ | with_reducible exact rng_wr _ | (unfold rng; omega) | (unfold rng at *; omega) | assumption)) (by (first | omega | with_reducible assumption | with_reducible exact rng_toInt _ | with_reducible exact rng_wr _ | (unfold rng; omega) | (unfold rng at *; omega) | assumption)) (kp13.trans (kp6.trans (kp1.trans hj))) (kJ.up (xτ6.trans (xσ24.trans xσ27))) (by (first | omega | with_reducible assumption | with_reducible exact rng_toInt _ | with_reducible exact rng_wr _ | (unfold rng; omega) | (unfold rng at *; omega) | assumption)) (by (first | omega | with_reducible assumption | with_reducible exact rng_toInt _ | with_reducible exact rng_wr _ | (unfold rng; omega) | (unfold rng at *; omega) | assumption)) (by (first | omega | with_reducible assumption | with_reducible exact rng_toInt _ | with_reducible exact rng_wr _ | (unfold rng; omega) | (unfold rng at *; omega) | assumption)) (by (first | omega | with_reducible assumption | with_reducible exact rng_toInt _ | with_reducible exact rng_wr _ | (unfold rng; omega) | (unfold rng at *; omega) | assumption)) (by (first | omega | with_reducible assumption | with_reducible exact rng_toInt _ | with_reducible exact rng_wr _ | (unfold rng; omega) | (unfold rng at *; omega) | assumption)) (by (first | omega | with_reducible assumption | with_reducible exact rng_toInt _ | with_reducible exact rng_wr _ | (unfold rng; omega) | (unfold rng at *; omega) | assumption)) (Or.inl ⟨rfl, rfl⟩) (fun σ28 LLσ28 Nσ28 nuσ28 _ iσ28 cσ28 uσ28 hσ28 pσ28 => ?_) (fun σx LLx Nx nux E ix cx ux px => hX σx LLx Nx nux E ix (fσ27.tr (cx.mo (by decide))) (nu_τ6.x ux) (by first | exact px | exact ⟨by have := px.1; omega, (Hn.nz hnτ6 (by first | decide | (intro x hx; simp only [List.mem_cons, List.mem_nil_iff, or_false] at hx; omega))).tr px.2.1, px.2.2⟩ | (first | omega | with_reducible assumption | with_reducible exact rng_toInt _ | with_reducible exact rng_wr _ | (unfold rng; omega) | (unfold rng at *; omega) | assumption)))
        intro xσ28
        have fσ28 : Fx [1, 2, 7, 64, 265, 266, 512, 645, 708, 6464] gr σ σ28 := fσ27.tr (cσ28.mo (by decide))
        have hnσ28 : Hn (gD σ) [41] [c] gq LL LLσ28 N Nσ28 := hnτ6.go hσ28 (fun d hd => (fσ27.1 d hd).1) (by first | decide | exact fun _ h => h | (simp; done) | (intro x hx; simp only [List.mem_cons, List.mem_nil_iff, or_false] at hx ⊢; omega)) (fun d hd => by rw [List.mem_singleton.mp hd]; exact lo_c)
        have nσ28_3 := hσ28.2.2 3 (by first | decide | (simp; done) | (simp only [List.mem_cons, List.mem_nil_iff, or_false, not_or]; omega)) (by first | decide | omega) (by first | decide | omega) (by first | decide | omega)
        have nσ28_5 := hσ28.2.2 5 (by first | decide | (simp; done) | (simp only [List.mem_cons, List.mem_nil_iff, or_false, not_or]; omega)) (by first | decide | omega) (by first | decide | omega) (by first | decide | omega)
        have nσ28_14 := hσ28.2.2 14 (by first | decide | (simp; done) | (simp only [List.mem_cons, List.mem_nil_iff, or_false, not_or]; omega)) (by first | decide | omega) (by first | decide | omega) (by first | decide | omega)
        have nσ28_44 := hσ28.2.2 44 (by first | decide | (simp; done) | (simp only [List.mem_cons, List.mem_nil_iff, or_false, not_or]; omega)) (by first | decide | omega) (by first | decide | omega) (by first | decide | omega)
        have nσ28_74 := hσ28.2.2 74 (by first | decide | (simp; done) | (simp only [List.mem_cons, List.mem_nil_iff, or_false, not_or]; omega)) (by first | decide | omega) (by first | decide | omega) (by first | decide | omega)
        have nσ28_11 := hσ28.2.2 11 (by first | decide | (simp; done) | (simp only [List.mem_cons, List.mem_nil_iff, or_false, not_or]; omega)) (by first | decide | omega) (by first | decide | omega) (by first | decide | omega)
        have nσ28_12 := hσ28.2.2 12 (by first | decide | (simp; done) | (simp only [List.mem_cons, List.mem_nil_iff, or_false, not_or]; omega)) (by first | decide | omega) (by first | decide | omega) (by first | decide | omega)
        have nσ28_42 := hσ28.2.2 42 (by first | decide | (simp; done) | (simp only [List.mem_cons, List.mem_nil_iff, or_false, not_or]; omega)) (by first | decide | omega) (by first | decide | omega) (by first | decide | omega)
        have nσ28_13 := hσ28.2.2 13 (by first | decide | (simp; done) | (simp only [List.mem_cons, List.mem_nil_iff, or_false, not_or]; omega)) (by first | decide | omega) (by first | decide | omega) (by first | decide | omega)
        have nu_σ28 : NU nu nuσ28 := nu_τ6.tr uσ28
        have uσ28_0 := uσ28.1 0 (by decide)
        have uσ28_1 := uσ28.1 1 (by decide)
        have uσ28_2 := uσ28.2
        have uσ28_5 := uσ28.1 5 (by decide)
        have uσ28_15 := uσ28.1 15 (by decide)
        have uσ28_16 := uσ28.1 16 (by decide)
        have kp15 : gI σ28 c 2 = gI σ27 c 2 := (cσ28.O (kc.up (xτ6.trans (xσ24.trans xσ27))) (by decide)).1
        have kp16 : gI σ28 o 13 = gI σ27 o 13 := (cσ28.O (ko.up (xτ6.trans (xσ24.trans xσ27))) (by decide)).1
        have kp17 : gI σ28 o 4 = gI σ27 o 4 := (cσ28.O (ko.up (xτ6.trans (xσ24.trans xσ27))) (by decide)).1
        have kp18 : gP σ28 c 0 = gP σ27 c 0 := (cσ28.O (kc.up (xτ6.trans (xσ24.trans xσ27))) (by decide)).2.1
        have kp19 : gP σ28 th 5 = gP σ27 th 5 := (cσ28.O (kth.up (xτ6.trans (xσ24.trans xσ27))) (by decide)).2.1
        have kp20 : gI σ28 t 0 = gI σ27 t 0 := (cσ28.O (kt.up (xτ6.trans (xσ24.trans xσ27))) (by decide)).1
        exact hQ σ28 LLσ28 Nσ28 nuσ28 () iσ28 fσ28 (nu_σ28) hnσ28 (by (first | omega | with_reducible assumption | with_reducible exact rng_toInt _ | with_reducible exact rng_wr _ | (unfold rng; omega) | (unfold rng at *; omega) | assumption))
      · rw [if_neg hc3]
        unfold w_X11_matchRow_15
        refine ⟨o, hv1, fun kk_o_2 => ?_⟩
        obtain ⟨b_1, eb_1, fb_1⟩ := P_5_1 iτ6.1 (ko.up xτ6)
        have mb_1 : kO τ6 b_1 100 := iτ6.1.kd (ko.up xτ6) rfl eb_1 rfl
        refine ⟨b_1, eb_1, fun kk_b_1 => ?_⟩
        refine ⟨⟨by (first | omega | with_reducible assumption | with_reducible exact rng_toInt _ | with_reducible exact rng_wr _ | (unfold rng; omega) | (unfold rng at *; omega) | assumption), by (first | omega | with_reducible assumption | with_reducible exact rng_toInt _ | with_reducible exact rng_wr _ | (unfold rng; omega) | (unfold rng at *; omega) | assumption)⟩, ?_⟩
        refine ⟨J, (kp1.trans hj), fun kk_J => ?_⟩
        have q21 := iτ6.rg b_1 v5.toNat; unfold rng at q21
        refine i_X4_value iτ6 (kJ.up xτ6) hv3 (kc.up xτ6) (fun σ18 r19 iσ18 cσ18 pσ18 => ?_)
        intro xσ18
        have fσ18 : Fx [1, 2, 7, 64, 265, 266, 512, 645, 708, 6464] gr σ σ18 := fτ6.tr (cσ18.mo (by decide))
        have kp22 : gI σ18 o 4 = gI τ6 o 4 := (cσ18.O (ko.up xτ6) (by decide)).1
        have kp23 : gP σ18 o 1 = gP τ6 o 1 := (cσ18.O (ko.up xτ6) (by decide)).2.1
        have kp24 : gP σ18 th 5 = gP τ6 th 5 := (cσ18.O (kth.up xτ6) (by decide)).2.1
        have kp25 : gI σ18 t 0 = gI τ6 t 0 := (cσ18.O (kt.up xτ6) (by decide)).1
        refine ⟨J, (kp24.trans (kp1.trans hj)), fun kk_J_1 => ?_⟩
        have q27 := I_4_10 iσ18.1 (kJ.up (xτ6.trans xσ18))
        by_cases hc26 : gI σ18 J 10 = 0
        · rw [if_pos hc26]
          unfold w_X11_matchRow_49
          by_cases hc28 : r19 = 0
          · rw [if_pos hc28]
            unfold w_X11_matchRow_65
            unfold w_X11_matchRow_66
            refine ⟨by (first | omega | with_reducible assumption | with_reducible exact rng_toInt _ | with_reducible exact rng_wr _ | (unfold rng; omega) | (unfold rng at *; omega) | assumption), ?_⟩
            exact ih6 σ18 LLt6 Nt6 nut6 (orI v4 0) (v5 + 1) iσ18 fσ18 (xτ6.trans xσ18) nu_τ6 hnτ6 hg_c_τ6 (⟨by omega, rng_toInt _, by omega⟩) (by (first | omega | with_reducible assumption | with_reducible exact rng_toInt _ | with_reducible exact rng_wr _ | (unfold rng; omega) | (unfold rng at *; omega) | assumption))
          · rw [if_neg hc28]
            unfold w_X11_matchRow_58
            unfold w_X11_matchRow_66
            refine ⟨by (first | omega | with_reducible assumption | with_reducible exact rng_toInt _ | with_reducible exact rng_wr _ | (unfold rng; omega) | (unfold rng at *; omega) | assumption), ?_⟩
            exact ih6 σ18 LLt6 Nt6 nut6 (orI v4 (shlI 1 v5)) (v5 + 1) iσ18 fσ18 (xτ6.trans xσ18) nu_τ6 hnτ6 hg_c_τ6 (⟨by omega, rng_toInt _, by omega⟩) (by (first | omega | with_reducible assumption | with_reducible exact rng_toInt _ | with_reducible exact rng_wr _ | (unfold rng; omega) | (unfold rng at *; omega) | assumption))
        · rw [if_neg hc26]
          unfold w_X11_matchRow_42
          refine i4_X11_putAside iσ18 (kth.up (xτ6.trans xσ18)) hv2 (kt.up (xτ6.trans xσ18)) hv3 (kc.up (xτ6.trans xσ18)) (by (first | omega | with_reducible assumption | with_reducible exact rng_toInt _ | with_reducible exact rng_wr _ | (unfold rng; omega) | (unfold rng at *; omega) | assumption)) (by (first | omega | with_reducible assumption | with_reducible exact rng_toInt _ | with_reducible exact rng_wr _ | (unfold rng; omega) | (unfold rng at *; omega) | assumption)) (by (first | omega | with_reducible assumption | with_reducible exact rng_toInt _ | with_reducible exact rng_wr _ | (unfold rng; omega) | (unfold rng at *; omega) | assumption)) (fun σ22 LLσ22 Nσ22 nuσ22 _ iσ22 cσ22 uσ22 hσ22 pσ22 => ?_)
          intro xσ22
          have fσ22 : Fx [1, 2, 7, 64, 265, 266, 512, 645, 708, 6464] gr σ σ22 := fσ18.tr (cσ22.mo (by decide))
          have hnσ22 : Hn (gD σ) [41] [c] gq LL LLσ22 N Nσ22 := hnτ6.go hσ22 (fun d hd => (fσ18.1 d hd).1) (by first | decide | exact fun _ h => h | (simp; done) | (intro x hx; simp only [List.mem_cons, List.mem_nil_iff, or_false] at hx ⊢; omega)) (fun d hd => by rw [List.mem_singleton.mp hd]; exact lo_c)
          have nσ22_3 := hσ22.2.2 3 (by first | decide | (simp; done) | (simp only [List.mem_cons, List.mem_nil_iff, or_false, not_or]; omega)) (by first | decide | omega) (by first | decide | omega) (by first | decide | omega)
          have nσ22_5 := hσ22.2.2 5 (by first | decide | (simp; done) | (simp only [List.mem_cons, List.mem_nil_iff, or_false, not_or]; omega)) (by first | decide | omega) (by first | decide | omega) (by first | decide | omega)
          have nσ22_14 := hσ22.2.2 14 (by first | decide | (simp; done) | (simp only [List.mem_cons, List.mem_nil_iff, or_false, not_or]; omega)) (by first | decide | omega) (by first | decide | omega) (by first | decide | omega)
          have nσ22_44 := hσ22.2.2 44 (by first | decide | (simp; done) | (simp only [List.mem_cons, List.mem_nil_iff, or_false, not_or]; omega)) (by first | decide | omega) (by first | decide | omega) (by first | decide | omega)
          have nσ22_74 := hσ22.2.2 74 (by first | decide | (simp; done) | (simp only [List.mem_cons, List.mem_nil_iff, or_false, not_or]; omega)) (by first | decide | omega) (by first | decide | omega) (by first | decide | omega)
          have nσ22_11 := hσ22.2.2 11 (by first | decide | (simp; done) | (simp only [List.mem_cons, List.mem_nil_iff, or_false, not_or]; omega)) (by first | decide | omega) (by first | decide | omega) (by first | decide | omega)
          have nσ22_12 := hσ22.2.2 12 (by first | decide | (simp; done) | (simp only [List.mem_cons, List.mem_nil_iff, or_false, not_or]; omega)) (by first | decide | omega) (by first | decide | omega) (by first | decide | omega)
          have nσ22_41 := hσ22.2.2 41 (by first | decide | (simp; done) | (simp only [List.mem_cons, List.mem_nil_iff, or_false, not_or]; omega)) (by first | decide | omega) (by first | decide | omega) (by first | decide | omega)
          have nσ22_42 := hσ22.2.2 42 (by first | decide | (simp; done) | (simp only [List.mem_cons, List.mem_nil_iff, or_false, not_or]; omega)) (by first | decide | omega) (by first | decide | omega) (by first | decide | omega)
          have nσ22_13 := hσ22.2.2 13 (by first | decide | (simp; done) | (simp only [List.mem_cons, List.mem_nil_iff, or_false, not_or]; omega)) (by first | decide | omega) (by first | decide | omega) (by first | decide | omega)
          have nu_σ22 : NU nu nuσ22 := nu_τ6.tr uσ22
          have uσ22_0 := uσ22.1 0 (by decide)
          have uσ22_1 := uσ22.1 1 (by decide)
          have uσ22_2 := uσ22.2
          have uσ22_5 := uσ22.1 5 (by decide)
          have uσ22_15 := uσ22.1 15 (by decide)
          have uσ22_16 := uσ22.1 16 (by decide)
          have kp29 : gI σ22 J 10 = gI σ18 J 10 := (cσ22.O (kJ.up (xτ6.trans xσ18)) (by decide)).1
          have kp30 : gI σ22 o 4 = gI σ18 o 4 := (cσ22.O (ko.up (xτ6.trans xσ18)) (by decide)).1
          have kp31 : gP σ22 o 1 = gP σ18 o 1 := (cσ22.O (ko.up (xτ6.trans xσ18)) (by decide)).2.1
          have kp32 : gP σ22 th 5 = gP σ18 th 5 := (cσ22.O (kth.up (xτ6.trans xσ18)) (by decide)).2.1
          have kp33 : gI σ22 t 0 = gI σ18 t 0 := (cσ22.O (kt.up (xτ6.trans xσ18)) (by decide)).1
          exact hQ σ22 LLσ22 Nσ22 nuσ22 () iσ22 fσ22 (nu_σ22) hnσ22 (by (first | omega | with_reducible assumption | with_reducible exact rng_toInt _ | with_reducible exact rng_wr _ | (unfold rng; omega) | (unfold rng at *; omega) | assumption))
  exact ⟨_, Lp6 _ σ LL N nu _ _ iσ fσ (Ext.rfl' _) NU.rf hnσ hf (⟨by omega, by unfold rng; omega, rfl⟩) (Nat.lt_succ_self _)⟩
set_option maxHeartbeats 1000000 in
theorem i4_X11_goOnBy {σ : Sg} {pl : Nat} {gq ci gr nc : Nat → Nat} {ot : Nat → Nat → Int} {LL : Nat → List Nat} {N nu : Nat → Nat} {th : Nat} {v1 : Option Nat} {v2 : Option Nat} {v3 : Option Nat} (iσ : IV σ pl gq ci gr nc ot LL N nu) (kth : kO σ th 11) {o : Nat} (hv1 : v1 = some o) (ko : kO σ o 5) {t : Nat} (hv2 : v2 = some t) (kt : kO σ t 10) {c : Nat} (hv3 : v3 = some c) (kc : kO σ c 0) (hq : gq th = 4) (hf : ∀ x, c ∉ LL x) (ht : gq t = 4) (h5 : nu 5 < 24000) {Q : Sg → Unit → Prop} {X : Sg → String → Prop} (hQ : ∀ (σ' : Sg) (LL' : Nat → List Nat) (N' nu' : Nat → Nat) (r : Unit), IV σ' pl gq ci gr nc ot LL' N' nu' → Fx [1, 2, 4, 5, 64, 512, 513, 514, 708, 6464] gr σ σ' → NU nu nu' → Hn (gD σ) [44, 42] [] gq LL LL' N N' → (N' 1 = N 1 ∧ N' 44 + N' 42 ≤ N 44 + N 42) → Q σ' r) (hX : ∀ (σ' : Sg) (LL' : Nat → List Nat) (N' nu' : Nat → Nat) (E : String), IV σ' pl gq ci gr nc ot LL' N' nu' → Fx [1, 2, 4, 5, 64, 512, 513, 514, 708, 6464] gr σ σ' → NX nu nu' → ((N' 1 ≤ N 1 + 0 ∧ N' 5 = N 5 ∧ N' 3 = N 3 ∧ N' 14 = N 14 ∧ N' 74 = N 74) ∧ NZ N N' ∧ E = "java/lang/IllegalStateException") → X σ' E) : wp_X11_goOnBy th v1 v2 v3 σ Q X := by
  have fσ : Fx [1, 2, 4, 5, 64, 512, 513, 514, 708, 6464] gr σ σ := Fx.rf
  have hnσ : Hn (gD σ) [44, 42] [] gq LL LL N N := Hn.rf
  unfold wp_X11_goOnBy
  unfold w_X11_goOnBy_0
  refine ⟨t, hv2, fun kk_t => ?_⟩
  obtain ⟨b, eb, fb⟩ := P_10_3 iσ.1 kt
  have mb : kO σ b 1 := iσ.1.kd kt rfl eb rfl
  refine ⟨b, eb, fun kk_b => ?_⟩
  have Lp12 : ∀ (fu12 : Nat) (τ12 : Sg) (LLt12 : Nat → List Nat) (Nt12 nut12 : Nat → Nat) (v4 : Option Nat) (v5 : Option Nat), IV τ12 pl gq ci gr nc ot LLt12 Nt12 nut12 → Fx [1, 2, 4, 5, 64, 512, 513, 514, 708, 6464] gr σ τ12 → Ext σ τ12 → NU nu nut12 → Hn (gD σ) [44, 42] [] gq LL LLt12 N Nt12 → (∀ x, c ∉ LLt12 x) → (∃ (A B : List Nat), ((LLt12 b = A ++ B ∧ v5 = B.head?) ∧ v4 = A.getLast? ∧ Nt12 1 = N 1 ∧ Nt12 44 + Nt12 42 ≤ N 44 + N 42) ∧ (B.length) < fu12) → wl_X11_goOnBy_12 th Q X fu12 τ12 v1 v2 v3 v4 v5 := by
    intro fu12
    induction fu12 with
    | zero => intro _ _ _ _ _ _ _ _ _ _ _ _ h9; obtain ⟨_, _, _, h9⟩ := h9; omega
    | succ fu12 ih12 =>
      intro τ12 LLt12 Nt12 nut12 v4 v5 iτ12 fτ12 xτ12 nu_τ12 hnτ12 hg_c_τ12 hi12
      obtain ⟨A, B, hi12, hm12⟩ := hi12
      have nτ12_3 := hnτ12.2.2 3 (by first | decide | (simp; done) | (simp only [List.mem_cons, List.mem_nil_iff, or_false, not_or]; omega)) (by first | decide | omega) (by first | decide | omega) (by first | decide | omega)
      have nτ12_5 := hnτ12.2.2 5 (by first | decide | (simp; done) | (simp only [List.mem_cons, List.mem_nil_iff, or_false, not_or]; omega)) (by first | decide | omega) (by first | decide | omega) (by first | decide | omega)
      have nτ12_14 := hnτ12.2.2 14 (by first | decide | (simp; done) | (simp only [List.mem_cons, List.mem_nil_iff, or_false, not_or]; omega)) (by first | decide | omega) (by first | decide | omega) (by first | decide | omega)
      have nτ12_74 := hnτ12.2.2 74 (by first | decide | (simp; done) | (simp only [List.mem_cons, List.mem_nil_iff, or_false, not_or]; omega)) (by first | decide | omega) (by first | decide | omega) (by first | decide | omega)
      have nτ12_11 := hnτ12.2.2 11 (by first | decide | (simp; done) | (simp only [List.mem_cons, List.mem_nil_iff, or_false, not_or]; omega)) (by first | decide | omega) (by first | decide | omega) (by first | decide | omega)
      have nτ12_12 := hnτ12.2.2 12 (by first | decide | (simp; done) | (simp only [List.mem_cons, List.mem_nil_iff, or_false, not_or]; omega)) (by first | decide | omega) (by first | decide | omega) (by first | decide | omega)
      have nτ12_41 := hnτ12.2.2 41 (by first | decide | (simp; done) | (simp only [List.mem_cons, List.mem_nil_iff, or_false, not_or]; omega)) (by first | decide | omega) (by first | decide | omega) (by first | decide | omega)
      have nτ12_13 := hnτ12.2.2 13 (by first | decide | (simp; done) | (simp only [List.mem_cons, List.mem_nil_iff, or_false, not_or]; omega)) (by first | decide | omega) (by first | decide | omega) (by first | decide | omega)
      have uτ12_0 := nu_τ12.1 0 (by decide)
      have uτ12_1 := nu_τ12.1 1 (by decide)
      have uτ12_2 := nu_τ12.2
      have uτ12_5 := nu_τ12.1 5 (by decide)
      have uτ12_15 := nu_τ12.1 15 (by decide)
      have uτ12_16 := nu_τ12.1 16 (by decide)
      unfold wl_X11_goOnBy_12
      have kp1 : gP τ12 t 3 = gP σ t 3 := (fτ12.O kt (by decide)).2.1
      unfold w_X11_goOnBy_12
      by_cases hc2 : v5 = none
      · rw [if_pos hc2]
        unfold w_X11_goOnBy_249
        exact hQ τ12 LLt12 Nt12 nut12 () iτ12 fτ12 (nu_τ12) hnτ12 (by (first | omega | with_reducible assumption | with_reducible exact rng_toInt _ | with_reducible exact rng_wr _ | (unfold rng; omega) | (unfold rng at *; omega) | assumption))
      · rw [if_neg hc2]
        unfold w_X11_goOnBy_17
        obtain ⟨b_1, eb_1⟩ := Option.ne_none_iff_exists'.mp hc2
        obtain ⟨A1, B1, p1, p2, p3, p4⟩ := it_step iτ12 (mb.up xτ12) hi12.1 eb_1
        obtain ⟨B2, eB⟩ := it_cons hi12.1.2 eb_1
        have rc9 := iτ12.recs4 (kth.up xτ12) (by omega)
        have lb2 : B.length = B2.length + 1 := by rw [eB]; rfl
        have nx2 := iτ12.next (mb.up xτ12) (show _ = A ++ b_1 :: B2 by rw [← eB]; exact hi12.1.1)
        have ne9 : c ≠ b_1 := fun q => hg_c_τ12 b (by rw [q]; exact it_mem hi12.1 eb_1)
        refine ⟨b_1, eb_1, fun kk_b_1 => ?_⟩
        refine ⟨c, hv3, fun kk_c => ?_⟩
        by_cases hc3 : gJ τ12 b_1 7 ≠ gJ τ12 c 7
        · rw [if_pos hc3]
          unfold w_X11_goOnBy_41
          unfold w_X11_goOnBy_42
          rw [if_pos (by decide)]
          unfold w_X11_goOnBy_72
          unfold w_X11_goOnBy_73
          rw [if_pos (by decide)]
          unfold w_X11_goOnBy_132
          rw [if_pos (by decide)]
          unfold w_X11_goOnBy_150
          refine ⟨b_1, eb_1, fun kk_b_1_1 => ?_⟩
          refine ⟨o, hv1, fun kk_o => ?_⟩
          have q8 := iτ12.rg b_1 2; unfold rng at q8
          have q9 := I_5_4 iτ12.1 (ko.up xτ12)
          by_cases hc7 : gI τ12 b_1 2 ≠ gI τ12 o 4
          · rw [if_pos hc7]
            unfold w_X11_goOnBy_238
            unfold w_X11_goOnBy_242
            exact ih12 τ12 LLt12 Nt12 nut12 v5 (gP τ12 b_1 1) iτ12 fτ12 xτ12 nu_τ12 hnτ12 hg_c_τ12 (by first | exact ⟨A1, B1, ⟨⟨p1, p2⟩, by rw [p4]; assumption, by omega, by omega⟩, by omega⟩ | exact ⟨A, B2, ⟨⟨by rw [hLd, eB]; rfl, nx2⟩, hi12.2.1, by omega, by omega⟩, by omega⟩ | exact ⟨A, B2, ⟨⟨by rw [hLi, eL9]; exact up1_s _ _ _, nx2⟩, hi12.2.1, by omega, by omega⟩, by omega⟩)
          · rw [if_neg hc7]
            have hc7q := Classical.not_not.mp hc7
            unfold w_X11_goOnBy_162
            refine ⟨t, hv2, fun kk_t_1 => ?_⟩
            refine ⟨b, (kp1.trans eb), fun kk_b_2 => ?_⟩
            have lo_b_1 : Lo [] (gD σ) LL b_1 := hnτ12.loc (fun d hd => (fτ12.1 d hd).1) (Or.inr ⟨b, it_mem hi12.1 eb_1⟩)
            refine i_X1_cutBehind (G0 := 42) (A := A) (B := B) iτ12 (mb.up xτ12) (by omega) hi12.1.1 hi12.2.1 (fun σ92 LLσ92 Nσ92 nuσ92 r93 iσ92 cσ92 uσ92 hσ92 pσ92 => ?_)
            intro xσ92
            have fσ92 : Fx [1, 2, 4, 5, 64, 512, 513, 514, 708, 6464] gr σ σ92 := fτ12.tr (cσ92.mo (by decide))
            have hnσ92 : Hn (gD σ) [44, 42] [] gq LL LLσ92 N Nσ92 := hnτ12.go hσ92 (fun d hd => (fτ12.1 d hd).1) (by first | decide | exact fun _ h => h | (simp; done) | (intro x hx; simp only [List.mem_cons, List.mem_nil_iff, or_false] at hx ⊢; omega)) (fun d hd => absurd hd (by simp))
            have hg_c_σ92 : ∀ x, c ∉ LLσ92 x := hσ92.2.1 c (kc.up xτ12).1 (by simp) hg_c_τ12
            have nσ92_3 := hσ92.2.2 3 (by first | decide | (simp; done) | (simp only [List.mem_cons, List.mem_nil_iff, or_false, not_or]; omega)) (by first | decide | omega) (by first | decide | omega) (by first | decide | omega)
            have nσ92_5 := hσ92.2.2 5 (by first | decide | (simp; done) | (simp only [List.mem_cons, List.mem_nil_iff, or_false, not_or]; omega)) (by first | decide | omega) (by first | decide | omega) (by first | decide | omega)
            have nσ92_14 := hσ92.2.2 14 (by first | decide | (simp; done) | (simp only [List.mem_cons, List.mem_nil_iff, or_false, not_or]; omega)) (by first | decide | omega) (by first | decide | omega) (by first | decide | omega)
            have nσ92_44 := hσ92.2.2 44 (by first | decide | (simp; done) | (simp only [List.mem_cons, List.mem_nil_iff, or_false, not_or]; omega)) (by first | decide | omega) (by first | decide | omega) (by first | decide | omega)
            have nσ92_74 := hσ92.2.2 74 (by first | decide | (simp; done) | (simp only [List.mem_cons, List.mem_nil_iff, or_false, not_or]; omega)) (by first | decide | omega) (by first | decide | omega) (by first | decide | omega)
            have nσ92_11 := hσ92.2.2 11 (by first | decide | (simp; done) | (simp only [List.mem_cons, List.mem_nil_iff, or_false, not_or]; omega)) (by first | decide | omega) (by first | decide | omega) (by first | decide | omega)
            have nσ92_12 := hσ92.2.2 12 (by first | decide | (simp; done) | (simp only [List.mem_cons, List.mem_nil_iff, or_false, not_or]; omega)) (by first | decide | omega) (by first | decide | omega) (by first | decide | omega)
            have nσ92_41 := hσ92.2.2 41 (by first | decide | (simp; done) | (simp only [List.mem_cons, List.mem_nil_iff, or_false, not_or]; omega)) (by first | decide | omega) (by first | decide | omega) (by first | decide | omega)
            have nσ92_13 := hσ92.2.2 13 (by first | decide | (simp; done) | (simp only [List.mem_cons, List.mem_nil_iff, or_false, not_or]; omega)) (by first | decide | omega) (by first | decide | omega) (by first | decide | omega)
            have nu_σ92 : NU nu nuσ92 := nu_τ12.tr uσ92
            have uσ92_0 := uσ92.1 0 (by decide)
            have uσ92_1 := uσ92.1 1 (by decide)
            have uσ92_2 := uσ92.2
            have uσ92_5 := uσ92.1 5 (by decide)
            have uσ92_15 := uσ92.1 15 (by decide)
            have uσ92_16 := uσ92.1 16 (by decide)
            have kp10 : gI σ92 b_1 2 = gI τ12 b_1 2 := (cσ92.O kk_b_1 (by decide)).1
            have kp11 : gI σ92 o 4 = gI τ12 o 4 := (cσ92.O (ko.up xτ12) (by decide)).1
            have kp12 : gP σ92 t 3 = gP τ12 t 3 := (cσ92.O (kt.up xτ12) (by decide)).2.1
            have kp13 : gI σ92 th 4 = gI τ12 th 4 := (cσ92.O (kth.up xτ12) (by decide)).1
            obtain ⟨r9, eL9, hb9, n9a, n9b⟩ := cut_r (N0 := 0) eB pσ92
            intro tyt
            have q14 := I_11_4 iσ92.1 (kth.up (xτ12.trans xσ92))
            refine ⟨by (first | omega | with_reducible assumption | with_reducible exact rng_toInt _ | with_reducible exact rng_wr _ | (unfold rng; omega) | (unfold rng at *; omega) | assumption), ?_⟩
            intro σ95 eσ95
            have xσ95 : Ext σ92 σ95 := by rw [eσ95]; exact fun _ h => ⟨h, rfl, rfl⟩
            have iσ95 : IV σ95 pl gq ci gr nc ot LLσ92 Nσ92 nuσ92 := by rw [eσ95]; exact iσ92.rec4 (kth.up (xτ12.trans xσ92)) (by omega) (by omega) (by omega)
            have fσ95 : Fx [1, 2, 4, 5, 64, 512, 513, 514, 708, 6464] gr σ σ95 := fσ92.tr (Sk.fx (by rw [eσ95]; exact Sk.pI (by rw [fcdO (kth.up (xτ12.trans xσ92)) (by decide)]; decide)))
            have wσ95 : gI σ95 th 4 = (gI σ92 th 4 - 1) := by rw [eσ95]; exact up2_s _ _ _ _
            have kp15 : gI σ95 b_1 2 = gI σ92 b_1 2 := by rw [eσ95]; exact up2_n _ _ (fun q => absurd q.2 (by decide))
            have kp16 : gI σ95 o 4 = gI σ92 o 4 := by rw [eσ95]; exact up2_n _ _ (fun q => absurd q.1 (kO.ne (ko.up (xτ12.trans xσ92)) (kth.up (xτ12.trans xσ92)) (by decide)))
            have kp17 : gP σ95 t 3 = gP σ92 t 3 := by rw [eσ95]
            refine ⟨c, hv3, fun kk_c_1 => ?_⟩
            refine ⟨b_1, eb_1, fun kk_b_1_2 => ?_⟩
            intro σ98 eσ98
            have xσ98 : Ext σ95 σ98 := by rw [eσ98]; exact fun _ h => ⟨h, rfl, rfl⟩
            have iσ98 : IV σ98 pl gq ci gr nc ot LLσ92 Nσ92 nuσ92 := by rw [eσ98]; exact iσ95.wT (kk_b_1.up (xσ92.trans xσ95)) (by decide) (iσ95.t5 (kc.up (xτ12.trans (xσ92.trans xσ95))))
            have fσ98 : Fx [1, 2, 4, 5, 64, 512, 513, 514, 708, 6464] gr σ σ98 := fσ95.tr (Sk.fx (by rw [eσ98]; exact Sk.pJ (by rw [fcdO (kk_b_1.up (xσ92.trans xσ95)) (by decide)]; decide)))
            have kp18 : gI σ98 b_1 2 = gI σ95 b_1 2 := by rw [eσ98]
            have kp19 : gI σ98 o 4 = gI σ95 o 4 := by rw [eσ98]
            have kp20 : gI σ98 th 4 = gI σ95 th 4 := by rw [eσ98]
            have kp21 : gP σ98 t 3 = gP σ95 t 3 := by rw [eσ98]
            obtain ⟨b_2, eb_2, fb_2⟩ := P_0_0 iσ98.1 (kk_b_1.up (xσ92.trans (xσ95.trans xσ98)))
            have mb_2 : kO σ98 b_2 101 := iσ98.1.kd (kk_b_1.up (xσ92.trans (xσ95.trans xσ98))) rfl eb_2 rfl
            refine ⟨b_2, eb_2, fun kk_b_2_1 => ?_⟩
            refine ⟨⟨by (first | omega | with_reducible assumption | with_reducible exact rng_toInt _ | with_reducible exact rng_wr _ | (unfold rng; omega) | (unfold rng at *; omega) | assumption), by (first | omega | with_reducible assumption | with_reducible exact rng_toInt _ | with_reducible exact rng_wr _ | (unfold rng; omega) | (unfold rng at *; omega) | assumption)⟩, ?_⟩
            intro σ100 eσ100
            have xσ100 : Ext σ98 σ100 := by rw [eσ100]; exact fun _ h => ⟨h, rfl, rfl⟩
            have iσ100 : IV σ100 pl gq ci gr nc ot LLσ92 Nσ92 nuσ92 := by rw [eσ100]; exact iσ98.wL mb_2 (by omega)
            have fσ100 : Fx [1, 2, 4, 5, 64, 512, 513, 514, 708, 6464] gr σ σ100 := fσ98.tr (Sk.fx (by rw [eσ100]; exact Sk.pJ (by rw [fcdA mb_2 (by decide)]; decide)))
            have kp22 : gI σ100 b_1 2 = gI σ98 b_1 2 := by rw [eσ100]
            have kp23 : gI σ100 o 4 = gI σ98 o 4 := by rw [eσ100]
            have kp24 : gI σ100 th 4 = gI σ98 th 4 := by rw [eσ100]
            have kp25 : gP σ100 b_1 0 = gP σ98 b_1 0 := by rw [eσ100]
            have kp26 : gP σ100 t 3 = gP σ98 t 3 := by rw [eσ100]
            refine ⟨b_2, (kp25.trans eb_2), fun kk_b_2_2 => ?_⟩
            have q27 := (xσ100 b_2 mb_2.1).2.2
            refine ⟨⟨by (first | omega | with_reducible assumption | with_reducible exact rng_toInt _ | with_reducible exact rng_wr _ | (unfold rng; omega) | (unfold rng at *; omega) | assumption), by (first | omega | with_reducible assumption | with_reducible exact rng_toInt _ | with_reducible exact rng_wr _ | (unfold rng; omega) | (unfold rng at *; omega) | assumption)⟩, ?_⟩
            intro σ102 eσ102
            have xσ102 : Ext σ100 σ102 := by rw [eσ102]; exact fun _ h => ⟨h, rfl, rfl⟩
            have iσ102 : IV σ102 pl gq ci gr nc ot LLσ92 Nσ92 nuσ92 := by rw [eσ102]; exact iσ100.wL (mb_2.up xσ100) (by omega)
            have fσ102 : Fx [1, 2, 4, 5, 64, 512, 513, 514, 708, 6464] gr σ σ102 := fσ100.tr (Sk.fx (by rw [eσ102]; exact Sk.pJ (by rw [fcdA (mb_2.up xσ100) (by decide)]; decide)))
            have kp28 : gI σ102 b_1 2 = gI σ100 b_1 2 := by rw [eσ102]
            have kp29 : gI σ102 o 4 = gI σ100 o 4 := by rw [eσ102]
            have kp30 : gI σ102 th 4 = gI σ100 th 4 := by rw [eσ102]
            have kp31 : gP σ102 b_1 0 = gP σ100 b_1 0 := by rw [eσ102]
            have kp32 : gP σ102 t 3 = gP σ100 t 3 := by rw [eσ102]
            refine ⟨b_2, (kp31.trans (kp25.trans eb_2)), fun kk_b_2_3 => ?_⟩
            have q33 := ((xσ100.trans xσ102) b_2 mb_2.1).2.2
            refine ⟨⟨by (first | omega | with_reducible assumption | with_reducible exact rng_toInt _ | with_reducible exact rng_wr _ | (unfold rng; omega) | (unfold rng at *; omega) | assumption), by (first | omega | with_reducible assumption | with_reducible exact rng_toInt _ | with_reducible exact rng_wr _ | (unfold rng; omega) | (unfold rng at *; omega) | assumption)⟩, ?_⟩
            intro σ104 eσ104
            have xσ104 : Ext σ102 σ104 := by rw [eσ104]; exact fun _ h => ⟨h, rfl, rfl⟩
            have iσ104 : IV σ104 pl gq ci gr nc ot LLσ92 Nσ92 nuσ92 := by rw [eσ104]; exact iσ102.wL (mb_2.up (xσ100.trans xσ102)) (by omega)
            have fσ104 : Fx [1, 2, 4, 5, 64, 512, 513, 514, 708, 6464] gr σ σ104 := fσ102.tr (Sk.fx (by rw [eσ104]; exact Sk.pJ (by rw [fcdA (mb_2.up (xσ100.trans xσ102)) (by decide)]; decide)))
            have kp34 : gI σ104 b_1 2 = gI σ102 b_1 2 := by rw [eσ104]
            have kp35 : gI σ104 o 4 = gI σ102 o 4 := by rw [eσ104]
            have kp36 : gI σ104 th 4 = gI σ102 th 4 := by rw [eσ104]
            have kp37 : gP σ104 b_1 0 = gP σ102 b_1 0 := by rw [eσ104]
            have kp38 : gP σ104 t 3 = gP σ102 t 3 := by rw [eσ104]
            obtain ⟨b_3, eb_3, fb_3⟩ := P_11_2 iσ104.1 (kth.up (xτ12.trans (xσ92.trans (xσ95.trans (xσ98.trans (xσ100.trans (xσ102.trans xσ104)))))))
            have mb_3 : kO σ104 b_3 1 := iσ104.1.kd (kth.up (xτ12.trans (xσ92.trans (xσ95.trans (xσ98.trans (xσ100.trans (xσ102.trans xσ104))))))) rfl eb_3 rfl
            refine ⟨b_3, eb_3, fun kk_b_3 => ?_⟩
            refine i_X1_add (G0 := 44) iσ104 mb_3 eb_1 (kk_b_1.up (xσ92.trans (xσ95.trans (xσ98.trans (xσ100.trans (xσ102.trans xσ104)))))) (by omega) (by (first | omega | with_reducible assumption | with_reducible exact rng_toInt _ | with_reducible exact rng_wr _ | (unfold rng; omega) | (unfold rng at *; omega) | assumption)) (by (first | omega | with_reducible assumption | with_reducible exact rng_toInt _ | with_reducible exact rng_wr _ | (unfold rng; omega) | (unfold rng at *; omega) | assumption)) (plc_y (G := 44) (by omega) (by decide)) (no50 (by decide)) (no13 (by decide)) (fun N9 n1 _ => iσ104.2.2.1.made (by decide) n1) (fun σ105 LLσ105 Nσ105 nuσ105 _ iσ105 cσ105 uσ105 hσ105 pσ105 => ?_)
            intro xσ105
            have fσ105 : Fx [1, 2, 4, 5, 64, 512, 513, 514, 708, 6464] gr σ σ105 := fσ104.tr (cσ105.mo (by decide))
            have hnσ105 : Hn (gD σ) [44, 42] [] gq LL LLσ105 N Nσ105 := hnσ92.go hσ105 (fun d hd => (fσ104.1 d hd).1) (by first | decide | exact fun _ h => h | (simp; done) | (intro x hx; simp only [List.mem_cons, List.mem_nil_iff, or_false] at hx ⊢; omega)) (fun d hd => by rw [List.mem_singleton.mp hd]; exact lo_b_1)
            have hg_c_σ105 : ∀ x, c ∉ LLσ105 x := hσ105.2.1 c (kc.up (xτ12.trans (xσ92.trans (xσ95.trans (xσ98.trans (xσ100.trans (xσ102.trans xσ104))))))).1 (by simp only [List.mem_cons, List.mem_nil_iff, or_false, not_or]; first | omega | (exact fun q => absurd q.symm (by assumption))) hg_c_σ92
            have nσ105_3 := hσ105.2.2 3 (by first | decide | (simp; done) | (simp only [List.mem_cons, List.mem_nil_iff, or_false, not_or]; omega)) (by first | decide | omega) (by first | decide | omega) (by first | decide | omega)
            have nσ105_5 := hσ105.2.2 5 (by first | decide | (simp; done) | (simp only [List.mem_cons, List.mem_nil_iff, or_false, not_or]; omega)) (by first | decide | omega) (by first | decide | omega) (by first | decide | omega)
            have nσ105_14 := hσ105.2.2 14 (by first | decide | (simp; done) | (simp only [List.mem_cons, List.mem_nil_iff, or_false, not_or]; omega)) (by first | decide | omega) (by first | decide | omega) (by first | decide | omega)
            have nσ105_74 := hσ105.2.2 74 (by first | decide | (simp; done) | (simp only [List.mem_cons, List.mem_nil_iff, or_false, not_or]; omega)) (by first | decide | omega) (by first | decide | omega) (by first | decide | omega)
            have nσ105_11 := hσ105.2.2 11 (by first | decide | (simp; done) | (simp only [List.mem_cons, List.mem_nil_iff, or_false, not_or]; omega)) (by first | decide | omega) (by first | decide | omega) (by first | decide | omega)
            have nσ105_12 := hσ105.2.2 12 (by first | decide | (simp; done) | (simp only [List.mem_cons, List.mem_nil_iff, or_false, not_or]; omega)) (by first | decide | omega) (by first | decide | omega) (by first | decide | omega)
            have nσ105_41 := hσ105.2.2 41 (by first | decide | (simp; done) | (simp only [List.mem_cons, List.mem_nil_iff, or_false, not_or]; omega)) (by first | decide | omega) (by first | decide | omega) (by first | decide | omega)
            have nσ105_42 := hσ105.2.2 42 (by first | decide | (simp; done) | (simp only [List.mem_cons, List.mem_nil_iff, or_false, not_or]; omega)) (by first | decide | omega) (by first | decide | omega) (by first | decide | omega)
            have nσ105_13 := hσ105.2.2 13 (by first | decide | (simp; done) | (simp only [List.mem_cons, List.mem_nil_iff, or_false, not_or]; omega)) (by first | decide | omega) (by first | decide | omega) (by first | decide | omega)
            have nu_σ105 : NU nu nuσ105 := nu_σ92.tr uσ105
            have uσ105_0 := uσ105.1 0 (by decide)
            have uσ105_1 := uσ105.1 1 (by decide)
            have uσ105_2 := uσ105.2
            have uσ105_5 := uσ105.1 5 (by decide)
            have uσ105_15 := uσ105.1 15 (by decide)
            have uσ105_16 := uσ105.1 16 (by decide)
            have kp39 : gI σ105 b_1 2 = gI σ104 b_1 2 := (cσ105.O (kk_b_1.up (xσ92.trans (xσ95.trans (xσ98.trans (xσ100.trans (xσ102.trans xσ104)))))) (by decide)).1
            have kp40 : gI σ105 o 4 = gI σ104 o 4 := (cσ105.O (ko.up (xτ12.trans (xσ92.trans (xσ95.trans (xσ98.trans (xσ100.trans (xσ102.trans xσ104))))))) (by decide)).1
            have kp41 : gI σ105 th 4 = gI σ104 th 4 := (cσ105.O (kth.up (xτ12.trans (xσ92.trans (xσ95.trans (xσ98.trans (xσ100.trans (xσ102.trans xσ104))))))) (by decide)).1
            have kp42 : gP σ105 b_1 0 = gP σ104 b_1 0 := (cσ105.O (kk_b_1.up (xσ92.trans (xσ95.trans (xσ98.trans (xσ100.trans (xσ102.trans xσ104)))))) (by decide)).2.1
            have kp43 : gP σ105 t 3 = gP σ104 t 3 := (cσ105.O (kt.up (xτ12.trans (xσ92.trans (xσ95.trans (xσ98.trans (xσ100.trans (xσ102.trans xσ104))))))) (by decide)).2.1
            have kp44 : gP σ105 th 2 = gP σ104 th 2 := (cσ105.O (kth.up (xτ12.trans (xσ92.trans (xσ95.trans (xσ98.trans (xσ100.trans (xσ102.trans xσ104))))))) (by decide)).2.1
            have hLi := hσ105.1 b (mb.up (xτ12.trans (xσ92.trans (xσ95.trans (xσ98.trans (xσ100.trans (xσ102.trans xσ104))))))).1 (by first | (simp; done) | (simp only [List.mem_cons, List.mem_nil_iff, or_false, not_or]; omega)) (by omega)
            unfold w_X11_goOnBy_242
            exact ih12 σ105 LLσ105 Nσ105 nuσ105 v4 (gP τ12 b_1 1) iσ105 fσ105 (xτ12.trans (xσ92.trans (xσ95.trans (xσ98.trans (xσ100.trans (xσ102.trans (xσ104.trans xσ105))))))) nu_σ105 hnσ105 hg_c_σ105 (by first | exact ⟨A1, B1, ⟨⟨p1, p2⟩, by rw [p4]; assumption, by omega, by omega⟩, by omega⟩ | exact ⟨A, B2, ⟨⟨by rw [hLd, eB]; rfl, nx2⟩, hi12.2.1, by omega, by omega⟩, by omega⟩ | exact ⟨A, B2, ⟨⟨by rw [hLi, eL9]; exact up1_s _ _ _, nx2⟩, hi12.2.1, by omega, by omega⟩, by omega⟩)
        · rw [if_neg hc3]
          have hc3q := Classical.not_not.mp hc3
          unfold w_X11_goOnBy_37
          unfold w_X11_goOnBy_42
          rw [if_neg (by decide)]
          unfold w_X11_goOnBy_49
          refine ⟨c, hv3, fun kk_c_2 => ?_⟩
          refine ⟨b_1, eb_1, fun kk_b_1_3 => ?_⟩
          refine ⟨o, hv1, fun kk_o_1 => ?_⟩
          have q47 := I_5_16 iτ12.1 (ko.up xτ12)
          by_cases hc46 : (gJ τ12 c 5 - gJ τ12 b_1 6) ≤ (Int64.ofInt (gI τ12 o 16))
          · rw [if_pos hc46]
            unfold w_X11_goOnBy_72
            unfold w_X11_goOnBy_73
            rw [if_neg (by decide)]
            unfold w_X11_goOnBy_80
            rw [if_neg (by decide)]
            unfold w_X11_goOnBy_85
            refine ⟨c, hv3, fun kk_c_3 => ?_⟩
            refine ⟨b_1, eb_1, fun kk_b_1_4 => ?_⟩
            have q52 := iτ12.rg c 2; unfold rng at q52
            have q53 := iτ12.rg b_1 2; unfold rng at q53
            by_cases hc50 : (andI (shrI (gI τ12 c 2) (gI τ12 b_1 2)) 1) = 0
            · rw [if_pos hc50]
              unfold w_X11_goOnBy_132
              rw [if_pos (by decide)]
              unfold w_X11_goOnBy_150
              refine ⟨b_1, eb_1, fun kk_b_1_5 => ?_⟩
              refine ⟨o, hv1, fun kk_o_2 => ?_⟩
              have q56 := I_5_4 iτ12.1 (ko.up xτ12)
              by_cases hc55 : gI τ12 b_1 2 ≠ gI τ12 o 4
              · rw [if_pos hc55]
                unfold w_X11_goOnBy_238
                unfold w_X11_goOnBy_242
                exact ih12 τ12 LLt12 Nt12 nut12 v5 (gP τ12 b_1 1) iτ12 fτ12 xτ12 nu_τ12 hnτ12 hg_c_τ12 (by first | exact ⟨A1, B1, ⟨⟨p1, p2⟩, by rw [p4]; assumption, by omega, by omega⟩, by omega⟩ | exact ⟨A, B2, ⟨⟨by rw [hLd, eB]; rfl, nx2⟩, hi12.2.1, by omega, by omega⟩, by omega⟩ | exact ⟨A, B2, ⟨⟨by rw [hLi, eL9]; exact up1_s _ _ _, nx2⟩, hi12.2.1, by omega, by omega⟩, by omega⟩)
              · rw [if_neg hc55]
                have hc55q := Classical.not_not.mp hc55
                unfold w_X11_goOnBy_162
                refine ⟨t, hv2, fun kk_t_2 => ?_⟩
                refine ⟨b, (kp1.trans eb), fun kk_b_4 => ?_⟩
                have lo_b_1 : Lo [] (gD σ) LL b_1 := hnτ12.loc (fun d hd => (fτ12.1 d hd).1) (Or.inr ⟨b, it_mem hi12.1 eb_1⟩)
                refine i_X1_cutBehind (G0 := 42) (A := A) (B := B) iτ12 (mb.up xτ12) (by omega) hi12.1.1 hi12.2.1 (fun σ92_1 LLσ92_1 Nσ92_1 nuσ92_1 r93_1 iσ92_1 cσ92_1 uσ92_1 hσ92_1 pσ92_1 => ?_)
                intro xσ92_1
                have fσ92_1 : Fx [1, 2, 4, 5, 64, 512, 513, 514, 708, 6464] gr σ σ92_1 := fτ12.tr (cσ92_1.mo (by decide))
                have hnσ92_1 : Hn (gD σ) [44, 42] [] gq LL LLσ92_1 N Nσ92_1 := hnτ12.go hσ92_1 (fun d hd => (fτ12.1 d hd).1) (by first | decide | exact fun _ h => h | (simp; done) | (intro x hx; simp only [List.mem_cons, List.mem_nil_iff, or_false] at hx ⊢; omega)) (fun d hd => absurd hd (by simp))
                have hg_c_σ92_1 : ∀ x, c ∉ LLσ92_1 x := hσ92_1.2.1 c (kc.up xτ12).1 (by simp) hg_c_τ12
                have nσ92_1_3 := hσ92_1.2.2 3 (by first | decide | (simp; done) | (simp only [List.mem_cons, List.mem_nil_iff, or_false, not_or]; omega)) (by first | decide | omega) (by first | decide | omega) (by first | decide | omega)
                have nσ92_1_5 := hσ92_1.2.2 5 (by first | decide | (simp; done) | (simp only [List.mem_cons, List.mem_nil_iff, or_false, not_or]; omega)) (by first | decide | omega) (by first | decide | omega) (by first | decide | omega)
                have nσ92_1_14 := hσ92_1.2.2 14 (by first | decide | (simp; done) | (simp only [List.mem_cons, List.mem_nil_iff, or_false, not_or]; omega)) (by first | decide | omega) (by first | decide | omega) (by first | decide | omega)
                have nσ92_1_44 := hσ92_1.2.2 44 (by first | decide | (simp; done) | (simp only [List.mem_cons, List.mem_nil_iff, or_false, not_or]; omega)) (by first | decide | omega) (by first | decide | omega) (by first | decide | omega)
                have nσ92_1_74 := hσ92_1.2.2 74 (by first | decide | (simp; done) | (simp only [List.mem_cons, List.mem_nil_iff, or_false, not_or]; omega)) (by first | decide | omega) (by first | decide | omega) (by first | decide | omega)
                have nσ92_1_11 := hσ92_1.2.2 11 (by first | decide | (simp; done) | (simp only [List.mem_cons, List.mem_nil_iff, or_false, not_or]; omega)) (by first | decide | omega) (by first | decide | omega) (by first | decide | omega)
                have nσ92_1_12 := hσ92_1.2.2 12 (by first | decide | (simp; done) | (simp only [List.mem_cons, List.mem_nil_iff, or_false, not_or]; omega)) (by first | decide | omega) (by first | decide | omega) (by first | decide | omega)
                have nσ92_1_41 := hσ92_1.2.2 41 (by first | decide | (simp; done) | (simp only [List.mem_cons, List.mem_nil_iff, or_false, not_or]; omega)) (by first | decide | omega) (by first | decide | omega) (by first | decide | omega)
                have nσ92_1_13 := hσ92_1.2.2 13 (by first | decide | (simp; done) | (simp only [List.mem_cons, List.mem_nil_iff, or_false, not_or]; omega)) (by first | decide | omega) (by first | decide | omega) (by first | decide | omega)
                have nu_σ92_1 : NU nu nuσ92_1 := nu_τ12.tr uσ92_1
                have uσ92_1_0 := uσ92_1.1 0 (by decide)
                have uσ92_1_1 := uσ92_1.1 1 (by decide)
                have uσ92_1_2 := uσ92_1.2
                have uσ92_1_5 := uσ92_1.1 5 (by decide)
                have uσ92_1_15 := uσ92_1.1 15 (by decide)
                have uσ92_1_16 := uσ92_1.1 16 (by decide)
                have kp57 : gI σ92_1 b_1 2 = gI τ12 b_1 2 := (cσ92_1.O kk_b_1 (by decide)).1
                have kp58 : gI σ92_1 c 2 = gI τ12 c 2 := (cσ92_1.O (kc.up xτ12) (by decide)).1
                have kp59 : gI σ92_1 o 16 = gI τ12 o 16 := (cσ92_1.O (ko.up xτ12) (by decide)).1
                have kp60 : gI σ92_1 o 4 = gI τ12 o 4 := (cσ92_1.O (ko.up xτ12) (by decide)).1
                have kp61 : gP σ92_1 t 3 = gP τ12 t 3 := (cσ92_1.O (kt.up xτ12) (by decide)).2.1
                have kp62 : gI σ92_1 th 4 = gI τ12 th 4 := (cσ92_1.O (kth.up xτ12) (by decide)).1
                obtain ⟨r9, eL9, hb9, n9a, n9b⟩ := cut_r (N0 := 0) eB pσ92_1
                intro tyt_1
                have q63 := I_11_4 iσ92_1.1 (kth.up (xτ12.trans xσ92_1))
                refine ⟨by (first | omega | with_reducible assumption | with_reducible exact rng_toInt _ | with_reducible exact rng_wr _ | (unfold rng; omega) | (unfold rng at *; omega) | assumption), ?_⟩
                intro σ95_1 eσ95_1
                have xσ95_1 : Ext σ92_1 σ95_1 := by rw [eσ95_1]; exact fun _ h => ⟨h, rfl, rfl⟩
                have iσ95_1 : IV σ95_1 pl gq ci gr nc ot LLσ92_1 Nσ92_1 nuσ92_1 := by rw [eσ95_1]; exact iσ92_1.rec4 (kth.up (xτ12.trans xσ92_1)) (by omega) (by omega) (by omega)
                have fσ95_1 : Fx [1, 2, 4, 5, 64, 512, 513, 514, 708, 6464] gr σ σ95_1 := fσ92_1.tr (Sk.fx (by rw [eσ95_1]; exact Sk.pI (by rw [fcdO (kth.up (xτ12.trans xσ92_1)) (by decide)]; decide)))
                have wσ95_1 : gI σ95_1 th 4 = (gI σ92_1 th 4 - 1) := by rw [eσ95_1]; exact up2_s _ _ _ _
                have kp64 : gI σ95_1 b_1 2 = gI σ92_1 b_1 2 := by rw [eσ95_1]; exact up2_n _ _ (fun q => absurd q.2 (by decide))
                have kp65 : gI σ95_1 c 2 = gI σ92_1 c 2 := by rw [eσ95_1]; exact up2_n _ _ (fun q => absurd q.2 (by decide))
                have kp66 : gI σ95_1 o 16 = gI σ92_1 o 16 := by rw [eσ95_1]; exact up2_n _ _ (fun q => absurd q.2 (by decide))
                have kp67 : gI σ95_1 o 4 = gI σ92_1 o 4 := by rw [eσ95_1]; exact up2_n _ _ (fun q => absurd q.1 (kO.ne (ko.up (xτ12.trans xσ92_1)) (kth.up (xτ12.trans xσ92_1)) (by decide)))
                have kp68 : gP σ95_1 t 3 = gP σ92_1 t 3 := by rw [eσ95_1]
                refine ⟨c, hv3, fun kk_c_4 => ?_⟩
                refine ⟨b_1, eb_1, fun kk_b_1_6 => ?_⟩
                intro σ98_1 eσ98_1
                have xσ98_1 : Ext σ95_1 σ98_1 := by rw [eσ98_1]; exact fun _ h => ⟨h, rfl, rfl⟩
                have iσ98_1 : IV σ98_1 pl gq ci gr nc ot LLσ92_1 Nσ92_1 nuσ92_1 := by rw [eσ98_1]; exact iσ95_1.wT (kk_b_1.up (xσ92_1.trans xσ95_1)) (by decide) (iσ95_1.t5 (kc.up (xτ12.trans (xσ92_1.trans xσ95_1))))
                have fσ98_1 : Fx [1, 2, 4, 5, 64, 512, 513, 514, 708, 6464] gr σ σ98_1 := fσ95_1.tr (Sk.fx (by rw [eσ98_1]; exact Sk.pJ (by rw [fcdO (kk_b_1.up (xσ92_1.trans xσ95_1)) (by decide)]; decide)))
                have kp69 : gI σ98_1 b_1 2 = gI σ95_1 b_1 2 := by rw [eσ98_1]
                have kp70 : gI σ98_1 c 2 = gI σ95_1 c 2 := by rw [eσ98_1]
                have kp71 : gI σ98_1 o 16 = gI σ95_1 o 16 := by rw [eσ98_1]
                have kp72 : gI σ98_1 o 4 = gI σ95_1 o 4 := by rw [eσ98_1]
                have kp73 : gI σ98_1 th 4 = gI σ95_1 th 4 := by rw [eσ98_1]
                have kp74 : gP σ98_1 t 3 = gP σ95_1 t 3 := by rw [eσ98_1]
                obtain ⟨b_4, eb_4, fb_4⟩ := P_0_0 iσ98_1.1 (kk_b_1.up (xσ92_1.trans (xσ95_1.trans xσ98_1)))
                have mb_4 : kO σ98_1 b_4 101 := iσ98_1.1.kd (kk_b_1.up (xσ92_1.trans (xσ95_1.trans xσ98_1))) rfl eb_4 rfl
                refine ⟨b_4, eb_4, fun kk_b_4_1 => ?_⟩
                refine ⟨⟨by (first | omega | with_reducible assumption | with_reducible exact rng_toInt _ | with_reducible exact rng_wr _ | (unfold rng; omega) | (unfold rng at *; omega) | assumption), by (first | omega | with_reducible assumption | with_reducible exact rng_toInt _ | with_reducible exact rng_wr _ | (unfold rng; omega) | (unfold rng at *; omega) | assumption)⟩, ?_⟩
                intro σ100_1 eσ100_1
                have xσ100_1 : Ext σ98_1 σ100_1 := by rw [eσ100_1]; exact fun _ h => ⟨h, rfl, rfl⟩
                have iσ100_1 : IV σ100_1 pl gq ci gr nc ot LLσ92_1 Nσ92_1 nuσ92_1 := by rw [eσ100_1]; exact iσ98_1.wL mb_4 (by omega)
                have fσ100_1 : Fx [1, 2, 4, 5, 64, 512, 513, 514, 708, 6464] gr σ σ100_1 := fσ98_1.tr (Sk.fx (by rw [eσ100_1]; exact Sk.pJ (by rw [fcdA mb_4 (by decide)]; decide)))
                have kp75 : gI σ100_1 b_1 2 = gI σ98_1 b_1 2 := by rw [eσ100_1]
                have kp76 : gI σ100_1 c 2 = gI σ98_1 c 2 := by rw [eσ100_1]
                have kp77 : gI σ100_1 o 16 = gI σ98_1 o 16 := by rw [eσ100_1]
                have kp78 : gI σ100_1 o 4 = gI σ98_1 o 4 := by rw [eσ100_1]
                have kp79 : gI σ100_1 th 4 = gI σ98_1 th 4 := by rw [eσ100_1]
                have kp80 : gP σ100_1 b_1 0 = gP σ98_1 b_1 0 := by rw [eσ100_1]
                have kp81 : gP σ100_1 t 3 = gP σ98_1 t 3 := by rw [eσ100_1]
                refine ⟨b_4, (kp80.trans eb_4), fun kk_b_4_2 => ?_⟩
                have q82 := (xσ100_1 b_4 mb_4.1).2.2
                refine ⟨⟨by (first | omega | with_reducible assumption | with_reducible exact rng_toInt _ | with_reducible exact rng_wr _ | (unfold rng; omega) | (unfold rng at *; omega) | assumption), by (first | omega | with_reducible assumption | with_reducible exact rng_toInt _ | with_reducible exact rng_wr _ | (unfold rng; omega) | (unfold rng at *; omega) | assumption)⟩, ?_⟩
                intro σ102_1 eσ102_1
                have xσ102_1 : Ext σ100_1 σ102_1 := by rw [eσ102_1]; exact fun _ h => ⟨h, rfl, rfl⟩
                have iσ102_1 : IV σ102_1 pl gq ci gr nc ot LLσ92_1 Nσ92_1 nuσ92_1 := by rw [eσ102_1]; exact iσ100_1.wL (mb_4.up xσ100_1) (by omega)
                have fσ102_1 : Fx [1, 2, 4, 5, 64, 512, 513, 514, 708, 6464] gr σ σ102_1 := fσ100_1.tr (Sk.fx (by rw [eσ102_1]; exact Sk.pJ (by rw [fcdA (mb_4.up xσ100_1) (by decide)]; decide)))
                have kp83 : gI σ102_1 b_1 2 = gI σ100_1 b_1 2 := by rw [eσ102_1]
                have kp84 : gI σ102_1 c 2 = gI σ100_1 c 2 := by rw [eσ102_1]
                have kp85 : gI σ102_1 o 16 = gI σ100_1 o 16 := by rw [eσ102_1]
                have kp86 : gI σ102_1 o 4 = gI σ100_1 o 4 := by rw [eσ102_1]
                have kp87 : gI σ102_1 th 4 = gI σ100_1 th 4 := by rw [eσ102_1]
                have kp88 : gP σ102_1 b_1 0 = gP σ100_1 b_1 0 := by rw [eσ102_1]
                have kp89 : gP σ102_1 t 3 = gP σ100_1 t 3 := by rw [eσ102_1]
                refine ⟨b_4, (kp88.trans (kp80.trans eb_4)), fun kk_b_4_3 => ?_⟩
                have q90 := ((xσ100_1.trans xσ102_1) b_4 mb_4.1).2.2
                refine ⟨⟨by (first | omega | with_reducible assumption | with_reducible exact rng_toInt _ | with_reducible exact rng_wr _ | (unfold rng; omega) | (unfold rng at *; omega) | assumption), by (first | omega | with_reducible assumption | with_reducible exact rng_toInt _ | with_reducible exact rng_wr _ | (unfold rng; omega) | (unfold rng at *; omega) | assumption)⟩, ?_⟩
                intro σ104_1 eσ104_1
                have xσ104_1 : Ext σ102_1 σ104_1 := by rw [eσ104_1]; exact fun _ h => ⟨h, rfl, rfl⟩
                have iσ104_1 : IV σ104_1 pl gq ci gr nc ot LLσ92_1 Nσ92_1 nuσ92_1 := by rw [eσ104_1]; exact iσ102_1.wL (mb_4.up (xσ100_1.trans xσ102_1)) (by omega)
                have fσ104_1 : Fx [1, 2, 4, 5, 64, 512, 513, 514, 708, 6464] gr σ σ104_1 := fσ102_1.tr (Sk.fx (by rw [eσ104_1]; exact Sk.pJ (by rw [fcdA (mb_4.up (xσ100_1.trans xσ102_1)) (by decide)]; decide)))
                have kp91 : gI σ104_1 b_1 2 = gI σ102_1 b_1 2 := by rw [eσ104_1]
                have kp92 : gI σ104_1 c 2 = gI σ102_1 c 2 := by rw [eσ104_1]
                have kp93 : gI σ104_1 o 16 = gI σ102_1 o 16 := by rw [eσ104_1]
                have kp94 : gI σ104_1 o 4 = gI σ102_1 o 4 := by rw [eσ104_1]
                have kp95 : gI σ104_1 th 4 = gI σ102_1 th 4 := by rw [eσ104_1]
                have kp96 : gP σ104_1 b_1 0 = gP σ102_1 b_1 0 := by rw [eσ104_1]
                have kp97 : gP σ104_1 t 3 = gP σ102_1 t 3 := by rw [eσ104_1]
                obtain ⟨b_5, eb_5, fb_5⟩ := P_11_2 iσ104_1.1 (kth.up (xτ12.trans (xσ92_1.trans (xσ95_1.trans (xσ98_1.trans (xσ100_1.trans (xσ102_1.trans xσ104_1)))))))
                have mb_5 : kO σ104_1 b_5 1 := iσ104_1.1.kd (kth.up (xτ12.trans (xσ92_1.trans (xσ95_1.trans (xσ98_1.trans (xσ100_1.trans (xσ102_1.trans xσ104_1))))))) rfl eb_5 rfl
                refine ⟨b_5, eb_5, fun kk_b_5 => ?_⟩
                refine i_X1_add (G0 := 44) iσ104_1 mb_5 eb_1 (kk_b_1.up (xσ92_1.trans (xσ95_1.trans (xσ98_1.trans (xσ100_1.trans (xσ102_1.trans xσ104_1)))))) (by omega) (by (first | omega | with_reducible assumption | with_reducible exact rng_toInt _ | with_reducible exact rng_wr _ | (unfold rng; omega) | (unfold rng at *; omega) | assumption)) (by (first | omega | with_reducible assumption | with_reducible exact rng_toInt _ | with_reducible exact rng_wr _ | (unfold rng; omega) | (unfold rng at *; omega) | assumption)) (plc_y (G := 44) (by omega) (by decide)) (no50 (by decide)) (no13 (by decide)) (fun N9 n1 _ => iσ104_1.2.2.1.made (by decide) n1) (fun σ105_1 LLσ105_1 Nσ105_1 nuσ105_1 _ iσ105_1 cσ105_1 uσ105_1 hσ105_1 pσ105_1 => ?_)
                intro xσ105_1
                have fσ105_1 : Fx [1, 2, 4, 5, 64, 512, 513, 514, 708, 6464] gr σ σ105_1 := fσ104_1.tr (cσ105_1.mo (by decide))
                have hnσ105_1 : Hn (gD σ) [44, 42] [] gq LL LLσ105_1 N Nσ105_1 := hnσ92_1.go hσ105_1 (fun d hd => (fσ104_1.1 d hd).1) (by first | decide | exact fun _ h => h | (simp; done) | (intro x hx; simp only [List.mem_cons, List.mem_nil_iff, or_false] at hx ⊢; omega)) (fun d hd => by rw [List.mem_singleton.mp hd]; exact lo_b_1)
                have hg_c_σ105_1 : ∀ x, c ∉ LLσ105_1 x := hσ105_1.2.1 c (kc.up (xτ12.trans (xσ92_1.trans (xσ95_1.trans (xσ98_1.trans (xσ100_1.trans (xσ102_1.trans xσ104_1))))))).1 (by simp only [List.mem_cons, List.mem_nil_iff, or_false, not_or]; first | omega | (exact fun q => absurd q.symm (by assumption))) hg_c_σ92_1
                have nσ105_1_3 := hσ105_1.2.2 3 (by first | decide | (simp; done) | (simp only [List.mem_cons, List.mem_nil_iff, or_false, not_or]; omega)) (by first | decide | omega) (by first | decide | omega) (by first | decide | omega)
                have nσ105_1_5 := hσ105_1.2.2 5 (by first | decide | (simp; done) | (simp only [List.mem_cons, List.mem_nil_iff, or_false, not_or]; omega)) (by first | decide | omega) (by first | decide | omega) (by first | decide | omega)
                have nσ105_1_14 := hσ105_1.2.2 14 (by first | decide | (simp; done) | (simp only [List.mem_cons, List.mem_nil_iff, or_false, not_or]; omega)) (by first | decide | omega) (by first | decide | omega) (by first | decide | omega)
                have nσ105_1_74 := hσ105_1.2.2 74 (by first | decide | (simp; done) | (simp only [List.mem_cons, List.mem_nil_iff, or_false, not_or]; omega)) (by first | decide | omega) (by first | decide | omega) (by first | decide | omega)
                have nσ105_1_11 := hσ105_1.2.2 11 (by first | decide | (simp; done) | (simp only [List.mem_cons, List.mem_nil_iff, or_false, not_or]; omega)) (by first | decide | omega) (by first | decide | omega) (by first | decide | omega)
                have nσ105_1_12 := hσ105_1.2.2 12 (by first | decide | (simp; done) | (simp only [List.mem_cons, List.mem_nil_iff, or_false, not_or]; omega)) (by first | decide | omega) (by first | decide | omega) (by first | decide | omega)
                have nσ105_1_41 := hσ105_1.2.2 41 (by first | decide | (simp; done) | (simp only [List.mem_cons, List.mem_nil_iff, or_false, not_or]; omega)) (by first | decide | omega) (by first | decide | omega) (by first | decide | omega)
                have nσ105_1_42 := hσ105_1.2.2 42 (by first | decide | (simp; done) | (simp only [List.mem_cons, List.mem_nil_iff, or_false, not_or]; omega)) (by first | decide | omega) (by first | decide | omega) (by first | decide | omega)
                have nσ105_1_13 := hσ105_1.2.2 13 (by first | decide | (simp; done) | (simp only [List.mem_cons, List.mem_nil_iff, or_false, not_or]; omega)) (by first | decide | omega) (by first | decide | omega) (by first | decide | omega)
                have nu_σ105_1 : NU nu nuσ105_1 := nu_σ92_1.tr uσ105_1
                have uσ105_1_0 := uσ105_1.1 0 (by decide)
                have uσ105_1_1 := uσ105_1.1 1 (by decide)
                have uσ105_1_2 := uσ105_1.2
                have uσ105_1_5 := uσ105_1.1 5 (by decide)
                have uσ105_1_15 := uσ105_1.1 15 (by decide)
                have uσ105_1_16 := uσ105_1.1 16 (by decide)
                have kp98 : gI σ105_1 b_1 2 = gI σ104_1 b_1 2 := (cσ105_1.O (kk_b_1.up (xσ92_1.trans (xσ95_1.trans (xσ98_1.trans (xσ100_1.trans (xσ102_1.trans xσ104_1)))))) (by decide)).1
                have kp99 : gI σ105_1 c 2 = gI σ104_1 c 2 := (cσ105_1.O (kc.up (xτ12.trans (xσ92_1.trans (xσ95_1.trans (xσ98_1.trans (xσ100_1.trans (xσ102_1.trans xσ104_1))))))) (by decide)).1
                have kp100 : gI σ105_1 o 16 = gI σ104_1 o 16 := (cσ105_1.O (ko.up (xτ12.trans (xσ92_1.trans (xσ95_1.trans (xσ98_1.trans (xσ100_1.trans (xσ102_1.trans xσ104_1))))))) (by decide)).1
                have kp101 : gI σ105_1 o 4 = gI σ104_1 o 4 := (cσ105_1.O (ko.up (xτ12.trans (xσ92_1.trans (xσ95_1.trans (xσ98_1.trans (xσ100_1.trans (xσ102_1.trans xσ104_1))))))) (by decide)).1
                have kp102 : gI σ105_1 th 4 = gI σ104_1 th 4 := (cσ105_1.O (kth.up (xτ12.trans (xσ92_1.trans (xσ95_1.trans (xσ98_1.trans (xσ100_1.trans (xσ102_1.trans xσ104_1))))))) (by decide)).1
                have kp103 : gP σ105_1 b_1 0 = gP σ104_1 b_1 0 := (cσ105_1.O (kk_b_1.up (xσ92_1.trans (xσ95_1.trans (xσ98_1.trans (xσ100_1.trans (xσ102_1.trans xσ104_1)))))) (by decide)).2.1
                have kp104 : gP σ105_1 t 3 = gP σ104_1 t 3 := (cσ105_1.O (kt.up (xτ12.trans (xσ92_1.trans (xσ95_1.trans (xσ98_1.trans (xσ100_1.trans (xσ102_1.trans xσ104_1))))))) (by decide)).2.1
                have kp105 : gP σ105_1 th 2 = gP σ104_1 th 2 := (cσ105_1.O (kth.up (xτ12.trans (xσ92_1.trans (xσ95_1.trans (xσ98_1.trans (xσ100_1.trans (xσ102_1.trans xσ104_1))))))) (by decide)).2.1
                have hLi := hσ105_1.1 b (mb.up (xτ12.trans (xσ92_1.trans (xσ95_1.trans (xσ98_1.trans (xσ100_1.trans (xσ102_1.trans xσ104_1))))))).1 (by first | (simp; done) | (simp only [List.mem_cons, List.mem_nil_iff, or_false, not_or]; omega)) (by omega)
                unfold w_X11_goOnBy_242
                exact ih12 σ105_1 LLσ105_1 Nσ105_1 nuσ105_1 v4 (gP τ12 b_1 1) iσ105_1 fσ105_1 (xτ12.trans (xσ92_1.trans (xσ95_1.trans (xσ98_1.trans (xσ100_1.trans (xσ102_1.trans (xσ104_1.trans xσ105_1))))))) nu_σ105_1 hnσ105_1 hg_c_σ105_1 (by first | exact ⟨A1, B1, ⟨⟨p1, p2⟩, by rw [p4]; assumption, by omega, by omega⟩, by omega⟩ | exact ⟨A, B2, ⟨⟨by rw [hLd, eB]; rfl, nx2⟩, hi12.2.1, by omega, by omega⟩, by omega⟩ | exact ⟨A, B2, ⟨⟨by rw [hLi, eL9]; exact up1_s _ _ _, nx2⟩, hi12.2.1, by omega, by omega⟩, by omega⟩)
            · rw [if_neg hc50]
              unfold w_X11_goOnBy_100
              refine ⟨b_1, eb_1, fun kk_b_1_7 => ?_⟩
              intro σ81 eσ81
              have xσ81 : Ext τ12 σ81 := by rw [eσ81]; exact fun _ h => ⟨h, rfl, rfl⟩
              have iσ81 : IV σ81 pl gq ci gr nc ot LLt12 Nt12 nut12 := by rw [eσ81]; exact iτ12.wO kk_b_1 (by decide) (rngb (by first | exact rng_wr _ | (first | omega | with_reducible assumption | with_reducible exact rng_toInt _ | with_reducible exact rng_wr _ | (unfold rng; omega) | (unfold rng at *; omega) | assumption)))
              have fσ81 : Fx [1, 2, 4, 5, 64, 512, 513, 514, 708, 6464] gr σ σ81 := fτ12.tr (Sk.fx (by rw [eσ81]; exact Sk.pI (by rw [fcdO kk_b_1 (by decide)]; decide)))
              have wσ81 : gI σ81 b_1 2 = (wr (gI τ12 b_1 2 + 1)) := by rw [eσ81]; exact up2_s _ _ _ _
              have kp106 : gI σ81 o 16 = gI τ12 o 16 := by rw [eσ81]; exact up2_n _ _ (fun q => absurd q.2 (by decide))
              have kp107 : gP σ81 t 3 = gP τ12 t 3 := by rw [eσ81]
              have kp108 : gI σ81 th 4 = gI τ12 th 4 := by rw [eσ81]; exact up2_n _ _ (fun q => absurd q.2 (by decide))
              refine ⟨c, hv3, fun kk_c_5 => ?_⟩
              obtain ⟨b_6, eb_6⟩ := P_11_0 iσ81.1 (kth.up (xτ12.trans xσ81))
              refine ⟨b_6, eb_6, fun kk_b_6 => ?_⟩
              have q109 := I_0_4 iσ81.1 (kk_b_1.up xσ81)
              have q110 := I_0_4 iσ81.1 (kc.up (xτ12.trans xσ81))
              refine i_X8_together iσ81 kk_b_6 (by (first | omega | with_reducible assumption | with_reducible exact rng_toInt _ | with_reducible exact rng_wr _ | (unfold rng; omega) | (unfold rng at *; omega) | assumption)) (by (first | omega | with_reducible assumption | with_reducible exact rng_toInt _ | with_reducible exact rng_wr _ | (unfold rng; omega) | (unfold rng at *; omega) | assumption)) (by (first | omega | with_reducible assumption | with_reducible exact rng_toInt _ | with_reducible exact rng_wr _ | (unfold rng; omega) | (unfold rng at *; omega) | assumption)) (fun σ83 nuσ83 r84 iσ83 cσ83 uσ83 pσ83 => ?_) (fun σx LLx Nx nux E ix cx ux px => hX σx LLx Nx nux E ix (fσ81.tr (cx.mo (by decide))) (nu_τ12.x ux) (by first | exact px | exact ⟨by have := px.1; omega, (Hn.nz hnτ12 (by first | decide | (intro x hx; simp only [List.mem_cons, List.mem_nil_iff, or_false] at hx; omega))).tr px.2.1, px.2.2⟩ | (first | omega | with_reducible assumption | with_reducible exact rng_toInt _ | with_reducible exact rng_wr _ | (unfold rng; omega) | (unfold rng at *; omega) | assumption)))
              intro xσ83
              have fσ83 : Fx [1, 2, 4, 5, 64, 512, 513, 514, 708, 6464] gr σ σ83 := fσ81.tr (cσ83.mo (by decide))
              have nu_σ83 : NU nu nuσ83 := nu_τ12.tr uσ83
              have uσ83_0 := uσ83.1 0 (by decide)
              have uσ83_1 := uσ83.1 1 (by decide)
              have uσ83_2 := uσ83.2
              have uσ83_5 := uσ83.1 5 (by decide)
              have uσ83_15 := uσ83.1 15 (by decide)
              have uσ83_16 := uσ83.1 16 (by decide)
              have kp111 : gI σ83 b_1 2 = gI σ81 b_1 2 := (cσ83.O (kk_b_1.up xσ81) (by decide)).1
              have kp112 : gI σ83 b_1 4 = gI σ81 b_1 4 := (cσ83.O (kk_b_1.up xσ81) (by decide)).1
              have kp113 : gI σ83 c 4 = gI σ81 c 4 := (cσ83.O (kc.up (xτ12.trans xσ81)) (by decide)).1
              have kp114 : gI σ83 o 16 = gI σ81 o 16 := (cσ83.O (ko.up (xτ12.trans xσ81)) (by decide)).1
              have kp115 : gP σ83 t 3 = gP σ81 t 3 := (cσ83.O (kt.up (xτ12.trans xσ81)) (by decide)).2.1
              have kp116 : gP σ83 th 0 = gP σ81 th 0 := (cσ83.O (kth.up (xτ12.trans xσ81)) (by decide)).2.1
              have kp117 : gI σ83 th 4 = gI σ81 th 4 := (cσ83.O (kth.up (xτ12.trans xσ81)) (by decide)).1
              intro σ86 eσ86
              have xσ86 : Ext σ83 σ86 := by rw [eσ86]; exact fun _ h => ⟨h, rfl, rfl⟩
              have iσ86 : IV σ86 pl gq ci gr nc ot LLt12 Nt12 nuσ83 := by rw [eσ86]; exact iσ83.wO (kk_b_1.up (xσ81.trans xσ83)) (by decide) (show (-1 : Int) ≤ r84 ∧ r84 ≤ (nuσ83 2 : Int) - 1 from ⟨by (first | omega | with_reducible assumption | with_reducible exact rng_toInt _ | with_reducible exact rng_wr _ | (unfold rng; omega) | (unfold rng at *; omega) | assumption), by (first | omega | with_reducible assumption | with_reducible exact rng_toInt _ | with_reducible exact rng_wr _ | (unfold rng; omega) | (unfold rng at *; omega) | assumption)⟩)
              have fσ86 : Fx [1, 2, 4, 5, 64, 512, 513, 514, 708, 6464] gr σ σ86 := fσ83.tr (Sk.fx (by rw [eσ86]; exact Sk.pI (by rw [fcdO (kk_b_1.up (xσ81.trans xσ83)) (by decide)]; decide)))
              have wσ86 : gI σ86 b_1 4 = r84 := by rw [eσ86]; exact up2_s _ _ _ _
              have kp118 : gI σ86 b_1 2 = gI σ83 b_1 2 := by rw [eσ86]; exact up2_n _ _ (fun q => absurd q.2 (by decide))
              have kp119 : gI σ86 o 16 = gI σ83 o 16 := by rw [eσ86]; exact up2_n _ _ (fun q => absurd q.2 (by decide))
              have kp120 : gP σ86 t 3 = gP σ83 t 3 := by rw [eσ86]
              have kp121 : gP σ86 th 0 = gP σ83 th 0 := by rw [eσ86]
              have kp122 : gI σ86 th 4 = gI σ83 th 4 := by rw [eσ86]; exact up2_n _ _ (fun q => absurd q.1 (kO.ne (kth.up (xτ12.trans (xσ81.trans xσ83))) (kk_b_1.up (xσ81.trans xσ83)) (by decide)))
              unfold w_X11_goOnBy_132
              rw [if_pos (by decide)]
              unfold w_X11_goOnBy_150
              refine ⟨b_1, eb_1, fun kk_b_1_8 => ?_⟩
              refine ⟨o, hv1, fun kk_o_3 => ?_⟩
              have q125 := I_5_4 iσ86.1 (ko.up (xτ12.trans (xσ81.trans (xσ83.trans xσ86))))
              by_cases hc124 : gI σ86 b_1 2 ≠ gI σ86 o 4
              · rw [if_pos hc124]
                unfold w_X11_goOnBy_238
                unfold w_X11_goOnBy_242
                exact ih12 σ86 LLt12 Nt12 nuσ83 v5 (gP τ12 b_1 1) iσ86 fσ86 (xτ12.trans (xσ81.trans (xσ83.trans xσ86))) nu_σ83 hnτ12 hg_c_τ12 (by first | exact ⟨A1, B1, ⟨⟨p1, p2⟩, by rw [p4]; assumption, by omega, by omega⟩, by omega⟩ | exact ⟨A, B2, ⟨⟨by rw [hLd, eB]; rfl, nx2⟩, hi12.2.1, by omega, by omega⟩, by omega⟩ | exact ⟨A, B2, ⟨⟨by rw [hLi, eL9]; exact up1_s _ _ _, nx2⟩, hi12.2.1, by omega, by omega⟩, by omega⟩)
              · rw [if_neg hc124]
                have hc124q := Classical.not_not.mp hc124
                unfold w_X11_goOnBy_162
                refine ⟨t, hv2, fun kk_t_3 => ?_⟩
                refine ⟨b, (kp120.trans (kp115.trans (kp107.trans (kp1.trans eb)))), fun kk_b_7 => ?_⟩
                have lo_b_1 : Lo [] (gD σ) LL b_1 := hnτ12.loc (fun d hd => (fσ86.1 d hd).1) (Or.inr ⟨b, it_mem hi12.1 eb_1⟩)
                refine i_X1_cutBehind (G0 := 42) (A := A) (B := B) iσ86 (mb.up (xτ12.trans (xσ81.trans (xσ83.trans xσ86)))) (by omega) hi12.1.1 hi12.2.1 (fun σ92_2 LLσ92_2 Nσ92_2 nuσ92_2 r93_2 iσ92_2 cσ92_2 uσ92_2 hσ92_2 pσ92_2 => ?_)
                intro xσ92_2
                have fσ92_2 : Fx [1, 2, 4, 5, 64, 512, 513, 514, 708, 6464] gr σ σ92_2 := fσ86.tr (cσ92_2.mo (by decide))
                have hnσ92_2 : Hn (gD σ) [44, 42] [] gq LL LLσ92_2 N Nσ92_2 := hnτ12.go hσ92_2 (fun d hd => (fσ86.1 d hd).1) (by first | decide | exact fun _ h => h | (simp; done) | (intro x hx; simp only [List.mem_cons, List.mem_nil_iff, or_false] at hx ⊢; omega)) (fun d hd => absurd hd (by simp))
                have hg_c_σ92_2 : ∀ x, c ∉ LLσ92_2 x := hσ92_2.2.1 c (kc.up (xτ12.trans (xσ81.trans (xσ83.trans xσ86)))).1 (by simp) hg_c_τ12
                have nσ92_2_3 := hσ92_2.2.2 3 (by first | decide | (simp; done) | (simp only [List.mem_cons, List.mem_nil_iff, or_false, not_or]; omega)) (by first | decide | omega) (by first | decide | omega) (by first | decide | omega)
                have nσ92_2_5 := hσ92_2.2.2 5 (by first | decide | (simp; done) | (simp only [List.mem_cons, List.mem_nil_iff, or_false, not_or]; omega)) (by first | decide | omega) (by first | decide | omega) (by first | decide | omega)
                have nσ92_2_14 := hσ92_2.2.2 14 (by first | decide | (simp; done) | (simp only [List.mem_cons, List.mem_nil_iff, or_false, not_or]; omega)) (by first | decide | omega) (by first | decide | omega) (by first | decide | omega)
                have nσ92_2_44 := hσ92_2.2.2 44 (by first | decide | (simp; done) | (simp only [List.mem_cons, List.mem_nil_iff, or_false, not_or]; omega)) (by first | decide | omega) (by first | decide | omega) (by first | decide | omega)
                have nσ92_2_74 := hσ92_2.2.2 74 (by first | decide | (simp; done) | (simp only [List.mem_cons, List.mem_nil_iff, or_false, not_or]; omega)) (by first | decide | omega) (by first | decide | omega) (by first | decide | omega)
                have nσ92_2_11 := hσ92_2.2.2 11 (by first | decide | (simp; done) | (simp only [List.mem_cons, List.mem_nil_iff, or_false, not_or]; omega)) (by first | decide | omega) (by first | decide | omega) (by first | decide | omega)
                have nσ92_2_12 := hσ92_2.2.2 12 (by first | decide | (simp; done) | (simp only [List.mem_cons, List.mem_nil_iff, or_false, not_or]; omega)) (by first | decide | omega) (by first | decide | omega) (by first | decide | omega)
                have nσ92_2_41 := hσ92_2.2.2 41 (by first | decide | (simp; done) | (simp only [List.mem_cons, List.mem_nil_iff, or_false, not_or]; omega)) (by first | decide | omega) (by first | decide | omega) (by first | decide | omega)
                have nσ92_2_13 := hσ92_2.2.2 13 (by first | decide | (simp; done) | (simp only [List.mem_cons, List.mem_nil_iff, or_false, not_or]; omega)) (by first | decide | omega) (by first | decide | omega) (by first | decide | omega)
                have nu_σ92_2 : NU nu nuσ92_2 := nu_σ83.tr uσ92_2
                have uσ92_2_0 := uσ92_2.1 0 (by decide)
                have uσ92_2_1 := uσ92_2.1 1 (by decide)
                have uσ92_2_2 := uσ92_2.2
                have uσ92_2_5 := uσ92_2.1 5 (by decide)
                have uσ92_2_15 := uσ92_2.1 15 (by decide)
                have uσ92_2_16 := uσ92_2.1 16 (by decide)
                have kp126 : gI σ92_2 b_1 2 = gI σ86 b_1 2 := (cσ92_2.O (kk_b_1.up (xσ81.trans (xσ83.trans xσ86))) (by decide)).1
                have kp127 : gI σ92_2 b_1 4 = gI σ86 b_1 4 := (cσ92_2.O (kk_b_1.up (xσ81.trans (xσ83.trans xσ86))) (by decide)).1
                have kp128 : gI σ92_2 o 16 = gI σ86 o 16 := (cσ92_2.O (ko.up (xτ12.trans (xσ81.trans (xσ83.trans xσ86)))) (by decide)).1
                have kp129 : gI σ92_2 o 4 = gI σ86 o 4 := (cσ92_2.O (ko.up (xτ12.trans (xσ81.trans (xσ83.trans xσ86)))) (by decide)).1
                have kp130 : gP σ92_2 t 3 = gP σ86 t 3 := (cσ92_2.O (kt.up (xτ12.trans (xσ81.trans (xσ83.trans xσ86)))) (by decide)).2.1
                have kp131 : gP σ92_2 th 0 = gP σ86 th 0 := (cσ92_2.O (kth.up (xτ12.trans (xσ81.trans (xσ83.trans xσ86)))) (by decide)).2.1
                have kp132 : gI σ92_2 th 4 = gI σ86 th 4 := (cσ92_2.O (kth.up (xτ12.trans (xσ81.trans (xσ83.trans xσ86)))) (by decide)).1
                obtain ⟨r9, eL9, hb9, n9a, n9b⟩ := cut_r (N0 := 0) eB pσ92_2
                intro tyt_2
                have q133 := I_11_4 iσ92_2.1 (kth.up (xτ12.trans (xσ81.trans (xσ83.trans (xσ86.trans xσ92_2)))))
                refine ⟨by (first | omega | with_reducible assumption | with_reducible exact rng_toInt _ | with_reducible exact rng_wr _ | (unfold rng; omega) | (unfold rng at *; omega) | assumption), ?_⟩
                intro σ95_2 eσ95_2
                have xσ95_2 : Ext σ92_2 σ95_2 := by rw [eσ95_2]; exact fun _ h => ⟨h, rfl, rfl⟩
                have iσ95_2 : IV σ95_2 pl gq ci gr nc ot LLσ92_2 Nσ92_2 nuσ92_2 := by rw [eσ95_2]; exact iσ92_2.rec4 (kth.up (xτ12.trans (xσ81.trans (xσ83.trans (xσ86.trans xσ92_2))))) (by omega) (by omega) (by omega)
                have fσ95_2 : Fx [1, 2, 4, 5, 64, 512, 513, 514, 708, 6464] gr σ σ95_2 := fσ92_2.tr (Sk.fx (by rw [eσ95_2]; exact Sk.pI (by rw [fcdO (kth.up (xτ12.trans (xσ81.trans (xσ83.trans (xσ86.trans xσ92_2))))) (by decide)]; decide)))
                have wσ95_2 : gI σ95_2 th 4 = (gI σ92_2 th 4 - 1) := by rw [eσ95_2]; exact up2_s _ _ _ _
                have kp134 : gI σ95_2 b_1 2 = gI σ92_2 b_1 2 := by rw [eσ95_2]; exact up2_n _ _ (fun q => absurd q.2 (by decide))
                have kp135 : gI σ95_2 b_1 4 = gI σ92_2 b_1 4 := by rw [eσ95_2]; exact up2_n _ _ (fun q => absurd q.1 (kO.ne (kk_b_1.up (xσ81.trans (xσ83.trans (xσ86.trans xσ92_2)))) (kth.up (xτ12.trans (xσ81.trans (xσ83.trans (xσ86.trans xσ92_2))))) (by decide)))
                have kp136 : gI σ95_2 o 16 = gI σ92_2 o 16 := by rw [eσ95_2]; exact up2_n _ _ (fun q => absurd q.2 (by decide))
                have kp137 : gI σ95_2 o 4 = gI σ92_2 o 4 := by rw [eσ95_2]; exact up2_n _ _ (fun q => absurd q.1 (kO.ne (ko.up (xτ12.trans (xσ81.trans (xσ83.trans (xσ86.trans xσ92_2))))) (kth.up (xτ12.trans (xσ81.trans (xσ83.trans (xσ86.trans xσ92_2))))) (by decide)))
                have kp138 : gP σ95_2 t 3 = gP σ92_2 t 3 := by rw [eσ95_2]
                have kp139 : gP σ95_2 th 0 = gP σ92_2 th 0 := by rw [eσ95_2]
                refine ⟨c, hv3, fun kk_c_6 => ?_⟩
                refine ⟨b_1, eb_1, fun kk_b_1_9 => ?_⟩
                intro σ98_2 eσ98_2
                have xσ98_2 : Ext σ95_2 σ98_2 := by rw [eσ98_2]; exact fun _ h => ⟨h, rfl, rfl⟩
                have iσ98_2 : IV σ98_2 pl gq ci gr nc ot LLσ92_2 Nσ92_2 nuσ92_2 := by rw [eσ98_2]; exact iσ95_2.wT (kk_b_1.up (xσ81.trans (xσ83.trans (xσ86.trans (xσ92_2.trans xσ95_2))))) (by decide) (iσ95_2.t5 (kc.up (xτ12.trans (xσ81.trans (xσ83.trans (xσ86.trans (xσ92_2.trans xσ95_2)))))))
                have fσ98_2 : Fx [1, 2, 4, 5, 64, 512, 513, 514, 708, 6464] gr σ σ98_2 := fσ95_2.tr (Sk.fx (by rw [eσ98_2]; exact Sk.pJ (by rw [fcdO (kk_b_1.up (xσ81.trans (xσ83.trans (xσ86.trans (xσ92_2.trans xσ95_2))))) (by decide)]; decide)))
                have kp140 : gI σ98_2 b_1 2 = gI σ95_2 b_1 2 := by rw [eσ98_2]
                have kp141 : gI σ98_2 b_1 4 = gI σ95_2 b_1 4 := by rw [eσ98_2]
                have kp142 : gI σ98_2 o 16 = gI σ95_2 o 16 := by rw [eσ98_2]
                have kp143 : gI σ98_2 o 4 = gI σ95_2 o 4 := by rw [eσ98_2]
                have kp144 : gI σ98_2 th 4 = gI σ95_2 th 4 := by rw [eσ98_2]
                have kp145 : gP σ98_2 t 3 = gP σ95_2 t 3 := by rw [eσ98_2]
                have kp146 : gP σ98_2 th 0 = gP σ95_2 th 0 := by rw [eσ98_2]
                obtain ⟨b_7, eb_7, fb_7⟩ := P_0_0 iσ98_2.1 (kk_b_1.up (xσ81.trans (xσ83.trans (xσ86.trans (xσ92_2.trans (xσ95_2.trans xσ98_2))))))
                have mb_7 : kO σ98_2 b_7 101 := iσ98_2.1.kd (kk_b_1.up (xσ81.trans (xσ83.trans (xσ86.trans (xσ92_2.trans (xσ95_2.trans xσ98_2)))))) rfl eb_7 rfl
                refine ⟨b_7, eb_7, fun kk_b_7_1 => ?_⟩
                refine ⟨⟨by (first | omega | with_reducible assumption | with_reducible exact rng_toInt _ | with_reducible exact rng_wr _ | (unfold rng; omega) | (unfold rng at *; omega) | assumption), by (first | omega | with_reducible assumption | with_reducible exact rng_toInt _ | with_reducible exact rng_wr _ | (unfold rng; omega) | (unfold rng at *; omega) | assumption)⟩, ?_⟩
                intro σ100_2 eσ100_2
                have xσ100_2 : Ext σ98_2 σ100_2 := by rw [eσ100_2]; exact fun _ h => ⟨h, rfl, rfl⟩
                have iσ100_2 : IV σ100_2 pl gq ci gr nc ot LLσ92_2 Nσ92_2 nuσ92_2 := by rw [eσ100_2]; exact iσ98_2.wL mb_7 (by omega)
                have fσ100_2 : Fx [1, 2, 4, 5, 64, 512, 513, 514, 708, 6464] gr σ σ100_2 := fσ98_2.tr (Sk.fx (by rw [eσ100_2]; exact Sk.pJ (by rw [fcdA mb_7 (by decide)]; decide)))
                have kp147 : gI σ100_2 b_1 2 = gI σ98_2 b_1 2 := by rw [eσ100_2]
                have kp148 : gI σ100_2 b_1 4 = gI σ98_2 b_1 4 := by rw [eσ100_2]
                have kp149 : gI σ100_2 o 16 = gI σ98_2 o 16 := by rw [eσ100_2]
                have kp150 : gI σ100_2 o 4 = gI σ98_2 o 4 := by rw [eσ100_2]
                have kp151 : gI σ100_2 th 4 = gI σ98_2 th 4 := by rw [eσ100_2]
                have kp152 : gP σ100_2 b_1 0 = gP σ98_2 b_1 0 := by rw [eσ100_2]
                have kp153 : gP σ100_2 t 3 = gP σ98_2 t 3 := by rw [eσ100_2]
                have kp154 : gP σ100_2 th 0 = gP σ98_2 th 0 := by rw [eσ100_2]
                refine ⟨b_7, (kp152.trans eb_7), fun kk_b_7_2 => ?_⟩
                have q155 := (xσ100_2 b_7 mb_7.1).2.2
                refine ⟨⟨by (first | omega | with_reducible assumption | with_reducible exact rng_toInt _ | with_reducible exact rng_wr _ | (unfold rng; omega) | (unfold rng at *; omega) | assumption), by (first | omega | with_reducible assumption | with_reducible exact rng_toInt _ | with_reducible exact rng_wr _ | (unfold rng; omega) | (unfold rng at *; omega) | assumption)⟩, ?_⟩
                intro σ102_2 eσ102_2
                have xσ102_2 : Ext σ100_2 σ102_2 := by rw [eσ102_2]; exact fun _ h => ⟨h, rfl, rfl⟩
                have iσ102_2 : IV σ102_2 pl gq ci gr nc ot LLσ92_2 Nσ92_2 nuσ92_2 := by rw [eσ102_2]; exact iσ100_2.wL (mb_7.up xσ100_2) (by omega)
                have fσ102_2 : Fx [1, 2, 4, 5, 64, 512, 513, 514, 708, 6464] gr σ σ102_2 := fσ100_2.tr (Sk.fx (by rw [eσ102_2]; exact Sk.pJ (by rw [fcdA (mb_7.up xσ100_2) (by decide)]; decide)))
                have kp156 : gI σ102_2 b_1 2 = gI σ100_2 b_1 2 := by rw [eσ102_2]
                have kp157 : gI σ102_2 b_1 4 = gI σ100_2 b_1 4 := by rw [eσ102_2]
                have kp158 : gI σ102_2 o 16 = gI σ100_2 o 16 := by rw [eσ102_2]
                have kp159 : gI σ102_2 o 4 = gI σ100_2 o 4 := by rw [eσ102_2]
                have kp160 : gI σ102_2 th 4 = gI σ100_2 th 4 := by rw [eσ102_2]
                have kp161 : gP σ102_2 b_1 0 = gP σ100_2 b_1 0 := by rw [eσ102_2]
                have kp162 : gP σ102_2 t 3 = gP σ100_2 t 3 := by rw [eσ102_2]
                have kp163 : gP σ102_2 th 0 = gP σ100_2 th 0 := by rw [eσ102_2]
                refine ⟨b_7, (kp161.trans (kp152.trans eb_7)), fun kk_b_7_3 => ?_⟩
                have q164 := ((xσ100_2.trans xσ102_2) b_7 mb_7.1).2.2
                refine ⟨⟨by (first | omega | with_reducible assumption | with_reducible exact rng_toInt _ | with_reducible exact rng_wr _ | (unfold rng; omega) | (unfold rng at *; omega) | assumption), by (first | omega | with_reducible assumption | with_reducible exact rng_toInt _ | with_reducible exact rng_wr _ | (unfold rng; omega) | (unfold rng at *; omega) | assumption)⟩, ?_⟩
                intro σ104_2 eσ104_2
                have xσ104_2 : Ext σ102_2 σ104_2 := by rw [eσ104_2]; exact fun _ h => ⟨h, rfl, rfl⟩
                have iσ104_2 : IV σ104_2 pl gq ci gr nc ot LLσ92_2 Nσ92_2 nuσ92_2 := by rw [eσ104_2]; exact iσ102_2.wL (mb_7.up (xσ100_2.trans xσ102_2)) (by omega)
                have fσ104_2 : Fx [1, 2, 4, 5, 64, 512, 513, 514, 708, 6464] gr σ σ104_2 := fσ102_2.tr (Sk.fx (by rw [eσ104_2]; exact Sk.pJ (by rw [fcdA (mb_7.up (xσ100_2.trans xσ102_2)) (by decide)]; decide)))
                have kp165 : gI σ104_2 b_1 2 = gI σ102_2 b_1 2 := by rw [eσ104_2]
                have kp166 : gI σ104_2 b_1 4 = gI σ102_2 b_1 4 := by rw [eσ104_2]
                have kp167 : gI σ104_2 o 16 = gI σ102_2 o 16 := by rw [eσ104_2]
                have kp168 : gI σ104_2 o 4 = gI σ102_2 o 4 := by rw [eσ104_2]
                have kp169 : gI σ104_2 th 4 = gI σ102_2 th 4 := by rw [eσ104_2]
                have kp170 : gP σ104_2 b_1 0 = gP σ102_2 b_1 0 := by rw [eσ104_2]
                have kp171 : gP σ104_2 t 3 = gP σ102_2 t 3 := by rw [eσ104_2]
                have kp172 : gP σ104_2 th 0 = gP σ102_2 th 0 := by rw [eσ104_2]
                obtain ⟨b_8, eb_8, fb_8⟩ := P_11_2 iσ104_2.1 (kth.up (xτ12.trans (xσ81.trans (xσ83.trans (xσ86.trans (xσ92_2.trans (xσ95_2.trans (xσ98_2.trans (xσ100_2.trans (xσ102_2.trans xσ104_2))))))))))
                have mb_8 : kO σ104_2 b_8 1 := iσ104_2.1.kd (kth.up (xτ12.trans (xσ81.trans (xσ83.trans (xσ86.trans (xσ92_2.trans (xσ95_2.trans (xσ98_2.trans (xσ100_2.trans (xσ102_2.trans xσ104_2)))))))))) rfl eb_8 rfl
                refine ⟨b_8, eb_8, fun kk_b_8 => ?_⟩
                refine i_X1_add (G0 := 44) iσ104_2 mb_8 eb_1 (kk_b_1.up (xσ81.trans (xσ83.trans (xσ86.trans (xσ92_2.trans (xσ95_2.trans (xσ98_2.trans (xσ100_2.trans (xσ102_2.trans xσ104_2))))))))) (by omega) (by (first | omega | with_reducible assumption | with_reducible exact rng_toInt _ | with_reducible exact rng_wr _ | (unfold rng; omega) | (unfold rng at *; omega) | assumption)) (by (first | omega | with_reducible assumption | with_reducible exact rng_toInt _ | with_reducible exact rng_wr _ | (unfold rng; omega) | (unfold rng at *; omega) | assumption)) (plc_y (G := 44) (by omega) (by decide)) (no50 (by decide)) (no13 (by decide)) (fun N9 n1 _ => iσ104_2.2.2.1.made (by decide) n1) (fun σ105_2 LLσ105_2 Nσ105_2 nuσ105_2 _ iσ105_2 cσ105_2 uσ105_2 hσ105_2 pσ105_2 => ?_)
                intro xσ105_2
                have fσ105_2 : Fx [1, 2, 4, 5, 64, 512, 513, 514, 708, 6464] gr σ σ105_2 := fσ104_2.tr (cσ105_2.mo (by decide))
                have hnσ105_2 : Hn (gD σ) [44, 42] [] gq LL LLσ105_2 N Nσ105_2 := hnσ92_2.go hσ105_2 (fun d hd => (fσ104_2.1 d hd).1) (by first | decide | exact fun _ h => h | (simp; done) | (intro x hx; simp only [List.mem_cons, List.mem_nil_iff, or_false] at hx ⊢; omega)) (fun d hd => by rw [List.mem_singleton.mp hd]; exact lo_b_1)
                have hg_c_σ105_2 : ∀ x, c ∉ LLσ105_2 x := hσ105_2.2.1 c (kc.up (xτ12.trans (xσ81.trans (xσ83.trans (xσ86.trans (xσ92_2.trans (xσ95_2.trans (xσ98_2.trans (xσ100_2.trans (xσ102_2.trans xσ104_2)))))))))).1 (by simp only [List.mem_cons, List.mem_nil_iff, or_false, not_or]; first | omega | (exact fun q => absurd q.symm (by assumption))) hg_c_σ92_2
                have nσ105_2_3 := hσ105_2.2.2 3 (by first | decide | (simp; done) | (simp only [List.mem_cons, List.mem_nil_iff, or_false, not_or]; omega)) (by first | decide | omega) (by first | decide | omega) (by first | decide | omega)
                have nσ105_2_5 := hσ105_2.2.2 5 (by first | decide | (simp; done) | (simp only [List.mem_cons, List.mem_nil_iff, or_false, not_or]; omega)) (by first | decide | omega) (by first | decide | omega) (by first | decide | omega)
                have nσ105_2_14 := hσ105_2.2.2 14 (by first | decide | (simp; done) | (simp only [List.mem_cons, List.mem_nil_iff, or_false, not_or]; omega)) (by first | decide | omega) (by first | decide | omega) (by first | decide | omega)
                have nσ105_2_74 := hσ105_2.2.2 74 (by first | decide | (simp; done) | (simp only [List.mem_cons, List.mem_nil_iff, or_false, not_or]; omega)) (by first | decide | omega) (by first | decide | omega) (by first | decide | omega)
                have nσ105_2_11 := hσ105_2.2.2 11 (by first | decide | (simp; done) | (simp only [List.mem_cons, List.mem_nil_iff, or_false, not_or]; omega)) (by first | decide | omega) (by first | decide | omega) (by first | decide | omega)
                have nσ105_2_12 := hσ105_2.2.2 12 (by first | decide | (simp; done) | (simp only [List.mem_cons, List.mem_nil_iff, or_false, not_or]; omega)) (by first | decide | omega) (by first | decide | omega) (by first | decide | omega)
                have nσ105_2_41 := hσ105_2.2.2 41 (by first | decide | (simp; done) | (simp only [List.mem_cons, List.mem_nil_iff, or_false, not_or]; omega)) (by first | decide | omega) (by first | decide | omega) (by first | decide | omega)
                have nσ105_2_42 := hσ105_2.2.2 42 (by first | decide | (simp; done) | (simp only [List.mem_cons, List.mem_nil_iff, or_false, not_or]; omega)) (by first | decide | omega) (by first | decide | omega) (by first | decide | omega)
                have nσ105_2_13 := hσ105_2.2.2 13 (by first | decide | (simp; done) | (simp only [List.mem_cons, List.mem_nil_iff, or_false, not_or]; omega)) (by first | decide | omega) (by first | decide | omega) (by first | decide | omega)
                have nu_σ105_2 : NU nu nuσ105_2 := nu_σ92_2.tr uσ105_2
                have uσ105_2_0 := uσ105_2.1 0 (by decide)
                have uσ105_2_1 := uσ105_2.1 1 (by decide)
                have uσ105_2_2 := uσ105_2.2
                have uσ105_2_5 := uσ105_2.1 5 (by decide)
                have uσ105_2_15 := uσ105_2.1 15 (by decide)
                have uσ105_2_16 := uσ105_2.1 16 (by decide)
                have kp173 : gI σ105_2 b_1 2 = gI σ104_2 b_1 2 := (cσ105_2.O (kk_b_1.up (xσ81.trans (xσ83.trans (xσ86.trans (xσ92_2.trans (xσ95_2.trans (xσ98_2.trans (xσ100_2.trans (xσ102_2.trans xσ104_2))))))))) (by decide)).1
                have kp174 : gI σ105_2 b_1 4 = gI σ104_2 b_1 4 := (cσ105_2.O (kk_b_1.up (xσ81.trans (xσ83.trans (xσ86.trans (xσ92_2.trans (xσ95_2.trans (xσ98_2.trans (xσ100_2.trans (xσ102_2.trans xσ104_2))))))))) (by decide)).1
                have kp175 : gI σ105_2 o 16 = gI σ104_2 o 16 := (cσ105_2.O (ko.up (xτ12.trans (xσ81.trans (xσ83.trans (xσ86.trans (xσ92_2.trans (xσ95_2.trans (xσ98_2.trans (xσ100_2.trans (xσ102_2.trans xσ104_2)))))))))) (by decide)).1
                have kp176 : gI σ105_2 o 4 = gI σ104_2 o 4 := (cσ105_2.O (ko.up (xτ12.trans (xσ81.trans (xσ83.trans (xσ86.trans (xσ92_2.trans (xσ95_2.trans (xσ98_2.trans (xσ100_2.trans (xσ102_2.trans xσ104_2)))))))))) (by decide)).1
                have kp177 : gI σ105_2 th 4 = gI σ104_2 th 4 := (cσ105_2.O (kth.up (xτ12.trans (xσ81.trans (xσ83.trans (xσ86.trans (xσ92_2.trans (xσ95_2.trans (xσ98_2.trans (xσ100_2.trans (xσ102_2.trans xσ104_2)))))))))) (by decide)).1
                have kp178 : gP σ105_2 b_1 0 = gP σ104_2 b_1 0 := (cσ105_2.O (kk_b_1.up (xσ81.trans (xσ83.trans (xσ86.trans (xσ92_2.trans (xσ95_2.trans (xσ98_2.trans (xσ100_2.trans (xσ102_2.trans xσ104_2))))))))) (by decide)).2.1
                have kp179 : gP σ105_2 t 3 = gP σ104_2 t 3 := (cσ105_2.O (kt.up (xτ12.trans (xσ81.trans (xσ83.trans (xσ86.trans (xσ92_2.trans (xσ95_2.trans (xσ98_2.trans (xσ100_2.trans (xσ102_2.trans xσ104_2)))))))))) (by decide)).2.1
                have kp180 : gP σ105_2 th 0 = gP σ104_2 th 0 := (cσ105_2.O (kth.up (xτ12.trans (xσ81.trans (xσ83.trans (xσ86.trans (xσ92_2.trans (xσ95_2.trans (xσ98_2.trans (xσ100_2.trans (xσ102_2.trans xσ104_2)))))))))) (by decide)).2.1
                have kp181 : gP σ105_2 th 2 = gP σ104_2 th 2 := (cσ105_2.O (kth.up (xτ12.trans (xσ81.trans (xσ83.trans (xσ86.trans (xσ92_2.trans (xσ95_2.trans (xσ98_2.trans (xσ100_2.trans (xσ102_2.trans xσ104_2)))))))))) (by decide)).2.1
                have hLi := hσ105_2.1 b (mb.up (xτ12.trans (xσ81.trans (xσ83.trans (xσ86.trans (xσ92_2.trans (xσ95_2.trans (xσ98_2.trans (xσ100_2.trans (xσ102_2.trans xσ104_2)))))))))).1 (by first | (simp; done) | (simp only [List.mem_cons, List.mem_nil_iff, or_false, not_or]; omega)) (by omega)
                unfold w_X11_goOnBy_242
                exact ih12 σ105_2 LLσ105_2 Nσ105_2 nuσ105_2 v4 (gP τ12 b_1 1) iσ105_2 fσ105_2 (xτ12.trans (xσ81.trans (xσ83.trans (xσ86.trans (xσ92_2.trans (xσ95_2.trans (xσ98_2.trans (xσ100_2.trans (xσ102_2.trans (xσ104_2.trans xσ105_2)))))))))) nu_σ105_2 hnσ105_2 hg_c_σ105_2 (by first | exact ⟨A1, B1, ⟨⟨p1, p2⟩, by rw [p4]; assumption, by omega, by omega⟩, by omega⟩ | exact ⟨A, B2, ⟨⟨by rw [hLd, eB]; rfl, nx2⟩, hi12.2.1, by omega, by omega⟩, by omega⟩ | exact ⟨A, B2, ⟨⟨by rw [hLi, eL9]; exact up1_s _ _ _, nx2⟩, hi12.2.1, by omega, by omega⟩, by omega⟩)
          · rw [if_neg hc46]
            unfold w_X11_goOnBy_68
            unfold w_X11_goOnBy_73
            rw [if_neg (by decide)]
            unfold w_X11_goOnBy_80
            rw [if_pos (by decide)]
            unfold w_X11_goOnBy_132
            rw [if_neg (by decide)]
            unfold w_X11_goOnBy_137
            refine ⟨t, hv2, fun kk_t_4 => ?_⟩
            refine i4_X11_drop (G0 := 42) (A := A) (B := B) iτ12 (kth.up xτ12) (kp1.trans eb) (mb.up xτ12) (by (first | omega | with_reducible assumption | with_reducible exact rng_toInt _ | with_reducible exact rng_wr _ | (unfold rng; omega) | (unfold rng at *; omega) | assumption)) (by omega) (by decide) hi12.1.1 hi12.2.1 (fun σ88 LLσ88 Nσ88 nuσ88 _ iσ88 cσ88 uσ88 hσ88 pσ88 => ?_)
            intro xσ88
            have fσ88 : Fx [1, 2, 4, 5, 64, 512, 513, 514, 708, 6464] gr σ σ88 := fτ12.tr (cσ88.mo (by decide))
            have hnσ88 : Hn (gD σ) [44, 42] [] gq LL LLσ88 N Nσ88 := hnτ12.go hσ88 (fun d hd => (fτ12.1 d hd).1) (by first | decide | exact fun _ h => h | (simp; done) | (intro x hx; simp only [List.mem_cons, List.mem_nil_iff, or_false] at hx ⊢; omega)) (fun d hd => absurd hd (by simp))
            have hg_c_σ88 : ∀ x, c ∉ LLσ88 x := hσ88.2.1 c (kc.up xτ12).1 (by simp) hg_c_τ12
            have nσ88_3 := hσ88.2.2 3 (by first | decide | (simp; done) | (simp only [List.mem_cons, List.mem_nil_iff, or_false, not_or]; omega)) (by first | decide | omega) (by first | decide | omega) (by first | decide | omega)
            have nσ88_5 := hσ88.2.2 5 (by first | decide | (simp; done) | (simp only [List.mem_cons, List.mem_nil_iff, or_false, not_or]; omega)) (by first | decide | omega) (by first | decide | omega) (by first | decide | omega)
            have nσ88_14 := hσ88.2.2 14 (by first | decide | (simp; done) | (simp only [List.mem_cons, List.mem_nil_iff, or_false, not_or]; omega)) (by first | decide | omega) (by first | decide | omega) (by first | decide | omega)
            have nσ88_44 := hσ88.2.2 44 (by first | decide | (simp; done) | (simp only [List.mem_cons, List.mem_nil_iff, or_false, not_or]; omega)) (by first | decide | omega) (by first | decide | omega) (by first | decide | omega)
            have nσ88_74 := hσ88.2.2 74 (by first | decide | (simp; done) | (simp only [List.mem_cons, List.mem_nil_iff, or_false, not_or]; omega)) (by first | decide | omega) (by first | decide | omega) (by first | decide | omega)
            have nσ88_11 := hσ88.2.2 11 (by first | decide | (simp; done) | (simp only [List.mem_cons, List.mem_nil_iff, or_false, not_or]; omega)) (by first | decide | omega) (by first | decide | omega) (by first | decide | omega)
            have nσ88_12 := hσ88.2.2 12 (by first | decide | (simp; done) | (simp only [List.mem_cons, List.mem_nil_iff, or_false, not_or]; omega)) (by first | decide | omega) (by first | decide | omega) (by first | decide | omega)
            have nσ88_41 := hσ88.2.2 41 (by first | decide | (simp; done) | (simp only [List.mem_cons, List.mem_nil_iff, or_false, not_or]; omega)) (by first | decide | omega) (by first | decide | omega) (by first | decide | omega)
            have nσ88_13 := hσ88.2.2 13 (by first | decide | (simp; done) | (simp only [List.mem_cons, List.mem_nil_iff, or_false, not_or]; omega)) (by first | decide | omega) (by first | decide | omega) (by first | decide | omega)
            have nu_σ88 : NU nu nuσ88 := nu_τ12.tr uσ88
            have uσ88_0 := uσ88.1 0 (by decide)
            have uσ88_1 := uσ88.1 1 (by decide)
            have uσ88_2 := uσ88.2
            have uσ88_5 := uσ88.1 5 (by decide)
            have uσ88_15 := uσ88.1 15 (by decide)
            have uσ88_16 := uσ88.1 16 (by decide)
            have kp185 : gI σ88 o 16 = gI τ12 o 16 := (cσ88.O (ko.up xτ12) (by decide)).1
            have kp186 : gP σ88 t 3 = gP τ12 t 3 := (cσ88.O (kt.up xτ12) (by decide)).2.1
            have hLd := pσ88.2.2.1
            unfold w_X11_goOnBy_242
            exact ih12 σ88 LLσ88 Nσ88 nuσ88 v4 (gP τ12 b_1 1) iσ88 fσ88 (xτ12.trans xσ88) nu_σ88 hnσ88 hg_c_σ88 (by first | exact ⟨A1, B1, ⟨⟨p1, p2⟩, by rw [p4]; assumption, by omega, by omega⟩, by omega⟩ | exact ⟨A, B2, ⟨⟨by rw [hLd, eB]; rfl, nx2⟩, hi12.2.1, by omega, by omega⟩, by omega⟩ | exact ⟨A, B2, ⟨⟨by rw [hLi, eL9]; exact up1_s _ _ _, nx2⟩, hi12.2.1, by omega, by omega⟩, by omega⟩)
  exact ⟨(LL b).length + 1, Lp12 _ σ LL N nu _ _ iσ fσ (Ext.rfl' _) NU.rf hnσ hf (⟨[], LL b, ⟨⟨by simp, iσ.first mb⟩, rfl, rfl, Nat.le_refl _⟩, Nat.lt_succ_self _⟩)⟩
set_option maxHeartbeats 1000000 in
theorem i4_X11_matchUpTo {σ : Sg} {pl : Nat} {gq ci gr nc : Nat → Nat} {ot : Nat → Nat → Int} {LL : Nat → List Nat} {N nu : Nat → Nat} {th : Nat} {v1 : Option Nat} {v2 : Option Nat} {v3 : Int64} {J i : Nat} (iσ : IV σ pl gq ci gr nc ot LL N nu) (kth : kO σ th 11) {o : Nat} (hv1 : v1 = some o) (ko : kO σ o 5) {t : Nat} (hv2 : v2 = some t) (kt : kO σ t 10) (hq : gq th = 4) (hj : gP σ th 5 = some J) (kJ : kO σ J 4) (hJ : gq J = nc 0) (ho : gq o = 16 * nc 0 + i) (hi : i < nc 1) (h7 : 0 ≤ ot i 7) (ht : gq t = 4) (h5 : nu 5 < 24000) (hb : N 14 + N 44 + N 74 + N 1 ≤ 30000) {Q : Sg → Unit → Prop} {X : Sg → String → Prop} (hQ : ∀ (σ' : Sg) (LL' : Nat → List Nat) (N' nu' : Nat → Nat) (r : Unit), IV σ' pl gq ci gr nc ot LL' N' nu' → Fx [1, 2, 3, 4, 5, 6, 7, 64, 512, 513, 514, 708, 6464] gr σ σ' → NU nu nu' → Hn (gD σ) [44, 41, 42] [] gq LL LL' N N' → (N' 1 = N 1 ∧ N' 44 ≤ N 44 + N 41 + N 42) → Q σ' r) (hX : ∀ (σ' : Sg) (LL' : Nat → List Nat) (N' nu' : Nat → Nat) (E : String), IV σ' pl gq ci gr nc ot LL' N' nu' → Fx [1, 2, 3, 4, 5, 6, 7, 64, 512, 513, 514, 708, 6464] gr σ σ' → NX nu nu' → ((N' 1 ≤ N 1 + 2 ∧ N' 5 = N 5 ∧ N' 3 = N 3 ∧ N' 14 = N 14 ∧ N' 74 = N 74) ∧ NZ N N' ∧ E = "java/lang/IllegalStateException") → X σ' E) : wp_X11_matchUpTo th v1 v2 v3 σ Q X := by
  have fσ : Fx [1, 2, 3, 4, 5, 6, 7, 64, 512, 513, 514, 708, 6464] gr σ σ := Fx.rf
  have hnσ : Hn (gD σ) [44, 41, 42] [] gq LL LL N N := Hn.rf
  have rc := iσ.recs4 kth (by omega)
  have q4 := I_11_4 iσ.1 kth
  unfold wp_X11_matchUpTo
  unfold w_X11_matchUpTo_0
  refine ⟨t, hv2, fun kk_t => ?_⟩
  obtain ⟨b, eb, fb⟩ := P_10_2 iσ.1 kt
  have mb : kO σ b 1 := iσ.1.kd kt rfl eb rfl
  refine ⟨b, eb, fun kk_b => ?_⟩
  have Lp9 : ∀ (fu9 : Nat) (τ9 : Sg) (LLt9 : Nat → List Nat) (Nt9 nut9 : Nat → Nat) (v5 : Option Nat), IV τ9 pl gq ci gr nc ot LLt9 Nt9 nut9 → Fx [1, 2, 3, 4, 5, 6, 7, 64, 512, 513, 514, 708, 6464] gr σ τ9 → Ext σ τ9 → NU nu nut9 → Hn (gD σ) [44, 41, 42] [] gq LL LLt9 N Nt9 → (v5 = (LLt9 b).head? ∧ Nt9 1 = N 1 ∧ Nt9 44 + Nt9 41 + Nt9 42 ≤ N 44 + N 41 + N 42) → ((LLt9 b).length) < fu9 → wl_X11_matchUpTo_9 th Q X fu9 τ9 v1 v2 v3 v5 := by
    intro fu9
    induction fu9 with
    | zero => intro _ _ _ _ _ _ _ _ _ _ _ h9; omega
    | succ fu9 ih9 =>
      intro τ9 LLt9 Nt9 nut9 v5 iτ9 fτ9 xτ9 nu_τ9 hnτ9 hi9 hm9
      have nτ9_3 := hnτ9.2.2 3 (by first | decide | (simp; done) | (simp only [List.mem_cons, List.mem_nil_iff, or_false, not_or]; omega)) (by first | decide | omega) (by first | decide | omega) (by first | decide | omega)
      have nτ9_5 := hnτ9.2.2 5 (by first | decide | (simp; done) | (simp only [List.mem_cons, List.mem_nil_iff, or_false, not_or]; omega)) (by first | decide | omega) (by first | decide | omega) (by first | decide | omega)
      have nτ9_14 := hnτ9.2.2 14 (by first | decide | (simp; done) | (simp only [List.mem_cons, List.mem_nil_iff, or_false, not_or]; omega)) (by first | decide | omega) (by first | decide | omega) (by first | decide | omega)
      have nτ9_74 := hnτ9.2.2 74 (by first | decide | (simp; done) | (simp only [List.mem_cons, List.mem_nil_iff, or_false, not_or]; omega)) (by first | decide | omega) (by first | decide | omega) (by first | decide | omega)
      have nτ9_11 := hnτ9.2.2 11 (by first | decide | (simp; done) | (simp only [List.mem_cons, List.mem_nil_iff, or_false, not_or]; omega)) (by first | decide | omega) (by first | decide | omega) (by first | decide | omega)
      have nτ9_12 := hnτ9.2.2 12 (by first | decide | (simp; done) | (simp only [List.mem_cons, List.mem_nil_iff, or_false, not_or]; omega)) (by first | decide | omega) (by first | decide | omega) (by first | decide | omega)
      have nτ9_13 := hnτ9.2.2 13 (by first | decide | (simp; done) | (simp only [List.mem_cons, List.mem_nil_iff, or_false, not_or]; omega)) (by first | decide | omega) (by first | decide | omega) (by first | decide | omega)
      have uτ9_0 := nu_τ9.1 0 (by decide)
      have uτ9_1 := nu_τ9.1 1 (by decide)
      have uτ9_2 := nu_τ9.2
      have uτ9_5 := nu_τ9.1 5 (by decide)
      have uτ9_15 := nu_τ9.1 15 (by decide)
      have uτ9_16 := nu_τ9.1 16 (by decide)
      unfold wl_X11_matchUpTo_9
      have kp1 : gP τ9 t 2 = gP σ t 2 := (fτ9.O kt (by decide)).2.1
      have kp2 : gP τ9 th 5 = gP σ th 5 := (fτ9.O kth (by decide)).2.1
      have kp3 : gI τ9 t 0 = gI σ t 0 := (fτ9.O kt (by decide)).1
      unfold w_X11_matchUpTo_9
      by_cases hc4 : v5 = none
      · rw [if_pos hc4]
        unfold w_X11_matchUpTo_135
        refine ⟨t, hv2, fun kk_t_1 => ?_⟩
        obtain ⟨b_1, eb_1, fb_1⟩ := P_10_3 iτ9.1 (kt.up xτ9)
        have mb_1 : kO τ9 b_1 1 := iτ9.1.kd (kt.up xτ9) rfl eb_1 rfl
        refine ⟨b_1, eb_1, fun kk_b_1 => ?_⟩
        have Lp147 : ∀ (fu147 : Nat) (τ147 : Sg) (LLt147 : Nat → List Nat) (Nt147 nut147 : Nat → Nat) (v5 : Option Nat) (v6 : Option Nat), IV τ147 pl gq ci gr nc ot LLt147 Nt147 nut147 → Fx [1, 2, 3, 4, 5, 6, 7, 64, 512, 513, 514, 708, 6464] gr σ τ147 → Ext τ9 τ147 → NU nu nut147 → Hn (gD σ) [44, 41, 42] [] gq LL LLt147 N Nt147 → (∃ (A B : List Nat), ((LLt147 b_1 = A ++ B ∧ v6 = B.head?) ∧ v5 = A.getLast? ∧ Nt147 1 = N 1 ∧ Nt147 44 + Nt147 41 + Nt147 42 ≤ N 44 + N 41 + N 42) ∧ (B.length) < fu147) → wl_X11_matchUpTo_147 th Q X fu147 τ147 v1 v2 v3 v5 v6 := by
          intro fu147
          induction fu147 with
          | zero => intro _ _ _ _ _ _ _ _ _ _ _ h9; obtain ⟨_, _, _, h9⟩ := h9; omega
          | succ fu147 ih147 =>
            intro τ147 LLt147 Nt147 nut147 v5 v6 iτ147 fτ147 xτ147 nu_τ147 hnτ147 hi147
            obtain ⟨A, B, hi147, hm147⟩ := hi147
            have nτ147_3 := hnτ147.2.2 3 (by first | decide | (simp; done) | (simp only [List.mem_cons, List.mem_nil_iff, or_false, not_or]; omega)) (by first | decide | omega) (by first | decide | omega) (by first | decide | omega)
            have nτ147_5 := hnτ147.2.2 5 (by first | decide | (simp; done) | (simp only [List.mem_cons, List.mem_nil_iff, or_false, not_or]; omega)) (by first | decide | omega) (by first | decide | omega) (by first | decide | omega)
            have nτ147_14 := hnτ147.2.2 14 (by first | decide | (simp; done) | (simp only [List.mem_cons, List.mem_nil_iff, or_false, not_or]; omega)) (by first | decide | omega) (by first | decide | omega) (by first | decide | omega)
            have nτ147_74 := hnτ147.2.2 74 (by first | decide | (simp; done) | (simp only [List.mem_cons, List.mem_nil_iff, or_false, not_or]; omega)) (by first | decide | omega) (by first | decide | omega) (by first | decide | omega)
            have nτ147_11 := hnτ147.2.2 11 (by first | decide | (simp; done) | (simp only [List.mem_cons, List.mem_nil_iff, or_false, not_or]; omega)) (by first | decide | omega) (by first | decide | omega) (by first | decide | omega)
            have nτ147_12 := hnτ147.2.2 12 (by first | decide | (simp; done) | (simp only [List.mem_cons, List.mem_nil_iff, or_false, not_or]; omega)) (by first | decide | omega) (by first | decide | omega) (by first | decide | omega)
            have nτ147_13 := hnτ147.2.2 13 (by first | decide | (simp; done) | (simp only [List.mem_cons, List.mem_nil_iff, or_false, not_or]; omega)) (by first | decide | omega) (by first | decide | omega) (by first | decide | omega)
            have uτ147_0 := nu_τ147.1 0 (by decide)
            have uτ147_1 := nu_τ147.1 1 (by decide)
            have uτ147_2 := nu_τ147.2
            have uτ147_5 := nu_τ147.1 5 (by decide)
            have uτ147_15 := nu_τ147.1 15 (by decide)
            have uτ147_16 := nu_τ147.1 16 (by decide)
            unfold wl_X11_matchUpTo_147
            have kp5 : gP τ147 t 2 = gP σ t 2 := (fτ147.O kt (by decide)).2.1
            have kp6 : gP τ147 th 5 = gP σ th 5 := (fτ147.O kth (by decide)).2.1
            have kp7 : gI τ147 t 0 = gI σ t 0 := (fτ147.O kt (by decide)).1
            have kp8 : gP τ147 t 3 = gP τ9 t 3 := (fτ147.O kt (by decide)).2.1.trans (fτ9.O kt (by decide)).2.1.symm
            have kp9 : gI τ147 t 0 = gI τ9 t 0 := (fτ147.O kt (by decide)).1.trans (fτ9.O kt (by decide)).1.symm
            unfold w_X11_matchUpTo_147
            by_cases hc10 : v6 = none
            · rw [if_pos hc10]
              unfold w_X11_matchUpTo_201
              exact hQ τ147 LLt147 Nt147 nut147 () iτ147 fτ147 (nu_τ147) hnτ147 (by (first | omega | with_reducible assumption | with_reducible exact rng_toInt _ | with_reducible exact rng_wr _ | (unfold rng; omega) | (unfold rng at *; omega) | assumption))
            · rw [if_neg hc10]
              unfold w_X11_matchUpTo_152
              obtain ⟨b_2, eb_2⟩ := Option.ne_none_iff_exists'.mp hc10
              obtain ⟨A1, B1, p1, p2, p3, p4⟩ := it_step iτ147 (mb_1.up xτ147) hi147.1 eb_2
              obtain ⟨B2, eB⟩ := it_cons hi147.1.2 eb_2
              have lb2 : B.length = B2.length + 1 := by rw [eB]; rfl
              have nx2 := iτ147.next (mb_1.up xτ147) (show _ = A ++ b_2 :: B2 by rw [← eB]; exact hi147.1.1)
              refine ⟨b_2, eb_2, fun kk_b_2 => ?_⟩
              refine ⟨o, hv1, fun kk_o => ?_⟩
              have q12 := I_5_16 iτ147.1 (ko.up (xτ9.trans xτ147))
              by_cases hc11 : ((v3 + 1) - gJ τ147 b_2 6) ≤ (Int64.ofInt (gI τ147 o 16))
              · rw [if_pos hc11]
                unfold w_X11_matchUpTo_190
                unfold w_X11_matchUpTo_194
                exact ih147 τ147 LLt147 Nt147 nut147 v6 (gP τ147 b_2 1) iτ147 fτ147 xτ147 nu_τ147 hnτ147 (by first | exact ⟨A1, B1, ⟨⟨p1, p2⟩, by rw [p4]; assumption, by omega, by omega⟩, by omega⟩ | exact ⟨A, B2, ⟨⟨by rw [hLd, eB]; rfl, nx2⟩, hi147.2.1, by omega, by omega⟩, by omega⟩)
              · rw [if_neg hc11]
                unfold w_X11_matchUpTo_177
                refine ⟨t, hv2, fun kk_t_2 => ?_⟩
                refine i4_X11_drop (G0 := 42) (A := A) (B := B) iτ147 (kth.up (xτ9.trans xτ147)) (kp8.trans eb_1) (mb_1.up xτ147) (by (first | omega | with_reducible assumption | with_reducible exact rng_toInt _ | with_reducible exact rng_wr _ | (unfold rng; omega) | (unfold rng at *; omega) | assumption)) (by omega) (by decide) hi147.1.1 hi147.2.1 (fun σ68 LLσ68 Nσ68 nuσ68 _ iσ68 cσ68 uσ68 hσ68 pσ68 => ?_)
                intro xσ68
                have fσ68 : Fx [1, 2, 3, 4, 5, 6, 7, 64, 512, 513, 514, 708, 6464] gr σ σ68 := fτ147.tr (cσ68.mo (by decide))
                have hnσ68 : Hn (gD σ) [44, 41, 42] [] gq LL LLσ68 N Nσ68 := hnτ147.go hσ68 (fun d hd => (fτ147.1 d hd).1) (by first | decide | exact fun _ h => h | (simp; done) | (intro x hx; simp only [List.mem_cons, List.mem_nil_iff, or_false] at hx ⊢; omega)) (fun d hd => absurd hd (by simp))
                have nσ68_3 := hσ68.2.2 3 (by first | decide | (simp; done) | (simp only [List.mem_cons, List.mem_nil_iff, or_false, not_or]; omega)) (by first | decide | omega) (by first | decide | omega) (by first | decide | omega)
                have nσ68_5 := hσ68.2.2 5 (by first | decide | (simp; done) | (simp only [List.mem_cons, List.mem_nil_iff, or_false, not_or]; omega)) (by first | decide | omega) (by first | decide | omega) (by first | decide | omega)
                have nσ68_14 := hσ68.2.2 14 (by first | decide | (simp; done) | (simp only [List.mem_cons, List.mem_nil_iff, or_false, not_or]; omega)) (by first | decide | omega) (by first | decide | omega) (by first | decide | omega)
                have nσ68_44 := hσ68.2.2 44 (by first | decide | (simp; done) | (simp only [List.mem_cons, List.mem_nil_iff, or_false, not_or]; omega)) (by first | decide | omega) (by first | decide | omega) (by first | decide | omega)
                have nσ68_74 := hσ68.2.2 74 (by first | decide | (simp; done) | (simp only [List.mem_cons, List.mem_nil_iff, or_false, not_or]; omega)) (by first | decide | omega) (by first | decide | omega) (by first | decide | omega)
                have nσ68_11 := hσ68.2.2 11 (by first | decide | (simp; done) | (simp only [List.mem_cons, List.mem_nil_iff, or_false, not_or]; omega)) (by first | decide | omega) (by first | decide | omega) (by first | decide | omega)
                have nσ68_12 := hσ68.2.2 12 (by first | decide | (simp; done) | (simp only [List.mem_cons, List.mem_nil_iff, or_false, not_or]; omega)) (by first | decide | omega) (by first | decide | omega) (by first | decide | omega)
                have nσ68_41 := hσ68.2.2 41 (by first | decide | (simp; done) | (simp only [List.mem_cons, List.mem_nil_iff, or_false, not_or]; omega)) (by first | decide | omega) (by first | decide | omega) (by first | decide | omega)
                have nσ68_13 := hσ68.2.2 13 (by first | decide | (simp; done) | (simp only [List.mem_cons, List.mem_nil_iff, or_false, not_or]; omega)) (by first | decide | omega) (by first | decide | omega) (by first | decide | omega)
                have nu_σ68 : NU nu nuσ68 := nu_τ147.tr uσ68
                have uσ68_0 := uσ68.1 0 (by decide)
                have uσ68_1 := uσ68.1 1 (by decide)
                have uσ68_2 := uσ68.2
                have uσ68_5 := uσ68.1 5 (by decide)
                have uσ68_15 := uσ68.1 15 (by decide)
                have uσ68_16 := uσ68.1 16 (by decide)
                have kp13 : gI σ68 o 16 = gI τ147 o 16 := (cσ68.O (ko.up (xτ9.trans xτ147)) (by decide)).1
                have kp14 : gP σ68 t 2 = gP τ147 t 2 := (cσ68.O (kt.up (xτ9.trans xτ147)) (by decide)).2.1
                have kp15 : gP σ68 t 3 = gP τ147 t 3 := (cσ68.O (kt.up (xτ9.trans xτ147)) (by decide)).2.1
                have kp16 : gP σ68 th 5 = gP τ147 th 5 := (cσ68.O (kth.up (xτ9.trans xτ147)) (by decide)).2.1
                have kp17 : gI σ68 t 0 = gI τ147 t 0 := (cσ68.O (kt.up (xτ9.trans xτ147)) (by decide)).1
                have hLd := pσ68.2.2.1
                unfold w_X11_matchUpTo_194
                exact ih147 σ68 LLσ68 Nσ68 nuσ68 v5 (gP τ147 b_2 1) iσ68 fσ68 (xτ147.trans xσ68) nu_σ68 hnσ68 (by first | exact ⟨A1, B1, ⟨⟨p1, p2⟩, by rw [p4]; assumption, by omega, by omega⟩, by omega⟩ | exact ⟨A, B2, ⟨⟨by rw [hLd, eB]; rfl, nx2⟩, hi147.2.1, by omega, by omega⟩, by omega⟩)
        exact ⟨(LLt9 b_1).length + 1, Lp147 _ τ9 LLt9 Nt9 nut9 _ _ iτ9 fτ9 (Ext.rfl' _) nu_τ9 hnτ9 (⟨[], LLt9 b_1, ⟨⟨by simp, iτ9.first mb_1⟩, rfl, by omega, by omega⟩, Nat.lt_succ_self _⟩)⟩
      · rw [if_neg hc4]
        unfold w_X11_matchUpTo_14
        obtain ⟨b_3, eb_3⟩ := Option.ne_none_iff_exists'.mp hc4
        refine ⟨b_3, eb_3, fun kk_b_3 => ?_⟩
        by_cases hc18 : gJ τ9 b_3 5 > v3
        · rw [if_pos hc18]
          unfold w_X11_matchUpTo_135
          refine ⟨t, hv2, fun kk_t_3 => ?_⟩
          obtain ⟨b_4, eb_4, fb_4⟩ := P_10_3 iτ9.1 (kt.up xτ9)
          have mb_4 : kO τ9 b_4 1 := iτ9.1.kd (kt.up xτ9) rfl eb_4 rfl
          refine ⟨b_4, eb_4, fun kk_b_4 => ?_⟩
          have Lp147 : ∀ (fu147 : Nat) (τ147 : Sg) (LLt147 : Nat → List Nat) (Nt147 nut147 : Nat → Nat) (v5 : Option Nat) (v6 : Option Nat), IV τ147 pl gq ci gr nc ot LLt147 Nt147 nut147 → Fx [1, 2, 3, 4, 5, 6, 7, 64, 512, 513, 514, 708, 6464] gr σ τ147 → Ext τ9 τ147 → NU nu nut147 → Hn (gD σ) [44, 41, 42] [] gq LL LLt147 N Nt147 → (∃ (A B : List Nat), ((LLt147 b_4 = A ++ B ∧ v6 = B.head?) ∧ v5 = A.getLast? ∧ Nt147 1 = N 1 ∧ Nt147 44 + Nt147 41 + Nt147 42 ≤ N 44 + N 41 + N 42) ∧ (B.length) < fu147) → wl_X11_matchUpTo_147 th Q X fu147 τ147 v1 v2 v3 v5 v6 := by
            intro fu147
            induction fu147 with
            | zero => intro _ _ _ _ _ _ _ _ _ _ _ h9; obtain ⟨_, _, _, h9⟩ := h9; omega
            | succ fu147 ih147 =>
              intro τ147 LLt147 Nt147 nut147 v5 v6 iτ147 fτ147 xτ147 nu_τ147 hnτ147 hi147
              obtain ⟨A, B, hi147, hm147⟩ := hi147
              have nτ147_3 := hnτ147.2.2 3 (by first | decide | (simp; done) | (simp only [List.mem_cons, List.mem_nil_iff, or_false, not_or]; omega)) (by first | decide | omega) (by first | decide | omega) (by first | decide | omega)
              have nτ147_5 := hnτ147.2.2 5 (by first | decide | (simp; done) | (simp only [List.mem_cons, List.mem_nil_iff, or_false, not_or]; omega)) (by first | decide | omega) (by first | decide | omega) (by first | decide | omega)
              have nτ147_14 := hnτ147.2.2 14 (by first | decide | (simp; done) | (simp only [List.mem_cons, List.mem_nil_iff, or_false, not_or]; omega)) (by first | decide | omega) (by first | decide | omega) (by first | decide | omega)
              have nτ147_74 := hnτ147.2.2 74 (by first | decide | (simp; done) | (simp only [List.mem_cons, List.mem_nil_iff, or_false, not_or]; omega)) (by first | decide | omega) (by first | decide | omega) (by first | decide | omega)
              have nτ147_11 := hnτ147.2.2 11 (by first | decide | (simp; done) | (simp only [List.mem_cons, List.mem_nil_iff, or_false, not_or]; omega)) (by first | decide | omega) (by first | decide | omega) (by first | decide | omega)
              have nτ147_12 := hnτ147.2.2 12 (by first | decide | (simp; done) | (simp only [List.mem_cons, List.mem_nil_iff, or_false, not_or]; omega)) (by first | decide | omega) (by first | decide | omega) (by first | decide | omega)
              have nτ147_13 := hnτ147.2.2 13 (by first | decide | (simp; done) | (simp only [List.mem_cons, List.mem_nil_iff, or_false, not_or]; omega)) (by first | decide | omega) (by first | decide | omega) (by first | decide | omega)
              have uτ147_0 := nu_τ147.1 0 (by decide)
              have uτ147_1 := nu_τ147.1 1 (by decide)
              have uτ147_2 := nu_τ147.2
              have uτ147_5 := nu_τ147.1 5 (by decide)
              have uτ147_15 := nu_τ147.1 15 (by decide)
              have uτ147_16 := nu_τ147.1 16 (by decide)
              unfold wl_X11_matchUpTo_147
              have kp19 : gP τ147 t 2 = gP σ t 2 := (fτ147.O kt (by decide)).2.1
              have kp20 : gP τ147 th 5 = gP σ th 5 := (fτ147.O kth (by decide)).2.1
              have kp21 : gI τ147 t 0 = gI σ t 0 := (fτ147.O kt (by decide)).1
              have kp22 : gP τ147 t 3 = gP τ9 t 3 := (fτ147.O kt (by decide)).2.1.trans (fτ9.O kt (by decide)).2.1.symm
              have kp23 : gI τ147 t 0 = gI τ9 t 0 := (fτ147.O kt (by decide)).1.trans (fτ9.O kt (by decide)).1.symm
              unfold w_X11_matchUpTo_147
              by_cases hc24 : v6 = none
              · rw [if_pos hc24]
                unfold w_X11_matchUpTo_201
                exact hQ τ147 LLt147 Nt147 nut147 () iτ147 fτ147 (nu_τ147) hnτ147 (by (first | omega | with_reducible assumption | with_reducible exact rng_toInt _ | with_reducible exact rng_wr _ | (unfold rng; omega) | (unfold rng at *; omega) | assumption))
              · rw [if_neg hc24]
                unfold w_X11_matchUpTo_152
                obtain ⟨b_5, eb_5⟩ := Option.ne_none_iff_exists'.mp hc24
                obtain ⟨A1, B1, p1, p2, p3, p4⟩ := it_step iτ147 (mb_4.up xτ147) hi147.1 eb_5
                obtain ⟨B2, eB⟩ := it_cons hi147.1.2 eb_5
                have lb2 : B.length = B2.length + 1 := by rw [eB]; rfl
                have nx2 := iτ147.next (mb_4.up xτ147) (show _ = A ++ b_5 :: B2 by rw [← eB]; exact hi147.1.1)
                refine ⟨b_5, eb_5, fun kk_b_5 => ?_⟩
                refine ⟨o, hv1, fun kk_o_1 => ?_⟩
                have q26 := I_5_16 iτ147.1 (ko.up (xτ9.trans xτ147))
                by_cases hc25 : ((v3 + 1) - gJ τ147 b_5 6) ≤ (Int64.ofInt (gI τ147 o 16))
                · rw [if_pos hc25]
                  unfold w_X11_matchUpTo_190
                  unfold w_X11_matchUpTo_194
                  exact ih147 τ147 LLt147 Nt147 nut147 v6 (gP τ147 b_5 1) iτ147 fτ147 xτ147 nu_τ147 hnτ147 (by first | exact ⟨A1, B1, ⟨⟨p1, p2⟩, by rw [p4]; assumption, by omega, by omega⟩, by omega⟩ | exact ⟨A, B2, ⟨⟨by rw [hLd, eB]; rfl, nx2⟩, hi147.2.1, by omega, by omega⟩, by omega⟩)
                · rw [if_neg hc25]
                  unfold w_X11_matchUpTo_177
                  refine ⟨t, hv2, fun kk_t_4 => ?_⟩
                  refine i4_X11_drop (G0 := 42) (A := A) (B := B) iτ147 (kth.up (xτ9.trans xτ147)) (kp22.trans eb_4) (mb_4.up xτ147) (by (first | omega | with_reducible assumption | with_reducible exact rng_toInt _ | with_reducible exact rng_wr _ | (unfold rng; omega) | (unfold rng at *; omega) | assumption)) (by omega) (by decide) hi147.1.1 hi147.2.1 (fun σ68_1 LLσ68_1 Nσ68_1 nuσ68_1 _ iσ68_1 cσ68_1 uσ68_1 hσ68_1 pσ68_1 => ?_)
                  intro xσ68_1
                  have fσ68_1 : Fx [1, 2, 3, 4, 5, 6, 7, 64, 512, 513, 514, 708, 6464] gr σ σ68_1 := fτ147.tr (cσ68_1.mo (by decide))
                  have hnσ68_1 : Hn (gD σ) [44, 41, 42] [] gq LL LLσ68_1 N Nσ68_1 := hnτ147.go hσ68_1 (fun d hd => (fτ147.1 d hd).1) (by first | decide | exact fun _ h => h | (simp; done) | (intro x hx; simp only [List.mem_cons, List.mem_nil_iff, or_false] at hx ⊢; omega)) (fun d hd => absurd hd (by simp))
                  have nσ68_1_3 := hσ68_1.2.2 3 (by first | decide | (simp; done) | (simp only [List.mem_cons, List.mem_nil_iff, or_false, not_or]; omega)) (by first | decide | omega) (by first | decide | omega) (by first | decide | omega)
                  have nσ68_1_5 := hσ68_1.2.2 5 (by first | decide | (simp; done) | (simp only [List.mem_cons, List.mem_nil_iff, or_false, not_or]; omega)) (by first | decide | omega) (by first | decide | omega) (by first | decide | omega)
                  have nσ68_1_14 := hσ68_1.2.2 14 (by first | decide | (simp; done) | (simp only [List.mem_cons, List.mem_nil_iff, or_false, not_or]; omega)) (by first | decide | omega) (by first | decide | omega) (by first | decide | omega)
                  have nσ68_1_44 := hσ68_1.2.2 44 (by first | decide | (simp; done) | (simp only [List.mem_cons, List.mem_nil_iff, or_false, not_or]; omega)) (by first | decide | omega) (by first | decide | omega) (by first | decide | omega)
                  have nσ68_1_74 := hσ68_1.2.2 74 (by first | decide | (simp; done) | (simp only [List.mem_cons, List.mem_nil_iff, or_false, not_or]; omega)) (by first | decide | omega) (by first | decide | omega) (by first | decide | omega)
                  have nσ68_1_11 := hσ68_1.2.2 11 (by first | decide | (simp; done) | (simp only [List.mem_cons, List.mem_nil_iff, or_false, not_or]; omega)) (by first | decide | omega) (by first | decide | omega) (by first | decide | omega)
                  have nσ68_1_12 := hσ68_1.2.2 12 (by first | decide | (simp; done) | (simp only [List.mem_cons, List.mem_nil_iff, or_false, not_or]; omega)) (by first | decide | omega) (by first | decide | omega) (by first | decide | omega)
                  have nσ68_1_41 := hσ68_1.2.2 41 (by first | decide | (simp; done) | (simp only [List.mem_cons, List.mem_nil_iff, or_false, not_or]; omega)) (by first | decide | omega) (by first | decide | omega) (by first | decide | omega)
                  have nσ68_1_13 := hσ68_1.2.2 13 (by first | decide | (simp; done) | (simp only [List.mem_cons, List.mem_nil_iff, or_false, not_or]; omega)) (by first | decide | omega) (by first | decide | omega) (by first | decide | omega)
                  have nu_σ68_1 : NU nu nuσ68_1 := nu_τ147.tr uσ68_1
                  have uσ68_1_0 := uσ68_1.1 0 (by decide)
                  have uσ68_1_1 := uσ68_1.1 1 (by decide)
                  have uσ68_1_2 := uσ68_1.2
                  have uσ68_1_5 := uσ68_1.1 5 (by decide)
                  have uσ68_1_15 := uσ68_1.1 15 (by decide)
                  have uσ68_1_16 := uσ68_1.1 16 (by decide)
                  have kp27 : gI σ68_1 o 16 = gI τ147 o 16 := (cσ68_1.O (ko.up (xτ9.trans xτ147)) (by decide)).1
                  have kp28 : gP σ68_1 t 2 = gP τ147 t 2 := (cσ68_1.O (kt.up (xτ9.trans xτ147)) (by decide)).2.1
                  have kp29 : gP σ68_1 t 3 = gP τ147 t 3 := (cσ68_1.O (kt.up (xτ9.trans xτ147)) (by decide)).2.1
                  have kp30 : gP σ68_1 th 5 = gP τ147 th 5 := (cσ68_1.O (kth.up (xτ9.trans xτ147)) (by decide)).2.1
                  have kp31 : gI σ68_1 t 0 = gI τ147 t 0 := (cσ68_1.O (kt.up (xτ9.trans xτ147)) (by decide)).1
                  have hLd := pσ68_1.2.2.1
                  unfold w_X11_matchUpTo_194
                  exact ih147 σ68_1 LLσ68_1 Nσ68_1 nuσ68_1 v5 (gP τ147 b_5 1) iσ68_1 fσ68_1 (xτ147.trans xσ68_1) nu_σ68_1 hnσ68_1 (by first | exact ⟨A1, B1, ⟨⟨p1, p2⟩, by rw [p4]; assumption, by omega, by omega⟩, by omega⟩ | exact ⟨A, B2, ⟨⟨by rw [hLd, eB]; rfl, nx2⟩, hi147.2.1, by omega, by omega⟩, by omega⟩)
          exact ⟨(LLt9 b_4).length + 1, Lp147 _ τ9 LLt9 Nt9 nut9 _ _ iτ9 fτ9 (Ext.rfl' _) nu_τ9 hnτ9 (⟨[], LLt9 b_4, ⟨⟨by simp, iτ9.first mb_4⟩, rfl, by omega, by omega⟩, Nat.lt_succ_self _⟩)⟩
        · rw [if_neg hc18]
          unfold w_X11_matchUpTo_24
          refine ⟨t, hv2, fun kk_t_5 => ?_⟩
          refine ⟨b, (kp1.trans eb), fun kk_b_6 => ?_⟩
          obtain ⟨T9, eT⟩ := it_cons hi9.1 eb_3
          have lo_b_3 : Lo [] (gD σ) LL b_3 := hnτ9.loc (fun d hd => (fτ9.1 d hd).1) (Or.inr ⟨b, by rw [eT]; exact List.mem_cons_self⟩)
          have rc9 := iτ9.recs4 (kth.up xτ9) (by omega)
          refine i_X1_takeFirst (G0 := 41) iτ9 (mb.up xτ9) (by omega) (fun σ43 LLσ43 Nσ43 nuσ43 r44 iσ43 cσ43 uσ43 hσ43 pσ43 => ?_)
          intro xσ43
          have fσ43 : Fx [1, 2, 3, 4, 5, 6, 7, 64, 512, 513, 514, 708, 6464] gr σ σ43 := fτ9.tr (cσ43.mo (by decide))
          have hnσ43 : Hn (gD σ) [44, 41, 42] [] gq LL LLσ43 N Nσ43 := hnτ9.go hσ43 (fun d hd => (fτ9.1 d hd).1) (by first | decide | exact fun _ h => h | (simp; done) | (intro x hx; simp only [List.mem_cons, List.mem_nil_iff, or_false] at hx ⊢; omega)) (fun d hd => absurd hd (by simp))
          have nσ43_3 := hσ43.2.2 3 (by first | decide | (simp; done) | (simp only [List.mem_cons, List.mem_nil_iff, or_false, not_or]; omega)) (by first | decide | omega) (by first | decide | omega) (by first | decide | omega)
          have nσ43_5 := hσ43.2.2 5 (by first | decide | (simp; done) | (simp only [List.mem_cons, List.mem_nil_iff, or_false, not_or]; omega)) (by first | decide | omega) (by first | decide | omega) (by first | decide | omega)
          have nσ43_14 := hσ43.2.2 14 (by first | decide | (simp; done) | (simp only [List.mem_cons, List.mem_nil_iff, or_false, not_or]; omega)) (by first | decide | omega) (by first | decide | omega) (by first | decide | omega)
          have nσ43_44 := hσ43.2.2 44 (by first | decide | (simp; done) | (simp only [List.mem_cons, List.mem_nil_iff, or_false, not_or]; omega)) (by first | decide | omega) (by first | decide | omega) (by first | decide | omega)
          have nσ43_74 := hσ43.2.2 74 (by first | decide | (simp; done) | (simp only [List.mem_cons, List.mem_nil_iff, or_false, not_or]; omega)) (by first | decide | omega) (by first | decide | omega) (by first | decide | omega)
          have nσ43_11 := hσ43.2.2 11 (by first | decide | (simp; done) | (simp only [List.mem_cons, List.mem_nil_iff, or_false, not_or]; omega)) (by first | decide | omega) (by first | decide | omega) (by first | decide | omega)
          have nσ43_12 := hσ43.2.2 12 (by first | decide | (simp; done) | (simp only [List.mem_cons, List.mem_nil_iff, or_false, not_or]; omega)) (by first | decide | omega) (by first | decide | omega) (by first | decide | omega)
          have nσ43_42 := hσ43.2.2 42 (by first | decide | (simp; done) | (simp only [List.mem_cons, List.mem_nil_iff, or_false, not_or]; omega)) (by first | decide | omega) (by first | decide | omega) (by first | decide | omega)
          have nσ43_13 := hσ43.2.2 13 (by first | decide | (simp; done) | (simp only [List.mem_cons, List.mem_nil_iff, or_false, not_or]; omega)) (by first | decide | omega) (by first | decide | omega) (by first | decide | omega)
          have nu_σ43 : NU nu nuσ43 := nu_τ9.tr uσ43
          have uσ43_0 := uσ43.1 0 (by decide)
          have uσ43_1 := uσ43.1 1 (by decide)
          have uσ43_2 := uσ43.2
          have uσ43_5 := uσ43.1 5 (by decide)
          have uσ43_15 := uσ43.1 15 (by decide)
          have uσ43_16 := uσ43.1 16 (by decide)
          have kp32 : gP σ43 t 2 = gP τ9 t 2 := (cσ43.O (kt.up xτ9) (by decide)).2.1
          have kp33 : gP σ43 th 5 = gP τ9 th 5 := (cσ43.O (kth.up xτ9) (by decide)).2.1
          have kp34 : gI σ43 t 0 = gI τ9 t 0 := (cσ43.O (kt.up xτ9) (by decide)).1
          have kp35 : gI σ43 th 4 = gI τ9 th 4 := (cσ43.O (kth.up xτ9) (by decide)).1
          obtain ⟨r9, eL9, hb9, n9a, n9b⟩ := take_r eT pσ43
          have laσ43 : (LLσ43 b).length + 1 = (LLt9 b).length := by rw [eL9, up1_s, eT]; rfl
          intro tyt
          have q36 := I_11_4 iσ43.1 (kth.up (xτ9.trans xσ43))
          refine ⟨by (first | omega | with_reducible assumption | with_reducible exact rng_toInt _ | with_reducible exact rng_wr _ | (unfold rng; omega) | (unfold rng at *; omega) | assumption), ?_⟩
          intro σ46 eσ46
          have xσ46 : Ext σ43 σ46 := by rw [eσ46]; exact fun _ h => ⟨h, rfl, rfl⟩
          have iσ46 : IV σ46 pl gq ci gr nc ot LLσ43 Nσ43 nuσ43 := by rw [eσ46]; exact iσ43.rec4 (kth.up (xτ9.trans xσ43)) (by omega) (by omega) (by omega)
          have fσ46 : Fx [1, 2, 3, 4, 5, 6, 7, 64, 512, 513, 514, 708, 6464] gr σ σ46 := fσ43.tr (Sk.fx (by rw [eσ46]; exact Sk.pI (by rw [fcdO (kth.up (xτ9.trans xσ43)) (by decide)]; decide)))
          have wσ46 : gI σ46 th 4 = (gI σ43 th 4 - 1) := by rw [eσ46]; exact up2_s _ _ _ _
          have kp37 : gP σ46 t 2 = gP σ43 t 2 := by rw [eσ46]
          have kp38 : gP σ46 th 5 = gP σ43 th 5 := by rw [eσ46]
          have kp39 : gI σ46 t 0 = gI σ43 t 0 := by rw [eσ46]; exact up2_n _ _ (fun q => absurd q.2 (by decide))
          refine i4_X11_goOnBy iσ46 (kth.up (xτ9.trans (xσ43.trans xσ46))) hv1 (ko.up (xτ9.trans (xσ43.trans xσ46))) hv2 (kt.up (xτ9.trans (xσ43.trans xσ46))) eb_3 (kk_b_3.up (xσ43.trans xσ46)) (by (first | omega | with_reducible assumption | with_reducible exact rng_toInt _ | with_reducible exact rng_wr _ | (unfold rng; omega) | (unfold rng at *; omega) | assumption)) (by (first | omega | with_reducible assumption | with_reducible exact rng_toInt _ | with_reducible exact rng_wr _ | (unfold rng; omega) | (unfold rng at *; omega) | assumption)) (by (first | omega | with_reducible assumption | with_reducible exact rng_toInt _ | with_reducible exact rng_wr _ | (unfold rng; omega) | (unfold rng at *; omega) | assumption)) (by (first | omega | with_reducible assumption | with_reducible exact rng_toInt _ | with_reducible exact rng_wr _ | (unfold rng; omega) | (unfold rng at *; omega) | assumption)) (fun σ47 LLσ47 Nσ47 nuσ47 _ iσ47 cσ47 uσ47 hσ47 pσ47 => ?_) (fun σx LLx Nx nux E ix cx ux px => hX σx LLx Nx nux E ix (fσ46.tr (cx.mo (by decide))) (nu_σ43.x ux) (by first | exact px | exact ⟨by have := px.1; omega, (Hn.nz hnσ43 (by first | decide | (intro x hx; simp only [List.mem_cons, List.mem_nil_iff, or_false] at hx; omega))).tr px.2.1, px.2.2⟩ | (first | omega | with_reducible assumption | with_reducible exact rng_toInt _ | with_reducible exact rng_wr _ | (unfold rng; omega) | (unfold rng at *; omega) | assumption)))
          intro xσ47
          have fσ47 : Fx [1, 2, 3, 4, 5, 6, 7, 64, 512, 513, 514, 708, 6464] gr σ σ47 := fσ46.tr (cσ47.mo (by decide))
          have hnσ47 : Hn (gD σ) [44, 41, 42] [] gq LL LLσ47 N Nσ47 := hnσ43.go hσ47 (fun d hd => (fσ46.1 d hd).1) (by first | decide | exact fun _ h => h | (simp; done) | (intro x hx; simp only [List.mem_cons, List.mem_nil_iff, or_false] at hx ⊢; omega)) (fun d hd => absurd hd (by simp))
          have hg_b_3_σ47 : ∀ x, b_3 ∉ LLσ47 x := hσ47.2.1 b_3 (kk_b_3.up (xσ43.trans xσ46)).1 (by simp) hb9
          have nσ47_3 := hσ47.2.2 3 (by first | decide | (simp; done) | (simp only [List.mem_cons, List.mem_nil_iff, or_false, not_or]; omega)) (by first | decide | omega) (by first | decide | omega) (by first | decide | omega)
          have nσ47_5 := hσ47.2.2 5 (by first | decide | (simp; done) | (simp only [List.mem_cons, List.mem_nil_iff, or_false, not_or]; omega)) (by first | decide | omega) (by first | decide | omega) (by first | decide | omega)
          have nσ47_14 := hσ47.2.2 14 (by first | decide | (simp; done) | (simp only [List.mem_cons, List.mem_nil_iff, or_false, not_or]; omega)) (by first | decide | omega) (by first | decide | omega) (by first | decide | omega)
          have nσ47_74 := hσ47.2.2 74 (by first | decide | (simp; done) | (simp only [List.mem_cons, List.mem_nil_iff, or_false, not_or]; omega)) (by first | decide | omega) (by first | decide | omega) (by first | decide | omega)
          have nσ47_11 := hσ47.2.2 11 (by first | decide | (simp; done) | (simp only [List.mem_cons, List.mem_nil_iff, or_false, not_or]; omega)) (by first | decide | omega) (by first | decide | omega) (by first | decide | omega)
          have nσ47_12 := hσ47.2.2 12 (by first | decide | (simp; done) | (simp only [List.mem_cons, List.mem_nil_iff, or_false, not_or]; omega)) (by first | decide | omega) (by first | decide | omega) (by first | decide | omega)
          have nσ47_41 := hσ47.2.2 41 (by first | decide | (simp; done) | (simp only [List.mem_cons, List.mem_nil_iff, or_false, not_or]; omega)) (by first | decide | omega) (by first | decide | omega) (by first | decide | omega)
          have nσ47_13 := hσ47.2.2 13 (by first | decide | (simp; done) | (simp only [List.mem_cons, List.mem_nil_iff, or_false, not_or]; omega)) (by first | decide | omega) (by first | decide | omega) (by first | decide | omega)
          have nu_σ47 : NU nu nuσ47 := nu_σ43.tr uσ47
          have uσ47_0 := uσ47.1 0 (by decide)
          have uσ47_1 := uσ47.1 1 (by decide)
          have uσ47_2 := uσ47.2
          have uσ47_5 := uσ47.1 5 (by decide)
          have uσ47_15 := uσ47.1 15 (by decide)
          have uσ47_16 := uσ47.1 16 (by decide)
          have kp40 : gP σ47 t 2 = gP σ46 t 2 := (cσ47.O (kt.up (xτ9.trans (xσ43.trans xσ46))) (by decide)).2.1
          have kp41 : gP σ47 th 5 = gP σ46 th 5 := (cσ47.O (kth.up (xτ9.trans (xσ43.trans xσ46))) (by decide)).2.1
          have kp42 : gI σ47 t 0 = gI σ46 t 0 := (cσ47.O (kt.up (xτ9.trans (xσ43.trans xσ46))) (by decide)).1
          have laσ47 : (LLσ47 b).length = (LLσ43 b).length := by rw [hσ47.1 b (mb.up (xτ9.trans (xσ43.trans xσ46))).1 (by first | (simp; done) | (simp only [List.mem_cons, List.mem_nil_iff, or_false, not_or]; omega)) (by omega)]
          refine ⟨b_3, eb_3, fun kk_b_3_1 => ?_⟩
          have q45 := iσ47.rg b_3 2; unfold rng at q45
          by_cases hc43 : (andI (gI σ47 b_3 2) 1) = 0
          · rw [if_pos hc43]
            unfold w_X11_matchUpTo_114
            obtain ⟨b_6, eb_6⟩ := P_11_0 iσ47.1 (kth.up (xτ9.trans (xσ43.trans (xσ46.trans xσ47))))
            refine ⟨b_6, eb_6, fun kk_b_6_1 => ?_⟩
            refine i_X8_release iσ47 kk_b_6_1 eb_3 (kk_b_3.up (xσ43.trans (xσ46.trans xσ47))) (by (first | omega | with_reducible assumption | with_reducible exact rng_toInt _ | with_reducible exact rng_wr _ | (unfold rng; omega) | (unfold rng at *; omega) | assumption)) (by (first | omega | with_reducible assumption | with_reducible exact rng_toInt _ | with_reducible exact rng_wr _ | (unfold rng; omega) | (unfold rng at *; omega) | assumption)) (fun σ59 LLσ59 Nσ59 nuσ59 _ iσ59 cσ59 uσ59 hσ59 pσ59 => ?_)
            intro xσ59
            have fσ59 : Fx [1, 2, 3, 4, 5, 6, 7, 64, 512, 513, 514, 708, 6464] gr σ σ59 := fσ47.tr (cσ59.mo (by decide))
            have hnσ59 : Hn (gD σ) [44, 41, 42] [] gq LL LLσ59 N Nσ59 := hnσ47.go hσ59 (fun d hd => (fσ47.1 d hd).1) (by first | decide | exact fun _ h => h | (simp; done) | (intro x hx; simp only [List.mem_cons, List.mem_nil_iff, or_false] at hx ⊢; omega)) (fun d hd => by rw [List.mem_singleton.mp hd]; exact lo_b_3)
            have nσ59_3 := hσ59.2.2 3 (by first | decide | (simp; done) | (simp only [List.mem_cons, List.mem_nil_iff, or_false, not_or]; omega)) (by first | decide | omega) (by first | decide | omega) (by first | decide | omega)
            have nσ59_5 := hσ59.2.2 5 (by first | decide | (simp; done) | (simp only [List.mem_cons, List.mem_nil_iff, or_false, not_or]; omega)) (by first | decide | omega) (by first | decide | omega) (by first | decide | omega)
            have nσ59_14 := hσ59.2.2 14 (by first | decide | (simp; done) | (simp only [List.mem_cons, List.mem_nil_iff, or_false, not_or]; omega)) (by first | decide | omega) (by first | decide | omega) (by first | decide | omega)
            have nσ59_44 := hσ59.2.2 44 (by first | decide | (simp; done) | (simp only [List.mem_cons, List.mem_nil_iff, or_false, not_or]; omega)) (by first | decide | omega) (by first | decide | omega) (by first | decide | omega)
            have nσ59_74 := hσ59.2.2 74 (by first | decide | (simp; done) | (simp only [List.mem_cons, List.mem_nil_iff, or_false, not_or]; omega)) (by first | decide | omega) (by first | decide | omega) (by first | decide | omega)
            have nσ59_11 := hσ59.2.2 11 (by first | decide | (simp; done) | (simp only [List.mem_cons, List.mem_nil_iff, or_false, not_or]; omega)) (by first | decide | omega) (by first | decide | omega) (by first | decide | omega)
            have nσ59_12 := hσ59.2.2 12 (by first | decide | (simp; done) | (simp only [List.mem_cons, List.mem_nil_iff, or_false, not_or]; omega)) (by first | decide | omega) (by first | decide | omega) (by first | decide | omega)
            have nσ59_41 := hσ59.2.2 41 (by first | decide | (simp; done) | (simp only [List.mem_cons, List.mem_nil_iff, or_false, not_or]; omega)) (by first | decide | omega) (by first | decide | omega) (by first | decide | omega)
            have nσ59_42 := hσ59.2.2 42 (by first | decide | (simp; done) | (simp only [List.mem_cons, List.mem_nil_iff, or_false, not_or]; omega)) (by first | decide | omega) (by first | decide | omega) (by first | decide | omega)
            have nσ59_13 := hσ59.2.2 13 (by first | decide | (simp; done) | (simp only [List.mem_cons, List.mem_nil_iff, or_false, not_or]; omega)) (by first | decide | omega) (by first | decide | omega) (by first | decide | omega)
            have nu_σ59 : NU nu nuσ59 := nu_σ47.tr uσ59
            have uσ59_0 := uσ59.1 0 (by decide)
            have uσ59_1 := uσ59.1 1 (by decide)
            have uσ59_2 := uσ59.2
            have uσ59_5 := uσ59.1 5 (by decide)
            have uσ59_15 := uσ59.1 15 (by decide)
            have uσ59_16 := uσ59.1 16 (by decide)
            have kp46 : gI σ59 b_3 2 = gI σ47 b_3 2 := (cσ59.O (kk_b_3.up (xσ43.trans (xσ46.trans xσ47))) (by decide)).1
            have kp47 : gP σ59 t 2 = gP σ47 t 2 := (cσ59.O (kt.up (xτ9.trans (xσ43.trans (xσ46.trans xσ47)))) (by decide)).2.1
            have kp48 : gP σ59 th 0 = gP σ47 th 0 := (cσ59.O (kth.up (xτ9.trans (xσ43.trans (xσ46.trans xσ47)))) (by decide)).2.1
            have kp49 : gP σ59 th 5 = gP σ47 th 5 := (cσ59.O (kth.up (xτ9.trans (xσ43.trans (xσ46.trans xσ47)))) (by decide)).2.1
            have kp50 : gI σ59 t 0 = gI σ47 t 0 := (cσ59.O (kt.up (xτ9.trans (xσ43.trans (xσ46.trans xσ47)))) (by decide)).1
            have kp51 : gI σ59 th 4 = gI σ47 th 4 := (cσ59.O (kth.up (xτ9.trans (xσ43.trans (xσ46.trans xσ47)))) (by decide)).1
            have laσ59 : (LLσ59 b).length = (LLσ47 b).length := by rw [hσ59.1 b (mb.up (xτ9.trans (xσ43.trans (xσ46.trans xσ47)))).1 (by first | (simp; done) | (simp only [List.mem_cons, List.mem_nil_iff, or_false, not_or]; omega)) (by omega)]
            refine ⟨t, hv2, fun kk_t_6 => ?_⟩
            refine ⟨b, (kp47.trans (kp40.trans (kp37.trans (kp32.trans (kp1.trans eb))))), fun kk_b_7 => ?_⟩
            exact ih9 σ59 LLσ59 Nσ59 nuσ59 (gP σ59 b 0) iσ59 fσ59 (xτ9.trans (xσ43.trans (xσ46.trans (xσ47.trans xσ59)))) nu_σ59 hnσ59 (⟨iσ59.first (mb.up (xτ9.trans (xσ43.trans (xσ46.trans (xσ47.trans xσ59))))), by omega, by omega⟩) (by (first | omega | with_reducible assumption | with_reducible exact rng_toInt _ | with_reducible exact rng_wr _ | (unfold rng; omega) | (unfold rng at *; omega) | assumption))
          · rw [if_neg hc43]
            unfold w_X11_matchUpTo_60
            obtain ⟨b_7, eb_7⟩ := P_11_0 iσ47.1 (kth.up (xτ9.trans (xσ43.trans (xσ46.trans xσ47))))
            refine ⟨b_7, eb_7, fun kk_b_7_1 => ?_⟩
            refine i_X8_fresh iσ47 kk_b_7_1 (by (first | omega | with_reducible assumption | with_reducible exact rng_toInt _ | with_reducible exact rng_wr _ | (unfold rng; omega) | (unfold rng at *; omega) | assumption)) (fun σ49 LLσ49 Nσ49 nuσ49 c_σ49 iσ49 cσ49 uσ49 hσ49 pσ49 => ?_)
            intro xσ49
            have fσ49 : Fx [1, 2, 3, 4, 5, 6, 7, 64, 512, 513, 514, 708, 6464] gr σ σ49 := fσ47.tr (cσ49.mo (by decide))
            have hnσ49 : Hn (gD σ) [44, 41, 42] [] gq LL LLσ49 N Nσ49 := hnσ47.go hσ49 (fun d hd => (fσ47.1 d hd).1) (by first | decide | exact fun _ h => h | (simp; done) | (intro x hx; simp only [List.mem_cons, List.mem_nil_iff, or_false] at hx ⊢; omega)) (fun d hd => absurd hd (by simp))
            have ne_b_3_c_σ49 : b_3 ≠ c_σ49 := pσ49.2.1 b_3 (kk_b_3.up (xσ43.trans (xσ46.trans xσ47))) hg_b_3_σ47
            have hg_b_3_σ49 : ∀ x, b_3 ∉ LLσ49 x := hσ49.2.1 b_3 (kk_b_3.up (xσ43.trans (xσ46.trans xσ47))).1 (by simp) hg_b_3_σ47
            have hf_c_σ49 : ∀ x, c_σ49 ∉ LLσ49 x := pσ49.1
            have lo_c_σ49 : Lo [] (gD σ) LL c_σ49 := hnσ47.loc (fun d hd => (fσ47.1 d hd).1) pσ49.2.2.1
            have nσ49_3 := hσ49.2.2 3 (by first | decide | (simp; done) | (simp only [List.mem_cons, List.mem_nil_iff, or_false, not_or]; omega)) (by first | decide | omega) (by first | decide | omega) (by first | decide | omega)
            have nσ49_5 := hσ49.2.2 5 (by first | decide | (simp; done) | (simp only [List.mem_cons, List.mem_nil_iff, or_false, not_or]; omega)) (by first | decide | omega) (by first | decide | omega) (by first | decide | omega)
            have nσ49_14 := hσ49.2.2 14 (by first | decide | (simp; done) | (simp only [List.mem_cons, List.mem_nil_iff, or_false, not_or]; omega)) (by first | decide | omega) (by first | decide | omega) (by first | decide | omega)
            have nσ49_44 := hσ49.2.2 44 (by first | decide | (simp; done) | (simp only [List.mem_cons, List.mem_nil_iff, or_false, not_or]; omega)) (by first | decide | omega) (by first | decide | omega) (by first | decide | omega)
            have nσ49_74 := hσ49.2.2 74 (by first | decide | (simp; done) | (simp only [List.mem_cons, List.mem_nil_iff, or_false, not_or]; omega)) (by first | decide | omega) (by first | decide | omega) (by first | decide | omega)
            have nσ49_11 := hσ49.2.2 11 (by first | decide | (simp; done) | (simp only [List.mem_cons, List.mem_nil_iff, or_false, not_or]; omega)) (by first | decide | omega) (by first | decide | omega) (by first | decide | omega)
            have nσ49_12 := hσ49.2.2 12 (by first | decide | (simp; done) | (simp only [List.mem_cons, List.mem_nil_iff, or_false, not_or]; omega)) (by first | decide | omega) (by first | decide | omega) (by first | decide | omega)
            have nσ49_41 := hσ49.2.2 41 (by first | decide | (simp; done) | (simp only [List.mem_cons, List.mem_nil_iff, or_false, not_or]; omega)) (by first | decide | omega) (by first | decide | omega) (by first | decide | omega)
            have nσ49_42 := hσ49.2.2 42 (by first | decide | (simp; done) | (simp only [List.mem_cons, List.mem_nil_iff, or_false, not_or]; omega)) (by first | decide | omega) (by first | decide | omega) (by first | decide | omega)
            have nσ49_13 := hσ49.2.2 13 (by first | decide | (simp; done) | (simp only [List.mem_cons, List.mem_nil_iff, or_false, not_or]; omega)) (by first | decide | omega) (by first | decide | omega) (by first | decide | omega)
            have nu_σ49 : NU nu nuσ49 := nu_σ47.tr uσ49
            have uσ49_0 := uσ49.1 0 (by decide)
            have uσ49_1 := uσ49.1 1 (by decide)
            have uσ49_2 := uσ49.2
            have uσ49_5 := uσ49.1 5 (by decide)
            have uσ49_15 := uσ49.1 15 (by decide)
            have uσ49_16 := uσ49.1 16 (by decide)
            have kp52 : gP σ49 t 2 = gP σ47 t 2 := (cσ49.O (kt.up (xτ9.trans (xσ43.trans (xσ46.trans xσ47)))) (by decide)).2.1
            have kp53 : gP σ49 th 0 = gP σ47 th 0 := (cσ49.O (kth.up (xτ9.trans (xσ43.trans (xσ46.trans xσ47)))) (by decide)).2.1
            have kp54 : gP σ49 th 5 = gP σ47 th 5 := (cσ49.O (kth.up (xτ9.trans (xσ43.trans (xσ46.trans xσ47)))) (by decide)).2.1
            have kp55 : gI σ49 t 0 = gI σ47 t 0 := (cσ49.O (kt.up (xτ9.trans (xσ43.trans (xσ46.trans xσ47)))) (by decide)).1
            have kp56 : gI σ49 th 4 = gI σ47 th 4 := (cσ49.O (kth.up (xτ9.trans (xσ43.trans (xσ46.trans xσ47)))) (by decide)).1
            have laσ49 : (LLσ49 b).length = (LLσ47 b).length := by rw [hσ49.1 b (mb.up (xτ9.trans (xσ43.trans (xσ46.trans xσ47)))).1 (by first | (simp; done) | (simp only [List.mem_cons, List.mem_nil_iff, or_false, not_or]; omega)) (by omega)]
            intro tyt_1
            have krc_σ49 : kO σ49 c_σ49 0 := tyt_1 c_σ49 rfl
            refine ⟨b_3, eb_3, fun kk_b_3_2 => ?_⟩
            refine ⟨c_σ49, rfl, fun kk_c_σ49 => ?_⟩
            intro σ54 eσ54
            have xσ54 : Ext σ49 σ54 := by rw [eσ54]; exact fun _ h => ⟨h, rfl, rfl⟩
            have iσ54 : IV σ54 pl gq ci gr nc ot LLσ49 Nσ49 nuσ49 := by rw [eσ54]; exact iσ49.wJ krc_σ49 (by decide)
            have fσ54 : Fx [1, 2, 3, 4, 5, 6, 7, 64, 512, 513, 514, 708, 6464] gr σ σ54 := fσ49.tr (Sk.fx (by rw [eσ54]; exact Sk.pJ (by rw [fcdO krc_σ49 (by decide)]; decide)))
            have kp57 : gP σ54 t 2 = gP σ49 t 2 := by rw [eσ54]
            have kp58 : gP σ54 th 0 = gP σ49 th 0 := by rw [eσ54]
            have kp59 : gP σ54 th 5 = gP σ49 th 5 := by rw [eσ54]
            have kp60 : gI σ54 t 0 = gI σ49 t 0 := by rw [eσ54]
            have kp61 : gI σ54 th 4 = gI σ49 th 4 := by rw [eσ54]
            intro σ55 eσ55
            have xσ55 : Ext σ54 σ55 := by rw [eσ55]; exact fun _ h => ⟨h, rfl, rfl⟩
            have iσ55 : IV σ55 pl gq ci gr nc ot LLσ49 Nσ49 nuσ49 := by rw [eσ55]; exact iσ54.wT (krc_σ49.up xσ54) (by decide) (iσ54.t5 (kk_b_3.up (xσ43.trans (xσ46.trans (xσ47.trans (xσ49.trans xσ54))))))
            have fσ55 : Fx [1, 2, 3, 4, 5, 6, 7, 64, 512, 513, 514, 708, 6464] gr σ σ55 := fσ54.tr (Sk.fx (by rw [eσ55]; exact Sk.pJ (by rw [fcdO (krc_σ49.up xσ54) (by decide)]; decide)))
            have kp62 : gP σ55 t 2 = gP σ54 t 2 := by rw [eσ55]
            have kp63 : gP σ55 th 0 = gP σ54 th 0 := by rw [eσ55]
            have kp64 : gP σ55 th 5 = gP σ54 th 5 := by rw [eσ55]
            have kp65 : gI σ55 t 0 = gI σ54 t 0 := by rw [eσ55]
            have kp66 : gI σ55 th 4 = gI σ54 th 4 := by rw [eσ55]
            intro σ56 eσ56
            have xσ56 : Ext σ55 σ56 := by rw [eσ56]; exact fun _ h => ⟨h, rfl, rfl⟩
            have iσ56 : IV σ56 pl gq ci gr nc ot LLσ49 Nσ49 nuσ49 := by rw [eσ56]; exact iσ55.wO (krc_σ49.up (xσ54.trans xσ55)) (by decide) (rngb (by first | exact rng_wr _ | (first | omega | with_reducible assumption | with_reducible exact rng_toInt _ | with_reducible exact rng_wr _ | (unfold rng; omega) | (unfold rng at *; omega) | assumption)))
            have fσ56 : Fx [1, 2, 3, 4, 5, 6, 7, 64, 512, 513, 514, 708, 6464] gr σ σ56 := fσ55.tr (Sk.fx (by rw [eσ56]; exact Sk.pI (by rw [fcdO (krc_σ49.up (xσ54.trans xσ55)) (by decide)]; decide)))
            have wσ56 : gI σ56 c_σ49 2 = 1 := by rw [eσ56]; exact up2_s _ _ _ _
            have kp67 : gP σ56 t 2 = gP σ55 t 2 := by rw [eσ56]
            have kp68 : gP σ56 th 0 = gP σ55 th 0 := by rw [eσ56]
            have kp69 : gP σ56 th 5 = gP σ55 th 5 := by rw [eσ56]
            have kp70 : gI σ56 t 0 = gI σ55 t 0 := by rw [eσ56]; exact up2_n _ _ (fun q => absurd q.2 (by decide))
            have kp71 : gI σ56 th 4 = gI σ55 th 4 := by rw [eσ56]; exact up2_n _ _ (fun q => absurd q.2 (by decide))
            intro σ57 eσ57
            have xσ57 : Ext σ56 σ57 := by rw [eσ57]; exact fun _ h => ⟨h, rfl, rfl⟩
            have q72 := I_0_4 iσ56.1 (kk_b_3.up (xσ43.trans (xσ46.trans (xσ47.trans (xσ49.trans (xσ54.trans (xσ55.trans xσ56)))))))
            have iσ57 : IV σ57 pl gq ci gr nc ot LLσ49 Nσ49 nuσ49 := by rw [eσ57]; exact iσ56.wO (krc_σ49.up (xσ54.trans (xσ55.trans xσ56))) (by decide) (show (-1 : Int) ≤ (gI σ56 b_3 4) ∧ (gI σ56 b_3 4) ≤ (nuσ49 2 : Int) - 1 from ⟨by (first | omega | with_reducible assumption | with_reducible exact rng_toInt _ | with_reducible exact rng_wr _ | (unfold rng; omega) | (unfold rng at *; omega) | assumption), by (first | omega | with_reducible assumption | with_reducible exact rng_toInt _ | with_reducible exact rng_wr _ | (unfold rng; omega) | (unfold rng at *; omega) | assumption)⟩)
            have fσ57 : Fx [1, 2, 3, 4, 5, 6, 7, 64, 512, 513, 514, 708, 6464] gr σ σ57 := fσ56.tr (Sk.fx (by rw [eσ57]; exact Sk.pI (by rw [fcdO (krc_σ49.up (xσ54.trans (xσ55.trans xσ56))) (by decide)]; decide)))
            have wσ57 : gI σ57 c_σ49 4 = (gI σ56 b_3 4) := by rw [eσ57]; exact up2_s _ _ _ _
            have kp73 : gI σ57 c_σ49 2 = gI σ56 c_σ49 2 := by rw [eσ57]; exact up2_n _ _ (fun q => absurd q.2 (by decide))
            have kp74 : gP σ57 t 2 = gP σ56 t 2 := by rw [eσ57]
            have kp75 : gP σ57 th 0 = gP σ56 th 0 := by rw [eσ57]
            have kp76 : gP σ57 th 5 = gP σ56 th 5 := by rw [eσ57]
            have kp77 : gI σ57 t 0 = gI σ56 t 0 := by rw [eσ57]; exact up2_n _ _ (fun q => absurd q.2 (by decide))
            have kp78 : gI σ57 th 4 = gI σ56 th 4 := by rw [eσ57]; exact up2_n _ _ (fun q => absurd q.1 (kO.ne (kth.up (xτ9.trans (xσ43.trans (xσ46.trans (xσ47.trans (xσ49.trans (xσ54.trans (xσ55.trans xσ56)))))))) (krc_σ49.up (xσ54.trans (xσ55.trans xσ56))) (by decide)))
            refine i4_X11_keep (G0 := 42) iσ57 (kth.up (xτ9.trans (xσ43.trans (xσ46.trans (xσ47.trans (xσ49.trans (xσ54.trans (xσ55.trans (xσ56.trans xσ57))))))))) hv1 (ko.up (xτ9.trans (xσ43.trans (xσ46.trans (xσ47.trans (xσ49.trans (xσ54.trans (xσ55.trans (xσ56.trans xσ57))))))))) hv2 (kt.up (xτ9.trans (xσ43.trans (xσ46.trans (xσ47.trans (xσ49.trans (xσ54.trans (xσ55.trans (xσ56.trans xσ57))))))))) rfl (krc_σ49.up (xσ54.trans (xσ55.trans (xσ56.trans xσ57)))) (by (first | omega | with_reducible assumption | with_reducible exact rng_toInt _ | with_reducible exact rng_wr _ | (unfold rng; omega) | (unfold rng at *; omega) | assumption)) (by (first | omega | with_reducible assumption | with_reducible exact rng_toInt _ | with_reducible exact rng_wr _ | (unfold rng; omega) | (unfold rng at *; omega) | assumption)) (by (first | omega | with_reducible assumption | with_reducible exact rng_toInt _ | with_reducible exact rng_wr _ | (unfold rng; omega) | (unfold rng at *; omega) | assumption)) (kp76.trans (kp69.trans (kp64.trans (kp59.trans (kp54.trans (kp41.trans (kp38.trans (kp33.trans (kp2.trans hj))))))))) (kJ.up (xτ9.trans (xσ43.trans (xσ46.trans (xσ47.trans (xσ49.trans (xσ54.trans (xσ55.trans (xσ56.trans xσ57))))))))) (by (first | omega | with_reducible assumption | with_reducible exact rng_toInt _ | with_reducible exact rng_wr _ | (unfold rng; omega) | (unfold rng at *; omega) | assumption)) (by (first | omega | with_reducible assumption | with_reducible exact rng_toInt _ | with_reducible exact rng_wr _ | (unfold rng; omega) | (unfold rng at *; omega) | assumption)) (by (first | omega | with_reducible assumption | with_reducible exact rng_toInt _ | with_reducible exact rng_wr _ | (unfold rng; omega) | (unfold rng at *; omega) | assumption)) (by (first | omega | with_reducible assumption | with_reducible exact rng_toInt _ | with_reducible exact rng_wr _ | (unfold rng; omega) | (unfold rng at *; omega) | assumption)) (by (first | omega | with_reducible assumption | with_reducible exact rng_toInt _ | with_reducible exact rng_wr _ | (unfold rng; omega) | (unfold rng at *; omega) | assumption)) (by (first | omega | with_reducible assumption | with_reducible exact rng_toInt _ | with_reducible exact rng_wr _ | (unfold rng; omega) | (unfold rng at *; omega) | assumption)) (Or.inr ⟨by decide, rfl⟩) (fun σ58 LLσ58 Nσ58 nuσ58 _ iσ58 cσ58 uσ58 hσ58 pσ58 => ?_) (fun σx LLx Nx nux E ix cx ux px => hX σx LLx Nx nux E ix (fσ57.tr (cx.mo (by decide))) (nu_σ49.x ux) (by first | exact px | exact ⟨by have := px.1; omega, (Hn.nz hnσ49 (by first | decide | (intro x hx; simp only [List.mem_cons, List.mem_nil_iff, or_false] at hx; omega))).tr px.2.1, px.2.2⟩ | (first | omega | with_reducible assumption | with_reducible exact rng_toInt _ | with_reducible exact rng_wr _ | (unfold rng; omega) | (unfold rng at *; omega) | assumption)))
            intro xσ58
            have fσ58 : Fx [1, 2, 3, 4, 5, 6, 7, 64, 512, 513, 514, 708, 6464] gr σ σ58 := fσ57.tr (cσ58.mo (by decide))
            have hnσ58 : Hn (gD σ) [44, 41, 42] [] gq LL LLσ58 N Nσ58 := hnσ49.go hσ58 (fun d hd => (fσ57.1 d hd).1) (by first | decide | exact fun _ h => h | (simp; done) | (intro x hx; simp only [List.mem_cons, List.mem_nil_iff, or_false] at hx ⊢; omega)) (fun d hd => by rw [List.mem_singleton.mp hd]; exact lo_c_σ49)
            have hg_b_3_σ58 : ∀ x, b_3 ∉ LLσ58 x := hσ58.2.1 b_3 (kk_b_3.up (xσ43.trans (xσ46.trans (xσ47.trans (xσ49.trans (xσ54.trans (xσ55.trans (xσ56.trans xσ57)))))))).1 (by simp only [List.mem_cons, List.mem_nil_iff, or_false, not_or]; first | omega | (exact fun q => absurd q.symm (by assumption))) hg_b_3_σ49
            have nσ58_3 := hσ58.2.2 3 (by first | decide | (simp; done) | (simp only [List.mem_cons, List.mem_nil_iff, or_false, not_or]; omega)) (by first | decide | omega) (by first | decide | omega) (by first | decide | omega)
            have nσ58_5 := hσ58.2.2 5 (by first | decide | (simp; done) | (simp only [List.mem_cons, List.mem_nil_iff, or_false, not_or]; omega)) (by first | decide | omega) (by first | decide | omega) (by first | decide | omega)
            have nσ58_14 := hσ58.2.2 14 (by first | decide | (simp; done) | (simp only [List.mem_cons, List.mem_nil_iff, or_false, not_or]; omega)) (by first | decide | omega) (by first | decide | omega) (by first | decide | omega)
            have nσ58_44 := hσ58.2.2 44 (by first | decide | (simp; done) | (simp only [List.mem_cons, List.mem_nil_iff, or_false, not_or]; omega)) (by first | decide | omega) (by first | decide | omega) (by first | decide | omega)
            have nσ58_74 := hσ58.2.2 74 (by first | decide | (simp; done) | (simp only [List.mem_cons, List.mem_nil_iff, or_false, not_or]; omega)) (by first | decide | omega) (by first | decide | omega) (by first | decide | omega)
            have nσ58_11 := hσ58.2.2 11 (by first | decide | (simp; done) | (simp only [List.mem_cons, List.mem_nil_iff, or_false, not_or]; omega)) (by first | decide | omega) (by first | decide | omega) (by first | decide | omega)
            have nσ58_12 := hσ58.2.2 12 (by first | decide | (simp; done) | (simp only [List.mem_cons, List.mem_nil_iff, or_false, not_or]; omega)) (by first | decide | omega) (by first | decide | omega) (by first | decide | omega)
            have nσ58_41 := hσ58.2.2 41 (by first | decide | (simp; done) | (simp only [List.mem_cons, List.mem_nil_iff, or_false, not_or]; omega)) (by first | decide | omega) (by first | decide | omega) (by first | decide | omega)
            have nσ58_13 := hσ58.2.2 13 (by first | decide | (simp; done) | (simp only [List.mem_cons, List.mem_nil_iff, or_false, not_or]; omega)) (by first | decide | omega) (by first | decide | omega) (by first | decide | omega)
            have nu_σ58 : NU nu nuσ58 := nu_σ49.tr uσ58
            have uσ58_0 := uσ58.1 0 (by decide)
            have uσ58_1 := uσ58.1 1 (by decide)
            have uσ58_2 := uσ58.2
            have uσ58_5 := uσ58.1 5 (by decide)
            have uσ58_15 := uσ58.1 15 (by decide)
            have uσ58_16 := uσ58.1 16 (by decide)
            have kp79 : gI σ58 c_σ49 2 = gI σ57 c_σ49 2 := (cσ58.O (krc_σ49.up (xσ54.trans (xσ55.trans (xσ56.trans xσ57)))) (by decide)).1
            have kp80 : gI σ58 c_σ49 4 = gI σ57 c_σ49 4 := (cσ58.O (krc_σ49.up (xσ54.trans (xσ55.trans (xσ56.trans xσ57)))) (by decide)).1
            have kp81 : gP σ58 t 2 = gP σ57 t 2 := (cσ58.O (kt.up (xτ9.trans (xσ43.trans (xσ46.trans (xσ47.trans (xσ49.trans (xσ54.trans (xσ55.trans (xσ56.trans xσ57))))))))) (by decide)).2.1
            have kp82 : gP σ58 th 0 = gP σ57 th 0 := (cσ58.O (kth.up (xτ9.trans (xσ43.trans (xσ46.trans (xσ47.trans (xσ49.trans (xσ54.trans (xσ55.trans (xσ56.trans xσ57))))))))) (by decide)).2.1
            have kp83 : gP σ58 th 5 = gP σ57 th 5 := (cσ58.O (kth.up (xτ9.trans (xσ43.trans (xσ46.trans (xσ47.trans (xσ49.trans (xσ54.trans (xσ55.trans (xσ56.trans xσ57))))))))) (by decide)).2.1
            have kp84 : gI σ58 t 0 = gI σ57 t 0 := (cσ58.O (kt.up (xτ9.trans (xσ43.trans (xσ46.trans (xσ47.trans (xσ49.trans (xσ54.trans (xσ55.trans (xσ56.trans xσ57))))))))) (by decide)).1
            have laσ58 : (LLσ58 b).length = (LLσ49 b).length := by rw [hσ58.1 b (mb.up (xτ9.trans (xσ43.trans (xσ46.trans (xσ47.trans (xσ49.trans (xσ54.trans (xσ55.trans (xσ56.trans xσ57))))))))).1 (by first | (simp; done) | (simp only [List.mem_cons, List.mem_nil_iff, or_false, not_or]; omega)) (by omega)]
            unfold w_X11_matchUpTo_114
            refine ⟨b_7, (kp82.trans (kp75.trans (kp68.trans (kp63.trans (kp58.trans (kp53.trans eb_7)))))), fun kk_b_7_2 => ?_⟩
            refine i_X8_release iσ58 (kk_b_7_1.up (xσ49.trans (xσ54.trans (xσ55.trans (xσ56.trans (xσ57.trans xσ58)))))) eb_3 (kk_b_3.up (xσ43.trans (xσ46.trans (xσ47.trans (xσ49.trans (xσ54.trans (xσ55.trans (xσ56.trans (xσ57.trans xσ58))))))))) (by (first | omega | with_reducible assumption | with_reducible exact rng_toInt _ | with_reducible exact rng_wr _ | (unfold rng; omega) | (unfold rng at *; omega) | assumption)) (by (first | omega | with_reducible assumption | with_reducible exact rng_toInt _ | with_reducible exact rng_wr _ | (unfold rng; omega) | (unfold rng at *; omega) | assumption)) (fun σ59_1 LLσ59_1 Nσ59_1 nuσ59_1 _ iσ59_1 cσ59_1 uσ59_1 hσ59_1 pσ59_1 => ?_)
            intro xσ59_1
            have fσ59_1 : Fx [1, 2, 3, 4, 5, 6, 7, 64, 512, 513, 514, 708, 6464] gr σ σ59_1 := fσ58.tr (cσ59_1.mo (by decide))
            have hnσ59_1 : Hn (gD σ) [44, 41, 42] [] gq LL LLσ59_1 N Nσ59_1 := hnσ58.go hσ59_1 (fun d hd => (fσ58.1 d hd).1) (by first | decide | exact fun _ h => h | (simp; done) | (intro x hx; simp only [List.mem_cons, List.mem_nil_iff, or_false] at hx ⊢; omega)) (fun d hd => by rw [List.mem_singleton.mp hd]; exact lo_b_3)
            have nσ59_1_3 := hσ59_1.2.2 3 (by first | decide | (simp; done) | (simp only [List.mem_cons, List.mem_nil_iff, or_false, not_or]; omega)) (by first | decide | omega) (by first | decide | omega) (by first | decide | omega)
            have nσ59_1_5 := hσ59_1.2.2 5 (by first | decide | (simp; done) | (simp only [List.mem_cons, List.mem_nil_iff, or_false, not_or]; omega)) (by first | decide | omega) (by first | decide | omega) (by first | decide | omega)
            have nσ59_1_14 := hσ59_1.2.2 14 (by first | decide | (simp; done) | (simp only [List.mem_cons, List.mem_nil_iff, or_false, not_or]; omega)) (by first | decide | omega) (by first | decide | omega) (by first | decide | omega)
            have nσ59_1_44 := hσ59_1.2.2 44 (by first | decide | (simp; done) | (simp only [List.mem_cons, List.mem_nil_iff, or_false, not_or]; omega)) (by first | decide | omega) (by first | decide | omega) (by first | decide | omega)
            have nσ59_1_74 := hσ59_1.2.2 74 (by first | decide | (simp; done) | (simp only [List.mem_cons, List.mem_nil_iff, or_false, not_or]; omega)) (by first | decide | omega) (by first | decide | omega) (by first | decide | omega)
            have nσ59_1_11 := hσ59_1.2.2 11 (by first | decide | (simp; done) | (simp only [List.mem_cons, List.mem_nil_iff, or_false, not_or]; omega)) (by first | decide | omega) (by first | decide | omega) (by first | decide | omega)
            have nσ59_1_12 := hσ59_1.2.2 12 (by first | decide | (simp; done) | (simp only [List.mem_cons, List.mem_nil_iff, or_false, not_or]; omega)) (by first | decide | omega) (by first | decide | omega) (by first | decide | omega)
            have nσ59_1_41 := hσ59_1.2.2 41 (by first | decide | (simp; done) | (simp only [List.mem_cons, List.mem_nil_iff, or_false, not_or]; omega)) (by first | decide | omega) (by first | decide | omega) (by first | decide | omega)
            have nσ59_1_42 := hσ59_1.2.2 42 (by first | decide | (simp; done) | (simp only [List.mem_cons, List.mem_nil_iff, or_false, not_or]; omega)) (by first | decide | omega) (by first | decide | omega) (by first | decide | omega)
            have nσ59_1_13 := hσ59_1.2.2 13 (by first | decide | (simp; done) | (simp only [List.mem_cons, List.mem_nil_iff, or_false, not_or]; omega)) (by first | decide | omega) (by first | decide | omega) (by first | decide | omega)
            have nu_σ59_1 : NU nu nuσ59_1 := nu_σ58.tr uσ59_1
            have uσ59_1_0 := uσ59_1.1 0 (by decide)
            have uσ59_1_1 := uσ59_1.1 1 (by decide)
            have uσ59_1_2 := uσ59_1.2
            have uσ59_1_5 := uσ59_1.1 5 (by decide)
            have uσ59_1_15 := uσ59_1.1 15 (by decide)
            have uσ59_1_16 := uσ59_1.1 16 (by decide)
            have kp85 : gI σ59_1 c_σ49 2 = gI σ58 c_σ49 2 := (cσ59_1.O (krc_σ49.up (xσ54.trans (xσ55.trans (xσ56.trans (xσ57.trans xσ58))))) (by decide)).1
            have kp86 : gI σ59_1 c_σ49 4 = gI σ58 c_σ49 4 := (cσ59_1.O (krc_σ49.up (xσ54.trans (xσ55.trans (xσ56.trans (xσ57.trans xσ58))))) (by decide)).1
            have kp87 : gP σ59_1 t 2 = gP σ58 t 2 := (cσ59_1.O (kt.up (xτ9.trans (xσ43.trans (xσ46.trans (xσ47.trans (xσ49.trans (xσ54.trans (xσ55.trans (xσ56.trans (xσ57.trans xσ58)))))))))) (by decide)).2.1
            have kp88 : gP σ59_1 th 0 = gP σ58 th 0 := (cσ59_1.O (kth.up (xτ9.trans (xσ43.trans (xσ46.trans (xσ47.trans (xσ49.trans (xσ54.trans (xσ55.trans (xσ56.trans (xσ57.trans xσ58)))))))))) (by decide)).2.1
            have kp89 : gP σ59_1 th 5 = gP σ58 th 5 := (cσ59_1.O (kth.up (xτ9.trans (xσ43.trans (xσ46.trans (xσ47.trans (xσ49.trans (xσ54.trans (xσ55.trans (xσ56.trans (xσ57.trans xσ58)))))))))) (by decide)).2.1
            have kp90 : gI σ59_1 t 0 = gI σ58 t 0 := (cσ59_1.O (kt.up (xτ9.trans (xσ43.trans (xσ46.trans (xσ47.trans (xσ49.trans (xσ54.trans (xσ55.trans (xσ56.trans (xσ57.trans xσ58)))))))))) (by decide)).1
            have kp91 : gI σ59_1 th 4 = gI σ58 th 4 := (cσ59_1.O (kth.up (xτ9.trans (xσ43.trans (xσ46.trans (xσ47.trans (xσ49.trans (xσ54.trans (xσ55.trans (xσ56.trans (xσ57.trans xσ58)))))))))) (by decide)).1
            have laσ59_1 : (LLσ59_1 b).length = (LLσ58 b).length := by rw [hσ59_1.1 b (mb.up (xτ9.trans (xσ43.trans (xσ46.trans (xσ47.trans (xσ49.trans (xσ54.trans (xσ55.trans (xσ56.trans (xσ57.trans xσ58)))))))))).1 (by first | (simp; done) | (simp only [List.mem_cons, List.mem_nil_iff, or_false, not_or]; omega)) (by omega)]
            refine ⟨t, hv2, fun kk_t_7 => ?_⟩
            refine ⟨b, (kp87.trans (kp81.trans (kp74.trans (kp67.trans (kp62.trans (kp57.trans (kp52.trans (kp40.trans (kp37.trans (kp32.trans (kp1.trans eb))))))))))), fun kk_b_8 => ?_⟩
            exact ih9 σ59_1 LLσ59_1 Nσ59_1 nuσ59_1 (gP σ59_1 b 0) iσ59_1 fσ59_1 (xτ9.trans (xσ43.trans (xσ46.trans (xσ47.trans (xσ49.trans (xσ54.trans (xσ55.trans (xσ56.trans (xσ57.trans (xσ58.trans xσ59_1)))))))))) nu_σ59_1 hnσ59_1 (⟨iσ59_1.first (mb.up (xτ9.trans (xσ43.trans (xσ46.trans (xσ47.trans (xσ49.trans (xσ54.trans (xσ55.trans (xσ56.trans (xσ57.trans (xσ58.trans xσ59_1))))))))))), by omega, by omega⟩) (by (first | omega | with_reducible assumption | with_reducible exact rng_toInt _ | with_reducible exact rng_wr _ | (unfold rng; omega) | (unfold rng at *; omega) | assumption))
  exact ⟨_, Lp9 _ σ LL N nu _ iσ fσ (Ext.rfl' _) NU.rf hnσ (⟨iσ.first mb, rfl, Nat.le_refl _⟩) (Nat.lt_succ_self _)⟩
set_option maxHeartbeats 1000000 in
theorem i4_X11_uniqueUpTo {σ : Sg} {pl : Nat} {gq ci gr nc : Nat → Nat} {ot : Nat → Nat → Int} {LL : Nat → List Nat} {N nu : Nat → Nat} {th : Nat} {v1 : Option Nat} {v2 : Option Nat} {v3 : Int64} {J i : Nat} (iσ : IV σ pl gq ci gr nc ot LL N nu) (kth : kO σ th 11) {o : Nat} (hv1 : v1 = some o) (ko : kO σ o 5) {t : Nat} (hv2 : v2 = some t) (kt : kO σ t 10) (hq : gq th = 4) (hj : gP σ th 5 = some J) (kJ : kO σ J 4) (hJ : gq J = nc 0) (ho : gq o = 16 * nc 0 + i) (hi : i < nc 1) (h7 : 0 ≤ ot i 7) (ht : gq t = 4) (h5 : nu 5 < 24000) (hb : N 14 + N 44 + N 74 + N 1 ≤ 30000) {Q : Sg → Unit → Prop} {X : Sg → String → Prop} (hQ : ∀ (σ' : Sg) (LL' : Nat → List Nat) (N' nu' : Nat → Nat) (r : Unit), IV σ' pl gq ci gr nc ot LL' N' nu' → Fx [1, 2, 3, 4, 5, 6, 7, 64, 512, 708] gr σ σ' → NU nu nu' → Hn (gD σ) [44, 41, 42] [] gq LL LL' N N' → (N' 1 = N 1 ∧ N' 44 ≤ N 44 + N 41) → Q σ' r) (hX : ∀ (σ' : Sg) (LL' : Nat → List Nat) (N' nu' : Nat → Nat) (E : String), IV σ' pl gq ci gr nc ot LL' N' nu' → Fx [1, 2, 3, 4, 5, 6, 7, 64, 512, 708] gr σ σ' → NX nu nu' → ((N' 1 ≤ N 1 + 2 ∧ N' 5 = N 5 ∧ N' 3 = N 3 ∧ N' 14 = N 14 ∧ N' 74 = N 74) ∧ NZ N N' ∧ E = "java/lang/IllegalStateException") → X σ' E) : wp_X11_uniqueUpTo th v1 v2 v3 σ Q X := by
  have fσ : Fx [1, 2, 3, 4, 5, 6, 7, 64, 512, 708] gr σ σ := Fx.rf
  have hnσ : Hn (gD σ) [44, 41, 42] [] gq LL LL N N := Hn.rf
  have rc := iσ.recs4 kth (by omega)
  have q4 := I_11_4 iσ.1 kth
  unfold wp_X11_uniqueUpTo
  unfold w_X11_uniqueUpTo_0
  refine ⟨t, hv2, fun kk_t => ?_⟩
  obtain ⟨b, eb, fb⟩ := P_10_2 iσ.1 kt
  have mb : kO σ b 1 := iσ.1.kd kt rfl eb rfl
  refine ⟨b, eb, fun kk_b => ?_⟩
  have Lp9 : ∀ (fu9 : Nat) (τ9 : Sg) (LLt9 : Nat → List Nat) (Nt9 nut9 : Nat → Nat) (v5 : Option Nat), IV τ9 pl gq ci gr nc ot LLt9 Nt9 nut9 → Fx [1, 2, 3, 4, 5, 6, 7, 64, 512, 708] gr σ τ9 → Ext σ τ9 → NU nu nut9 → Hn (gD σ) [44, 41, 42] [] gq LL LLt9 N Nt9 → (v5 = (LLt9 b).head? ∧ Nt9 1 = N 1 ∧ Nt9 44 + Nt9 41 ≤ N 44 + N 41) → ((LLt9 b).length) < fu9 → wl_X11_uniqueUpTo_9 th Q X fu9 τ9 v1 v2 v3 v5 := by
    intro fu9
    induction fu9 with
    | zero => intro _ _ _ _ _ _ _ _ _ _ _ h9; omega
    | succ fu9 ih9 =>
      intro τ9 LLt9 Nt9 nut9 v5 iτ9 fτ9 xτ9 nu_τ9 hnτ9 hi9 hm9
      have nτ9_3 := hnτ9.2.2 3 (by first | decide | (simp; done) | (simp only [List.mem_cons, List.mem_nil_iff, or_false, not_or]; omega)) (by first | decide | omega) (by first | decide | omega) (by first | decide | omega)
      have nτ9_5 := hnτ9.2.2 5 (by first | decide | (simp; done) | (simp only [List.mem_cons, List.mem_nil_iff, or_false, not_or]; omega)) (by first | decide | omega) (by first | decide | omega) (by first | decide | omega)
      have nτ9_14 := hnτ9.2.2 14 (by first | decide | (simp; done) | (simp only [List.mem_cons, List.mem_nil_iff, or_false, not_or]; omega)) (by first | decide | omega) (by first | decide | omega) (by first | decide | omega)
      have nτ9_74 := hnτ9.2.2 74 (by first | decide | (simp; done) | (simp only [List.mem_cons, List.mem_nil_iff, or_false, not_or]; omega)) (by first | decide | omega) (by first | decide | omega) (by first | decide | omega)
      have nτ9_11 := hnτ9.2.2 11 (by first | decide | (simp; done) | (simp only [List.mem_cons, List.mem_nil_iff, or_false, not_or]; omega)) (by first | decide | omega) (by first | decide | omega) (by first | decide | omega)
      have nτ9_12 := hnτ9.2.2 12 (by first | decide | (simp; done) | (simp only [List.mem_cons, List.mem_nil_iff, or_false, not_or]; omega)) (by first | decide | omega) (by first | decide | omega) (by first | decide | omega)
      have nτ9_13 := hnτ9.2.2 13 (by first | decide | (simp; done) | (simp only [List.mem_cons, List.mem_nil_iff, or_false, not_or]; omega)) (by first | decide | omega) (by first | decide | omega) (by first | decide | omega)
      have uτ9_0 := nu_τ9.1 0 (by decide)
      have uτ9_1 := nu_τ9.1 1 (by decide)
      have uτ9_2 := nu_τ9.2
      have uτ9_5 := nu_τ9.1 5 (by decide)
      have uτ9_15 := nu_τ9.1 15 (by decide)
      have uτ9_16 := nu_τ9.1 16 (by decide)
      unfold wl_X11_uniqueUpTo_9
      have kp1 : gP τ9 t 2 = gP σ t 2 := (fτ9.O kt (by decide)).2.1
      have kp2 : gP τ9 th 5 = gP σ th 5 := (fτ9.O kth (by decide)).2.1
      have kp3 : gI τ9 t 0 = gI σ t 0 := (fτ9.O kt (by decide)).1
      unfold w_X11_uniqueUpTo_9
      by_cases hc4 : v5 = none
      · rw [if_pos hc4]
        unfold w_X11_uniqueUpTo_181
        refine ⟨t, hv2, fun kk_t_1 => ?_⟩
        refine ⟨o, hv1, fun kk_o => ?_⟩
        have q5 := I_5_16 iτ9.1 (ko.up xτ9)
        obtain ⟨b_1, eb_1, fb_1⟩ := P_10_3 iτ9.1 (kt.up xτ9)
        have mb_1 : kO τ9 b_1 1 := iτ9.1.kd (kt.up xτ9) rfl eb_1 rfl
        refine i4_X11_dropUpTo (G0 := 42) iτ9 (kth.up xτ9) eb_1 mb_1 (by (first | omega | with_reducible assumption | with_reducible exact rng_toInt _ | with_reducible exact rng_wr _ | (unfold rng; omega) | (unfold rng at *; omega) | assumption)) (by omega) (by decide) (fun σ68 LLσ68 Nσ68 nuσ68 _ iσ68 cσ68 uσ68 hσ68 pσ68 => ?_)
        intro xσ68
        have fσ68 : Fx [1, 2, 3, 4, 5, 6, 7, 64, 512, 708] gr σ σ68 := fτ9.tr (cσ68.mo (by decide))
        have hnσ68 : Hn (gD σ) [44, 41, 42] [] gq LL LLσ68 N Nσ68 := hnτ9.go hσ68 (fun d hd => (fτ9.1 d hd).1) (by first | decide | exact fun _ h => h | (simp; done) | (intro x hx; simp only [List.mem_cons, List.mem_nil_iff, or_false] at hx ⊢; omega)) (fun d hd => absurd hd (by simp))
        have nσ68_3 := hσ68.2.2 3 (by first | decide | (simp; done) | (simp only [List.mem_cons, List.mem_nil_iff, or_false, not_or]; omega)) (by first | decide | omega) (by first | decide | omega) (by first | decide | omega)
        have nσ68_5 := hσ68.2.2 5 (by first | decide | (simp; done) | (simp only [List.mem_cons, List.mem_nil_iff, or_false, not_or]; omega)) (by first | decide | omega) (by first | decide | omega) (by first | decide | omega)
        have nσ68_14 := hσ68.2.2 14 (by first | decide | (simp; done) | (simp only [List.mem_cons, List.mem_nil_iff, or_false, not_or]; omega)) (by first | decide | omega) (by first | decide | omega) (by first | decide | omega)
        have nσ68_44 := hσ68.2.2 44 (by first | decide | (simp; done) | (simp only [List.mem_cons, List.mem_nil_iff, or_false, not_or]; omega)) (by first | decide | omega) (by first | decide | omega) (by first | decide | omega)
        have nσ68_74 := hσ68.2.2 74 (by first | decide | (simp; done) | (simp only [List.mem_cons, List.mem_nil_iff, or_false, not_or]; omega)) (by first | decide | omega) (by first | decide | omega) (by first | decide | omega)
        have nσ68_11 := hσ68.2.2 11 (by first | decide | (simp; done) | (simp only [List.mem_cons, List.mem_nil_iff, or_false, not_or]; omega)) (by first | decide | omega) (by first | decide | omega) (by first | decide | omega)
        have nσ68_12 := hσ68.2.2 12 (by first | decide | (simp; done) | (simp only [List.mem_cons, List.mem_nil_iff, or_false, not_or]; omega)) (by first | decide | omega) (by first | decide | omega) (by first | decide | omega)
        have nσ68_41 := hσ68.2.2 41 (by first | decide | (simp; done) | (simp only [List.mem_cons, List.mem_nil_iff, or_false, not_or]; omega)) (by first | decide | omega) (by first | decide | omega) (by first | decide | omega)
        have nσ68_13 := hσ68.2.2 13 (by first | decide | (simp; done) | (simp only [List.mem_cons, List.mem_nil_iff, or_false, not_or]; omega)) (by first | decide | omega) (by first | decide | omega) (by first | decide | omega)
        have nu_σ68 : NU nu nuσ68 := nu_τ9.tr uσ68
        have uσ68_0 := uσ68.1 0 (by decide)
        have uσ68_1 := uσ68.1 1 (by decide)
        have uσ68_2 := uσ68.2
        have uσ68_5 := uσ68.1 5 (by decide)
        have uσ68_15 := uσ68.1 15 (by decide)
        have uσ68_16 := uσ68.1 16 (by decide)
        have kp6 : gI σ68 o 16 = gI τ9 o 16 := (cσ68.O (ko.up xτ9) (by decide)).1
        have kp7 : gP σ68 t 2 = gP τ9 t 2 := (cσ68.O (kt.up xτ9) (by decide)).2.1
        have kp8 : gP σ68 t 3 = gP τ9 t 3 := (cσ68.O (kt.up xτ9) (by decide)).2.1
        have kp9 : gP σ68 th 5 = gP τ9 th 5 := (cσ68.O (kth.up xτ9) (by decide)).2.1
        have kp10 : gI σ68 t 0 = gI τ9 t 0 := (cσ68.O (kt.up xτ9) (by decide)).1
        exact hQ σ68 LLσ68 Nσ68 nuσ68 () iσ68 fσ68 (nu_σ68) hnσ68 (by (first | omega | with_reducible assumption | with_reducible exact rng_toInt _ | with_reducible exact rng_wr _ | (unfold rng; omega) | (unfold rng at *; omega) | assumption))
      · rw [if_neg hc4]
        unfold w_X11_uniqueUpTo_14
        obtain ⟨b_2, eb_2⟩ := Option.ne_none_iff_exists'.mp hc4
        refine ⟨b_2, eb_2, fun kk_b_2 => ?_⟩
        by_cases hc11 : gJ τ9 b_2 5 > v3
        · rw [if_pos hc11]
          unfold w_X11_uniqueUpTo_181
          refine ⟨t, hv2, fun kk_t_2 => ?_⟩
          refine ⟨o, hv1, fun kk_o_1 => ?_⟩
          have q12 := I_5_16 iτ9.1 (ko.up xτ9)
          obtain ⟨b_3, eb_3, fb_3⟩ := P_10_3 iτ9.1 (kt.up xτ9)
          have mb_3 : kO τ9 b_3 1 := iτ9.1.kd (kt.up xτ9) rfl eb_3 rfl
          refine i4_X11_dropUpTo (G0 := 42) iτ9 (kth.up xτ9) eb_3 mb_3 (by (first | omega | with_reducible assumption | with_reducible exact rng_toInt _ | with_reducible exact rng_wr _ | (unfold rng; omega) | (unfold rng at *; omega) | assumption)) (by omega) (by decide) (fun σ68_1 LLσ68_1 Nσ68_1 nuσ68_1 _ iσ68_1 cσ68_1 uσ68_1 hσ68_1 pσ68_1 => ?_)
          intro xσ68_1
          have fσ68_1 : Fx [1, 2, 3, 4, 5, 6, 7, 64, 512, 708] gr σ σ68_1 := fτ9.tr (cσ68_1.mo (by decide))
          have hnσ68_1 : Hn (gD σ) [44, 41, 42] [] gq LL LLσ68_1 N Nσ68_1 := hnτ9.go hσ68_1 (fun d hd => (fτ9.1 d hd).1) (by first | decide | exact fun _ h => h | (simp; done) | (intro x hx; simp only [List.mem_cons, List.mem_nil_iff, or_false] at hx ⊢; omega)) (fun d hd => absurd hd (by simp))
          have nσ68_1_3 := hσ68_1.2.2 3 (by first | decide | (simp; done) | (simp only [List.mem_cons, List.mem_nil_iff, or_false, not_or]; omega)) (by first | decide | omega) (by first | decide | omega) (by first | decide | omega)
          have nσ68_1_5 := hσ68_1.2.2 5 (by first | decide | (simp; done) | (simp only [List.mem_cons, List.mem_nil_iff, or_false, not_or]; omega)) (by first | decide | omega) (by first | decide | omega) (by first | decide | omega)
          have nσ68_1_14 := hσ68_1.2.2 14 (by first | decide | (simp; done) | (simp only [List.mem_cons, List.mem_nil_iff, or_false, not_or]; omega)) (by first | decide | omega) (by first | decide | omega) (by first | decide | omega)
          have nσ68_1_44 := hσ68_1.2.2 44 (by first | decide | (simp; done) | (simp only [List.mem_cons, List.mem_nil_iff, or_false, not_or]; omega)) (by first | decide | omega) (by first | decide | omega) (by first | decide | omega)
          have nσ68_1_74 := hσ68_1.2.2 74 (by first | decide | (simp; done) | (simp only [List.mem_cons, List.mem_nil_iff, or_false, not_or]; omega)) (by first | decide | omega) (by first | decide | omega) (by first | decide | omega)
          have nσ68_1_11 := hσ68_1.2.2 11 (by first | decide | (simp; done) | (simp only [List.mem_cons, List.mem_nil_iff, or_false, not_or]; omega)) (by first | decide | omega) (by first | decide | omega) (by first | decide | omega)
          have nσ68_1_12 := hσ68_1.2.2 12 (by first | decide | (simp; done) | (simp only [List.mem_cons, List.mem_nil_iff, or_false, not_or]; omega)) (by first | decide | omega) (by first | decide | omega) (by first | decide | omega)
          have nσ68_1_41 := hσ68_1.2.2 41 (by first | decide | (simp; done) | (simp only [List.mem_cons, List.mem_nil_iff, or_false, not_or]; omega)) (by first | decide | omega) (by first | decide | omega) (by first | decide | omega)
          have nσ68_1_13 := hσ68_1.2.2 13 (by first | decide | (simp; done) | (simp only [List.mem_cons, List.mem_nil_iff, or_false, not_or]; omega)) (by first | decide | omega) (by first | decide | omega) (by first | decide | omega)
          have nu_σ68_1 : NU nu nuσ68_1 := nu_τ9.tr uσ68_1
          have uσ68_1_0 := uσ68_1.1 0 (by decide)
          have uσ68_1_1 := uσ68_1.1 1 (by decide)
          have uσ68_1_2 := uσ68_1.2
          have uσ68_1_5 := uσ68_1.1 5 (by decide)
          have uσ68_1_15 := uσ68_1.1 15 (by decide)
          have uσ68_1_16 := uσ68_1.1 16 (by decide)
          have kp13 : gI σ68_1 o 16 = gI τ9 o 16 := (cσ68_1.O (ko.up xτ9) (by decide)).1
          have kp14 : gP σ68_1 t 2 = gP τ9 t 2 := (cσ68_1.O (kt.up xτ9) (by decide)).2.1
          have kp15 : gP σ68_1 t 3 = gP τ9 t 3 := (cσ68_1.O (kt.up xτ9) (by decide)).2.1
          have kp16 : gP σ68_1 th 5 = gP τ9 th 5 := (cσ68_1.O (kth.up xτ9) (by decide)).2.1
          have kp17 : gI σ68_1 t 0 = gI τ9 t 0 := (cσ68_1.O (kt.up xτ9) (by decide)).1
          exact hQ σ68_1 LLσ68_1 Nσ68_1 nuσ68_1 () iσ68_1 fσ68_1 (nu_σ68_1) hnσ68_1 (by (first | omega | with_reducible assumption | with_reducible exact rng_toInt _ | with_reducible exact rng_wr _ | (unfold rng; omega) | (unfold rng at *; omega) | assumption))
        · rw [if_neg hc11]
          unfold w_X11_uniqueUpTo_24
          refine ⟨t, hv2, fun kk_t_3 => ?_⟩
          refine ⟨b, (kp1.trans eb), fun kk_b_1 => ?_⟩
          obtain ⟨T9, eT⟩ := it_cons hi9.1 eb_2
          have lo_b_2 : Lo [] (gD σ) LL b_2 := hnτ9.loc (fun d hd => (fτ9.1 d hd).1) (Or.inr ⟨b, by rw [eT]; exact List.mem_cons_self⟩)
          have rc9 := iτ9.recs4 (kth.up xτ9) (by omega)
          refine i_X1_takeFirst (G0 := 41) iτ9 (mb.up xτ9) (by omega) (fun σ39 LLσ39 Nσ39 nuσ39 r40 iσ39 cσ39 uσ39 hσ39 pσ39 => ?_)
          intro xσ39
          have fσ39 : Fx [1, 2, 3, 4, 5, 6, 7, 64, 512, 708] gr σ σ39 := fτ9.tr (cσ39.mo (by decide))
          have hnσ39 : Hn (gD σ) [44, 41, 42] [] gq LL LLσ39 N Nσ39 := hnτ9.go hσ39 (fun d hd => (fτ9.1 d hd).1) (by first | decide | exact fun _ h => h | (simp; done) | (intro x hx; simp only [List.mem_cons, List.mem_nil_iff, or_false] at hx ⊢; omega)) (fun d hd => absurd hd (by simp))
          have nσ39_3 := hσ39.2.2 3 (by first | decide | (simp; done) | (simp only [List.mem_cons, List.mem_nil_iff, or_false, not_or]; omega)) (by first | decide | omega) (by first | decide | omega) (by first | decide | omega)
          have nσ39_5 := hσ39.2.2 5 (by first | decide | (simp; done) | (simp only [List.mem_cons, List.mem_nil_iff, or_false, not_or]; omega)) (by first | decide | omega) (by first | decide | omega) (by first | decide | omega)
          have nσ39_14 := hσ39.2.2 14 (by first | decide | (simp; done) | (simp only [List.mem_cons, List.mem_nil_iff, or_false, not_or]; omega)) (by first | decide | omega) (by first | decide | omega) (by first | decide | omega)
          have nσ39_44 := hσ39.2.2 44 (by first | decide | (simp; done) | (simp only [List.mem_cons, List.mem_nil_iff, or_false, not_or]; omega)) (by first | decide | omega) (by first | decide | omega) (by first | decide | omega)
          have nσ39_74 := hσ39.2.2 74 (by first | decide | (simp; done) | (simp only [List.mem_cons, List.mem_nil_iff, or_false, not_or]; omega)) (by first | decide | omega) (by first | decide | omega) (by first | decide | omega)
          have nσ39_11 := hσ39.2.2 11 (by first | decide | (simp; done) | (simp only [List.mem_cons, List.mem_nil_iff, or_false, not_or]; omega)) (by first | decide | omega) (by first | decide | omega) (by first | decide | omega)
          have nσ39_12 := hσ39.2.2 12 (by first | decide | (simp; done) | (simp only [List.mem_cons, List.mem_nil_iff, or_false, not_or]; omega)) (by first | decide | omega) (by first | decide | omega) (by first | decide | omega)
          have nσ39_42 := hσ39.2.2 42 (by first | decide | (simp; done) | (simp only [List.mem_cons, List.mem_nil_iff, or_false, not_or]; omega)) (by first | decide | omega) (by first | decide | omega) (by first | decide | omega)
          have nσ39_13 := hσ39.2.2 13 (by first | decide | (simp; done) | (simp only [List.mem_cons, List.mem_nil_iff, or_false, not_or]; omega)) (by first | decide | omega) (by first | decide | omega) (by first | decide | omega)
          have nu_σ39 : NU nu nuσ39 := nu_τ9.tr uσ39
          have uσ39_0 := uσ39.1 0 (by decide)
          have uσ39_1 := uσ39.1 1 (by decide)
          have uσ39_2 := uσ39.2
          have uσ39_5 := uσ39.1 5 (by decide)
          have uσ39_15 := uσ39.1 15 (by decide)
          have uσ39_16 := uσ39.1 16 (by decide)
          have kp18 : gP σ39 t 2 = gP τ9 t 2 := (cσ39.O (kt.up xτ9) (by decide)).2.1
          have kp19 : gP σ39 th 5 = gP τ9 th 5 := (cσ39.O (kth.up xτ9) (by decide)).2.1
          have kp20 : gI σ39 t 0 = gI τ9 t 0 := (cσ39.O (kt.up xτ9) (by decide)).1
          have kp21 : gI σ39 th 4 = gI τ9 th 4 := (cσ39.O (kth.up xτ9) (by decide)).1
          obtain ⟨r9, eL9, hb9, n9a, n9b⟩ := take_r eT pσ39
          have laσ39 : (LLσ39 b).length + 1 = (LLt9 b).length := by rw [eL9, up1_s, eT]; rfl
          intro tyt
          have q22 := I_11_4 iσ39.1 (kth.up (xτ9.trans xσ39))
          refine ⟨by (first | omega | with_reducible assumption | with_reducible exact rng_toInt _ | with_reducible exact rng_wr _ | (unfold rng; omega) | (unfold rng at *; omega) | assumption), ?_⟩
          intro σ42 eσ42
          have xσ42 : Ext σ39 σ42 := by rw [eσ42]; exact fun _ h => ⟨h, rfl, rfl⟩
          have iσ42 : IV σ42 pl gq ci gr nc ot LLσ39 Nσ39 nuσ39 := by rw [eσ42]; exact iσ39.rec4 (kth.up (xτ9.trans xσ39)) (by omega) (by omega) (by omega)
          have fσ42 : Fx [1, 2, 3, 4, 5, 6, 7, 64, 512, 708] gr σ σ42 := fσ39.tr (Sk.fx (by rw [eσ42]; exact Sk.pI (by rw [fcdO (kth.up (xτ9.trans xσ39)) (by decide)]; decide)))
          have wσ42 : gI σ42 th 4 = (gI σ39 th 4 - 1) := by rw [eσ42]; exact up2_s _ _ _ _
          have kp23 : gP σ42 t 2 = gP σ39 t 2 := by rw [eσ42]
          have kp24 : gP σ42 th 5 = gP σ39 th 5 := by rw [eσ42]
          have kp25 : gI σ42 t 0 = gI σ39 t 0 := by rw [eσ42]; exact up2_n _ _ (fun q => absurd q.2 (by decide))
          obtain ⟨b_4, eb_4, fb_4⟩ := P_10_3 iσ42.1 (kt.up (xτ9.trans (xσ39.trans xσ42)))
          have mb_4 : kO σ42 b_4 1 := iσ42.1.kd (kt.up (xτ9.trans (xσ39.trans xσ42))) rfl eb_4 rfl
          refine ⟨b_4, eb_4, fun kk_b_4 => ?_⟩
          have Lp51 : ∀ (fu51 : Nat) (v6 : Option Nat), (∃ (A B : List Nat), (LLσ39 b_4 = A ++ B ∧ v6 = B.head?) ∧ (B.length) < fu51) → wl_X11_uniqueUpTo_51 th (wl_X11_uniqueUpTo_9 th Q X fu9) Q X fu51 σ42 v1 v2 v3 v5 v6 := by
            intro fu51
            induction fu51 with
            | zero => intro _ h9; obtain ⟨_, _, _, h9⟩ := h9; omega
            | succ fu51 ih51 =>
              intro v6 hi51
              obtain ⟨A, B, hi51, hm51⟩ := hi51
              unfold wl_X11_uniqueUpTo_51
              unfold w_X11_uniqueUpTo_51
              by_cases hc26 : v6 = none
              · rw [if_pos hc26]
                unfold w_X11_uniqueUpTo_80
                rw [if_pos hc26]
                unfold w_X11_uniqueUpTo_117
                by_cases hc28 : v6 ≠ none
                · rw [if_pos hc28]
                  unfold w_X11_uniqueUpTo_150
                  refine ⟨b_2, eb_2, fun kk_b_2_1 => ?_⟩
                  obtain ⟨b_5, eb_5⟩ := Option.ne_none_iff_exists'.mp hc28
                  have knb_5 : kO σ42 b_5 0 := iσ42.cell (it_mem hi51 eb_5)
                  refine ⟨b_5, eb_5, fun kk_b_5 => ?_⟩
                  intro σ63 eσ63
                  have xσ63 : Ext σ42 σ63 := by rw [eσ63]; exact fun _ h => ⟨h, rfl, rfl⟩
                  have iσ63 : IV σ63 pl gq ci gr nc ot LLσ39 Nσ39 nuσ39 := by rw [eσ63]; exact iσ42.wT knb_5 (by decide) (iσ42.t5 (kk_b_2.up (xσ39.trans xσ42)))
                  have fσ63 : Fx [1, 2, 3, 4, 5, 6, 7, 64, 512, 708] gr σ σ63 := fσ42.tr (Sk.fx (by rw [eσ63]; exact Sk.pJ (by rw [fcdO knb_5 (by decide)]; decide)))
                  have kp29 : gI σ63 th 4 = gI σ42 th 4 := by rw [eσ63]
                  have kp30 : gP σ63 t 2 = gP σ42 t 2 := by rw [eσ63]
                  have kp31 : gP σ63 t 3 = gP σ42 t 3 := by rw [eσ63]
                  have kp32 : gP σ63 th 5 = gP σ42 th 5 := by rw [eσ63]
                  have kp33 : gI σ63 t 0 = gI σ42 t 0 := by rw [eσ63]
                  obtain ⟨b_6, eb_6, fb_6⟩ := P_11_2 iσ63.1 (kth.up (xτ9.trans (xσ39.trans (xσ42.trans xσ63))))
                  have mb_6 : kO σ63 b_6 1 := iσ63.1.kd (kth.up (xτ9.trans (xσ39.trans (xσ42.trans xσ63)))) rfl eb_6 rfl
                  refine ⟨b_6, eb_6, fun kk_b_6 => ?_⟩
                  refine i_X1_add (G0 := 44) iσ63 mb_6 eb_2 (kk_b_2.up (xσ39.trans (xσ42.trans xσ63))) (by omega) (by (first | omega | with_reducible assumption | with_reducible exact rng_toInt _ | with_reducible exact rng_wr _ | (unfold rng; omega) | (unfold rng at *; omega) | assumption)) (by (first | omega | with_reducible assumption | with_reducible exact rng_toInt _ | with_reducible exact rng_wr _ | (unfold rng; omega) | (unfold rng at *; omega) | assumption)) (plc_y (G := 44) (by omega) (by decide)) (no50 (by decide)) (no13 (by decide)) (fun N9 n1 _ => iσ63.2.2.1.made (by decide) n1) (fun σ64 LLσ64 Nσ64 nuσ64 _ iσ64 cσ64 uσ64 hσ64 pσ64 => ?_)
                  intro xσ64
                  have fσ64 : Fx [1, 2, 3, 4, 5, 6, 7, 64, 512, 708] gr σ σ64 := fσ63.tr (cσ64.mo (by decide))
                  have hnσ64 : Hn (gD σ) [44, 41, 42] [] gq LL LLσ64 N Nσ64 := hnσ39.go hσ64 (fun d hd => (fσ63.1 d hd).1) (by first | decide | exact fun _ h => h | (simp; done) | (intro x hx; simp only [List.mem_cons, List.mem_nil_iff, or_false] at hx ⊢; omega)) (fun d hd => by rw [List.mem_singleton.mp hd]; exact lo_b_2)
                  have nσ64_3 := hσ64.2.2 3 (by first | decide | (simp; done) | (simp only [List.mem_cons, List.mem_nil_iff, or_false, not_or]; omega)) (by first | decide | omega) (by first | decide | omega) (by first | decide | omega)
                  have nσ64_5 := hσ64.2.2 5 (by first | decide | (simp; done) | (simp only [List.mem_cons, List.mem_nil_iff, or_false, not_or]; omega)) (by first | decide | omega) (by first | decide | omega) (by first | decide | omega)
                  have nσ64_14 := hσ64.2.2 14 (by first | decide | (simp; done) | (simp only [List.mem_cons, List.mem_nil_iff, or_false, not_or]; omega)) (by first | decide | omega) (by first | decide | omega) (by first | decide | omega)
                  have nσ64_74 := hσ64.2.2 74 (by first | decide | (simp; done) | (simp only [List.mem_cons, List.mem_nil_iff, or_false, not_or]; omega)) (by first | decide | omega) (by first | decide | omega) (by first | decide | omega)
                  have nσ64_11 := hσ64.2.2 11 (by first | decide | (simp; done) | (simp only [List.mem_cons, List.mem_nil_iff, or_false, not_or]; omega)) (by first | decide | omega) (by first | decide | omega) (by first | decide | omega)
                  have nσ64_12 := hσ64.2.2 12 (by first | decide | (simp; done) | (simp only [List.mem_cons, List.mem_nil_iff, or_false, not_or]; omega)) (by first | decide | omega) (by first | decide | omega) (by first | decide | omega)
                  have nσ64_41 := hσ64.2.2 41 (by first | decide | (simp; done) | (simp only [List.mem_cons, List.mem_nil_iff, or_false, not_or]; omega)) (by first | decide | omega) (by first | decide | omega) (by first | decide | omega)
                  have nσ64_42 := hσ64.2.2 42 (by first | decide | (simp; done) | (simp only [List.mem_cons, List.mem_nil_iff, or_false, not_or]; omega)) (by first | decide | omega) (by first | decide | omega) (by first | decide | omega)
                  have nσ64_13 := hσ64.2.2 13 (by first | decide | (simp; done) | (simp only [List.mem_cons, List.mem_nil_iff, or_false, not_or]; omega)) (by first | decide | omega) (by first | decide | omega) (by first | decide | omega)
                  have nu_σ64 : NU nu nuσ64 := nu_σ39.tr uσ64
                  have uσ64_0 := uσ64.1 0 (by decide)
                  have uσ64_1 := uσ64.1 1 (by decide)
                  have uσ64_2 := uσ64.2
                  have uσ64_5 := uσ64.1 5 (by decide)
                  have uσ64_15 := uσ64.1 15 (by decide)
                  have uσ64_16 := uσ64.1 16 (by decide)
                  have kp34 : gI σ64 th 4 = gI σ63 th 4 := (cσ64.O (kth.up (xτ9.trans (xσ39.trans (xσ42.trans xσ63)))) (by decide)).1
                  have kp35 : gP σ64 t 2 = gP σ63 t 2 := (cσ64.O (kt.up (xτ9.trans (xσ39.trans (xσ42.trans xσ63)))) (by decide)).2.1
                  have kp36 : gP σ64 t 3 = gP σ63 t 3 := (cσ64.O (kt.up (xτ9.trans (xσ39.trans (xσ42.trans xσ63)))) (by decide)).2.1
                  have kp37 : gP σ64 th 2 = gP σ63 th 2 := (cσ64.O (kth.up (xτ9.trans (xσ39.trans (xσ42.trans xσ63)))) (by decide)).2.1
                  have kp38 : gP σ64 th 5 = gP σ63 th 5 := (cσ64.O (kth.up (xτ9.trans (xσ39.trans (xσ42.trans xσ63)))) (by decide)).2.1
                  have kp39 : gI σ64 t 0 = gI σ63 t 0 := (cσ64.O (kt.up (xτ9.trans (xσ39.trans (xσ42.trans xσ63)))) (by decide)).1
                  have laσ64 : (LLσ64 b).length = (LLσ39 b).length := by rw [hσ64.1 b (mb.up (xτ9.trans (xσ39.trans (xσ42.trans xσ63)))).1 (by first | (simp; done) | (simp only [List.mem_cons, List.mem_nil_iff, or_false, not_or]; omega)) (by omega)]
                  unfold w_X11_uniqueUpTo_169
                  refine ⟨t, hv2, fun kk_t_4 => ?_⟩
                  refine ⟨b, (kp35.trans (kp30.trans (kp23.trans (kp18.trans (kp1.trans eb))))), fun kk_b_3 => ?_⟩
                  exact ih9 σ64 LLσ64 Nσ64 nuσ64 (gP σ64 b 0) iσ64 fσ64 (xτ9.trans (xσ39.trans (xσ42.trans (xσ63.trans xσ64)))) nu_σ64 hnσ64 (⟨iσ64.first (mb.up (xτ9.trans (xσ39.trans (xσ42.trans (xσ63.trans xσ64))))), by omega, by omega⟩) (by (first | omega | with_reducible assumption | with_reducible exact rng_toInt _ | with_reducible exact rng_wr _ | (unfold rng; omega) | (unfold rng at *; omega) | assumption))
                · rw [if_neg hc28]
                  have hc28q := Classical.not_not.mp hc28
                  unfold w_X11_uniqueUpTo_122
                  obtain ⟨b_7, eb_7⟩ := P_11_0 iσ42.1 (kth.up (xτ9.trans (xσ39.trans xσ42)))
                  refine ⟨b_7, eb_7, fun kk_b_7 => ?_⟩
                  refine i_X8_fresh iσ42 kk_b_7 (by (first | omega | with_reducible assumption | with_reducible exact rng_toInt _ | with_reducible exact rng_wr _ | (unfold rng; omega) | (unfold rng at *; omega) | assumption)) (fun σ54 LLσ54 Nσ54 nuσ54 c_σ54 iσ54 cσ54 uσ54 hσ54 pσ54 => ?_)
                  intro xσ54
                  have fσ54 : Fx [1, 2, 3, 4, 5, 6, 7, 64, 512, 708] gr σ σ54 := fσ42.tr (cσ54.mo (by decide))
                  have hnσ54 : Hn (gD σ) [44, 41, 42] [] gq LL LLσ54 N Nσ54 := hnσ39.go hσ54 (fun d hd => (fσ42.1 d hd).1) (by first | decide | exact fun _ h => h | (simp; done) | (intro x hx; simp only [List.mem_cons, List.mem_nil_iff, or_false] at hx ⊢; omega)) (fun d hd => absurd hd (by simp))
                  have ne_b_2_c_σ54 : b_2 ≠ c_σ54 := pσ54.2.1 b_2 (kk_b_2.up (xσ39.trans xσ42)) hb9
                  have hg_b_2_σ54 : ∀ x, b_2 ∉ LLσ54 x := hσ54.2.1 b_2 (kk_b_2.up (xσ39.trans xσ42)).1 (by simp) hb9
                  have hf_c_σ54 : ∀ x, c_σ54 ∉ LLσ54 x := pσ54.1
                  have lo_c_σ54 : Lo [] (gD σ) LL c_σ54 := hnσ39.loc (fun d hd => (fσ42.1 d hd).1) pσ54.2.2.1
                  have nσ54_3 := hσ54.2.2 3 (by first | decide | (simp; done) | (simp only [List.mem_cons, List.mem_nil_iff, or_false, not_or]; omega)) (by first | decide | omega) (by first | decide | omega) (by first | decide | omega)
                  have nσ54_5 := hσ54.2.2 5 (by first | decide | (simp; done) | (simp only [List.mem_cons, List.mem_nil_iff, or_false, not_or]; omega)) (by first | decide | omega) (by first | decide | omega) (by first | decide | omega)
                  have nσ54_14 := hσ54.2.2 14 (by first | decide | (simp; done) | (simp only [List.mem_cons, List.mem_nil_iff, or_false, not_or]; omega)) (by first | decide | omega) (by first | decide | omega) (by first | decide | omega)
                  have nσ54_44 := hσ54.2.2 44 (by first | decide | (simp; done) | (simp only [List.mem_cons, List.mem_nil_iff, or_false, not_or]; omega)) (by first | decide | omega) (by first | decide | omega) (by first | decide | omega)
                  have nσ54_74 := hσ54.2.2 74 (by first | decide | (simp; done) | (simp only [List.mem_cons, List.mem_nil_iff, or_false, not_or]; omega)) (by first | decide | omega) (by first | decide | omega) (by first | decide | omega)
                  have nσ54_11 := hσ54.2.2 11 (by first | decide | (simp; done) | (simp only [List.mem_cons, List.mem_nil_iff, or_false, not_or]; omega)) (by first | decide | omega) (by first | decide | omega) (by first | decide | omega)
                  have nσ54_12 := hσ54.2.2 12 (by first | decide | (simp; done) | (simp only [List.mem_cons, List.mem_nil_iff, or_false, not_or]; omega)) (by first | decide | omega) (by first | decide | omega) (by first | decide | omega)
                  have nσ54_41 := hσ54.2.2 41 (by first | decide | (simp; done) | (simp only [List.mem_cons, List.mem_nil_iff, or_false, not_or]; omega)) (by first | decide | omega) (by first | decide | omega) (by first | decide | omega)
                  have nσ54_42 := hσ54.2.2 42 (by first | decide | (simp; done) | (simp only [List.mem_cons, List.mem_nil_iff, or_false, not_or]; omega)) (by first | decide | omega) (by first | decide | omega) (by first | decide | omega)
                  have nσ54_13 := hσ54.2.2 13 (by first | decide | (simp; done) | (simp only [List.mem_cons, List.mem_nil_iff, or_false, not_or]; omega)) (by first | decide | omega) (by first | decide | omega) (by first | decide | omega)
                  have nu_σ54 : NU nu nuσ54 := nu_σ39.tr uσ54
                  have uσ54_0 := uσ54.1 0 (by decide)
                  have uσ54_1 := uσ54.1 1 (by decide)
                  have uσ54_2 := uσ54.2
                  have uσ54_5 := uσ54.1 5 (by decide)
                  have uσ54_15 := uσ54.1 15 (by decide)
                  have uσ54_16 := uσ54.1 16 (by decide)
                  have kp40 : gI σ54 th 4 = gI σ42 th 4 := (cσ54.O (kth.up (xτ9.trans (xσ39.trans xσ42))) (by decide)).1
                  have kp41 : gP σ54 t 2 = gP σ42 t 2 := (cσ54.O (kt.up (xτ9.trans (xσ39.trans xσ42))) (by decide)).2.1
                  have kp42 : gP σ54 t 3 = gP σ42 t 3 := (cσ54.O (kt.up (xτ9.trans (xσ39.trans xσ42))) (by decide)).2.1
                  have kp43 : gP σ54 th 0 = gP σ42 th 0 := (cσ54.O (kth.up (xτ9.trans (xσ39.trans xσ42))) (by decide)).2.1
                  have kp44 : gP σ54 th 5 = gP σ42 th 5 := (cσ54.O (kth.up (xτ9.trans (xσ39.trans xσ42))) (by decide)).2.1
                  have kp45 : gI σ54 t 0 = gI σ42 t 0 := (cσ54.O (kt.up (xτ9.trans (xσ39.trans xσ42))) (by decide)).1
                  have laσ54 : (LLσ54 b).length = (LLσ39 b).length := by rw [hσ54.1 b (mb.up (xτ9.trans (xσ39.trans xσ42))).1 (by first | (simp; done) | (simp only [List.mem_cons, List.mem_nil_iff, or_false, not_or]; omega)) (by omega)]
                  intro tyt_1
                  have krc_σ54 : kO σ54 c_σ54 0 := tyt_1 c_σ54 rfl
                  refine ⟨b_2, eb_2, fun kk_b_2_2 => ?_⟩
                  refine ⟨c_σ54, rfl, fun kk_c_σ54 => ?_⟩
                  intro σ59 eσ59
                  have xσ59 : Ext σ54 σ59 := by rw [eσ59]; exact fun _ h => ⟨h, rfl, rfl⟩
                  have iσ59 : IV σ59 pl gq ci gr nc ot LLσ54 Nσ54 nuσ54 := by rw [eσ59]; exact iσ54.wJ krc_σ54 (by decide)
                  have fσ59 : Fx [1, 2, 3, 4, 5, 6, 7, 64, 512, 708] gr σ σ59 := fσ54.tr (Sk.fx (by rw [eσ59]; exact Sk.pJ (by rw [fcdO krc_σ54 (by decide)]; decide)))
                  have kp46 : gI σ59 th 4 = gI σ54 th 4 := by rw [eσ59]
                  have kp47 : gP σ59 t 2 = gP σ54 t 2 := by rw [eσ59]
                  have kp48 : gP σ59 t 3 = gP σ54 t 3 := by rw [eσ59]
                  have kp49 : gP σ59 th 0 = gP σ54 th 0 := by rw [eσ59]
                  have kp50 : gP σ59 th 5 = gP σ54 th 5 := by rw [eσ59]
                  have kp51 : gI σ59 t 0 = gI σ54 t 0 := by rw [eσ59]
                  refine i4_X11_keep (G0 := 42) iσ59 (kth.up (xτ9.trans (xσ39.trans (xσ42.trans (xσ54.trans xσ59))))) hv1 (ko.up (xτ9.trans (xσ39.trans (xσ42.trans (xσ54.trans xσ59))))) hv2 (kt.up (xτ9.trans (xσ39.trans (xσ42.trans (xσ54.trans xσ59))))) rfl (krc_σ54.up xσ59) (by (first | omega | with_reducible assumption | with_reducible exact rng_toInt _ | with_reducible exact rng_wr _ | (unfold rng; omega) | (unfold rng at *; omega) | assumption)) (by (first | omega | with_reducible assumption | with_reducible exact rng_toInt _ | with_reducible exact rng_wr _ | (unfold rng; omega) | (unfold rng at *; omega) | assumption)) (by (first | omega | with_reducible assumption | with_reducible exact rng_toInt _ | with_reducible exact rng_wr _ | (unfold rng; omega) | (unfold rng at *; omega) | assumption)) (kp50.trans (kp44.trans (kp24.trans (kp19.trans (kp2.trans hj))))) (kJ.up (xτ9.trans (xσ39.trans (xσ42.trans (xσ54.trans xσ59))))) (by (first | omega | with_reducible assumption | with_reducible exact rng_toInt _ | with_reducible exact rng_wr _ | (unfold rng; omega) | (unfold rng at *; omega) | assumption)) (by (first | omega | with_reducible assumption | with_reducible exact rng_toInt _ | with_reducible exact rng_wr _ | (unfold rng; omega) | (unfold rng at *; omega) | assumption)) (by (first | omega | with_reducible assumption | with_reducible exact rng_toInt _ | with_reducible exact rng_wr _ | (unfold rng; omega) | (unfold rng at *; omega) | assumption)) (by (first | omega | with_reducible assumption | with_reducible exact rng_toInt _ | with_reducible exact rng_wr _ | (unfold rng; omega) | (unfold rng at *; omega) | assumption)) (by (first | omega | with_reducible assumption | with_reducible exact rng_toInt _ | with_reducible exact rng_wr _ | (unfold rng; omega) | (unfold rng at *; omega) | assumption)) (by (first | omega | with_reducible assumption | with_reducible exact rng_toInt _ | with_reducible exact rng_wr _ | (unfold rng; omega) | (unfold rng at *; omega) | assumption)) (Or.inr ⟨by decide, rfl⟩) (fun σ60 LLσ60 Nσ60 nuσ60 _ iσ60 cσ60 uσ60 hσ60 pσ60 => ?_) (fun σx LLx Nx nux E ix cx ux px => hX σx LLx Nx nux E ix (fσ59.tr (cx.mo (by decide))) (nu_σ54.x ux) (by first | exact px | exact ⟨by have := px.1; omega, (Hn.nz hnσ54 (by first | decide | (intro x hx; simp only [List.mem_cons, List.mem_nil_iff, or_false] at hx; omega))).tr px.2.1, px.2.2⟩ | (first | omega | with_reducible assumption | with_reducible exact rng_toInt _ | with_reducible exact rng_wr _ | (unfold rng; omega) | (unfold rng at *; omega) | assumption)))
                  intro xσ60
                  have fσ60 : Fx [1, 2, 3, 4, 5, 6, 7, 64, 512, 708] gr σ σ60 := fσ59.tr (cσ60.mo (by decide))
                  have hnσ60 : Hn (gD σ) [44, 41, 42] [] gq LL LLσ60 N Nσ60 := hnσ54.go hσ60 (fun d hd => (fσ59.1 d hd).1) (by first | decide | exact fun _ h => h | (simp; done) | (intro x hx; simp only [List.mem_cons, List.mem_nil_iff, or_false] at hx ⊢; omega)) (fun d hd => by rw [List.mem_singleton.mp hd]; exact lo_c_σ54)
                  have hg_b_2_σ60 : ∀ x, b_2 ∉ LLσ60 x := hσ60.2.1 b_2 (kk_b_2.up (xσ39.trans (xσ42.trans (xσ54.trans xσ59)))).1 (by simp only [List.mem_cons, List.mem_nil_iff, or_false, not_or]; first | omega | (exact fun q => absurd q.symm (by assumption))) hg_b_2_σ54
                  have nσ60_3 := hσ60.2.2 3 (by first | decide | (simp; done) | (simp only [List.mem_cons, List.mem_nil_iff, or_false, not_or]; omega)) (by first | decide | omega) (by first | decide | omega) (by first | decide | omega)
                  have nσ60_5 := hσ60.2.2 5 (by first | decide | (simp; done) | (simp only [List.mem_cons, List.mem_nil_iff, or_false, not_or]; omega)) (by first | decide | omega) (by first | decide | omega) (by first | decide | omega)
                  have nσ60_14 := hσ60.2.2 14 (by first | decide | (simp; done) | (simp only [List.mem_cons, List.mem_nil_iff, or_false, not_or]; omega)) (by first | decide | omega) (by first | decide | omega) (by first | decide | omega)
                  have nσ60_44 := hσ60.2.2 44 (by first | decide | (simp; done) | (simp only [List.mem_cons, List.mem_nil_iff, or_false, not_or]; omega)) (by first | decide | omega) (by first | decide | omega) (by first | decide | omega)
                  have nσ60_74 := hσ60.2.2 74 (by first | decide | (simp; done) | (simp only [List.mem_cons, List.mem_nil_iff, or_false, not_or]; omega)) (by first | decide | omega) (by first | decide | omega) (by first | decide | omega)
                  have nσ60_11 := hσ60.2.2 11 (by first | decide | (simp; done) | (simp only [List.mem_cons, List.mem_nil_iff, or_false, not_or]; omega)) (by first | decide | omega) (by first | decide | omega) (by first | decide | omega)
                  have nσ60_12 := hσ60.2.2 12 (by first | decide | (simp; done) | (simp only [List.mem_cons, List.mem_nil_iff, or_false, not_or]; omega)) (by first | decide | omega) (by first | decide | omega) (by first | decide | omega)
                  have nσ60_41 := hσ60.2.2 41 (by first | decide | (simp; done) | (simp only [List.mem_cons, List.mem_nil_iff, or_false, not_or]; omega)) (by first | decide | omega) (by first | decide | omega) (by first | decide | omega)
                  have nσ60_13 := hσ60.2.2 13 (by first | decide | (simp; done) | (simp only [List.mem_cons, List.mem_nil_iff, or_false, not_or]; omega)) (by first | decide | omega) (by first | decide | omega) (by first | decide | omega)
                  have nu_σ60 : NU nu nuσ60 := nu_σ54.tr uσ60
                  have uσ60_0 := uσ60.1 0 (by decide)
                  have uσ60_1 := uσ60.1 1 (by decide)
                  have uσ60_2 := uσ60.2
                  have uσ60_5 := uσ60.1 5 (by decide)
                  have uσ60_15 := uσ60.1 15 (by decide)
                  have uσ60_16 := uσ60.1 16 (by decide)
                  have kp52 : gP σ60 t 2 = gP σ59 t 2 := (cσ60.O (kt.up (xτ9.trans (xσ39.trans (xσ42.trans (xσ54.trans xσ59))))) (by decide)).2.1
                  have kp53 : gP σ60 t 3 = gP σ59 t 3 := (cσ60.O (kt.up (xτ9.trans (xσ39.trans (xσ42.trans (xσ54.trans xσ59))))) (by decide)).2.1
                  have kp54 : gP σ60 th 0 = gP σ59 th 0 := (cσ60.O (kth.up (xτ9.trans (xσ39.trans (xσ42.trans (xσ54.trans xσ59))))) (by decide)).2.1
                  have kp55 : gP σ60 th 5 = gP σ59 th 5 := (cσ60.O (kth.up (xτ9.trans (xσ39.trans (xσ42.trans (xσ54.trans xσ59))))) (by decide)).2.1
                  have kp56 : gI σ60 t 0 = gI σ59 t 0 := (cσ60.O (kt.up (xτ9.trans (xσ39.trans (xσ42.trans (xσ54.trans xσ59))))) (by decide)).1
                  have laσ60 : (LLσ60 b).length = (LLσ54 b).length := by rw [hσ60.1 b (mb.up (xτ9.trans (xσ39.trans (xσ42.trans (xσ54.trans xσ59))))).1 (by first | (simp; done) | (simp only [List.mem_cons, List.mem_nil_iff, or_false, not_or]; omega)) (by omega)]
                  unfold w_X11_uniqueUpTo_150
                  refine ⟨b_2, eb_2, fun kk_b_2_3 => ?_⟩
                  refine ⟨c_σ54, rfl, fun kk_c_σ54_1 => ?_⟩
                  intro σ63_1 eσ63_1
                  have xσ63_1 : Ext σ60 σ63_1 := by rw [eσ63_1]; exact fun _ h => ⟨h, rfl, rfl⟩
                  have iσ63_1 : IV σ63_1 pl gq ci gr nc ot LLσ60 Nσ60 nuσ60 := by rw [eσ63_1]; exact iσ60.wT (krc_σ54.up (xσ59.trans xσ60)) (by decide) (iσ60.t5 (kk_b_2.up (xσ39.trans (xσ42.trans (xσ54.trans (xσ59.trans xσ60))))))
                  have fσ63_1 : Fx [1, 2, 3, 4, 5, 6, 7, 64, 512, 708] gr σ σ63_1 := fσ60.tr (Sk.fx (by rw [eσ63_1]; exact Sk.pJ (by rw [fcdO (krc_σ54.up (xσ59.trans xσ60)) (by decide)]; decide)))
                  have kp57 : gP σ63_1 t 2 = gP σ60 t 2 := by rw [eσ63_1]
                  have kp58 : gP σ63_1 t 3 = gP σ60 t 3 := by rw [eσ63_1]
                  have kp59 : gP σ63_1 th 0 = gP σ60 th 0 := by rw [eσ63_1]
                  have kp60 : gP σ63_1 th 5 = gP σ60 th 5 := by rw [eσ63_1]
                  have kp61 : gI σ63_1 t 0 = gI σ60 t 0 := by rw [eσ63_1]
                  have kp62 : gI σ63_1 th 4 = gI σ60 th 4 := by rw [eσ63_1]
                  obtain ⟨b_8, eb_8, fb_8⟩ := P_11_2 iσ63_1.1 (kth.up (xτ9.trans (xσ39.trans (xσ42.trans (xσ54.trans (xσ59.trans (xσ60.trans xσ63_1)))))))
                  have mb_8 : kO σ63_1 b_8 1 := iσ63_1.1.kd (kth.up (xτ9.trans (xσ39.trans (xσ42.trans (xσ54.trans (xσ59.trans (xσ60.trans xσ63_1))))))) rfl eb_8 rfl
                  refine ⟨b_8, eb_8, fun kk_b_8 => ?_⟩
                  refine i_X1_add (G0 := 44) iσ63_1 mb_8 eb_2 (kk_b_2.up (xσ39.trans (xσ42.trans (xσ54.trans (xσ59.trans (xσ60.trans xσ63_1)))))) (by omega) (by (first | omega | with_reducible assumption | with_reducible exact rng_toInt _ | with_reducible exact rng_wr _ | (unfold rng; omega) | (unfold rng at *; omega) | assumption)) (by (first | omega | with_reducible assumption | with_reducible exact rng_toInt _ | with_reducible exact rng_wr _ | (unfold rng; omega) | (unfold rng at *; omega) | assumption)) (plc_y (G := 44) (by omega) (by decide)) (no50 (by decide)) (no13 (by decide)) (fun N9 n1 _ => iσ63_1.2.2.1.made (by decide) n1) (fun σ64_1 LLσ64_1 Nσ64_1 nuσ64_1 _ iσ64_1 cσ64_1 uσ64_1 hσ64_1 pσ64_1 => ?_)
                  intro xσ64_1
                  have fσ64_1 : Fx [1, 2, 3, 4, 5, 6, 7, 64, 512, 708] gr σ σ64_1 := fσ63_1.tr (cσ64_1.mo (by decide))
                  have hnσ64_1 : Hn (gD σ) [44, 41, 42] [] gq LL LLσ64_1 N Nσ64_1 := hnσ60.go hσ64_1 (fun d hd => (fσ63_1.1 d hd).1) (by first | decide | exact fun _ h => h | (simp; done) | (intro x hx; simp only [List.mem_cons, List.mem_nil_iff, or_false] at hx ⊢; omega)) (fun d hd => by rw [List.mem_singleton.mp hd]; exact lo_b_2)
                  have nσ64_1_3 := hσ64_1.2.2 3 (by first | decide | (simp; done) | (simp only [List.mem_cons, List.mem_nil_iff, or_false, not_or]; omega)) (by first | decide | omega) (by first | decide | omega) (by first | decide | omega)
                  have nσ64_1_5 := hσ64_1.2.2 5 (by first | decide | (simp; done) | (simp only [List.mem_cons, List.mem_nil_iff, or_false, not_or]; omega)) (by first | decide | omega) (by first | decide | omega) (by first | decide | omega)
                  have nσ64_1_14 := hσ64_1.2.2 14 (by first | decide | (simp; done) | (simp only [List.mem_cons, List.mem_nil_iff, or_false, not_or]; omega)) (by first | decide | omega) (by first | decide | omega) (by first | decide | omega)
                  have nσ64_1_74 := hσ64_1.2.2 74 (by first | decide | (simp; done) | (simp only [List.mem_cons, List.mem_nil_iff, or_false, not_or]; omega)) (by first | decide | omega) (by first | decide | omega) (by first | decide | omega)
                  have nσ64_1_11 := hσ64_1.2.2 11 (by first | decide | (simp; done) | (simp only [List.mem_cons, List.mem_nil_iff, or_false, not_or]; omega)) (by first | decide | omega) (by first | decide | omega) (by first | decide | omega)
                  have nσ64_1_12 := hσ64_1.2.2 12 (by first | decide | (simp; done) | (simp only [List.mem_cons, List.mem_nil_iff, or_false, not_or]; omega)) (by first | decide | omega) (by first | decide | omega) (by first | decide | omega)
                  have nσ64_1_41 := hσ64_1.2.2 41 (by first | decide | (simp; done) | (simp only [List.mem_cons, List.mem_nil_iff, or_false, not_or]; omega)) (by first | decide | omega) (by first | decide | omega) (by first | decide | omega)
                  have nσ64_1_42 := hσ64_1.2.2 42 (by first | decide | (simp; done) | (simp only [List.mem_cons, List.mem_nil_iff, or_false, not_or]; omega)) (by first | decide | omega) (by first | decide | omega) (by first | decide | omega)
                  have nσ64_1_13 := hσ64_1.2.2 13 (by first | decide | (simp; done) | (simp only [List.mem_cons, List.mem_nil_iff, or_false, not_or]; omega)) (by first | decide | omega) (by first | decide | omega) (by first | decide | omega)
                  have nu_σ64_1 : NU nu nuσ64_1 := nu_σ60.tr uσ64_1
                  have uσ64_1_0 := uσ64_1.1 0 (by decide)
                  have uσ64_1_1 := uσ64_1.1 1 (by decide)
                  have uσ64_1_2 := uσ64_1.2
                  have uσ64_1_5 := uσ64_1.1 5 (by decide)
                  have uσ64_1_15 := uσ64_1.1 15 (by decide)
                  have uσ64_1_16 := uσ64_1.1 16 (by decide)
                  have kp63 : gP σ64_1 t 2 = gP σ63_1 t 2 := (cσ64_1.O (kt.up (xτ9.trans (xσ39.trans (xσ42.trans (xσ54.trans (xσ59.trans (xσ60.trans xσ63_1))))))) (by decide)).2.1
                  have kp64 : gP σ64_1 t 3 = gP σ63_1 t 3 := (cσ64_1.O (kt.up (xτ9.trans (xσ39.trans (xσ42.trans (xσ54.trans (xσ59.trans (xσ60.trans xσ63_1))))))) (by decide)).2.1
                  have kp65 : gP σ64_1 th 0 = gP σ63_1 th 0 := (cσ64_1.O (kth.up (xτ9.trans (xσ39.trans (xσ42.trans (xσ54.trans (xσ59.trans (xσ60.trans xσ63_1))))))) (by decide)).2.1
                  have kp66 : gP σ64_1 th 2 = gP σ63_1 th 2 := (cσ64_1.O (kth.up (xτ9.trans (xσ39.trans (xσ42.trans (xσ54.trans (xσ59.trans (xσ60.trans xσ63_1))))))) (by decide)).2.1
                  have kp67 : gP σ64_1 th 5 = gP σ63_1 th 5 := (cσ64_1.O (kth.up (xτ9.trans (xσ39.trans (xσ42.trans (xσ54.trans (xσ59.trans (xσ60.trans xσ63_1))))))) (by decide)).2.1
                  have kp68 : gI σ64_1 t 0 = gI σ63_1 t 0 := (cσ64_1.O (kt.up (xτ9.trans (xσ39.trans (xσ42.trans (xσ54.trans (xσ59.trans (xσ60.trans xσ63_1))))))) (by decide)).1
                  have kp69 : gI σ64_1 th 4 = gI σ63_1 th 4 := (cσ64_1.O (kth.up (xτ9.trans (xσ39.trans (xσ42.trans (xσ54.trans (xσ59.trans (xσ60.trans xσ63_1))))))) (by decide)).1
                  have laσ64_1 : (LLσ64_1 b).length = (LLσ60 b).length := by rw [hσ64_1.1 b (mb.up (xτ9.trans (xσ39.trans (xσ42.trans (xσ54.trans (xσ59.trans (xσ60.trans xσ63_1))))))).1 (by first | (simp; done) | (simp only [List.mem_cons, List.mem_nil_iff, or_false, not_or]; omega)) (by omega)]
                  unfold w_X11_uniqueUpTo_169
                  refine ⟨t, hv2, fun kk_t_5 => ?_⟩
                  refine ⟨b, (kp63.trans (kp57.trans (kp52.trans (kp47.trans (kp41.trans (kp23.trans (kp18.trans (kp1.trans eb)))))))), fun kk_b_9 => ?_⟩
                  exact ih9 σ64_1 LLσ64_1 Nσ64_1 nuσ64_1 (gP σ64_1 b 0) iσ64_1 fσ64_1 (xτ9.trans (xσ39.trans (xσ42.trans (xσ54.trans (xσ59.trans (xσ60.trans (xσ63_1.trans xσ64_1))))))) nu_σ64_1 hnσ64_1 (⟨iσ64_1.first (mb.up (xτ9.trans (xσ39.trans (xσ42.trans (xσ54.trans (xσ59.trans (xσ60.trans (xσ63_1.trans xσ64_1)))))))), by omega, by omega⟩) (by (first | omega | with_reducible assumption | with_reducible exact rng_toInt _ | with_reducible exact rng_wr _ | (unfold rng; omega) | (unfold rng at *; omega) | assumption))
              · rw [if_neg hc26]
                unfold w_X11_uniqueUpTo_56
                obtain ⟨b_9, eb_9⟩ := Option.ne_none_iff_exists'.mp hc26
                have knb_9 : kO σ42 b_9 0 := iσ42.cell (it_mem hi51 eb_9)
                refine ⟨b_9, eb_9, fun kk_b_9_1 => ?_⟩
                refine ⟨b_2, eb_2, fun kk_b_2_4 => ?_⟩
                by_cases hc70 : gJ σ42 b_9 7 = gJ σ42 b_2 7
                · rw [if_pos hc70]
                  unfold w_X11_uniqueUpTo_80
                  rw [if_neg hc26]
                  unfold w_X11_uniqueUpTo_85
                  refine ⟨b_2, eb_2, fun kk_b_2_5 => ?_⟩
                  refine ⟨b_9, eb_9, fun kk_b_9_2 => ?_⟩
                  refine ⟨o, hv1, fun kk_o_2 => ?_⟩
                  have q73 := I_5_16 iσ42.1 (ko.up (xτ9.trans (xσ39.trans xσ42)))
                  by_cases hc72 : (gJ σ42 b_2 5 - gJ σ42 b_9 5) ≥ (Int64.ofInt (gI σ42 o 16))
                  · rw [if_pos hc72]
                    unfold w_X11_uniqueUpTo_117
                    by_cases hc74 : v6 ≠ none
                    · rw [if_pos hc74]
                      unfold w_X11_uniqueUpTo_150
                      refine ⟨b_2, eb_2, fun kk_b_2_6 => ?_⟩
                      refine ⟨b_9, eb_9, fun kk_b_9_3 => ?_⟩
                      intro σ63_2 eσ63_2
                      have xσ63_2 : Ext σ42 σ63_2 := by rw [eσ63_2]; exact fun _ h => ⟨h, rfl, rfl⟩
                      have iσ63_2 : IV σ63_2 pl gq ci gr nc ot LLσ39 Nσ39 nuσ39 := by rw [eσ63_2]; exact iσ42.wT knb_9 (by decide) (iσ42.t5 (kk_b_2.up (xσ39.trans xσ42)))
                      have fσ63_2 : Fx [1, 2, 3, 4, 5, 6, 7, 64, 512, 708] gr σ σ63_2 := fσ42.tr (Sk.fx (by rw [eσ63_2]; exact Sk.pJ (by rw [fcdO knb_9 (by decide)]; decide)))
                      have kp75 : gI σ63_2 o 16 = gI σ42 o 16 := by rw [eσ63_2]
                      have kp76 : gI σ63_2 th 4 = gI σ42 th 4 := by rw [eσ63_2]
                      have kp77 : gP σ63_2 t 2 = gP σ42 t 2 := by rw [eσ63_2]
                      have kp78 : gP σ63_2 t 3 = gP σ42 t 3 := by rw [eσ63_2]
                      have kp79 : gP σ63_2 th 5 = gP σ42 th 5 := by rw [eσ63_2]
                      have kp80 : gI σ63_2 t 0 = gI σ42 t 0 := by rw [eσ63_2]
                      obtain ⟨b_10, eb_10, fb_10⟩ := P_11_2 iσ63_2.1 (kth.up (xτ9.trans (xσ39.trans (xσ42.trans xσ63_2))))
                      have mb_10 : kO σ63_2 b_10 1 := iσ63_2.1.kd (kth.up (xτ9.trans (xσ39.trans (xσ42.trans xσ63_2)))) rfl eb_10 rfl
                      refine ⟨b_10, eb_10, fun kk_b_10 => ?_⟩
                      refine i_X1_add (G0 := 44) iσ63_2 mb_10 eb_2 (kk_b_2.up (xσ39.trans (xσ42.trans xσ63_2))) (by omega) (by (first | omega | with_reducible assumption | with_reducible exact rng_toInt _ | with_reducible exact rng_wr _ | (unfold rng; omega) | (unfold rng at *; omega) | assumption)) (by (first | omega | with_reducible assumption | with_reducible exact rng_toInt _ | with_reducible exact rng_wr _ | (unfold rng; omega) | (unfold rng at *; omega) | assumption)) (plc_y (G := 44) (by omega) (by decide)) (no50 (by decide)) (no13 (by decide)) (fun N9 n1 _ => iσ63_2.2.2.1.made (by decide) n1) (fun σ64_2 LLσ64_2 Nσ64_2 nuσ64_2 _ iσ64_2 cσ64_2 uσ64_2 hσ64_2 pσ64_2 => ?_)
                      intro xσ64_2
                      have fσ64_2 : Fx [1, 2, 3, 4, 5, 6, 7, 64, 512, 708] gr σ σ64_2 := fσ63_2.tr (cσ64_2.mo (by decide))
                      have hnσ64_2 : Hn (gD σ) [44, 41, 42] [] gq LL LLσ64_2 N Nσ64_2 := hnσ39.go hσ64_2 (fun d hd => (fσ63_2.1 d hd).1) (by first | decide | exact fun _ h => h | (simp; done) | (intro x hx; simp only [List.mem_cons, List.mem_nil_iff, or_false] at hx ⊢; omega)) (fun d hd => by rw [List.mem_singleton.mp hd]; exact lo_b_2)
                      have nσ64_2_3 := hσ64_2.2.2 3 (by first | decide | (simp; done) | (simp only [List.mem_cons, List.mem_nil_iff, or_false, not_or]; omega)) (by first | decide | omega) (by first | decide | omega) (by first | decide | omega)
                      have nσ64_2_5 := hσ64_2.2.2 5 (by first | decide | (simp; done) | (simp only [List.mem_cons, List.mem_nil_iff, or_false, not_or]; omega)) (by first | decide | omega) (by first | decide | omega) (by first | decide | omega)
                      have nσ64_2_14 := hσ64_2.2.2 14 (by first | decide | (simp; done) | (simp only [List.mem_cons, List.mem_nil_iff, or_false, not_or]; omega)) (by first | decide | omega) (by first | decide | omega) (by first | decide | omega)
                      have nσ64_2_74 := hσ64_2.2.2 74 (by first | decide | (simp; done) | (simp only [List.mem_cons, List.mem_nil_iff, or_false, not_or]; omega)) (by first | decide | omega) (by first | decide | omega) (by first | decide | omega)
                      have nσ64_2_11 := hσ64_2.2.2 11 (by first | decide | (simp; done) | (simp only [List.mem_cons, List.mem_nil_iff, or_false, not_or]; omega)) (by first | decide | omega) (by first | decide | omega) (by first | decide | omega)
                      have nσ64_2_12 := hσ64_2.2.2 12 (by first | decide | (simp; done) | (simp only [List.mem_cons, List.mem_nil_iff, or_false, not_or]; omega)) (by first | decide | omega) (by first | decide | omega) (by first | decide | omega)
                      have nσ64_2_41 := hσ64_2.2.2 41 (by first | decide | (simp; done) | (simp only [List.mem_cons, List.mem_nil_iff, or_false, not_or]; omega)) (by first | decide | omega) (by first | decide | omega) (by first | decide | omega)
                      have nσ64_2_42 := hσ64_2.2.2 42 (by first | decide | (simp; done) | (simp only [List.mem_cons, List.mem_nil_iff, or_false, not_or]; omega)) (by first | decide | omega) (by first | decide | omega) (by first | decide | omega)
                      have nσ64_2_13 := hσ64_2.2.2 13 (by first | decide | (simp; done) | (simp only [List.mem_cons, List.mem_nil_iff, or_false, not_or]; omega)) (by first | decide | omega) (by first | decide | omega) (by first | decide | omega)
                      have nu_σ64_2 : NU nu nuσ64_2 := nu_σ39.tr uσ64_2
                      have uσ64_2_0 := uσ64_2.1 0 (by decide)
                      have uσ64_2_1 := uσ64_2.1 1 (by decide)
                      have uσ64_2_2 := uσ64_2.2
                      have uσ64_2_5 := uσ64_2.1 5 (by decide)
                      have uσ64_2_15 := uσ64_2.1 15 (by decide)
                      have uσ64_2_16 := uσ64_2.1 16 (by decide)
                      have kp81 : gI σ64_2 o 16 = gI σ63_2 o 16 := (cσ64_2.O (ko.up (xτ9.trans (xσ39.trans (xσ42.trans xσ63_2)))) (by decide)).1
                      have kp82 : gI σ64_2 th 4 = gI σ63_2 th 4 := (cσ64_2.O (kth.up (xτ9.trans (xσ39.trans (xσ42.trans xσ63_2)))) (by decide)).1
                      have kp83 : gP σ64_2 t 2 = gP σ63_2 t 2 := (cσ64_2.O (kt.up (xτ9.trans (xσ39.trans (xσ42.trans xσ63_2)))) (by decide)).2.1
                      have kp84 : gP σ64_2 t 3 = gP σ63_2 t 3 := (cσ64_2.O (kt.up (xτ9.trans (xσ39.trans (xσ42.trans xσ63_2)))) (by decide)).2.1
                      have kp85 : gP σ64_2 th 2 = gP σ63_2 th 2 := (cσ64_2.O (kth.up (xτ9.trans (xσ39.trans (xσ42.trans xσ63_2)))) (by decide)).2.1
                      have kp86 : gP σ64_2 th 5 = gP σ63_2 th 5 := (cσ64_2.O (kth.up (xτ9.trans (xσ39.trans (xσ42.trans xσ63_2)))) (by decide)).2.1
                      have kp87 : gI σ64_2 t 0 = gI σ63_2 t 0 := (cσ64_2.O (kt.up (xτ9.trans (xσ39.trans (xσ42.trans xσ63_2)))) (by decide)).1
                      have laσ64_2 : (LLσ64_2 b).length = (LLσ39 b).length := by rw [hσ64_2.1 b (mb.up (xτ9.trans (xσ39.trans (xσ42.trans xσ63_2)))).1 (by first | (simp; done) | (simp only [List.mem_cons, List.mem_nil_iff, or_false, not_or]; omega)) (by omega)]
                      unfold w_X11_uniqueUpTo_169
                      refine ⟨t, hv2, fun kk_t_6 => ?_⟩
                      refine ⟨b, (kp83.trans (kp77.trans (kp23.trans (kp18.trans (kp1.trans eb))))), fun kk_b_11 => ?_⟩
                      exact ih9 σ64_2 LLσ64_2 Nσ64_2 nuσ64_2 (gP σ64_2 b 0) iσ64_2 fσ64_2 (xτ9.trans (xσ39.trans (xσ42.trans (xσ63_2.trans xσ64_2)))) nu_σ64_2 hnσ64_2 (⟨iσ64_2.first (mb.up (xτ9.trans (xσ39.trans (xσ42.trans (xσ63_2.trans xσ64_2))))), by omega, by omega⟩) (by (first | omega | with_reducible assumption | with_reducible exact rng_toInt _ | with_reducible exact rng_wr _ | (unfold rng; omega) | (unfold rng at *; omega) | assumption))
                    · rw [if_neg hc74]
                      have hc74q := Classical.not_not.mp hc74
                      unfold w_X11_uniqueUpTo_122
                      obtain ⟨b_11, eb_11⟩ := P_11_0 iσ42.1 (kth.up (xτ9.trans (xσ39.trans xσ42)))
                      refine ⟨b_11, eb_11, fun kk_b_11_1 => ?_⟩
                      refine i_X8_fresh iσ42 kk_b_11_1 (by (first | omega | with_reducible assumption | with_reducible exact rng_toInt _ | with_reducible exact rng_wr _ | (unfold rng; omega) | (unfold rng at *; omega) | assumption)) (fun σ54_1 LLσ54_1 Nσ54_1 nuσ54_1 c_σ54_1 iσ54_1 cσ54_1 uσ54_1 hσ54_1 pσ54_1 => ?_)
                      intro xσ54_1
                      have fσ54_1 : Fx [1, 2, 3, 4, 5, 6, 7, 64, 512, 708] gr σ σ54_1 := fσ42.tr (cσ54_1.mo (by decide))
                      have hnσ54_1 : Hn (gD σ) [44, 41, 42] [] gq LL LLσ54_1 N Nσ54_1 := hnσ39.go hσ54_1 (fun d hd => (fσ42.1 d hd).1) (by first | decide | exact fun _ h => h | (simp; done) | (intro x hx; simp only [List.mem_cons, List.mem_nil_iff, or_false] at hx ⊢; omega)) (fun d hd => absurd hd (by simp))
                      have ne_b_2_c_σ54_1 : b_2 ≠ c_σ54_1 := pσ54_1.2.1 b_2 (kk_b_2.up (xσ39.trans xσ42)) hb9
                      have hg_b_2_σ54_1 : ∀ x, b_2 ∉ LLσ54_1 x := hσ54_1.2.1 b_2 (kk_b_2.up (xσ39.trans xσ42)).1 (by simp) hb9
                      have hf_c_σ54_1 : ∀ x, c_σ54_1 ∉ LLσ54_1 x := pσ54_1.1
                      have lo_c_σ54_1 : Lo [] (gD σ) LL c_σ54_1 := hnσ39.loc (fun d hd => (fσ42.1 d hd).1) pσ54_1.2.2.1
                      have nσ54_1_3 := hσ54_1.2.2 3 (by first | decide | (simp; done) | (simp only [List.mem_cons, List.mem_nil_iff, or_false, not_or]; omega)) (by first | decide | omega) (by first | decide | omega) (by first | decide | omega)
                      have nσ54_1_5 := hσ54_1.2.2 5 (by first | decide | (simp; done) | (simp only [List.mem_cons, List.mem_nil_iff, or_false, not_or]; omega)) (by first | decide | omega) (by first | decide | omega) (by first | decide | omega)
                      have nσ54_1_14 := hσ54_1.2.2 14 (by first | decide | (simp; done) | (simp only [List.mem_cons, List.mem_nil_iff, or_false, not_or]; omega)) (by first | decide | omega) (by first | decide | omega) (by first | decide | omega)
                      have nσ54_1_44 := hσ54_1.2.2 44 (by first | decide | (simp; done) | (simp only [List.mem_cons, List.mem_nil_iff, or_false, not_or]; omega)) (by first | decide | omega) (by first | decide | omega) (by first | decide | omega)
                      have nσ54_1_74 := hσ54_1.2.2 74 (by first | decide | (simp; done) | (simp only [List.mem_cons, List.mem_nil_iff, or_false, not_or]; omega)) (by first | decide | omega) (by first | decide | omega) (by first | decide | omega)
                      have nσ54_1_11 := hσ54_1.2.2 11 (by first | decide | (simp; done) | (simp only [List.mem_cons, List.mem_nil_iff, or_false, not_or]; omega)) (by first | decide | omega) (by first | decide | omega) (by first | decide | omega)
                      have nσ54_1_12 := hσ54_1.2.2 12 (by first | decide | (simp; done) | (simp only [List.mem_cons, List.mem_nil_iff, or_false, not_or]; omega)) (by first | decide | omega) (by first | decide | omega) (by first | decide | omega)
                      have nσ54_1_41 := hσ54_1.2.2 41 (by first | decide | (simp; done) | (simp only [List.mem_cons, List.mem_nil_iff, or_false, not_or]; omega)) (by first | decide | omega) (by first | decide | omega) (by first | decide | omega)
                      have nσ54_1_42 := hσ54_1.2.2 42 (by first | decide | (simp; done) | (simp only [List.mem_cons, List.mem_nil_iff, or_false, not_or]; omega)) (by first | decide | omega) (by first | decide | omega) (by first | decide | omega)
                      have nσ54_1_13 := hσ54_1.2.2 13 (by first | decide | (simp; done) | (simp only [List.mem_cons, List.mem_nil_iff, or_false, not_or]; omega)) (by first | decide | omega) (by first | decide | omega) (by first | decide | omega)
                      have nu_σ54_1 : NU nu nuσ54_1 := nu_σ39.tr uσ54_1
                      have uσ54_1_0 := uσ54_1.1 0 (by decide)
                      have uσ54_1_1 := uσ54_1.1 1 (by decide)
                      have uσ54_1_2 := uσ54_1.2
                      have uσ54_1_5 := uσ54_1.1 5 (by decide)
                      have uσ54_1_15 := uσ54_1.1 15 (by decide)
                      have uσ54_1_16 := uσ54_1.1 16 (by decide)
                      have kp88 : gI σ54_1 o 16 = gI σ42 o 16 := (cσ54_1.O (ko.up (xτ9.trans (xσ39.trans xσ42))) (by decide)).1
                      have kp89 : gI σ54_1 th 4 = gI σ42 th 4 := (cσ54_1.O (kth.up (xτ9.trans (xσ39.trans xσ42))) (by decide)).1
                      have kp90 : gP σ54_1 t 2 = gP σ42 t 2 := (cσ54_1.O (kt.up (xτ9.trans (xσ39.trans xσ42))) (by decide)).2.1
                      have kp91 : gP σ54_1 t 3 = gP σ42 t 3 := (cσ54_1.O (kt.up (xτ9.trans (xσ39.trans xσ42))) (by decide)).2.1
                      have kp92 : gP σ54_1 th 0 = gP σ42 th 0 := (cσ54_1.O (kth.up (xτ9.trans (xσ39.trans xσ42))) (by decide)).2.1
                      have kp93 : gP σ54_1 th 5 = gP σ42 th 5 := (cσ54_1.O (kth.up (xτ9.trans (xσ39.trans xσ42))) (by decide)).2.1
                      have kp94 : gI σ54_1 t 0 = gI σ42 t 0 := (cσ54_1.O (kt.up (xτ9.trans (xσ39.trans xσ42))) (by decide)).1
                      have laσ54_1 : (LLσ54_1 b).length = (LLσ39 b).length := by rw [hσ54_1.1 b (mb.up (xτ9.trans (xσ39.trans xσ42))).1 (by first | (simp; done) | (simp only [List.mem_cons, List.mem_nil_iff, or_false, not_or]; omega)) (by omega)]
                      intro tyt_2
                      have krc_σ54_1 : kO σ54_1 c_σ54_1 0 := tyt_2 c_σ54_1 rfl
                      refine ⟨b_2, eb_2, fun kk_b_2_7 => ?_⟩
                      refine ⟨c_σ54_1, rfl, fun kk_c_σ54_1_1 => ?_⟩
                      intro σ59_1 eσ59_1
                      have xσ59_1 : Ext σ54_1 σ59_1 := by rw [eσ59_1]; exact fun _ h => ⟨h, rfl, rfl⟩
                      have iσ59_1 : IV σ59_1 pl gq ci gr nc ot LLσ54_1 Nσ54_1 nuσ54_1 := by rw [eσ59_1]; exact iσ54_1.wJ krc_σ54_1 (by decide)
                      have fσ59_1 : Fx [1, 2, 3, 4, 5, 6, 7, 64, 512, 708] gr σ σ59_1 := fσ54_1.tr (Sk.fx (by rw [eσ59_1]; exact Sk.pJ (by rw [fcdO krc_σ54_1 (by decide)]; decide)))
                      have kp95 : gI σ59_1 o 16 = gI σ54_1 o 16 := by rw [eσ59_1]
                      have kp96 : gI σ59_1 th 4 = gI σ54_1 th 4 := by rw [eσ59_1]
                      have kp97 : gP σ59_1 t 2 = gP σ54_1 t 2 := by rw [eσ59_1]
                      have kp98 : gP σ59_1 t 3 = gP σ54_1 t 3 := by rw [eσ59_1]
                      have kp99 : gP σ59_1 th 0 = gP σ54_1 th 0 := by rw [eσ59_1]
                      have kp100 : gP σ59_1 th 5 = gP σ54_1 th 5 := by rw [eσ59_1]
                      have kp101 : gI σ59_1 t 0 = gI σ54_1 t 0 := by rw [eσ59_1]
                      refine i4_X11_keep (G0 := 42) iσ59_1 (kth.up (xτ9.trans (xσ39.trans (xσ42.trans (xσ54_1.trans xσ59_1))))) hv1 (ko.up (xτ9.trans (xσ39.trans (xσ42.trans (xσ54_1.trans xσ59_1))))) hv2 (kt.up (xτ9.trans (xσ39.trans (xσ42.trans (xσ54_1.trans xσ59_1))))) rfl (krc_σ54_1.up xσ59_1) (by (first | omega | with_reducible assumption | with_reducible exact rng_toInt _ | with_reducible exact rng_wr _ | (unfold rng; omega) | (unfold rng at *; omega) | assumption)) (by (first | omega | with_reducible assumption | with_reducible exact rng_toInt _ | with_reducible exact rng_wr _ | (unfold rng; omega) | (unfold rng at *; omega) | assumption)) (by (first | omega | with_reducible assumption | with_reducible exact rng_toInt _ | with_reducible exact rng_wr _ | (unfold rng; omega) | (unfold rng at *; omega) | assumption)) (kp100.trans (kp93.trans (kp24.trans (kp19.trans (kp2.trans hj))))) (kJ.up (xτ9.trans (xσ39.trans (xσ42.trans (xσ54_1.trans xσ59_1))))) (by (first | omega | with_reducible assumption | with_reducible exact rng_toInt _ | with_reducible exact rng_wr _ | (unfold rng; omega) | (unfold rng at *; omega) | assumption)) (by (first | omega | with_reducible assumption | with_reducible exact rng_toInt _ | with_reducible exact rng_wr _ | (unfold rng; omega) | (unfold rng at *; omega) | assumption)) (by (first | omega | with_reducible assumption | with_reducible exact rng_toInt _ | with_reducible exact rng_wr _ | (unfold rng; omega) | (unfold rng at *; omega) | assumption)) (by (first | omega | with_reducible assumption | with_reducible exact rng_toInt _ | with_reducible exact rng_wr _ | (unfold rng; omega) | (unfold rng at *; omega) | assumption)) (by (first | omega | with_reducible assumption | with_reducible exact rng_toInt _ | with_reducible exact rng_wr _ | (unfold rng; omega) | (unfold rng at *; omega) | assumption)) (by (first | omega | with_reducible assumption | with_reducible exact rng_toInt _ | with_reducible exact rng_wr _ | (unfold rng; omega) | (unfold rng at *; omega) | assumption)) (Or.inr ⟨by decide, rfl⟩) (fun σ60_1 LLσ60_1 Nσ60_1 nuσ60_1 _ iσ60_1 cσ60_1 uσ60_1 hσ60_1 pσ60_1 => ?_) (fun σx LLx Nx nux E ix cx ux px => hX σx LLx Nx nux E ix (fσ59_1.tr (cx.mo (by decide))) (nu_σ54_1.x ux) (by first | exact px | exact ⟨by have := px.1; omega, (Hn.nz hnσ54_1 (by first | decide | (intro x hx; simp only [List.mem_cons, List.mem_nil_iff, or_false] at hx; omega))).tr px.2.1, px.2.2⟩ | (first | omega | with_reducible assumption | with_reducible exact rng_toInt _ | with_reducible exact rng_wr _ | (unfold rng; omega) | (unfold rng at *; omega) | assumption)))
                      intro xσ60_1
                      have fσ60_1 : Fx [1, 2, 3, 4, 5, 6, 7, 64, 512, 708] gr σ σ60_1 := fσ59_1.tr (cσ60_1.mo (by decide))
                      have hnσ60_1 : Hn (gD σ) [44, 41, 42] [] gq LL LLσ60_1 N Nσ60_1 := hnσ54_1.go hσ60_1 (fun d hd => (fσ59_1.1 d hd).1) (by first | decide | exact fun _ h => h | (simp; done) | (intro x hx; simp only [List.mem_cons, List.mem_nil_iff, or_false] at hx ⊢; omega)) (fun d hd => by rw [List.mem_singleton.mp hd]; exact lo_c_σ54_1)
                      have hg_b_2_σ60_1 : ∀ x, b_2 ∉ LLσ60_1 x := hσ60_1.2.1 b_2 (kk_b_2.up (xσ39.trans (xσ42.trans (xσ54_1.trans xσ59_1)))).1 (by simp only [List.mem_cons, List.mem_nil_iff, or_false, not_or]; first | omega | (exact fun q => absurd q.symm (by assumption))) hg_b_2_σ54_1
                      have nσ60_1_3 := hσ60_1.2.2 3 (by first | decide | (simp; done) | (simp only [List.mem_cons, List.mem_nil_iff, or_false, not_or]; omega)) (by first | decide | omega) (by first | decide | omega) (by first | decide | omega)
                      have nσ60_1_5 := hσ60_1.2.2 5 (by first | decide | (simp; done) | (simp only [List.mem_cons, List.mem_nil_iff, or_false, not_or]; omega)) (by first | decide | omega) (by first | decide | omega) (by first | decide | omega)
                      have nσ60_1_14 := hσ60_1.2.2 14 (by first | decide | (simp; done) | (simp only [List.mem_cons, List.mem_nil_iff, or_false, not_or]; omega)) (by first | decide | omega) (by first | decide | omega) (by first | decide | omega)
                      have nσ60_1_44 := hσ60_1.2.2 44 (by first | decide | (simp; done) | (simp only [List.mem_cons, List.mem_nil_iff, or_false, not_or]; omega)) (by first | decide | omega) (by first | decide | omega) (by first | decide | omega)
                      have nσ60_1_74 := hσ60_1.2.2 74 (by first | decide | (simp; done) | (simp only [List.mem_cons, List.mem_nil_iff, or_false, not_or]; omega)) (by first | decide | omega) (by first | decide | omega) (by first | decide | omega)
                      have nσ60_1_11 := hσ60_1.2.2 11 (by first | decide | (simp; done) | (simp only [List.mem_cons, List.mem_nil_iff, or_false, not_or]; omega)) (by first | decide | omega) (by first | decide | omega) (by first | decide | omega)
                      have nσ60_1_12 := hσ60_1.2.2 12 (by first | decide | (simp; done) | (simp only [List.mem_cons, List.mem_nil_iff, or_false, not_or]; omega)) (by first | decide | omega) (by first | decide | omega) (by first | decide | omega)
                      have nσ60_1_41 := hσ60_1.2.2 41 (by first | decide | (simp; done) | (simp only [List.mem_cons, List.mem_nil_iff, or_false, not_or]; omega)) (by first | decide | omega) (by first | decide | omega) (by first | decide | omega)
                      have nσ60_1_13 := hσ60_1.2.2 13 (by first | decide | (simp; done) | (simp only [List.mem_cons, List.mem_nil_iff, or_false, not_or]; omega)) (by first | decide | omega) (by first | decide | omega) (by first | decide | omega)
                      have nu_σ60_1 : NU nu nuσ60_1 := nu_σ54_1.tr uσ60_1
                      have uσ60_1_0 := uσ60_1.1 0 (by decide)
                      have uσ60_1_1 := uσ60_1.1 1 (by decide)
                      have uσ60_1_2 := uσ60_1.2
                      have uσ60_1_5 := uσ60_1.1 5 (by decide)
                      have uσ60_1_15 := uσ60_1.1 15 (by decide)
                      have uσ60_1_16 := uσ60_1.1 16 (by decide)
                      have kp102 : gI σ60_1 o 16 = gI σ59_1 o 16 := (cσ60_1.O (ko.up (xτ9.trans (xσ39.trans (xσ42.trans (xσ54_1.trans xσ59_1))))) (by decide)).1
                      have kp103 : gP σ60_1 t 2 = gP σ59_1 t 2 := (cσ60_1.O (kt.up (xτ9.trans (xσ39.trans (xσ42.trans (xσ54_1.trans xσ59_1))))) (by decide)).2.1
                      have kp104 : gP σ60_1 t 3 = gP σ59_1 t 3 := (cσ60_1.O (kt.up (xτ9.trans (xσ39.trans (xσ42.trans (xσ54_1.trans xσ59_1))))) (by decide)).2.1
                      have kp105 : gP σ60_1 th 0 = gP σ59_1 th 0 := (cσ60_1.O (kth.up (xτ9.trans (xσ39.trans (xσ42.trans (xσ54_1.trans xσ59_1))))) (by decide)).2.1
                      have kp106 : gP σ60_1 th 5 = gP σ59_1 th 5 := (cσ60_1.O (kth.up (xτ9.trans (xσ39.trans (xσ42.trans (xσ54_1.trans xσ59_1))))) (by decide)).2.1
                      have kp107 : gI σ60_1 t 0 = gI σ59_1 t 0 := (cσ60_1.O (kt.up (xτ9.trans (xσ39.trans (xσ42.trans (xσ54_1.trans xσ59_1))))) (by decide)).1
                      have laσ60_1 : (LLσ60_1 b).length = (LLσ54_1 b).length := by rw [hσ60_1.1 b (mb.up (xτ9.trans (xσ39.trans (xσ42.trans (xσ54_1.trans xσ59_1))))).1 (by first | (simp; done) | (simp only [List.mem_cons, List.mem_nil_iff, or_false, not_or]; omega)) (by omega)]
                      unfold w_X11_uniqueUpTo_150
                      refine ⟨b_2, eb_2, fun kk_b_2_8 => ?_⟩
                      refine ⟨c_σ54_1, rfl, fun kk_c_σ54_1_2 => ?_⟩
                      intro σ63_3 eσ63_3
                      have xσ63_3 : Ext σ60_1 σ63_3 := by rw [eσ63_3]; exact fun _ h => ⟨h, rfl, rfl⟩
                      have iσ63_3 : IV σ63_3 pl gq ci gr nc ot LLσ60_1 Nσ60_1 nuσ60_1 := by rw [eσ63_3]; exact iσ60_1.wT (krc_σ54_1.up (xσ59_1.trans xσ60_1)) (by decide) (iσ60_1.t5 (kk_b_2.up (xσ39.trans (xσ42.trans (xσ54_1.trans (xσ59_1.trans xσ60_1))))))
                      have fσ63_3 : Fx [1, 2, 3, 4, 5, 6, 7, 64, 512, 708] gr σ σ63_3 := fσ60_1.tr (Sk.fx (by rw [eσ63_3]; exact Sk.pJ (by rw [fcdO (krc_σ54_1.up (xσ59_1.trans xσ60_1)) (by decide)]; decide)))
                      have kp108 : gI σ63_3 o 16 = gI σ60_1 o 16 := by rw [eσ63_3]
                      have kp109 : gP σ63_3 t 2 = gP σ60_1 t 2 := by rw [eσ63_3]
                      have kp110 : gP σ63_3 t 3 = gP σ60_1 t 3 := by rw [eσ63_3]
                      have kp111 : gP σ63_3 th 0 = gP σ60_1 th 0 := by rw [eσ63_3]
                      have kp112 : gP σ63_3 th 5 = gP σ60_1 th 5 := by rw [eσ63_3]
                      have kp113 : gI σ63_3 t 0 = gI σ60_1 t 0 := by rw [eσ63_3]
                      have kp114 : gI σ63_3 th 4 = gI σ60_1 th 4 := by rw [eσ63_3]
                      obtain ⟨b_12, eb_12, fb_12⟩ := P_11_2 iσ63_3.1 (kth.up (xτ9.trans (xσ39.trans (xσ42.trans (xσ54_1.trans (xσ59_1.trans (xσ60_1.trans xσ63_3)))))))
                      have mb_12 : kO σ63_3 b_12 1 := iσ63_3.1.kd (kth.up (xτ9.trans (xσ39.trans (xσ42.trans (xσ54_1.trans (xσ59_1.trans (xσ60_1.trans xσ63_3))))))) rfl eb_12 rfl
                      refine ⟨b_12, eb_12, fun kk_b_12 => ?_⟩
                      refine i_X1_add (G0 := 44) iσ63_3 mb_12 eb_2 (kk_b_2.up (xσ39.trans (xσ42.trans (xσ54_1.trans (xσ59_1.trans (xσ60_1.trans xσ63_3)))))) (by omega) (by (first | omega | with_reducible assumption | with_reducible exact rng_toInt _ | with_reducible exact rng_wr _ | (unfold rng; omega) | (unfold rng at *; omega) | assumption)) (by (first | omega | with_reducible assumption | with_reducible exact rng_toInt _ | with_reducible exact rng_wr _ | (unfold rng; omega) | (unfold rng at *; omega) | assumption)) (plc_y (G := 44) (by omega) (by decide)) (no50 (by decide)) (no13 (by decide)) (fun N9 n1 _ => iσ63_3.2.2.1.made (by decide) n1) (fun σ64_3 LLσ64_3 Nσ64_3 nuσ64_3 _ iσ64_3 cσ64_3 uσ64_3 hσ64_3 pσ64_3 => ?_)
                      intro xσ64_3
                      have fσ64_3 : Fx [1, 2, 3, 4, 5, 6, 7, 64, 512, 708] gr σ σ64_3 := fσ63_3.tr (cσ64_3.mo (by decide))
                      have hnσ64_3 : Hn (gD σ) [44, 41, 42] [] gq LL LLσ64_3 N Nσ64_3 := hnσ60_1.go hσ64_3 (fun d hd => (fσ63_3.1 d hd).1) (by first | decide | exact fun _ h => h | (simp; done) | (intro x hx; simp only [List.mem_cons, List.mem_nil_iff, or_false] at hx ⊢; omega)) (fun d hd => by rw [List.mem_singleton.mp hd]; exact lo_b_2)
                      have nσ64_3_3 := hσ64_3.2.2 3 (by first | decide | (simp; done) | (simp only [List.mem_cons, List.mem_nil_iff, or_false, not_or]; omega)) (by first | decide | omega) (by first | decide | omega) (by first | decide | omega)
                      have nσ64_3_5 := hσ64_3.2.2 5 (by first | decide | (simp; done) | (simp only [List.mem_cons, List.mem_nil_iff, or_false, not_or]; omega)) (by first | decide | omega) (by first | decide | omega) (by first | decide | omega)
                      have nσ64_3_14 := hσ64_3.2.2 14 (by first | decide | (simp; done) | (simp only [List.mem_cons, List.mem_nil_iff, or_false, not_or]; omega)) (by first | decide | omega) (by first | decide | omega) (by first | decide | omega)
                      have nσ64_3_74 := hσ64_3.2.2 74 (by first | decide | (simp; done) | (simp only [List.mem_cons, List.mem_nil_iff, or_false, not_or]; omega)) (by first | decide | omega) (by first | decide | omega) (by first | decide | omega)
                      have nσ64_3_11 := hσ64_3.2.2 11 (by first | decide | (simp; done) | (simp only [List.mem_cons, List.mem_nil_iff, or_false, not_or]; omega)) (by first | decide | omega) (by first | decide | omega) (by first | decide | omega)
                      have nσ64_3_12 := hσ64_3.2.2 12 (by first | decide | (simp; done) | (simp only [List.mem_cons, List.mem_nil_iff, or_false, not_or]; omega)) (by first | decide | omega) (by first | decide | omega) (by first | decide | omega)
                      have nσ64_3_41 := hσ64_3.2.2 41 (by first | decide | (simp; done) | (simp only [List.mem_cons, List.mem_nil_iff, or_false, not_or]; omega)) (by first | decide | omega) (by first | decide | omega) (by first | decide | omega)
                      have nσ64_3_42 := hσ64_3.2.2 42 (by first | decide | (simp; done) | (simp only [List.mem_cons, List.mem_nil_iff, or_false, not_or]; omega)) (by first | decide | omega) (by first | decide | omega) (by first | decide | omega)
                      have nσ64_3_13 := hσ64_3.2.2 13 (by first | decide | (simp; done) | (simp only [List.mem_cons, List.mem_nil_iff, or_false, not_or]; omega)) (by first | decide | omega) (by first | decide | omega) (by first | decide | omega)
                      have nu_σ64_3 : NU nu nuσ64_3 := nu_σ60_1.tr uσ64_3
                      have uσ64_3_0 := uσ64_3.1 0 (by decide)
                      have uσ64_3_1 := uσ64_3.1 1 (by decide)
                      have uσ64_3_2 := uσ64_3.2
                      have uσ64_3_5 := uσ64_3.1 5 (by decide)
                      have uσ64_3_15 := uσ64_3.1 15 (by decide)
                      have uσ64_3_16 := uσ64_3.1 16 (by decide)
                      have kp115 : gI σ64_3 o 16 = gI σ63_3 o 16 := (cσ64_3.O (ko.up (xτ9.trans (xσ39.trans (xσ42.trans (xσ54_1.trans (xσ59_1.trans (xσ60_1.trans xσ63_3))))))) (by decide)).1
                      have kp116 : gP σ64_3 t 2 = gP σ63_3 t 2 := (cσ64_3.O (kt.up (xτ9.trans (xσ39.trans (xσ42.trans (xσ54_1.trans (xσ59_1.trans (xσ60_1.trans xσ63_3))))))) (by decide)).2.1
                      have kp117 : gP σ64_3 t 3 = gP σ63_3 t 3 := (cσ64_3.O (kt.up (xτ9.trans (xσ39.trans (xσ42.trans (xσ54_1.trans (xσ59_1.trans (xσ60_1.trans xσ63_3))))))) (by decide)).2.1
                      have kp118 : gP σ64_3 th 0 = gP σ63_3 th 0 := (cσ64_3.O (kth.up (xτ9.trans (xσ39.trans (xσ42.trans (xσ54_1.trans (xσ59_1.trans (xσ60_1.trans xσ63_3))))))) (by decide)).2.1
                      have kp119 : gP σ64_3 th 2 = gP σ63_3 th 2 := (cσ64_3.O (kth.up (xτ9.trans (xσ39.trans (xσ42.trans (xσ54_1.trans (xσ59_1.trans (xσ60_1.trans xσ63_3))))))) (by decide)).2.1
                      have kp120 : gP σ64_3 th 5 = gP σ63_3 th 5 := (cσ64_3.O (kth.up (xτ9.trans (xσ39.trans (xσ42.trans (xσ54_1.trans (xσ59_1.trans (xσ60_1.trans xσ63_3))))))) (by decide)).2.1
                      have kp121 : gI σ64_3 t 0 = gI σ63_3 t 0 := (cσ64_3.O (kt.up (xτ9.trans (xσ39.trans (xσ42.trans (xσ54_1.trans (xσ59_1.trans (xσ60_1.trans xσ63_3))))))) (by decide)).1
                      have kp122 : gI σ64_3 th 4 = gI σ63_3 th 4 := (cσ64_3.O (kth.up (xτ9.trans (xσ39.trans (xσ42.trans (xσ54_1.trans (xσ59_1.trans (xσ60_1.trans xσ63_3))))))) (by decide)).1
                      have laσ64_3 : (LLσ64_3 b).length = (LLσ60_1 b).length := by rw [hσ64_3.1 b (mb.up (xτ9.trans (xσ39.trans (xσ42.trans (xσ54_1.trans (xσ59_1.trans (xσ60_1.trans xσ63_3))))))).1 (by first | (simp; done) | (simp only [List.mem_cons, List.mem_nil_iff, or_false, not_or]; omega)) (by omega)]
                      unfold w_X11_uniqueUpTo_169
                      refine ⟨t, hv2, fun kk_t_7 => ?_⟩
                      refine ⟨b, (kp116.trans (kp109.trans (kp103.trans (kp97.trans (kp90.trans (kp23.trans (kp18.trans (kp1.trans eb)))))))), fun kk_b_13 => ?_⟩
                      exact ih9 σ64_3 LLσ64_3 Nσ64_3 nuσ64_3 (gP σ64_3 b 0) iσ64_3 fσ64_3 (xτ9.trans (xσ39.trans (xσ42.trans (xσ54_1.trans (xσ59_1.trans (xσ60_1.trans (xσ63_3.trans xσ64_3))))))) nu_σ64_3 hnσ64_3 (⟨iσ64_3.first (mb.up (xτ9.trans (xσ39.trans (xσ42.trans (xσ54_1.trans (xσ59_1.trans (xσ60_1.trans (xσ63_3.trans xσ64_3)))))))), by omega, by omega⟩) (by (first | omega | with_reducible assumption | with_reducible exact rng_toInt _ | with_reducible exact rng_wr _ | (unfold rng; omega) | (unfold rng at *; omega) | assumption))
                  · rw [if_neg hc72]
                    unfold w_X11_uniqueUpTo_105
                    obtain ⟨b_13, eb_13⟩ := P_11_0 iσ42.1 (kth.up (xτ9.trans (xσ39.trans xσ42)))
                    refine ⟨b_13, eb_13, fun kk_b_13_1 => ?_⟩
                    refine i_X8_release iσ42 kk_b_13_1 eb_2 (kk_b_2.up (xσ39.trans xσ42)) (by (first | omega | with_reducible assumption | with_reducible exact rng_toInt _ | with_reducible exact rng_wr _ | (unfold rng; omega) | (unfold rng at *; omega) | assumption)) (by (first | omega | with_reducible assumption | with_reducible exact rng_toInt _ | with_reducible exact rng_wr _ | (unfold rng; omega) | (unfold rng at *; omega) | assumption)) (fun σ50 LLσ50 Nσ50 nuσ50 _ iσ50 cσ50 uσ50 hσ50 pσ50 => ?_)
                    intro xσ50
                    have fσ50 : Fx [1, 2, 3, 4, 5, 6, 7, 64, 512, 708] gr σ σ50 := fσ42.tr (cσ50.mo (by decide))
                    have hnσ50 : Hn (gD σ) [44, 41, 42] [] gq LL LLσ50 N Nσ50 := hnσ39.go hσ50 (fun d hd => (fσ42.1 d hd).1) (by first | decide | exact fun _ h => h | (simp; done) | (intro x hx; simp only [List.mem_cons, List.mem_nil_iff, or_false] at hx ⊢; omega)) (fun d hd => by rw [List.mem_singleton.mp hd]; exact lo_b_2)
                    have nσ50_3 := hσ50.2.2 3 (by first | decide | (simp; done) | (simp only [List.mem_cons, List.mem_nil_iff, or_false, not_or]; omega)) (by first | decide | omega) (by first | decide | omega) (by first | decide | omega)
                    have nσ50_5 := hσ50.2.2 5 (by first | decide | (simp; done) | (simp only [List.mem_cons, List.mem_nil_iff, or_false, not_or]; omega)) (by first | decide | omega) (by first | decide | omega) (by first | decide | omega)
                    have nσ50_14 := hσ50.2.2 14 (by first | decide | (simp; done) | (simp only [List.mem_cons, List.mem_nil_iff, or_false, not_or]; omega)) (by first | decide | omega) (by first | decide | omega) (by first | decide | omega)
                    have nσ50_44 := hσ50.2.2 44 (by first | decide | (simp; done) | (simp only [List.mem_cons, List.mem_nil_iff, or_false, not_or]; omega)) (by first | decide | omega) (by first | decide | omega) (by first | decide | omega)
                    have nσ50_74 := hσ50.2.2 74 (by first | decide | (simp; done) | (simp only [List.mem_cons, List.mem_nil_iff, or_false, not_or]; omega)) (by first | decide | omega) (by first | decide | omega) (by first | decide | omega)
                    have nσ50_11 := hσ50.2.2 11 (by first | decide | (simp; done) | (simp only [List.mem_cons, List.mem_nil_iff, or_false, not_or]; omega)) (by first | decide | omega) (by first | decide | omega) (by first | decide | omega)
                    have nσ50_12 := hσ50.2.2 12 (by first | decide | (simp; done) | (simp only [List.mem_cons, List.mem_nil_iff, or_false, not_or]; omega)) (by first | decide | omega) (by first | decide | omega) (by first | decide | omega)
                    have nσ50_41 := hσ50.2.2 41 (by first | decide | (simp; done) | (simp only [List.mem_cons, List.mem_nil_iff, or_false, not_or]; omega)) (by first | decide | omega) (by first | decide | omega) (by first | decide | omega)
                    have nσ50_42 := hσ50.2.2 42 (by first | decide | (simp; done) | (simp only [List.mem_cons, List.mem_nil_iff, or_false, not_or]; omega)) (by first | decide | omega) (by first | decide | omega) (by first | decide | omega)
                    have nσ50_13 := hσ50.2.2 13 (by first | decide | (simp; done) | (simp only [List.mem_cons, List.mem_nil_iff, or_false, not_or]; omega)) (by first | decide | omega) (by first | decide | omega) (by first | decide | omega)
                    have nu_σ50 : NU nu nuσ50 := nu_σ39.tr uσ50
                    have uσ50_0 := uσ50.1 0 (by decide)
                    have uσ50_1 := uσ50.1 1 (by decide)
                    have uσ50_2 := uσ50.2
                    have uσ50_5 := uσ50.1 5 (by decide)
                    have uσ50_15 := uσ50.1 15 (by decide)
                    have uσ50_16 := uσ50.1 16 (by decide)
                    have kp123 : gI σ50 o 16 = gI σ42 o 16 := (cσ50.O (ko.up (xτ9.trans (xσ39.trans xσ42))) (by decide)).1
                    have kp124 : gI σ50 th 4 = gI σ42 th 4 := (cσ50.O (kth.up (xτ9.trans (xσ39.trans xσ42))) (by decide)).1
                    have kp125 : gP σ50 t 2 = gP σ42 t 2 := (cσ50.O (kt.up (xτ9.trans (xσ39.trans xσ42))) (by decide)).2.1
                    have kp126 : gP σ50 t 3 = gP σ42 t 3 := (cσ50.O (kt.up (xτ9.trans (xσ39.trans xσ42))) (by decide)).2.1
                    have kp127 : gP σ50 th 0 = gP σ42 th 0 := (cσ50.O (kth.up (xτ9.trans (xσ39.trans xσ42))) (by decide)).2.1
                    have kp128 : gP σ50 th 5 = gP σ42 th 5 := (cσ50.O (kth.up (xτ9.trans (xσ39.trans xσ42))) (by decide)).2.1
                    have kp129 : gI σ50 t 0 = gI σ42 t 0 := (cσ50.O (kt.up (xτ9.trans (xσ39.trans xσ42))) (by decide)).1
                    have laσ50 : (LLσ50 b).length = (LLσ39 b).length := by rw [hσ50.1 b (mb.up (xτ9.trans (xσ39.trans xσ42))).1 (by first | (simp; done) | (simp only [List.mem_cons, List.mem_nil_iff, or_false, not_or]; omega)) (by omega)]
                    unfold w_X11_uniqueUpTo_169
                    refine ⟨t, hv2, fun kk_t_8 => ?_⟩
                    refine ⟨b, (kp125.trans (kp23.trans (kp18.trans (kp1.trans eb)))), fun kk_b_14 => ?_⟩
                    exact ih9 σ50 LLσ50 Nσ50 nuσ50 (gP σ50 b 0) iσ50 fσ50 (xτ9.trans (xσ39.trans (xσ42.trans xσ50))) nu_σ50 hnσ50 (⟨iσ50.first (mb.up (xτ9.trans (xσ39.trans (xσ42.trans xσ50)))), by omega, by omega⟩) (by (first | omega | with_reducible assumption | with_reducible exact rng_toInt _ | with_reducible exact rng_wr _ | (unfold rng; omega) | (unfold rng at *; omega) | assumption))
                · rw [if_neg hc70]
                  unfold w_X11_uniqueUpTo_70
                  obtain ⟨A1, B1, p1, p2, p3, p4⟩ := it_step iσ42 mb_4 hi51 eb_9
                  refine ⟨b_9, eb_9, fun kk_b_9_4 => ?_⟩
                  exact ih51 (gP σ42 b_9 1) (⟨A1, B1, ⟨p1, p2⟩, by omega⟩)
          exact ⟨(LLσ39 b_4).length + 1, Lp51 _ _ (⟨[], LLσ39 b_4, ⟨by simp, iσ42.first mb_4⟩, Nat.lt_succ_self _⟩)⟩
  exact ⟨_, Lp9 _ σ LL N nu _ iσ fσ (Ext.rfl' _) NU.rf hnσ (⟨iσ.first mb, rfl, Nat.le_refl _⟩) (Nat.lt_succ_self _)⟩
set_option maxHeartbeats 1000000 in
theorem i4_X11_accept {σ : Sg} {pl : Nat} {gq ci gr nc : Nat → Nat} {ot : Nat → Nat → Int} {LL : Nat → List Nat} {N nu : Nat → Nat} {th : Nat} {v1 : Option Nat} {v2 : Option Nat} {v3 : Int} {v4 : Option Nat} {J i : Nat} (iσ : IV σ pl gq ci gr nc ot LL N nu) (kth : kO σ th 11) {o : Nat} (hv1 : v1 = some o) (ko : kO σ o 5) {t : Nat} (hv2 : v2 = some t) (kt : kO σ t 10) {c : Nat} (hv4 : v4 = some c) (kc : kO σ c 0) (hq : gq th = 4) (hf : ∀ x, c ∉ LL x) (h1 : 1 ≤ N 1) (hj : gP σ th 5 = some J) (kJ : kO σ J 4) (hJ : gq J = nc 0) (ho : gq o = 16 * nc 0 + i) (hi : i < nc 1) (hk1 : 1 ≤ ot i 6) (ht : gq t = 4) (h5 : nu 5 < 24000) (hb : N 14 + N 44 + N 74 + N 1 ≤ 30000) (hs : -(N 3 : Int) + 6000 ≤ (gJ σ c 5).toInt ∧ (gJ σ c 5).toInt + 6000 ≤ (N 3 : Int)) {Q : Sg → Unit → Prop} {X : Sg → String → Prop} (hQ : ∀ (σ' : Sg) (LL' : Nat → List Nat) (N' nu' : Nat → Nat) (r : Unit), IV σ' pl gq ci gr nc ot LL' N' nu' → Fx [1, 2, 3, 4, 5, 6, 7, 64, 265, 266, 512, 513, 514, 645, 708, 6464] gr σ σ' → NU nu nu' → Hn (gD σ) [44, 41, 42] [c] gq LL LL' N N' → (N' 1 + 1 = N 1 ∧ N' 44 ≤ N 44 + 4001) → Q σ' r) (hX : ∀ (σ' : Sg) (LL' : Nat → List Nat) (N' nu' : Nat → Nat) (E : String), IV σ' pl gq ci gr nc ot LL' N' nu' → Fx [1, 2, 3, 4, 5, 6, 7, 64, 265, 266, 512, 513, 514, 645, 708, 6464] gr σ σ' → NX nu nu' → ((N' 1 ≤ N 1 + 2 ∧ N' 5 = N 5 ∧ N' 3 = N 3 ∧ N' 14 = N 14 ∧ N' 74 = N 74) ∧ NZ N N' ∧ E = "java/lang/IllegalStateException") → X σ' E) : wp_X11_accept th v1 v2 v3 v4 σ Q X := by
  have fσ : Fx [1, 2, 3, 4, 5, 6, 7, 64, 265, 266, 512, 513, 514, 645, 708, 6464] gr σ σ := Fx.rf
  have hnσ : Hn (gD σ) [44, 41, 42] [c] gq LL LL N N := Hn.rf
  have lo_c : Lo [c] (gD σ) LL c := Or.inl (by simp)
  have ok := iσ.opok hi
  have q6 := iσ.op ko ho hi 6 (by decide)
  have h7 : 0 ≤ ot i 7 := ok.2.2.2.1 hk1
  have m3 := iσ.m3
  unfold wp_X11_accept
  unfold w_X11_accept_0
  refine ⟨o, hv1, fun kk_o => ?_⟩
  have q2 := I_5_6 iσ.1 ko
  by_cases hc1 : gI σ o 6 = 1
  · rw [if_pos hc1]
    unfold w_X11_accept_60
    refine i4_X11_filterRow iσ kth hv1 ko hv2 kt hv4 kc (by (first | omega | with_reducible assumption | with_reducible exact rng_toInt _ | with_reducible exact rng_wr _ | (unfold rng; omega) | (unfold rng at *; omega) | assumption)) (by (first | omega | with_reducible assumption | with_reducible exact rng_toInt _ | with_reducible exact rng_wr _ | (unfold rng; omega) | (unfold rng at *; omega) | assumption)) (by (first | omega | with_reducible assumption | with_reducible exact rng_toInt _ | with_reducible exact rng_wr _ | (unfold rng; omega) | (unfold rng at *; omega) | assumption)) hj kJ (by (first | omega | with_reducible assumption | with_reducible exact rng_toInt _ | with_reducible exact rng_wr _ | (unfold rng; omega) | (unfold rng at *; omega) | assumption)) (fun σ56 LLσ56 Nσ56 nuσ56 _ iσ56 cσ56 uσ56 hσ56 pσ56 => ?_)
    intro xσ56
    have fσ56 : Fx [1, 2, 3, 4, 5, 6, 7, 64, 265, 266, 512, 513, 514, 645, 708, 6464] gr σ σ56 := fσ.tr (cσ56.mo (by decide))
    have hnσ56 : Hn (gD σ) [44, 41, 42] [c] gq LL LLσ56 N Nσ56 := hnσ.go hσ56 (fun d hd => (fσ.1 d hd).1) (by first | decide | exact fun _ h => h | (simp; done) | (intro x hx; simp only [List.mem_cons, List.mem_nil_iff, or_false] at hx ⊢; omega)) (fun d hd => by rw [List.mem_singleton.mp hd]; exact lo_c)
    have nσ56_3 := hσ56.2.2 3 (by first | decide | (simp; done) | (simp only [List.mem_cons, List.mem_nil_iff, or_false, not_or]; omega)) (by first | decide | omega) (by first | decide | omega) (by first | decide | omega)
    have nσ56_5 := hσ56.2.2 5 (by first | decide | (simp; done) | (simp only [List.mem_cons, List.mem_nil_iff, or_false, not_or]; omega)) (by first | decide | omega) (by first | decide | omega) (by first | decide | omega)
    have nσ56_14 := hσ56.2.2 14 (by first | decide | (simp; done) | (simp only [List.mem_cons, List.mem_nil_iff, or_false, not_or]; omega)) (by first | decide | omega) (by first | decide | omega) (by first | decide | omega)
    have nσ56_74 := hσ56.2.2 74 (by first | decide | (simp; done) | (simp only [List.mem_cons, List.mem_nil_iff, or_false, not_or]; omega)) (by first | decide | omega) (by first | decide | omega) (by first | decide | omega)
    have nσ56_11 := hσ56.2.2 11 (by first | decide | (simp; done) | (simp only [List.mem_cons, List.mem_nil_iff, or_false, not_or]; omega)) (by first | decide | omega) (by first | decide | omega) (by first | decide | omega)
    have nσ56_12 := hσ56.2.2 12 (by first | decide | (simp; done) | (simp only [List.mem_cons, List.mem_nil_iff, or_false, not_or]; omega)) (by first | decide | omega) (by first | decide | omega) (by first | decide | omega)
    have nσ56_41 := hσ56.2.2 41 (by first | decide | (simp; done) | (simp only [List.mem_cons, List.mem_nil_iff, or_false, not_or]; omega)) (by first | decide | omega) (by first | decide | omega) (by first | decide | omega)
    have nσ56_42 := hσ56.2.2 42 (by first | decide | (simp; done) | (simp only [List.mem_cons, List.mem_nil_iff, or_false, not_or]; omega)) (by first | decide | omega) (by first | decide | omega) (by first | decide | omega)
    have nσ56_13 := hσ56.2.2 13 (by first | decide | (simp; done) | (simp only [List.mem_cons, List.mem_nil_iff, or_false, not_or]; omega)) (by first | decide | omega) (by first | decide | omega) (by first | decide | omega)
    have nu_σ56 : NU nu nuσ56 := uσ56
    have uσ56_0 := uσ56.1 0 (by decide)
    have uσ56_1 := uσ56.1 1 (by decide)
    have uσ56_2 := uσ56.2
    have uσ56_5 := uσ56.1 5 (by decide)
    have uσ56_15 := uσ56.1 15 (by decide)
    have uσ56_16 := uσ56.1 16 (by decide)
    have kp3 : gI σ56 o 6 = gI σ o 6 := (cσ56.O ko (by decide)).1
    have kp4 : gP σ56 th 5 = gP σ th 5 := (cσ56.O kth (by decide)).2.1
    have kp5 : gI σ56 t 0 = gI σ t 0 := (cσ56.O kt (by decide)).1
    have kp6 : gJ σ56 c 5 = gJ σ c 5 := (cσ56.O kc (by decide)).2.2
    unfold w_X11_accept_244
    exact hQ σ56 LLσ56 Nσ56 nuσ56 () iσ56 fσ56 (nu_σ56) hnσ56 (by (first | omega | with_reducible assumption | with_reducible exact rng_toInt _ | with_reducible exact rng_wr _ | (unfold rng; omega) | (unfold rng at *; omega) | assumption))
  · rw [if_neg hc1]
    by_cases hc7 : gI σ o 6 = 2
    · rw [if_pos hc7]
      unfold w_X11_accept_71
      refine i4_X11_mapRow iσ kth hv1 ko hv2 kt hv4 kc (by (first | omega | with_reducible assumption | with_reducible exact rng_toInt _ | with_reducible exact rng_wr _ | (unfold rng; omega) | (unfold rng at *; omega) | assumption)) (by (first | omega | with_reducible assumption | with_reducible exact rng_toInt _ | with_reducible exact rng_wr _ | (unfold rng; omega) | (unfold rng at *; omega) | assumption)) (by (first | omega | with_reducible assumption | with_reducible exact rng_toInt _ | with_reducible exact rng_wr _ | (unfold rng; omega) | (unfold rng at *; omega) | assumption)) hj kJ (by (first | omega | with_reducible assumption | with_reducible exact rng_toInt _ | with_reducible exact rng_wr _ | (unfold rng; omega) | (unfold rng at *; omega) | assumption)) (by (first | omega | with_reducible assumption | with_reducible exact rng_toInt _ | with_reducible exact rng_wr _ | (unfold rng; omega) | (unfold rng at *; omega) | assumption)) (fun σ55 LLσ55 Nσ55 nuσ55 _ iσ55 cσ55 uσ55 hσ55 pσ55 => ?_)
      intro xσ55
      have fσ55 : Fx [1, 2, 3, 4, 5, 6, 7, 64, 265, 266, 512, 513, 514, 645, 708, 6464] gr σ σ55 := fσ.tr (cσ55.mo (by decide))
      have hnσ55 : Hn (gD σ) [44, 41, 42] [c] gq LL LLσ55 N Nσ55 := hnσ.go hσ55 (fun d hd => (fσ.1 d hd).1) (by first | decide | exact fun _ h => h | (simp; done) | (intro x hx; simp only [List.mem_cons, List.mem_nil_iff, or_false] at hx ⊢; omega)) (fun d hd => by rw [List.mem_singleton.mp hd]; exact lo_c)
      have nσ55_3 := hσ55.2.2 3 (by first | decide | (simp; done) | (simp only [List.mem_cons, List.mem_nil_iff, or_false, not_or]; omega)) (by first | decide | omega) (by first | decide | omega) (by first | decide | omega)
      have nσ55_5 := hσ55.2.2 5 (by first | decide | (simp; done) | (simp only [List.mem_cons, List.mem_nil_iff, or_false, not_or]; omega)) (by first | decide | omega) (by first | decide | omega) (by first | decide | omega)
      have nσ55_14 := hσ55.2.2 14 (by first | decide | (simp; done) | (simp only [List.mem_cons, List.mem_nil_iff, or_false, not_or]; omega)) (by first | decide | omega) (by first | decide | omega) (by first | decide | omega)
      have nσ55_74 := hσ55.2.2 74 (by first | decide | (simp; done) | (simp only [List.mem_cons, List.mem_nil_iff, or_false, not_or]; omega)) (by first | decide | omega) (by first | decide | omega) (by first | decide | omega)
      have nσ55_11 := hσ55.2.2 11 (by first | decide | (simp; done) | (simp only [List.mem_cons, List.mem_nil_iff, or_false, not_or]; omega)) (by first | decide | omega) (by first | decide | omega) (by first | decide | omega)
      have nσ55_12 := hσ55.2.2 12 (by first | decide | (simp; done) | (simp only [List.mem_cons, List.mem_nil_iff, or_false, not_or]; omega)) (by first | decide | omega) (by first | decide | omega) (by first | decide | omega)
      have nσ55_41 := hσ55.2.2 41 (by first | decide | (simp; done) | (simp only [List.mem_cons, List.mem_nil_iff, or_false, not_or]; omega)) (by first | decide | omega) (by first | decide | omega) (by first | decide | omega)
      have nσ55_42 := hσ55.2.2 42 (by first | decide | (simp; done) | (simp only [List.mem_cons, List.mem_nil_iff, or_false, not_or]; omega)) (by first | decide | omega) (by first | decide | omega) (by first | decide | omega)
      have nσ55_13 := hσ55.2.2 13 (by first | decide | (simp; done) | (simp only [List.mem_cons, List.mem_nil_iff, or_false, not_or]; omega)) (by first | decide | omega) (by first | decide | omega) (by first | decide | omega)
      have nu_σ55 : NU nu nuσ55 := uσ55
      have uσ55_0 := uσ55.1 0 (by decide)
      have uσ55_1 := uσ55.1 1 (by decide)
      have uσ55_2 := uσ55.2
      have uσ55_5 := uσ55.1 5 (by decide)
      have uσ55_15 := uσ55.1 15 (by decide)
      have uσ55_16 := uσ55.1 16 (by decide)
      have kp8 : gI σ55 o 6 = gI σ o 6 := (cσ55.O ko (by decide)).1
      have kp9 : gP σ55 th 5 = gP σ th 5 := (cσ55.O kth (by decide)).2.1
      have kp10 : gI σ55 t 0 = gI σ t 0 := (cσ55.O kt (by decide)).1
      unfold w_X11_accept_244
      exact hQ σ55 LLσ55 Nσ55 nuσ55 () iσ55 fσ55 (nu_σ55) hnσ55 (by (first | omega | with_reducible assumption | with_reducible exact rng_toInt _ | with_reducible exact rng_wr _ | (unfold rng; omega) | (unfold rng at *; omega) | assumption))
    · rw [if_neg hc7]
      by_cases hc11 : gI σ o 6 = 3
      · rw [if_pos hc11]
        unfold w_X11_accept_82
        obtain ⟨b, eb, fb⟩ := P_11_2 iσ.1 kth
        have mb : kO σ b 1 := iσ.1.kd kth rfl eb rfl
        refine ⟨b, eb, fun kk_b => ?_⟩
        refine i_X1_add (G0 := 44) iσ mb hv4 kc (by omega) (by (first | omega | with_reducible assumption | with_reducible exact rng_toInt _ | with_reducible exact rng_wr _ | (unfold rng; omega) | (unfold rng at *; omega) | assumption)) (by (first | omega | with_reducible assumption | with_reducible exact rng_toInt _ | with_reducible exact rng_wr _ | (unfold rng; omega) | (unfold rng at *; omega) | assumption)) (plc_y (G := 44) (by omega) (by decide)) (no50 (by decide)) (no13 (by decide)) (fun N9 n1 _ => iσ.2.2.1.made (by decide) n1) (fun σ53 LLσ53 Nσ53 nuσ53 _ iσ53 cσ53 uσ53 hσ53 pσ53 => ?_)
        intro xσ53
        have fσ53 : Fx [1, 2, 3, 4, 5, 6, 7, 64, 265, 266, 512, 513, 514, 645, 708, 6464] gr σ σ53 := fσ.tr (cσ53.mo (by decide))
        have hnσ53 : Hn (gD σ) [44, 41, 42] [c] gq LL LLσ53 N Nσ53 := hnσ.go hσ53 (fun d hd => (fσ.1 d hd).1) (by first | decide | exact fun _ h => h | (simp; done) | (intro x hx; simp only [List.mem_cons, List.mem_nil_iff, or_false] at hx ⊢; omega)) (fun d hd => by rw [List.mem_singleton.mp hd]; exact lo_c)
        have nσ53_3 := hσ53.2.2 3 (by first | decide | (simp; done) | (simp only [List.mem_cons, List.mem_nil_iff, or_false, not_or]; omega)) (by first | decide | omega) (by first | decide | omega) (by first | decide | omega)
        have nσ53_5 := hσ53.2.2 5 (by first | decide | (simp; done) | (simp only [List.mem_cons, List.mem_nil_iff, or_false, not_or]; omega)) (by first | decide | omega) (by first | decide | omega) (by first | decide | omega)
        have nσ53_14 := hσ53.2.2 14 (by first | decide | (simp; done) | (simp only [List.mem_cons, List.mem_nil_iff, or_false, not_or]; omega)) (by first | decide | omega) (by first | decide | omega) (by first | decide | omega)
        have nσ53_74 := hσ53.2.2 74 (by first | decide | (simp; done) | (simp only [List.mem_cons, List.mem_nil_iff, or_false, not_or]; omega)) (by first | decide | omega) (by first | decide | omega) (by first | decide | omega)
        have nσ53_11 := hσ53.2.2 11 (by first | decide | (simp; done) | (simp only [List.mem_cons, List.mem_nil_iff, or_false, not_or]; omega)) (by first | decide | omega) (by first | decide | omega) (by first | decide | omega)
        have nσ53_12 := hσ53.2.2 12 (by first | decide | (simp; done) | (simp only [List.mem_cons, List.mem_nil_iff, or_false, not_or]; omega)) (by first | decide | omega) (by first | decide | omega) (by first | decide | omega)
        have nσ53_41 := hσ53.2.2 41 (by first | decide | (simp; done) | (simp only [List.mem_cons, List.mem_nil_iff, or_false, not_or]; omega)) (by first | decide | omega) (by first | decide | omega) (by first | decide | omega)
        have nσ53_42 := hσ53.2.2 42 (by first | decide | (simp; done) | (simp only [List.mem_cons, List.mem_nil_iff, or_false, not_or]; omega)) (by first | decide | omega) (by first | decide | omega) (by first | decide | omega)
        have nσ53_13 := hσ53.2.2 13 (by first | decide | (simp; done) | (simp only [List.mem_cons, List.mem_nil_iff, or_false, not_or]; omega)) (by first | decide | omega) (by first | decide | omega) (by first | decide | omega)
        have nu_σ53 : NU nu nuσ53 := uσ53
        have uσ53_0 := uσ53.1 0 (by decide)
        have uσ53_1 := uσ53.1 1 (by decide)
        have uσ53_2 := uσ53.2
        have uσ53_5 := uσ53.1 5 (by decide)
        have uσ53_15 := uσ53.1 15 (by decide)
        have uσ53_16 := uσ53.1 16 (by decide)
        have kp12 : gI σ53 o 6 = gI σ o 6 := (cσ53.O ko (by decide)).1
        have kp13 : gP σ53 th 2 = gP σ th 2 := (cσ53.O kth (by decide)).2.1
        have kp14 : gP σ53 th 5 = gP σ th 5 := (cσ53.O kth (by decide)).2.1
        have kp15 : gI σ53 t 0 = gI σ t 0 := (cσ53.O kt (by decide)).1
        have kp16 : gJ σ53 c 5 = gJ σ c 5 := (cσ53.O kc (by decide)).2.2
        unfold w_X11_accept_244
        exact hQ σ53 LLσ53 Nσ53 nuσ53 () iσ53 fσ53 (nu_σ53) hnσ53 (by (first | omega | with_reducible assumption | with_reducible exact rng_toInt _ | with_reducible exact rng_wr _ | (unfold rng; omega) | (unfold rng at *; omega) | assumption))
      · rw [if_neg hc11]
        by_cases hc17 : gI σ o 6 = 4
        · rw [if_pos hc17]
          unfold w_X11_accept_94
          refine i4_X11_measure iσ kth hv1 ko hv4 kc (by (first | omega | with_reducible assumption | with_reducible exact rng_toInt _ | with_reducible exact rng_wr _ | (unfold rng; omega) | (unfold rng at *; omega) | assumption)) hj kJ (by (first | omega | with_reducible assumption | with_reducible exact rng_toInt _ | with_reducible exact rng_wr _ | (unfold rng; omega) | (unfold rng at *; omega) | assumption)) (fun σ49 r50 iσ49 cσ49 pσ49 => ?_)
          intro xσ49
          have fσ49 : Fx [1, 2, 3, 4, 5, 6, 7, 64, 265, 266, 512, 513, 514, 645, 708, 6464] gr σ σ49 := fσ.tr (cσ49.mo (by decide))
          have kp18 : gI σ49 o 6 = gI σ o 6 := (cσ49.O ko (by decide)).1
          have kp19 : gP σ49 th 5 = gP σ th 5 := (cσ49.O kth (by decide)).2.1
          have kp20 : gI σ49 t 0 = gI σ t 0 := (cσ49.O kt (by decide)).1
          have kp21 : gJ σ49 c 5 = gJ σ c 5 := (cσ49.O kc (by decide)).2.2
          by_cases hc22 : r50 = 0
          · rw [if_pos hc22]
            unfold w_X11_accept_115
            refine i4_X11_putAside iσ49 (kth.up xσ49) hv2 (kt.up xσ49) hv4 (kc.up xσ49) (by (first | omega | with_reducible assumption | with_reducible exact rng_toInt _ | with_reducible exact rng_wr _ | (unfold rng; omega) | (unfold rng at *; omega) | assumption)) (by (first | omega | with_reducible assumption | with_reducible exact rng_toInt _ | with_reducible exact rng_wr _ | (unfold rng; omega) | (unfold rng at *; omega) | assumption)) (by (first | omega | with_reducible assumption | with_reducible exact rng_toInt _ | with_reducible exact rng_wr _ | (unfold rng; omega) | (unfold rng at *; omega) | assumption)) (fun σ52 LLσ52 Nσ52 nuσ52 _ iσ52 cσ52 uσ52 hσ52 pσ52 => ?_)
            intro xσ52
            have fσ52 : Fx [1, 2, 3, 4, 5, 6, 7, 64, 265, 266, 512, 513, 514, 645, 708, 6464] gr σ σ52 := fσ49.tr (cσ52.mo (by decide))
            have hnσ52 : Hn (gD σ) [44, 41, 42] [c] gq LL LLσ52 N Nσ52 := hnσ.go hσ52 (fun d hd => (fσ49.1 d hd).1) (by first | decide | exact fun _ h => h | (simp; done) | (intro x hx; simp only [List.mem_cons, List.mem_nil_iff, or_false] at hx ⊢; omega)) (fun d hd => by rw [List.mem_singleton.mp hd]; exact lo_c)
            have nσ52_3 := hσ52.2.2 3 (by first | decide | (simp; done) | (simp only [List.mem_cons, List.mem_nil_iff, or_false, not_or]; omega)) (by first | decide | omega) (by first | decide | omega) (by first | decide | omega)
            have nσ52_5 := hσ52.2.2 5 (by first | decide | (simp; done) | (simp only [List.mem_cons, List.mem_nil_iff, or_false, not_or]; omega)) (by first | decide | omega) (by first | decide | omega) (by first | decide | omega)
            have nσ52_14 := hσ52.2.2 14 (by first | decide | (simp; done) | (simp only [List.mem_cons, List.mem_nil_iff, or_false, not_or]; omega)) (by first | decide | omega) (by first | decide | omega) (by first | decide | omega)
            have nσ52_44 := hσ52.2.2 44 (by first | decide | (simp; done) | (simp only [List.mem_cons, List.mem_nil_iff, or_false, not_or]; omega)) (by first | decide | omega) (by first | decide | omega) (by first | decide | omega)
            have nσ52_74 := hσ52.2.2 74 (by first | decide | (simp; done) | (simp only [List.mem_cons, List.mem_nil_iff, or_false, not_or]; omega)) (by first | decide | omega) (by first | decide | omega) (by first | decide | omega)
            have nσ52_11 := hσ52.2.2 11 (by first | decide | (simp; done) | (simp only [List.mem_cons, List.mem_nil_iff, or_false, not_or]; omega)) (by first | decide | omega) (by first | decide | omega) (by first | decide | omega)
            have nσ52_12 := hσ52.2.2 12 (by first | decide | (simp; done) | (simp only [List.mem_cons, List.mem_nil_iff, or_false, not_or]; omega)) (by first | decide | omega) (by first | decide | omega) (by first | decide | omega)
            have nσ52_41 := hσ52.2.2 41 (by first | decide | (simp; done) | (simp only [List.mem_cons, List.mem_nil_iff, or_false, not_or]; omega)) (by first | decide | omega) (by first | decide | omega) (by first | decide | omega)
            have nσ52_42 := hσ52.2.2 42 (by first | decide | (simp; done) | (simp only [List.mem_cons, List.mem_nil_iff, or_false, not_or]; omega)) (by first | decide | omega) (by first | decide | omega) (by first | decide | omega)
            have nσ52_13 := hσ52.2.2 13 (by first | decide | (simp; done) | (simp only [List.mem_cons, List.mem_nil_iff, or_false, not_or]; omega)) (by first | decide | omega) (by first | decide | omega) (by first | decide | omega)
            have nu_σ52 : NU nu nuσ52 := uσ52
            have uσ52_0 := uσ52.1 0 (by decide)
            have uσ52_1 := uσ52.1 1 (by decide)
            have uσ52_2 := uσ52.2
            have uσ52_5 := uσ52.1 5 (by decide)
            have uσ52_15 := uσ52.1 15 (by decide)
            have uσ52_16 := uσ52.1 16 (by decide)
            have kp23 : gI σ52 o 6 = gI σ49 o 6 := (cσ52.O (ko.up xσ49) (by decide)).1
            have kp24 : gP σ52 th 5 = gP σ49 th 5 := (cσ52.O (kth.up xσ49) (by decide)).2.1
            have kp25 : gI σ52 t 0 = gI σ49 t 0 := (cσ52.O (kt.up xσ49) (by decide)).1
            have kp26 : gJ σ52 c 5 = gJ σ49 c 5 := (cσ52.O (kc.up xσ49) (by decide)).2.2
            unfold w_X11_accept_244
            exact hQ σ52 LLσ52 Nσ52 nuσ52 () iσ52 fσ52 (nu_σ52) hnσ52 (by (first | omega | with_reducible assumption | with_reducible exact rng_toInt _ | with_reducible exact rng_wr _ | (unfold rng; omega) | (unfold rng at *; omega) | assumption))
          · rw [if_neg hc22]
            unfold w_X11_accept_104
            refine i4_X11_foldRow iσ49 (kth.up xσ49) hv1 (ko.up xσ49) hv2 (kt.up xσ49) hv4 (kc.up xσ49) (by (first | omega | with_reducible assumption | with_reducible exact rng_toInt _ | with_reducible exact rng_wr _ | (unfold rng; omega) | (unfold rng at *; omega) | assumption)) (by (first | omega | with_reducible assumption | with_reducible exact rng_toInt _ | with_reducible exact rng_wr _ | (unfold rng; omega) | (unfold rng at *; omega) | assumption)) (by (first | omega | with_reducible assumption | with_reducible exact rng_toInt _ | with_reducible exact rng_wr _ | (unfold rng; omega) | (unfold rng at *; omega) | assumption)) (by (first | omega | with_reducible assumption | with_reducible exact rng_toInt _ | with_reducible exact rng_wr _ | (unfold rng; omega) | (unfold rng at *; omega) | assumption)) (by (first | omega | with_reducible assumption | with_reducible exact rng_toInt _ | with_reducible exact rng_wr _ | (unfold rng; omega) | (unfold rng at *; omega) | assumption)) (by omega) (by (first | omega | with_reducible assumption | with_reducible exact rng_toInt _ | with_reducible exact rng_wr _ | (unfold rng; omega) | (unfold rng at *; omega) | assumption)) (by (first | omega | with_reducible assumption | with_reducible exact rng_toInt _ | with_reducible exact rng_wr _ | (unfold rng; omega) | (unfold rng at *; omega) | assumption)) (by (first | omega | with_reducible assumption | with_reducible exact rng_toInt _ | with_reducible exact rng_wr _ | (unfold rng; omega) | (unfold rng at *; omega) | assumption)) ((show gJ σ49 c 5 = gJ σ c 5 by first | rfl | assumption) ▸ hs) (fun σ51 LLσ51 Nσ51 nuσ51 _ iσ51 cσ51 uσ51 hσ51 pσ51 => ?_) (fun σx LLx Nx nux E ix cx ux px => hX σx LLx Nx nux E ix (fσ49.tr (cx.mo (by decide))) (ux) (by first | exact px | exact ⟨by have := px.1; omega, px.2.1, px.2.2⟩ | (first | omega | with_reducible assumption | with_reducible exact rng_toInt _ | with_reducible exact rng_wr _ | (unfold rng; omega) | (unfold rng at *; omega) | assumption)))
            intro xσ51
            have fσ51 : Fx [1, 2, 3, 4, 5, 6, 7, 64, 265, 266, 512, 513, 514, 645, 708, 6464] gr σ σ51 := fσ49.tr (cσ51.mo (by decide))
            have hnσ51 : Hn (gD σ) [44, 41, 42] [c] gq LL LLσ51 N Nσ51 := hnσ.go hσ51 (fun d hd => (fσ49.1 d hd).1) (by first | decide | exact fun _ h => h | (simp; done) | (intro x hx; simp only [List.mem_cons, List.mem_nil_iff, or_false] at hx ⊢; omega)) (fun d hd => by rw [List.mem_singleton.mp hd]; exact lo_c)
            have nσ51_3 := hσ51.2.2 3 (by first | decide | (simp; done) | (simp only [List.mem_cons, List.mem_nil_iff, or_false, not_or]; omega)) (by first | decide | omega) (by first | decide | omega) (by first | decide | omega)
            have nσ51_5 := hσ51.2.2 5 (by first | decide | (simp; done) | (simp only [List.mem_cons, List.mem_nil_iff, or_false, not_or]; omega)) (by first | decide | omega) (by first | decide | omega) (by first | decide | omega)
            have nσ51_14 := hσ51.2.2 14 (by first | decide | (simp; done) | (simp only [List.mem_cons, List.mem_nil_iff, or_false, not_or]; omega)) (by first | decide | omega) (by first | decide | omega) (by first | decide | omega)
            have nσ51_44 := hσ51.2.2 44 (by first | decide | (simp; done) | (simp only [List.mem_cons, List.mem_nil_iff, or_false, not_or]; omega)) (by first | decide | omega) (by first | decide | omega) (by first | decide | omega)
            have nσ51_74 := hσ51.2.2 74 (by first | decide | (simp; done) | (simp only [List.mem_cons, List.mem_nil_iff, or_false, not_or]; omega)) (by first | decide | omega) (by first | decide | omega) (by first | decide | omega)
            have nσ51_11 := hσ51.2.2 11 (by first | decide | (simp; done) | (simp only [List.mem_cons, List.mem_nil_iff, or_false, not_or]; omega)) (by first | decide | omega) (by first | decide | omega) (by first | decide | omega)
            have nσ51_12 := hσ51.2.2 12 (by first | decide | (simp; done) | (simp only [List.mem_cons, List.mem_nil_iff, or_false, not_or]; omega)) (by first | decide | omega) (by first | decide | omega) (by first | decide | omega)
            have nσ51_42 := hσ51.2.2 42 (by first | decide | (simp; done) | (simp only [List.mem_cons, List.mem_nil_iff, or_false, not_or]; omega)) (by first | decide | omega) (by first | decide | omega) (by first | decide | omega)
            have nσ51_13 := hσ51.2.2 13 (by first | decide | (simp; done) | (simp only [List.mem_cons, List.mem_nil_iff, or_false, not_or]; omega)) (by first | decide | omega) (by first | decide | omega) (by first | decide | omega)
            have nu_σ51 : NU nu nuσ51 := uσ51
            have uσ51_0 := uσ51.1 0 (by decide)
            have uσ51_1 := uσ51.1 1 (by decide)
            have uσ51_2 := uσ51.2
            have uσ51_5 := uσ51.1 5 (by decide)
            have uσ51_15 := uσ51.1 15 (by decide)
            have uσ51_16 := uσ51.1 16 (by decide)
            have kp27 : gI σ51 o 6 = gI σ49 o 6 := (cσ51.O (ko.up xσ49) (by decide)).1
            have kp28 : gP σ51 th 5 = gP σ49 th 5 := (cσ51.O (kth.up xσ49) (by decide)).2.1
            have kp29 : gI σ51 t 0 = gI σ49 t 0 := (cσ51.O (kt.up xσ49) (by decide)).1
            unfold w_X11_accept_244
            exact hQ σ51 LLσ51 Nσ51 nuσ51 () iσ51 fσ51 (nu_σ51) hnσ51 (by (first | omega | with_reducible assumption | with_reducible exact rng_toInt _ | with_reducible exact rng_wr _ | (unfold rng; omega) | (unfold rng at *; omega) | assumption))
        · rw [if_neg hc17]
          by_cases hc30 : gI σ o 6 = 5
          · rw [if_pos hc30]
            unfold w_X11_accept_94
            refine i4_X11_measure iσ kth hv1 ko hv4 kc (by (first | omega | with_reducible assumption | with_reducible exact rng_toInt _ | with_reducible exact rng_wr _ | (unfold rng; omega) | (unfold rng at *; omega) | assumption)) hj kJ (by (first | omega | with_reducible assumption | with_reducible exact rng_toInt _ | with_reducible exact rng_wr _ | (unfold rng; omega) | (unfold rng at *; omega) | assumption)) (fun σ49_1 r50_1 iσ49_1 cσ49_1 pσ49_1 => ?_)
            intro xσ49_1
            have fσ49_1 : Fx [1, 2, 3, 4, 5, 6, 7, 64, 265, 266, 512, 513, 514, 645, 708, 6464] gr σ σ49_1 := fσ.tr (cσ49_1.mo (by decide))
            have kp31 : gI σ49_1 o 6 = gI σ o 6 := (cσ49_1.O ko (by decide)).1
            have kp32 : gP σ49_1 th 5 = gP σ th 5 := (cσ49_1.O kth (by decide)).2.1
            have kp33 : gI σ49_1 t 0 = gI σ t 0 := (cσ49_1.O kt (by decide)).1
            have kp34 : gJ σ49_1 c 5 = gJ σ c 5 := (cσ49_1.O kc (by decide)).2.2
            by_cases hc35 : r50_1 = 0
            · rw [if_pos hc35]
              unfold w_X11_accept_115
              refine i4_X11_putAside iσ49_1 (kth.up xσ49_1) hv2 (kt.up xσ49_1) hv4 (kc.up xσ49_1) (by (first | omega | with_reducible assumption | with_reducible exact rng_toInt _ | with_reducible exact rng_wr _ | (unfold rng; omega) | (unfold rng at *; omega) | assumption)) (by (first | omega | with_reducible assumption | with_reducible exact rng_toInt _ | with_reducible exact rng_wr _ | (unfold rng; omega) | (unfold rng at *; omega) | assumption)) (by (first | omega | with_reducible assumption | with_reducible exact rng_toInt _ | with_reducible exact rng_wr _ | (unfold rng; omega) | (unfold rng at *; omega) | assumption)) (fun σ52_1 LLσ52_1 Nσ52_1 nuσ52_1 _ iσ52_1 cσ52_1 uσ52_1 hσ52_1 pσ52_1 => ?_)
              intro xσ52_1
              have fσ52_1 : Fx [1, 2, 3, 4, 5, 6, 7, 64, 265, 266, 512, 513, 514, 645, 708, 6464] gr σ σ52_1 := fσ49_1.tr (cσ52_1.mo (by decide))
              have hnσ52_1 : Hn (gD σ) [44, 41, 42] [c] gq LL LLσ52_1 N Nσ52_1 := hnσ.go hσ52_1 (fun d hd => (fσ49_1.1 d hd).1) (by first | decide | exact fun _ h => h | (simp; done) | (intro x hx; simp only [List.mem_cons, List.mem_nil_iff, or_false] at hx ⊢; omega)) (fun d hd => by rw [List.mem_singleton.mp hd]; exact lo_c)
              have nσ52_1_3 := hσ52_1.2.2 3 (by first | decide | (simp; done) | (simp only [List.mem_cons, List.mem_nil_iff, or_false, not_or]; omega)) (by first | decide | omega) (by first | decide | omega) (by first | decide | omega)
              have nσ52_1_5 := hσ52_1.2.2 5 (by first | decide | (simp; done) | (simp only [List.mem_cons, List.mem_nil_iff, or_false, not_or]; omega)) (by first | decide | omega) (by first | decide | omega) (by first | decide | omega)
              have nσ52_1_14 := hσ52_1.2.2 14 (by first | decide | (simp; done) | (simp only [List.mem_cons, List.mem_nil_iff, or_false, not_or]; omega)) (by first | decide | omega) (by first | decide | omega) (by first | decide | omega)
              have nσ52_1_44 := hσ52_1.2.2 44 (by first | decide | (simp; done) | (simp only [List.mem_cons, List.mem_nil_iff, or_false, not_or]; omega)) (by first | decide | omega) (by first | decide | omega) (by first | decide | omega)
              have nσ52_1_74 := hσ52_1.2.2 74 (by first | decide | (simp; done) | (simp only [List.mem_cons, List.mem_nil_iff, or_false, not_or]; omega)) (by first | decide | omega) (by first | decide | omega) (by first | decide | omega)
              have nσ52_1_11 := hσ52_1.2.2 11 (by first | decide | (simp; done) | (simp only [List.mem_cons, List.mem_nil_iff, or_false, not_or]; omega)) (by first | decide | omega) (by first | decide | omega) (by first | decide | omega)
              have nσ52_1_12 := hσ52_1.2.2 12 (by first | decide | (simp; done) | (simp only [List.mem_cons, List.mem_nil_iff, or_false, not_or]; omega)) (by first | decide | omega) (by first | decide | omega) (by first | decide | omega)
              have nσ52_1_41 := hσ52_1.2.2 41 (by first | decide | (simp; done) | (simp only [List.mem_cons, List.mem_nil_iff, or_false, not_or]; omega)) (by first | decide | omega) (by first | decide | omega) (by first | decide | omega)
              have nσ52_1_42 := hσ52_1.2.2 42 (by first | decide | (simp; done) | (simp only [List.mem_cons, List.mem_nil_iff, or_false, not_or]; omega)) (by first | decide | omega) (by first | decide | omega) (by first | decide | omega)
              have nσ52_1_13 := hσ52_1.2.2 13 (by first | decide | (simp; done) | (simp only [List.mem_cons, List.mem_nil_iff, or_false, not_or]; omega)) (by first | decide | omega) (by first | decide | omega) (by first | decide | omega)
              have nu_σ52_1 : NU nu nuσ52_1 := uσ52_1
              have uσ52_1_0 := uσ52_1.1 0 (by decide)
              have uσ52_1_1 := uσ52_1.1 1 (by decide)
              have uσ52_1_2 := uσ52_1.2
              have uσ52_1_5 := uσ52_1.1 5 (by decide)
              have uσ52_1_15 := uσ52_1.1 15 (by decide)
              have uσ52_1_16 := uσ52_1.1 16 (by decide)
              have kp36 : gI σ52_1 o 6 = gI σ49_1 o 6 := (cσ52_1.O (ko.up xσ49_1) (by decide)).1
              have kp37 : gP σ52_1 th 5 = gP σ49_1 th 5 := (cσ52_1.O (kth.up xσ49_1) (by decide)).2.1
              have kp38 : gI σ52_1 t 0 = gI σ49_1 t 0 := (cσ52_1.O (kt.up xσ49_1) (by decide)).1
              have kp39 : gJ σ52_1 c 5 = gJ σ49_1 c 5 := (cσ52_1.O (kc.up xσ49_1) (by decide)).2.2
              unfold w_X11_accept_244
              exact hQ σ52_1 LLσ52_1 Nσ52_1 nuσ52_1 () iσ52_1 fσ52_1 (nu_σ52_1) hnσ52_1 (by (first | omega | with_reducible assumption | with_reducible exact rng_toInt _ | with_reducible exact rng_wr _ | (unfold rng; omega) | (unfold rng at *; omega) | assumption))
            · rw [if_neg hc35]
              unfold w_X11_accept_104
              refine i4_X11_foldRow iσ49_1 (kth.up xσ49_1) hv1 (ko.up xσ49_1) hv2 (kt.up xσ49_1) hv4 (kc.up xσ49_1) (by (first | omega | with_reducible assumption | with_reducible exact rng_toInt _ | with_reducible exact rng_wr _ | (unfold rng; omega) | (unfold rng at *; omega) | assumption)) (by (first | omega | with_reducible assumption | with_reducible exact rng_toInt _ | with_reducible exact rng_wr _ | (unfold rng; omega) | (unfold rng at *; omega) | assumption)) (by (first | omega | with_reducible assumption | with_reducible exact rng_toInt _ | with_reducible exact rng_wr _ | (unfold rng; omega) | (unfold rng at *; omega) | assumption)) (by (first | omega | with_reducible assumption | with_reducible exact rng_toInt _ | with_reducible exact rng_wr _ | (unfold rng; omega) | (unfold rng at *; omega) | assumption)) (by (first | omega | with_reducible assumption | with_reducible exact rng_toInt _ | with_reducible exact rng_wr _ | (unfold rng; omega) | (unfold rng at *; omega) | assumption)) (by omega) (by (first | omega | with_reducible assumption | with_reducible exact rng_toInt _ | with_reducible exact rng_wr _ | (unfold rng; omega) | (unfold rng at *; omega) | assumption)) (by (first | omega | with_reducible assumption | with_reducible exact rng_toInt _ | with_reducible exact rng_wr _ | (unfold rng; omega) | (unfold rng at *; omega) | assumption)) (by (first | omega | with_reducible assumption | with_reducible exact rng_toInt _ | with_reducible exact rng_wr _ | (unfold rng; omega) | (unfold rng at *; omega) | assumption)) ((show gJ σ49_1 c 5 = gJ σ c 5 by first | rfl | assumption) ▸ hs) (fun σ51_1 LLσ51_1 Nσ51_1 nuσ51_1 _ iσ51_1 cσ51_1 uσ51_1 hσ51_1 pσ51_1 => ?_) (fun σx LLx Nx nux E ix cx ux px => hX σx LLx Nx nux E ix (fσ49_1.tr (cx.mo (by decide))) (ux) (by first | exact px | exact ⟨by have := px.1; omega, px.2.1, px.2.2⟩ | (first | omega | with_reducible assumption | with_reducible exact rng_toInt _ | with_reducible exact rng_wr _ | (unfold rng; omega) | (unfold rng at *; omega) | assumption)))
              intro xσ51_1
              have fσ51_1 : Fx [1, 2, 3, 4, 5, 6, 7, 64, 265, 266, 512, 513, 514, 645, 708, 6464] gr σ σ51_1 := fσ49_1.tr (cσ51_1.mo (by decide))
              have hnσ51_1 : Hn (gD σ) [44, 41, 42] [c] gq LL LLσ51_1 N Nσ51_1 := hnσ.go hσ51_1 (fun d hd => (fσ49_1.1 d hd).1) (by first | decide | exact fun _ h => h | (simp; done) | (intro x hx; simp only [List.mem_cons, List.mem_nil_iff, or_false] at hx ⊢; omega)) (fun d hd => by rw [List.mem_singleton.mp hd]; exact lo_c)
              have nσ51_1_3 := hσ51_1.2.2 3 (by first | decide | (simp; done) | (simp only [List.mem_cons, List.mem_nil_iff, or_false, not_or]; omega)) (by first | decide | omega) (by first | decide | omega) (by first | decide | omega)
              have nσ51_1_5 := hσ51_1.2.2 5 (by first | decide | (simp; done) | (simp only [List.mem_cons, List.mem_nil_iff, or_false, not_or]; omega)) (by first | decide | omega) (by first | decide | omega) (by first | decide | omega)
              have nσ51_1_14 := hσ51_1.2.2 14 (by first | decide | (simp; done) | (simp only [List.mem_cons, List.mem_nil_iff, or_false, not_or]; omega)) (by first | decide | omega) (by first | decide | omega) (by first | decide | omega)
              have nσ51_1_44 := hσ51_1.2.2 44 (by first | decide | (simp; done) | (simp only [List.mem_cons, List.mem_nil_iff, or_false, not_or]; omega)) (by first | decide | omega) (by first | decide | omega) (by first | decide | omega)
              have nσ51_1_74 := hσ51_1.2.2 74 (by first | decide | (simp; done) | (simp only [List.mem_cons, List.mem_nil_iff, or_false, not_or]; omega)) (by first | decide | omega) (by first | decide | omega) (by first | decide | omega)
              have nσ51_1_11 := hσ51_1.2.2 11 (by first | decide | (simp; done) | (simp only [List.mem_cons, List.mem_nil_iff, or_false, not_or]; omega)) (by first | decide | omega) (by first | decide | omega) (by first | decide | omega)
              have nσ51_1_12 := hσ51_1.2.2 12 (by first | decide | (simp; done) | (simp only [List.mem_cons, List.mem_nil_iff, or_false, not_or]; omega)) (by first | decide | omega) (by first | decide | omega) (by first | decide | omega)
              have nσ51_1_42 := hσ51_1.2.2 42 (by first | decide | (simp; done) | (simp only [List.mem_cons, List.mem_nil_iff, or_false, not_or]; omega)) (by first | decide | omega) (by first | decide | omega) (by first | decide | omega)
              have nσ51_1_13 := hσ51_1.2.2 13 (by first | decide | (simp; done) | (simp only [List.mem_cons, List.mem_nil_iff, or_false, not_or]; omega)) (by first | decide | omega) (by first | decide | omega) (by first | decide | omega)
              have nu_σ51_1 : NU nu nuσ51_1 := uσ51_1
              have uσ51_1_0 := uσ51_1.1 0 (by decide)
              have uσ51_1_1 := uσ51_1.1 1 (by decide)
              have uσ51_1_2 := uσ51_1.2
              have uσ51_1_5 := uσ51_1.1 5 (by decide)
              have uσ51_1_15 := uσ51_1.1 15 (by decide)
              have uσ51_1_16 := uσ51_1.1 16 (by decide)
              have kp40 : gI σ51_1 o 6 = gI σ49_1 o 6 := (cσ51_1.O (ko.up xσ49_1) (by decide)).1
              have kp41 : gP σ51_1 th 5 = gP σ49_1 th 5 := (cσ51_1.O (kth.up xσ49_1) (by decide)).2.1
              have kp42 : gI σ51_1 t 0 = gI σ49_1 t 0 := (cσ51_1.O (kt.up xσ49_1) (by decide)).1
              unfold w_X11_accept_244
              exact hQ σ51_1 LLσ51_1 Nσ51_1 nuσ51_1 () iσ51_1 fσ51_1 (nu_σ51_1) hnσ51_1 (by (first | omega | with_reducible assumption | with_reducible exact rng_toInt _ | with_reducible exact rng_wr _ | (unfold rng; omega) | (unfold rng at *; omega) | assumption))
          · rw [if_neg hc30]
            by_cases hc43 : gI σ o 6 = 6
            · rw [if_pos hc43]
              unfold w_X11_accept_125
              refine i4_X11_joinRow iσ kth hv1 ko hv2 kt hv4 kc (by (first | omega | with_reducible assumption | with_reducible exact rng_toInt _ | with_reducible exact rng_wr _ | (unfold rng; omega) | (unfold rng at *; omega) | assumption)) (by (first | omega | with_reducible assumption | with_reducible exact rng_toInt _ | with_reducible exact rng_wr _ | (unfold rng; omega) | (unfold rng at *; omega) | assumption)) (by (first | omega | with_reducible assumption | with_reducible exact rng_toInt _ | with_reducible exact rng_wr _ | (unfold rng; omega) | (unfold rng at *; omega) | assumption)) hj kJ (by (first | omega | with_reducible assumption | with_reducible exact rng_toInt _ | with_reducible exact rng_wr _ | (unfold rng; omega) | (unfold rng at *; omega) | assumption)) (by (first | omega | with_reducible assumption | with_reducible exact rng_toInt _ | with_reducible exact rng_wr _ | (unfold rng; omega) | (unfold rng at *; omega) | assumption)) (by (first | omega | with_reducible assumption | with_reducible exact rng_toInt _ | with_reducible exact rng_wr _ | (unfold rng; omega) | (unfold rng at *; omega) | assumption)) (by omega) (by (first | omega | with_reducible assumption | with_reducible exact rng_toInt _ | with_reducible exact rng_wr _ | (unfold rng; omega) | (unfold rng at *; omega) | assumption)) (by (first | omega | with_reducible assumption | with_reducible exact rng_toInt _ | with_reducible exact rng_wr _ | (unfold rng; omega) | (unfold rng at *; omega) | assumption)) (by (first | omega | with_reducible assumption | with_reducible exact rng_toInt _ | with_reducible exact rng_wr _ | (unfold rng; omega) | (unfold rng at *; omega) | assumption)) (fun σ48 LLσ48 Nσ48 nuσ48 _ iσ48 cσ48 uσ48 hσ48 pσ48 => ?_) (fun σx LLx Nx nux E ix cx ux px => hX σx LLx Nx nux E ix (fσ.tr (cx.mo (by decide))) (ux) (by first | exact px | exact ⟨by have := px.1; omega, px.2.1, px.2.2⟩ | (first | omega | with_reducible assumption | with_reducible exact rng_toInt _ | with_reducible exact rng_wr _ | (unfold rng; omega) | (unfold rng at *; omega) | assumption)))
              intro xσ48
              have fσ48 : Fx [1, 2, 3, 4, 5, 6, 7, 64, 265, 266, 512, 513, 514, 645, 708, 6464] gr σ σ48 := fσ.tr (cσ48.mo (by decide))
              have hnσ48 : Hn (gD σ) [44, 41, 42] [c] gq LL LLσ48 N Nσ48 := hnσ.go hσ48 (fun d hd => (fσ.1 d hd).1) (by first | decide | exact fun _ h => h | (simp; done) | (intro x hx; simp only [List.mem_cons, List.mem_nil_iff, or_false] at hx ⊢; omega)) (fun d hd => by rw [List.mem_singleton.mp hd]; exact lo_c)
              have nσ48_3 := hσ48.2.2 3 (by first | decide | (simp; done) | (simp only [List.mem_cons, List.mem_nil_iff, or_false, not_or]; omega)) (by first | decide | omega) (by first | decide | omega) (by first | decide | omega)
              have nσ48_5 := hσ48.2.2 5 (by first | decide | (simp; done) | (simp only [List.mem_cons, List.mem_nil_iff, or_false, not_or]; omega)) (by first | decide | omega) (by first | decide | omega) (by first | decide | omega)
              have nσ48_14 := hσ48.2.2 14 (by first | decide | (simp; done) | (simp only [List.mem_cons, List.mem_nil_iff, or_false, not_or]; omega)) (by first | decide | omega) (by first | decide | omega) (by first | decide | omega)
              have nσ48_74 := hσ48.2.2 74 (by first | decide | (simp; done) | (simp only [List.mem_cons, List.mem_nil_iff, or_false, not_or]; omega)) (by first | decide | omega) (by first | decide | omega) (by first | decide | omega)
              have nσ48_11 := hσ48.2.2 11 (by first | decide | (simp; done) | (simp only [List.mem_cons, List.mem_nil_iff, or_false, not_or]; omega)) (by first | decide | omega) (by first | decide | omega) (by first | decide | omega)
              have nσ48_12 := hσ48.2.2 12 (by first | decide | (simp; done) | (simp only [List.mem_cons, List.mem_nil_iff, or_false, not_or]; omega)) (by first | decide | omega) (by first | decide | omega) (by first | decide | omega)
              have nσ48_13 := hσ48.2.2 13 (by first | decide | (simp; done) | (simp only [List.mem_cons, List.mem_nil_iff, or_false, not_or]; omega)) (by first | decide | omega) (by first | decide | omega) (by first | decide | omega)
              have nu_σ48 : NU nu nuσ48 := uσ48
              have uσ48_0 := uσ48.1 0 (by decide)
              have uσ48_1 := uσ48.1 1 (by decide)
              have uσ48_2 := uσ48.2
              have uσ48_5 := uσ48.1 5 (by decide)
              have uσ48_15 := uσ48.1 15 (by decide)
              have uσ48_16 := uσ48.1 16 (by decide)
              have kp44 : gI σ48 o 6 = gI σ o 6 := (cσ48.O ko (by decide)).1
              have kp45 : gP σ48 th 5 = gP σ th 5 := (cσ48.O kth (by decide)).2.1
              have kp46 : gI σ48 t 0 = gI σ t 0 := (cσ48.O kt (by decide)).1
              unfold w_X11_accept_244
              exact hQ σ48 LLσ48 Nσ48 nuσ48 () iσ48 fσ48 (nu_σ48) hnσ48 (by (first | omega | with_reducible assumption | with_reducible exact rng_toInt _ | with_reducible exact rng_wr _ | (unfold rng; omega) | (unfold rng at *; omega) | assumption))
            · rw [if_neg hc43]
              by_cases hc47 : gI σ o 6 = 8
              · rw [if_pos hc47]
                unfold w_X11_accept_137
                refine i4_X11_matchRow iσ kth hv1 ko hv2 kt hv4 kc (by (first | omega | with_reducible assumption | with_reducible exact rng_toInt _ | with_reducible exact rng_wr _ | (unfold rng; omega) | (unfold rng at *; omega) | assumption)) (by (first | omega | with_reducible assumption | with_reducible exact rng_toInt _ | with_reducible exact rng_wr _ | (unfold rng; omega) | (unfold rng at *; omega) | assumption)) (by (first | omega | with_reducible assumption | with_reducible exact rng_toInt _ | with_reducible exact rng_wr _ | (unfold rng; omega) | (unfold rng at *; omega) | assumption)) hj kJ (by (first | omega | with_reducible assumption | with_reducible exact rng_toInt _ | with_reducible exact rng_wr _ | (unfold rng; omega) | (unfold rng at *; omega) | assumption)) (by (first | omega | with_reducible assumption | with_reducible exact rng_toInt _ | with_reducible exact rng_wr _ | (unfold rng; omega) | (unfold rng at *; omega) | assumption)) (by (first | omega | with_reducible assumption | with_reducible exact rng_toInt _ | with_reducible exact rng_wr _ | (unfold rng; omega) | (unfold rng at *; omega) | assumption)) (by (first | omega | with_reducible assumption | with_reducible exact rng_toInt _ | with_reducible exact rng_wr _ | (unfold rng; omega) | (unfold rng at *; omega) | assumption)) (by (first | omega | with_reducible assumption | with_reducible exact rng_toInt _ | with_reducible exact rng_wr _ | (unfold rng; omega) | (unfold rng at *; omega) | assumption)) (by (first | omega | with_reducible assumption | with_reducible exact rng_toInt _ | with_reducible exact rng_wr _ | (unfold rng; omega) | (unfold rng at *; omega) | assumption)) (fun σ47 LLσ47 Nσ47 nuσ47 _ iσ47 cσ47 uσ47 hσ47 pσ47 => ?_) (fun σx LLx Nx nux E ix cx ux px => hX σx LLx Nx nux E ix (fσ.tr (cx.mo (by decide))) (ux) (by first | exact px | exact ⟨by have := px.1; omega, px.2.1, px.2.2⟩ | (first | omega | with_reducible assumption | with_reducible exact rng_toInt _ | with_reducible exact rng_wr _ | (unfold rng; omega) | (unfold rng at *; omega) | assumption)))
                intro xσ47
                have fσ47 : Fx [1, 2, 3, 4, 5, 6, 7, 64, 265, 266, 512, 513, 514, 645, 708, 6464] gr σ σ47 := fσ.tr (cσ47.mo (by decide))
                have hnσ47 : Hn (gD σ) [44, 41, 42] [c] gq LL LLσ47 N Nσ47 := hnσ.go hσ47 (fun d hd => (fσ.1 d hd).1) (by first | decide | exact fun _ h => h | (simp; done) | (intro x hx; simp only [List.mem_cons, List.mem_nil_iff, or_false] at hx ⊢; omega)) (fun d hd => by rw [List.mem_singleton.mp hd]; exact lo_c)
                have nσ47_3 := hσ47.2.2 3 (by first | decide | (simp; done) | (simp only [List.mem_cons, List.mem_nil_iff, or_false, not_or]; omega)) (by first | decide | omega) (by first | decide | omega) (by first | decide | omega)
                have nσ47_5 := hσ47.2.2 5 (by first | decide | (simp; done) | (simp only [List.mem_cons, List.mem_nil_iff, or_false, not_or]; omega)) (by first | decide | omega) (by first | decide | omega) (by first | decide | omega)
                have nσ47_14 := hσ47.2.2 14 (by first | decide | (simp; done) | (simp only [List.mem_cons, List.mem_nil_iff, or_false, not_or]; omega)) (by first | decide | omega) (by first | decide | omega) (by first | decide | omega)
                have nσ47_44 := hσ47.2.2 44 (by first | decide | (simp; done) | (simp only [List.mem_cons, List.mem_nil_iff, or_false, not_or]; omega)) (by first | decide | omega) (by first | decide | omega) (by first | decide | omega)
                have nσ47_74 := hσ47.2.2 74 (by first | decide | (simp; done) | (simp only [List.mem_cons, List.mem_nil_iff, or_false, not_or]; omega)) (by first | decide | omega) (by first | decide | omega) (by first | decide | omega)
                have nσ47_11 := hσ47.2.2 11 (by first | decide | (simp; done) | (simp only [List.mem_cons, List.mem_nil_iff, or_false, not_or]; omega)) (by first | decide | omega) (by first | decide | omega) (by first | decide | omega)
                have nσ47_12 := hσ47.2.2 12 (by first | decide | (simp; done) | (simp only [List.mem_cons, List.mem_nil_iff, or_false, not_or]; omega)) (by first | decide | omega) (by first | decide | omega) (by first | decide | omega)
                have nσ47_42 := hσ47.2.2 42 (by first | decide | (simp; done) | (simp only [List.mem_cons, List.mem_nil_iff, or_false, not_or]; omega)) (by first | decide | omega) (by first | decide | omega) (by first | decide | omega)
                have nσ47_13 := hσ47.2.2 13 (by first | decide | (simp; done) | (simp only [List.mem_cons, List.mem_nil_iff, or_false, not_or]; omega)) (by first | decide | omega) (by first | decide | omega) (by first | decide | omega)
                have nu_σ47 : NU nu nuσ47 := uσ47
                have uσ47_0 := uσ47.1 0 (by decide)
                have uσ47_1 := uσ47.1 1 (by decide)
                have uσ47_2 := uσ47.2
                have uσ47_5 := uσ47.1 5 (by decide)
                have uσ47_15 := uσ47.1 15 (by decide)
                have uσ47_16 := uσ47.1 16 (by decide)
                have kp48 : gI σ47 o 6 = gI σ o 6 := (cσ47.O ko (by decide)).1
                have kp49 : gP σ47 th 5 = gP σ th 5 := (cσ47.O kth (by decide)).2.1
                have kp50 : gI σ47 t 0 = gI σ t 0 := (cσ47.O kt (by decide)).1
                have kp51 : gJ σ47 c 5 = gJ σ c 5 := (cσ47.O kc (by decide)).2.2
                unfold w_X11_accept_244
                exact hQ σ47 LLσ47 Nσ47 nuσ47 () iσ47 fσ47 (nu_σ47) hnσ47 (by (first | omega | with_reducible assumption | with_reducible exact rng_toInt _ | with_reducible exact rng_wr _ | (unfold rng; omega) | (unfold rng at *; omega) | assumption))
              · rw [if_neg hc47]
                by_cases hc52 : gI σ o 6 = 10
                · rw [if_pos hc52]
                  unfold w_X11_accept_148
                  refine ⟨c, hv4, fun kk_c => ?_⟩
                  refine ⟨o, hv1, fun kk_o_1 => ?_⟩
                  obtain ⟨b_1, eb_1, fb_1⟩ := P_0_0 iσ.1 kc
                  have mb_1 : kO σ b_1 101 := iσ.1.kd kc rfl eb_1 rfl
                  refine ⟨b_1, eb_1, fun kk_b_1 => ?_⟩
                  have q53 := I_5_13 iσ.1 ko
                  refine ⟨⟨by (first | omega | with_reducible assumption | with_reducible exact rng_toInt _ | with_reducible exact rng_wr _ | (unfold rng; omega) | (unfold rng at *; omega) | assumption), by (first | omega | with_reducible assumption | with_reducible exact rng_toInt _ | with_reducible exact rng_wr _ | (unfold rng; omega) | (unfold rng at *; omega) | assumption)⟩, ?_⟩
                  intro σ40 eσ40
                  have xσ40 : Ext σ σ40 := by rw [eσ40]; exact fun _ h => ⟨h, rfl, rfl⟩
                  have iσ40 : IV σ40 pl gq ci gr nc ot LL N nu := by rw [eσ40]; exact iσ.wJ kc (by decide)
                  have fσ40 : Fx [1, 2, 3, 4, 5, 6, 7, 64, 265, 266, 512, 513, 514, 645, 708, 6464] gr σ σ40 := fσ.tr (Sk.fx (by rw [eσ40]; exact Sk.pJ (by rw [fcdO kc (by decide)]; decide)))
                  have kp54 : gI σ40 o 13 = gI σ o 13 := by rw [eσ40]
                  have kp55 : gI σ40 o 6 = gI σ o 6 := by rw [eσ40]
                  have kp56 : gP σ40 c 0 = gP σ c 0 := by rw [eσ40]
                  have kp57 : gP σ40 th 5 = gP σ th 5 := by rw [eσ40]
                  have kp58 : gI σ40 t 0 = gI σ t 0 := by rw [eσ40]
                  have kp59 : gJ σ40 c 5 = gJ σ c 5 := by rw [eσ40]; exact up2_n _ _ (fun q => absurd q.2 (by decide))
                  have q60 := I_5_11 iσ40.1 (ko.up xσ40)
                  refine i_J9_max_7cf53 iσ40 (fun r42 pσ41 => ?_)
                  intro xσ41
                  refine i_J9_floorDiv_f86c9 iσ40 (of_ne0 (by omega)) (fun r44 pσ43 => ?_)
                  intro xσ43
                  intro σ45 eσ45
                  have xσ45 : Ext σ40 σ45 := by rw [eσ45]; exact fun _ h => ⟨h, rfl, rfl⟩
                  have iσ45 : IV σ45 pl gq ci gr nc ot LL N nu := by rw [eσ45]; exact iσ40.wT (kc.up xσ40) (by decide) (by have f9 := fdm (x := gJ σ40 c 5) (s := r42) (by rw [show gJ σ40 c 5 = gJ σ c 5 by assumption]; omega) (by omega) pσ43; rw [show gJ σ40 c 5 = gJ σ c 5 by assumption] at f9; have e1 : ((r44 * Int64.ofInt r42) + Int64.ofInt r42).toInt = (r44 * Int64.ofInt r42).toInt + r42 := by { rw [ad_int (by omega) (by rw [of_int (by omega)]; omega), of_int (by omega)] }; have e2 : (((r44 * Int64.ofInt r42) + Int64.ofInt r42) - 1).toInt = (r44 * Int64.ofInt r42).toInt + r42 - 1 := by { rw [sb_int (by omega) (by decide), e1]; rfl }; unfold tb; omega)
                  have fσ45 : Fx [1, 2, 3, 4, 5, 6, 7, 64, 265, 266, 512, 513, 514, 645, 708, 6464] gr σ σ45 := fσ40.tr (Sk.fx (by rw [eσ45]; exact Sk.pJ (by rw [fcdO (kc.up xσ40) (by decide)]; decide)))
                  have kp61 : gI σ45 o 11 = gI σ40 o 11 := by rw [eσ45]
                  have kp62 : gI σ45 o 13 = gI σ40 o 13 := by rw [eσ45]
                  have kp63 : gI σ45 o 6 = gI σ40 o 6 := by rw [eσ45]
                  have kp64 : gP σ45 c 0 = gP σ40 c 0 := by rw [eσ45]
                  have kp65 : gP σ45 th 5 = gP σ40 th 5 := by rw [eσ45]
                  have kp66 : gI σ45 t 0 = gI σ40 t 0 := by rw [eσ45]
                  have kp67 : gJ σ45 c 5 = gJ σ40 c 5 := by rw [eσ45]; exact up2_n _ _ (fun q => absurd q.2 (by decide))
                  refine i4_X11_keep (G0 := 41) iσ45 (kth.up (xσ40.trans xσ45)) hv1 (ko.up (xσ40.trans xσ45)) hv2 (kt.up (xσ40.trans xσ45)) hv4 (kc.up (xσ40.trans xσ45)) (by (first | omega | with_reducible assumption | with_reducible exact rng_toInt _ | with_reducible exact rng_wr _ | (unfold rng; omega) | (unfold rng at *; omega) | assumption)) (by (first | omega | with_reducible assumption | with_reducible exact rng_toInt _ | with_reducible exact rng_wr _ | (unfold rng; omega) | (unfold rng at *; omega) | assumption)) (by (first | omega | with_reducible assumption | with_reducible exact rng_toInt _ | with_reducible exact rng_wr _ | (unfold rng; omega) | (unfold rng at *; omega) | assumption)) (kp65.trans (kp57.trans hj)) (kJ.up (xσ40.trans xσ45)) (by (first | omega | with_reducible assumption | with_reducible exact rng_toInt _ | with_reducible exact rng_wr _ | (unfold rng; omega) | (unfold rng at *; omega) | assumption)) (by (first | omega | with_reducible assumption | with_reducible exact rng_toInt _ | with_reducible exact rng_wr _ | (unfold rng; omega) | (unfold rng at *; omega) | assumption)) (by (first | omega | with_reducible assumption | with_reducible exact rng_toInt _ | with_reducible exact rng_wr _ | (unfold rng; omega) | (unfold rng at *; omega) | assumption)) (by (first | omega | with_reducible assumption | with_reducible exact rng_toInt _ | with_reducible exact rng_wr _ | (unfold rng; omega) | (unfold rng at *; omega) | assumption)) (by (first | omega | with_reducible assumption | with_reducible exact rng_toInt _ | with_reducible exact rng_wr _ | (unfold rng; omega) | (unfold rng at *; omega) | assumption)) (by (first | omega | with_reducible assumption | with_reducible exact rng_toInt _ | with_reducible exact rng_wr _ | (unfold rng; omega) | (unfold rng at *; omega) | assumption)) (Or.inl ⟨rfl, rfl⟩) (fun σ46 LLσ46 Nσ46 nuσ46 _ iσ46 cσ46 uσ46 hσ46 pσ46 => ?_) (fun σx LLx Nx nux E ix cx ux px => hX σx LLx Nx nux E ix (fσ45.tr (cx.mo (by decide))) (ux) (by first | exact px | exact ⟨by have := px.1; omega, px.2.1, px.2.2⟩ | (first | omega | with_reducible assumption | with_reducible exact rng_toInt _ | with_reducible exact rng_wr _ | (unfold rng; omega) | (unfold rng at *; omega) | assumption)))
                  intro xσ46
                  have fσ46 : Fx [1, 2, 3, 4, 5, 6, 7, 64, 265, 266, 512, 513, 514, 645, 708, 6464] gr σ σ46 := fσ45.tr (cσ46.mo (by decide))
                  have hnσ46 : Hn (gD σ) [44, 41, 42] [c] gq LL LLσ46 N Nσ46 := hnσ.go hσ46 (fun d hd => (fσ45.1 d hd).1) (by first | decide | exact fun _ h => h | (simp; done) | (intro x hx; simp only [List.mem_cons, List.mem_nil_iff, or_false] at hx ⊢; omega)) (fun d hd => by rw [List.mem_singleton.mp hd]; exact lo_c)
                  have nσ46_3 := hσ46.2.2 3 (by first | decide | (simp; done) | (simp only [List.mem_cons, List.mem_nil_iff, or_false, not_or]; omega)) (by first | decide | omega) (by first | decide | omega) (by first | decide | omega)
                  have nσ46_5 := hσ46.2.2 5 (by first | decide | (simp; done) | (simp only [List.mem_cons, List.mem_nil_iff, or_false, not_or]; omega)) (by first | decide | omega) (by first | decide | omega) (by first | decide | omega)
                  have nσ46_14 := hσ46.2.2 14 (by first | decide | (simp; done) | (simp only [List.mem_cons, List.mem_nil_iff, or_false, not_or]; omega)) (by first | decide | omega) (by first | decide | omega) (by first | decide | omega)
                  have nσ46_44 := hσ46.2.2 44 (by first | decide | (simp; done) | (simp only [List.mem_cons, List.mem_nil_iff, or_false, not_or]; omega)) (by first | decide | omega) (by first | decide | omega) (by first | decide | omega)
                  have nσ46_74 := hσ46.2.2 74 (by first | decide | (simp; done) | (simp only [List.mem_cons, List.mem_nil_iff, or_false, not_or]; omega)) (by first | decide | omega) (by first | decide | omega) (by first | decide | omega)
                  have nσ46_11 := hσ46.2.2 11 (by first | decide | (simp; done) | (simp only [List.mem_cons, List.mem_nil_iff, or_false, not_or]; omega)) (by first | decide | omega) (by first | decide | omega) (by first | decide | omega)
                  have nσ46_12 := hσ46.2.2 12 (by first | decide | (simp; done) | (simp only [List.mem_cons, List.mem_nil_iff, or_false, not_or]; omega)) (by first | decide | omega) (by first | decide | omega) (by first | decide | omega)
                  have nσ46_42 := hσ46.2.2 42 (by first | decide | (simp; done) | (simp only [List.mem_cons, List.mem_nil_iff, or_false, not_or]; omega)) (by first | decide | omega) (by first | decide | omega) (by first | decide | omega)
                  have nσ46_13 := hσ46.2.2 13 (by first | decide | (simp; done) | (simp only [List.mem_cons, List.mem_nil_iff, or_false, not_or]; omega)) (by first | decide | omega) (by first | decide | omega) (by first | decide | omega)
                  have nu_σ46 : NU nu nuσ46 := uσ46
                  have uσ46_0 := uσ46.1 0 (by decide)
                  have uσ46_1 := uσ46.1 1 (by decide)
                  have uσ46_2 := uσ46.2
                  have uσ46_5 := uσ46.1 5 (by decide)
                  have uσ46_15 := uσ46.1 15 (by decide)
                  have uσ46_16 := uσ46.1 16 (by decide)
                  have kp68 : gI σ46 o 11 = gI σ45 o 11 := (cσ46.O (ko.up (xσ40.trans xσ45)) (by decide)).1
                  have kp69 : gI σ46 o 13 = gI σ45 o 13 := (cσ46.O (ko.up (xσ40.trans xσ45)) (by decide)).1
                  have kp70 : gI σ46 o 6 = gI σ45 o 6 := (cσ46.O (ko.up (xσ40.trans xσ45)) (by decide)).1
                  have kp71 : gP σ46 c 0 = gP σ45 c 0 := (cσ46.O (kc.up (xσ40.trans xσ45)) (by decide)).2.1
                  have kp72 : gP σ46 th 5 = gP σ45 th 5 := (cσ46.O (kth.up (xσ40.trans xσ45)) (by decide)).2.1
                  have kp73 : gI σ46 t 0 = gI σ45 t 0 := (cσ46.O (kt.up (xσ40.trans xσ45)) (by decide)).1
                  have kp74 : gJ σ46 c 5 = gJ σ45 c 5 := (cσ46.O (kc.up (xσ40.trans xσ45)) (by decide)).2.2
                  unfold w_X11_accept_244
                  exact hQ σ46 LLσ46 Nσ46 nuσ46 () iσ46 fσ46 (nu_σ46) hnσ46 (by (first | omega | with_reducible assumption | with_reducible exact rng_toInt _ | with_reducible exact rng_wr _ | (unfold rng; omega) | (unfold rng at *; omega) | assumption))
                · rw [if_neg hc52]
                  unfold w_X11_accept_209
                  refine ⟨c, hv4, fun kk_c_1 => ?_⟩
                  by_cases hc75 : v3 ≠ 0
                  · rw [if_pos hc75]
                    unfold w_X11_accept_227
                    refine ⟨o, hv1, fun kk_o_2 => ?_⟩
                    unfold w_X11_accept_231
                    obtain ⟨b_2, eb_2, fb_2⟩ := P_0_0 iσ.1 kc
                    have mb_2 : kO σ b_2 101 := iσ.1.kd kc rfl eb_2 rfl
                    refine ⟨b_2, eb_2, fun kk_b_2 => ?_⟩
                    have q76 := I_5_14 iσ.1 ko
                    refine ⟨⟨by (first | omega | with_reducible assumption | with_reducible exact rng_toInt _ | with_reducible exact rng_wr _ | (unfold rng; omega) | (unfold rng at *; omega) | assumption), by (first | omega | with_reducible assumption | with_reducible exact rng_toInt _ | with_reducible exact rng_wr _ | (unfold rng; omega) | (unfold rng at *; omega) | assumption)⟩, ?_⟩
                    refine ⟨c, hv4, fun kk_c_2 => ?_⟩
                    intro σ34 eσ34
                    have xσ34 : Ext σ σ34 := by rw [eσ34]; exact fun _ h => ⟨h, rfl, rfl⟩
                    have iσ34 : IV σ34 pl gq ci gr nc ot LL N nu := by rw [eσ34]; exact iσ.wJ kc (by decide)
                    have fσ34 : Fx [1, 2, 3, 4, 5, 6, 7, 64, 265, 266, 512, 513, 514, 645, 708, 6464] gr σ σ34 := fσ.tr (Sk.fx (by rw [eσ34]; exact Sk.pJ (by rw [fcdO kc (by decide)]; decide)))
                    have kp77 : gI σ34 o 14 = gI σ o 14 := by rw [eσ34]
                    have kp78 : gI σ34 o 6 = gI σ o 6 := by rw [eσ34]
                    have kp79 : gP σ34 c 0 = gP σ c 0 := by rw [eσ34]
                    have kp80 : gP σ34 th 5 = gP σ th 5 := by rw [eσ34]
                    have kp81 : gI σ34 t 0 = gI σ t 0 := by rw [eσ34]
                    have kp82 : gJ σ34 c 5 = gJ σ c 5 := by rw [eσ34]; exact up2_n _ _ (fun q => absurd q.2 (by decide))
                    refine i4_keep2 iσ34 (kth.up xσ34) hv1 (ko.up xσ34) hv2 (kt.up xσ34) hv4 (kc.up xσ34) (by (first | omega | with_reducible assumption | with_reducible exact rng_toInt _ | with_reducible exact rng_wr _ | (unfold rng; omega) | (unfold rng at *; omega) | assumption)) (by (first | omega | with_reducible assumption | with_reducible exact rng_toInt _ | with_reducible exact rng_wr _ | (unfold rng; omega) | (unfold rng at *; omega) | assumption)) (by (first | omega | with_reducible assumption | with_reducible exact rng_toInt _ | with_reducible exact rng_wr _ | (unfold rng; omega) | (unfold rng at *; omega) | assumption)) (kp80.trans hj) (kJ.up xσ34) (by (first | omega | with_reducible assumption | with_reducible exact rng_toInt _ | with_reducible exact rng_wr _ | (unfold rng; omega) | (unfold rng at *; omega) | assumption)) (by (first | omega | with_reducible assumption | with_reducible exact rng_toInt _ | with_reducible exact rng_wr _ | (unfold rng; omega) | (unfold rng at *; omega) | assumption)) (by (first | omega | with_reducible assumption | with_reducible exact rng_toInt _ | with_reducible exact rng_wr _ | (unfold rng; omega) | (unfold rng at *; omega) | assumption)) (by (first | omega | with_reducible assumption | with_reducible exact rng_toInt _ | with_reducible exact rng_wr _ | (unfold rng; omega) | (unfold rng at *; omega) | assumption)) (by (first | omega | with_reducible assumption | with_reducible exact rng_toInt _ | with_reducible exact rng_wr _ | (unfold rng; omega) | (unfold rng at *; omega) | assumption)) (by (first | omega | with_reducible assumption | with_reducible exact rng_toInt _ | with_reducible exact rng_wr _ | (unfold rng; omega) | (unfold rng at *; omega) | assumption)) (fun σ35 LLσ35 Nσ35 nuσ35 _ iσ35 cσ35 uσ35 hσ35 pσ35 => ?_) (fun σx LLx Nx nux E ix cx ux px => hX σx LLx Nx nux E ix (fσ34.tr (cx.mo (by decide))) (ux) (by first | exact px | exact ⟨by have := px.1; omega, px.2.1, px.2.2⟩ | (first | omega | with_reducible assumption | with_reducible exact rng_toInt _ | with_reducible exact rng_wr _ | (unfold rng; omega) | (unfold rng at *; omega) | assumption)))
                    intro xσ35
                    have fσ35 : Fx [1, 2, 3, 4, 5, 6, 7, 64, 265, 266, 512, 513, 514, 645, 708, 6464] gr σ σ35 := fσ34.tr (cσ35.mo (by decide))
                    have hnσ35 : Hn (gD σ) [44, 41, 42] [c] gq LL LLσ35 N Nσ35 := hnσ.go hσ35 (fun d hd => (fσ34.1 d hd).1) (by first | decide | exact fun _ h => h | (simp; done) | (intro x hx; simp only [List.mem_cons, List.mem_nil_iff, or_false] at hx ⊢; omega)) (fun d hd => by rw [List.mem_singleton.mp hd]; exact lo_c)
                    have nσ35_3 := hσ35.2.2 3 (by first | decide | (simp; done) | (simp only [List.mem_cons, List.mem_nil_iff, or_false, not_or]; omega)) (by first | decide | omega) (by first | decide | omega) (by first | decide | omega)
                    have nσ35_5 := hσ35.2.2 5 (by first | decide | (simp; done) | (simp only [List.mem_cons, List.mem_nil_iff, or_false, not_or]; omega)) (by first | decide | omega) (by first | decide | omega) (by first | decide | omega)
                    have nσ35_14 := hσ35.2.2 14 (by first | decide | (simp; done) | (simp only [List.mem_cons, List.mem_nil_iff, or_false, not_or]; omega)) (by first | decide | omega) (by first | decide | omega) (by first | decide | omega)
                    have nσ35_44 := hσ35.2.2 44 (by first | decide | (simp; done) | (simp only [List.mem_cons, List.mem_nil_iff, or_false, not_or]; omega)) (by first | decide | omega) (by first | decide | omega) (by first | decide | omega)
                    have nσ35_74 := hσ35.2.2 74 (by first | decide | (simp; done) | (simp only [List.mem_cons, List.mem_nil_iff, or_false, not_or]; omega)) (by first | decide | omega) (by first | decide | omega) (by first | decide | omega)
                    have nσ35_11 := hσ35.2.2 11 (by first | decide | (simp; done) | (simp only [List.mem_cons, List.mem_nil_iff, or_false, not_or]; omega)) (by first | decide | omega) (by first | decide | omega) (by first | decide | omega)
                    have nσ35_12 := hσ35.2.2 12 (by first | decide | (simp; done) | (simp only [List.mem_cons, List.mem_nil_iff, or_false, not_or]; omega)) (by first | decide | omega) (by first | decide | omega) (by first | decide | omega)
                    have nσ35_13 := hσ35.2.2 13 (by first | decide | (simp; done) | (simp only [List.mem_cons, List.mem_nil_iff, or_false, not_or]; omega)) (by first | decide | omega) (by first | decide | omega) (by first | decide | omega)
                    have nu_σ35 : NU nu nuσ35 := uσ35
                    have uσ35_0 := uσ35.1 0 (by decide)
                    have uσ35_1 := uσ35.1 1 (by decide)
                    have uσ35_2 := uσ35.2
                    have uσ35_5 := uσ35.1 5 (by decide)
                    have uσ35_15 := uσ35.1 15 (by decide)
                    have uσ35_16 := uσ35.1 16 (by decide)
                    have kp83 : gI σ35 o 14 = gI σ34 o 14 := (cσ35.O (ko.up xσ34) (by decide)).1
                    have kp84 : gI σ35 o 6 = gI σ34 o 6 := (cσ35.O (ko.up xσ34) (by decide)).1
                    have kp85 : gP σ35 c 0 = gP σ34 c 0 := (cσ35.O (kc.up xσ34) (by decide)).2.1
                    have kp86 : gP σ35 th 5 = gP σ34 th 5 := (cσ35.O (kth.up xσ34) (by decide)).2.1
                    have kp87 : gI σ35 t 0 = gI σ34 t 0 := (cσ35.O (kt.up xσ34) (by decide)).1
                    have kp88 : gJ σ35 c 5 = gJ σ34 c 5 := (cσ35.O (kc.up xσ34) (by decide)).2.2
                    unfold w_X11_accept_244
                    exact hQ σ35 LLσ35 Nσ35 nuσ35 () iσ35 fσ35 (nu_σ35) hnσ35 (by (first | omega | with_reducible assumption | with_reducible exact rng_toInt _ | with_reducible exact rng_wr _ | (unfold rng; omega) | (unfold rng at *; omega) | assumption))
                  · rw [if_neg hc75]
                    have hc75q := Classical.not_not.mp hc75
                    unfold w_X11_accept_220
                    refine ⟨o, hv1, fun kk_o_3 => ?_⟩
                    unfold w_X11_accept_231
                    obtain ⟨b_3, eb_3, fb_3⟩ := P_0_0 iσ.1 kc
                    have mb_3 : kO σ b_3 101 := iσ.1.kd kc rfl eb_3 rfl
                    refine ⟨b_3, eb_3, fun kk_b_3 => ?_⟩
                    have q89 := I_5_13 iσ.1 ko
                    refine ⟨⟨by (first | omega | with_reducible assumption | with_reducible exact rng_toInt _ | with_reducible exact rng_wr _ | (unfold rng; omega) | (unfold rng at *; omega) | assumption), by (first | omega | with_reducible assumption | with_reducible exact rng_toInt _ | with_reducible exact rng_wr _ | (unfold rng; omega) | (unfold rng at *; omega) | assumption)⟩, ?_⟩
                    refine ⟨c, hv4, fun kk_c_3 => ?_⟩
                    intro σ34_1 eσ34_1
                    have xσ34_1 : Ext σ σ34_1 := by rw [eσ34_1]; exact fun _ h => ⟨h, rfl, rfl⟩
                    have iσ34_1 : IV σ34_1 pl gq ci gr nc ot LL N nu := by rw [eσ34_1]; exact iσ.wJ kc (by decide)
                    have fσ34_1 : Fx [1, 2, 3, 4, 5, 6, 7, 64, 265, 266, 512, 513, 514, 645, 708, 6464] gr σ σ34_1 := fσ.tr (Sk.fx (by rw [eσ34_1]; exact Sk.pJ (by rw [fcdO kc (by decide)]; decide)))
                    have kp90 : gI σ34_1 o 13 = gI σ o 13 := by rw [eσ34_1]
                    have kp91 : gI σ34_1 o 6 = gI σ o 6 := by rw [eσ34_1]
                    have kp92 : gP σ34_1 c 0 = gP σ c 0 := by rw [eσ34_1]
                    have kp93 : gP σ34_1 th 5 = gP σ th 5 := by rw [eσ34_1]
                    have kp94 : gI σ34_1 t 0 = gI σ t 0 := by rw [eσ34_1]
                    have kp95 : gJ σ34_1 c 5 = gJ σ c 5 := by rw [eσ34_1]; exact up2_n _ _ (fun q => absurd q.2 (by decide))
                    refine i4_keep2 iσ34_1 (kth.up xσ34_1) hv1 (ko.up xσ34_1) hv2 (kt.up xσ34_1) hv4 (kc.up xσ34_1) (by (first | omega | with_reducible assumption | with_reducible exact rng_toInt _ | with_reducible exact rng_wr _ | (unfold rng; omega) | (unfold rng at *; omega) | assumption)) (by (first | omega | with_reducible assumption | with_reducible exact rng_toInt _ | with_reducible exact rng_wr _ | (unfold rng; omega) | (unfold rng at *; omega) | assumption)) (by (first | omega | with_reducible assumption | with_reducible exact rng_toInt _ | with_reducible exact rng_wr _ | (unfold rng; omega) | (unfold rng at *; omega) | assumption)) (kp93.trans hj) (kJ.up xσ34_1) (by (first | omega | with_reducible assumption | with_reducible exact rng_toInt _ | with_reducible exact rng_wr _ | (unfold rng; omega) | (unfold rng at *; omega) | assumption)) (by (first | omega | with_reducible assumption | with_reducible exact rng_toInt _ | with_reducible exact rng_wr _ | (unfold rng; omega) | (unfold rng at *; omega) | assumption)) (by (first | omega | with_reducible assumption | with_reducible exact rng_toInt _ | with_reducible exact rng_wr _ | (unfold rng; omega) | (unfold rng at *; omega) | assumption)) (by (first | omega | with_reducible assumption | with_reducible exact rng_toInt _ | with_reducible exact rng_wr _ | (unfold rng; omega) | (unfold rng at *; omega) | assumption)) (by (first | omega | with_reducible assumption | with_reducible exact rng_toInt _ | with_reducible exact rng_wr _ | (unfold rng; omega) | (unfold rng at *; omega) | assumption)) (by (first | omega | with_reducible assumption | with_reducible exact rng_toInt _ | with_reducible exact rng_wr _ | (unfold rng; omega) | (unfold rng at *; omega) | assumption)) (fun σ35_1 LLσ35_1 Nσ35_1 nuσ35_1 _ iσ35_1 cσ35_1 uσ35_1 hσ35_1 pσ35_1 => ?_) (fun σx LLx Nx nux E ix cx ux px => hX σx LLx Nx nux E ix (fσ34_1.tr (cx.mo (by decide))) (ux) (by first | exact px | exact ⟨by have := px.1; omega, px.2.1, px.2.2⟩ | (first | omega | with_reducible assumption | with_reducible exact rng_toInt _ | with_reducible exact rng_wr _ | (unfold rng; omega) | (unfold rng at *; omega) | assumption)))
                    intro xσ35_1
                    have fσ35_1 : Fx [1, 2, 3, 4, 5, 6, 7, 64, 265, 266, 512, 513, 514, 645, 708, 6464] gr σ σ35_1 := fσ34_1.tr (cσ35_1.mo (by decide))
                    have hnσ35_1 : Hn (gD σ) [44, 41, 42] [c] gq LL LLσ35_1 N Nσ35_1 := hnσ.go hσ35_1 (fun d hd => (fσ34_1.1 d hd).1) (by first | decide | exact fun _ h => h | (simp; done) | (intro x hx; simp only [List.mem_cons, List.mem_nil_iff, or_false] at hx ⊢; omega)) (fun d hd => by rw [List.mem_singleton.mp hd]; exact lo_c)
                    have nσ35_1_3 := hσ35_1.2.2 3 (by first | decide | (simp; done) | (simp only [List.mem_cons, List.mem_nil_iff, or_false, not_or]; omega)) (by first | decide | omega) (by first | decide | omega) (by first | decide | omega)
                    have nσ35_1_5 := hσ35_1.2.2 5 (by first | decide | (simp; done) | (simp only [List.mem_cons, List.mem_nil_iff, or_false, not_or]; omega)) (by first | decide | omega) (by first | decide | omega) (by first | decide | omega)
                    have nσ35_1_14 := hσ35_1.2.2 14 (by first | decide | (simp; done) | (simp only [List.mem_cons, List.mem_nil_iff, or_false, not_or]; omega)) (by first | decide | omega) (by first | decide | omega) (by first | decide | omega)
                    have nσ35_1_44 := hσ35_1.2.2 44 (by first | decide | (simp; done) | (simp only [List.mem_cons, List.mem_nil_iff, or_false, not_or]; omega)) (by first | decide | omega) (by first | decide | omega) (by first | decide | omega)
                    have nσ35_1_74 := hσ35_1.2.2 74 (by first | decide | (simp; done) | (simp only [List.mem_cons, List.mem_nil_iff, or_false, not_or]; omega)) (by first | decide | omega) (by first | decide | omega) (by first | decide | omega)
                    have nσ35_1_11 := hσ35_1.2.2 11 (by first | decide | (simp; done) | (simp only [List.mem_cons, List.mem_nil_iff, or_false, not_or]; omega)) (by first | decide | omega) (by first | decide | omega) (by first | decide | omega)
                    have nσ35_1_12 := hσ35_1.2.2 12 (by first | decide | (simp; done) | (simp only [List.mem_cons, List.mem_nil_iff, or_false, not_or]; omega)) (by first | decide | omega) (by first | decide | omega) (by first | decide | omega)
                    have nσ35_1_13 := hσ35_1.2.2 13 (by first | decide | (simp; done) | (simp only [List.mem_cons, List.mem_nil_iff, or_false, not_or]; omega)) (by first | decide | omega) (by first | decide | omega) (by first | decide | omega)
                    have nu_σ35_1 : NU nu nuσ35_1 := uσ35_1
                    have uσ35_1_0 := uσ35_1.1 0 (by decide)
                    have uσ35_1_1 := uσ35_1.1 1 (by decide)
                    have uσ35_1_2 := uσ35_1.2
                    have uσ35_1_5 := uσ35_1.1 5 (by decide)
                    have uσ35_1_15 := uσ35_1.1 15 (by decide)
                    have uσ35_1_16 := uσ35_1.1 16 (by decide)
                    have kp96 : gI σ35_1 o 13 = gI σ34_1 o 13 := (cσ35_1.O (ko.up xσ34_1) (by decide)).1
                    have kp97 : gI σ35_1 o 6 = gI σ34_1 o 6 := (cσ35_1.O (ko.up xσ34_1) (by decide)).1
                    have kp98 : gP σ35_1 c 0 = gP σ34_1 c 0 := (cσ35_1.O (kc.up xσ34_1) (by decide)).2.1
                    have kp99 : gP σ35_1 th 5 = gP σ34_1 th 5 := (cσ35_1.O (kth.up xσ34_1) (by decide)).2.1
                    have kp100 : gI σ35_1 t 0 = gI σ34_1 t 0 := (cσ35_1.O (kt.up xσ34_1) (by decide)).1
                    have kp101 : gJ σ35_1 c 5 = gJ σ34_1 c 5 := (cσ35_1.O (kc.up xσ34_1) (by decide)).2.2
                    unfold w_X11_accept_244
                    exact hQ σ35_1 LLσ35_1 Nσ35_1 nuσ35_1 () iσ35_1 fσ35_1 (nu_σ35_1) hnσ35_1 (by (first | omega | with_reducible assumption | with_reducible exact rng_toInt _ | with_reducible exact rng_wr _ | (unfold rng; omega) | (unfold rng at *; omega) | assumption))
set_option maxHeartbeats 1000000 in
theorem i4_X11_advance {σ : Sg} {pl : Nat} {gq ci gr nc : Nat → Nat} {ot : Nat → Nat → Int} {LL : Nat → List Nat} {N nu : Nat → Nat} {th : Nat} {v1 : Option Nat} {v2 : Option Nat} {v3 : Int64} {J i : Nat} (iσ : IV σ pl gq ci gr nc ot LL N nu) (kth : kO σ th 11) {o : Nat} (hv1 : v1 = some o) (ko : kO σ o 5) {t : Nat} (hv2 : v2 = some t) (kt : kO σ t 10) (hq : gq th = 4) (hj : gP σ th 5 = some J) (kJ : kO σ J 4) (hJ : gq J = nc 0) (ho : gq o = 16 * nc 0 + i) (hi : i < nc 1) (ht : gq t = 4) (h5 : nu 5 < 24000) (hb : N 14 + N 44 + N 74 + N 1 ≤ 30000) (hn : N 44 ≤ 8000) (h3 : N 3 ≤ 1152921504606846976) {Q : Sg → Unit → Prop} {X : Sg → String → Prop} (hQ : ∀ (σ' : Sg) (LL' : Nat → List Nat) (N' nu' : Nat → Nat) (r : Unit), IV σ' pl gq ci gr nc ot LL' N' nu' → Fx [1, 2, 3, 4, 5, 6, 7, 64, 512, 513, 514, 708, 6464] gr σ σ' → NU nu nu' → Hn (gD σ) [44, 41, 42, 3] [] gq LL LL' N N' → (N' 1 = N 1 ∧ N' 44 ≤ N 44 + 4001 ∧ N' 3 ≤ N 3 + 40000000) → Q σ' r) (hX : ∀ (σ' : Sg) (LL' : Nat → List Nat) (N' nu' : Nat → Nat) (E : String), IV σ' pl gq ci gr nc ot LL' N' nu' → Fx [1, 2, 3, 4, 5, 6, 7, 64, 512, 513, 514, 708, 6464] gr σ σ' → NX nu nu' → ((N' 1 ≤ N 1 + 2 ∧ N' 5 = N 5 ∧ N' 3 ≤ N 3 + 40000000 ∧ N' 14 = N 14 ∧ N' 74 = N 74) ∧ NZ N N' ∧ E = "java/lang/IllegalStateException") → X σ' E) : wp_X11_advance th v1 v2 v3 σ Q X := by
  have fσ : Fx [1, 2, 3, 4, 5, 6, 7, 64, 512, 513, 514, 708, 6464] gr σ σ := Fx.rf
  have hnσ : Hn (gD σ) [44, 41, 42, 3] [] gq LL LL N N := Hn.rf
  have ok := iσ.opok hi
  have q6 := iσ.op ko ho hi 6 (by decide)
  have rc := iσ.recs4 kth (by omega)
  have q4 := I_11_4 iσ.1 kth
  unfold wp_X11_advance
  unfold w_X11_advance_0
  refine ⟨o, hv1, fun kk_o => ?_⟩
  have q2 := I_5_6 iσ.1 ko
  by_cases hc1 : gI σ o 6 = 4
  · rw [if_pos hc1]
    unfold w_X11_advance_48
    refine i4_X11_endFolds iσ kth hv1 ko hv2 kt (by (first | omega | with_reducible assumption | with_reducible exact rng_toInt _ | with_reducible exact rng_wr _ | (unfold rng; omega) | (unfold rng at *; omega) | assumption)) (by (first | omega | with_reducible assumption | with_reducible exact rng_toInt _ | with_reducible exact rng_wr _ | (unfold rng; omega) | (unfold rng at *; omega) | assumption)) (by (first | omega | with_reducible assumption | with_reducible exact rng_toInt _ | with_reducible exact rng_wr _ | (unfold rng; omega) | (unfold rng at *; omega) | assumption)) (by (first | omega | with_reducible assumption | with_reducible exact rng_toInt _ | with_reducible exact rng_wr _ | (unfold rng; omega) | (unfold rng at *; omega) | assumption)) (by (first | omega | with_reducible assumption | with_reducible exact rng_toInt _ | with_reducible exact rng_wr _ | (unfold rng; omega) | (unfold rng at *; omega) | assumption)) (fun σ24 LLσ24 Nσ24 nuσ24 _ iσ24 cσ24 uσ24 hσ24 pσ24 => ?_)
    intro xσ24
    have fσ24 : Fx [1, 2, 3, 4, 5, 6, 7, 64, 512, 513, 514, 708, 6464] gr σ σ24 := fσ.tr (cσ24.mo (by decide))
    have hnσ24 : Hn (gD σ) [44, 41, 42, 3] [] gq LL LLσ24 N Nσ24 := hnσ.go hσ24 (fun d hd => (fσ.1 d hd).1) (by first | decide | exact fun _ h => h | (simp; done) | (intro x hx; simp only [List.mem_cons, List.mem_nil_iff, or_false] at hx ⊢; omega)) (fun d hd => absurd hd (by simp))
    have nσ24_5 := hσ24.2.2 5 (by first | decide | (simp; done) | (simp only [List.mem_cons, List.mem_nil_iff, or_false, not_or]; omega)) (by first | decide | omega) (by first | decide | omega) (by first | decide | omega)
    have nσ24_14 := hσ24.2.2 14 (by first | decide | (simp; done) | (simp only [List.mem_cons, List.mem_nil_iff, or_false, not_or]; omega)) (by first | decide | omega) (by first | decide | omega) (by first | decide | omega)
    have nσ24_74 := hσ24.2.2 74 (by first | decide | (simp; done) | (simp only [List.mem_cons, List.mem_nil_iff, or_false, not_or]; omega)) (by first | decide | omega) (by first | decide | omega) (by first | decide | omega)
    have nσ24_11 := hσ24.2.2 11 (by first | decide | (simp; done) | (simp only [List.mem_cons, List.mem_nil_iff, or_false, not_or]; omega)) (by first | decide | omega) (by first | decide | omega) (by first | decide | omega)
    have nσ24_12 := hσ24.2.2 12 (by first | decide | (simp; done) | (simp only [List.mem_cons, List.mem_nil_iff, or_false, not_or]; omega)) (by first | decide | omega) (by first | decide | omega) (by first | decide | omega)
    have nσ24_42 := hσ24.2.2 42 (by first | decide | (simp; done) | (simp only [List.mem_cons, List.mem_nil_iff, or_false, not_or]; omega)) (by first | decide | omega) (by first | decide | omega) (by first | decide | omega)
    have nσ24_13 := hσ24.2.2 13 (by first | decide | (simp; done) | (simp only [List.mem_cons, List.mem_nil_iff, or_false, not_or]; omega)) (by first | decide | omega) (by first | decide | omega) (by first | decide | omega)
    have nu_σ24 : NU nu nuσ24 := uσ24
    have uσ24_0 := uσ24.1 0 (by decide)
    have uσ24_1 := uσ24.1 1 (by decide)
    have uσ24_2 := uσ24.2
    have uσ24_5 := uσ24.1 5 (by decide)
    have uσ24_15 := uσ24.1 15 (by decide)
    have uσ24_16 := uσ24.1 16 (by decide)
    have kp3 : gI σ24 o 6 = gI σ o 6 := (cσ24.O ko (by decide)).1
    have kp4 : gP σ24 th 5 = gP σ th 5 := (cσ24.O kth (by decide)).2.1
    have kp5 : gI σ24 t 0 = gI σ t 0 := (cσ24.O kt (by decide)).1
    unfold w_X11_advance_148
    exact hQ σ24 LLσ24 Nσ24 nuσ24 () iσ24 fσ24 (nu_σ24) hnσ24 (by (first | omega | with_reducible assumption | with_reducible exact rng_toInt _ | with_reducible exact rng_wr _ | (unfold rng; omega) | (unfold rng at *; omega) | assumption))
  · rw [if_neg hc1]
    by_cases hc6 : gI σ o 6 = 5
    · rw [if_pos hc6]
      unfold w_X11_advance_59
      refine ⟨o, hv1, fun kk_o_1 => ?_⟩
      have q7 := I_5_11 iσ.1 ko
      refine ⟨by (first | omega | with_reducible assumption | with_reducible exact rng_toInt _ | with_reducible exact rng_wr _ | (unfold rng; omega) | (unfold rng at *; omega) | assumption), ?_⟩
      refine i4_X11_endFolds iσ kth hv1 ko hv2 kt (by (first | omega | with_reducible assumption | with_reducible exact rng_toInt _ | with_reducible exact rng_wr _ | (unfold rng; omega) | (unfold rng at *; omega) | assumption)) (by (first | omega | with_reducible assumption | with_reducible exact rng_toInt _ | with_reducible exact rng_wr _ | (unfold rng; omega) | (unfold rng at *; omega) | assumption)) (by (first | omega | with_reducible assumption | with_reducible exact rng_toInt _ | with_reducible exact rng_wr _ | (unfold rng; omega) | (unfold rng at *; omega) | assumption)) (by (first | omega | with_reducible assumption | with_reducible exact rng_toInt _ | with_reducible exact rng_wr _ | (unfold rng; omega) | (unfold rng at *; omega) | assumption)) (by (first | omega | with_reducible assumption | with_reducible exact rng_toInt _ | with_reducible exact rng_wr _ | (unfold rng; omega) | (unfold rng at *; omega) | assumption)) (fun σ23 LLσ23 Nσ23 nuσ23 _ iσ23 cσ23 uσ23 hσ23 pσ23 => ?_)
      intro xσ23
      have fσ23 : Fx [1, 2, 3, 4, 5, 6, 7, 64, 512, 513, 514, 708, 6464] gr σ σ23 := fσ.tr (cσ23.mo (by decide))
      have hnσ23 : Hn (gD σ) [44, 41, 42, 3] [] gq LL LLσ23 N Nσ23 := hnσ.go hσ23 (fun d hd => (fσ.1 d hd).1) (by first | decide | exact fun _ h => h | (simp; done) | (intro x hx; simp only [List.mem_cons, List.mem_nil_iff, or_false] at hx ⊢; omega)) (fun d hd => absurd hd (by simp))
      have nσ23_5 := hσ23.2.2 5 (by first | decide | (simp; done) | (simp only [List.mem_cons, List.mem_nil_iff, or_false, not_or]; omega)) (by first | decide | omega) (by first | decide | omega) (by first | decide | omega)
      have nσ23_14 := hσ23.2.2 14 (by first | decide | (simp; done) | (simp only [List.mem_cons, List.mem_nil_iff, or_false, not_or]; omega)) (by first | decide | omega) (by first | decide | omega) (by first | decide | omega)
      have nσ23_74 := hσ23.2.2 74 (by first | decide | (simp; done) | (simp only [List.mem_cons, List.mem_nil_iff, or_false, not_or]; omega)) (by first | decide | omega) (by first | decide | omega) (by first | decide | omega)
      have nσ23_11 := hσ23.2.2 11 (by first | decide | (simp; done) | (simp only [List.mem_cons, List.mem_nil_iff, or_false, not_or]; omega)) (by first | decide | omega) (by first | decide | omega) (by first | decide | omega)
      have nσ23_12 := hσ23.2.2 12 (by first | decide | (simp; done) | (simp only [List.mem_cons, List.mem_nil_iff, or_false, not_or]; omega)) (by first | decide | omega) (by first | decide | omega) (by first | decide | omega)
      have nσ23_42 := hσ23.2.2 42 (by first | decide | (simp; done) | (simp only [List.mem_cons, List.mem_nil_iff, or_false, not_or]; omega)) (by first | decide | omega) (by first | decide | omega) (by first | decide | omega)
      have nσ23_13 := hσ23.2.2 13 (by first | decide | (simp; done) | (simp only [List.mem_cons, List.mem_nil_iff, or_false, not_or]; omega)) (by first | decide | omega) (by first | decide | omega) (by first | decide | omega)
      have nu_σ23 : NU nu nuσ23 := uσ23
      have uσ23_0 := uσ23.1 0 (by decide)
      have uσ23_1 := uσ23.1 1 (by decide)
      have uσ23_2 := uσ23.2
      have uσ23_5 := uσ23.1 5 (by decide)
      have uσ23_15 := uσ23.1 15 (by decide)
      have uσ23_16 := uσ23.1 16 (by decide)
      have kp8 : gI σ23 o 11 = gI σ o 11 := (cσ23.O ko (by decide)).1
      have kp9 : gI σ23 o 6 = gI σ o 6 := (cσ23.O ko (by decide)).1
      have kp10 : gP σ23 th 5 = gP σ th 5 := (cσ23.O kth (by decide)).2.1
      have kp11 : gI σ23 t 0 = gI σ t 0 := (cσ23.O kt (by decide)).1
      unfold w_X11_advance_148
      exact hQ σ23 LLσ23 Nσ23 nuσ23 () iσ23 fσ23 (nu_σ23) hnσ23 (by (first | omega | with_reducible assumption | with_reducible exact rng_toInt _ | with_reducible exact rng_wr _ | (unfold rng; omega) | (unfold rng at *; omega) | assumption))
    · rw [if_neg hc6]
      by_cases hc12 : gI σ o 6 = 6
      · rw [if_pos hc12]
        unfold w_X11_advance_75
        refine ⟨t, hv2, fun kk_t => ?_⟩
        refine ⟨o, hv1, fun kk_o_2 => ?_⟩
        have q13 := I_5_16 iσ.1 ko
        obtain ⟨b, eb, fb⟩ := P_10_2 iσ.1 kt
        have mb : kO σ b 1 := iσ.1.kd kt rfl eb rfl
        refine i4_X11_dropUpTo (G0 := 41) iσ kth eb mb (by (first | omega | with_reducible assumption | with_reducible exact rng_toInt _ | with_reducible exact rng_wr _ | (unfold rng; omega) | (unfold rng at *; omega) | assumption)) (by omega) (by decide) (fun σ20 LLσ20 Nσ20 nuσ20 _ iσ20 cσ20 uσ20 hσ20 pσ20 => ?_)
        intro xσ20
        have fσ20 : Fx [1, 2, 3, 4, 5, 6, 7, 64, 512, 513, 514, 708, 6464] gr σ σ20 := fσ.tr (cσ20.mo (by decide))
        have hnσ20 : Hn (gD σ) [44, 41, 42, 3] [] gq LL LLσ20 N Nσ20 := hnσ.go hσ20 (fun d hd => (fσ.1 d hd).1) (by first | decide | exact fun _ h => h | (simp; done) | (intro x hx; simp only [List.mem_cons, List.mem_nil_iff, or_false] at hx ⊢; omega)) (fun d hd => absurd hd (by simp))
        have nσ20_3 := hσ20.2.2 3 (by first | decide | (simp; done) | (simp only [List.mem_cons, List.mem_nil_iff, or_false, not_or]; omega)) (by first | decide | omega) (by first | decide | omega) (by first | decide | omega)
        have nσ20_5 := hσ20.2.2 5 (by first | decide | (simp; done) | (simp only [List.mem_cons, List.mem_nil_iff, or_false, not_or]; omega)) (by first | decide | omega) (by first | decide | omega) (by first | decide | omega)
        have nσ20_14 := hσ20.2.2 14 (by first | decide | (simp; done) | (simp only [List.mem_cons, List.mem_nil_iff, or_false, not_or]; omega)) (by first | decide | omega) (by first | decide | omega) (by first | decide | omega)
        have nσ20_44 := hσ20.2.2 44 (by first | decide | (simp; done) | (simp only [List.mem_cons, List.mem_nil_iff, or_false, not_or]; omega)) (by first | decide | omega) (by first | decide | omega) (by first | decide | omega)
        have nσ20_74 := hσ20.2.2 74 (by first | decide | (simp; done) | (simp only [List.mem_cons, List.mem_nil_iff, or_false, not_or]; omega)) (by first | decide | omega) (by first | decide | omega) (by first | decide | omega)
        have nσ20_11 := hσ20.2.2 11 (by first | decide | (simp; done) | (simp only [List.mem_cons, List.mem_nil_iff, or_false, not_or]; omega)) (by first | decide | omega) (by first | decide | omega) (by first | decide | omega)
        have nσ20_12 := hσ20.2.2 12 (by first | decide | (simp; done) | (simp only [List.mem_cons, List.mem_nil_iff, or_false, not_or]; omega)) (by first | decide | omega) (by first | decide | omega) (by first | decide | omega)
        have nσ20_42 := hσ20.2.2 42 (by first | decide | (simp; done) | (simp only [List.mem_cons, List.mem_nil_iff, or_false, not_or]; omega)) (by first | decide | omega) (by first | decide | omega) (by first | decide | omega)
        have nσ20_13 := hσ20.2.2 13 (by first | decide | (simp; done) | (simp only [List.mem_cons, List.mem_nil_iff, or_false, not_or]; omega)) (by first | decide | omega) (by first | decide | omega) (by first | decide | omega)
        have nu_σ20 : NU nu nuσ20 := uσ20
        have uσ20_0 := uσ20.1 0 (by decide)
        have uσ20_1 := uσ20.1 1 (by decide)
        have uσ20_2 := uσ20.2
        have uσ20_5 := uσ20.1 5 (by decide)
        have uσ20_15 := uσ20.1 15 (by decide)
        have uσ20_16 := uσ20.1 16 (by decide)
        have kp14 : gI σ20 o 16 = gI σ o 16 := (cσ20.O ko (by decide)).1
        have kp15 : gI σ20 o 6 = gI σ o 6 := (cσ20.O ko (by decide)).1
        have kp16 : gP σ20 t 2 = gP σ t 2 := (cσ20.O kt (by decide)).2.1
        have kp17 : gP σ20 th 5 = gP σ th 5 := (cσ20.O kth (by decide)).2.1
        have kp18 : gI σ20 t 0 = gI σ t 0 := (cσ20.O kt (by decide)).1
        have q19 := I_5_15 iσ20.1 (ko.up xσ20)
        obtain ⟨b_1, eb_1, fb_1⟩ := P_10_3 iσ20.1 (kt.up xσ20)
        have mb_1 : kO σ20 b_1 1 := iσ20.1.kd (kt.up xσ20) rfl eb_1 rfl
        refine i4_X11_dropUpTo (G0 := 42) iσ20 (kth.up xσ20) eb_1 mb_1 (by (first | omega | with_reducible assumption | with_reducible exact rng_toInt _ | with_reducible exact rng_wr _ | (unfold rng; omega) | (unfold rng at *; omega) | assumption)) (by omega) (by decide) (fun σ21 LLσ21 Nσ21 nuσ21 _ iσ21 cσ21 uσ21 hσ21 pσ21 => ?_)
        intro xσ21
        have fσ21 : Fx [1, 2, 3, 4, 5, 6, 7, 64, 512, 513, 514, 708, 6464] gr σ σ21 := fσ20.tr (cσ21.mo (by decide))
        have hnσ21 : Hn (gD σ) [44, 41, 42, 3] [] gq LL LLσ21 N Nσ21 := hnσ20.go hσ21 (fun d hd => (fσ20.1 d hd).1) (by first | decide | exact fun _ h => h | (simp; done) | (intro x hx; simp only [List.mem_cons, List.mem_nil_iff, or_false] at hx ⊢; omega)) (fun d hd => absurd hd (by simp))
        have nσ21_3 := hσ21.2.2 3 (by first | decide | (simp; done) | (simp only [List.mem_cons, List.mem_nil_iff, or_false, not_or]; omega)) (by first | decide | omega) (by first | decide | omega) (by first | decide | omega)
        have nσ21_5 := hσ21.2.2 5 (by first | decide | (simp; done) | (simp only [List.mem_cons, List.mem_nil_iff, or_false, not_or]; omega)) (by first | decide | omega) (by first | decide | omega) (by first | decide | omega)
        have nσ21_14 := hσ21.2.2 14 (by first | decide | (simp; done) | (simp only [List.mem_cons, List.mem_nil_iff, or_false, not_or]; omega)) (by first | decide | omega) (by first | decide | omega) (by first | decide | omega)
        have nσ21_44 := hσ21.2.2 44 (by first | decide | (simp; done) | (simp only [List.mem_cons, List.mem_nil_iff, or_false, not_or]; omega)) (by first | decide | omega) (by first | decide | omega) (by first | decide | omega)
        have nσ21_74 := hσ21.2.2 74 (by first | decide | (simp; done) | (simp only [List.mem_cons, List.mem_nil_iff, or_false, not_or]; omega)) (by first | decide | omega) (by first | decide | omega) (by first | decide | omega)
        have nσ21_11 := hσ21.2.2 11 (by first | decide | (simp; done) | (simp only [List.mem_cons, List.mem_nil_iff, or_false, not_or]; omega)) (by first | decide | omega) (by first | decide | omega) (by first | decide | omega)
        have nσ21_12 := hσ21.2.2 12 (by first | decide | (simp; done) | (simp only [List.mem_cons, List.mem_nil_iff, or_false, not_or]; omega)) (by first | decide | omega) (by first | decide | omega) (by first | decide | omega)
        have nσ21_41 := hσ21.2.2 41 (by first | decide | (simp; done) | (simp only [List.mem_cons, List.mem_nil_iff, or_false, not_or]; omega)) (by first | decide | omega) (by first | decide | omega) (by first | decide | omega)
        have nσ21_13 := hσ21.2.2 13 (by first | decide | (simp; done) | (simp only [List.mem_cons, List.mem_nil_iff, or_false, not_or]; omega)) (by first | decide | omega) (by first | decide | omega) (by first | decide | omega)
        have nu_σ21 : NU nu nuσ21 := nu_σ20.tr uσ21
        have uσ21_0 := uσ21.1 0 (by decide)
        have uσ21_1 := uσ21.1 1 (by decide)
        have uσ21_2 := uσ21.2
        have uσ21_5 := uσ21.1 5 (by decide)
        have uσ21_15 := uσ21.1 15 (by decide)
        have uσ21_16 := uσ21.1 16 (by decide)
        have kp20 : gI σ21 o 15 = gI σ20 o 15 := (cσ21.O (ko.up xσ20) (by decide)).1
        have kp21 : gI σ21 o 16 = gI σ20 o 16 := (cσ21.O (ko.up xσ20) (by decide)).1
        have kp22 : gI σ21 o 6 = gI σ20 o 6 := (cσ21.O (ko.up xσ20) (by decide)).1
        have kp23 : gP σ21 t 2 = gP σ20 t 2 := (cσ21.O (kt.up xσ20) (by decide)).2.1
        have kp24 : gP σ21 t 3 = gP σ20 t 3 := (cσ21.O (kt.up xσ20) (by decide)).2.1
        have kp25 : gP σ21 th 5 = gP σ20 th 5 := (cσ21.O (kth.up xσ20) (by decide)).2.1
        have kp26 : gI σ21 t 0 = gI σ20 t 0 := (cσ21.O (kt.up xσ20) (by decide)).1
        unfold w_X11_advance_148
        exact hQ σ21 LLσ21 Nσ21 nuσ21 () iσ21 fσ21 (nu_σ21) hnσ21 (by (first | omega | with_reducible assumption | with_reducible exact rng_toInt _ | with_reducible exact rng_wr _ | (unfold rng; omega) | (unfold rng at *; omega) | assumption))
      · rw [if_neg hc12]
        by_cases hc27 : gI σ o 6 = 7
        · rw [if_pos hc27]
          unfold w_X11_advance_108
          refine i4_X11_lookUpTo iσ kth hv1 ko hv2 kt (by (first | omega | with_reducible assumption | with_reducible exact rng_toInt _ | with_reducible exact rng_wr _ | (unfold rng; omega) | (unfold rng at *; omega) | assumption)) hj kJ (by (first | omega | with_reducible assumption | with_reducible exact rng_toInt _ | with_reducible exact rng_wr _ | (unfold rng; omega) | (unfold rng at *; omega) | assumption)) (by (first | omega | with_reducible assumption | with_reducible exact rng_toInt _ | with_reducible exact rng_wr _ | (unfold rng; omega) | (unfold rng at *; omega) | assumption)) (by (first | omega | with_reducible assumption | with_reducible exact rng_toInt _ | with_reducible exact rng_wr _ | (unfold rng; omega) | (unfold rng at *; omega) | assumption)) (by omega) (by (first | omega | with_reducible assumption | with_reducible exact rng_toInt _ | with_reducible exact rng_wr _ | (unfold rng; omega) | (unfold rng at *; omega) | assumption)) (by (first | omega | with_reducible assumption | with_reducible exact rng_toInt _ | with_reducible exact rng_wr _ | (unfold rng; omega) | (unfold rng at *; omega) | assumption)) (by (first | omega | with_reducible assumption | with_reducible exact rng_toInt _ | with_reducible exact rng_wr _ | (unfold rng; omega) | (unfold rng at *; omega) | assumption)) (fun σ17 LLσ17 Nσ17 nuσ17 _ iσ17 cσ17 uσ17 hσ17 pσ17 => ?_) (fun σx LLx Nx nux E ix cx ux px => hX σx LLx Nx nux E ix (fσ.tr (cx.mo (by decide))) (ux) (by first | exact px | exact ⟨by have := px.1; omega, px.2.1, px.2.2⟩ | (first | omega | with_reducible assumption | with_reducible exact rng_toInt _ | with_reducible exact rng_wr _ | (unfold rng; omega) | (unfold rng at *; omega) | assumption)))
          intro xσ17
          have fσ17 : Fx [1, 2, 3, 4, 5, 6, 7, 64, 512, 513, 514, 708, 6464] gr σ σ17 := fσ.tr (cσ17.mo (by decide))
          have hnσ17 : Hn (gD σ) [44, 41, 42, 3] [] gq LL LLσ17 N Nσ17 := hnσ.go hσ17 (fun d hd => (fσ.1 d hd).1) (by first | decide | exact fun _ h => h | (simp; done) | (intro x hx; simp only [List.mem_cons, List.mem_nil_iff, or_false] at hx ⊢; omega)) (fun d hd => absurd hd (by simp))
          have nσ17_3 := hσ17.2.2 3 (by first | decide | (simp; done) | (simp only [List.mem_cons, List.mem_nil_iff, or_false, not_or]; omega)) (by first | decide | omega) (by first | decide | omega) (by first | decide | omega)
          have nσ17_5 := hσ17.2.2 5 (by first | decide | (simp; done) | (simp only [List.mem_cons, List.mem_nil_iff, or_false, not_or]; omega)) (by first | decide | omega) (by first | decide | omega) (by first | decide | omega)
          have nσ17_14 := hσ17.2.2 14 (by first | decide | (simp; done) | (simp only [List.mem_cons, List.mem_nil_iff, or_false, not_or]; omega)) (by first | decide | omega) (by first | decide | omega) (by first | decide | omega)
          have nσ17_74 := hσ17.2.2 74 (by first | decide | (simp; done) | (simp only [List.mem_cons, List.mem_nil_iff, or_false, not_or]; omega)) (by first | decide | omega) (by first | decide | omega) (by first | decide | omega)
          have nσ17_11 := hσ17.2.2 11 (by first | decide | (simp; done) | (simp only [List.mem_cons, List.mem_nil_iff, or_false, not_or]; omega)) (by first | decide | omega) (by first | decide | omega) (by first | decide | omega)
          have nσ17_12 := hσ17.2.2 12 (by first | decide | (simp; done) | (simp only [List.mem_cons, List.mem_nil_iff, or_false, not_or]; omega)) (by first | decide | omega) (by first | decide | omega) (by first | decide | omega)
          have nσ17_13 := hσ17.2.2 13 (by first | decide | (simp; done) | (simp only [List.mem_cons, List.mem_nil_iff, or_false, not_or]; omega)) (by first | decide | omega) (by first | decide | omega) (by first | decide | omega)
          have nu_σ17 : NU nu nuσ17 := uσ17
          have uσ17_0 := uσ17.1 0 (by decide)
          have uσ17_1 := uσ17.1 1 (by decide)
          have uσ17_2 := uσ17.2
          have uσ17_5 := uσ17.1 5 (by decide)
          have uσ17_15 := uσ17.1 15 (by decide)
          have uσ17_16 := uσ17.1 16 (by decide)
          have kp28 : gI σ17 o 6 = gI σ o 6 := (cσ17.O ko (by decide)).1
          have kp29 : gP σ17 th 5 = gP σ th 5 := (cσ17.O kth (by decide)).2.1
          have kp30 : gI σ17 t 0 = gI σ t 0 := (cσ17.O kt (by decide)).1
          unfold w_X11_advance_148
          exact hQ σ17 LLσ17 Nσ17 nuσ17 () iσ17 fσ17 (nu_σ17) hnσ17 (by (first | omega | with_reducible assumption | with_reducible exact rng_toInt _ | with_reducible exact rng_wr _ | (unfold rng; omega) | (unfold rng at *; omega) | assumption))
        · rw [if_neg hc27]
          by_cases hc31 : gI σ o 6 = 8
          · rw [if_pos hc31]
            unfold w_X11_advance_118
            refine i4_X11_matchUpTo iσ kth hv1 ko hv2 kt (by (first | omega | with_reducible assumption | with_reducible exact rng_toInt _ | with_reducible exact rng_wr _ | (unfold rng; omega) | (unfold rng at *; omega) | assumption)) hj kJ (by (first | omega | with_reducible assumption | with_reducible exact rng_toInt _ | with_reducible exact rng_wr _ | (unfold rng; omega) | (unfold rng at *; omega) | assumption)) (by (first | omega | with_reducible assumption | with_reducible exact rng_toInt _ | with_reducible exact rng_wr _ | (unfold rng; omega) | (unfold rng at *; omega) | assumption)) (by (first | omega | with_reducible assumption | with_reducible exact rng_toInt _ | with_reducible exact rng_wr _ | (unfold rng; omega) | (unfold rng at *; omega) | assumption)) (ok.2.2.2.1 (by omega)) (by (first | omega | with_reducible assumption | with_reducible exact rng_toInt _ | with_reducible exact rng_wr _ | (unfold rng; omega) | (unfold rng at *; omega) | assumption)) (by (first | omega | with_reducible assumption | with_reducible exact rng_toInt _ | with_reducible exact rng_wr _ | (unfold rng; omega) | (unfold rng at *; omega) | assumption)) (by (first | omega | with_reducible assumption | with_reducible exact rng_toInt _ | with_reducible exact rng_wr _ | (unfold rng; omega) | (unfold rng at *; omega) | assumption)) (fun σ16 LLσ16 Nσ16 nuσ16 _ iσ16 cσ16 uσ16 hσ16 pσ16 => ?_) (fun σx LLx Nx nux E ix cx ux px => hX σx LLx Nx nux E ix (fσ.tr (cx.mo (by decide))) (ux) (by first | exact px | exact ⟨by have := px.1; omega, px.2.1, px.2.2⟩ | (first | omega | with_reducible assumption | with_reducible exact rng_toInt _ | with_reducible exact rng_wr _ | (unfold rng; omega) | (unfold rng at *; omega) | assumption)))
            intro xσ16
            have fσ16 : Fx [1, 2, 3, 4, 5, 6, 7, 64, 512, 513, 514, 708, 6464] gr σ σ16 := fσ.tr (cσ16.mo (by decide))
            have hnσ16 : Hn (gD σ) [44, 41, 42, 3] [] gq LL LLσ16 N Nσ16 := hnσ.go hσ16 (fun d hd => (fσ.1 d hd).1) (by first | decide | exact fun _ h => h | (simp; done) | (intro x hx; simp only [List.mem_cons, List.mem_nil_iff, or_false] at hx ⊢; omega)) (fun d hd => absurd hd (by simp))
            have nσ16_3 := hσ16.2.2 3 (by first | decide | (simp; done) | (simp only [List.mem_cons, List.mem_nil_iff, or_false, not_or]; omega)) (by first | decide | omega) (by first | decide | omega) (by first | decide | omega)
            have nσ16_5 := hσ16.2.2 5 (by first | decide | (simp; done) | (simp only [List.mem_cons, List.mem_nil_iff, or_false, not_or]; omega)) (by first | decide | omega) (by first | decide | omega) (by first | decide | omega)
            have nσ16_14 := hσ16.2.2 14 (by first | decide | (simp; done) | (simp only [List.mem_cons, List.mem_nil_iff, or_false, not_or]; omega)) (by first | decide | omega) (by first | decide | omega) (by first | decide | omega)
            have nσ16_74 := hσ16.2.2 74 (by first | decide | (simp; done) | (simp only [List.mem_cons, List.mem_nil_iff, or_false, not_or]; omega)) (by first | decide | omega) (by first | decide | omega) (by first | decide | omega)
            have nσ16_11 := hσ16.2.2 11 (by first | decide | (simp; done) | (simp only [List.mem_cons, List.mem_nil_iff, or_false, not_or]; omega)) (by first | decide | omega) (by first | decide | omega) (by first | decide | omega)
            have nσ16_12 := hσ16.2.2 12 (by first | decide | (simp; done) | (simp only [List.mem_cons, List.mem_nil_iff, or_false, not_or]; omega)) (by first | decide | omega) (by first | decide | omega) (by first | decide | omega)
            have nσ16_13 := hσ16.2.2 13 (by first | decide | (simp; done) | (simp only [List.mem_cons, List.mem_nil_iff, or_false, not_or]; omega)) (by first | decide | omega) (by first | decide | omega) (by first | decide | omega)
            have nu_σ16 : NU nu nuσ16 := uσ16
            have uσ16_0 := uσ16.1 0 (by decide)
            have uσ16_1 := uσ16.1 1 (by decide)
            have uσ16_2 := uσ16.2
            have uσ16_5 := uσ16.1 5 (by decide)
            have uσ16_15 := uσ16.1 15 (by decide)
            have uσ16_16 := uσ16.1 16 (by decide)
            have kp32 : gI σ16 o 6 = gI σ o 6 := (cσ16.O ko (by decide)).1
            have kp33 : gP σ16 th 5 = gP σ th 5 := (cσ16.O kth (by decide)).2.1
            have kp34 : gI σ16 t 0 = gI σ t 0 := (cσ16.O kt (by decide)).1
            unfold w_X11_advance_148
            exact hQ σ16 LLσ16 Nσ16 nuσ16 () iσ16 fσ16 (nu_σ16) hnσ16 (by (first | omega | with_reducible assumption | with_reducible exact rng_toInt _ | with_reducible exact rng_wr _ | (unfold rng; omega) | (unfold rng at *; omega) | assumption))
          · rw [if_neg hc31]
            by_cases hc35 : gI σ o 6 = 9
            · rw [if_pos hc35]
              unfold w_X11_advance_128
              refine i4_X11_uniqueUpTo iσ kth hv1 ko hv2 kt (by (first | omega | with_reducible assumption | with_reducible exact rng_toInt _ | with_reducible exact rng_wr _ | (unfold rng; omega) | (unfold rng at *; omega) | assumption)) hj kJ (by (first | omega | with_reducible assumption | with_reducible exact rng_toInt _ | with_reducible exact rng_wr _ | (unfold rng; omega) | (unfold rng at *; omega) | assumption)) (by (first | omega | with_reducible assumption | with_reducible exact rng_toInt _ | with_reducible exact rng_wr _ | (unfold rng; omega) | (unfold rng at *; omega) | assumption)) (by (first | omega | with_reducible assumption | with_reducible exact rng_toInt _ | with_reducible exact rng_wr _ | (unfold rng; omega) | (unfold rng at *; omega) | assumption)) (ok.2.2.2.1 (by omega)) (by (first | omega | with_reducible assumption | with_reducible exact rng_toInt _ | with_reducible exact rng_wr _ | (unfold rng; omega) | (unfold rng at *; omega) | assumption)) (by (first | omega | with_reducible assumption | with_reducible exact rng_toInt _ | with_reducible exact rng_wr _ | (unfold rng; omega) | (unfold rng at *; omega) | assumption)) (by (first | omega | with_reducible assumption | with_reducible exact rng_toInt _ | with_reducible exact rng_wr _ | (unfold rng; omega) | (unfold rng at *; omega) | assumption)) (fun σ15 LLσ15 Nσ15 nuσ15 _ iσ15 cσ15 uσ15 hσ15 pσ15 => ?_) (fun σx LLx Nx nux E ix cx ux px => hX σx LLx Nx nux E ix (fσ.tr (cx.mo (by decide))) (ux) (by first | exact px | exact ⟨by have := px.1; omega, px.2.1, px.2.2⟩ | (first | omega | with_reducible assumption | with_reducible exact rng_toInt _ | with_reducible exact rng_wr _ | (unfold rng; omega) | (unfold rng at *; omega) | assumption)))
              intro xσ15
              have fσ15 : Fx [1, 2, 3, 4, 5, 6, 7, 64, 512, 513, 514, 708, 6464] gr σ σ15 := fσ.tr (cσ15.mo (by decide))
              have hnσ15 : Hn (gD σ) [44, 41, 42, 3] [] gq LL LLσ15 N Nσ15 := hnσ.go hσ15 (fun d hd => (fσ.1 d hd).1) (by first | decide | exact fun _ h => h | (simp; done) | (intro x hx; simp only [List.mem_cons, List.mem_nil_iff, or_false] at hx ⊢; omega)) (fun d hd => absurd hd (by simp))
              have nσ15_3 := hσ15.2.2 3 (by first | decide | (simp; done) | (simp only [List.mem_cons, List.mem_nil_iff, or_false, not_or]; omega)) (by first | decide | omega) (by first | decide | omega) (by first | decide | omega)
              have nσ15_5 := hσ15.2.2 5 (by first | decide | (simp; done) | (simp only [List.mem_cons, List.mem_nil_iff, or_false, not_or]; omega)) (by first | decide | omega) (by first | decide | omega) (by first | decide | omega)
              have nσ15_14 := hσ15.2.2 14 (by first | decide | (simp; done) | (simp only [List.mem_cons, List.mem_nil_iff, or_false, not_or]; omega)) (by first | decide | omega) (by first | decide | omega) (by first | decide | omega)
              have nσ15_74 := hσ15.2.2 74 (by first | decide | (simp; done) | (simp only [List.mem_cons, List.mem_nil_iff, or_false, not_or]; omega)) (by first | decide | omega) (by first | decide | omega) (by first | decide | omega)
              have nσ15_11 := hσ15.2.2 11 (by first | decide | (simp; done) | (simp only [List.mem_cons, List.mem_nil_iff, or_false, not_or]; omega)) (by first | decide | omega) (by first | decide | omega) (by first | decide | omega)
              have nσ15_12 := hσ15.2.2 12 (by first | decide | (simp; done) | (simp only [List.mem_cons, List.mem_nil_iff, or_false, not_or]; omega)) (by first | decide | omega) (by first | decide | omega) (by first | decide | omega)
              have nσ15_13 := hσ15.2.2 13 (by first | decide | (simp; done) | (simp only [List.mem_cons, List.mem_nil_iff, or_false, not_or]; omega)) (by first | decide | omega) (by first | decide | omega) (by first | decide | omega)
              have nu_σ15 : NU nu nuσ15 := uσ15
              have uσ15_0 := uσ15.1 0 (by decide)
              have uσ15_1 := uσ15.1 1 (by decide)
              have uσ15_2 := uσ15.2
              have uσ15_5 := uσ15.1 5 (by decide)
              have uσ15_15 := uσ15.1 15 (by decide)
              have uσ15_16 := uσ15.1 16 (by decide)
              have kp36 : gI σ15 o 6 = gI σ o 6 := (cσ15.O ko (by decide)).1
              have kp37 : gP σ15 th 5 = gP σ th 5 := (cσ15.O kth (by decide)).2.1
              have kp38 : gI σ15 t 0 = gI σ t 0 := (cσ15.O kt (by decide)).1
              unfold w_X11_advance_148
              exact hQ σ15 LLσ15 Nσ15 nuσ15 () iσ15 fσ15 (nu_σ15) hnσ15 (by (first | omega | with_reducible assumption | with_reducible exact rng_toInt _ | with_reducible exact rng_wr _ | (unfold rng; omega) | (unfold rng at *; omega) | assumption))
            · rw [if_neg hc35]
              by_cases hc39 : gI σ o 6 = 10
              · rw [if_pos hc39]
                unfold w_X11_advance_138
                refine i4_X11_topUpTo iσ kth hv1 ko hv2 kt (by (first | omega | with_reducible assumption | with_reducible exact rng_toInt _ | with_reducible exact rng_wr _ | (unfold rng; omega) | (unfold rng at *; omega) | assumption)) hj kJ (by (first | omega | with_reducible assumption | with_reducible exact rng_toInt _ | with_reducible exact rng_wr _ | (unfold rng; omega) | (unfold rng at *; omega) | assumption)) (by (first | omega | with_reducible assumption | with_reducible exact rng_toInt _ | with_reducible exact rng_wr _ | (unfold rng; omega) | (unfold rng at *; omega) | assumption)) (by (first | omega | with_reducible assumption | with_reducible exact rng_toInt _ | with_reducible exact rng_wr _ | (unfold rng; omega) | (unfold rng at *; omega) | assumption)) (by omega) (by (first | omega | with_reducible assumption | with_reducible exact rng_toInt _ | with_reducible exact rng_wr _ | (unfold rng; omega) | (unfold rng at *; omega) | assumption)) (fun σ14 LLσ14 Nσ14 nuσ14 _ iσ14 cσ14 uσ14 hσ14 pσ14 => ?_)
                intro xσ14
                have fσ14 : Fx [1, 2, 3, 4, 5, 6, 7, 64, 512, 513, 514, 708, 6464] gr σ σ14 := fσ.tr (cσ14.mo (by decide))
                have hnσ14 : Hn (gD σ) [44, 41, 42, 3] [] gq LL LLσ14 N Nσ14 := hnσ.go hσ14 (fun d hd => (fσ.1 d hd).1) (by first | decide | exact fun _ h => h | (simp; done) | (intro x hx; simp only [List.mem_cons, List.mem_nil_iff, or_false] at hx ⊢; omega)) (fun d hd => absurd hd (by simp))
                have nσ14_3 := hσ14.2.2 3 (by first | decide | (simp; done) | (simp only [List.mem_cons, List.mem_nil_iff, or_false, not_or]; omega)) (by first | decide | omega) (by first | decide | omega) (by first | decide | omega)
                have nσ14_5 := hσ14.2.2 5 (by first | decide | (simp; done) | (simp only [List.mem_cons, List.mem_nil_iff, or_false, not_or]; omega)) (by first | decide | omega) (by first | decide | omega) (by first | decide | omega)
                have nσ14_14 := hσ14.2.2 14 (by first | decide | (simp; done) | (simp only [List.mem_cons, List.mem_nil_iff, or_false, not_or]; omega)) (by first | decide | omega) (by first | decide | omega) (by first | decide | omega)
                have nσ14_74 := hσ14.2.2 74 (by first | decide | (simp; done) | (simp only [List.mem_cons, List.mem_nil_iff, or_false, not_or]; omega)) (by first | decide | omega) (by first | decide | omega) (by first | decide | omega)
                have nσ14_11 := hσ14.2.2 11 (by first | decide | (simp; done) | (simp only [List.mem_cons, List.mem_nil_iff, or_false, not_or]; omega)) (by first | decide | omega) (by first | decide | omega) (by first | decide | omega)
                have nσ14_12 := hσ14.2.2 12 (by first | decide | (simp; done) | (simp only [List.mem_cons, List.mem_nil_iff, or_false, not_or]; omega)) (by first | decide | omega) (by first | decide | omega) (by first | decide | omega)
                have nσ14_42 := hσ14.2.2 42 (by first | decide | (simp; done) | (simp only [List.mem_cons, List.mem_nil_iff, or_false, not_or]; omega)) (by first | decide | omega) (by first | decide | omega) (by first | decide | omega)
                have nσ14_13 := hσ14.2.2 13 (by first | decide | (simp; done) | (simp only [List.mem_cons, List.mem_nil_iff, or_false, not_or]; omega)) (by first | decide | omega) (by first | decide | omega) (by first | decide | omega)
                have nu_σ14 : NU nu nuσ14 := uσ14
                have uσ14_0 := uσ14.1 0 (by decide)
                have uσ14_1 := uσ14.1 1 (by decide)
                have uσ14_2 := uσ14.2
                have uσ14_5 := uσ14.1 5 (by decide)
                have uσ14_15 := uσ14.1 15 (by decide)
                have uσ14_16 := uσ14.1 16 (by decide)
                have kp40 : gI σ14 o 6 = gI σ o 6 := (cσ14.O ko (by decide)).1
                have kp41 : gP σ14 th 5 = gP σ th 5 := (cσ14.O kth (by decide)).2.1
                have kp42 : gI σ14 t 0 = gI σ t 0 := (cσ14.O kt (by decide)).1
                unfold w_X11_advance_148
                exact hQ σ14 LLσ14 Nσ14 nuσ14 () iσ14 fσ14 (nu_σ14) hnσ14 (by (first | omega | with_reducible assumption | with_reducible exact rng_toInt _ | with_reducible exact rng_wr _ | (unfold rng; omega) | (unfold rng at *; omega) | assumption))
              · rw [if_neg hc39]
                unfold w_X11_advance_148
                exact hQ σ LL N nu () iσ fσ (NU.rf) hnσ (by (first | omega | with_reducible assumption | with_reducible exact rng_toInt _ | with_reducible exact rng_wr _ | (unfold rng; omega) | (unfold rng at *; omega) | assumption))

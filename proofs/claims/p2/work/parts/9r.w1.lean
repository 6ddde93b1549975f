set_option maxHeartbeats 1000000 in
theorem i1_X11_countRecord {σ : Sg} {pl : Nat} {gq ci gr nc : Nat → Nat} {ot : Nat → Nat → Int} {LL : Nat → List Nat} {N nu : Nat → Nat} {th : Nat} (iσ : IV σ pl gq ci gr nc ot LL N nu) (kth : kO σ th 11) (hq : gq th = 1) (h5 : nu 5 < 24000) {Q : Sg → Unit → Prop} {X : Sg → String → Prop} (hQ : ∀ (σ' : Sg) (r : Unit), IV σ' pl gq ci gr nc ot LL N nu → Fx [708] gr σ σ' → (gI σ' th 4 = gI σ th 4 + 1) → Q σ' r) (hX : ∀ (σ' : Sg) (LL' : Nat → List Nat) (N' nu' : Nat → Nat) (E : String), IV σ' pl gq ci gr nc ot LL' N' nu' → Fx [708] gr σ σ' → NX nu nu' → ((N' 1 ≤ N 1 + 0 ∧ N' 5 = N 5 ∧ N' 3 = N 3 ∧ N' 14 = N 14 ∧ N' 44 = N 44 ∧ N' 74 = N 74) ∧ NZ N N' ∧ E = "java/lang/IllegalStateException") → X σ' E) : wp_X11_countRecord th σ Q X := by
  have fσ : Fx [708] gr σ σ := Fx.rf
  have q8 := I_11_1 iσ.1 kth
  unfold wp_X11_countRecord
  unfold w_X11_countRecord_0
  have q2 := I_11_4 iσ.1 kth
  have q3 := I_11_1 iσ.1 kth
  by_cases hc1 : gI σ th 4 < gI σ th 1
  · rw [if_pos hc1]
    unfold w_X11_countRecord_19
    refine ⟨by (first | omega | with_reducible assumption | with_reducible exact rng_toInt _ | with_reducible exact rng_wr _ | (unfold rng; omega) | (unfold rng at *; omega) | assumption), ?_⟩
    intro σ2 eσ2
    have xσ2 : Ext σ σ2 := by rw [eσ2]; exact fun _ h => ⟨h, rfl, rfl⟩
    have iσ2 : IV σ2 pl gq ci gr nc ot LL N nu := by rw [eσ2]; exact iσ.rec1 kth (by omega) (by have := iσ.recs1 kth (by omega); omega) (by omega)
    have fσ2 : Fx [708] gr σ σ2 := fσ.tr (Sk.fx (by rw [eσ2]; exact Sk.pI (by rw [fcdO kth (by decide)]; decide)))
    have wσ2 : gI σ2 th 4 = (gI σ th 4 + 1) := by rw [eσ2]; exact up2_s _ _ _ _
    have kp4 : gI σ2 th 1 = gI σ th 1 := by rw [eσ2]; exact up2_n _ _ (fun q => absurd q.2 (by decide))
    exact hQ σ2 () iσ2 fσ2 (by (first | omega | with_reducible assumption | with_reducible exact rng_toInt _ | with_reducible exact rng_wr _ | (unfold rng; omega) | (unfold rng at *; omega) | assumption))
  · rw [if_neg hc1]
    unfold w_X11_countRecord_11
    refine ⟨iσ.room, ?_⟩
    exact hX _ _ _ _ _ (iσ.bump (by (first | omega | with_reducible assumption | with_reducible exact rng_toInt _ | with_reducible exact rng_wr _ | (unfold rng; omega) | (unfold rng at *; omega) | assumption))) (fσ.tr Fx.bump) (NX.bump) (⟨⟨Nat.le_refl _, rfl, rfl, rfl, rfl, rfl⟩, NZ.rf, rfl⟩)
set_option maxHeartbeats 1000000 in
theorem i1_X11_putAside {σ : Sg} {pl : Nat} {gq ci gr nc : Nat → Nat} {ot : Nat → Nat → Int} {LL : Nat → List Nat} {N nu : Nat → Nat} {th : Nat} {v1 : Option Nat} {v2 : Option Nat} (iσ : IV σ pl gq ci gr nc ot LL N nu) (kth : kO σ th 11) {t : Nat} (hv1 : v1 = some t) (kt : kO σ t 10) {c : Nat} (hv2 : v2 = some c) (kc : kO σ c 0) (hq : gq th = 1) (hf : ∀ x, c ∉ LL x) (h1 : 1 ≤ N 1) {Q : Sg → Unit → Prop} {X : Sg → String → Prop} (hQ : ∀ (σ' : Sg) (LL' : Nat → List Nat) (N' nu' : Nat → Nat) (r : Unit), IV σ' pl gq ci gr nc ot LL' N' nu' → Fx [1, 64, 512, 645] gr σ σ' → NU nu nu' → Hn (gD σ) [] [c] gq LL LL' N N' → (N' 1 + 1 = N 1) → Q σ' r) : wp_X11_putAside th v1 v2 σ Q X := by
  have fσ : Fx [1, 64, 512, 645] gr σ σ := Fx.rf
  have hnσ : Hn (gD σ) [] [c] gq LL LL N N := Hn.rf
  have lo_c : Lo [c] (gD σ) LL c := Or.inl (by simp)
  unfold wp_X11_putAside
  unfold w_X11_putAside_0
  refine ⟨t, hv1, fun kk_t => ?_⟩
  intro σ6 eσ6
  have xσ6 : Ext σ σ6 := by rw [eσ6]; exact fun _ h => ⟨h, rfl, rfl⟩
  have q1 := iσ.rg t 5; unfold rng at q1
  have iσ6 : IV σ6 pl gq ci gr nc ot LL N nu := by rw [eσ6]; exact iσ.wO kt (by decide) (rngb (by first | exact rng_wr _ | (first | omega | with_reducible assumption | with_reducible exact rng_toInt _ | with_reducible exact rng_wr _ | (unfold rng; omega) | (unfold rng at *; omega) | assumption)))
  have fσ6 : Fx [1, 64, 512, 645] gr σ σ6 := fσ.tr (Sk.fx (by rw [eσ6]; exact Sk.pI (by rw [fcdO kt (by decide)]; decide)))
  have wσ6 : gI σ6 t 5 = (wr (gI σ t 5 + 1)) := by rw [eσ6]; exact up2_s _ _ _ _
  obtain ⟨b, eb⟩ := P_11_0 iσ6.1 (kth.up xσ6)
  refine ⟨b, eb, fun kk_b => ?_⟩
  refine i_X8_release iσ6 kk_b hv2 (kc.up xσ6) (by (first | omega | with_reducible assumption | with_reducible exact rng_toInt _ | with_reducible exact rng_wr _ | (unfold rng; omega) | (unfold rng at *; omega) | assumption)) (by (first | omega | with_reducible assumption | with_reducible exact rng_toInt _ | with_reducible exact rng_wr _ | (unfold rng; omega) | (unfold rng at *; omega) | assumption)) (fun σ7 LLσ7 Nσ7 nuσ7 _ iσ7 cσ7 uσ7 hσ7 pσ7 => ?_)
  intro xσ7
  have fσ7 : Fx [1, 64, 512, 645] gr σ σ7 := fσ6.tr (cσ7.mo (by decide))
  have hnσ7 : Hn (gD σ) [] [c] gq LL LLσ7 N Nσ7 := hnσ.go hσ7 (fun d hd => (fσ6.1 d hd).1) (by first | decide | exact fun _ h => h | (simp; done) | (intro x hx; simp only [List.mem_cons, List.mem_nil_iff, or_false] at hx ⊢; omega)) (fun d hd => by rw [List.mem_singleton.mp hd]; exact lo_c)
  have nσ7_3 := hσ7.2.2 3 (by first | decide | (simp; done) | (simp only [List.mem_cons, List.mem_nil_iff, or_false, not_or]; omega)) (by first | decide | omega) (by first | decide | omega) (by first | decide | omega)
  have nσ7_5 := hσ7.2.2 5 (by first | decide | (simp; done) | (simp only [List.mem_cons, List.mem_nil_iff, or_false, not_or]; omega)) (by first | decide | omega) (by first | decide | omega) (by first | decide | omega)
  have nσ7_14 := hσ7.2.2 14 (by first | decide | (simp; done) | (simp only [List.mem_cons, List.mem_nil_iff, or_false, not_or]; omega)) (by first | decide | omega) (by first | decide | omega) (by first | decide | omega)
  have nσ7_44 := hσ7.2.2 44 (by first | decide | (simp; done) | (simp only [List.mem_cons, List.mem_nil_iff, or_false, not_or]; omega)) (by first | decide | omega) (by first | decide | omega) (by first | decide | omega)
  have nσ7_74 := hσ7.2.2 74 (by first | decide | (simp; done) | (simp only [List.mem_cons, List.mem_nil_iff, or_false, not_or]; omega)) (by first | decide | omega) (by first | decide | omega) (by first | decide | omega)
  have nσ7_11 := hσ7.2.2 11 (by first | decide | (simp; done) | (simp only [List.mem_cons, List.mem_nil_iff, or_false, not_or]; omega)) (by first | decide | omega) (by first | decide | omega) (by first | decide | omega)
  have nσ7_12 := hσ7.2.2 12 (by first | decide | (simp; done) | (simp only [List.mem_cons, List.mem_nil_iff, or_false, not_or]; omega)) (by first | decide | omega) (by first | decide | omega) (by first | decide | omega)
  have nσ7_41 := hσ7.2.2 41 (by first | decide | (simp; done) | (simp only [List.mem_cons, List.mem_nil_iff, or_false, not_or]; omega)) (by first | decide | omega) (by first | decide | omega) (by first | decide | omega)
  have nσ7_42 := hσ7.2.2 42 (by first | decide | (simp; done) | (simp only [List.mem_cons, List.mem_nil_iff, or_false, not_or]; omega)) (by first | decide | omega) (by first | decide | omega) (by first | decide | omega)
  have nσ7_13 := hσ7.2.2 13 (by first | decide | (simp; done) | (simp only [List.mem_cons, List.mem_nil_iff, or_false, not_or]; omega)) (by first | decide | omega) (by first | decide | omega) (by first | decide | omega)
  have nu_σ7 : NU nu nuσ7 := uσ7
  have uσ7_0 := uσ7.1 0 (by decide)
  have uσ7_1 := uσ7.1 1 (by decide)
  have uσ7_2 := uσ7.2
  have uσ7_5 := uσ7.1 5 (by decide)
  have uσ7_15 := uσ7.1 15 (by decide)
  have uσ7_16 := uσ7.1 16 (by decide)
  have kp2 : gI σ7 t 5 = gI σ6 t 5 := (cσ7.O (kt.up xσ6) (by decide)).1
  have kp3 : gP σ7 th 0 = gP σ6 th 0 := (cσ7.O (kth.up xσ6) (by decide)).2.1
  exact hQ σ7 LLσ7 Nσ7 nuσ7 () iσ7 fσ7 (nu_σ7) hnσ7 (by (first | omega | with_reducible assumption | with_reducible exact rng_toInt _ | with_reducible exact rng_wr _ | (unfold rng; omega) | (unfold rng at *; omega) | assumption))
set_option maxHeartbeats 1000000 in
theorem i1_X11_filterRow {σ : Sg} {pl : Nat} {gq ci gr nc : Nat → Nat} {ot : Nat → Nat → Int} {LL : Nat → List Nat} {N nu : Nat → Nat} {th : Nat} {v1 : Option Nat} {v2 : Option Nat} {v3 : Option Nat} {J : Nat} (iσ : IV σ pl gq ci gr nc ot LL N nu) (kth : kO σ th 11) {o : Nat} (hv1 : v1 = some o) (ko : kO σ o 5) {t : Nat} (hv2 : v2 = some t) (kt : kO σ t 10) {c : Nat} (hv3 : v3 = some c) (kc : kO σ c 0) (hq : gq th = 1) (hf : ∀ x, c ∉ LL x) (h1 : 1 ≤ N 1) (hj : gP σ th 5 = some J) (kJ : kO σ J 4) (hJ : gq J = nc 0) {Q : Sg → Unit → Prop} {X : Sg → String → Prop} (hQ : ∀ (σ' : Sg) (LL' : Nat → List Nat) (N' nu' : Nat → Nat) (r : Unit), IV σ' pl gq ci gr nc ot LL' N' nu' → Fx [1, 64, 265, 266, 512, 645, 6464] gr σ σ' → NU nu nu' → Hn (gD σ) [14] [c] gq LL LL' N N' → (N' 1 + 1 = N 1 ∧ N' 14 ≤ N 14 + 1) → Q σ' r) : wp_X11_filterRow th v1 v2 v3 σ Q X := by
  have fσ : Fx [1, 64, 265, 266, 512, 645, 6464] gr σ σ := Fx.rf
  have hnσ : Hn (gD σ) [14] [c] gq LL LL N N := Hn.rf
  have lo_c : Lo [c] (gD σ) LL c := Or.inl (by simp)
  unfold wp_X11_filterRow
  unfold w_X11_filterRow_0
  refine ⟨o, hv1, fun kk_o => ?_⟩
  obtain ⟨b, eb, fb⟩ := P_5_1 iσ.1 ko
  have mb : kO σ b 100 := iσ.1.kd ko rfl eb rfl
  refine ⟨b, eb, fun kk_b => ?_⟩
  refine ⟨⟨by (first | omega | with_reducible assumption | with_reducible exact rng_toInt _ | with_reducible exact rng_wr _ | (unfold rng; omega) | (unfold rng at *; omega) | assumption), by (first | omega | with_reducible assumption | with_reducible exact rng_toInt _ | with_reducible exact rng_wr _ | (unfold rng; omega) | (unfold rng at *; omega) | assumption)⟩, ?_⟩
  refine ⟨J, hj, fun kk_J => ?_⟩
  have q1 := iσ.rg b 0; unfold rng at q1
  refine i_X4_value iσ kJ hv3 kc (fun σ14 r15 iσ14 cσ14 pσ14 => ?_)
  intro xσ14
  have fσ14 : Fx [1, 64, 265, 266, 512, 645, 6464] gr σ σ14 := fσ.tr (cσ14.mo (by decide))
  have kp2 : gP σ14 o 1 = gP σ o 1 := (cσ14.O ko (by decide)).2.1
  have kp3 : gP σ14 th 5 = gP σ th 5 := (cσ14.O kth (by decide)).2.1
  refine ⟨J, (kp3.trans hj), fun kk_J_1 => ?_⟩
  have q5 := I_4_10 iσ14.1 (kJ.up xσ14)
  by_cases hc4 : gI σ14 J 10 = 0
  · rw [if_pos hc4]
    unfold w_X11_filterRow_35
    by_cases hc6 : r15 = 0
    · rw [if_pos hc6]
      unfold w_X11_filterRow_53
      obtain ⟨b_1, eb_1⟩ := P_11_0 iσ14.1 (kth.up xσ14)
      refine ⟨b_1, eb_1, fun kk_b_1 => ?_⟩
      refine i_X8_release iσ14 kk_b_1 hv3 (kc.up xσ14) (by (first | omega | with_reducible assumption | with_reducible exact rng_toInt _ | with_reducible exact rng_wr _ | (unfold rng; omega) | (unfold rng at *; omega) | assumption)) (by (first | omega | with_reducible assumption | with_reducible exact rng_toInt _ | with_reducible exact rng_wr _ | (unfold rng; omega) | (unfold rng at *; omega) | assumption)) (fun σ21 LLσ21 Nσ21 nuσ21 _ iσ21 cσ21 uσ21 hσ21 pσ21 => ?_)
      intro xσ21
      have fσ21 : Fx [1, 64, 265, 266, 512, 645, 6464] gr σ σ21 := fσ14.tr (cσ21.mo (by decide))
      have hnσ21 : Hn (gD σ) [14] [c] gq LL LLσ21 N Nσ21 := hnσ.go hσ21 (fun d hd => (fσ14.1 d hd).1) (by first | decide | exact fun _ h => h | (simp; done) | (intro x hx; simp only [List.mem_cons, List.mem_nil_iff, or_false] at hx ⊢; omega)) (fun d hd => by rw [List.mem_singleton.mp hd]; exact lo_c)
      have nσ21_3 := hσ21.2.2 3 (by first | decide | (simp; done) | (simp only [List.mem_cons, List.mem_nil_iff, or_false, not_or]; omega)) (by first | decide | omega) (by first | decide | omega) (by first | decide | omega)
      have nσ21_5 := hσ21.2.2 5 (by first | decide | (simp; done) | (simp only [List.mem_cons, List.mem_nil_iff, or_false, not_or]; omega)) (by first | decide | omega) (by first | decide | omega) (by first | decide | omega)
      have nσ21_14 := hσ21.2.2 14 (by first | decide | (simp; done) | (simp only [List.mem_cons, List.mem_nil_iff, or_false, not_or]; omega)) (by first | decide | omega) (by first | decide | omega) (by first | decide | omega)
      have nσ21_44 := hσ21.2.2 44 (by first | decide | (simp; done) | (simp only [List.mem_cons, List.mem_nil_iff, or_false, not_or]; omega)) (by first | decide | omega) (by first | decide | omega) (by first | decide | omega)
      have nσ21_74 := hσ21.2.2 74 (by first | decide | (simp; done) | (simp only [List.mem_cons, List.mem_nil_iff, or_false, not_or]; omega)) (by first | decide | omega) (by first | decide | omega) (by first | decide | omega)
      have nσ21_11 := hσ21.2.2 11 (by first | decide | (simp; done) | (simp only [List.mem_cons, List.mem_nil_iff, or_false, not_or]; omega)) (by first | decide | omega) (by first | decide | omega) (by first | decide | omega)
      have nσ21_12 := hσ21.2.2 12 (by first | decide | (simp; done) | (simp only [List.mem_cons, List.mem_nil_iff, or_false, not_or]; omega)) (by first | decide | omega) (by first | decide | omega) (by first | decide | omega)
      have nσ21_41 := hσ21.2.2 41 (by first | decide | (simp; done) | (simp only [List.mem_cons, List.mem_nil_iff, or_false, not_or]; omega)) (by first | decide | omega) (by first | decide | omega) (by first | decide | omega)
      have nσ21_42 := hσ21.2.2 42 (by first | decide | (simp; done) | (simp only [List.mem_cons, List.mem_nil_iff, or_false, not_or]; omega)) (by first | decide | omega) (by first | decide | omega) (by first | decide | omega)
      have nσ21_13 := hσ21.2.2 13 (by first | decide | (simp; done) | (simp only [List.mem_cons, List.mem_nil_iff, or_false, not_or]; omega)) (by first | decide | omega) (by first | decide | omega) (by first | decide | omega)
      have nu_σ21 : NU nu nuσ21 := uσ21
      have uσ21_0 := uσ21.1 0 (by decide)
      have uσ21_1 := uσ21.1 1 (by decide)
      have uσ21_2 := uσ21.2
      have uσ21_5 := uσ21.1 5 (by decide)
      have uσ21_15 := uσ21.1 15 (by decide)
      have uσ21_16 := uσ21.1 16 (by decide)
      have kp7 : gI σ21 J 10 = gI σ14 J 10 := (cσ21.O (kJ.up xσ14) (by decide)).1
      have kp8 : gP σ21 o 1 = gP σ14 o 1 := (cσ21.O (ko.up xσ14) (by decide)).2.1
      have kp9 : gP σ21 th 0 = gP σ14 th 0 := (cσ21.O (kth.up xσ14) (by decide)).2.1
      have kp10 : gP σ21 th 5 = gP σ14 th 5 := (cσ21.O (kth.up xσ14) (by decide)).2.1
      unfold w_X11_filterRow_61
      exact hQ σ21 LLσ21 Nσ21 nuσ21 () iσ21 fσ21 (nu_σ21) hnσ21 (by (first | omega | with_reducible assumption | with_reducible exact rng_toInt _ | with_reducible exact rng_wr _ | (unfold rng; omega) | (unfold rng at *; omega) | assumption))
    · rw [if_neg hc6]
      unfold w_X11_filterRow_42
      obtain ⟨b_2, eb_2, fb_2⟩ := P_11_2 iσ14.1 (kth.up xσ14)
      have mb_2 : kO σ14 b_2 1 := iσ14.1.kd (kth.up xσ14) rfl eb_2 rfl
      refine ⟨b_2, eb_2, fun kk_b_2 => ?_⟩
      refine i_X1_add (G0 := 14) iσ14 mb_2 hv3 (kc.up xσ14) (by omega) (by (first | omega | with_reducible assumption | with_reducible exact rng_toInt _ | with_reducible exact rng_wr _ | (unfold rng; omega) | (unfold rng at *; omega) | assumption)) (by (first | omega | with_reducible assumption | with_reducible exact rng_toInt _ | with_reducible exact rng_wr _ | (unfold rng; omega) | (unfold rng at *; omega) | assumption)) (plc_y (G := 14) (by omega) (by decide)) (no50 (by decide)) (no13 (by decide)) (fun N9 n1 _ => iσ14.2.2.1.made (by decide) n1) (fun σ19 LLσ19 Nσ19 nuσ19 _ iσ19 cσ19 uσ19 hσ19 pσ19 => ?_)
      intro xσ19
      have fσ19 : Fx [1, 64, 265, 266, 512, 645, 6464] gr σ σ19 := fσ14.tr (cσ19.mo (by decide))
      have hnσ19 : Hn (gD σ) [14] [c] gq LL LLσ19 N Nσ19 := hnσ.go hσ19 (fun d hd => (fσ14.1 d hd).1) (by first | decide | exact fun _ h => h | (simp; done) | (intro x hx; simp only [List.mem_cons, List.mem_nil_iff, or_false] at hx ⊢; omega)) (fun d hd => by rw [List.mem_singleton.mp hd]; exact lo_c)
      have nσ19_3 := hσ19.2.2 3 (by first | decide | (simp; done) | (simp only [List.mem_cons, List.mem_nil_iff, or_false, not_or]; omega)) (by first | decide | omega) (by first | decide | omega) (by first | decide | omega)
      have nσ19_5 := hσ19.2.2 5 (by first | decide | (simp; done) | (simp only [List.mem_cons, List.mem_nil_iff, or_false, not_or]; omega)) (by first | decide | omega) (by first | decide | omega) (by first | decide | omega)
      have nσ19_44 := hσ19.2.2 44 (by first | decide | (simp; done) | (simp only [List.mem_cons, List.mem_nil_iff, or_false, not_or]; omega)) (by first | decide | omega) (by first | decide | omega) (by first | decide | omega)
      have nσ19_74 := hσ19.2.2 74 (by first | decide | (simp; done) | (simp only [List.mem_cons, List.mem_nil_iff, or_false, not_or]; omega)) (by first | decide | omega) (by first | decide | omega) (by first | decide | omega)
      have nσ19_11 := hσ19.2.2 11 (by first | decide | (simp; done) | (simp only [List.mem_cons, List.mem_nil_iff, or_false, not_or]; omega)) (by first | decide | omega) (by first | decide | omega) (by first | decide | omega)
      have nσ19_12 := hσ19.2.2 12 (by first | decide | (simp; done) | (simp only [List.mem_cons, List.mem_nil_iff, or_false, not_or]; omega)) (by first | decide | omega) (by first | decide | omega) (by first | decide | omega)
      have nσ19_41 := hσ19.2.2 41 (by first | decide | (simp; done) | (simp only [List.mem_cons, List.mem_nil_iff, or_false, not_or]; omega)) (by first | decide | omega) (by first | decide | omega) (by first | decide | omega)
      have nσ19_42 := hσ19.2.2 42 (by first | decide | (simp; done) | (simp only [List.mem_cons, List.mem_nil_iff, or_false, not_or]; omega)) (by first | decide | omega) (by first | decide | omega) (by first | decide | omega)
      have nσ19_13 := hσ19.2.2 13 (by first | decide | (simp; done) | (simp only [List.mem_cons, List.mem_nil_iff, or_false, not_or]; omega)) (by first | decide | omega) (by first | decide | omega) (by first | decide | omega)
      have nu_σ19 : NU nu nuσ19 := uσ19
      have uσ19_0 := uσ19.1 0 (by decide)
      have uσ19_1 := uσ19.1 1 (by decide)
      have uσ19_2 := uσ19.2
      have uσ19_5 := uσ19.1 5 (by decide)
      have uσ19_15 := uσ19.1 15 (by decide)
      have uσ19_16 := uσ19.1 16 (by decide)
      have kp11 : gI σ19 J 10 = gI σ14 J 10 := (cσ19.O (kJ.up xσ14) (by decide)).1
      have kp12 : gP σ19 o 1 = gP σ14 o 1 := (cσ19.O (ko.up xσ14) (by decide)).2.1
      have kp13 : gP σ19 th 2 = gP σ14 th 2 := (cσ19.O (kth.up xσ14) (by decide)).2.1
      have kp14 : gP σ19 th 5 = gP σ14 th 5 := (cσ19.O (kth.up xσ14) (by decide)).2.1
      unfold w_X11_filterRow_61
      exact hQ σ19 LLσ19 Nσ19 nuσ19 () iσ19 fσ19 (nu_σ19) hnσ19 (by (first | omega | with_reducible assumption | with_reducible exact rng_toInt _ | with_reducible exact rng_wr _ | (unfold rng; omega) | (unfold rng at *; omega) | assumption))
  · rw [if_neg hc4]
    unfold w_X11_filterRow_26
    refine i1_X11_putAside iσ14 (kth.up xσ14) hv2 (kt.up xσ14) hv3 (kc.up xσ14) (by (first | omega | with_reducible assumption | with_reducible exact rng_toInt _ | with_reducible exact rng_wr _ | (unfold rng; omega) | (unfold rng at *; omega) | assumption)) (by (first | omega | with_reducible assumption | with_reducible exact rng_toInt _ | with_reducible exact rng_wr _ | (unfold rng; omega) | (unfold rng at *; omega) | assumption)) (by (first | omega | with_reducible assumption | with_reducible exact rng_toInt _ | with_reducible exact rng_wr _ | (unfold rng; omega) | (unfold rng at *; omega) | assumption)) (fun σ18 LLσ18 Nσ18 nuσ18 _ iσ18 cσ18 uσ18 hσ18 pσ18 => ?_)
    intro xσ18
    have fσ18 : Fx [1, 64, 265, 266, 512, 645, 6464] gr σ σ18 := fσ14.tr (cσ18.mo (by decide))
    have hnσ18 : Hn (gD σ) [14] [c] gq LL LLσ18 N Nσ18 := hnσ.go hσ18 (fun d hd => (fσ14.1 d hd).1) (by first | decide | exact fun _ h => h | (simp; done) | (intro x hx; simp only [List.mem_cons, List.mem_nil_iff, or_false] at hx ⊢; omega)) (fun d hd => by rw [List.mem_singleton.mp hd]; exact lo_c)
    have nσ18_3 := hσ18.2.2 3 (by first | decide | (simp; done) | (simp only [List.mem_cons, List.mem_nil_iff, or_false, not_or]; omega)) (by first | decide | omega) (by first | decide | omega) (by first | decide | omega)
    have nσ18_5 := hσ18.2.2 5 (by first | decide | (simp; done) | (simp only [List.mem_cons, List.mem_nil_iff, or_false, not_or]; omega)) (by first | decide | omega) (by first | decide | omega) (by first | decide | omega)
    have nσ18_14 := hσ18.2.2 14 (by first | decide | (simp; done) | (simp only [List.mem_cons, List.mem_nil_iff, or_false, not_or]; omega)) (by first | decide | omega) (by first | decide | omega) (by first | decide | omega)
    have nσ18_44 := hσ18.2.2 44 (by first | decide | (simp; done) | (simp only [List.mem_cons, List.mem_nil_iff, or_false, not_or]; omega)) (by first | decide | omega) (by first | decide | omega) (by first | decide | omega)
    have nσ18_74 := hσ18.2.2 74 (by first | decide | (simp; done) | (simp only [List.mem_cons, List.mem_nil_iff, or_false, not_or]; omega)) (by first | decide | omega) (by first | decide | omega) (by first | decide | omega)
    have nσ18_11 := hσ18.2.2 11 (by first | decide | (simp; done) | (simp only [List.mem_cons, List.mem_nil_iff, or_false, not_or]; omega)) (by first | decide | omega) (by first | decide | omega) (by first | decide | omega)
    have nσ18_12 := hσ18.2.2 12 (by first | decide | (simp; done) | (simp only [List.mem_cons, List.mem_nil_iff, or_false, not_or]; omega)) (by first | decide | omega) (by first | decide | omega) (by first | decide | omega)
    have nσ18_41 := hσ18.2.2 41 (by first | decide | (simp; done) | (simp only [List.mem_cons, List.mem_nil_iff, or_false, not_or]; omega)) (by first | decide | omega) (by first | decide | omega) (by first | decide | omega)
    have nσ18_42 := hσ18.2.2 42 (by first | decide | (simp; done) | (simp only [List.mem_cons, List.mem_nil_iff, or_false, not_or]; omega)) (by first | decide | omega) (by first | decide | omega) (by first | decide | omega)
    have nσ18_13 := hσ18.2.2 13 (by first | decide | (simp; done) | (simp only [List.mem_cons, List.mem_nil_iff, or_false, not_or]; omega)) (by first | decide | omega) (by first | decide | omega) (by first | decide | omega)
    have nu_σ18 : NU nu nuσ18 := uσ18
    have uσ18_0 := uσ18.1 0 (by decide)
    have uσ18_1 := uσ18.1 1 (by decide)
    have uσ18_2 := uσ18.2
    have uσ18_5 := uσ18.1 5 (by decide)
    have uσ18_15 := uσ18.1 15 (by decide)
    have uσ18_16 := uσ18.1 16 (by decide)
    have kp15 : gI σ18 J 10 = gI σ14 J 10 := (cσ18.O (kJ.up xσ14) (by decide)).1
    have kp16 : gP σ18 o 1 = gP σ14 o 1 := (cσ18.O (ko.up xσ14) (by decide)).2.1
    have kp17 : gP σ18 th 5 = gP σ14 th 5 := (cσ18.O (kth.up xσ14) (by decide)).2.1
    unfold w_X11_filterRow_61
    exact hQ σ18 LLσ18 Nσ18 nuσ18 () iσ18 fσ18 (nu_σ18) hnσ18 (by (first | omega | with_reducible assumption | with_reducible exact rng_toInt _ | with_reducible exact rng_wr _ | (unfold rng; omega) | (unfold rng at *; omega) | assumption))
set_option maxHeartbeats 1000000 in
theorem i1_X11_mapRow {σ : Sg} {pl : Nat} {gq ci gr nc : Nat → Nat} {ot : Nat → Nat → Int} {LL : Nat → List Nat} {N nu : Nat → Nat} {th : Nat} {v1 : Option Nat} {v2 : Option Nat} {v3 : Option Nat} {J : Nat} (iσ : IV σ pl gq ci gr nc ot LL N nu) (kth : kO σ th 11) {o : Nat} (hv1 : v1 = some o) (ko : kO σ o 5) {t : Nat} (hv2 : v2 = some t) (kt : kO σ t 10) {c : Nat} (hv3 : v3 = some c) (kc : kO σ c 0) (hq : gq th = 1) (hf : ∀ x, c ∉ LL x) (h1 : 1 ≤ N 1) (hj : gP σ th 5 = some J) (kJ : kO σ J 4) (hJ : gq J = nc 0) (hb : N 14 + N 44 + N 74 + N 1 ≤ 40900) {Q : Sg → Unit → Prop} {X : Sg → String → Prop} (hQ : ∀ (σ' : Sg) (LL' : Nat → List Nat) (N' nu' : Nat → Nat) (r : Unit), IV σ' pl gq ci gr nc ot LL' N' nu' → Fx [1, 2, 3, 4, 5, 6, 7, 64, 265, 266, 512, 645, 6464] gr σ σ' → NU nu nu' → Hn (gD σ) [14] [c] gq LL LL' N N' → (N' 1 + 1 = N 1 ∧ N' 14 ≤ N 14 + 1) → Q σ' r) : wp_X11_mapRow th v1 v2 v3 σ Q X := by
  have fσ : Fx [1, 2, 3, 4, 5, 6, 7, 64, 265, 266, 512, 645, 6464] gr σ σ := Fx.rf
  have hnσ : Hn (gD σ) [14] [c] gq LL LL N N := Hn.rf
  have lo_c : Lo [c] (gD σ) LL c := Or.inl (by simp)
  unfold wp_X11_mapRow
  unfold w_X11_mapRow_0
  obtain ⟨b, eb⟩ := P_11_0 iσ.1 kth
  refine ⟨b, eb, fun kk_b => ?_⟩
  refine i_X8_fresh iσ kk_b (by (first | omega | with_reducible assumption | with_reducible exact rng_toInt _ | with_reducible exact rng_wr _ | (unfold rng; omega) | (unfold rng at *; omega) | assumption)) (fun σ25 LLσ25 Nσ25 nuσ25 c_σ25 iσ25 cσ25 uσ25 hσ25 pσ25 => ?_)
  intro xσ25
  have fσ25 : Fx [1, 2, 3, 4, 5, 6, 7, 64, 265, 266, 512, 645, 6464] gr σ σ25 := fσ.tr (cσ25.mo (by decide))
  have hnσ25 : Hn (gD σ) [14] [c] gq LL LLσ25 N Nσ25 := hnσ.go hσ25 (fun d hd => (fσ.1 d hd).1) (by first | decide | exact fun _ h => h | (simp; done) | (intro x hx; simp only [List.mem_cons, List.mem_nil_iff, or_false] at hx ⊢; omega)) (fun d hd => absurd hd (by simp))
  have ne_c_c_σ25 : c ≠ c_σ25 := pσ25.2.1 c kc hf
  have hg_c_σ25 : ∀ x, c ∉ LLσ25 x := hσ25.2.1 c kc.1 (by simp) hf
  have hf_c_σ25 : ∀ x, c_σ25 ∉ LLσ25 x := pσ25.1
  have lo_c_σ25 : Lo [c] (gD σ) LL c_σ25 := hnσ.loc (fun d hd => (fσ.1 d hd).1) pσ25.2.2.1
  have nσ25_3 := hσ25.2.2 3 (by first | decide | (simp; done) | (simp only [List.mem_cons, List.mem_nil_iff, or_false, not_or]; omega)) (by first | decide | omega) (by first | decide | omega) (by first | decide | omega)
  have nσ25_5 := hσ25.2.2 5 (by first | decide | (simp; done) | (simp only [List.mem_cons, List.mem_nil_iff, or_false, not_or]; omega)) (by first | decide | omega) (by first | decide | omega) (by first | decide | omega)
  have nσ25_14 := hσ25.2.2 14 (by first | decide | (simp; done) | (simp only [List.mem_cons, List.mem_nil_iff, or_false, not_or]; omega)) (by first | decide | omega) (by first | decide | omega) (by first | decide | omega)
  have nσ25_44 := hσ25.2.2 44 (by first | decide | (simp; done) | (simp only [List.mem_cons, List.mem_nil_iff, or_false, not_or]; omega)) (by first | decide | omega) (by first | decide | omega) (by first | decide | omega)
  have nσ25_74 := hσ25.2.2 74 (by first | decide | (simp; done) | (simp only [List.mem_cons, List.mem_nil_iff, or_false, not_or]; omega)) (by first | decide | omega) (by first | decide | omega) (by first | decide | omega)
  have nσ25_11 := hσ25.2.2 11 (by first | decide | (simp; done) | (simp only [List.mem_cons, List.mem_nil_iff, or_false, not_or]; omega)) (by first | decide | omega) (by first | decide | omega) (by first | decide | omega)
  have nσ25_12 := hσ25.2.2 12 (by first | decide | (simp; done) | (simp only [List.mem_cons, List.mem_nil_iff, or_false, not_or]; omega)) (by first | decide | omega) (by first | decide | omega) (by first | decide | omega)
  have nσ25_41 := hσ25.2.2 41 (by first | decide | (simp; done) | (simp only [List.mem_cons, List.mem_nil_iff, or_false, not_or]; omega)) (by first | decide | omega) (by first | decide | omega) (by first | decide | omega)
  have nσ25_42 := hσ25.2.2 42 (by first | decide | (simp; done) | (simp only [List.mem_cons, List.mem_nil_iff, or_false, not_or]; omega)) (by first | decide | omega) (by first | decide | omega) (by first | decide | omega)
  have nσ25_13 := hσ25.2.2 13 (by first | decide | (simp; done) | (simp only [List.mem_cons, List.mem_nil_iff, or_false, not_or]; omega)) (by first | decide | omega) (by first | decide | omega) (by first | decide | omega)
  have nu_σ25 : NU nu nuσ25 := uσ25
  have uσ25_0 := uσ25.1 0 (by decide)
  have uσ25_1 := uσ25.1 1 (by decide)
  have uσ25_2 := uσ25.2
  have uσ25_5 := uσ25.1 5 (by decide)
  have uσ25_15 := uσ25.1 15 (by decide)
  have uσ25_16 := uσ25.1 16 (by decide)
  have kp1 : gP σ25 th 0 = gP σ th 0 := (cσ25.O kth (by decide)).2.1
  have kp2 : gP σ25 th 5 = gP σ th 5 := (cσ25.O kth (by decide)).2.1
  intro tyt
  have krc_σ25 : kO σ25 c_σ25 0 := tyt c_σ25 rfl
  refine ⟨c, hv3, fun kk_c => ?_⟩
  refine ⟨c_σ25, rfl, fun kk_c_σ25 => ?_⟩
  intro σ30 eσ30
  have xσ30 : Ext σ25 σ30 := by rw [eσ30]; exact fun _ h => ⟨h, rfl, rfl⟩
  have iσ30 : IV σ30 pl gq ci gr nc ot LLσ25 Nσ25 nuσ25 := by rw [eσ30]; exact iσ25.wT krc_σ25 (by decide) (iσ25.t5 (kc.up xσ25))
  have fσ30 : Fx [1, 2, 3, 4, 5, 6, 7, 64, 265, 266, 512, 645, 6464] gr σ σ30 := fσ25.tr (Sk.fx (by rw [eσ30]; exact Sk.pJ (by rw [fcdO krc_σ25 (by decide)]; decide)))
  have kp3 : gP σ30 th 0 = gP σ25 th 0 := by rw [eσ30]
  have kp4 : gP σ30 th 5 = gP σ25 th 5 := by rw [eσ30]
  intro σ31 eσ31
  have xσ31 : Ext σ30 σ31 := by rw [eσ31]; exact fun _ h => ⟨h, rfl, rfl⟩
  have q5 := I_0_4 iσ30.1 (kc.up (xσ25.trans xσ30))
  have iσ31 : IV σ31 pl gq ci gr nc ot LLσ25 Nσ25 nuσ25 := by rw [eσ31]; exact iσ30.wO (krc_σ25.up xσ30) (by decide) (show (-1 : Int) ≤ (gI σ30 c 4) ∧ (gI σ30 c 4) ≤ (nuσ25 2 : Int) - 1 from ⟨by (first | omega | with_reducible assumption | with_reducible exact rng_toInt _ | with_reducible exact rng_wr _ | (unfold rng; omega) | (unfold rng at *; omega) | assumption), by (first | omega | with_reducible assumption | with_reducible exact rng_toInt _ | with_reducible exact rng_wr _ | (unfold rng; omega) | (unfold rng at *; omega) | assumption)⟩)
  have fσ31 : Fx [1, 2, 3, 4, 5, 6, 7, 64, 265, 266, 512, 645, 6464] gr σ σ31 := fσ30.tr (Sk.fx (by rw [eσ31]; exact Sk.pI (by rw [fcdO (krc_σ25.up xσ30) (by decide)]; decide)))
  have wσ31 : gI σ31 c_σ25 4 = (gI σ30 c 4) := by rw [eσ31]; exact up2_s _ _ _ _
  have kp6 : gP σ31 th 0 = gP σ30 th 0 := by rw [eσ31]
  have kp7 : gP σ31 th 5 = gP σ30 th 5 := by rw [eσ31]
  have Lp30 : ∀ (fu30 : Nat) (τ30 : Sg) (LLt30 : Nat → List Nat) (Nt30 nut30 : Nat → Nat) (v5 : Int), IV τ30 pl gq ci gr nc ot LLt30 Nt30 nut30 → Fx [1, 2, 3, 4, 5, 6, 7, 64, 265, 266, 512, 645, 6464] gr σ τ30 → Ext σ31 τ30 → NU nu nut30 → Hn (gD σ) [14] [c] gq LL LLt30 N Nt30 → (∀ x, c ∉ LLt30 x) → (∀ x, c_σ25 ∉ LLt30 x) → ((0 ≤ v5 ∧ v5 ≤ 8) ∧ Nt30 1 = N 1 + 1 ∧ Nt30 14 = N 14) → ((8 - v5).toNat) < fu30 → wl_X11_mapRow_30 th Q X fu30 τ30 v1 v2 v3 (some c_σ25) v5 := by
    intro fu30
    induction fu30 with
    | zero => intro _ _ _ _ _ _ _ _ _ _ _ _ _ h9; omega
    | succ fu30 ih30 =>
      intro τ30 LLt30 Nt30 nut30 v5 iτ30 fτ30 xτ30 nu_τ30 hnτ30 hg_c_τ30 hg_c_σ25_τ30 hi30 hm30
      have nτ30_3 := hnτ30.2.2 3 (by first | decide | (simp; done) | (simp only [List.mem_cons, List.mem_nil_iff, or_false, not_or]; omega)) (by first | decide | omega) (by first | decide | omega) (by first | decide | omega)
      have nτ30_5 := hnτ30.2.2 5 (by first | decide | (simp; done) | (simp only [List.mem_cons, List.mem_nil_iff, or_false, not_or]; omega)) (by first | decide | omega) (by first | decide | omega) (by first | decide | omega)
      have nτ30_44 := hnτ30.2.2 44 (by first | decide | (simp; done) | (simp only [List.mem_cons, List.mem_nil_iff, or_false, not_or]; omega)) (by first | decide | omega) (by first | decide | omega) (by first | decide | omega)
      have nτ30_74 := hnτ30.2.2 74 (by first | decide | (simp; done) | (simp only [List.mem_cons, List.mem_nil_iff, or_false, not_or]; omega)) (by first | decide | omega) (by first | decide | omega) (by first | decide | omega)
      have nτ30_11 := hnτ30.2.2 11 (by first | decide | (simp; done) | (simp only [List.mem_cons, List.mem_nil_iff, or_false, not_or]; omega)) (by first | decide | omega) (by first | decide | omega) (by first | decide | omega)
      have nτ30_12 := hnτ30.2.2 12 (by first | decide | (simp; done) | (simp only [List.mem_cons, List.mem_nil_iff, or_false, not_or]; omega)) (by first | decide | omega) (by first | decide | omega) (by first | decide | omega)
      have nτ30_41 := hnτ30.2.2 41 (by first | decide | (simp; done) | (simp only [List.mem_cons, List.mem_nil_iff, or_false, not_or]; omega)) (by first | decide | omega) (by first | decide | omega) (by first | decide | omega)
      have nτ30_42 := hnτ30.2.2 42 (by first | decide | (simp; done) | (simp only [List.mem_cons, List.mem_nil_iff, or_false, not_or]; omega)) (by first | decide | omega) (by first | decide | omega) (by first | decide | omega)
      have nτ30_13 := hnτ30.2.2 13 (by first | decide | (simp; done) | (simp only [List.mem_cons, List.mem_nil_iff, or_false, not_or]; omega)) (by first | decide | omega) (by first | decide | omega) (by first | decide | omega)
      have uτ30_0 := nu_τ30.1 0 (by decide)
      have uτ30_1 := nu_τ30.1 1 (by decide)
      have uτ30_2 := nu_τ30.2
      have uτ30_5 := nu_τ30.1 5 (by decide)
      have uτ30_15 := nu_τ30.1 15 (by decide)
      have uτ30_16 := nu_τ30.1 16 (by decide)
      unfold wl_X11_mapRow_30
      have kp8 : gP τ30 th 0 = gP σ th 0 := (fτ30.O kth (by decide)).2.1
      have kp9 : gP τ30 th 5 = gP σ th 5 := (fτ30.O kth (by decide)).2.1
      unfold w_X11_mapRow_30
      refine ⟨o, hv1, fun kk_o => ?_⟩
      have q11 := I_5_4 iτ30.1 (ko.up (xσ25.trans (xσ30.trans (xσ31.trans xτ30))))
      by_cases hc10 : v5 ≥ gI τ30 o 4
      · rw [if_pos hc10]
        unfold w_X11_mapRow_94
        obtain ⟨b_1, eb_1, fb_1⟩ := P_11_2 iτ30.1 (kth.up (xσ25.trans (xσ30.trans (xσ31.trans xτ30))))
        have mb_1 : kO τ30 b_1 1 := iτ30.1.kd (kth.up (xσ25.trans (xσ30.trans (xσ31.trans xτ30)))) rfl eb_1 rfl
        refine ⟨b_1, eb_1, fun kk_b_1 => ?_⟩
        refine i_X1_add (G0 := 14) iτ30 mb_1 rfl (krc_σ25.up (xσ30.trans (xσ31.trans xτ30))) (by omega) (by (first | omega | with_reducible assumption | with_reducible exact rng_toInt _ | with_reducible exact rng_wr _ | (unfold rng; omega) | (unfold rng at *; omega) | assumption)) (by (first | omega | with_reducible assumption | with_reducible exact rng_toInt _ | with_reducible exact rng_wr _ | (unfold rng; omega) | (unfold rng at *; omega) | assumption)) (plc_y (G := 14) (by omega) (by decide)) (no50 (by decide)) (no13 (by decide)) (fun N9 n1 _ => iτ30.2.2.1.made (by decide) n1) (fun σ45 LLσ45 Nσ45 nuσ45 _ iσ45 cσ45 uσ45 hσ45 pσ45 => ?_)
        intro xσ45
        have fσ45 : Fx [1, 2, 3, 4, 5, 6, 7, 64, 265, 266, 512, 645, 6464] gr σ σ45 := fτ30.tr (cσ45.mo (by decide))
        have hnσ45 : Hn (gD σ) [14] [c] gq LL LLσ45 N Nσ45 := hnτ30.go hσ45 (fun d hd => (fτ30.1 d hd).1) (by first | decide | exact fun _ h => h | (simp; done) | (intro x hx; simp only [List.mem_cons, List.mem_nil_iff, or_false] at hx ⊢; omega)) (fun d hd => by rw [List.mem_singleton.mp hd]; exact lo_c_σ25)
        have hg_c_σ45 : ∀ x, c ∉ LLσ45 x := hσ45.2.1 c (kc.up (xσ25.trans (xσ30.trans (xσ31.trans xτ30)))).1 (by simp only [List.mem_cons, List.mem_nil_iff, or_false, not_or]; first | omega | (exact fun q => absurd q.symm (by assumption))) hg_c_τ30
        have nσ45_3 := hσ45.2.2 3 (by first | decide | (simp; done) | (simp only [List.mem_cons, List.mem_nil_iff, or_false, not_or]; omega)) (by first | decide | omega) (by first | decide | omega) (by first | decide | omega)
        have nσ45_5 := hσ45.2.2 5 (by first | decide | (simp; done) | (simp only [List.mem_cons, List.mem_nil_iff, or_false, not_or]; omega)) (by first | decide | omega) (by first | decide | omega) (by first | decide | omega)
        have nσ45_44 := hσ45.2.2 44 (by first | decide | (simp; done) | (simp only [List.mem_cons, List.mem_nil_iff, or_false, not_or]; omega)) (by first | decide | omega) (by first | decide | omega) (by first | decide | omega)
        have nσ45_74 := hσ45.2.2 74 (by first | decide | (simp; done) | (simp only [List.mem_cons, List.mem_nil_iff, or_false, not_or]; omega)) (by first | decide | omega) (by first | decide | omega) (by first | decide | omega)
        have nσ45_11 := hσ45.2.2 11 (by first | decide | (simp; done) | (simp only [List.mem_cons, List.mem_nil_iff, or_false, not_or]; omega)) (by first | decide | omega) (by first | decide | omega) (by first | decide | omega)
        have nσ45_12 := hσ45.2.2 12 (by first | decide | (simp; done) | (simp only [List.mem_cons, List.mem_nil_iff, or_false, not_or]; omega)) (by first | decide | omega) (by first | decide | omega) (by first | decide | omega)
        have nσ45_41 := hσ45.2.2 41 (by first | decide | (simp; done) | (simp only [List.mem_cons, List.mem_nil_iff, or_false, not_or]; omega)) (by first | decide | omega) (by first | decide | omega) (by first | decide | omega)
        have nσ45_42 := hσ45.2.2 42 (by first | decide | (simp; done) | (simp only [List.mem_cons, List.mem_nil_iff, or_false, not_or]; omega)) (by first | decide | omega) (by first | decide | omega) (by first | decide | omega)
        have nσ45_13 := hσ45.2.2 13 (by first | decide | (simp; done) | (simp only [List.mem_cons, List.mem_nil_iff, or_false, not_or]; omega)) (by first | decide | omega) (by first | decide | omega) (by first | decide | omega)
        have nu_σ45 : NU nu nuσ45 := nu_τ30.tr uσ45
        have uσ45_0 := uσ45.1 0 (by decide)
        have uσ45_1 := uσ45.1 1 (by decide)
        have uσ45_2 := uσ45.2
        have uσ45_5 := uσ45.1 5 (by decide)
        have uσ45_15 := uσ45.1 15 (by decide)
        have uσ45_16 := uσ45.1 16 (by decide)
        have kp12 : gI σ45 o 4 = gI τ30 o 4 := (cσ45.O (ko.up (xσ25.trans (xσ30.trans (xσ31.trans xτ30)))) (by decide)).1
        have kp13 : gP σ45 th 0 = gP τ30 th 0 := (cσ45.O (kth.up (xσ25.trans (xσ30.trans (xσ31.trans xτ30)))) (by decide)).2.1
        have kp14 : gP σ45 th 2 = gP τ30 th 2 := (cσ45.O (kth.up (xσ25.trans (xσ30.trans (xσ31.trans xτ30)))) (by decide)).2.1
        have kp15 : gP σ45 th 5 = gP τ30 th 5 := (cσ45.O (kth.up (xσ25.trans (xσ30.trans (xσ31.trans xτ30)))) (by decide)).2.1
        refine ⟨b, (kp13.trans (kp8.trans eb)), fun kk_b_2 => ?_⟩
        refine i_X8_release iσ45 (kk_b.up (xσ25.trans (xσ30.trans (xσ31.trans (xτ30.trans xσ45))))) hv3 (kc.up (xσ25.trans (xσ30.trans (xσ31.trans (xτ30.trans xσ45))))) (by (first | omega | with_reducible assumption | with_reducible exact rng_toInt _ | with_reducible exact rng_wr _ | (unfold rng; omega) | (unfold rng at *; omega) | assumption)) (by (first | omega | with_reducible assumption | with_reducible exact rng_toInt _ | with_reducible exact rng_wr _ | (unfold rng; omega) | (unfold rng at *; omega) | assumption)) (fun σ47 LLσ47 Nσ47 nuσ47 _ iσ47 cσ47 uσ47 hσ47 pσ47 => ?_)
        intro xσ47
        have fσ47 : Fx [1, 2, 3, 4, 5, 6, 7, 64, 265, 266, 512, 645, 6464] gr σ σ47 := fσ45.tr (cσ47.mo (by decide))
        have hnσ47 : Hn (gD σ) [14] [c] gq LL LLσ47 N Nσ47 := hnσ45.go hσ47 (fun d hd => (fσ45.1 d hd).1) (by first | decide | exact fun _ h => h | (simp; done) | (intro x hx; simp only [List.mem_cons, List.mem_nil_iff, or_false] at hx ⊢; omega)) (fun d hd => by rw [List.mem_singleton.mp hd]; exact lo_c)
        have nσ47_3 := hσ47.2.2 3 (by first | decide | (simp; done) | (simp only [List.mem_cons, List.mem_nil_iff, or_false, not_or]; omega)) (by first | decide | omega) (by first | decide | omega) (by first | decide | omega)
        have nσ47_5 := hσ47.2.2 5 (by first | decide | (simp; done) | (simp only [List.mem_cons, List.mem_nil_iff, or_false, not_or]; omega)) (by first | decide | omega) (by first | decide | omega) (by first | decide | omega)
        have nσ47_14 := hσ47.2.2 14 (by first | decide | (simp; done) | (simp only [List.mem_cons, List.mem_nil_iff, or_false, not_or]; omega)) (by first | decide | omega) (by first | decide | omega) (by first | decide | omega)
        have nσ47_44 := hσ47.2.2 44 (by first | decide | (simp; done) | (simp only [List.mem_cons, List.mem_nil_iff, or_false, not_or]; omega)) (by first | decide | omega) (by first | decide | omega) (by first | decide | omega)
        have nσ47_74 := hσ47.2.2 74 (by first | decide | (simp; done) | (simp only [List.mem_cons, List.mem_nil_iff, or_false, not_or]; omega)) (by first | decide | omega) (by first | decide | omega) (by first | decide | omega)
        have nσ47_11 := hσ47.2.2 11 (by first | decide | (simp; done) | (simp only [List.mem_cons, List.mem_nil_iff, or_false, not_or]; omega)) (by first | decide | omega) (by first | decide | omega) (by first | decide | omega)
        have nσ47_12 := hσ47.2.2 12 (by first | decide | (simp; done) | (simp only [List.mem_cons, List.mem_nil_iff, or_false, not_or]; omega)) (by first | decide | omega) (by first | decide | omega) (by first | decide | omega)
        have nσ47_41 := hσ47.2.2 41 (by first | decide | (simp; done) | (simp only [List.mem_cons, List.mem_nil_iff, or_false, not_or]; omega)) (by first | decide | omega) (by first | decide | omega) (by first | decide | omega)
        have nσ47_42 := hσ47.2.2 42 (by first | decide | (simp; done) | (simp only [List.mem_cons, List.mem_nil_iff, or_false, not_or]; omega)) (by first | decide | omega) (by first | decide | omega) (by first | decide | omega)
        have nσ47_13 := hσ47.2.2 13 (by first | decide | (simp; done) | (simp only [List.mem_cons, List.mem_nil_iff, or_false, not_or]; omega)) (by first | decide | omega) (by first | decide | omega) (by first | decide | omega)
        have nu_σ47 : NU nu nuσ47 := nu_σ45.tr uσ47
        have uσ47_0 := uσ47.1 0 (by decide)
        have uσ47_1 := uσ47.1 1 (by decide)
        have uσ47_2 := uσ47.2
        have uσ47_5 := uσ47.1 5 (by decide)
        have uσ47_15 := uσ47.1 15 (by decide)
        have uσ47_16 := uσ47.1 16 (by decide)
        have kp16 : gI σ47 o 4 = gI σ45 o 4 := (cσ47.O (ko.up (xσ25.trans (xσ30.trans (xσ31.trans (xτ30.trans xσ45))))) (by decide)).1
        have kp17 : gP σ47 th 0 = gP σ45 th 0 := (cσ47.O (kth.up (xσ25.trans (xσ30.trans (xσ31.trans (xτ30.trans xσ45))))) (by decide)).2.1
        have kp18 : gP σ47 th 2 = gP σ45 th 2 := (cσ47.O (kth.up (xσ25.trans (xσ30.trans (xσ31.trans (xτ30.trans xσ45))))) (by decide)).2.1
        have kp19 : gP σ47 th 5 = gP σ45 th 5 := (cσ47.O (kth.up (xσ25.trans (xσ30.trans (xσ31.trans (xτ30.trans xσ45))))) (by decide)).2.1
        exact hQ σ47 LLσ47 Nσ47 nuσ47 () iσ47 fσ47 (nu_σ47) hnσ47 (by (first | omega | with_reducible assumption | with_reducible exact rng_toInt _ | with_reducible exact rng_wr _ | (unfold rng; omega) | (unfold rng at *; omega) | assumption))
      · rw [if_neg hc10]
        unfold w_X11_mapRow_39
        refine ⟨c_σ25, rfl, fun kk_c_σ25_1 => ?_⟩
        refine ⟨o, hv1, fun kk_o_1 => ?_⟩
        obtain ⟨b_2, eb_2, fb_2⟩ := P_5_1 iτ30.1 (ko.up (xσ25.trans (xσ30.trans (xσ31.trans xτ30))))
        have mb_2 : kO τ30 b_2 100 := iτ30.1.kd (ko.up (xσ25.trans (xσ30.trans (xσ31.trans xτ30)))) rfl eb_2 rfl
        refine ⟨b_2, eb_2, fun kk_b_2_1 => ?_⟩
        refine ⟨⟨by (first | omega | with_reducible assumption | with_reducible exact rng_toInt _ | with_reducible exact rng_wr _ | (unfold rng; omega) | (unfold rng at *; omega) | assumption), by (first | omega | with_reducible assumption | with_reducible exact rng_toInt _ | with_reducible exact rng_wr _ | (unfold rng; omega) | (unfold rng at *; omega) | assumption)⟩, ?_⟩
        refine ⟨J, (kp9.trans hj), fun kk_J => ?_⟩
        have q20 := iτ30.rg b_2 v5.toNat; unfold rng at q20
        refine i_X4_value iτ30 (kJ.up (xσ25.trans (xσ30.trans (xσ31.trans xτ30)))) hv3 (kc.up (xσ25.trans (xσ30.trans (xσ31.trans xτ30)))) (fun σ36 r37 iσ36 cσ36 pσ36 => ?_)
        intro xσ36
        have fσ36 : Fx [1, 2, 3, 4, 5, 6, 7, 64, 265, 266, 512, 645, 6464] gr σ σ36 := fτ30.tr (cσ36.mo (by decide))
        have kp21 : gI σ36 o 4 = gI τ30 o 4 := (cσ36.O (ko.up (xσ25.trans (xσ30.trans (xσ31.trans xτ30)))) (by decide)).1
        have kp22 : gP σ36 o 1 = gP τ30 o 1 := (cσ36.O (ko.up (xσ25.trans (xσ30.trans (xσ31.trans xτ30)))) (by decide)).2.1
        have kp23 : gP σ36 th 0 = gP τ30 th 0 := (cσ36.O (kth.up (xσ25.trans (xσ30.trans (xσ31.trans xτ30)))) (by decide)).2.1
        have kp24 : gP σ36 th 5 = gP τ30 th 5 := (cσ36.O (kth.up (xσ25.trans (xσ30.trans (xσ31.trans xτ30)))) (by decide)).2.1
        obtain ⟨b_3, eb_3, fb_3⟩ := P_0_0 iτ30.1 (krc_σ25.up (xσ30.trans (xσ31.trans xτ30)))
        have mb_3 : kO τ30 b_3 101 := iτ30.1.kd (krc_σ25.up (xσ30.trans (xσ31.trans xτ30))) rfl eb_3 rfl
        refine ⟨b_3, eb_3, fun kk_b_3 => ?_⟩
        have q25 := (xσ36 b_3 mb_3.1).2.2
        refine ⟨⟨by (first | omega | with_reducible assumption | with_reducible exact rng_toInt _ | with_reducible exact rng_wr _ | (unfold rng; omega) | (unfold rng at *; omega) | assumption), by (first | omega | with_reducible assumption | with_reducible exact rng_toInt _ | with_reducible exact rng_wr _ | (unfold rng; omega) | (unfold rng at *; omega) | assumption)⟩, ?_⟩
        intro σ40 eσ40
        have xσ40 : Ext σ36 σ40 := by rw [eσ40]; exact fun _ h => ⟨h, rfl, rfl⟩
        have iσ40 : IV σ40 pl gq ci gr nc ot LLt30 Nt30 nut30 := by rw [eσ40]; exact iσ36.wL (mb_3.up xσ36) (by omega)
        have fσ40 : Fx [1, 2, 3, 4, 5, 6, 7, 64, 265, 266, 512, 645, 6464] gr σ σ40 := fσ36.tr (Sk.fx (by rw [eσ40]; exact Sk.pJ (by rw [fcdA (mb_3.up xσ36) (by decide)]; decide)))
        have kp26 : gI σ40 o 4 = gI σ36 o 4 := by rw [eσ40]
        have kp27 : gP σ40 o 1 = gP σ36 o 1 := by rw [eσ40]
        have kp28 : gP σ40 th 0 = gP σ36 th 0 := by rw [eσ40]
        have kp29 : gP σ40 th 5 = gP σ36 th 5 := by rw [eσ40]
        refine ⟨J, (kp29.trans (kp24.trans (kp9.trans hj))), fun kk_J_1 => ?_⟩
        have q31 := I_4_10 iσ40.1 (kJ.up (xσ25.trans (xσ30.trans (xσ31.trans (xτ30.trans (xσ36.trans xσ40))))))
        by_cases hc30 : gI σ40 J 10 = 0
        · rw [if_pos hc30]
          unfold w_X11_mapRow_88
          refine ⟨by (first | omega | with_reducible assumption | with_reducible exact rng_toInt _ | with_reducible exact rng_wr _ | (unfold rng; omega) | (unfold rng at *; omega) | assumption), ?_⟩
          exact ih30 σ40 LLt30 Nt30 nut30 (v5 + 1) iσ40 fσ40 (xτ30.trans (xσ36.trans xσ40)) nu_τ30 hnτ30 hg_c_τ30 hg_c_σ25_τ30 (by (first | omega | with_reducible assumption | with_reducible exact rng_toInt _ | with_reducible exact rng_wr _ | (unfold rng; omega) | (unfold rng at *; omega) | assumption)) (by (first | omega | with_reducible assumption | with_reducible exact rng_toInt _ | with_reducible exact rng_wr _ | (unfold rng; omega) | (unfold rng at *; omega) | assumption))
        · rw [if_neg hc30]
          unfold w_X11_mapRow_72
          refine ⟨b, (kp28.trans (kp23.trans (kp8.trans eb))), fun kk_b_4 => ?_⟩
          refine i_X8_release iσ40 (kk_b.up (xσ25.trans (xσ30.trans (xσ31.trans (xτ30.trans (xσ36.trans xσ40)))))) rfl (krc_σ25.up (xσ30.trans (xσ31.trans (xτ30.trans (xσ36.trans xσ40))))) (by (first | omega | with_reducible assumption | with_reducible exact rng_toInt _ | with_reducible exact rng_wr _ | (unfold rng; omega) | (unfold rng at *; omega) | assumption)) (by (first | omega | with_reducible assumption | with_reducible exact rng_toInt _ | with_reducible exact rng_wr _ | (unfold rng; omega) | (unfold rng at *; omega) | assumption)) (fun σ42 LLσ42 Nσ42 nuσ42 _ iσ42 cσ42 uσ42 hσ42 pσ42 => ?_)
          intro xσ42
          have fσ42 : Fx [1, 2, 3, 4, 5, 6, 7, 64, 265, 266, 512, 645, 6464] gr σ σ42 := fσ40.tr (cσ42.mo (by decide))
          have hnσ42 : Hn (gD σ) [14] [c] gq LL LLσ42 N Nσ42 := hnτ30.go hσ42 (fun d hd => (fσ40.1 d hd).1) (by first | decide | exact fun _ h => h | (simp; done) | (intro x hx; simp only [List.mem_cons, List.mem_nil_iff, or_false] at hx ⊢; omega)) (fun d hd => by rw [List.mem_singleton.mp hd]; exact lo_c_σ25)
          have hg_c_σ42 : ∀ x, c ∉ LLσ42 x := hσ42.2.1 c (kc.up (xσ25.trans (xσ30.trans (xσ31.trans (xτ30.trans (xσ36.trans xσ40)))))).1 (by simp only [List.mem_cons, List.mem_nil_iff, or_false, not_or]; first | omega | (exact fun q => absurd q.symm (by assumption))) hg_c_τ30
          have nσ42_3 := hσ42.2.2 3 (by first | decide | (simp; done) | (simp only [List.mem_cons, List.mem_nil_iff, or_false, not_or]; omega)) (by first | decide | omega) (by first | decide | omega) (by first | decide | omega)
          have nσ42_5 := hσ42.2.2 5 (by first | decide | (simp; done) | (simp only [List.mem_cons, List.mem_nil_iff, or_false, not_or]; omega)) (by first | decide | omega) (by first | decide | omega) (by first | decide | omega)
          have nσ42_14 := hσ42.2.2 14 (by first | decide | (simp; done) | (simp only [List.mem_cons, List.mem_nil_iff, or_false, not_or]; omega)) (by first | decide | omega) (by first | decide | omega) (by first | decide | omega)
          have nσ42_44 := hσ42.2.2 44 (by first | decide | (simp; done) | (simp only [List.mem_cons, List.mem_nil_iff, or_false, not_or]; omega)) (by first | decide | omega) (by first | decide | omega) (by first | decide | omega)
          have nσ42_74 := hσ42.2.2 74 (by first | decide | (simp; done) | (simp only [List.mem_cons, List.mem_nil_iff, or_false, not_or]; omega)) (by first | decide | omega) (by first | decide | omega) (by first | decide | omega)
          have nσ42_11 := hσ42.2.2 11 (by first | decide | (simp; done) | (simp only [List.mem_cons, List.mem_nil_iff, or_false, not_or]; omega)) (by first | decide | omega) (by first | decide | omega) (by first | decide | omega)
          have nσ42_12 := hσ42.2.2 12 (by first | decide | (simp; done) | (simp only [List.mem_cons, List.mem_nil_iff, or_false, not_or]; omega)) (by first | decide | omega) (by first | decide | omega) (by first | decide | omega)
          have nσ42_41 := hσ42.2.2 41 (by first | decide | (simp; done) | (simp only [List.mem_cons, List.mem_nil_iff, or_false, not_or]; omega)) (by first | decide | omega) (by first | decide | omega) (by first | decide | omega)
          have nσ42_42 := hσ42.2.2 42 (by first | decide | (simp; done) | (simp only [List.mem_cons, List.mem_nil_iff, or_false, not_or]; omega)) (by first | decide | omega) (by first | decide | omega) (by first | decide | omega)
          have nσ42_13 := hσ42.2.2 13 (by first | decide | (simp; done) | (simp only [List.mem_cons, List.mem_nil_iff, or_false, not_or]; omega)) (by first | decide | omega) (by first | decide | omega) (by first | decide | omega)
          have nu_σ42 : NU nu nuσ42 := nu_τ30.tr uσ42
          have uσ42_0 := uσ42.1 0 (by decide)
          have uσ42_1 := uσ42.1 1 (by decide)
          have uσ42_2 := uσ42.2
          have uσ42_5 := uσ42.1 5 (by decide)
          have uσ42_15 := uσ42.1 15 (by decide)
          have uσ42_16 := uσ42.1 16 (by decide)
          have kp32 : gI σ42 J 10 = gI σ40 J 10 := (cσ42.O (kJ.up (xσ25.trans (xσ30.trans (xσ31.trans (xτ30.trans (xσ36.trans xσ40)))))) (by decide)).1
          have kp33 : gI σ42 o 4 = gI σ40 o 4 := (cσ42.O (ko.up (xσ25.trans (xσ30.trans (xσ31.trans (xτ30.trans (xσ36.trans xσ40)))))) (by decide)).1
          have kp34 : gP σ42 o 1 = gP σ40 o 1 := (cσ42.O (ko.up (xσ25.trans (xσ30.trans (xσ31.trans (xτ30.trans (xσ36.trans xσ40)))))) (by decide)).2.1
          have kp35 : gP σ42 th 0 = gP σ40 th 0 := (cσ42.O (kth.up (xσ25.trans (xσ30.trans (xσ31.trans (xτ30.trans (xσ36.trans xσ40)))))) (by decide)).2.1
          have kp36 : gP σ42 th 5 = gP σ40 th 5 := (cσ42.O (kth.up (xσ25.trans (xσ30.trans (xσ31.trans (xτ30.trans (xσ36.trans xσ40)))))) (by decide)).2.1
          refine i1_X11_putAside iσ42 (kth.up (xσ25.trans (xσ30.trans (xσ31.trans (xτ30.trans (xσ36.trans (xσ40.trans xσ42))))))) hv2 (kt.up (xσ25.trans (xσ30.trans (xσ31.trans (xτ30.trans (xσ36.trans (xσ40.trans xσ42))))))) hv3 (kc.up (xσ25.trans (xσ30.trans (xσ31.trans (xτ30.trans (xσ36.trans (xσ40.trans xσ42))))))) (by (first | omega | with_reducible assumption | with_reducible exact rng_toInt _ | with_reducible exact rng_wr _ | (unfold rng; omega) | (unfold rng at *; omega) | assumption)) (by (first | omega | with_reducible assumption | with_reducible exact rng_toInt _ | with_reducible exact rng_wr _ | (unfold rng; omega) | (unfold rng at *; omega) | assumption)) (by (first | omega | with_reducible assumption | with_reducible exact rng_toInt _ | with_reducible exact rng_wr _ | (unfold rng; omega) | (unfold rng at *; omega) | assumption)) (fun σ44 LLσ44 Nσ44 nuσ44 _ iσ44 cσ44 uσ44 hσ44 pσ44 => ?_)
          intro xσ44
          have fσ44 : Fx [1, 2, 3, 4, 5, 6, 7, 64, 265, 266, 512, 645, 6464] gr σ σ44 := fσ42.tr (cσ44.mo (by decide))
          have hnσ44 : Hn (gD σ) [14] [c] gq LL LLσ44 N Nσ44 := hnσ42.go hσ44 (fun d hd => (fσ42.1 d hd).1) (by first | decide | exact fun _ h => h | (simp; done) | (intro x hx; simp only [List.mem_cons, List.mem_nil_iff, or_false] at hx ⊢; omega)) (fun d hd => by rw [List.mem_singleton.mp hd]; exact lo_c)
          have nσ44_3 := hσ44.2.2 3 (by first | decide | (simp; done) | (simp only [List.mem_cons, List.mem_nil_iff, or_false, not_or]; omega)) (by first | decide | omega) (by first | decide | omega) (by first | decide | omega)
          have nσ44_5 := hσ44.2.2 5 (by first | decide | (simp; done) | (simp only [List.mem_cons, List.mem_nil_iff, or_false, not_or]; omega)) (by first | decide | omega) (by first | decide | omega) (by first | decide | omega)
          have nσ44_14 := hσ44.2.2 14 (by first | decide | (simp; done) | (simp only [List.mem_cons, List.mem_nil_iff, or_false, not_or]; omega)) (by first | decide | omega) (by first | decide | omega) (by first | decide | omega)
          have nσ44_44 := hσ44.2.2 44 (by first | decide | (simp; done) | (simp only [List.mem_cons, List.mem_nil_iff, or_false, not_or]; omega)) (by first | decide | omega) (by first | decide | omega) (by first | decide | omega)
          have nσ44_74 := hσ44.2.2 74 (by first | decide | (simp; done) | (simp only [List.mem_cons, List.mem_nil_iff, or_false, not_or]; omega)) (by first | decide | omega) (by first | decide | omega) (by first | decide | omega)
          have nσ44_11 := hσ44.2.2 11 (by first | decide | (simp; done) | (simp only [List.mem_cons, List.mem_nil_iff, or_false, not_or]; omega)) (by first | decide | omega) (by first | decide | omega) (by first | decide | omega)
          have nσ44_12 := hσ44.2.2 12 (by first | decide | (simp; done) | (simp only [List.mem_cons, List.mem_nil_iff, or_false, not_or]; omega)) (by first | decide | omega) (by first | decide | omega) (by first | decide | omega)
          have nσ44_41 := hσ44.2.2 41 (by first | decide | (simp; done) | (simp only [List.mem_cons, List.mem_nil_iff, or_false, not_or]; omega)) (by first | decide | omega) (by first | decide | omega) (by first | decide | omega)
          have nσ44_42 := hσ44.2.2 42 (by first | decide | (simp; done) | (simp only [List.mem_cons, List.mem_nil_iff, or_false, not_or]; omega)) (by first | decide | omega) (by first | decide | omega) (by first | decide | omega)
          have nσ44_13 := hσ44.2.2 13 (by first | decide | (simp; done) | (simp only [List.mem_cons, List.mem_nil_iff, or_false, not_or]; omega)) (by first | decide | omega) (by first | decide | omega) (by first | decide | omega)
          have nu_σ44 : NU nu nuσ44 := nu_σ42.tr uσ44
          have uσ44_0 := uσ44.1 0 (by decide)
          have uσ44_1 := uσ44.1 1 (by decide)
          have uσ44_2 := uσ44.2
          have uσ44_5 := uσ44.1 5 (by decide)
          have uσ44_15 := uσ44.1 15 (by decide)
          have uσ44_16 := uσ44.1 16 (by decide)
          have kp37 : gI σ44 J 10 = gI σ42 J 10 := (cσ44.O (kJ.up (xσ25.trans (xσ30.trans (xσ31.trans (xτ30.trans (xσ36.trans (xσ40.trans xσ42))))))) (by decide)).1
          have kp38 : gI σ44 o 4 = gI σ42 o 4 := (cσ44.O (ko.up (xσ25.trans (xσ30.trans (xσ31.trans (xτ30.trans (xσ36.trans (xσ40.trans xσ42))))))) (by decide)).1
          have kp39 : gP σ44 o 1 = gP σ42 o 1 := (cσ44.O (ko.up (xσ25.trans (xσ30.trans (xσ31.trans (xτ30.trans (xσ36.trans (xσ40.trans xσ42))))))) (by decide)).2.1
          have kp40 : gP σ44 th 0 = gP σ42 th 0 := (cσ44.O (kth.up (xσ25.trans (xσ30.trans (xσ31.trans (xτ30.trans (xσ36.trans (xσ40.trans xσ42))))))) (by decide)).2.1
          have kp41 : gP σ44 th 5 = gP σ42 th 5 := (cσ44.O (kth.up (xσ25.trans (xσ30.trans (xσ31.trans (xτ30.trans (xσ36.trans (xσ40.trans xσ42))))))) (by decide)).2.1
          exact hQ σ44 LLσ44 Nσ44 nuσ44 () iσ44 fσ44 (nu_σ44) hnσ44 (by (first | omega | with_reducible assumption | with_reducible exact rng_toInt _ | with_reducible exact rng_wr _ | (unfold rng; omega) | (unfold rng at *; omega) | assumption))
  exact ⟨_, Lp30 _ σ31 LLσ25 Nσ25 nuσ25 _ iσ31 fσ31 (Ext.rfl' _) nu_σ25 hnσ25 hg_c_σ25 hf_c_σ25 (by (first | omega | with_reducible assumption | with_reducible exact rng_toInt _ | with_reducible exact rng_wr _ | (unfold rng; omega) | (unfold rng at *; omega) | assumption)) (Nat.lt_succ_self _)⟩
set_option maxHeartbeats 1000000 in
theorem i1_X11_measure {σ : Sg} {pl : Nat} {gq ci gr nc : Nat → Nat} {ot : Nat → Nat → Int} {LL : Nat → List Nat} {N nu : Nat → Nat} {th : Nat} {v1 : Option Nat} {v2 : Option Nat} {J : Nat} (iσ : IV σ pl gq ci gr nc ot LL N nu) (kth : kO σ th 11) {o : Nat} (hv1 : v1 = some o) (ko : kO σ o 5) {c : Nat} (hv2 : v2 = some c) (kc : kO σ c 0) (hq : gq th = 1) (hj : gP σ th 5 = some J) (kJ : kO σ J 4) (hJ : gq J = nc 0) {Q : Sg → Int → Prop} {X : Sg → String → Prop} (hQ : ∀ (σ' : Sg) (r : Int), IV σ' pl gq ci gr nc ot LL N nu → Fx [265, 266, 6464] gr σ σ' → (r = 0 ∨ r = 1) → Q σ' r) : wp_X11_measure th v1 v2 σ Q X := by
  have fσ : Fx [265, 266, 6464] gr σ σ := Fx.rf
  unfold wp_X11_measure
  unfold w_X11_measure_0
  have Lp2 : ∀ (fu2 : Nat) (τ2 : Sg) (v3 : Int), IV τ2 pl gq ci gr nc ot LL N nu → Fx [265, 266, 6464] gr σ τ2 → Ext σ τ2 → (0 ≤ v3 ∧ v3 ≤ 8) → ((8 - v3).toNat) < fu2 → wl_X11_measure_2 th Q X fu2 τ2 v1 v2 v3 := by
    intro fu2
    induction fu2 with
    | zero => intro _ _ _ _ _ _ h9; omega
    | succ fu2 ih2 =>
      intro τ2 v3 iτ2 fτ2 xτ2 hi2 hm2
      unfold wl_X11_measure_2
      have kp1 : gP τ2 th 5 = gP σ th 5 := (fτ2.O kth (by decide)).2.1
      unfold w_X11_measure_2
      refine ⟨o, hv1, fun kk_o => ?_⟩
      have q3 := I_5_4 iτ2.1 (ko.up xτ2)
      by_cases hc2 : v3 ≥ gI τ2 o 4
      · rw [if_pos hc2]
        unfold w_X11_measure_69
        exact hQ τ2 1 iτ2 fτ2 (by (first | omega | with_reducible assumption | with_reducible exact rng_toInt _ | with_reducible exact rng_wr _ | (unfold rng; omega) | (unfold rng at *; omega) | assumption))
      · rw [if_neg hc2]
        unfold w_X11_measure_10
        by_cases hc4 : v3 ≥ 4
        · rw [if_pos hc4]
          unfold w_X11_measure_69
          exact hQ τ2 1 iτ2 fτ2 (by (first | omega | with_reducible assumption | with_reducible exact rng_toInt _ | with_reducible exact rng_wr _ | (unfold rng; omega) | (unfold rng at *; omega) | assumption))
        · rw [if_neg hc4]
          unfold w_X11_measure_15
          obtain ⟨b, eb, fb⟩ := P_11_3 iτ2.1 (kth.up xτ2)
          have mb : kO τ2 b 101 := iτ2.1.kd (kth.up xτ2) rfl eb rfl
          refine ⟨b, eb, fun kk_b => ?_⟩
          refine ⟨⟨by (first | omega | with_reducible assumption | with_reducible exact rng_toInt _ | with_reducible exact rng_wr _ | (unfold rng; omega) | (unfold rng at *; omega) | assumption), by (first | omega | with_reducible assumption | with_reducible exact rng_toInt _ | with_reducible exact rng_wr _ | (unfold rng; omega) | (unfold rng at *; omega) | assumption)⟩, ?_⟩
          intro σ16 eσ16
          have xσ16 : Ext τ2 σ16 := by rw [eσ16]; exact fun _ h => ⟨h, rfl, rfl⟩
          have iσ16 : IV σ16 pl gq ci gr nc ot LL N nu := by rw [eσ16]; exact iτ2.wL mb (by omega)
          have fσ16 : Fx [265, 266, 6464] gr σ σ16 := fτ2.tr (Sk.fx (by rw [eσ16]; exact Sk.pJ (by rw [fcdA mb (by decide)]; decide)))
          have kp5 : gI σ16 o 4 = gI τ2 o 4 := by rw [eσ16]
          have kp6 : gP σ16 th 3 = gP τ2 th 3 := by rw [eσ16]
          have kp7 : gP σ16 th 5 = gP τ2 th 5 := by rw [eσ16]
          refine ⟨o, hv1, fun kk_o_1 => ?_⟩
          obtain ⟨b_1, eb_1, fb_1⟩ := P_5_2 iσ16.1 (ko.up (xτ2.trans xσ16))
          have mb_1 : kO σ16 b_1 100 := iσ16.1.kd (ko.up (xτ2.trans xσ16)) rfl eb_1 rfl
          refine ⟨b_1, eb_1, fun kk_b_1 => ?_⟩
          refine ⟨⟨by (first | omega | with_reducible assumption | with_reducible exact rng_toInt _ | with_reducible exact rng_wr _ | (unfold rng; omega) | (unfold rng at *; omega) | assumption), by (first | omega | with_reducible assumption | with_reducible exact rng_toInt _ | with_reducible exact rng_wr _ | (unfold rng; omega) | (unfold rng at *; omega) | assumption)⟩, ?_⟩
          have q9 := iσ16.rg b_1 v3.toNat; unfold rng at q9
          by_cases hc8 : (gI σ16 b_1 v3.toNat) = 0
          · rw [if_pos hc8]
            unfold w_X11_measure_63
            refine ⟨by (first | omega | with_reducible assumption | with_reducible exact rng_toInt _ | with_reducible exact rng_wr _ | (unfold rng; omega) | (unfold rng at *; omega) | assumption), ?_⟩
            exact ih2 σ16 (v3 + 1) iσ16 fσ16 (xτ2.trans xσ16) (by (first | omega | with_reducible assumption | with_reducible exact rng_toInt _ | with_reducible exact rng_wr _ | (unfold rng; omega) | (unfold rng at *; omega) | assumption)) (by (first | omega | with_reducible assumption | with_reducible exact rng_toInt _ | with_reducible exact rng_wr _ | (unfold rng; omega) | (unfold rng at *; omega) | assumption))
          · rw [if_neg hc8]
            unfold w_X11_measure_31
            refine ⟨o, hv1, fun kk_o_2 => ?_⟩
            obtain ⟨b_2, eb_2, fb_2⟩ := P_5_1 iσ16.1 (ko.up (xτ2.trans xσ16))
            have mb_2 : kO σ16 b_2 100 := iσ16.1.kd (ko.up (xτ2.trans xσ16)) rfl eb_2 rfl
            refine ⟨b_2, eb_2, fun kk_b_2 => ?_⟩
            refine ⟨⟨by (first | omega | with_reducible assumption | with_reducible exact rng_toInt _ | with_reducible exact rng_wr _ | (unfold rng; omega) | (unfold rng at *; omega) | assumption), by (first | omega | with_reducible assumption | with_reducible exact rng_toInt _ | with_reducible exact rng_wr _ | (unfold rng; omega) | (unfold rng at *; omega) | assumption)⟩, ?_⟩
            refine ⟨J, (kp7.trans (kp1.trans hj)), fun kk_J => ?_⟩
            have q10 := iσ16.rg b_2 v3.toNat; unfold rng at q10
            refine i_X4_value iσ16 (kJ.up (xτ2.trans xσ16)) hv2 (kc.up (xτ2.trans xσ16)) (fun σ21 r22 iσ21 cσ21 pσ21 => ?_)
            intro xσ21
            have fσ21 : Fx [265, 266, 6464] gr σ σ21 := fσ16.tr (cσ21.mo (by decide))
            have kp11 : gI σ21 o 4 = gI σ16 o 4 := (cσ21.O (ko.up (xτ2.trans xσ16)) (by decide)).1
            have kp12 : gP σ21 o 1 = gP σ16 o 1 := (cσ21.O (ko.up (xτ2.trans xσ16)) (by decide)).2.1
            have kp13 : gP σ21 o 2 = gP σ16 o 2 := (cσ21.O (ko.up (xτ2.trans xσ16)) (by decide)).2.1
            have kp14 : gP σ21 th 3 = gP σ16 th 3 := (cσ21.O (kth.up (xτ2.trans xσ16)) (by decide)).2.1
            have kp15 : gP σ21 th 5 = gP σ16 th 5 := (cσ21.O (kth.up (xτ2.trans xσ16)) (by decide)).2.1
            refine ⟨b, (kp6.trans eb), fun kk_b_3 => ?_⟩
            have q16 := ((xσ16.trans xσ21) b mb.1).2.2
            refine ⟨⟨by (first | omega | with_reducible assumption | with_reducible exact rng_toInt _ | with_reducible exact rng_wr _ | (unfold rng; omega) | (unfold rng at *; omega) | assumption), by (first | omega | with_reducible assumption | with_reducible exact rng_toInt _ | with_reducible exact rng_wr _ | (unfold rng; omega) | (unfold rng at *; omega) | assumption)⟩, ?_⟩
            intro σ25 eσ25
            have xσ25 : Ext σ21 σ25 := by rw [eσ25]; exact fun _ h => ⟨h, rfl, rfl⟩
            have iσ25 : IV σ25 pl gq ci gr nc ot LL N nu := by rw [eσ25]; exact iσ21.wL (mb.up (xσ16.trans xσ21)) (by omega)
            have fσ25 : Fx [265, 266, 6464] gr σ σ25 := fσ21.tr (Sk.fx (by rw [eσ25]; exact Sk.pJ (by rw [fcdA (mb.up (xσ16.trans xσ21)) (by decide)]; decide)))
            have kp17 : gI σ25 o 4 = gI σ21 o 4 := by rw [eσ25]
            have kp18 : gP σ25 o 1 = gP σ21 o 1 := by rw [eσ25]
            have kp19 : gP σ25 o 2 = gP σ21 o 2 := by rw [eσ25]
            have kp20 : gP σ25 th 3 = gP σ21 th 3 := by rw [eσ25]
            have kp21 : gP σ25 th 5 = gP σ21 th 5 := by rw [eσ25]
            refine ⟨J, (kp21.trans (kp15.trans (kp7.trans (kp1.trans hj)))), fun kk_J_1 => ?_⟩
            have q23 := I_4_10 iσ25.1 (kJ.up (xτ2.trans (xσ16.trans (xσ21.trans xσ25))))
            by_cases hc22 : gI σ25 J 10 = 0
            · rw [if_pos hc22]
              unfold w_X11_measure_63
              refine ⟨by (first | omega | with_reducible assumption | with_reducible exact rng_toInt _ | with_reducible exact rng_wr _ | (unfold rng; omega) | (unfold rng at *; omega) | assumption), ?_⟩
              exact ih2 σ25 (v3 + 1) iσ25 fσ25 (xτ2.trans (xσ16.trans (xσ21.trans xσ25))) (by (first | omega | with_reducible assumption | with_reducible exact rng_toInt _ | with_reducible exact rng_wr _ | (unfold rng; omega) | (unfold rng at *; omega) | assumption)) (by (first | omega | with_reducible assumption | with_reducible exact rng_toInt _ | with_reducible exact rng_wr _ | (unfold rng; omega) | (unfold rng at *; omega) | assumption))
            · rw [if_neg hc22]
              unfold w_X11_measure_61
              exact hQ σ25 0 iσ25 fσ25 (by (first | omega | with_reducible assumption | with_reducible exact rng_toInt _ | with_reducible exact rng_wr _ | (unfold rng; omega) | (unfold rng at *; omega) | assumption))
  exact ⟨_, Lp2 _ σ _ iσ fσ (Ext.rfl' _) (by (first | omega | with_reducible assumption | with_reducible exact rng_toInt _ | with_reducible exact rng_wr _ | (unfold rng; omega) | (unfold rng at *; omega) | assumption)) (Nat.lt_succ_self _)⟩
set_option maxHeartbeats 1000000 in
theorem i1_X11_newFold {σ : Sg} {pl : Nat} {gq ci gr nc : Nat → Nat} {ot : Nat → Nat → Int} {LL : Nat → List Nat} {N nu : Nat → Nat} {th : Nat} {v1 : Option Nat} {v2 : Option Nat} {v3 : Int64} {i : Nat} (iσ : IV σ pl gq ci gr nc ot LL N nu) (kth : kO σ th 11) {o : Nat} (hv1 : v1 = some o) (ko : kO σ o 5) {c2 : Nat} (hv2 : v2 = some c2) (kc2 : kO σ c2 0) (hq : gq th = 1) (ho : gq o = 16 * nc 0 + i) (hi : i < nc 1) (hk : ot i 6 = 4 ∨ ot i 6 = 5) (hv : tb (N 3) v3) (hb : N 14 + N 44 + N 74 + N 1 ≤ 41000) {Q : Sg → Option Nat → Prop} {X : Sg → String → Prop} (hQ : ∀ (σ' : Sg) (LL' : Nat → List Nat) (N' nu' : Nat → Nat) (c : Nat), IV σ' pl gq ci gr nc ot LL' N' nu' → Fx [1, 2, 3, 4, 5, 6, 7, 64, 512, 6464] gr σ σ' → NU nu nu' → Hn (gD σ) [] [] gq LL LL' N N' → ((∀ x, c ∉ LL' x) ∧ (∀ d, kO σ d 0 → (∀ x, d ∉ LL x) → d ≠ c) ∧ (c ∉ gD σ ∨ ∃ y, c ∈ LL y) ∧ N' 1 = N 1 + 1) → Q σ' (some c)) : wp_X11_newFold th v1 v2 v3 σ Q X := by
  have fσ : Fx [1, 2, 3, 4, 5, 6, 7, 64, 512, 6464] gr σ σ := Fx.rf
  have hnσ : Hn (gD σ) [] [] gq LL LL N N := Hn.rf
  unfold wp_X11_newFold
  unfold w_X11_newFold_0
  obtain ⟨b, eb⟩ := P_11_0 iσ.1 kth
  refine ⟨b, eb, fun kk_b => ?_⟩
  refine i_X8_fresh iσ kk_b (by (first | omega | with_reducible assumption | with_reducible exact rng_toInt _ | with_reducible exact rng_wr _ | (unfold rng; omega) | (unfold rng at *; omega) | assumption)) (fun σ13 LLσ13 Nσ13 nuσ13 c_σ13 iσ13 cσ13 uσ13 hσ13 pσ13 => ?_)
  intro xσ13
  have fσ13 : Fx [1, 2, 3, 4, 5, 6, 7, 64, 512, 6464] gr σ σ13 := fσ.tr (cσ13.mo (by decide))
  have hnσ13 : Hn (gD σ) [] [] gq LL LLσ13 N Nσ13 := hnσ.go hσ13 (fun d hd => (fσ.1 d hd).1) (by first | decide | exact fun _ h => h | (simp; done) | (intro x hx; simp only [List.mem_cons, List.mem_nil_iff, or_false] at hx ⊢; omega)) (fun d hd => absurd hd (by simp))
  have hf_c_σ13 : ∀ x, c_σ13 ∉ LLσ13 x := pσ13.1
  have lo_c_σ13 : Lo [] (gD σ) LL c_σ13 := hnσ.loc (fun d hd => (fσ.1 d hd).1) pσ13.2.2.1
  have nσ13_3 := hσ13.2.2 3 (by first | decide | (simp; done) | (simp only [List.mem_cons, List.mem_nil_iff, or_false, not_or]; omega)) (by first | decide | omega) (by first | decide | omega) (by first | decide | omega)
  have nσ13_5 := hσ13.2.2 5 (by first | decide | (simp; done) | (simp only [List.mem_cons, List.mem_nil_iff, or_false, not_or]; omega)) (by first | decide | omega) (by first | decide | omega) (by first | decide | omega)
  have nσ13_14 := hσ13.2.2 14 (by first | decide | (simp; done) | (simp only [List.mem_cons, List.mem_nil_iff, or_false, not_or]; omega)) (by first | decide | omega) (by first | decide | omega) (by first | decide | omega)
  have nσ13_44 := hσ13.2.2 44 (by first | decide | (simp; done) | (simp only [List.mem_cons, List.mem_nil_iff, or_false, not_or]; omega)) (by first | decide | omega) (by first | decide | omega) (by first | decide | omega)
  have nσ13_74 := hσ13.2.2 74 (by first | decide | (simp; done) | (simp only [List.mem_cons, List.mem_nil_iff, or_false, not_or]; omega)) (by first | decide | omega) (by first | decide | omega) (by first | decide | omega)
  have nσ13_11 := hσ13.2.2 11 (by first | decide | (simp; done) | (simp only [List.mem_cons, List.mem_nil_iff, or_false, not_or]; omega)) (by first | decide | omega) (by first | decide | omega) (by first | decide | omega)
  have nσ13_12 := hσ13.2.2 12 (by first | decide | (simp; done) | (simp only [List.mem_cons, List.mem_nil_iff, or_false, not_or]; omega)) (by first | decide | omega) (by first | decide | omega) (by first | decide | omega)
  have nσ13_41 := hσ13.2.2 41 (by first | decide | (simp; done) | (simp only [List.mem_cons, List.mem_nil_iff, or_false, not_or]; omega)) (by first | decide | omega) (by first | decide | omega) (by first | decide | omega)
  have nσ13_42 := hσ13.2.2 42 (by first | decide | (simp; done) | (simp only [List.mem_cons, List.mem_nil_iff, or_false, not_or]; omega)) (by first | decide | omega) (by first | decide | omega) (by first | decide | omega)
  have nσ13_13 := hσ13.2.2 13 (by first | decide | (simp; done) | (simp only [List.mem_cons, List.mem_nil_iff, or_false, not_or]; omega)) (by first | decide | omega) (by first | decide | omega) (by first | decide | omega)
  have nu_σ13 : NU nu nuσ13 := uσ13
  have uσ13_0 := uσ13.1 0 (by decide)
  have uσ13_1 := uσ13.1 1 (by decide)
  have uσ13_2 := uσ13.2
  have uσ13_5 := uσ13.1 5 (by decide)
  have uσ13_15 := uσ13.1 15 (by decide)
  have uσ13_16 := uσ13.1 16 (by decide)
  have kp1 : gP σ13 th 0 = gP σ th 0 := (cσ13.O kth (by decide)).2.1
  intro tyt
  have krc_σ13 : kO σ13 c_σ13 0 := tyt c_σ13 rfl
  refine ⟨c2, hv2, fun kk_c2 => ?_⟩
  refine ⟨c_σ13, rfl, fun kk_c_σ13 => ?_⟩
  intro σ18 eσ18
  have xσ18 : Ext σ13 σ18 := by rw [eσ18]; exact fun _ h => ⟨h, rfl, rfl⟩
  have iσ18 : IV σ18 pl gq ci gr nc ot LLσ13 Nσ13 nuσ13 := by rw [eσ18]; exact iσ13.wJ krc_σ13 (by decide)
  have fσ18 : Fx [1, 2, 3, 4, 5, 6, 7, 64, 512, 6464] gr σ σ18 := fσ13.tr (Sk.fx (by rw [eσ18]; exact Sk.pJ (by rw [fcdO krc_σ13 (by decide)]; decide)))
  have kp2 : gP σ18 th 0 = gP σ13 th 0 := by rw [eσ18]
  intro σ19 eσ19
  have xσ19 : Ext σ18 σ19 := by rw [eσ19]; exact fun _ h => ⟨h, rfl, rfl⟩
  have q3 := I_0_4 iσ18.1 (kc2.up (xσ13.trans xσ18))
  have iσ19 : IV σ19 pl gq ci gr nc ot LLσ13 Nσ13 nuσ13 := by rw [eσ19]; exact iσ18.wO (krc_σ13.up xσ18) (by decide) (show (-1 : Int) ≤ (gI σ18 c2 4) ∧ (gI σ18 c2 4) ≤ (nuσ13 2 : Int) - 1 from ⟨by (first | omega | with_reducible assumption | with_reducible exact rng_toInt _ | with_reducible exact rng_wr _ | (unfold rng; omega) | (unfold rng at *; omega) | assumption), by (first | omega | with_reducible assumption | with_reducible exact rng_toInt _ | with_reducible exact rng_wr _ | (unfold rng; omega) | (unfold rng at *; omega) | assumption)⟩)
  have fσ19 : Fx [1, 2, 3, 4, 5, 6, 7, 64, 512, 6464] gr σ σ19 := fσ18.tr (Sk.fx (by rw [eσ19]; exact Sk.pI (by rw [fcdO (krc_σ13.up xσ18) (by decide)]; decide)))
  have wσ19 : gI σ19 c_σ13 4 = (gI σ18 c2 4) := by rw [eσ19]; exact up2_s _ _ _ _
  have kp4 : gP σ19 th 0 = gP σ18 th 0 := by rw [eσ19]
  intro σ20 eσ20
  have xσ20 : Ext σ19 σ20 := by rw [eσ20]; exact fun _ h => ⟨h, rfl, rfl⟩
  have iσ20 : IV σ20 pl gq ci gr nc ot LLσ13 Nσ13 nuσ13 := by rw [eσ20]; exact iσ19.wT (krc_σ13.up (xσ18.trans xσ19)) (by decide) (by have q9 := hv; unfold tb at q9 ⊢; omega)
  have fσ20 : Fx [1, 2, 3, 4, 5, 6, 7, 64, 512, 6464] gr σ σ20 := fσ19.tr (Sk.fx (by rw [eσ20]; exact Sk.pJ (by rw [fcdO (krc_σ13.up (xσ18.trans xσ19)) (by decide)]; decide)))
  have kp5 : gI σ20 c_σ13 4 = gI σ19 c_σ13 4 := by rw [eσ20]
  have kp6 : gP σ20 th 0 = gP σ19 th 0 := by rw [eσ20]
  have qv := iσ20.vc4 (ko.up (xσ13.trans (xσ18.trans (xσ19.trans xσ20)))) ho hi hk
  refine ⟨o, hv1, fun kk_o => ?_⟩
  obtain ⟨b_1, eb_1, fb_1⟩ := P_11_3 iσ20.1 (kth.up (xσ13.trans (xσ18.trans (xσ19.trans xσ20))))
  have mb_1 : kO σ20 b_1 101 := iσ20.1.kd (kth.up (xσ13.trans (xσ18.trans (xσ19.trans xσ20)))) rfl eb_1 rfl
  refine ⟨b_1, eb_1, fun kk_b_1 => ?_⟩
  obtain ⟨b_2, eb_2, fb_2⟩ := P_0_0 iσ20.1 (krc_σ13.up (xσ18.trans (xσ19.trans xσ20)))
  have mb_2 : kO σ20 b_2 101 := iσ20.1.kd (krc_σ13.up (xσ18.trans (xσ19.trans xσ20))) rfl eb_2 rfl
  refine ⟨b_2, eb_2, fun kk_b_2 => ?_⟩
  have q7 := I_5_4 iσ20.1 (ko.up (xσ13.trans (xσ18.trans (xσ19.trans xσ20))))
  refine ⟨⟨⟨by (first | omega | with_reducible assumption | with_reducible exact rng_toInt _ | with_reducible exact rng_wr _ | (unfold rng; omega) | (unfold rng at *; omega) | assumption), by (first | omega | with_reducible assumption | with_reducible exact rng_toInt _ | with_reducible exact rng_wr _ | (unfold rng; omega) | (unfold rng at *; omega) | assumption), by (first | omega | with_reducible assumption | with_reducible exact rng_toInt _ | with_reducible exact rng_wr _ | (unfold rng; omega) | (unfold rng at *; omega) | assumption)⟩, by (first | omega | with_reducible assumption | with_reducible exact rng_toInt _ | with_reducible exact rng_wr _ | (unfold rng; omega) | (unfold rng at *; omega) | assumption), by (first | omega | with_reducible assumption | with_reducible exact rng_toInt _ | with_reducible exact rng_wr _ | (unfold rng; omega) | (unfold rng at *; omega) | assumption)⟩, ?_⟩
  intro σ24 eσ24
  have xσ24 : Ext σ20 σ24 := by rw [eσ24]; exact fun _ h => ⟨h, rfl, rfl⟩
  have iσ24 : IV σ24 pl gq ci gr nc ot LLσ13 Nσ13 nuσ13 := by rw [eσ24]; exact iσ20.wC mb_2 (by omega)
  have fσ24 : Fx [1, 2, 3, 4, 5, 6, 7, 64, 512, 6464] gr σ σ24 := fσ20.tr (Sk.fx (by rw [eσ24]; exact Sk.cpJ (fun _ => by rw [fcdA mb_2 (by decide)]; decide)))
  have kp8 : gI σ24 c_σ13 4 = gI σ20 c_σ13 4 := by rw [eσ24]; rfl
  have kp9 : gI σ24 o 4 = gI σ20 o 4 := by rw [eσ24]; rfl
  have kp10 : gP σ24 c_σ13 0 = gP σ20 c_σ13 0 := by rw [eσ24]; rfl
  have kp11 : gP σ24 th 0 = gP σ20 th 0 := by rw [eσ24]; rfl
  have kp12 : gP σ24 th 3 = gP σ20 th 3 := by rw [eσ24]; rfl
  exact hQ σ24 LLσ13 Nσ13 nuσ13 c_σ13 iσ24 fσ24 (nu_σ13) hnσ13 (⟨hf_c_σ13, pσ13.2.1, pσ13.2.2.1, pσ13.2.2.2⟩)
set_option maxHeartbeats 1000000 in
theorem i_X11_addUp {σ : Sg} {pl : Nat} {gq ci gr nc : Nat → Nat} {ot : Nat → Nat → Int} {LL : Nat → List Nat} {N nu : Nat → Nat} {v0 : Option Nat} {v1 : Option Nat} {v2 : Option Nat} (iσ : IV σ pl gq ci gr nc ot LL N nu) {o : Nat} (hv0 : v0 = some o) (ko : kO σ o 5) {l1 : Nat} (hv1 : v1 = some l1) (kl1 : kO σ l1 101) {l2 : Nat} (hv2 : v2 = some l2) (kl2 : kO σ l2 101) (g1 : 4 ≤ gn σ l1) (g2 : 4 ≤ gn σ l2) (r1 : gr l1 ≠ 9) {Q : Sg → Unit → Prop} {X : Sg → String → Prop} (hQ : ∀ (σ' : Sg) (r : Unit), IV σ' pl gq ci gr nc ot LL N nu → Fx [6464] gr σ σ' → (True) → Q σ' r) : wp_X11_addUp v0 v1 v2 σ Q X := by
  have fσ : Fx [6464] gr σ σ := Fx.rf
  unfold wp_X11_addUp
  unfold w_X11_addUp_0
  have Lp2 : ∀ (fu2 : Nat) (τ2 : Sg) (v3 : Int), IV τ2 pl gq ci gr nc ot LL N nu → Fx [6464] gr σ τ2 → Ext σ τ2 → (0 ≤ v3 ∧ v3 ≤ 8) → ((8 - v3).toNat) < fu2 → wl_X11_addUp_2 Q X fu2 τ2 v0 v1 v2 v3 := by
    intro fu2
    induction fu2 with
    | zero => intro _ _ _ _ _ _ h9; omega
    | succ fu2 ih2 =>
      intro τ2 v3 iτ2 fτ2 xτ2 hi2 hm2
      unfold wl_X11_addUp_2
      unfold w_X11_addUp_2
      refine ⟨o, hv0, fun kk_o => ?_⟩
      have q2 := I_5_4 iτ2.1 (ko.up xτ2)
      by_cases hc1 : v3 ≥ gI τ2 o 4
      · rw [if_pos hc1]
        unfold w_X11_addUp_80
        exact hQ τ2 () iτ2 fτ2 (trivial)
      · rw [if_neg hc1]
        unfold w_X11_addUp_10
        by_cases hc3 : v3 ≥ 4
        · rw [if_pos hc3]
          unfold w_X11_addUp_80
          exact hQ τ2 () iτ2 fτ2 (trivial)
        · rw [if_neg hc3]
          unfold w_X11_addUp_15
          refine ⟨o, hv0, fun kk_o_1 => ?_⟩
          obtain ⟨b, eb, fb⟩ := P_5_2 iτ2.1 (ko.up xτ2)
          have mb : kO τ2 b 100 := iτ2.1.kd (ko.up xτ2) rfl eb rfl
          refine ⟨b, eb, fun kk_b => ?_⟩
          refine ⟨⟨by (first | omega | with_reducible assumption | with_reducible exact rng_toInt _ | with_reducible exact rng_wr _ | (unfold rng; omega) | (unfold rng at *; omega) | assumption), by (first | omega | with_reducible assumption | with_reducible exact rng_toInt _ | with_reducible exact rng_wr _ | (unfold rng; omega) | (unfold rng at *; omega) | assumption)⟩, ?_⟩
          have q5 := iτ2.rg b v3.toNat; unfold rng at q5
          by_cases hc4 : (gI τ2 b v3.toNat) ≠ 2
          · rw [if_pos hc4]
            unfold w_X11_addUp_40
            refine ⟨o, hv0, fun kk_o_2 => ?_⟩
            refine ⟨b, eb, fun kk_b_1 => ?_⟩
            refine ⟨⟨by (first | omega | with_reducible assumption | with_reducible exact rng_toInt _ | with_reducible exact rng_wr _ | (unfold rng; omega) | (unfold rng at *; omega) | assumption), by (first | omega | with_reducible assumption | with_reducible exact rng_toInt _ | with_reducible exact rng_wr _ | (unfold rng; omega) | (unfold rng at *; omega) | assumption)⟩, ?_⟩
            by_cases hc6 : (gI τ2 b v3.toNat) ≠ 3
            · rw [if_pos hc6]
              unfold w_X11_addUp_65
              refine ⟨l1, hv1, fun kk_l1 => ?_⟩
              have q7 := (xτ2 l1 kl1.1).2.2
              refine ⟨⟨by (first | omega | with_reducible assumption | with_reducible exact rng_toInt _ | with_reducible exact rng_wr _ | (unfold rng; omega) | (unfold rng at *; omega) | assumption), by (first | omega | with_reducible assumption | with_reducible exact rng_toInt _ | with_reducible exact rng_wr _ | (unfold rng; omega) | (unfold rng at *; omega) | assumption)⟩, ?_⟩
              refine ⟨l2, hv2, fun kk_l2 => ?_⟩
              have q8 := (xτ2 l2 kl2.1).2.2
              refine ⟨⟨by (first | omega | with_reducible assumption | with_reducible exact rng_toInt _ | with_reducible exact rng_wr _ | (unfold rng; omega) | (unfold rng at *; omega) | assumption), by (first | omega | with_reducible assumption | with_reducible exact rng_toInt _ | with_reducible exact rng_wr _ | (unfold rng; omega) | (unfold rng at *; omega) | assumption)⟩, ?_⟩
              refine ⟨⟨by (first | omega | with_reducible assumption | with_reducible exact rng_toInt _ | with_reducible exact rng_wr _ | (unfold rng; omega) | (unfold rng at *; omega) | assumption), by (first | omega | with_reducible assumption | with_reducible exact rng_toInt _ | with_reducible exact rng_wr _ | (unfold rng; omega) | (unfold rng at *; omega) | assumption)⟩, ?_⟩
              intro σ36 eσ36
              have xσ36 : Ext τ2 σ36 := by rw [eσ36]; exact fun _ h => ⟨h, rfl, rfl⟩
              have iσ36 : IV σ36 pl gq ci gr nc ot LL N nu := by rw [eσ36]; exact iτ2.wL (kl1.up xτ2) (by omega)
              have fσ36 : Fx [6464] gr σ σ36 := fτ2.tr (Sk.fx (by rw [eσ36]; exact Sk.pJ (by rw [fcdA (kl1.up xτ2) (by decide)]; decide)))
              have kp9 : gI σ36 o 4 = gI τ2 o 4 := by rw [eσ36]
              have kp10 : gP σ36 o 2 = gP τ2 o 2 := by rw [eσ36]
              unfold w_X11_addUp_74
              refine ⟨by (first | omega | with_reducible assumption | with_reducible exact rng_toInt _ | with_reducible exact rng_wr _ | (unfold rng; omega) | (unfold rng at *; omega) | assumption), ?_⟩
              exact ih2 σ36 (v3 + 1) iσ36 fσ36 (xτ2.trans xσ36) (by (first | omega | with_reducible assumption | with_reducible exact rng_toInt _ | with_reducible exact rng_wr _ | (unfold rng; omega) | (unfold rng at *; omega) | assumption)) (by (first | omega | with_reducible assumption | with_reducible exact rng_toInt _ | with_reducible exact rng_wr _ | (unfold rng; omega) | (unfold rng at *; omega) | assumption))
            · rw [if_neg hc6]
              have hc6q := Classical.not_not.mp hc6
              unfold w_X11_addUp_50
              refine ⟨l1, hv1, fun kk_l1_1 => ?_⟩
              have q11 := (xτ2 l1 kl1.1).2.2
              refine ⟨⟨by (first | omega | with_reducible assumption | with_reducible exact rng_toInt _ | with_reducible exact rng_wr _ | (unfold rng; omega) | (unfold rng at *; omega) | assumption), by (first | omega | with_reducible assumption | with_reducible exact rng_toInt _ | with_reducible exact rng_wr _ | (unfold rng; omega) | (unfold rng at *; omega) | assumption)⟩, ?_⟩
              refine ⟨l2, hv2, fun kk_l2_1 => ?_⟩
              have q12 := (xτ2 l2 kl2.1).2.2
              refine ⟨⟨by (first | omega | with_reducible assumption | with_reducible exact rng_toInt _ | with_reducible exact rng_wr _ | (unfold rng; omega) | (unfold rng at *; omega) | assumption), by (first | omega | with_reducible assumption | with_reducible exact rng_toInt _ | with_reducible exact rng_wr _ | (unfold rng; omega) | (unfold rng at *; omega) | assumption)⟩, ?_⟩
              refine i_J9_max_f86c9 iτ2 (fun r32 pσ31 => ?_)
              intro xσ31
              refine ⟨⟨by (first | omega | with_reducible assumption | with_reducible exact rng_toInt _ | with_reducible exact rng_wr _ | (unfold rng; omega) | (unfold rng at *; omega) | assumption), by (first | omega | with_reducible assumption | with_reducible exact rng_toInt _ | with_reducible exact rng_wr _ | (unfold rng; omega) | (unfold rng at *; omega) | assumption)⟩, ?_⟩
              intro σ33 eσ33
              have xσ33 : Ext τ2 σ33 := by rw [eσ33]; exact fun _ h => ⟨h, rfl, rfl⟩
              have iσ33 : IV σ33 pl gq ci gr nc ot LL N nu := by rw [eσ33]; exact iτ2.wL (kl1.up xτ2) (by omega)
              have fσ33 : Fx [6464] gr σ σ33 := fτ2.tr (Sk.fx (by rw [eσ33]; exact Sk.pJ (by rw [fcdA (kl1.up xτ2) (by decide)]; decide)))
              have kp13 : gI σ33 o 4 = gI τ2 o 4 := by rw [eσ33]
              have kp14 : gP σ33 o 2 = gP τ2 o 2 := by rw [eσ33]
              unfold w_X11_addUp_74
              refine ⟨by (first | omega | with_reducible assumption | with_reducible exact rng_toInt _ | with_reducible exact rng_wr _ | (unfold rng; omega) | (unfold rng at *; omega) | assumption), ?_⟩
              exact ih2 σ33 (v3 + 1) iσ33 fσ33 (xτ2.trans xσ33) (by (first | omega | with_reducible assumption | with_reducible exact rng_toInt _ | with_reducible exact rng_wr _ | (unfold rng; omega) | (unfold rng at *; omega) | assumption)) (by (first | omega | with_reducible assumption | with_reducible exact rng_toInt _ | with_reducible exact rng_wr _ | (unfold rng; omega) | (unfold rng at *; omega) | assumption))
          · rw [if_neg hc4]
            have hc4q := Classical.not_not.mp hc4
            unfold w_X11_addUp_25
            refine ⟨l1, hv1, fun kk_l1_2 => ?_⟩
            have q15 := (xτ2 l1 kl1.1).2.2
            refine ⟨⟨by (first | omega | with_reducible assumption | with_reducible exact rng_toInt _ | with_reducible exact rng_wr _ | (unfold rng; omega) | (unfold rng at *; omega) | assumption), by (first | omega | with_reducible assumption | with_reducible exact rng_toInt _ | with_reducible exact rng_wr _ | (unfold rng; omega) | (unfold rng at *; omega) | assumption)⟩, ?_⟩
            refine ⟨l2, hv2, fun kk_l2_2 => ?_⟩
            have q16 := (xτ2 l2 kl2.1).2.2
            refine ⟨⟨by (first | omega | with_reducible assumption | with_reducible exact rng_toInt _ | with_reducible exact rng_wr _ | (unfold rng; omega) | (unfold rng at *; omega) | assumption), by (first | omega | with_reducible assumption | with_reducible exact rng_toInt _ | with_reducible exact rng_wr _ | (unfold rng; omega) | (unfold rng at *; omega) | assumption)⟩, ?_⟩
            refine i_J9_min_f86c9 iτ2 (fun r25 pσ24 => ?_)
            intro xσ24
            refine ⟨⟨by (first | omega | with_reducible assumption | with_reducible exact rng_toInt _ | with_reducible exact rng_wr _ | (unfold rng; omega) | (unfold rng at *; omega) | assumption), by (first | omega | with_reducible assumption | with_reducible exact rng_toInt _ | with_reducible exact rng_wr _ | (unfold rng; omega) | (unfold rng at *; omega) | assumption)⟩, ?_⟩
            intro σ26 eσ26
            have xσ26 : Ext τ2 σ26 := by rw [eσ26]; exact fun _ h => ⟨h, rfl, rfl⟩
            have iσ26 : IV σ26 pl gq ci gr nc ot LL N nu := by rw [eσ26]; exact iτ2.wL (kl1.up xτ2) (by omega)
            have fσ26 : Fx [6464] gr σ σ26 := fτ2.tr (Sk.fx (by rw [eσ26]; exact Sk.pJ (by rw [fcdA (kl1.up xτ2) (by decide)]; decide)))
            have kp17 : gI σ26 o 4 = gI τ2 o 4 := by rw [eσ26]
            have kp18 : gP σ26 o 2 = gP τ2 o 2 := by rw [eσ26]
            unfold w_X11_addUp_74
            refine ⟨by (first | omega | with_reducible assumption | with_reducible exact rng_toInt _ | with_reducible exact rng_wr _ | (unfold rng; omega) | (unfold rng at *; omega) | assumption), ?_⟩
            exact ih2 σ26 (v3 + 1) iσ26 fσ26 (xτ2.trans xσ26) (by (first | omega | with_reducible assumption | with_reducible exact rng_toInt _ | with_reducible exact rng_wr _ | (unfold rng; omega) | (unfold rng at *; omega) | assumption)) (by (first | omega | with_reducible assumption | with_reducible exact rng_toInt _ | with_reducible exact rng_wr _ | (unfold rng; omega) | (unfold rng at *; omega) | assumption))
  exact ⟨_, Lp2 _ σ _ iσ fσ (Ext.rfl' _) (by (first | omega | with_reducible assumption | with_reducible exact rng_toInt _ | with_reducible exact rng_wr _ | (unfold rng; omega) | (unfold rng at *; omega) | assumption)) (Nat.lt_succ_self _)⟩
set_option maxHeartbeats 1000000 in
theorem i_X11_becomeRow {σ : Sg} {pl : Nat} {gq ci gr nc : Nat → Nat} {ot : Nat → Nat → Int} {LL : Nat → List Nat} {N nu : Nat → Nat} {v0 : Option Nat} {v1 : Option Nat} {v2 : Int} (iσ : IV σ pl gq ci gr nc ot LL N nu) {o : Nat} (hv0 : v0 = some o) (ko : kO σ o 5) {c : Nat} (hv1 : v1 = some c) (kc : kO σ c 0) (hm : -1 ≤ v2 ∧ v2 ≤ 1000) (hs : -(N 3 : Int) + 2000 ≤ (gJ σ c 5).toInt ∧ (gJ σ c 5).toInt + 2000 ≤ (N 3 : Int)) {Q : Sg → Unit → Prop} {X : Sg → String → Prop} (hQ : ∀ (σ' : Sg) (r : Unit), IV σ' pl gq ci gr nc ot LL N nu → Fx [5, 6464] gr σ σ' → (True) → Q σ' r) : wp_X11_becomeRow v0 v1 v2 σ Q X := by
  have fσ : Fx [5, 6464] gr σ σ := Fx.rf
  unfold wp_X11_becomeRow
  unfold w_X11_becomeRow_0
  refine ⟨c, hv1, fun kk_c => ?_⟩
  intro σ13 eσ13
  have xσ13 : Ext σ σ13 := by rw [eσ13]; exact fun _ h => ⟨h, rfl, rfl⟩
  have iσ13 : IV σ13 pl gq ci gr nc ot LL N nu := by rw [eσ13]; exact iσ.wT kc (by decide) (tb_add hs iσ.m3.2 (by omega))
  have fσ13 : Fx [5, 6464] gr σ σ13 := fσ.tr (Sk.fx (by rw [eσ13]; exact Sk.pJ (by rw [fcdO kc (by decide)]; decide)))
  refine ⟨o, hv0, fun kk_o => ?_⟩
  have q1 := I_5_4 iσ13.1 (ko.up xσ13)
  refine i_J9_min_7cf53 iσ13 (fun r16 pσ15 => ?_)
  intro xσ15
  have Lp21 : ∀ (fu21 : Nat) (τ21 : Sg) (v3 : Int), IV τ21 pl gq ci gr nc ot LL N nu → Fx [5, 6464] gr σ τ21 → Ext σ13 τ21 → (-1 ≤ v3 ∧ v3 ≤ 7) → ((v3 + 1).toNat) < fu21 → wl_X11_becomeRow_21 Q X fu21 τ21 v1 v3 := by
    intro fu21
    induction fu21 with
    | zero => intro _ _ _ _ _ _ h9; omega
    | succ fu21 ih21 =>
      intro τ21 v3 iτ21 fτ21 xτ21 hi21 hm21
      unfold wl_X11_becomeRow_21
      have kp2 : gI τ21 o 4 = gI σ13 o 4 := (fτ21.O ko (by decide)).1.trans (fσ13.O ko (by decide)).1.symm
      unfold w_X11_becomeRow_21
      by_cases hc3 : v3 ≤ 0
      · rw [if_pos hc3]
        unfold w_X11_becomeRow_45
        refine ⟨c, hv1, fun kk_c_1 => ?_⟩
        obtain ⟨b, eb, fb⟩ := P_0_0 iτ21.1 (kc.up (xσ13.trans xτ21))
        have mb : kO τ21 b 101 := iτ21.1.kd (kc.up (xσ13.trans xτ21)) rfl eb rfl
        refine ⟨b, eb, fun kk_b => ?_⟩
        refine ⟨⟨by (first | omega | with_reducible assumption | with_reducible exact rng_toInt _ | with_reducible exact rng_wr _ | (unfold rng; omega) | (unfold rng at *; omega) | assumption), by (first | omega | with_reducible assumption | with_reducible exact rng_toInt _ | with_reducible exact rng_wr _ | (unfold rng; omega) | (unfold rng at *; omega) | assumption)⟩, ?_⟩
        intro σ22 eσ22
        have xσ22 : Ext τ21 σ22 := by rw [eσ22]; exact fun _ h => ⟨h, rfl, rfl⟩
        have iσ22 : IV σ22 pl gq ci gr nc ot LL N nu := by rw [eσ22]; exact iτ21.wL mb (by omega)
        have fσ22 : Fx [5, 6464] gr σ σ22 := fτ21.tr (Sk.fx (by rw [eσ22]; exact Sk.pJ (by rw [fcdA mb (by decide)]; decide)))
        have kp4 : gI σ22 o 4 = gI τ21 o 4 := by rw [eσ22]
        have kp5 : gP σ22 c 0 = gP τ21 c 0 := by rw [eσ22]
        exact hQ σ22 () iσ22 fσ22 (trivial)
      · rw [if_neg hc3]
        unfold w_X11_becomeRow_25
        refine ⟨c, hv1, fun kk_c_2 => ?_⟩
        refine ⟨by (first | omega | with_reducible assumption | with_reducible exact rng_toInt _ | with_reducible exact rng_wr _ | (unfold rng; omega) | (unfold rng at *; omega) | assumption), ?_⟩
        obtain ⟨b_1, eb_1, fb_1⟩ := P_0_0 iτ21.1 (kc.up (xσ13.trans xτ21))
        have mb_1 : kO τ21 b_1 101 := iτ21.1.kd (kc.up (xσ13.trans xτ21)) rfl eb_1 rfl
        refine ⟨b_1, eb_1, fun kk_b_1 => ?_⟩
        refine ⟨⟨by (first | omega | with_reducible assumption | with_reducible exact rng_toInt _ | with_reducible exact rng_wr _ | (unfold rng; omega) | (unfold rng at *; omega) | assumption), by (first | omega | with_reducible assumption | with_reducible exact rng_toInt _ | with_reducible exact rng_wr _ | (unfold rng; omega) | (unfold rng at *; omega) | assumption)⟩, ?_⟩
        refine ⟨⟨by (first | omega | with_reducible assumption | with_reducible exact rng_toInt _ | with_reducible exact rng_wr _ | (unfold rng; omega) | (unfold rng at *; omega) | assumption), by (first | omega | with_reducible assumption | with_reducible exact rng_toInt _ | with_reducible exact rng_wr _ | (unfold rng; omega) | (unfold rng at *; omega) | assumption)⟩, ?_⟩
        intro σ19 eσ19
        have xσ19 : Ext τ21 σ19 := by rw [eσ19]; exact fun _ h => ⟨h, rfl, rfl⟩
        have iσ19 : IV σ19 pl gq ci gr nc ot LL N nu := by rw [eσ19]; exact iτ21.wL mb_1 (by omega)
        have fσ19 : Fx [5, 6464] gr σ σ19 := fτ21.tr (Sk.fx (by rw [eσ19]; exact Sk.pJ (by rw [fcdA mb_1 (by decide)]; decide)))
        have kp6 : gI σ19 o 4 = gI τ21 o 4 := by rw [eσ19]
        have kp7 : gP σ19 c 0 = gP τ21 c 0 := by rw [eσ19]
        refine ⟨by (first | omega | with_reducible assumption | with_reducible exact rng_toInt _ | with_reducible exact rng_wr _ | (unfold rng; omega) | (unfold rng at *; omega) | assumption), ?_⟩
        exact ih21 σ19 (v3 + (-1)) iσ19 fσ19 (xτ21.trans xσ19) (by (first | omega | with_reducible assumption | with_reducible exact rng_toInt _ | with_reducible exact rng_wr _ | (unfold rng; omega) | (unfold rng at *; omega) | assumption)) (by (first | omega | with_reducible assumption | with_reducible exact rng_toInt _ | with_reducible exact rng_wr _ | (unfold rng; omega) | (unfold rng at *; omega) | assumption))
  exact ⟨_, Lp21 _ σ13 _ iσ13 fσ13 (Ext.rfl' _) (by (first | omega | with_reducible assumption | with_reducible exact rng_toInt _ | with_reducible exact rng_wr _ | (unfold rng; omega) | (unfold rng at *; omega) | assumption)) (Nat.lt_succ_self _)⟩
set_option maxHeartbeats 1000000 in
theorem i1_X11_keep {σ : Sg} {pl : Nat} {gq ci gr nc : Nat → Nat} {ot : Nat → Nat → Int} {LL : Nat → List Nat} {N nu : Nat → Nat} {th : Nat} {v1 : Option Nat} {v2 : Option Nat} {v3 : Int} {v4 : Option Nat} {J i G0 : Nat} (iσ : IV σ pl gq ci gr nc ot LL N nu) (kth : kO σ th 11) {o : Nat} (hv1 : v1 = some o) (ko : kO σ o 5) {t : Nat} (hv2 : v2 = some t) (kt : kO σ t 10) {c : Nat} (hv4 : v4 = some c) (kc : kO σ c 0) (hq : gq th = 1) (hf : ∀ x, c ∉ LL x) (h1 : 1 ≤ N 1) (hj : gP σ th 5 = some J) (kJ : kO σ J 4) (hJ : gq J = nc 0) (ho : gq o = 16 * nc 0 + i) (hi : i < nc 1) (ht : gq t = 1) (hl : ci t < nu 15) (hto : gI σ t 0 = (i : Int)) (h5 : nu 5 < 24000) (h7 : 0 ≤ ot i 7) (hG : (v3 = 0 ∧ G0 = 11) ∨ (v3 ≠ 0 ∧ G0 = 12)) {Q : Sg → Unit → Prop} {X : Sg → String → Prop} (hQ : ∀ (σ' : Sg) (LL' : Nat → List Nat) (N' nu' : Nat → Nat) (r : Unit), IV σ' pl gq ci gr nc ot LL' N' nu' → Fx [1, 64, 512, 708] gr σ σ' → NU nu nu' → Hn (gD σ) [G0] [c] gq LL LL' N N' → (N' 1 + 1 = N 1 ∧ N' G0 = N G0 + 1) → Q σ' r) (hX : ∀ (σ' : Sg) (LL' : Nat → List Nat) (N' nu' : Nat → Nat) (E : String), IV σ' pl gq ci gr nc ot LL' N' nu' → Fx [1, 64, 512, 708] gr σ σ' → NX nu nu' → ((N' 1 ≤ N 1 + 0 ∧ N' 5 = N 5 ∧ N' 3 = N 3 ∧ N' 14 = N 14 ∧ N' 44 = N 44 ∧ N' 74 = N 74) ∧ NZ N N' ∧ E = "java/lang/IllegalStateException") → X σ' E) : wp_X11_keep th v1 v2 v3 v4 σ Q X := by
  have fσ : Fx [1, 64, 512, 708] gr σ σ := Fx.rf
  have hnσ : Hn (gD σ) [G0] [c] gq LL LL N N := Hn.rf
  have lo_c : Lo [c] (gD σ) LL c := Or.inl (by simp)
  have q1 := I_10_0 iσ.1 kt
  have q7 := iσ.op ko ho hi 7 (by decide)
  have rc := iσ.recs1 kth (by omega)
  unfold wp_X11_keep
  unfold w_X11_keep_0
  refine ⟨J, hj, fun kk_J => ?_⟩
  by_cases hc2 : v3 = 0
  · rw [if_pos hc2]
    unfold w_X11_keep_19
    refine ⟨o, hv1, fun kk_o => ?_⟩
    unfold w_X11_keep_30
    obtain ⟨b, eb, fb⟩ := P_4_0 iσ.1 kJ
    have mb : kO σ b 115 := iσ.1.kd kJ rfl eb rfl
    refine ⟨b, eb, fun kk_b => ?_⟩
    have q3 := I_5_7 iσ.1 ko
    refine ⟨⟨by (first | omega | with_reducible assumption | with_reducible exact rng_toInt _ | with_reducible exact rng_wr _ | (unfold rng; omega) | (unfold rng at *; omega) | assumption), by (first | omega | with_reducible assumption | with_reducible exact rng_toInt _ | with_reducible exact rng_wr _ | (unfold rng; omega) | (unfold rng at *; omega) | assumption)⟩, ?_⟩
    obtain ⟨b_1, eb_1⟩ := P_115 iσ.1 mb (k := (gI σ o 7).toNat) (by (first | omega | with_reducible assumption | with_reducible exact rng_toInt _ | with_reducible exact rng_wr _ | (unfold rng; omega) | (unfold rng at *; omega) | assumption))
    have fb_1 := T_115 iσ.1 mb eb_1
    have mb_1 : kO σ b_1 5 := iσ.1.kd mb rfl eb_1 rfl
    refine ⟨b_1, eb_1, fun kk_b_1 => ?_⟩
    refine i1_X11_countRecord iσ kth (by (first | omega | with_reducible assumption | with_reducible exact rng_toInt _ | with_reducible exact rng_wr _ | (unfold rng; omega) | (unfold rng at *; omega) | assumption)) (by (first | omega | with_reducible assumption | with_reducible exact rng_toInt _ | with_reducible exact rng_wr _ | (unfold rng; omega) | (unfold rng at *; omega) | assumption)) (fun σ20 _ iσ20 cσ20 pσ20 => ?_) (fun σx LLx Nx nux E ix cx ux px => hX σx LLx Nx nux E ix (fσ.tr (cx.mo (by decide))) (ux) (by first | exact px | exact ⟨by have := px.1; omega, px.2.1, px.2.2⟩ | (first | omega | with_reducible assumption | with_reducible exact rng_toInt _ | with_reducible exact rng_wr _ | (unfold rng; omega) | (unfold rng at *; omega) | assumption)))
    intro xσ20
    have fσ20 : Fx [1, 64, 512, 708] gr σ σ20 := fσ.tr (cσ20.mo (by decide))
    have kp4 : gI σ20 o 7 = gI σ o 7 := (cσ20.O ko (by decide)).1
    have kp5 : gI σ20 t 0 = gI σ t 0 := (cσ20.O kt (by decide)).1
    have kp6 : gP σ20 J 0 = gP σ J 0 := (cσ20.O kJ (by decide)).2.1
    have kp7 : gP σ20 b (gI σ o 7).toNat = gP σ b (gI σ o 7).toNat := (cσ20.A mb (by decide)).2.1
    have kp8 : gP σ20 th 5 = gP σ th 5 := (cσ20.O kth (by decide)).2.1
    by_cases hc9 : v3 ≠ 0
    · rw [if_pos hc9]
      unfold w_X11_keep_51
      refine ⟨t, hv2, fun kk_t => ?_⟩
      unfold w_X11_keep_55
      refine ⟨o, hv1, fun kk_o_1 => ?_⟩
      have q10 := I_5_6 iσ20.1 (ko.up xσ20)
      refine i_X11_orderOf iσ20 (fun r24 pσ23 => ?_)
      intro xσ23
      obtain ⟨b_2, eb_2, fb_2⟩ := P_10_3 iσ20.1 (kt.up xσ20)
      have mb_2 : kO σ20 b_2 1 := iσ20.1.kd (kt.up xσ20) rfl eb_2 rfl
      refine ⟨b_2, eb_2, fun kk_b_2 => ?_⟩
      have q11 := I_5_3 iσ.1 mb_1
      refine i_X1_insert (G0 := G0) iσ20 mb_2 hv4 (kc.up xσ20) (by omega) (by (first | omega | with_reducible assumption | with_reducible exact rng_toInt _ | with_reducible exact rng_wr _ | (unfold rng; omega) | (unfold rng at *; omega) | assumption)) (by (first | omega | with_reducible assumption | with_reducible exact rng_toInt _ | with_reducible exact rng_wr _ | (unfold rng; omega) | (unfold rng at *; omega) | assumption)) (plc_ab (i := i) iσ20 (by omega) (by omega) (kt.up xσ20) (by omega) (by omega) (by omega) (by first | exact h7 | exact (iσ20.opok hi).2.2.2.1 (by omega))) (no50 (by first | decide | omega)) (no13 (by first | decide | omega)) (fun N9 n1 n2 => sc_ab1 iσ20 (kth.up xσ20) (by omega) (by omega) n1 n2 (by omega)) (fun σ25 LLσ25 Nσ25 nuσ25 _ iσ25 cσ25 uσ25 hσ25 pσ25 => ?_)
      intro xσ25
      have fσ25 : Fx [1, 64, 512, 708] gr σ σ25 := fσ20.tr (cσ25.mo (by decide))
      have hnσ25 : Hn (gD σ) [G0] [c] gq LL LLσ25 N Nσ25 := hnσ.go hσ25 (fun d hd => (fσ20.1 d hd).1) (by first | decide | exact fun _ h => h | (simp; done) | (intro x hx; simp only [List.mem_cons, List.mem_nil_iff, or_false] at hx ⊢; omega)) (fun d hd => by rw [List.mem_singleton.mp hd]; exact lo_c)
      have nσ25_3 := hσ25.2.2 3 (by first | decide | (simp; done) | (simp only [List.mem_cons, List.mem_nil_iff, or_false, not_or]; omega)) (by first | decide | omega) (by first | decide | omega) (by first | decide | omega)
      have nσ25_5 := hσ25.2.2 5 (by first | decide | (simp; done) | (simp only [List.mem_cons, List.mem_nil_iff, or_false, not_or]; omega)) (by first | decide | omega) (by first | decide | omega) (by first | decide | omega)
      have nσ25_14 := hσ25.2.2 14 (by first | decide | (simp; done) | (simp only [List.mem_cons, List.mem_nil_iff, or_false, not_or]; omega)) (by first | decide | omega) (by first | decide | omega) (by first | decide | omega)
      have nσ25_44 := hσ25.2.2 44 (by first | decide | (simp; done) | (simp only [List.mem_cons, List.mem_nil_iff, or_false, not_or]; omega)) (by first | decide | omega) (by first | decide | omega) (by first | decide | omega)
      have nσ25_74 := hσ25.2.2 74 (by first | decide | (simp; done) | (simp only [List.mem_cons, List.mem_nil_iff, or_false, not_or]; omega)) (by first | decide | omega) (by first | decide | omega) (by first | decide | omega)
      have nσ25_13 := hσ25.2.2 13 (by first | decide | (simp; done) | (simp only [List.mem_cons, List.mem_nil_iff, or_false, not_or]; omega)) (by first | decide | omega) (by first | decide | omega) (by first | decide | omega)
      have nu_σ25 : NU nu nuσ25 := uσ25
      have uσ25_0 := uσ25.1 0 (by decide)
      have uσ25_1 := uσ25.1 1 (by decide)
      have uσ25_2 := uσ25.2
      have uσ25_5 := uσ25.1 5 (by decide)
      have uσ25_15 := uσ25.1 15 (by decide)
      have uσ25_16 := uσ25.1 16 (by decide)
      have kp12 : gI σ25 o 6 = gI σ20 o 6 := (cσ25.O (ko.up xσ20) (by decide)).1
      have kp13 : gI σ25 o 7 = gI σ20 o 7 := (cσ25.O (ko.up xσ20) (by decide)).1
      have kp14 : gI σ25 t 0 = gI σ20 t 0 := (cσ25.O (kt.up xσ20) (by decide)).1
      have kp15 : gP σ25 J 0 = gP σ20 J 0 := (cσ25.O (kJ.up xσ20) (by decide)).2.1
      have kp16 : gP σ25 b (gI σ o 7).toNat = gP σ20 b (gI σ o 7).toNat := (cσ25.A (mb.up xσ20) (by decide)).2.1
      have kp17 : gP σ25 t 3 = gP σ20 t 3 := (cσ25.O (kt.up xσ20) (by decide)).2.1
      have kp18 : gP σ25 th 5 = gP σ20 th 5 := (cσ25.O (kth.up xσ20) (by decide)).2.1
      exact hQ σ25 LLσ25 Nσ25 nuσ25 () iσ25 fσ25 (nu_σ25) hnσ25 (by (first | omega | with_reducible assumption | with_reducible exact rng_toInt _ | with_reducible exact rng_wr _ | (unfold rng; omega) | (unfold rng at *; omega) | assumption))
    · rw [if_neg hc9]
      have hc9q := Classical.not_not.mp hc9
      unfold w_X11_keep_44
      refine ⟨t, hv2, fun kk_t_1 => ?_⟩
      unfold w_X11_keep_55
      refine ⟨o, hv1, fun kk_o_2 => ?_⟩
      have q19 := I_5_6 iσ20.1 (ko.up xσ20)
      refine i_X11_orderOf iσ20 (fun r24_1 pσ23_1 => ?_)
      intro xσ23_1
      obtain ⟨b_3, eb_3, fb_3⟩ := P_10_2 iσ20.1 (kt.up xσ20)
      have mb_3 : kO σ20 b_3 1 := iσ20.1.kd (kt.up xσ20) rfl eb_3 rfl
      refine ⟨b_3, eb_3, fun kk_b_3 => ?_⟩
      have q20 := I_5_3 iσ.1 mb_1
      refine i_X1_insert (G0 := G0) iσ20 mb_3 hv4 (kc.up xσ20) (by omega) (by (first | omega | with_reducible assumption | with_reducible exact rng_toInt _ | with_reducible exact rng_wr _ | (unfold rng; omega) | (unfold rng at *; omega) | assumption)) (by (first | omega | with_reducible assumption | with_reducible exact rng_toInt _ | with_reducible exact rng_wr _ | (unfold rng; omega) | (unfold rng at *; omega) | assumption)) (plc_ab (i := i) iσ20 (by omega) (by omega) (kt.up xσ20) (by omega) (by omega) (by omega) (by first | exact h7 | exact (iσ20.opok hi).2.2.2.1 (by omega))) (no50 (by first | decide | omega)) (no13 (by first | decide | omega)) (fun N9 n1 n2 => sc_ab1 iσ20 (kth.up xσ20) (by omega) (by omega) n1 n2 (by omega)) (fun σ25_1 LLσ25_1 Nσ25_1 nuσ25_1 _ iσ25_1 cσ25_1 uσ25_1 hσ25_1 pσ25_1 => ?_)
      intro xσ25_1
      have fσ25_1 : Fx [1, 64, 512, 708] gr σ σ25_1 := fσ20.tr (cσ25_1.mo (by decide))
      have hnσ25_1 : Hn (gD σ) [G0] [c] gq LL LLσ25_1 N Nσ25_1 := hnσ.go hσ25_1 (fun d hd => (fσ20.1 d hd).1) (by first | decide | exact fun _ h => h | (simp; done) | (intro x hx; simp only [List.mem_cons, List.mem_nil_iff, or_false] at hx ⊢; omega)) (fun d hd => by rw [List.mem_singleton.mp hd]; exact lo_c)
      have nσ25_1_3 := hσ25_1.2.2 3 (by first | decide | (simp; done) | (simp only [List.mem_cons, List.mem_nil_iff, or_false, not_or]; omega)) (by first | decide | omega) (by first | decide | omega) (by first | decide | omega)
      have nσ25_1_5 := hσ25_1.2.2 5 (by first | decide | (simp; done) | (simp only [List.mem_cons, List.mem_nil_iff, or_false, not_or]; omega)) (by first | decide | omega) (by first | decide | omega) (by first | decide | omega)
      have nσ25_1_14 := hσ25_1.2.2 14 (by first | decide | (simp; done) | (simp only [List.mem_cons, List.mem_nil_iff, or_false, not_or]; omega)) (by first | decide | omega) (by first | decide | omega) (by first | decide | omega)
      have nσ25_1_44 := hσ25_1.2.2 44 (by first | decide | (simp; done) | (simp only [List.mem_cons, List.mem_nil_iff, or_false, not_or]; omega)) (by first | decide | omega) (by first | decide | omega) (by first | decide | omega)
      have nσ25_1_74 := hσ25_1.2.2 74 (by first | decide | (simp; done) | (simp only [List.mem_cons, List.mem_nil_iff, or_false, not_or]; omega)) (by first | decide | omega) (by first | decide | omega) (by first | decide | omega)
      have nσ25_1_13 := hσ25_1.2.2 13 (by first | decide | (simp; done) | (simp only [List.mem_cons, List.mem_nil_iff, or_false, not_or]; omega)) (by first | decide | omega) (by first | decide | omega) (by first | decide | omega)
      have nu_σ25_1 : NU nu nuσ25_1 := uσ25_1
      have uσ25_1_0 := uσ25_1.1 0 (by decide)
      have uσ25_1_1 := uσ25_1.1 1 (by decide)
      have uσ25_1_2 := uσ25_1.2
      have uσ25_1_5 := uσ25_1.1 5 (by decide)
      have uσ25_1_15 := uσ25_1.1 15 (by decide)
      have uσ25_1_16 := uσ25_1.1 16 (by decide)
      have kp21 : gI σ25_1 o 6 = gI σ20 o 6 := (cσ25_1.O (ko.up xσ20) (by decide)).1
      have kp22 : gI σ25_1 o 7 = gI σ20 o 7 := (cσ25_1.O (ko.up xσ20) (by decide)).1
      have kp23 : gI σ25_1 t 0 = gI σ20 t 0 := (cσ25_1.O (kt.up xσ20) (by decide)).1
      have kp24 : gP σ25_1 J 0 = gP σ20 J 0 := (cσ25_1.O (kJ.up xσ20) (by decide)).2.1
      have kp25 : gP σ25_1 b (gI σ o 7).toNat = gP σ20 b (gI σ o 7).toNat := (cσ25_1.A (mb.up xσ20) (by decide)).2.1
      have kp26 : gP σ25_1 t 2 = gP σ20 t 2 := (cσ25_1.O (kt.up xσ20) (by decide)).2.1
      have kp27 : gP σ25_1 th 5 = gP σ20 th 5 := (cσ25_1.O (kth.up xσ20) (by decide)).2.1
      exact hQ σ25_1 LLσ25_1 Nσ25_1 nuσ25_1 () iσ25_1 fσ25_1 (nu_σ25_1) hnσ25_1 (by (first | omega | with_reducible assumption | with_reducible exact rng_toInt _ | with_reducible exact rng_wr _ | (unfold rng; omega) | (unfold rng at *; omega) | assumption))
  · rw [if_neg hc2]
    unfold w_X11_keep_11
    refine ⟨o, hv1, fun kk_o_3 => ?_⟩
    have q29 := I_5_8 iσ.1 ko
    by_cases hc28 : gI σ o 8 ≠ (-1)
    · rw [if_pos hc28]
      unfold w_X11_keep_26
      refine ⟨o, hv1, fun kk_o_4 => ?_⟩
      unfold w_X11_keep_30
      obtain ⟨b_4, eb_4, fb_4⟩ := P_4_0 iσ.1 kJ
      have mb_4 : kO σ b_4 115 := iσ.1.kd kJ rfl eb_4 rfl
      refine ⟨b_4, eb_4, fun kk_b_4 => ?_⟩
      refine ⟨⟨by (first | omega | with_reducible assumption | with_reducible exact rng_toInt _ | with_reducible exact rng_wr _ | (unfold rng; omega) | (unfold rng at *; omega) | assumption), by (first | omega | with_reducible assumption | with_reducible exact rng_toInt _ | with_reducible exact rng_wr _ | (unfold rng; omega) | (unfold rng at *; omega) | assumption)⟩, ?_⟩
      obtain ⟨b_5, eb_5⟩ := P_115 iσ.1 mb_4 (k := (gI σ o 8).toNat) (by (first | omega | with_reducible assumption | with_reducible exact rng_toInt _ | with_reducible exact rng_wr _ | (unfold rng; omega) | (unfold rng at *; omega) | assumption))
      have fb_5 := T_115 iσ.1 mb_4 eb_5
      have mb_5 : kO σ b_5 5 := iσ.1.kd mb_4 rfl eb_5 rfl
      refine ⟨b_5, eb_5, fun kk_b_5 => ?_⟩
      refine i1_X11_countRecord iσ kth (by (first | omega | with_reducible assumption | with_reducible exact rng_toInt _ | with_reducible exact rng_wr _ | (unfold rng; omega) | (unfold rng at *; omega) | assumption)) (by (first | omega | with_reducible assumption | with_reducible exact rng_toInt _ | with_reducible exact rng_wr _ | (unfold rng; omega) | (unfold rng at *; omega) | assumption)) (fun σ20_1 _ iσ20_1 cσ20_1 pσ20_1 => ?_) (fun σx LLx Nx nux E ix cx ux px => hX σx LLx Nx nux E ix (fσ.tr (cx.mo (by decide))) (ux) (by first | exact px | exact ⟨by have := px.1; omega, px.2.1, px.2.2⟩ | (first | omega | with_reducible assumption | with_reducible exact rng_toInt _ | with_reducible exact rng_wr _ | (unfold rng; omega) | (unfold rng at *; omega) | assumption)))
      intro xσ20_1
      have fσ20_1 : Fx [1, 64, 512, 708] gr σ σ20_1 := fσ.tr (cσ20_1.mo (by decide))
      have kp30 : gI σ20_1 o 8 = gI σ o 8 := (cσ20_1.O ko (by decide)).1
      have kp31 : gI σ20_1 t 0 = gI σ t 0 := (cσ20_1.O kt (by decide)).1
      have kp32 : gP σ20_1 J 0 = gP σ J 0 := (cσ20_1.O kJ (by decide)).2.1
      have kp33 : gP σ20_1 b_4 (gI σ o 8).toNat = gP σ b_4 (gI σ o 8).toNat := (cσ20_1.A mb_4 (by decide)).2.1
      have kp34 : gP σ20_1 th 5 = gP σ th 5 := (cσ20_1.O kth (by decide)).2.1
      by_cases hc35 : v3 ≠ 0
      · rw [if_pos hc35]
        unfold w_X11_keep_51
        refine ⟨t, hv2, fun kk_t_2 => ?_⟩
        unfold w_X11_keep_55
        refine ⟨o, hv1, fun kk_o_5 => ?_⟩
        have q36 := I_5_6 iσ20_1.1 (ko.up xσ20_1)
        refine i_X11_orderOf iσ20_1 (fun r24_2 pσ23_2 => ?_)
        intro xσ23_2
        obtain ⟨b_6, eb_6, fb_6⟩ := P_10_3 iσ20_1.1 (kt.up xσ20_1)
        have mb_6 : kO σ20_1 b_6 1 := iσ20_1.1.kd (kt.up xσ20_1) rfl eb_6 rfl
        refine ⟨b_6, eb_6, fun kk_b_6 => ?_⟩
        have q37 := I_5_3 iσ.1 mb_5
        refine i_X1_insert (G0 := G0) iσ20_1 mb_6 hv4 (kc.up xσ20_1) (by omega) (by (first | omega | with_reducible assumption | with_reducible exact rng_toInt _ | with_reducible exact rng_wr _ | (unfold rng; omega) | (unfold rng at *; omega) | assumption)) (by (first | omega | with_reducible assumption | with_reducible exact rng_toInt _ | with_reducible exact rng_wr _ | (unfold rng; omega) | (unfold rng at *; omega) | assumption)) (plc_ab (i := i) iσ20_1 (by omega) (by omega) (kt.up xσ20_1) (by omega) (by omega) (by omega) (by first | exact h7 | exact (iσ20_1.opok hi).2.2.2.1 (by omega))) (no50 (by first | decide | omega)) (no13 (by first | decide | omega)) (fun N9 n1 n2 => sc_ab1 iσ20_1 (kth.up xσ20_1) (by omega) (by omega) n1 n2 (by omega)) (fun σ25_2 LLσ25_2 Nσ25_2 nuσ25_2 _ iσ25_2 cσ25_2 uσ25_2 hσ25_2 pσ25_2 => ?_)
        intro xσ25_2
        have fσ25_2 : Fx [1, 64, 512, 708] gr σ σ25_2 := fσ20_1.tr (cσ25_2.mo (by decide))
        have hnσ25_2 : Hn (gD σ) [G0] [c] gq LL LLσ25_2 N Nσ25_2 := hnσ.go hσ25_2 (fun d hd => (fσ20_1.1 d hd).1) (by first | decide | exact fun _ h => h | (simp; done) | (intro x hx; simp only [List.mem_cons, List.mem_nil_iff, or_false] at hx ⊢; omega)) (fun d hd => by rw [List.mem_singleton.mp hd]; exact lo_c)
        have nσ25_2_3 := hσ25_2.2.2 3 (by first | decide | (simp; done) | (simp only [List.mem_cons, List.mem_nil_iff, or_false, not_or]; omega)) (by first | decide | omega) (by first | decide | omega) (by first | decide | omega)
        have nσ25_2_5 := hσ25_2.2.2 5 (by first | decide | (simp; done) | (simp only [List.mem_cons, List.mem_nil_iff, or_false, not_or]; omega)) (by first | decide | omega) (by first | decide | omega) (by first | decide | omega)
        have nσ25_2_14 := hσ25_2.2.2 14 (by first | decide | (simp; done) | (simp only [List.mem_cons, List.mem_nil_iff, or_false, not_or]; omega)) (by first | decide | omega) (by first | decide | omega) (by first | decide | omega)
        have nσ25_2_44 := hσ25_2.2.2 44 (by first | decide | (simp; done) | (simp only [List.mem_cons, List.mem_nil_iff, or_false, not_or]; omega)) (by first | decide | omega) (by first | decide | omega) (by first | decide | omega)
        have nσ25_2_74 := hσ25_2.2.2 74 (by first | decide | (simp; done) | (simp only [List.mem_cons, List.mem_nil_iff, or_false, not_or]; omega)) (by first | decide | omega) (by first | decide | omega) (by first | decide | omega)
        have nσ25_2_13 := hσ25_2.2.2 13 (by first | decide | (simp; done) | (simp only [List.mem_cons, List.mem_nil_iff, or_false, not_or]; omega)) (by first | decide | omega) (by first | decide | omega) (by first | decide | omega)
        have nu_σ25_2 : NU nu nuσ25_2 := uσ25_2
        have uσ25_2_0 := uσ25_2.1 0 (by decide)
        have uσ25_2_1 := uσ25_2.1 1 (by decide)
        have uσ25_2_2 := uσ25_2.2
        have uσ25_2_5 := uσ25_2.1 5 (by decide)
        have uσ25_2_15 := uσ25_2.1 15 (by decide)
        have uσ25_2_16 := uσ25_2.1 16 (by decide)
        have kp38 : gI σ25_2 o 6 = gI σ20_1 o 6 := (cσ25_2.O (ko.up xσ20_1) (by decide)).1
        have kp39 : gI σ25_2 o 8 = gI σ20_1 o 8 := (cσ25_2.O (ko.up xσ20_1) (by decide)).1
        have kp40 : gI σ25_2 t 0 = gI σ20_1 t 0 := (cσ25_2.O (kt.up xσ20_1) (by decide)).1
        have kp41 : gP σ25_2 J 0 = gP σ20_1 J 0 := (cσ25_2.O (kJ.up xσ20_1) (by decide)).2.1
        have kp42 : gP σ25_2 b_4 (gI σ o 8).toNat = gP σ20_1 b_4 (gI σ o 8).toNat := (cσ25_2.A (mb_4.up xσ20_1) (by decide)).2.1
        have kp43 : gP σ25_2 t 3 = gP σ20_1 t 3 := (cσ25_2.O (kt.up xσ20_1) (by decide)).2.1
        have kp44 : gP σ25_2 th 5 = gP σ20_1 th 5 := (cσ25_2.O (kth.up xσ20_1) (by decide)).2.1
        exact hQ σ25_2 LLσ25_2 Nσ25_2 nuσ25_2 () iσ25_2 fσ25_2 (nu_σ25_2) hnσ25_2 (by (first | omega | with_reducible assumption | with_reducible exact rng_toInt _ | with_reducible exact rng_wr _ | (unfold rng; omega) | (unfold rng at *; omega) | assumption))
      · rw [if_neg hc35]
        have hc35q := Classical.not_not.mp hc35
        unfold w_X11_keep_44
        refine ⟨t, hv2, fun kk_t_3 => ?_⟩
        unfold w_X11_keep_55
        refine ⟨o, hv1, fun kk_o_6 => ?_⟩
        have q45 := I_5_6 iσ20_1.1 (ko.up xσ20_1)
        refine i_X11_orderOf iσ20_1 (fun r24_3 pσ23_3 => ?_)
        intro xσ23_3
        obtain ⟨b_7, eb_7, fb_7⟩ := P_10_2 iσ20_1.1 (kt.up xσ20_1)
        have mb_7 : kO σ20_1 b_7 1 := iσ20_1.1.kd (kt.up xσ20_1) rfl eb_7 rfl
        refine ⟨b_7, eb_7, fun kk_b_7 => ?_⟩
        have q46 := I_5_3 iσ.1 mb_5
        refine i_X1_insert (G0 := G0) iσ20_1 mb_7 hv4 (kc.up xσ20_1) (by omega) (by (first | omega | with_reducible assumption | with_reducible exact rng_toInt _ | with_reducible exact rng_wr _ | (unfold rng; omega) | (unfold rng at *; omega) | assumption)) (by (first | omega | with_reducible assumption | with_reducible exact rng_toInt _ | with_reducible exact rng_wr _ | (unfold rng; omega) | (unfold rng at *; omega) | assumption)) (plc_ab (i := i) iσ20_1 (by omega) (by omega) (kt.up xσ20_1) (by omega) (by omega) (by omega) (by first | exact h7 | exact (iσ20_1.opok hi).2.2.2.1 (by omega))) (no50 (by first | decide | omega)) (no13 (by first | decide | omega)) (fun N9 n1 n2 => sc_ab1 iσ20_1 (kth.up xσ20_1) (by omega) (by omega) n1 n2 (by omega)) (fun σ25_3 LLσ25_3 Nσ25_3 nuσ25_3 _ iσ25_3 cσ25_3 uσ25_3 hσ25_3 pσ25_3 => ?_)
        intro xσ25_3
        have fσ25_3 : Fx [1, 64, 512, 708] gr σ σ25_3 := fσ20_1.tr (cσ25_3.mo (by decide))
        have hnσ25_3 : Hn (gD σ) [G0] [c] gq LL LLσ25_3 N Nσ25_3 := hnσ.go hσ25_3 (fun d hd => (fσ20_1.1 d hd).1) (by first | decide | exact fun _ h => h | (simp; done) | (intro x hx; simp only [List.mem_cons, List.mem_nil_iff, or_false] at hx ⊢; omega)) (fun d hd => by rw [List.mem_singleton.mp hd]; exact lo_c)
        have nσ25_3_3 := hσ25_3.2.2 3 (by first | decide | (simp; done) | (simp only [List.mem_cons, List.mem_nil_iff, or_false, not_or]; omega)) (by first | decide | omega) (by first | decide | omega) (by first | decide | omega)
        have nσ25_3_5 := hσ25_3.2.2 5 (by first | decide | (simp; done) | (simp only [List.mem_cons, List.mem_nil_iff, or_false, not_or]; omega)) (by first | decide | omega) (by first | decide | omega) (by first | decide | omega)
        have nσ25_3_14 := hσ25_3.2.2 14 (by first | decide | (simp; done) | (simp only [List.mem_cons, List.mem_nil_iff, or_false, not_or]; omega)) (by first | decide | omega) (by first | decide | omega) (by first | decide | omega)
        have nσ25_3_44 := hσ25_3.2.2 44 (by first | decide | (simp; done) | (simp only [List.mem_cons, List.mem_nil_iff, or_false, not_or]; omega)) (by first | decide | omega) (by first | decide | omega) (by first | decide | omega)
        have nσ25_3_74 := hσ25_3.2.2 74 (by first | decide | (simp; done) | (simp only [List.mem_cons, List.mem_nil_iff, or_false, not_or]; omega)) (by first | decide | omega) (by first | decide | omega) (by first | decide | omega)
        have nσ25_3_13 := hσ25_3.2.2 13 (by first | decide | (simp; done) | (simp only [List.mem_cons, List.mem_nil_iff, or_false, not_or]; omega)) (by first | decide | omega) (by first | decide | omega) (by first | decide | omega)
        have nu_σ25_3 : NU nu nuσ25_3 := uσ25_3
        have uσ25_3_0 := uσ25_3.1 0 (by decide)
        have uσ25_3_1 := uσ25_3.1 1 (by decide)
        have uσ25_3_2 := uσ25_3.2
        have uσ25_3_5 := uσ25_3.1 5 (by decide)
        have uσ25_3_15 := uσ25_3.1 15 (by decide)
        have uσ25_3_16 := uσ25_3.1 16 (by decide)
        have kp47 : gI σ25_3 o 6 = gI σ20_1 o 6 := (cσ25_3.O (ko.up xσ20_1) (by decide)).1
        have kp48 : gI σ25_3 o 8 = gI σ20_1 o 8 := (cσ25_3.O (ko.up xσ20_1) (by decide)).1
        have kp49 : gI σ25_3 t 0 = gI σ20_1 t 0 := (cσ25_3.O (kt.up xσ20_1) (by decide)).1
        have kp50 : gP σ25_3 J 0 = gP σ20_1 J 0 := (cσ25_3.O (kJ.up xσ20_1) (by decide)).2.1
        have kp51 : gP σ25_3 b_4 (gI σ o 8).toNat = gP σ20_1 b_4 (gI σ o 8).toNat := (cσ25_3.A (mb_4.up xσ20_1) (by decide)).2.1
        have kp52 : gP σ25_3 t 2 = gP σ20_1 t 2 := (cσ25_3.O (kt.up xσ20_1) (by decide)).2.1
        have kp53 : gP σ25_3 th 5 = gP σ20_1 th 5 := (cσ25_3.O (kth.up xσ20_1) (by decide)).2.1
        exact hQ σ25_3 LLσ25_3 Nσ25_3 nuσ25_3 () iσ25_3 fσ25_3 (nu_σ25_3) hnσ25_3 (by (first | omega | with_reducible assumption | with_reducible exact rng_toInt _ | with_reducible exact rng_wr _ | (unfold rng; omega) | (unfold rng at *; omega) | assumption))
    · rw [if_neg hc28]
      have hc28q := Classical.not_not.mp hc28
      unfold w_X11_keep_19
      refine ⟨o, hv1, fun kk_o_7 => ?_⟩
      unfold w_X11_keep_30
      obtain ⟨b_8, eb_8, fb_8⟩ := P_4_0 iσ.1 kJ
      have mb_8 : kO σ b_8 115 := iσ.1.kd kJ rfl eb_8 rfl
      refine ⟨b_8, eb_8, fun kk_b_8 => ?_⟩
      have q54 := I_5_7 iσ.1 ko
      refine ⟨⟨by (first | omega | with_reducible assumption | with_reducible exact rng_toInt _ | with_reducible exact rng_wr _ | (unfold rng; omega) | (unfold rng at *; omega) | assumption), by (first | omega | with_reducible assumption | with_reducible exact rng_toInt _ | with_reducible exact rng_wr _ | (unfold rng; omega) | (unfold rng at *; omega) | assumption)⟩, ?_⟩
      obtain ⟨b_9, eb_9⟩ := P_115 iσ.1 mb_8 (k := (gI σ o 7).toNat) (by (first | omega | with_reducible assumption | with_reducible exact rng_toInt _ | with_reducible exact rng_wr _ | (unfold rng; omega) | (unfold rng at *; omega) | assumption))
      have fb_9 := T_115 iσ.1 mb_8 eb_9
      have mb_9 : kO σ b_9 5 := iσ.1.kd mb_8 rfl eb_9 rfl
      refine ⟨b_9, eb_9, fun kk_b_9 => ?_⟩
      refine i1_X11_countRecord iσ kth (by (first | omega | with_reducible assumption | with_reducible exact rng_toInt _ | with_reducible exact rng_wr _ | (unfold rng; omega) | (unfold rng at *; omega) | assumption)) (by (first | omega | with_reducible assumption | with_reducible exact rng_toInt _ | with_reducible exact rng_wr _ | (unfold rng; omega) | (unfold rng at *; omega) | assumption)) (fun σ20_2 _ iσ20_2 cσ20_2 pσ20_2 => ?_) (fun σx LLx Nx nux E ix cx ux px => hX σx LLx Nx nux E ix (fσ.tr (cx.mo (by decide))) (ux) (by first | exact px | exact ⟨by have := px.1; omega, px.2.1, px.2.2⟩ | (first | omega | with_reducible assumption | with_reducible exact rng_toInt _ | with_reducible exact rng_wr _ | (unfold rng; omega) | (unfold rng at *; omega) | assumption)))
      intro xσ20_2
      have fσ20_2 : Fx [1, 64, 512, 708] gr σ σ20_2 := fσ.tr (cσ20_2.mo (by decide))
      have kp55 : gI σ20_2 o 7 = gI σ o 7 := (cσ20_2.O ko (by decide)).1
      have kp56 : gI σ20_2 o 8 = gI σ o 8 := (cσ20_2.O ko (by decide)).1
      have kp57 : gI σ20_2 t 0 = gI σ t 0 := (cσ20_2.O kt (by decide)).1
      have kp58 : gP σ20_2 J 0 = gP σ J 0 := (cσ20_2.O kJ (by decide)).2.1
      have kp59 : gP σ20_2 b_8 (gI σ o 7).toNat = gP σ b_8 (gI σ o 7).toNat := (cσ20_2.A mb_8 (by decide)).2.1
      have kp60 : gP σ20_2 th 5 = gP σ th 5 := (cσ20_2.O kth (by decide)).2.1
      by_cases hc61 : v3 ≠ 0
      · rw [if_pos hc61]
        unfold w_X11_keep_51
        refine ⟨t, hv2, fun kk_t_4 => ?_⟩
        unfold w_X11_keep_55
        refine ⟨o, hv1, fun kk_o_8 => ?_⟩
        have q62 := I_5_6 iσ20_2.1 (ko.up xσ20_2)
        refine i_X11_orderOf iσ20_2 (fun r24_4 pσ23_4 => ?_)
        intro xσ23_4
        obtain ⟨b_10, eb_10, fb_10⟩ := P_10_3 iσ20_2.1 (kt.up xσ20_2)
        have mb_10 : kO σ20_2 b_10 1 := iσ20_2.1.kd (kt.up xσ20_2) rfl eb_10 rfl
        refine ⟨b_10, eb_10, fun kk_b_10 => ?_⟩
        have q63 := I_5_3 iσ.1 mb_9
        refine i_X1_insert (G0 := G0) iσ20_2 mb_10 hv4 (kc.up xσ20_2) (by omega) (by (first | omega | with_reducible assumption | with_reducible exact rng_toInt _ | with_reducible exact rng_wr _ | (unfold rng; omega) | (unfold rng at *; omega) | assumption)) (by (first | omega | with_reducible assumption | with_reducible exact rng_toInt _ | with_reducible exact rng_wr _ | (unfold rng; omega) | (unfold rng at *; omega) | assumption)) (plc_ab (i := i) iσ20_2 (by omega) (by omega) (kt.up xσ20_2) (by omega) (by omega) (by omega) (by first | exact h7 | exact (iσ20_2.opok hi).2.2.2.1 (by omega))) (no50 (by first | decide | omega)) (no13 (by first | decide | omega)) (fun N9 n1 n2 => sc_ab1 iσ20_2 (kth.up xσ20_2) (by omega) (by omega) n1 n2 (by omega)) (fun σ25_4 LLσ25_4 Nσ25_4 nuσ25_4 _ iσ25_4 cσ25_4 uσ25_4 hσ25_4 pσ25_4 => ?_)
        intro xσ25_4
        have fσ25_4 : Fx [1, 64, 512, 708] gr σ σ25_4 := fσ20_2.tr (cσ25_4.mo (by decide))
        have hnσ25_4 : Hn (gD σ) [G0] [c] gq LL LLσ25_4 N Nσ25_4 := hnσ.go hσ25_4 (fun d hd => (fσ20_2.1 d hd).1) (by first | decide | exact fun _ h => h | (simp; done) | (intro x hx; simp only [List.mem_cons, List.mem_nil_iff, or_false] at hx ⊢; omega)) (fun d hd => by rw [List.mem_singleton.mp hd]; exact lo_c)
        have nσ25_4_3 := hσ25_4.2.2 3 (by first | decide | (simp; done) | (simp only [List.mem_cons, List.mem_nil_iff, or_false, not_or]; omega)) (by first | decide | omega) (by first | decide | omega) (by first | decide | omega)
        have nσ25_4_5 := hσ25_4.2.2 5 (by first | decide | (simp; done) | (simp only [List.mem_cons, List.mem_nil_iff, or_false, not_or]; omega)) (by first | decide | omega) (by first | decide | omega) (by first | decide | omega)
        have nσ25_4_14 := hσ25_4.2.2 14 (by first | decide | (simp; done) | (simp only [List.mem_cons, List.mem_nil_iff, or_false, not_or]; omega)) (by first | decide | omega) (by first | decide | omega) (by first | decide | omega)
        have nσ25_4_44 := hσ25_4.2.2 44 (by first | decide | (simp; done) | (simp only [List.mem_cons, List.mem_nil_iff, or_false, not_or]; omega)) (by first | decide | omega) (by first | decide | omega) (by first | decide | omega)
        have nσ25_4_74 := hσ25_4.2.2 74 (by first | decide | (simp; done) | (simp only [List.mem_cons, List.mem_nil_iff, or_false, not_or]; omega)) (by first | decide | omega) (by first | decide | omega) (by first | decide | omega)
        have nσ25_4_13 := hσ25_4.2.2 13 (by first | decide | (simp; done) | (simp only [List.mem_cons, List.mem_nil_iff, or_false, not_or]; omega)) (by first | decide | omega) (by first | decide | omega) (by first | decide | omega)
        have nu_σ25_4 : NU nu nuσ25_4 := uσ25_4
        have uσ25_4_0 := uσ25_4.1 0 (by decide)
        have uσ25_4_1 := uσ25_4.1 1 (by decide)
        have uσ25_4_2 := uσ25_4.2
        have uσ25_4_5 := uσ25_4.1 5 (by decide)
        have uσ25_4_15 := uσ25_4.1 15 (by decide)
        have uσ25_4_16 := uσ25_4.1 16 (by decide)
        have kp64 : gI σ25_4 o 6 = gI σ20_2 o 6 := (cσ25_4.O (ko.up xσ20_2) (by decide)).1
        have kp65 : gI σ25_4 o 7 = gI σ20_2 o 7 := (cσ25_4.O (ko.up xσ20_2) (by decide)).1
        have kp66 : gI σ25_4 o 8 = gI σ20_2 o 8 := (cσ25_4.O (ko.up xσ20_2) (by decide)).1
        have kp67 : gI σ25_4 t 0 = gI σ20_2 t 0 := (cσ25_4.O (kt.up xσ20_2) (by decide)).1
        have kp68 : gP σ25_4 J 0 = gP σ20_2 J 0 := (cσ25_4.O (kJ.up xσ20_2) (by decide)).2.1
        have kp69 : gP σ25_4 b_8 (gI σ o 7).toNat = gP σ20_2 b_8 (gI σ o 7).toNat := (cσ25_4.A (mb_8.up xσ20_2) (by decide)).2.1
        have kp70 : gP σ25_4 t 3 = gP σ20_2 t 3 := (cσ25_4.O (kt.up xσ20_2) (by decide)).2.1
        have kp71 : gP σ25_4 th 5 = gP σ20_2 th 5 := (cσ25_4.O (kth.up xσ20_2) (by decide)).2.1
        exact hQ σ25_4 LLσ25_4 Nσ25_4 nuσ25_4 () iσ25_4 fσ25_4 (nu_σ25_4) hnσ25_4 (by (first | omega | with_reducible assumption | with_reducible exact rng_toInt _ | with_reducible exact rng_wr _ | (unfold rng; omega) | (unfold rng at *; omega) | assumption))
      · rw [if_neg hc61]
        have hc61q := Classical.not_not.mp hc61
        unfold w_X11_keep_44
        refine ⟨t, hv2, fun kk_t_5 => ?_⟩
        unfold w_X11_keep_55
        refine ⟨o, hv1, fun kk_o_9 => ?_⟩
        have q72 := I_5_6 iσ20_2.1 (ko.up xσ20_2)
        refine i_X11_orderOf iσ20_2 (fun r24_5 pσ23_5 => ?_)
        intro xσ23_5
        obtain ⟨b_11, eb_11, fb_11⟩ := P_10_2 iσ20_2.1 (kt.up xσ20_2)
        have mb_11 : kO σ20_2 b_11 1 := iσ20_2.1.kd (kt.up xσ20_2) rfl eb_11 rfl
        refine ⟨b_11, eb_11, fun kk_b_11 => ?_⟩
        have q73 := I_5_3 iσ.1 mb_9
        refine i_X1_insert (G0 := G0) iσ20_2 mb_11 hv4 (kc.up xσ20_2) (by omega) (by (first | omega | with_reducible assumption | with_reducible exact rng_toInt _ | with_reducible exact rng_wr _ | (unfold rng; omega) | (unfold rng at *; omega) | assumption)) (by (first | omega | with_reducible assumption | with_reducible exact rng_toInt _ | with_reducible exact rng_wr _ | (unfold rng; omega) | (unfold rng at *; omega) | assumption)) (plc_ab (i := i) iσ20_2 (by omega) (by omega) (kt.up xσ20_2) (by omega) (by omega) (by omega) (by first | exact h7 | exact (iσ20_2.opok hi).2.2.2.1 (by omega))) (no50 (by first | decide | omega)) (no13 (by first | decide | omega)) (fun N9 n1 n2 => sc_ab1 iσ20_2 (kth.up xσ20_2) (by omega) (by omega) n1 n2 (by omega)) (fun σ25_5 LLσ25_5 Nσ25_5 nuσ25_5 _ iσ25_5 cσ25_5 uσ25_5 hσ25_5 pσ25_5 => ?_)
        intro xσ25_5
        have fσ25_5 : Fx [1, 64, 512, 708] gr σ σ25_5 := fσ20_2.tr (cσ25_5.mo (by decide))
        have hnσ25_5 : Hn (gD σ) [G0] [c] gq LL LLσ25_5 N Nσ25_5 := hnσ.go hσ25_5 (fun d hd => (fσ20_2.1 d hd).1) (by first | decide | exact fun _ h => h | (simp; done) | (intro x hx; simp only [List.mem_cons, List.mem_nil_iff, or_false] at hx ⊢; omega)) (fun d hd => by rw [List.mem_singleton.mp hd]; exact lo_c)
        have nσ25_5_3 := hσ25_5.2.2 3 (by first | decide | (simp; done) | (simp only [List.mem_cons, List.mem_nil_iff, or_false, not_or]; omega)) (by first | decide | omega) (by first | decide | omega) (by first | decide | omega)
        have nσ25_5_5 := hσ25_5.2.2 5 (by first | decide | (simp; done) | (simp only [List.mem_cons, List.mem_nil_iff, or_false, not_or]; omega)) (by first | decide | omega) (by first | decide | omega) (by first | decide | omega)
        have nσ25_5_14 := hσ25_5.2.2 14 (by first | decide | (simp; done) | (simp only [List.mem_cons, List.mem_nil_iff, or_false, not_or]; omega)) (by first | decide | omega) (by first | decide | omega) (by first | decide | omega)
        have nσ25_5_44 := hσ25_5.2.2 44 (by first | decide | (simp; done) | (simp only [List.mem_cons, List.mem_nil_iff, or_false, not_or]; omega)) (by first | decide | omega) (by first | decide | omega) (by first | decide | omega)
        have nσ25_5_74 := hσ25_5.2.2 74 (by first | decide | (simp; done) | (simp only [List.mem_cons, List.mem_nil_iff, or_false, not_or]; omega)) (by first | decide | omega) (by first | decide | omega) (by first | decide | omega)
        have nσ25_5_13 := hσ25_5.2.2 13 (by first | decide | (simp; done) | (simp only [List.mem_cons, List.mem_nil_iff, or_false, not_or]; omega)) (by first | decide | omega) (by first | decide | omega) (by first | decide | omega)
        have nu_σ25_5 : NU nu nuσ25_5 := uσ25_5
        have uσ25_5_0 := uσ25_5.1 0 (by decide)
        have uσ25_5_1 := uσ25_5.1 1 (by decide)
        have uσ25_5_2 := uσ25_5.2
        have uσ25_5_5 := uσ25_5.1 5 (by decide)
        have uσ25_5_15 := uσ25_5.1 15 (by decide)
        have uσ25_5_16 := uσ25_5.1 16 (by decide)
        have kp74 : gI σ25_5 o 6 = gI σ20_2 o 6 := (cσ25_5.O (ko.up xσ20_2) (by decide)).1
        have kp75 : gI σ25_5 o 7 = gI σ20_2 o 7 := (cσ25_5.O (ko.up xσ20_2) (by decide)).1
        have kp76 : gI σ25_5 o 8 = gI σ20_2 o 8 := (cσ25_5.O (ko.up xσ20_2) (by decide)).1
        have kp77 : gI σ25_5 t 0 = gI σ20_2 t 0 := (cσ25_5.O (kt.up xσ20_2) (by decide)).1
        have kp78 : gP σ25_5 J 0 = gP σ20_2 J 0 := (cσ25_5.O (kJ.up xσ20_2) (by decide)).2.1
        have kp79 : gP σ25_5 b_8 (gI σ o 7).toNat = gP σ20_2 b_8 (gI σ o 7).toNat := (cσ25_5.A (mb_8.up xσ20_2) (by decide)).2.1
        have kp80 : gP σ25_5 t 2 = gP σ20_2 t 2 := (cσ25_5.O (kt.up xσ20_2) (by decide)).2.1
        have kp81 : gP σ25_5 th 5 = gP σ20_2 th 5 := (cσ25_5.O (kth.up xσ20_2) (by decide)).2.1
        exact hQ σ25_5 LLσ25_5 Nσ25_5 nuσ25_5 () iσ25_5 fσ25_5 (nu_σ25_5) hnσ25_5 (by (first | omega | with_reducible assumption | with_reducible exact rng_toInt _ | with_reducible exact rng_wr _ | (unfold rng; omega) | (unfold rng at *; omega) | assumption))
set_option maxHeartbeats 1000000 in
theorem i1_X11_addToSpan {σ : Sg} {pl : Nat} {gq ci gr nc : Nat → Nat} {ot : Nat → Nat → Int} {LL : Nat → List Nat} {N nu : Nat → Nat} {th : Nat} {v1 : Option Nat} {v2 : Option Nat} {v3 : Option Nat} {v4 : Int64} (iσ : IV σ pl gq ci gr nc ot LL N nu) (kth : kO σ th 11) {o : Nat} (hv1 : v1 = some o) (ko : kO σ o 5) {x : Nat} (hv2 : v2 = some x) (kx : kO σ x 1) {c3 : Nat} (hv3 : v3 = some c3) (kc3 : kO σ c3 0) (hq : gq th = 1) (h5 : nu 5 < 24000) {Q : Sg → Int → Prop} {X : Sg → String → Prop} (hQ : ∀ (σ' : Sg) (nu' : Nat → Nat) (r : Int), IV σ' pl gq ci gr nc ot LL N nu' → Fx [4, 513, 514, 6464] gr σ σ' → NU nu nu' → (r = 0 ∨ r = 1) → Q σ' r) (hX : ∀ (σ' : Sg) (LL' : Nat → List Nat) (N' nu' : Nat → Nat) (E : String), IV σ' pl gq ci gr nc ot LL' N' nu' → Fx [4, 513, 514, 6464] gr σ σ' → NX nu nu' → ((N' 1 ≤ N 1 + 0 ∧ N' 5 = N 5 ∧ N' 3 = N 3 ∧ N' 44 = N 44 ∧ N' 74 = N 74) ∧ NZ N N' ∧ E = "java/lang/IllegalStateException") → X σ' E) : wp_X11_addToSpan th v1 v2 v3 v4 σ Q X := by
  have fσ : Fx [4, 513, 514, 6464] gr σ σ := Fx.rf
  unfold wp_X11_addToSpan
  unfold w_X11_addToSpan_0
  refine ⟨x, hv2, fun kk_x => ?_⟩
  have Lp6 : ∀ (fu6 : Nat) (v6 : Option Nat), (∃ (A B : List Nat), (LL x = A ++ B ∧ v6 = B.head?) ∧ (B.length) < fu6) → wl_X11_addToSpan_6 th Q X fu6 σ v1 v3 v4 v6 := by
    intro fu6
    induction fu6 with
    | zero => intro _ h9; obtain ⟨_, _, _, h9⟩ := h9; omega
    | succ fu6 ih6 =>
      intro v6 hi6
      obtain ⟨A, B, hi6, hm6⟩ := hi6
      unfold wl_X11_addToSpan_6
      unfold w_X11_addToSpan_6
      by_cases hc1 : v6 = none
      · rw [if_pos hc1]
        unfold w_X11_addToSpan_81
        exact hQ σ nu 0 iσ fσ (NU.rf) (by (first | omega | with_reducible assumption | with_reducible exact rng_toInt _ | with_reducible exact rng_wr _ | (unfold rng; omega) | (unfold rng at *; omega) | assumption))
      · rw [if_neg hc1]
        unfold w_X11_addToSpan_11
        obtain ⟨b, eb⟩ := Option.ne_none_iff_exists'.mp hc1
        obtain ⟨A1, B1, p1, p2, p3, p4⟩ := it_step iσ kx hi6 eb
        refine ⟨b, eb, fun kk_b => ?_⟩
        by_cases hc2 : gJ σ b 5 ≠ v4
        · rw [if_pos hc2]
          unfold w_X11_addToSpan_71
          refine ⟨b, eb, fun kk_b_1 => ?_⟩
          exact ih6 (gP σ b 1) (⟨A1, B1, ⟨p1, p2⟩, by omega⟩)
        · rw [if_neg hc2]
          have hc2q := Classical.not_not.mp hc2
          unfold w_X11_addToSpan_22
          refine ⟨b, eb, fun kk_b_2 => ?_⟩
          refine ⟨c3, hv3, fun kk_c3 => ?_⟩
          by_cases hc3 : gJ σ b 7 ≠ gJ σ c3 7
          · rw [if_pos hc3]
            unfold w_X11_addToSpan_71
            refine ⟨b, eb, fun kk_b_3 => ?_⟩
            exact ih6 (gP σ b 1) (⟨A1, B1, ⟨p1, p2⟩, by omega⟩)
          · rw [if_neg hc3]
            have hc3q := Classical.not_not.mp hc3
            unfold w_X11_addToSpan_35
            refine ⟨b, eb, fun kk_b_4 => ?_⟩
            refine ⟨c3, hv3, fun kk_c3_1 => ?_⟩
            obtain ⟨b_1, eb_1⟩ := P_11_0 iσ.1 kth
            refine ⟨b_1, eb_1, fun kk_b_1_1 => ?_⟩
            have q4 := I_0_4 iσ.1 kk_b
            have q5 := I_0_4 iσ.1 kc3
            refine i_X8_together iσ kk_b_1_1 (by (first | omega | with_reducible assumption | with_reducible exact rng_toInt _ | with_reducible exact rng_wr _ | (unfold rng; omega) | (unfold rng at *; omega) | assumption)) (by (first | omega | with_reducible assumption | with_reducible exact rng_toInt _ | with_reducible exact rng_wr _ | (unfold rng; omega) | (unfold rng at *; omega) | assumption)) (by (first | omega | with_reducible assumption | with_reducible exact rng_toInt _ | with_reducible exact rng_wr _ | (unfold rng; omega) | (unfold rng at *; omega) | assumption)) (fun σ19 nuσ19 r20 iσ19 cσ19 uσ19 pσ19 => ?_) (fun σx LLx Nx nux E ix cx ux px => hX σx LLx Nx nux E ix (fσ.tr (cx.mo (by decide))) (ux) (by first | exact px | exact ⟨by have := px.1; omega, px.2.1, px.2.2⟩ | (first | omega | with_reducible assumption | with_reducible exact rng_toInt _ | with_reducible exact rng_wr _ | (unfold rng; omega) | (unfold rng at *; omega) | assumption)))
            intro xσ19
            have fσ19 : Fx [4, 513, 514, 6464] gr σ σ19 := fσ.tr (cσ19.mo (by decide))
            have nu_σ19 : NU nu nuσ19 := uσ19
            have uσ19_0 := uσ19.1 0 (by decide)
            have uσ19_1 := uσ19.1 1 (by decide)
            have uσ19_2 := uσ19.2
            have uσ19_5 := uσ19.1 5 (by decide)
            have uσ19_15 := uσ19.1 15 (by decide)
            have uσ19_16 := uσ19.1 16 (by decide)
            have kp6 : gI σ19 b 4 = gI σ b 4 := (cσ19.O kk_b (by decide)).1
            have kp7 : gI σ19 c3 4 = gI σ c3 4 := (cσ19.O kc3 (by decide)).1
            have kp8 : gP σ19 th 0 = gP σ th 0 := (cσ19.O kth (by decide)).2.1
            intro σ22 eσ22
            have xσ22 : Ext σ19 σ22 := by rw [eσ22]; exact fun _ h => ⟨h, rfl, rfl⟩
            have iσ22 : IV σ22 pl gq ci gr nc ot LL N nuσ19 := by rw [eσ22]; exact iσ19.wO (kk_b.up xσ19) (by decide) (show (-1 : Int) ≤ r20 ∧ r20 ≤ (nuσ19 2 : Int) - 1 from ⟨by (first | omega | with_reducible assumption | with_reducible exact rng_toInt _ | with_reducible exact rng_wr _ | (unfold rng; omega) | (unfold rng at *; omega) | assumption), by (first | omega | with_reducible assumption | with_reducible exact rng_toInt _ | with_reducible exact rng_wr _ | (unfold rng; omega) | (unfold rng at *; omega) | assumption)⟩)
            have fσ22 : Fx [4, 513, 514, 6464] gr σ σ22 := fσ19.tr (Sk.fx (by rw [eσ22]; exact Sk.pI (by rw [fcdO (kk_b.up xσ19) (by decide)]; decide)))
            have wσ22 : gI σ22 b 4 = r20 := by rw [eσ22]; exact up2_s _ _ _ _
            have kp9 : gP σ22 th 0 = gP σ19 th 0 := by rw [eσ22]
            obtain ⟨b_2, eb_2, fb_2⟩ := P_0_0 iσ22.1 (kk_b.up (xσ19.trans xσ22))
            have mb_2 : kO σ22 b_2 101 := iσ22.1.kd (kk_b.up (xσ19.trans xσ22)) rfl eb_2 rfl
            obtain ⟨b_3, eb_3, fb_3⟩ := P_11_3 iσ22.1 (kth.up (xσ19.trans xσ22))
            have mb_3 : kO σ22 b_3 101 := iσ22.1.kd (kth.up (xσ19.trans xσ22)) rfl eb_3 rfl
            refine i_X11_addUp iσ22 hv1 (ko.up (xσ19.trans xσ22)) eb_2 mb_2 eb_3 mb_3 (by (first | omega | with_reducible assumption | with_reducible exact rng_toInt _ | with_reducible exact rng_wr _ | (unfold rng; omega) | (unfold rng at *; omega) | assumption)) (by (first | omega | with_reducible assumption | with_reducible exact rng_toInt _ | with_reducible exact rng_wr _ | (unfold rng; omega) | (unfold rng at *; omega) | assumption)) (by (first | omega | with_reducible assumption | with_reducible exact rng_toInt _ | with_reducible exact rng_wr _ | (unfold rng; omega) | (unfold rng at *; omega) | assumption)) (fun σ23 _ iσ23 cσ23 pσ23 => ?_)
            intro xσ23
            have fσ23 : Fx [4, 513, 514, 6464] gr σ σ23 := fσ22.tr (cσ23.mo (by decide))
            have kp10 : gI σ23 b 4 = gI σ22 b 4 := (cσ23.O (kk_b.up (xσ19.trans xσ22)) (by decide)).1
            have kp11 : gP σ23 b 0 = gP σ22 b 0 := (cσ23.O (kk_b.up (xσ19.trans xσ22)) (by decide)).2.1
            have kp12 : gP σ23 th 0 = gP σ22 th 0 := (cσ23.O (kth.up (xσ19.trans xσ22)) (by decide)).2.1
            have kp13 : gP σ23 th 3 = gP σ22 th 3 := (cσ23.O (kth.up (xσ19.trans xσ22)) (by decide)).2.1
            exact hQ σ23 nuσ19 1 iσ23 fσ23 (nu_σ19) (by (first | omega | with_reducible assumption | with_reducible exact rng_toInt _ | with_reducible exact rng_wr _ | (unfold rng; omega) | (unfold rng at *; omega) | assumption))
  exact ⟨(LL x).length + 1, Lp6 _ _ (⟨[], LL x, ⟨by simp, iσ.first kx⟩, Nat.lt_succ_self _⟩)⟩

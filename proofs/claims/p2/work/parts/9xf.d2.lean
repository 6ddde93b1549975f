set_option maxHeartbeats 1000000 in
theorem i_X3_releaseParts {σ : Sg} {pl : Nat} {gq ci gr nc : Nat → Nat} {ot : Nat → Nat → Int} {LL : Nat → List Nat} {N nu : Nat → Nat} {v0 : Option Nat} {v1 : Option Nat} {T : Nat} (iσ : IV σ pl gq ci gr nc ot LL N nu) {p9 : Nat} (hv0 : v0 = some p9) {ar : Nat} (hv1 : v1 = some ar) (kar : kO σ ar 120) (hT : gq ar = T) (h2 : T = 2 ∨ T = 3) (hn : gn σ ar = 64) {Q : Sg → Unit → Prop} {X : Sg → String → Prop} (hQ : ∀ (σ' : Sg) (LL' : Nat → List Nat) (N' nu' : Nat → Nat) (r : Unit), IV σ' pl gq ci gr nc ot LL' N' nu' → Fx [1, 64, 512] gr σ σ' → NU nu nu' → Hn (gD σ) [(10 * T + 1), (10 * T + 2)] [] gq LL LL' N N' → (N' (10 * T + 1) = 0 ∧ N' (10 * T + 2) = 0 ∧ N' 1 = N 1) → Q σ' r) : wp_X3_releaseParts v0 v1 σ Q X := by
  have fσ : Fx [1, 64, 512] gr σ σ := Fx.rf
  have hnσ : Hn (gD σ) [(10 * T + 1), (10 * T + 2)] [] gq LL LL N N := Hn.rf
  unfold wp_X3_releaseParts
  unfold w_X3_releaseParts_0
  have Lp2 : ∀ (fu2 : Nat) (τ2 : Sg) (LLt2 : Nat → List Nat) (Nt2 nut2 : Nat → Nat) (v2 : Int), IV τ2 pl gq ci gr nc ot LLt2 Nt2 nut2 → Fx [1, 64, 512] gr σ τ2 → Ext σ τ2 → NU nu nut2 → Hn (gD σ) [(10 * T + 1), (10 * T + 2)] [] gq LL LLt2 N Nt2 → ((0 ≤ v2 ∧ v2 ≤ 64) ∧ Em gq ci LLt2 (10 * T + 1) v2 ∧ Em gq ci LLt2 (10 * T + 2) v2 ∧ Nt2 1 = N 1) → ((64 - v2).toNat) < fu2 → wl_X3_releaseParts_2 Q X fu2 τ2 v0 v1 v2 := by
    intro fu2
    induction fu2 with
    | zero => intro _ _ _ _ _ _ _ _ _ _ _ h9; omega
    | succ fu2 ih2 =>
      intro τ2 LLt2 Nt2 nut2 v2 iτ2 fτ2 xτ2 nu_τ2 hnτ2 hi2 hm2
      have uτ2_0 := nu_τ2.1 0 (by decide)
      have uτ2_1 := nu_τ2.1 1 (by decide)
      have uτ2_2 := nu_τ2.2
      have uτ2_5 := nu_τ2.1 5 (by decide)
      have uτ2_15 := nu_τ2.1 15 (by decide)
      have uτ2_16 := nu_τ2.1 16 (by decide)
      unfold wl_X3_releaseParts_2
      unfold w_X3_releaseParts_2
      refine ⟨ar, hv1, fun kk_ar => ?_⟩
      have q2 := (xτ2 ar kar.1).2.2
      by_cases hc1 : v2 ≥ (gn τ2 ar : Int)
      · rw [if_pos hc1]
        unfold w_X3_releaseParts_40
        exact hQ τ2 LLt2 Nt2 nut2 () iτ2 fτ2 (nu_τ2) hnτ2 (⟨iτ2.em0 (by omega) (hi2.2.1.all iτ2 (by omega) (fun x _ hq hL => by have := (iτ2.pl2 (kar.up xτ2) hT h2 (Or.inl hq) hL).1; omega)), iτ2.em0 (by omega) (hi2.2.2.1.all iτ2 (by omega) (fun x _ hq hL => by have := (iτ2.pl2 (kar.up xτ2) hT h2 (Or.inr hq) hL).1; omega)), by omega⟩)
      · rw [if_neg hc1]
        unfold w_X3_releaseParts_8
        refine ⟨ar, hv1, fun kk_ar_1 => ?_⟩
        refine ⟨⟨by (first | omega | with_reducible assumption | with_reducible exact rng_toInt _ | with_reducible exact rng_wr _ | (unfold rng; omega) | (unfold rng at *; omega) | assumption), by (first | omega | with_reducible assumption | with_reducible exact rng_toInt _ | with_reducible exact rng_wr _ | (unfold rng; omega) | (unfold rng at *; omega) | assumption)⟩, ?_⟩
        by_cases hc3 : (gP τ2 ar v2.toNat) = none
        · rw [if_pos hc3]
          unfold w_X3_releaseParts_34
          refine ⟨by (first | omega | with_reducible assumption | with_reducible exact rng_toInt _ | with_reducible exact rng_wr _ | (unfold rng; omega) | (unfold rng at *; omega) | assumption), ?_⟩
          exact ih2 τ2 LLt2 Nt2 nut2 (v2 + 1) iτ2 fτ2 xτ2 nu_τ2 hnτ2 (by first | exact ⟨by omega, E4, E3, by omega⟩ | exact ⟨by omega, hi2.2.1.skip (fun x hx hL w => (iτ2.pl2 (kar.up xτ2) hT h2 (Or.inl hx) hL).2 (by rw [show ci x = v2.toNat by omega]; assumption)), hi2.2.2.1.skip (fun x hx hL w => (iτ2.pl2 (kar.up xτ2) hT h2 (Or.inr hx) hL).2 (by rw [show ci x = v2.toNat by omega]; assumption)), by omega⟩) (by (first | omega | with_reducible assumption | with_reducible exact rng_toInt _ | with_reducible exact rng_wr _ | (unfold rng; omega) | (unfold rng at *; omega) | assumption))
        · rw [if_neg hc3]
          unfold w_X3_releaseParts_14
          refine ⟨ar, hv1, fun kk_ar_2 => ?_⟩
          refine ⟨⟨by (first | omega | with_reducible assumption | with_reducible exact rng_toInt _ | with_reducible exact rng_wr _ | (unfold rng; omega) | (unfold rng at *; omega) | assumption), by (first | omega | with_reducible assumption | with_reducible exact rng_toInt _ | with_reducible exact rng_wr _ | (unfold rng; omega) | (unfold rng at *; omega) | assumption)⟩, ?_⟩
          obtain ⟨b, eb⟩ := Option.ne_none_iff_exists'.mp hc3
          have fb := T_120 iτ2.1 (kar.up xτ2) eb
          have mb : kO τ2 b 10 := iτ2.1.kd (kar.up xτ2) rfl eb rfl
          refine ⟨b, eb, fun kk_b => ?_⟩
          refine ⟨p9, hv0, fun kk_p9 => ?_⟩
          obtain ⟨b_1, eb_1, fb_1⟩ := P_10_2 iτ2.1 mb
          have mb_1 : kO τ2 b_1 1 := iτ2.1.kd mb rfl eb_1 rfl
          refine i_X8_releaseAll (G0 := (10 * T + 1)) iτ2 kk_p9 eb_1 mb_1 (by omega) (by omega) (fun σ13 LLσ13 Nσ13 nuσ13 _ iσ13 cσ13 uσ13 hσ13 pσ13 => ?_)
          intro xσ13
          have fσ13 : Fx [1, 64, 512] gr σ σ13 := fτ2.tr (cσ13.mo (by decide))
          have hnσ13 : Hn (gD σ) [(10 * T + 1), (10 * T + 2)] [] gq LL LLσ13 N Nσ13 := hnτ2.go hσ13 (fun d hd => (fτ2.1 d hd).1) (by first | decide | exact fun _ h => h | (simp; done) | (intro x hx; simp only [List.mem_cons, List.mem_nil_iff, or_false] at hx ⊢; omega)) (fun d hd => absurd hd (by simp))
          have nu_σ13 : NU nu nuσ13 := nu_τ2.tr uσ13
          have uσ13_0 := uσ13.1 0 (by decide)
          have uσ13_1 := uσ13.1 1 (by decide)
          have uσ13_2 := uσ13.2
          have uσ13_5 := uσ13.1 5 (by decide)
          have uσ13_15 := uσ13.1 15 (by decide)
          have uσ13_16 := uσ13.1 16 (by decide)
          have kp4 : gP σ13 ar v2.toNat = gP τ2 ar v2.toNat := (cσ13.A (kar.up xτ2) (by decide)).2.1
          have kp5 : gP σ13 b 2 = gP τ2 b 2 := (cσ13.O mb (by decide)).2.1
          have E1 := hi2.2.1.step iτ2 (by omega) mb_1 (by omega) (by omega) pσ13.1 pσ13.2.1
          have E2 := hi2.2.2.1.oth (c := b_1) (by omega) pσ13.2.1 (by omega)
          have q6 := ((xτ2.trans xσ13) ar kar.1).2.2
          refine ⟨⟨by (first | omega | with_reducible assumption | with_reducible exact rng_toInt _ | with_reducible exact rng_wr _ | (unfold rng; omega) | (unfold rng at *; omega) | assumption), by (first | omega | with_reducible assumption | with_reducible exact rng_toInt _ | with_reducible exact rng_wr _ | (unfold rng; omega) | (unfold rng at *; omega) | assumption)⟩, ?_⟩
          refine ⟨b, (kp4.trans eb), fun kk_b_1 => ?_⟩
          obtain ⟨b_2, eb_2, fb_2⟩ := P_10_3 iσ13.1 (mb.up xσ13)
          have mb_2 : kO σ13 b_2 1 := iσ13.1.kd (mb.up xσ13) rfl eb_2 rfl
          refine i_X8_releaseAll (G0 := (10 * T + 2)) iσ13 (kk_p9.up xσ13) eb_2 mb_2 (by omega) (by omega) (fun σ16 LLσ16 Nσ16 nuσ16 _ iσ16 cσ16 uσ16 hσ16 pσ16 => ?_)
          intro xσ16
          have fσ16 : Fx [1, 64, 512] gr σ σ16 := fσ13.tr (cσ16.mo (by decide))
          have hnσ16 : Hn (gD σ) [(10 * T + 1), (10 * T + 2)] [] gq LL LLσ16 N Nσ16 := hnσ13.go hσ16 (fun d hd => (fσ13.1 d hd).1) (by first | decide | exact fun _ h => h | (simp; done) | (intro x hx; simp only [List.mem_cons, List.mem_nil_iff, or_false] at hx ⊢; omega)) (fun d hd => absurd hd (by simp))
          have nu_σ16 : NU nu nuσ16 := nu_σ13.tr uσ16
          have uσ16_0 := uσ16.1 0 (by decide)
          have uσ16_1 := uσ16.1 1 (by decide)
          have uσ16_2 := uσ16.2
          have uσ16_5 := uσ16.1 5 (by decide)
          have uσ16_15 := uσ16.1 15 (by decide)
          have uσ16_16 := uσ16.1 16 (by decide)
          have kp7 : gP σ16 ar v2.toNat = gP σ13 ar v2.toNat := (cσ16.A (kar.up (xτ2.trans xσ13)) (by decide)).2.1
          have kp8 : gP σ16 b 2 = gP σ13 b 2 := (cσ16.O (mb.up xσ13) (by decide)).2.1
          have kp9 : gP σ16 b 3 = gP σ13 b 3 := (cσ16.O (mb.up xσ13) (by decide)).2.1
          have E3 := E2.step iσ13 (by omega) mb_2 (by omega) (by omega) pσ16.1 pσ16.2.1
          have E4 := E1.oth (c := b_2) (by omega) pσ16.2.1 (by omega)
          unfold w_X3_releaseParts_34
          refine ⟨by (first | omega | with_reducible assumption | with_reducible exact rng_toInt _ | with_reducible exact rng_wr _ | (unfold rng; omega) | (unfold rng at *; omega) | assumption), ?_⟩
          exact ih2 σ16 LLσ16 Nσ16 nuσ16 (v2 + 1) iσ16 fσ16 (xτ2.trans (xσ13.trans xσ16)) nu_σ16 hnσ16 (by first | exact ⟨by omega, E4, E3, by omega⟩ | exact ⟨by omega, hi2.2.1.skip (fun x hx hL w => (iσ16.pl2 (kar.up (xτ2.trans (xσ13.trans xσ16))) hT h2 (Or.inl hx) hL).2 (by rw [show ci x = v2.toNat by omega]; assumption)), hi2.2.2.1.skip (fun x hx hL w => (iσ16.pl2 (kar.up (xτ2.trans (xσ13.trans xσ16))) hT h2 (Or.inr hx) hL).2 (by rw [show ci x = v2.toNat by omega]; assumption)), by omega⟩) (by (first | omega | with_reducible assumption | with_reducible exact rng_toInt _ | with_reducible exact rng_wr _ | (unfold rng; omega) | (unfold rng at *; omega) | assumption))
  exact ⟨_, Lp2 _ σ LL N nu _ iσ fσ (Ext.rfl' _) NU.rf hnσ (⟨by omega, Em.z, Em.z, rfl⟩) (Nat.lt_succ_self _)⟩
set_option maxHeartbeats 1000000 in
theorem i_X3_giveUp {σ : Sg} {pl : Nat} {gq ci gr nc : Nat → Nat} {ot : Nat → Nat → Int} {LL : Nat → List Nat} {N nu : Nat → Nat} {th : Nat} {v1 : Option Nat} {P S T T2 : Nat} (iσ : IV σ pl gq ci gr nc ot LL N nu) (kth : kO σ th 3) {p9 : Nat} (hv1 : v1 = some p9) (hp : gP σ th 0 = some P) (kP : kO σ P 120) (hs : gP σ th 1 = some S) (kS : kO σ S 120) (hT : gq P = T) (hT2 : gq S = T2) (h2 : (T = 2 ∧ T2 = 3) ∨ (T = 3 ∧ T2 = 2)) (n5 : N 5 = 0) {Q : Sg → Unit → Prop} {X : Sg → String → Prop} (hQ : ∀ (σ' : Sg) (LL' : Nat → List Nat) (N' nu' : Nat → Nat) (r : Unit), IV σ' pl gq ci gr nc ot LL' N' nu' → Fx [1, 64, 195, 512] gr σ σ' → NU nu nu' → Hn (gD σ) [(10 * T + 1), (10 * T + 2), 5] [] gq LL LL' N N' → (N' (10 * T + 1) = 0 ∧ N' (10 * T + 2) = 0 ∧ N' 1 = N 1 ∧ N' 5 = 0 ∧ gI σ' th 3 = 0) → Q σ' r) : wp_X3_giveUp th v1 σ Q X := by
  have fσ : Fx [1, 64, 195, 512] gr σ σ := Fx.rf
  have hnσ : Hn (gD σ) [(10 * T + 1), (10 * T + 2), 5] [] gq LL LL N N := Hn.rf
  unfold wp_X3_giveUp
  unfold w_X3_giveUp_0
  obtain ⟨N5, iσ, hN5, hN55⟩ := iσ.up5 8000 (by omega)
  have hn5 := hnσ.n5 hN5 (by simp)
  have e51 := hN5 1 (by decide)
  have e5a := hN5 (10 * T + 1) (by omega)
  have e5b := hN5 (10 * T + 2) (by omega)
  have e5c := hN5 (10 * T2 + 1) (by omega)
  have e5d := hN5 (10 * T2 + 2) (by omega)
  intro σ3 eσ3
  have xσ3 : Ext σ σ3 := by rw [eσ3]; exact fun _ h => ⟨h, rfl, rfl⟩
  have iσ3 : IV σ3 pl gq ci gr nc ot LL N5 nu := by rw [eσ3]; exact iσ.op0 kth (by omega)
  have fσ3 : Fx [1, 64, 195, 512] gr σ σ3 := fσ.tr (Sk.fx (by rw [eσ3]; exact Sk.pI (by rw [fcdO kth (by decide)]; decide)))
  have wσ3 : gI σ3 th 3 = 0 := by rw [eσ3]; exact up2_s _ _ _ _
  have kp1 : gP σ3 th 0 = gP σ th 0 := by rw [eσ3]
  have kp2 : gP σ3 th 1 = gP σ th 1 := by rw [eσ3]
  refine i_X3_releaseParts iσ3 hv1 (kp1.trans hp) (kP.up xσ3) hT (by omega) (T_3_0 iσ3.1 (kth.up xσ3) (kp1.trans hp)).1 (fun σ4 LLσ4 Nσ4 nuσ4 _ iσ4 cσ4 uσ4 hσ4 pσ4 => ?_)
  intro xσ4
  have fσ4 : Fx [1, 64, 195, 512] gr σ σ4 := fσ3.tr (cσ4.mo (by decide))
  have hnσ4 : Hn (gD σ) [(10 * T + 1), (10 * T + 2), 5] [] gq LL LLσ4 N Nσ4 := hn5.go hσ4 (fun d hd => (fσ3.1 d hd).1) (by first | decide | exact fun _ h => h | (simp; done) | (intro x hx; simp only [List.mem_cons, List.mem_nil_iff, or_false] at hx ⊢; omega)) (fun d hd => absurd hd (by simp))
  have nu_σ4 : NU nu nuσ4 := uσ4
  have uσ4_0 := uσ4.1 0 (by decide)
  have uσ4_1 := uσ4.1 1 (by decide)
  have uσ4_2 := uσ4.2
  have uσ4_5 := uσ4.1 5 (by decide)
  have uσ4_15 := uσ4.1 15 (by decide)
  have uσ4_16 := uσ4.1 16 (by decide)
  have kp3 : gI σ4 th 3 = gI σ3 th 3 := (cσ4.O (kth.up xσ3) (by decide)).1
  have kp4 : gP σ4 th 0 = gP σ3 th 0 := (cσ4.O (kth.up xσ3) (by decide)).2.1
  have kp5 : gP σ4 th 1 = gP σ3 th 1 := (cσ4.O (kth.up xσ3) (by decide)).2.1
  obtain ⟨N6, iσ4, hN6, hN65⟩ := iσ4.dn5 (kth.up (xσ3.trans xσ4)) (kp4.trans (kp1.trans hp)) ⟨by rw [hT]; exact pσ4.1, by rw [hT]; exact pσ4.2.1⟩
  have hn6 := hnσ4.n5 hN6 (by simp)
  have e61 := hN6 1 (by decide)
  have e6a := hN6 (10 * T + 1) (by omega)
  have e6b := hN6 (10 * T + 2) (by omega)
  have e6c := hN6 (10 * T2 + 1) (by omega)
  have e6d := hN6 (10 * T2 + 2) (by omega)
  exact hQ σ4 LLσ4 N6 nuσ4 () iσ4 fσ4 (nu_σ4) hn6 (by (first | omega | with_reducible assumption | with_reducible exact rng_toInt _ | with_reducible exact rng_wr _ | (unfold rng; omega) | (unfold rng at *; omega) | assumption))
set_option maxHeartbeats 1000000 in
theorem i_X3_forgetMarks {σ : Sg} {pl : Nat} {gq ci gr nc : Nat → Nat} {ot : Nat → Nat → Int} {LL : Nat → List Nat} {N nu : Nat → Nat} {th : Nat} {v1 : Option Nat} {P S T T2 : Nat} (iσ : IV σ pl gq ci gr nc ot LL N nu) (kth : kO σ th 3) {p9 : Nat} (hv1 : v1 = some p9) (hp : gP σ th 0 = some P) (kP : kO σ P 120) (hs : gP σ th 1 = some S) (kS : kO σ S 120) (hT : gq P = T) (hT2 : gq S = T2) (h2 : (T = 2 ∧ T2 = 3) ∨ (T = 3 ∧ T2 = 2)) (n5 : N 5 = 0) {Q : Sg → Unit → Prop} {X : Sg → String → Prop} (hQ : ∀ (σ' : Sg) (LL' : Nat → List Nat) (N' nu' : Nat → Nat) (r : Unit), IV σ' pl gq ci gr nc ot LL' N' nu' → Fx [1, 64, 194, 195, 196, 512] gr σ σ' → NU nu nu' → Hn (gD σ) [21, 22, 31, 32, 5] [] gq LL LL' N N' → ((N' 21 = 0 ∧ N' 22 = 0 ∧ N' 31 = 0 ∧ N' 32 = 0) ∧ N' 1 = N 1 ∧ N' 5 = 0 ∧ gI σ' th 2 = 0 ∧ gI σ' th 3 = 0) → Q σ' r) : wp_X3_forgetMarks th v1 σ Q X := by
  have fσ : Fx [1, 64, 194, 195, 196, 512] gr σ σ := Fx.rf
  have hnσ : Hn (gD σ) [21, 22, 31, 32, 5] [] gq LL LL N N := Hn.rf
  unfold wp_X3_forgetMarks
  unfold w_X3_forgetMarks_0
  refine i_X3_giveUp iσ kth hv1 hp kP hs kS hT hT2 h2 n5 (fun σ5 LLσ5 Nσ5 nuσ5 _ iσ5 cσ5 uσ5 hσ5 pσ5 => ?_)
  intro xσ5
  have fσ5 : Fx [1, 64, 194, 195, 196, 512] gr σ σ5 := fσ.tr (cσ5.mo (by decide))
  have hnσ5 : Hn (gD σ) [21, 22, 31, 32, 5] [] gq LL LLσ5 N Nσ5 := hnσ.go hσ5 (fun d hd => (fσ.1 d hd).1) (by first | decide | exact fun _ h => h | (simp; done) | (intro x hx; simp only [List.mem_cons, List.mem_nil_iff, or_false] at hx ⊢; omega)) (fun d hd => absurd hd (by simp))
  have nu_σ5 : NU nu nuσ5 := uσ5
  have uσ5_0 := uσ5.1 0 (by decide)
  have uσ5_1 := uσ5.1 1 (by decide)
  have uσ5_2 := uσ5.2
  have uσ5_5 := uσ5.1 5 (by decide)
  have uσ5_15 := uσ5.1 15 (by decide)
  have uσ5_16 := uσ5.1 16 (by decide)
  have kp1 : gP σ5 th 0 = gP σ th 0 := (cσ5.O kth (by decide)).2.1
  have kp2 : gP σ5 th 1 = gP σ th 1 := (cσ5.O kth (by decide)).2.1
  refine i_X3_releaseParts iσ5 hv1 (kp2.trans hs) (kS.up xσ5) hT2 (by omega) (T_3_1 iσ5.1 (kth.up xσ5) (kp2.trans hs)).1 (fun σ6 LLσ6 Nσ6 nuσ6 _ iσ6 cσ6 uσ6 hσ6 pσ6 => ?_)
  intro xσ6
  have fσ6 : Fx [1, 64, 194, 195, 196, 512] gr σ σ6 := fσ5.tr (cσ6.mo (by decide))
  have hnσ6 : Hn (gD σ) [21, 22, 31, 32, 5] [] gq LL LLσ6 N Nσ6 := hnσ5.go hσ6 (fun d hd => (fσ5.1 d hd).1) (by first | decide | exact fun _ h => h | (simp; done) | (intro x hx; simp only [List.mem_cons, List.mem_nil_iff, or_false] at hx ⊢; omega)) (fun d hd => absurd hd (by simp))
  have nσ6_5 := hσ6.2.2 5 (by first | decide | (simp; done) | (simp only [List.mem_cons, List.mem_nil_iff, or_false, not_or]; omega)) (by first | decide | omega) (by first | decide | omega) (by first | decide | omega)
  have nu_σ6 : NU nu nuσ6 := nu_σ5.tr uσ6
  have uσ6_0 := uσ6.1 0 (by decide)
  have uσ6_1 := uσ6.1 1 (by decide)
  have uσ6_2 := uσ6.2
  have uσ6_5 := uσ6.1 5 (by decide)
  have uσ6_15 := uσ6.1 15 (by decide)
  have uσ6_16 := uσ6.1 16 (by decide)
  have kp3 : gP σ6 th 0 = gP σ5 th 0 := (cσ6.O (kth.up xσ5) (by decide)).2.1
  have kp4 : gP σ6 th 1 = gP σ5 th 1 := (cσ6.O (kth.up xσ5) (by decide)).2.1
  have kp5 : gI σ6 th 3 = gI σ5 th 3 := (cσ6.O (kth.up xσ5) (by decide)).1
  have z1 := hσ6.2.2 (10 * T + 1) (by simp only [List.mem_cons, List.mem_nil_iff, or_false, not_or]; omega) (by omega) (by omega) (by omega)
  have z2 := hσ6.2.2 (10 * T + 2) (by simp only [List.mem_cons, List.mem_nil_iff, or_false, not_or]; omega) (by omega) (by omega) (by omega)
  have z3 := pσ6.1
  have z4 := pσ6.2.1
  have z5 := pσ5.1
  have z6 := pσ5.2.1
  intro σ7 eσ7
  have xσ7 : Ext σ6 σ7 := by rw [eσ7]; exact fun _ h => ⟨h, rfl, rfl⟩
  have iσ7 : IV σ7 pl gq ci gr nc ot LLσ6 Nσ6 nuσ6 := by rw [eσ7]; exact iσ6.wO (kth.up (xσ5.trans xσ6)) (by decide) (rngb (by first | exact rng_wr _ | (first | omega | with_reducible assumption | with_reducible exact rng_toInt _ | with_reducible exact rng_wr _ | (unfold rng; omega) | (unfold rng at *; omega) | assumption)))
  have fσ7 : Fx [1, 64, 194, 195, 196, 512] gr σ σ7 := fσ6.tr (Sk.fx (by rw [eσ7]; exact Sk.pI (by rw [fcdO (kth.up (xσ5.trans xσ6)) (by decide)]; decide)))
  have wσ7 : gI σ7 th 2 = 0 := by rw [eσ7]; exact up2_s _ _ _ _
  have kp6 : gP σ7 th 0 = gP σ6 th 0 := by rw [eσ7]
  have kp7 : gP σ7 th 1 = gP σ6 th 1 := by rw [eσ7]
  have kp8 : gI σ7 th 3 = gI σ6 th 3 := by rw [eσ7]; exact up2_n _ _ (fun q => absurd q.2 (by decide))
  intro σ8 eσ8
  have xσ8 : Ext σ7 σ8 := by rw [eσ8]; exact fun _ h => ⟨h, rfl, rfl⟩
  have iσ8 : IV σ8 pl gq ci gr nc ot LLσ6 Nσ6 nuσ6 := by rw [eσ8]; exact iσ7.wO (kth.up (xσ5.trans (xσ6.trans xσ7))) (by decide) (rngb (by first | exact rng_wr _ | (first | omega | with_reducible assumption | with_reducible exact rng_toInt _ | with_reducible exact rng_wr _ | (unfold rng; omega) | (unfold rng at *; omega) | assumption)))
  have fσ8 : Fx [1, 64, 194, 195, 196, 512] gr σ σ8 := fσ7.tr (Sk.fx (by rw [eσ8]; exact Sk.pI (by rw [fcdO (kth.up (xσ5.trans (xσ6.trans xσ7))) (by decide)]; decide)))
  have wσ8 : gI σ8 th 4 = 0 := by rw [eσ8]; exact up2_s _ _ _ _
  have kp9 : gI σ8 th 2 = gI σ7 th 2 := by rw [eσ8]; exact up2_n _ _ (fun q => absurd q.2 (by decide))
  have kp10 : gP σ8 th 0 = gP σ7 th 0 := by rw [eσ8]
  have kp11 : gP σ8 th 1 = gP σ7 th 1 := by rw [eσ8]
  have kp12 : gI σ8 th 3 = gI σ7 th 3 := by rw [eσ8]; exact up2_n _ _ (fun q => absurd q.2 (by decide))
  exact hQ σ8 LLσ6 Nσ6 nuσ6 () iσ8 fσ8 (nu_σ6) hnσ6 (⟨by rcases h2 with ⟨e1, e2⟩ | ⟨e1, e2⟩ <;> rw [e1] at z1 z2 z5 z6 <;> rw [e2] at z3 z4 <;> simp only [Nat.reduceMul, Nat.reduceAdd] at z1 z2 z3 z4 z5 z6 <;> omega, by omega, by omega, by omega, by omega⟩)
set_option maxHeartbeats 1000000 in
theorem i_X3_seal {σ : Sg} {pl : Nat} {gq ci gr nc : Nat → Nat} {ot : Nat → Nat → Int} {LL : Nat → List Nat} {N nu : Nat → Nat} {th : Nat} {v1 : Option Nat} {v2 : Int} {P S T T2 : Nat} (iσ : IV σ pl gq ci gr nc ot LL N nu) (kth : kO σ th 3) {p9 : Nat} (hv1 : v1 = some p9) (hp : gP σ th 0 = some P) (kP : kO σ P 120) (hs : gP σ th 1 = some S) (kS : kO σ S 120) (hT : gq P = T) (hT2 : gq S = T2) (h2 : (T = 2 ∧ T2 = 3) ∨ (T = 3 ∧ T2 = 2)) (n5 : N 5 = 0) (hv : 0 ≤ v2 ∧ v2 ≤ 4) {Q : Sg → Unit → Prop} {X : Sg → String → Prop} (hQ : ∀ (σ' : Sg) (LL' : Nat → List Nat) (N' nu' : Nat → Nat) (r : Unit), IV σ' pl gq ci gr nc ot LL' N' nu' → Fx [1, 64, 192, 193, 195, 196, 197, 512] gr σ σ' → NU nu nu' → Hn (gD σ) [(10 * T2 + 1), (10 * T2 + 2), 5] [] gq LL LL' N N' → (N' (10 * T2 + 1) = 0 ∧ N' (10 * T2 + 2) = 0 ∧ N' 1 = N 1 ∧ N' 5 = 0 ∧ gP σ' th 0 = some S ∧ gP σ' th 1 = some P) → Q σ' r) : wp_X3_seal th v1 v2 σ Q X := by
  subst hv1
  obtain ⟨k1, k2, k3, k4⟩ := iσ.dk kth hp hs
  rw [n5] at k2
  have q7 := I_3_7 iσ.1 kth
  have k2' : ((N (10 * gq P + 1) : Nat) : Int) + (N (10 * gq P + 2) : Nat) ≤ 8000 := by
    revert k2; split <;> intro k2 <;> omega
  obtain ⟨N5, i5, u5, u55⟩ := iσ.up5 8000 (by omega)
  unfold wp_X3_seal w_X3_seal_0
  intro σ7 e7 σ8 e8 σ9 e9 σ10 e10 σ11 e11
  have ia := i5.wO (k := 4) (v := gI σ th 3) kth (by decide) (rngb (iσ.rg _ _))
  have ib := ia.wO (k := 5) (v := v2) (show kO (pI σ th 4 (gI σ th 3)) th 3 from kth) (by decide) (show (0 : Int) ≤ v2 ∧ v2 ≤ 4 from hv)
  have ic := ib.op0 (show kO (pI (pI σ th 4 (gI σ th 3)) th 5 v2) th 3 from kth) u55
  have kc : kO (pI (pI (pI σ th 4 (gI σ th 3)) th 5 v2) th 3 0) th 3 := kth
  have g7 : gI (pI (pI (pI σ th 4 (gI σ th 3)) th 5 v2) th 3 0) th 7 = gI σ th 7 := by
    rw [gI_pI, up2_n _ _ (fun z => absurd z.2 (by decide)), gI_pI, up2_n _ _ (fun z => absurd z.2 (by decide)), gI_pI, up2_n _ _ (fun z => absurd z.2 (by decide))]
  have g3 : gI (pI (pI (pI σ th 4 (gI σ th 3)) th 5 v2) th 3 0) th 3 = 0 := by rw [gI_pI, up2_s]
  have id9 := ic.swp kc hp hs (by rw [g7, g3, if_pos rfl, u55, u5 _ (by omega), u5 _ (by omega)]; omega) (by rw [u5 _ (by omega), u5 _ (by omega)]; omega)
  have eq : σ11 = pP (pP (pI (pI (pI σ th 4 (gI σ th 3)) th 5 v2) th 3 0) th 1 (some P)) th 0 (some S) := by
    rw [e11, e10, e9, e8, e7, hp, hs]
  rw [← eq] at id9
  have f11 : Fx [1, 64, 192, 193, 195, 196, 197, 512] gr σ σ11 := by
    rw [eq]
    exact ((((Sk.pI (k := 4) (by rw [fcdO kth (by decide)]; decide)).fx.tr (Sk.pI (k := 5) (by rw [fcdO (show kO (pI σ th 4 (gI σ th 3)) th 3 from kth) (by decide)]; decide)).fx).tr (Sk.pI (k := 3) (by rw [fcdO (show kO (pI (pI σ th 4 (gI σ th 3)) th 5 v2) th 3 from kth) (by decide)]; decide)).fx).tr (Sk.pP (k := 1) (by rw [fcdO kc (by decide)]; decide)).fx).tr (Sk.pP (k := 0) (by rw [fcdO (show kO (pP (pI (pI (pI σ th 4 (gI σ th 3)) th 5 v2) th 3 0) th 1 (some P)) th 3 from kth) (by decide)]; decide)).fx
  have p0 : gP σ11 th 0 = some S := by rw [eq, gP_pP, up2_s]
  have p1 : gP σ11 th 1 = some P := by rw [eq, gP_pP, up2_n _ _ (fun z => absurd z.2 (by decide)), gP_pP, up2_s]
  have k11 := kth.up f11.1
  refine i_X3_releaseParts (T := T2) id9 rfl p0 (kS.up f11.1) hT2 (by omega) (T_3_0 id9.1 k11 p0).1 (fun σ12 LL12 N12 nu12 _ i12 c12 u12 h12 p12 => ?_)
  intro x12
  have r0 : gP σ12 th 0 = some S := by rw [(c12.O k11 (by decide)).2.1]; exact p0
  have r1 : gP σ12 th 1 = some P := by rw [(c12.O k11 (by decide)).2.1]; exact p1
  obtain ⟨N6, i6, u6, u65⟩ := i12.dn5 (k11.up x12) r0 ⟨by rw [hT2]; exact p12.1, by rw [hT2]; exact p12.2.1⟩
  refine hQ σ12 LL12 N6 nu12 () i6 (f11.tr (c12.mo (by decide))) u12 ⟨fun x hx w w0 => h12.1 x (f11.1 x hx).1 (fun z => w (by simp only [List.mem_cons, List.mem_nil_iff, or_false] at z ⊢; omega)) w0, fun e he w hf => h12.2.1 e (f11.1 e he).1 (by simp) hf, fun g w a b c => ?_⟩ ⟨by rw [u6 _ (by omega)]; exact p12.1, by rw [u6 _ (by omega)]; exact p12.2.1, by rw [u6 1 (by decide), p12.2.2, u5 1 (by decide)], u65, r0, r1⟩
  simp only [List.mem_cons, List.mem_nil_iff, or_false, not_or] at w
  rw [u6 g w.2.2, h12.2.2 g (by simp only [List.mem_cons, List.mem_nil_iff, or_false, not_or]; omega) a b c, u5 g w.2.2]
set_option maxHeartbeats 1000000 in
theorem i_X3_keepPart {σ : Sg} {pl : Nat} {gq ci gr nc : Nat → Nat} {ot : Nat → Nat → Int} {LL : Nat → List Nat} {N nu : Nat → Nat} {th : Nat} {v1 : Option Nat} {P T : Nat} (iσ : IV σ pl gq ci gr nc ot LL N nu) (kth : kO σ th 3) {t : Nat} (hv1 : v1 = some t) (kt : kO σ t 10) (hp : gP σ th 0 = some P) (kP : kO σ P 120) (hT : gq P = T) (h2 : T = 2 ∨ T = 3) (htp : gq t ≠ T) (hh : ∀ a b, gP σ t 2 = some a → gP σ t 3 = some b → gI σ th 7 + ((LL a).length : Int) + (LL b).length ≤ 4000) {Q : Sg → Option Nat → Prop} {X : Sg → String → Prop} (hQ : ∀ (σ' : Sg) (gq' ci' : Nat → Nat) (LL' : Nat → List Nat) (N' nu' : Nat → Nat) (pt : Nat), IV σ' pl gq' ci' gr nc ot LL' N' nu' → GE (gD σ) gq ci gq' ci' → Fx [198, 199, 640, 641, 645, 646, 647, 648, 649, 650, 651, 652, 653, 654, 655, 7680] gr σ σ' → NU nu nu' → Hn (gD σ) [] [] gq LL LL' N N' → (LL' = LL ∧ N' = N ∧ (gq' pt = T ∧ (ci' pt : Int) = gI σ t 0 * 4 + gI σ t 1) ∧ ∀ a b, gP σ t 2 = some a → gP σ t 3 = some b → gI σ' th 7 = gI σ th 7 + ((LL a).length : Int) + (LL b).length) → Q σ' (some pt)) : wp_X3_keepPart th v1 σ Q X := by
  have fσ : Fx [198, 199, 640, 641, 645, 646, 647, 648, 649, 650, 651, 652, 653, 654, 655, 7680] gr σ σ := Fx.rf
  have geσ : GE (gD σ) gq ci gq ci := GE.rf
  have hnσ : Hn (gD σ) [] [] gq LL LL N N := Hn.rf
  have q1 := I_3_7 iσ.1 kth
  have g64 := (T_3_0 iσ.1 kth hp).1
  have qt0 := I_10_0 iσ.1 kt
  have qt1 := I_10_1 iσ.1 kt
  have q7 := I_3_7 iσ.1 kth
  obtain ⟨A9, eA9, _⟩ := P_10_2 iσ.1 kt
  obtain ⟨B9, eB9, _⟩ := P_10_3 iσ.1 kt
  have hh9 := hh A9 B9 eA9 eB9
  unfold wp_X3_keepPart
  unfold w_X3_keepPart_0
  refine ⟨t, hv1, fun kk_t => ?_⟩
  have q2 := I_10_0 iσ.1 kt
  refine ⟨by (first | omega | with_reducible assumption | with_reducible exact rng_toInt _ | with_reducible exact rng_wr _ | (unfold rng; omega) | (unfold rng at *; omega) | assumption), ?_⟩
  have q3 := I_10_1 iσ.1 kt
  refine ⟨by (first | omega | with_reducible assumption | with_reducible exact rng_toInt _ | with_reducible exact rng_wr _ | (unfold rng; omega) | (unfold rng at *; omega) | assumption), ?_⟩
  refine ⟨P, hp, fun kk_P => ?_⟩
  refine ⟨⟨by (first | omega | with_reducible assumption | with_reducible exact rng_toInt _ | with_reducible exact rng_wr _ | (unfold rng; omega) | (unfold rng at *; omega) | assumption), by (first | omega | with_reducible assumption | with_reducible exact rng_toInt _ | with_reducible exact rng_wr _ | (unfold rng; omega) | (unfold rng at *; omega) | assumption)⟩, ?_⟩
  by_cases hc4 : (gP σ P ((gI σ t 0 * 4) + gI σ t 1).toNat) ≠ none
  · rw [if_pos hc4]
    unfold w_X3_keepPart_34
    refine ⟨P, hp, fun kk_P_1 => ?_⟩
    refine ⟨⟨by (first | omega | with_reducible assumption | with_reducible exact rng_toInt _ | with_reducible exact rng_wr _ | (unfold rng; omega) | (unfold rng at *; omega) | assumption), by (first | omega | with_reducible assumption | with_reducible exact rng_toInt _ | with_reducible exact rng_wr _ | (unfold rng; omega) | (unfold rng at *; omega) | assumption)⟩, ?_⟩
    refine ⟨t, hv1, fun kk_t_1 => ?_⟩
    obtain ⟨b, eb⟩ := Option.ne_none_iff_exists'.mp hc4
    have fb := T_120 iσ.1 kP eb
    have mb : kO σ b 10 := iσ.1.kd kP rfl eb rfl
    refine ⟨b, eb, fun kk_b => ?_⟩
    refine i_X10_lay iσ mb (by (first | omega | with_reducible assumption | with_reducible exact rng_toInt _ | with_reducible exact rng_wr _ | (unfold rng; omega) | (unfold rng at *; omega) | assumption)) (by (first | omega | with_reducible assumption | with_reducible exact rng_toInt _ | with_reducible exact rng_wr _ | (unfold rng; omega) | (unfold rng at *; omega) | assumption)) (fun w => by omega) (fun σ28 _ iσ28 cσ28 pσ28 => ?_)
    intro xσ28
    have fσ28 : Fx [198, 199, 640, 641, 645, 646, 647, 648, 649, 650, 651, 652, 653, 654, 655, 7680] gr σ σ28 := fσ.tr (cσ28.mo (by decide))
    have kp5 : gI σ28 th 7 = gI σ th 7 := (cσ28.O kth (by decide)).1
    have kp6 : gP σ28 P ((gI σ t 0 * 4) + gI σ t 1).toNat = gP σ P ((gI σ t 0 * 4) + gI σ t 1).toNat := (cσ28.A kP (by decide)).2.1
    have kp7 : gP σ28 t 2 = gP σ t 2 := (cσ28.O kt (by decide)).2.1
    have kp8 : gP σ28 t 3 = gP σ t 3 := (cσ28.O kt (by decide)).2.1
    have kp9 : gP σ28 th 0 = gP σ th 0 := (cσ28.O kth (by decide)).2.1
    intro σ30 eσ30
    have xσ30 : Ext σ28 σ30 := by rw [eσ30]; exact fun _ h => ⟨h, rfl, rfl⟩
    have q10 := iσ28.rg t 5; unfold rng at q10
    have iσ30 : IV σ30 pl gq ci gr nc ot LL N nu := by rw [eσ30]; exact iσ28.wO (mb.up xσ28) (by decide) (rngb (by first | exact rng_wr _ | (first | omega | with_reducible assumption | with_reducible exact rng_toInt _ | with_reducible exact rng_wr _ | (unfold rng; omega) | (unfold rng at *; omega) | assumption)))
    have fσ30 : Fx [198, 199, 640, 641, 645, 646, 647, 648, 649, 650, 651, 652, 653, 654, 655, 7680] gr σ σ30 := fσ28.tr (Sk.fx (by rw [eσ30]; exact Sk.pI (by rw [fcdO (mb.up xσ28) (by decide)]; decide)))
    have wσ30 : gI σ30 b 5 = (gI σ28 t 5) := by rw [eσ30]; exact up2_s _ _ _ _
    have kp11 : gI σ30 th 7 = gI σ28 th 7 := by rw [eσ30]; exact up2_n _ _ (fun q => absurd q.2 (by decide))
    have kp12 : gP σ30 P ((gI σ t 0 * 4) + gI σ t 1).toNat = gP σ28 P ((gI σ t 0 * 4) + gI σ t 1).toNat := by rw [eσ30]
    have kp13 : gP σ30 t 2 = gP σ28 t 2 := by rw [eσ30]
    have kp14 : gP σ30 t 3 = gP σ28 t 3 := by rw [eσ30]
    have kp15 : gP σ30 th 0 = gP σ28 th 0 := by rw [eσ30]
    intro σ31 eσ31
    have xσ31 : Ext σ30 σ31 := by rw [eσ31]; exact fun _ h => ⟨h, rfl, rfl⟩
    have q16 := I_10_6 iσ30.1 (kt.up (xσ28.trans xσ30))
    have iσ31 : IV σ31 pl gq ci gr nc ot LL N nu := by rw [eσ31]; exact iσ30.wO (mb.up (xσ28.trans xσ30)) (by decide) (show (0 : Int) ≤ (gI σ30 t 6) ∧ (gI σ30 t 6) ≤ 64 from ⟨by (first | omega | with_reducible assumption | with_reducible exact rng_toInt _ | with_reducible exact rng_wr _ | (unfold rng; omega) | (unfold rng at *; omega) | assumption), by (first | omega | with_reducible assumption | with_reducible exact rng_toInt _ | with_reducible exact rng_wr _ | (unfold rng; omega) | (unfold rng at *; omega) | assumption)⟩)
    have fσ31 : Fx [198, 199, 640, 641, 645, 646, 647, 648, 649, 650, 651, 652, 653, 654, 655, 7680] gr σ σ31 := fσ30.tr (Sk.fx (by rw [eσ31]; exact Sk.pI (by rw [fcdO (mb.up (xσ28.trans xσ30)) (by decide)]; decide)))
    have wσ31 : gI σ31 b 6 = (gI σ30 t 6) := by rw [eσ31]; exact up2_s _ _ _ _
    have kp17 : gI σ31 b 5 = gI σ30 b 5 := by rw [eσ31]; exact up2_n _ _ (fun q => absurd q.2 (by decide))
    have kp18 : gI σ31 th 7 = gI σ30 th 7 := by rw [eσ31]; exact up2_n _ _ (fun q => absurd q.2 (by decide))
    have kp19 : gP σ31 P ((gI σ t 0 * 4) + gI σ t 1).toNat = gP σ30 P ((gI σ t 0 * 4) + gI σ t 1).toNat := by rw [eσ31]
    have kp20 : gP σ31 t 2 = gP σ30 t 2 := by rw [eσ31]
    have kp21 : gP σ31 t 3 = gP σ30 t 3 := by rw [eσ31]
    have kp22 : gP σ31 th 0 = gP σ30 th 0 := by rw [eσ31]
    intro σ32 eσ32
    have xσ32 : Ext σ31 σ32 := by rw [eσ32]; exact fun _ h => ⟨h, rfl, rfl⟩
    have iσ32 : IV σ32 pl gq ci gr nc ot LL N nu := by rw [eσ32]; exact iσ31.wT (mb.up (xσ28.trans (xσ30.trans xσ31))) (by decide) (iσ31.t7 (kt.up (xσ28.trans (xσ30.trans xσ31))))
    have fσ32 : Fx [198, 199, 640, 641, 645, 646, 647, 648, 649, 650, 651, 652, 653, 654, 655, 7680] gr σ σ32 := fσ31.tr (Sk.fx (by rw [eσ32]; exact Sk.pJ (by rw [fcdO (mb.up (xσ28.trans (xσ30.trans xσ31))) (by decide)]; decide)))
    have kp23 : gI σ32 b 5 = gI σ31 b 5 := by rw [eσ32]
    have kp24 : gI σ32 b 6 = gI σ31 b 6 := by rw [eσ32]
    have kp25 : gI σ32 th 7 = gI σ31 th 7 := by rw [eσ32]
    have kp26 : gP σ32 P ((gI σ t 0 * 4) + gI σ t 1).toNat = gP σ31 P ((gI σ t 0 * 4) + gI σ t 1).toNat := by rw [eσ32]
    have kp27 : gP σ32 t 2 = gP σ31 t 2 := by rw [eσ32]
    have kp28 : gP σ32 t 3 = gP σ31 t 3 := by rw [eσ32]
    have kp29 : gP σ32 th 0 = gP σ31 th 0 := by rw [eσ32]
    intro σ33 eσ33
    have xσ33 : Ext σ32 σ33 := by rw [eσ33]; exact fun _ h => ⟨h, rfl, rfl⟩
    have q30 := iσ32.rg th 6; unfold rng at q30
    have iσ33 : IV σ33 pl gq ci gr nc ot LL N nu := by rw [eσ33]; exact iσ32.wO (kth.up (xσ28.trans (xσ30.trans (xσ31.trans xσ32)))) (by decide) (rngb (by first | exact rng_wr _ | (first | omega | with_reducible assumption | with_reducible exact rng_toInt _ | with_reducible exact rng_wr _ | (unfold rng; omega) | (unfold rng at *; omega) | assumption)))
    have fσ33 : Fx [198, 199, 640, 641, 645, 646, 647, 648, 649, 650, 651, 652, 653, 654, 655, 7680] gr σ σ33 := fσ32.tr (Sk.fx (by rw [eσ33]; exact Sk.pI (by rw [fcdO (kth.up (xσ28.trans (xσ30.trans (xσ31.trans xσ32)))) (by decide)]; decide)))
    have wσ33 : gI σ33 th 6 = (wr (gI σ32 th 6 + 1)) := by rw [eσ33]; exact up2_s _ _ _ _
    have kp31 : gI σ33 b 5 = gI σ32 b 5 := by rw [eσ33]; exact up2_n _ _ (fun q => absurd q.2 (by decide))
    have kp32 : gI σ33 b 6 = gI σ32 b 6 := by rw [eσ33]; exact up2_n _ _ (fun q => absurd q.1 (kO.ne (mb.up (xσ28.trans (xσ30.trans (xσ31.trans xσ32)))) (kth.up (xσ28.trans (xσ30.trans (xσ31.trans xσ32)))) (by decide)))
    have kp33 : gI σ33 th 7 = gI σ32 th 7 := by rw [eσ33]; exact up2_n _ _ (fun q => absurd q.2 (by decide))
    have kp34 : gP σ33 P ((gI σ t 0 * 4) + gI σ t 1).toNat = gP σ32 P ((gI σ t 0 * 4) + gI σ t 1).toNat := by rw [eσ33]
    have kp35 : gP σ33 t 2 = gP σ32 t 2 := by rw [eσ33]
    have kp36 : gP σ33 t 3 = gP σ32 t 3 := by rw [eσ33]
    have kp37 : gP σ33 th 0 = gP σ32 th 0 := by rw [eσ33]
    refine i_X10_held iσ33 (kt.up (xσ28.trans (xσ30.trans (xσ31.trans (xσ32.trans xσ33))))) (fun r35 pσ34 => ?_)
    intro xσ34
    have r9 := pσ34.2.2 A9 B9 (kp35.trans (kp27.trans (kp20.trans (kp13.trans (kp7.trans eA9))))) (kp36.trans (kp28.trans (kp21.trans (kp14.trans (kp8.trans eB9)))))
    refine ⟨by (first | omega | with_reducible assumption | with_reducible exact rng_toInt _ | with_reducible exact rng_wr _ | (unfold rng; omega) | (unfold rng at *; omega) | assumption), ?_⟩
    intro σ36 eσ36
    have xσ36 : Ext σ33 σ36 := by rw [eσ36]; exact fun _ h => ⟨h, rfl, rfl⟩
    have iσ36 : IV σ36 pl gq ci gr nc ot LL N nu := by rw [eσ36]; exact iσ33.held (kth.up (xσ28.trans (xσ30.trans (xσ31.trans (xσ32.trans xσ33))))) ⟨by omega, by omega⟩
    have fσ36 : Fx [198, 199, 640, 641, 645, 646, 647, 648, 649, 650, 651, 652, 653, 654, 655, 7680] gr σ σ36 := fσ33.tr (Sk.fx (by rw [eσ36]; exact Sk.pI (by rw [fcdO (kth.up (xσ28.trans (xσ30.trans (xσ31.trans (xσ32.trans xσ33))))) (by decide)]; decide)))
    have wσ36 : gI σ36 th 7 = (gI σ33 th 7 + r35) := by rw [eσ36]; exact up2_s _ _ _ _
    have kp38 : gI σ36 b 5 = gI σ33 b 5 := by rw [eσ36]; exact up2_n _ _ (fun q => absurd q.2 (by decide))
    have kp39 : gI σ36 b 6 = gI σ33 b 6 := by rw [eσ36]; exact up2_n _ _ (fun q => absurd q.2 (by decide))
    have kp40 : gI σ36 th 6 = gI σ33 th 6 := by rw [eσ36]; exact up2_n _ _ (fun q => absurd q.2 (by decide))
    have kp41 : gP σ36 P ((gI σ t 0 * 4) + gI σ t 1).toNat = gP σ33 P ((gI σ t 0 * 4) + gI σ t 1).toNat := by rw [eσ36]
    have kp42 : gP σ36 t 2 = gP σ33 t 2 := by rw [eσ36]
    have kp43 : gP σ36 t 3 = gP σ33 t 3 := by rw [eσ36]
    have kp44 : gP σ36 th 0 = gP σ33 th 0 := by rw [eσ36]
    rw [show (gP σ P ((gI σ t 0 * 4) + gI σ t 1).toNat) = some b from eb]
    exact hQ σ36 gq ci LL N nu b iσ36 geσ fσ36 (NU.rf) hnσ (⟨rfl, rfl, by omega, fun a9 b9 ha9 hb9 => by rw [eA9] at ha9; rw [eB9] at hb9; cases ha9; cases hb9; omega⟩)
  · rw [if_neg hc4]
    have hc4q := Classical.not_not.mp hc4
    unfold w_X3_keepPart_21
    refine i_newTask iσ.room4 iσ.nd iσ.2.2.2.2.2.2.1.1 (fun qσ25 q1σ25 q2σ25 q3σ25 oσ25 gwσ25 kqσ25 kcσ25 hIσ25 hJσ25 hPσ25 hPcσ25 hcσ25 hsσ25 hRσ25 => ?_)
    have gnσ25 := (gwσ25.2.2.1 P kP.1).2.2
    refine ⟨P, hp, fun _ => ⟨⟨by (first | omega | with_reducible assumption | with_reducible exact rng_toInt _ | with_reducible exact rng_wr _ | (unfold rng; omega) | (unfold rng at *; omega) | assumption), by (first | omega | with_reducible assumption | with_reducible exact rng_toInt _ | with_reducible exact rng_wr _ | (unfold rng; omega) | (unfold rng at *; omega) | assumption)⟩, fun σ25 eσ25 => ?_⟩⟩
    obtain ⟨gqσ25, ciσ25, nuσ25, iσ25, gσ25, enuσ25, tcσ25, ktσ25, psσ25⟩ := iσ.newT kP (T := T) (hT) (by omega) (by (first | omega | with_reducible assumption | with_reducible exact rng_toInt _ | with_reducible exact rng_wr _ | (unfold rng; omega) | (unfold rng at *; omega) | assumption)) hc4q (fun w => by omega) gwσ25 eσ25 kqσ25 kcσ25 hIσ25 hJσ25 hPσ25 hPcσ25 hcσ25 hsσ25 hRσ25
    have xσ25 : Ext σ σ25 := by rw [eσ25]; exact fun a ha => gwσ25.2.2.1 a ha
    have fσ25 : Fx [198, 199, 640, 641, 645, 646, 647, 648, 649, 650, 651, 652, 653, 654, 655, 7680] gr σ σ25 := fσ.tr (gwσ25.fx eσ25 kP (by decide))
    have uσ25 : NU nu nuσ25 := by rw [enuσ25]; exact nu_T2 h2
    have nu_σ25 : NU nu nuσ25 := uσ25
    have geσ25 : GE (gD σ) gq ci gqσ25 ciσ25 := geσ.tr gσ25 (fun d hd => (fσ.1 d hd).1)
    have gl46 := gσ25 t kt.1
    have gl47 := gσ25 P kP.1
    have kp48 : gI σ25 t 0 = gI σ t 0 := by rw [eσ25]; exact (gwσ25.2.2.2 t kt.1 0).1
    have kp49 : gI σ25 t 1 = gI σ t 1 := by rw [eσ25]; exact (gwσ25.2.2.2 t kt.1 1).1
    have kp50 : gI σ25 th 7 = gI σ th 7 := by rw [eσ25]; exact (gwσ25.2.2.2 th kth.1 7).1
    have kp51 : gP σ25 t 2 = gP σ t 2 := by rw [eσ25, gP_pP, up2_n _ _ (fun z => absurd z.1 (kO.ne kt kP (by decide)))]; exact (gwσ25.2.2.2 t kt.1 2).2.1
    have kp52 : gP σ25 t 3 = gP σ t 3 := by rw [eσ25, gP_pP, up2_n _ _ (fun z => absurd z.1 (kO.ne kt kP (by decide)))]; exact (gwσ25.2.2.2 t kt.1 3).2.1
    have kp53 : gP σ25 th 0 = gP σ th 0 := by rw [eσ25, gP_pP, up2_n _ _ (fun z => absurd z.1 (kO.ne kth kP (by decide)))]; exact (gwσ25.2.2.2 th kth.1 0).2.1
    unfold w_X3_keepPart_34
    refine ⟨P, (kp53.trans hp), fun kk_P_2 => ?_⟩
    have q54 := (xσ25 P kP.1).2.2
    refine ⟨⟨by (first | omega | with_reducible assumption | with_reducible exact rng_toInt _ | with_reducible exact rng_wr _ | (unfold rng; omega) | (unfold rng at *; omega) | assumption), by (first | omega | with_reducible assumption | with_reducible exact rng_toInt _ | with_reducible exact rng_wr _ | (unfold rng; omega) | (unfold rng at *; omega) | assumption)⟩, ?_⟩
    refine ⟨t, hv1, fun kk_t_2 => ?_⟩
    refine ⟨qσ25, psσ25, fun kk_qσ25 => ?_⟩
    refine i_X10_lay iσ25 ktσ25 (by (first | omega | with_reducible assumption | with_reducible exact rng_toInt _ | with_reducible exact rng_wr _ | (unfold rng; omega) | (unfold rng at *; omega) | assumption)) (by (first | omega | with_reducible assumption | with_reducible exact rng_toInt _ | with_reducible exact rng_wr _ | (unfold rng; omega) | (unfold rng at *; omega) | assumption)) (fun w => by omega) (fun σ28_1 _ iσ28_1 cσ28_1 pσ28_1 => ?_)
    intro xσ28_1
    have fσ28_1 : Fx [198, 199, 640, 641, 645, 646, 647, 648, 649, 650, 651, 652, 653, 654, 655, 7680] gr σ σ28_1 := fσ25.tr (cσ28_1.mo (by decide))
    have kp55 : gI σ28_1 th 7 = gI σ25 th 7 := (cσ28_1.O (kth.up xσ25) (by decide)).1
    have kp56 : gP σ28_1 P ((gI σ t 0 * 4) + gI σ t 1).toNat = gP σ25 P ((gI σ t 0 * 4) + gI σ t 1).toNat := (cσ28_1.A (kP.up xσ25) (by decide)).2.1
    have kp57 : gP σ28_1 t 2 = gP σ25 t 2 := (cσ28_1.O (kt.up xσ25) (by decide)).2.1
    have kp58 : gP σ28_1 t 3 = gP σ25 t 3 := (cσ28_1.O (kt.up xσ25) (by decide)).2.1
    have kp59 : gP σ28_1 th 0 = gP σ25 th 0 := (cσ28_1.O (kth.up xσ25) (by decide)).2.1
    intro σ30_1 eσ30_1
    have xσ30_1 : Ext σ28_1 σ30_1 := by rw [eσ30_1]; exact fun _ h => ⟨h, rfl, rfl⟩
    have q60 := iσ28_1.rg t 5; unfold rng at q60
    have iσ30_1 : IV σ30_1 pl gqσ25 ciσ25 gr nc ot LL N nuσ25 := by rw [eσ30_1]; exact iσ28_1.wO (ktσ25.up xσ28_1) (by decide) (rngb (by first | exact rng_wr _ | (first | omega | with_reducible assumption | with_reducible exact rng_toInt _ | with_reducible exact rng_wr _ | (unfold rng; omega) | (unfold rng at *; omega) | assumption)))
    have fσ30_1 : Fx [198, 199, 640, 641, 645, 646, 647, 648, 649, 650, 651, 652, 653, 654, 655, 7680] gr σ σ30_1 := fσ28_1.tr (Sk.fx (by rw [eσ30_1]; exact Sk.pI (by rw [fcdO (ktσ25.up xσ28_1) (by decide)]; decide)))
    have wσ30_1 : gI σ30_1 qσ25 5 = (gI σ28_1 t 5) := by rw [eσ30_1]; exact up2_s _ _ _ _
    have kp61 : gI σ30_1 th 7 = gI σ28_1 th 7 := by rw [eσ30_1]; exact up2_n _ _ (fun q => absurd q.2 (by decide))
    have kp62 : gP σ30_1 P ((gI σ t 0 * 4) + gI σ t 1).toNat = gP σ28_1 P ((gI σ t 0 * 4) + gI σ t 1).toNat := by rw [eσ30_1]
    have kp63 : gP σ30_1 t 2 = gP σ28_1 t 2 := by rw [eσ30_1]
    have kp64 : gP σ30_1 t 3 = gP σ28_1 t 3 := by rw [eσ30_1]
    have kp65 : gP σ30_1 th 0 = gP σ28_1 th 0 := by rw [eσ30_1]
    intro σ31_1 eσ31_1
    have xσ31_1 : Ext σ30_1 σ31_1 := by rw [eσ31_1]; exact fun _ h => ⟨h, rfl, rfl⟩
    have q66 := I_10_6 iσ30_1.1 (kt.up (xσ25.trans (xσ28_1.trans xσ30_1)))
    have iσ31_1 : IV σ31_1 pl gqσ25 ciσ25 gr nc ot LL N nuσ25 := by rw [eσ31_1]; exact iσ30_1.wO (ktσ25.up (xσ28_1.trans xσ30_1)) (by decide) (show (0 : Int) ≤ (gI σ30_1 t 6) ∧ (gI σ30_1 t 6) ≤ 64 from ⟨by (first | omega | with_reducible assumption | with_reducible exact rng_toInt _ | with_reducible exact rng_wr _ | (unfold rng; omega) | (unfold rng at *; omega) | assumption), by (first | omega | with_reducible assumption | with_reducible exact rng_toInt _ | with_reducible exact rng_wr _ | (unfold rng; omega) | (unfold rng at *; omega) | assumption)⟩)
    have fσ31_1 : Fx [198, 199, 640, 641, 645, 646, 647, 648, 649, 650, 651, 652, 653, 654, 655, 7680] gr σ σ31_1 := fσ30_1.tr (Sk.fx (by rw [eσ31_1]; exact Sk.pI (by rw [fcdO (ktσ25.up (xσ28_1.trans xσ30_1)) (by decide)]; decide)))
    have wσ31_1 : gI σ31_1 qσ25 6 = (gI σ30_1 t 6) := by rw [eσ31_1]; exact up2_s _ _ _ _
    have kp67 : gI σ31_1 qσ25 5 = gI σ30_1 qσ25 5 := by rw [eσ31_1]; exact up2_n _ _ (fun q => absurd q.2 (by decide))
    have kp68 : gI σ31_1 th 7 = gI σ30_1 th 7 := by rw [eσ31_1]; exact up2_n _ _ (fun q => absurd q.2 (by decide))
    have kp69 : gP σ31_1 P ((gI σ t 0 * 4) + gI σ t 1).toNat = gP σ30_1 P ((gI σ t 0 * 4) + gI σ t 1).toNat := by rw [eσ31_1]
    have kp70 : gP σ31_1 t 2 = gP σ30_1 t 2 := by rw [eσ31_1]
    have kp71 : gP σ31_1 t 3 = gP σ30_1 t 3 := by rw [eσ31_1]
    have kp72 : gP σ31_1 th 0 = gP σ30_1 th 0 := by rw [eσ31_1]
    intro σ32_1 eσ32_1
    have xσ32_1 : Ext σ31_1 σ32_1 := by rw [eσ32_1]; exact fun _ h => ⟨h, rfl, rfl⟩
    have iσ32_1 : IV σ32_1 pl gqσ25 ciσ25 gr nc ot LL N nuσ25 := by rw [eσ32_1]; exact iσ31_1.wT (ktσ25.up (xσ28_1.trans (xσ30_1.trans xσ31_1))) (by decide) (iσ31_1.t7 (kt.up (xσ25.trans (xσ28_1.trans (xσ30_1.trans xσ31_1)))))
    have fσ32_1 : Fx [198, 199, 640, 641, 645, 646, 647, 648, 649, 650, 651, 652, 653, 654, 655, 7680] gr σ σ32_1 := fσ31_1.tr (Sk.fx (by rw [eσ32_1]; exact Sk.pJ (by rw [fcdO (ktσ25.up (xσ28_1.trans (xσ30_1.trans xσ31_1))) (by decide)]; decide)))
    have kp73 : gI σ32_1 qσ25 5 = gI σ31_1 qσ25 5 := by rw [eσ32_1]
    have kp74 : gI σ32_1 qσ25 6 = gI σ31_1 qσ25 6 := by rw [eσ32_1]
    have kp75 : gI σ32_1 th 7 = gI σ31_1 th 7 := by rw [eσ32_1]
    have kp76 : gP σ32_1 P ((gI σ t 0 * 4) + gI σ t 1).toNat = gP σ31_1 P ((gI σ t 0 * 4) + gI σ t 1).toNat := by rw [eσ32_1]
    have kp77 : gP σ32_1 t 2 = gP σ31_1 t 2 := by rw [eσ32_1]
    have kp78 : gP σ32_1 t 3 = gP σ31_1 t 3 := by rw [eσ32_1]
    have kp79 : gP σ32_1 th 0 = gP σ31_1 th 0 := by rw [eσ32_1]
    intro σ33_1 eσ33_1
    have xσ33_1 : Ext σ32_1 σ33_1 := by rw [eσ33_1]; exact fun _ h => ⟨h, rfl, rfl⟩
    have q80 := iσ32_1.rg th 6; unfold rng at q80
    have iσ33_1 : IV σ33_1 pl gqσ25 ciσ25 gr nc ot LL N nuσ25 := by rw [eσ33_1]; exact iσ32_1.wO (kth.up (xσ25.trans (xσ28_1.trans (xσ30_1.trans (xσ31_1.trans xσ32_1))))) (by decide) (rngb (by first | exact rng_wr _ | (first | omega | with_reducible assumption | with_reducible exact rng_toInt _ | with_reducible exact rng_wr _ | (unfold rng; omega) | (unfold rng at *; omega) | assumption)))
    have fσ33_1 : Fx [198, 199, 640, 641, 645, 646, 647, 648, 649, 650, 651, 652, 653, 654, 655, 7680] gr σ σ33_1 := fσ32_1.tr (Sk.fx (by rw [eσ33_1]; exact Sk.pI (by rw [fcdO (kth.up (xσ25.trans (xσ28_1.trans (xσ30_1.trans (xσ31_1.trans xσ32_1))))) (by decide)]; decide)))
    have wσ33_1 : gI σ33_1 th 6 = (wr (gI σ32_1 th 6 + 1)) := by rw [eσ33_1]; exact up2_s _ _ _ _
    have kp81 : gI σ33_1 qσ25 5 = gI σ32_1 qσ25 5 := by rw [eσ33_1]; exact up2_n _ _ (fun q => absurd q.2 (by decide))
    have kp82 : gI σ33_1 qσ25 6 = gI σ32_1 qσ25 6 := by rw [eσ33_1]; exact up2_n _ _ (fun q => absurd q.1 (kO.ne (ktσ25.up (xσ28_1.trans (xσ30_1.trans (xσ31_1.trans xσ32_1)))) (kth.up (xσ25.trans (xσ28_1.trans (xσ30_1.trans (xσ31_1.trans xσ32_1))))) (by decide)))
    have kp83 : gI σ33_1 th 7 = gI σ32_1 th 7 := by rw [eσ33_1]; exact up2_n _ _ (fun q => absurd q.2 (by decide))
    have kp84 : gP σ33_1 P ((gI σ t 0 * 4) + gI σ t 1).toNat = gP σ32_1 P ((gI σ t 0 * 4) + gI σ t 1).toNat := by rw [eσ33_1]
    have kp85 : gP σ33_1 t 2 = gP σ32_1 t 2 := by rw [eσ33_1]
    have kp86 : gP σ33_1 t 3 = gP σ32_1 t 3 := by rw [eσ33_1]
    have kp87 : gP σ33_1 th 0 = gP σ32_1 th 0 := by rw [eσ33_1]
    refine i_X10_held iσ33_1 (kt.up (xσ25.trans (xσ28_1.trans (xσ30_1.trans (xσ31_1.trans (xσ32_1.trans xσ33_1)))))) (fun r35_1 pσ34_1 => ?_)
    intro xσ34_1
    have r9 := pσ34_1.2.2 A9 B9 (kp85.trans (kp77.trans (kp70.trans (kp63.trans (kp57.trans (kp51.trans eA9)))))) (kp86.trans (kp78.trans (kp71.trans (kp64.trans (kp58.trans (kp52.trans eB9))))))
    refine ⟨by (first | omega | with_reducible assumption | with_reducible exact rng_toInt _ | with_reducible exact rng_wr _ | (unfold rng; omega) | (unfold rng at *; omega) | assumption), ?_⟩
    intro σ36_1 eσ36_1
    have xσ36_1 : Ext σ33_1 σ36_1 := by rw [eσ36_1]; exact fun _ h => ⟨h, rfl, rfl⟩
    have iσ36_1 : IV σ36_1 pl gqσ25 ciσ25 gr nc ot LL N nuσ25 := by rw [eσ36_1]; exact iσ33_1.held (kth.up (xσ25.trans (xσ28_1.trans (xσ30_1.trans (xσ31_1.trans (xσ32_1.trans xσ33_1)))))) ⟨by omega, by omega⟩
    have fσ36_1 : Fx [198, 199, 640, 641, 645, 646, 647, 648, 649, 650, 651, 652, 653, 654, 655, 7680] gr σ σ36_1 := fσ33_1.tr (Sk.fx (by rw [eσ36_1]; exact Sk.pI (by rw [fcdO (kth.up (xσ25.trans (xσ28_1.trans (xσ30_1.trans (xσ31_1.trans (xσ32_1.trans xσ33_1)))))) (by decide)]; decide)))
    have wσ36_1 : gI σ36_1 th 7 = (gI σ33_1 th 7 + r35_1) := by rw [eσ36_1]; exact up2_s _ _ _ _
    have kp88 : gI σ36_1 qσ25 5 = gI σ33_1 qσ25 5 := by rw [eσ36_1]; exact up2_n _ _ (fun q => absurd q.2 (by decide))
    have kp89 : gI σ36_1 qσ25 6 = gI σ33_1 qσ25 6 := by rw [eσ36_1]; exact up2_n _ _ (fun q => absurd q.2 (by decide))
    have kp90 : gI σ36_1 th 6 = gI σ33_1 th 6 := by rw [eσ36_1]; exact up2_n _ _ (fun q => absurd q.2 (by decide))
    have kp91 : gP σ36_1 P ((gI σ t 0 * 4) + gI σ t 1).toNat = gP σ33_1 P ((gI σ t 0 * 4) + gI σ t 1).toNat := by rw [eσ36_1]
    have kp92 : gP σ36_1 t 2 = gP σ33_1 t 2 := by rw [eσ36_1]
    have kp93 : gP σ36_1 t 3 = gP σ33_1 t 3 := by rw [eσ36_1]
    have kp94 : gP σ36_1 th 0 = gP σ33_1 th 0 := by rw [eσ36_1]
    rw [show (gP σ25 P ((gI σ t 0 * 4) + gI σ t 1).toNat) = some qσ25 from psσ25]
    exact hQ σ36_1 gqσ25 ciσ25 LL N nuσ25 qσ25 iσ36_1 geσ25 fσ36_1 (nu_σ25) hnσ (⟨rfl, rfl, by omega, fun a9 b9 ha9 hb9 => by rw [eA9] at ha9; rw [eB9] at hb9; cases ha9; cases hb9; omega⟩)

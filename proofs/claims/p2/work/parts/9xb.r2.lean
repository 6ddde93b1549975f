set_option maxHeartbeats 1000000 in
theorem i_X9_unload {σ : Sg} {pl : Nat} {gq ci gr nc : Nat → Nat} {ot : Nat → Nat → Int} {LL : Nat → List Nat} {N nu : Nat → Nat} {th : Nat} {v1 : Option Nat} (iσ : IV σ pl gq ci gr nc ot LL N nu) (kth : kO σ th 9) {t : Nat} (hv1 : v1 = some t) (kt : kO σ t 10) (ht : gq t = 1) (hl : ci t < nu 15) {Q : Sg → Int → Prop} {X : Sg → String → Prop} (hQ : ∀ (σ' : Sg) (LL' : Nat → List Nat) (N' nu' : Nat → Nat) (r : Int), IV σ' pl gq ci gr nc ot LL' N' nu' → Fx [1, 64, 134, 512, 590] gr σ σ' → NU nu nu' → Hn (gD σ) [13, 50] [] gq LL LL' N N' → ((r = 0 ∨ r = 1) ∧ N' 1 = N 1) → Q σ' r) : wp_X9_unload th v1 σ Q X := by
  have fσ : Fx [1, 64, 134, 512, 590] gr σ σ := Fx.rf
  have hnσ : Hn (gD σ) [13, 50] [] gq LL LL N N := Hn.rf
  have n16 := iσ.n16
  unfold wp_X9_unload
  unfold w_X9_unload_0
  refine ⟨t, hv1, fun kk_t => ?_⟩
  obtain ⟨b, eb, fb⟩ := P_10_4 iσ.1 kt
  have mb : kO σ b 1 := iσ.1.kd kt rfl eb rfl
  refine ⟨b, eb, fun kk_b => ?_⟩
  have Lp8 : ∀ (fu8 : Nat) (τ8 : Sg) (LLt8 : Nat → List Nat) (Nt8 nut8 : Nat → Nat) (v2 : Option Nat), IV τ8 pl gq ci gr nc ot LLt8 Nt8 nut8 → Fx [1, 64, 134, 512, 590] gr σ τ8 → Ext σ τ8 → NU nu nut8 → Hn (gD σ) [13, 50] [] gq LL LLt8 N Nt8 → (v2 = (LLt8 b).head? ∧ Nt8 1 = N 1) → ((LLt8 b).length) < fu8 → wl_X9_unload_8 th Q X fu8 τ8 v1 v2 := by
    intro fu8
    induction fu8 with
    | zero => intro _ _ _ _ _ _ _ _ _ _ _ h9; omega
    | succ fu8 ih8 =>
      intro τ8 LLt8 Nt8 nut8 v2 iτ8 fτ8 xτ8 nu_τ8 hnτ8 hi8 hm8
      have nτ8_3 := hnτ8.2.2 3 (by first | decide | (simp; done) | (simp only [List.mem_cons, List.mem_nil_iff, or_false, not_or]; omega)) (by first | decide | omega) (by first | decide | omega) (by first | decide | omega)
      have nτ8_5 := hnτ8.2.2 5 (by first | decide | (simp; done) | (simp only [List.mem_cons, List.mem_nil_iff, or_false, not_or]; omega)) (by first | decide | omega) (by first | decide | omega) (by first | decide | omega)
      have nτ8_14 := hnτ8.2.2 14 (by first | decide | (simp; done) | (simp only [List.mem_cons, List.mem_nil_iff, or_false, not_or]; omega)) (by first | decide | omega) (by first | decide | omega) (by first | decide | omega)
      have nτ8_44 := hnτ8.2.2 44 (by first | decide | (simp; done) | (simp only [List.mem_cons, List.mem_nil_iff, or_false, not_or]; omega)) (by first | decide | omega) (by first | decide | omega) (by first | decide | omega)
      have nτ8_74 := hnτ8.2.2 74 (by first | decide | (simp; done) | (simp only [List.mem_cons, List.mem_nil_iff, or_false, not_or]; omega)) (by first | decide | omega) (by first | decide | omega) (by first | decide | omega)
      have nτ8_11 := hnτ8.2.2 11 (by first | decide | (simp; done) | (simp only [List.mem_cons, List.mem_nil_iff, or_false, not_or]; omega)) (by first | decide | omega) (by first | decide | omega) (by first | decide | omega)
      have nτ8_12 := hnτ8.2.2 12 (by first | decide | (simp; done) | (simp only [List.mem_cons, List.mem_nil_iff, or_false, not_or]; omega)) (by first | decide | omega) (by first | decide | omega) (by first | decide | omega)
      have nτ8_41 := hnτ8.2.2 41 (by first | decide | (simp; done) | (simp only [List.mem_cons, List.mem_nil_iff, or_false, not_or]; omega)) (by first | decide | omega) (by first | decide | omega) (by first | decide | omega)
      have nτ8_42 := hnτ8.2.2 42 (by first | decide | (simp; done) | (simp only [List.mem_cons, List.mem_nil_iff, or_false, not_or]; omega)) (by first | decide | omega) (by first | decide | omega) (by first | decide | omega)
      have uτ8_0 := nu_τ8.1 0 (by decide)
      have uτ8_1 := nu_τ8.1 1 (by decide)
      have uτ8_2 := nu_τ8.2
      have uτ8_5 := nu_τ8.1 5 (by decide)
      have uτ8_15 := nu_τ8.1 15 (by decide)
      have uτ8_16 := nu_τ8.1 16 (by decide)
      unfold wl_X9_unload_8
      have kp1 : gP τ8 t 4 = gP σ t 4 := (fτ8.O kt (by decide)).2.1
      unfold w_X9_unload_8
      by_cases hc2 : v2 = none
      · rw [if_pos hc2]
        unfold w_X9_unload_96
        exact hQ τ8 LLt8 Nt8 nut8 1 iτ8 fτ8 (nu_τ8) hnτ8 (by (first | omega | with_reducible assumption | with_reducible exact rng_toInt _ | with_reducible exact rng_wr _ | (unfold rng; omega) | (unfold rng at *; omega) | assumption))
      · rw [if_neg hc2]
        unfold w_X9_unload_12
        obtain ⟨b_1, eb_1⟩ := Option.ne_none_iff_exists'.mp hc2
        obtain ⟨T9, eT⟩ := it_cons hi8.1 eb_1
        have mm9 : b_1 ∈ LLt8 b := by rw [eT]; exact List.mem_cons_self
        have gl9 := iτ8.gl (mb.up xτ8) (by omega) mm9
        have bx9 := iτ8.bx (kth.up xτ8)
        refine ⟨b_1, eb_1, fun kk_b_1 => ?_⟩
        obtain ⟨b_2, eb_2, fb_2⟩ := P_9_4 iτ8.1 (kth.up xτ8)
        have mb_2 : kO τ8 b_2 112 := iτ8.1.kd (kth.up xτ8) rfl eb_2 rfl
        refine ⟨b_2, eb_2, fun kk_b_2 => ?_⟩
        have q3 := I_0_3 iτ8.1 kk_b_1
        refine ⟨⟨by (first | omega | with_reducible assumption | with_reducible exact rng_toInt _ | with_reducible exact rng_wr _ | (unfold rng; omega) | (unfold rng at *; omega) | assumption), by (first | omega | with_reducible assumption | with_reducible exact rng_toInt _ | with_reducible exact rng_wr _ | (unfold rng; omega) | (unfold rng at *; omega) | assumption)⟩, ?_⟩
        have n16b_3 := iτ8.n16
        obtain ⟨b_3, eb_3, mb_3, fb_3⟩ := P_112 iτ8 mb_2 (k := (gI τ8 b_1 3).toNat) (by (first | omega | with_reducible assumption | with_reducible exact rng_toInt _ | with_reducible exact rng_wr _ | (unfold rng; omega) | (unfold rng at *; omega) | assumption))
        refine ⟨b_3, eb_3, fun kk_b_3 => ?_⟩
        obtain ⟨b_4, eb_4, fb_4⟩ := P_2_0 iτ8.1 mb_3
        have mb_4 : kO τ8 b_4 1 := iτ8.1.kd mb_3 rfl eb_4 rfl
        refine ⟨b_4, eb_4, fun kk_b_4 => ?_⟩
        have q5 := iτ8.size mb_4
        have qz5 := iτ8.sz mb_4.1
        have q6 := I_9_13 iτ8.1 (kth.up xτ8)
        by_cases hc4 : gI τ8 b_4 2 < gI τ8 th 13
        · rw [if_pos hc4]
          unfold w_X9_unload_38
          refine ⟨t, hv1, fun kk_t_1 => ?_⟩
          refine ⟨b, (kp1.trans eb), fun kk_b_5 => ?_⟩
          have lo_b_1 : Lo [] (gD σ) LL b_1 := hnτ8.loc (fun d hd => (fτ8.1 d hd).1) (Or.inr ⟨b, mm9⟩)
          refine i_X1_takeFirst (G0 := 13) iτ8 (mb.up xτ8) (by omega) (fun σ27 LLσ27 Nσ27 nuσ27 r28 iσ27 cσ27 uσ27 hσ27 pσ27 => ?_)
          intro xσ27
          have fσ27 : Fx [1, 64, 134, 512, 590] gr σ σ27 := fτ8.tr (cσ27.mo (by decide))
          have hnσ27 : Hn (gD σ) [13, 50] [] gq LL LLσ27 N Nσ27 := hnτ8.go hσ27 (fun d hd => (fτ8.1 d hd).1) (by first | decide | exact fun _ h => h | (simp; done) | (intro x hx; simp only [List.mem_cons, List.mem_nil_iff, or_false] at hx ⊢; omega)) (fun d hd => absurd hd (by simp))
          have nσ27_3 := hσ27.2.2 3 (by first | decide | (simp; done) | (simp only [List.mem_cons, List.mem_nil_iff, or_false, not_or]; omega)) (by first | decide | omega) (by first | decide | omega) (by first | decide | omega)
          have nσ27_5 := hσ27.2.2 5 (by first | decide | (simp; done) | (simp only [List.mem_cons, List.mem_nil_iff, or_false, not_or]; omega)) (by first | decide | omega) (by first | decide | omega) (by first | decide | omega)
          have nσ27_14 := hσ27.2.2 14 (by first | decide | (simp; done) | (simp only [List.mem_cons, List.mem_nil_iff, or_false, not_or]; omega)) (by first | decide | omega) (by first | decide | omega) (by first | decide | omega)
          have nσ27_44 := hσ27.2.2 44 (by first | decide | (simp; done) | (simp only [List.mem_cons, List.mem_nil_iff, or_false, not_or]; omega)) (by first | decide | omega) (by first | decide | omega) (by first | decide | omega)
          have nσ27_74 := hσ27.2.2 74 (by first | decide | (simp; done) | (simp only [List.mem_cons, List.mem_nil_iff, or_false, not_or]; omega)) (by first | decide | omega) (by first | decide | omega) (by first | decide | omega)
          have nσ27_11 := hσ27.2.2 11 (by first | decide | (simp; done) | (simp only [List.mem_cons, List.mem_nil_iff, or_false, not_or]; omega)) (by first | decide | omega) (by first | decide | omega) (by first | decide | omega)
          have nσ27_12 := hσ27.2.2 12 (by first | decide | (simp; done) | (simp only [List.mem_cons, List.mem_nil_iff, or_false, not_or]; omega)) (by first | decide | omega) (by first | decide | omega) (by first | decide | omega)
          have nσ27_41 := hσ27.2.2 41 (by first | decide | (simp; done) | (simp only [List.mem_cons, List.mem_nil_iff, or_false, not_or]; omega)) (by first | decide | omega) (by first | decide | omega) (by first | decide | omega)
          have nσ27_42 := hσ27.2.2 42 (by first | decide | (simp; done) | (simp only [List.mem_cons, List.mem_nil_iff, or_false, not_or]; omega)) (by first | decide | omega) (by first | decide | omega) (by first | decide | omega)
          have nσ27_50 := hσ27.2.2 50 (by first | decide | (simp; done) | (simp only [List.mem_cons, List.mem_nil_iff, or_false, not_or]; omega)) (by first | decide | omega) (by first | decide | omega) (by first | decide | omega)
          have nu_σ27 : NU nu nuσ27 := nu_τ8.tr uσ27
          have uσ27_0 := uσ27.1 0 (by decide)
          have uσ27_1 := uσ27.1 1 (by decide)
          have uσ27_2 := uσ27.2
          have uσ27_5 := uσ27.1 5 (by decide)
          have uσ27_15 := uσ27.1 15 (by decide)
          have uσ27_16 := uσ27.1 16 (by decide)
          have kp7 : gI σ27 b_1 3 = gI τ8 b_1 3 := (cσ27.O kk_b_1 (by decide)).1
          have kp8 : gI σ27 th 13 = gI τ8 th 13 := (cσ27.O (kth.up xτ8) (by decide)).1
          have kp9 : gP σ27 b_2 (gI τ8 b_1 3).toNat = gP τ8 b_2 (gI τ8 b_1 3).toNat := (cσ27.A mb_2 (by decide)).2.1
          have kp10 : gP σ27 b_3 0 = gP τ8 b_3 0 := (cσ27.O mb_3 (by decide)).2.1
          have kp11 : gP σ27 t 4 = gP τ8 t 4 := (cσ27.O (kt.up xτ8) (by decide)).2.1
          have kp12 : gP σ27 th 4 = gP τ8 th 4 := (cσ27.O (kth.up xτ8) (by decide)).2.1
          have kp13 : gI σ27 th 14 = gI τ8 th 14 := (cσ27.O (kth.up xτ8) (by decide)).1
          obtain ⟨r9, eL9, hb9, n9a, n9b⟩ := take_r eT pσ27
          have laσ27 : (LLσ27 b).length + 1 = (LLt8 b).length := by rw [eL9, up1_s, eT]; rfl
          have hLt := hσ27.1 b_4 mb_4.1 (by first | (simp; done) | (simp only [List.mem_cons, List.mem_nil_iff, or_false, not_or]; omega)) (by omega)
          intro tyt
          have q14 := I_9_14 iσ27.1 (kth.up (xτ8.trans xσ27))
          refine ⟨by (first | omega | with_reducible assumption | with_reducible exact rng_toInt _ | with_reducible exact rng_wr _ | (unfold rng; omega) | (unfold rng at *; omega) | assumption), ?_⟩
          intro σ30 eσ30
          have xσ30 : Ext σ27 σ30 := by rw [eσ30]; exact fun _ h => ⟨h, rfl, rfl⟩
          have iσ30 : IV σ30 pl gq ci gr nc ot LLσ27 Nσ27 nuσ27 := by rw [eσ30]; exact iσ27.boxd (kth.up (xτ8.trans xσ27)) (by omega) (by omega)
          have fσ30 : Fx [1, 64, 134, 512, 590] gr σ σ30 := fσ27.tr (Sk.fx (by rw [eσ30]; exact Sk.pI (by rw [fcdO (kth.up (xτ8.trans xσ27)) (by decide)]; decide)))
          have wσ30 : gI σ30 th 14 = (gI σ27 th 14 - 1) := by rw [eσ30]; exact up2_s _ _ _ _
          have kp15 : gI σ30 b_1 3 = gI σ27 b_1 3 := by rw [eσ30]; exact up2_n _ _ (fun q => absurd q.2 (by decide))
          have kp16 : gI σ30 th 13 = gI σ27 th 13 := by rw [eσ30]; exact up2_n _ _ (fun q => absurd q.2 (by decide))
          have kp17 : gP σ30 b_2 (gI τ8 b_1 3).toNat = gP σ27 b_2 (gI τ8 b_1 3).toNat := by rw [eσ30]
          have kp18 : gP σ30 b_3 0 = gP σ27 b_3 0 := by rw [eσ30]
          have kp19 : gP σ30 t 4 = gP σ27 t 4 := by rw [eσ30]
          have kp20 : gP σ30 th 4 = gP σ27 th 4 := by rw [eσ30]
          refine ⟨b_3, eb_3, fun kk_b_3_1 => ?_⟩
          refine ⟨b_4, (kp18.trans (kp10.trans eb_4)), fun kk_b_4_1 => ?_⟩
          refine i_X1_add (G0 := 50) iσ30 (mb_4.up (xσ27.trans xσ30)) eb_1 (kk_b_1.up (xσ27.trans xσ30)) (by omega) (by (first | omega | with_reducible assumption | with_reducible exact rng_toInt _ | with_reducible exact rng_wr _ | (unfold rng; omega) | (unfold rng at *; omega) | assumption)) (by (first | omega | with_reducible assumption | with_reducible exact rng_toInt _ | with_reducible exact rng_wr _ | (unfold rng; omega) | (unfold rng at *; omega) | assumption)) (plc_50 iσ30 (by omega) (by omega)) (fun _ => by rw [hLt]; omega) (no13 (by decide)) (fun N9 n1 _ => iσ30.2.2.1.made (by decide) n1) (fun σ32 LLσ32 Nσ32 nuσ32 _ iσ32 cσ32 uσ32 hσ32 pσ32 => ?_)
          intro xσ32
          have fσ32 : Fx [1, 64, 134, 512, 590] gr σ σ32 := fσ30.tr (cσ32.mo (by decide))
          have hnσ32 : Hn (gD σ) [13, 50] [] gq LL LLσ32 N Nσ32 := hnσ27.go hσ32 (fun d hd => (fσ30.1 d hd).1) (by first | decide | exact fun _ h => h | (simp; done) | (intro x hx; simp only [List.mem_cons, List.mem_nil_iff, or_false] at hx ⊢; omega)) (fun d hd => by rw [List.mem_singleton.mp hd]; exact lo_b_1)
          have nσ32_3 := hσ32.2.2 3 (by first | decide | (simp; done) | (simp only [List.mem_cons, List.mem_nil_iff, or_false, not_or]; omega)) (by first | decide | omega) (by first | decide | omega) (by first | decide | omega)
          have nσ32_5 := hσ32.2.2 5 (by first | decide | (simp; done) | (simp only [List.mem_cons, List.mem_nil_iff, or_false, not_or]; omega)) (by first | decide | omega) (by first | decide | omega) (by first | decide | omega)
          have nσ32_14 := hσ32.2.2 14 (by first | decide | (simp; done) | (simp only [List.mem_cons, List.mem_nil_iff, or_false, not_or]; omega)) (by first | decide | omega) (by first | decide | omega) (by first | decide | omega)
          have nσ32_44 := hσ32.2.2 44 (by first | decide | (simp; done) | (simp only [List.mem_cons, List.mem_nil_iff, or_false, not_or]; omega)) (by first | decide | omega) (by first | decide | omega) (by first | decide | omega)
          have nσ32_74 := hσ32.2.2 74 (by first | decide | (simp; done) | (simp only [List.mem_cons, List.mem_nil_iff, or_false, not_or]; omega)) (by first | decide | omega) (by first | decide | omega) (by first | decide | omega)
          have nσ32_11 := hσ32.2.2 11 (by first | decide | (simp; done) | (simp only [List.mem_cons, List.mem_nil_iff, or_false, not_or]; omega)) (by first | decide | omega) (by first | decide | omega) (by first | decide | omega)
          have nσ32_12 := hσ32.2.2 12 (by first | decide | (simp; done) | (simp only [List.mem_cons, List.mem_nil_iff, or_false, not_or]; omega)) (by first | decide | omega) (by first | decide | omega) (by first | decide | omega)
          have nσ32_41 := hσ32.2.2 41 (by first | decide | (simp; done) | (simp only [List.mem_cons, List.mem_nil_iff, or_false, not_or]; omega)) (by first | decide | omega) (by first | decide | omega) (by first | decide | omega)
          have nσ32_42 := hσ32.2.2 42 (by first | decide | (simp; done) | (simp only [List.mem_cons, List.mem_nil_iff, or_false, not_or]; omega)) (by first | decide | omega) (by first | decide | omega) (by first | decide | omega)
          have nσ32_13 := hσ32.2.2 13 (by first | decide | (simp; done) | (simp only [List.mem_cons, List.mem_nil_iff, or_false, not_or]; omega)) (by first | decide | omega) (by first | decide | omega) (by first | decide | omega)
          have nu_σ32 : NU nu nuσ32 := nu_σ27.tr uσ32
          have uσ32_0 := uσ32.1 0 (by decide)
          have uσ32_1 := uσ32.1 1 (by decide)
          have uσ32_2 := uσ32.2
          have uσ32_5 := uσ32.1 5 (by decide)
          have uσ32_15 := uσ32.1 15 (by decide)
          have uσ32_16 := uσ32.1 16 (by decide)
          have kp21 : gI σ32 b_1 3 = gI σ30 b_1 3 := (cσ32.O (kk_b_1.up (xσ27.trans xσ30)) (by decide)).1
          have kp22 : gI σ32 th 13 = gI σ30 th 13 := (cσ32.O (kth.up (xτ8.trans (xσ27.trans xσ30))) (by decide)).1
          have kp23 : gI σ32 th 14 = gI σ30 th 14 := (cσ32.O (kth.up (xτ8.trans (xσ27.trans xσ30))) (by decide)).1
          have kp24 : gP σ32 b_2 (gI τ8 b_1 3).toNat = gP σ30 b_2 (gI τ8 b_1 3).toNat := (cσ32.A (mb_2.up (xσ27.trans xσ30)) (by decide)).2.1
          have kp25 : gP σ32 b_3 0 = gP σ30 b_3 0 := (cσ32.O (mb_3.up (xσ27.trans xσ30)) (by decide)).2.1
          have kp26 : gP σ32 t 4 = gP σ30 t 4 := (cσ32.O (kt.up (xτ8.trans (xσ27.trans xσ30))) (by decide)).2.1
          have kp27 : gP σ32 th 4 = gP σ30 th 4 := (cσ32.O (kth.up (xτ8.trans (xσ27.trans xσ30))) (by decide)).2.1
          have laσ32 : (LLσ32 b).length = (LLσ27 b).length := by rw [hσ32.1 b (mb.up (xτ8.trans (xσ27.trans xσ30))).1 (by first | (simp; done) | (simp only [List.mem_cons, List.mem_nil_iff, or_false, not_or]; omega)) (by omega)]
          refine ⟨b_1, eb_1, fun kk_b_1_1 => ?_⟩
          have q29 := iσ32.rg b_1 2; unfold rng at q29
          by_cases hc28 : gI σ32 b_1 2 ≠ 0
          · rw [if_pos hc28]
            unfold w_X9_unload_80
            unfold w_X9_unload_81
            refine ⟨b_3, eb_3, fun kk_b_3_2 => ?_⟩
            intro σ36 eσ36
            have xσ36 : Ext σ32 σ36 := by rw [eσ36]; exact fun _ h => ⟨h, rfl, rfl⟩
            have q30 := iσ32.rg b_3 6; unfold rng at q30
            have iσ36 : IV σ36 pl gq ci gr nc ot LLσ32 Nσ32 nuσ32 := by rw [eσ36]; exact iσ32.wO (mb_3.up (xσ27.trans (xσ30.trans xσ32))) (by decide) (rngb (by first | exact rng_wr _ | (first | omega | with_reducible assumption | with_reducible exact rng_toInt _ | with_reducible exact rng_wr _ | (unfold rng; omega) | (unfold rng at *; omega) | assumption)))
            have fσ36 : Fx [1, 64, 134, 512, 590] gr σ σ36 := fσ32.tr (Sk.fx (by rw [eσ36]; exact Sk.pI (by rw [fcdO (mb_3.up (xσ27.trans (xσ30.trans xσ32))) (by decide)]; decide)))
            have wσ36 : gI σ36 b_3 6 = (wr ((gI σ32 b_3 6) + 0)) := by rw [eσ36]; exact up2_s _ _ _ _
            have kp31 : gI σ36 b_1 2 = gI σ32 b_1 2 := by rw [eσ36]; exact up2_n _ _ (fun q => absurd q.2 (by decide))
            have kp32 : gI σ36 b_1 3 = gI σ32 b_1 3 := by rw [eσ36]; exact up2_n _ _ (fun q => absurd q.2 (by decide))
            have kp33 : gI σ36 th 13 = gI σ32 th 13 := by rw [eσ36]; exact up2_n _ _ (fun q => absurd q.2 (by decide))
            have kp34 : gI σ36 th 14 = gI σ32 th 14 := by rw [eσ36]; exact up2_n _ _ (fun q => absurd q.2 (by decide))
            have kp35 : gP σ36 b_2 (gI τ8 b_1 3).toNat = gP σ32 b_2 (gI τ8 b_1 3).toNat := by rw [eσ36]
            have kp36 : gP σ36 b_3 0 = gP σ32 b_3 0 := by rw [eσ36]
            have kp37 : gP σ36 t 4 = gP σ32 t 4 := by rw [eσ36]
            have kp38 : gP σ36 th 4 = gP σ32 th 4 := by rw [eσ36]
            refine ⟨t, hv1, fun kk_t_2 => ?_⟩
            refine ⟨b, (kp37.trans (kp26.trans (kp19.trans (kp11.trans (kp1.trans eb))))), fun kk_b_6 => ?_⟩
            exact ih8 σ36 LLσ32 Nσ32 nuσ32 (gP σ36 b 0) iσ36 fσ36 (xτ8.trans (xσ27.trans (xσ30.trans (xσ32.trans xσ36)))) nu_σ32 hnσ32 (⟨iσ36.first (mb.up (xτ8.trans (xσ27.trans (xσ30.trans (xσ32.trans xσ36))))), by omega⟩) (by (first | omega | with_reducible assumption | with_reducible exact rng_toInt _ | with_reducible exact rng_wr _ | (unfold rng; omega) | (unfold rng at *; omega) | assumption))
          · rw [if_neg hc28]
            have hc28q := Classical.not_not.mp hc28
            unfold w_X9_unload_76
            unfold w_X9_unload_81
            refine ⟨b_3, eb_3, fun kk_b_3_3 => ?_⟩
            intro σ36_1 eσ36_1
            have xσ36_1 : Ext σ32 σ36_1 := by rw [eσ36_1]; exact fun _ h => ⟨h, rfl, rfl⟩
            have q39 := iσ32.rg b_3 6; unfold rng at q39
            have iσ36_1 : IV σ36_1 pl gq ci gr nc ot LLσ32 Nσ32 nuσ32 := by rw [eσ36_1]; exact iσ32.wO (mb_3.up (xσ27.trans (xσ30.trans xσ32))) (by decide) (rngb (by first | exact rng_wr _ | (first | omega | with_reducible assumption | with_reducible exact rng_toInt _ | with_reducible exact rng_wr _ | (unfold rng; omega) | (unfold rng at *; omega) | assumption)))
            have fσ36_1 : Fx [1, 64, 134, 512, 590] gr σ σ36_1 := fσ32.tr (Sk.fx (by rw [eσ36_1]; exact Sk.pI (by rw [fcdO (mb_3.up (xσ27.trans (xσ30.trans xσ32))) (by decide)]; decide)))
            have wσ36_1 : gI σ36_1 b_3 6 = (wr ((gI σ32 b_3 6) + 1)) := by rw [eσ36_1]; exact up2_s _ _ _ _
            have kp40 : gI σ36_1 b_1 2 = gI σ32 b_1 2 := by rw [eσ36_1]; exact up2_n _ _ (fun q => absurd q.2 (by decide))
            have kp41 : gI σ36_1 b_1 3 = gI σ32 b_1 3 := by rw [eσ36_1]; exact up2_n _ _ (fun q => absurd q.2 (by decide))
            have kp42 : gI σ36_1 th 13 = gI σ32 th 13 := by rw [eσ36_1]; exact up2_n _ _ (fun q => absurd q.2 (by decide))
            have kp43 : gI σ36_1 th 14 = gI σ32 th 14 := by rw [eσ36_1]; exact up2_n _ _ (fun q => absurd q.2 (by decide))
            have kp44 : gP σ36_1 b_2 (gI τ8 b_1 3).toNat = gP σ32 b_2 (gI τ8 b_1 3).toNat := by rw [eσ36_1]
            have kp45 : gP σ36_1 b_3 0 = gP σ32 b_3 0 := by rw [eσ36_1]
            have kp46 : gP σ36_1 t 4 = gP σ32 t 4 := by rw [eσ36_1]
            have kp47 : gP σ36_1 th 4 = gP σ32 th 4 := by rw [eσ36_1]
            refine ⟨t, hv1, fun kk_t_3 => ?_⟩
            refine ⟨b, (kp46.trans (kp26.trans (kp19.trans (kp11.trans (kp1.trans eb))))), fun kk_b_7 => ?_⟩
            exact ih8 σ36_1 LLσ32 Nσ32 nuσ32 (gP σ36_1 b 0) iσ36_1 fσ36_1 (xτ8.trans (xσ27.trans (xσ30.trans (xσ32.trans xσ36_1)))) nu_σ32 hnσ32 (⟨iσ36_1.first (mb.up (xτ8.trans (xσ27.trans (xσ30.trans (xσ32.trans xσ36_1))))), by omega⟩) (by (first | omega | with_reducible assumption | with_reducible exact rng_toInt _ | with_reducible exact rng_wr _ | (unfold rng; omega) | (unfold rng at *; omega) | assumption))
        · rw [if_neg hc4]
          unfold w_X9_unload_36
          exact hQ τ8 LLt8 Nt8 nut8 0 iτ8 fτ8 (nu_τ8) hnτ8 (by (first | omega | with_reducible assumption | with_reducible exact rng_toInt _ | with_reducible exact rng_wr _ | (unfold rng; omega) | (unfold rng at *; omega) | assumption))
  exact ⟨_, Lp8 _ σ LL N nu _ iσ fσ (Ext.rfl' _) NU.rf hnσ (⟨iσ.first mb, rfl⟩) (Nat.lt_succ_self _)⟩
set_option maxHeartbeats 1000000 in
theorem i_X9_sendMade {σ : Sg} {pl : Nat} {gq ci gr nc : Nat → Nat} {ot : Nat → Nat → Int} {LL : Nat → List Nat} {N nu : Nat → Nat} {th : Nat} {v1 : Option Nat} {J : Nat} (iσ : IV σ pl gq ci gr nc ot LL N nu) (kth : kO σ th 9) {t : Nat} (hv1 : v1 = some t) (kt : kO σ t 10) (ht : gq t = 1) (hl : ci t < nu 15) (hj : gP σ th 9 = some J) (kJ : kO σ J 4) (hJ : gq J = nc 0) (hp : 1 ≤ gI σ th 12) (h5 : nu 5 < 24000) (hb : N 14 + N 44 + N 74 + N 1 ≤ 40000) {Q : Sg → Unit → Prop} {X : Sg → String → Prop} (hQ : ∀ (σ' : Sg) (LL' : Nat → List Nat) (N' nu' : Nat → Nat) (r : Unit), IV σ' pl gq ci gr nc ot LL' N' nu' → Fx [1, 2, 3, 4, 5, 6, 7, 64, 512, 590, 649, 6464] gr σ σ' → NU nu nu' → Hn (gD σ) [13, 14] [] gq LL LL' N N' → (N' 1 = N 1 ∧ N' 14 = 0) → Q σ' r) (hX : ∀ (σ' : Sg) (LL' : Nat → List Nat) (N' nu' : Nat → Nat) (E : String), IV σ' pl gq ci gr nc ot LL' N' nu' → Fx [1, 2, 3, 4, 5, 6, 7, 64, 512, 590, 649, 6464] gr σ σ' → NX nu nu' → ((N' 1 ≤ N 1 + 2 ∧ N' 5 = N 5 ∧ N' 3 = N 3 ∧ N' 44 = N 44 ∧ N' 74 = N 74) ∧ NZ N N' ∧ E = "java/lang/IllegalStateException") → X σ' E) : wp_X9_sendMade th v1 σ Q X := by
  have fσ : Fx [1, 2, 3, 4, 5, 6, 7, 64, 512, 590, 649, 6464] gr σ σ := Fx.rf
  have hnσ : Hn (gD σ) [13, 14] [] gq LL LL N N := Hn.rf
  have q1 := I_9_12 iσ.1 kth
  unfold wp_X9_sendMade
  unfold w_X9_sendMade_0
  obtain ⟨b, eb, fb⟩ := P_9_1 iσ.1 kth
  have mb : kO σ b 11 := iσ.1.kd kth rfl eb rfl
  refine ⟨b, eb, fun kk_b => ?_⟩
  obtain ⟨b_1, eb_1, fb_1⟩ := P_11_2 iσ.1 mb
  have mb_1 : kO σ b_1 1 := iσ.1.kd mb rfl eb_1 rfl
  refine ⟨b_1, eb_1, fun kk_b_1 => ?_⟩
  refine i_X1_takeFirst (G0 := 14) iσ mb_1 (by omega) (fun σ11 LLσ11 Nσ11 nuσ11 r12 iσ11 cσ11 uσ11 hσ11 pσ11 => ?_)
  intro xσ11
  have fσ11 : Fx [1, 2, 3, 4, 5, 6, 7, 64, 512, 590, 649, 6464] gr σ σ11 := fσ.tr (cσ11.mo (by decide))
  have hnσ11 : Hn (gD σ) [13, 14] [] gq LL LLσ11 N Nσ11 := hnσ.go hσ11 (fun d hd => (fσ.1 d hd).1) (by first | decide | exact fun _ h => h | (simp; done) | (intro x hx; simp only [List.mem_cons, List.mem_nil_iff, or_false] at hx ⊢; omega)) (fun d hd => absurd hd (by simp))
  have nσ11_3 := hσ11.2.2 3 (by first | decide | (simp; done) | (simp only [List.mem_cons, List.mem_nil_iff, or_false, not_or]; omega)) (by first | decide | omega) (by first | decide | omega) (by first | decide | omega)
  have nσ11_5 := hσ11.2.2 5 (by first | decide | (simp; done) | (simp only [List.mem_cons, List.mem_nil_iff, or_false, not_or]; omega)) (by first | decide | omega) (by first | decide | omega) (by first | decide | omega)
  have nσ11_44 := hσ11.2.2 44 (by first | decide | (simp; done) | (simp only [List.mem_cons, List.mem_nil_iff, or_false, not_or]; omega)) (by first | decide | omega) (by first | decide | omega) (by first | decide | omega)
  have nσ11_74 := hσ11.2.2 74 (by first | decide | (simp; done) | (simp only [List.mem_cons, List.mem_nil_iff, or_false, not_or]; omega)) (by first | decide | omega) (by first | decide | omega) (by first | decide | omega)
  have nσ11_11 := hσ11.2.2 11 (by first | decide | (simp; done) | (simp only [List.mem_cons, List.mem_nil_iff, or_false, not_or]; omega)) (by first | decide | omega) (by first | decide | omega) (by first | decide | omega)
  have nσ11_12 := hσ11.2.2 12 (by first | decide | (simp; done) | (simp only [List.mem_cons, List.mem_nil_iff, or_false, not_or]; omega)) (by first | decide | omega) (by first | decide | omega) (by first | decide | omega)
  have nσ11_41 := hσ11.2.2 41 (by first | decide | (simp; done) | (simp only [List.mem_cons, List.mem_nil_iff, or_false, not_or]; omega)) (by first | decide | omega) (by first | decide | omega) (by first | decide | omega)
  have nσ11_42 := hσ11.2.2 42 (by first | decide | (simp; done) | (simp only [List.mem_cons, List.mem_nil_iff, or_false, not_or]; omega)) (by first | decide | omega) (by first | decide | omega) (by first | decide | omega)
  have nσ11_13 := hσ11.2.2 13 (by first | decide | (simp; done) | (simp only [List.mem_cons, List.mem_nil_iff, or_false, not_or]; omega)) (by first | decide | omega) (by first | decide | omega) (by first | decide | omega)
  have nσ11_50 := hσ11.2.2 50 (by first | decide | (simp; done) | (simp only [List.mem_cons, List.mem_nil_iff, or_false, not_or]; omega)) (by first | decide | omega) (by first | decide | omega) (by first | decide | omega)
  have nu_σ11 : NU nu nuσ11 := uσ11
  have uσ11_0 := uσ11.1 0 (by decide)
  have uσ11_1 := uσ11.1 1 (by decide)
  have uσ11_2 := uσ11.2
  have uσ11_5 := uσ11.1 5 (by decide)
  have uσ11_15 := uσ11.1 15 (by decide)
  have uσ11_16 := uσ11.1 16 (by decide)
  have kp2 : gI σ11 th 12 = gI σ th 12 := (cσ11.O kth (by decide)).1
  have kp3 : gP σ11 b 2 = gP σ b 2 := (cσ11.O mb (by decide)).2.1
  have kp4 : gP σ11 th 1 = gP σ th 1 := (cσ11.O kth (by decide)).2.1
  have kp5 : gP σ11 th 9 = gP σ th 9 := (cσ11.O kth (by decide)).2.1
  intro tyt
  have Lp11 : ∀ (fu11 : Nat) (τ11 : Sg) (LLt11 : Nat → List Nat) (Nt11 nut11 : Nat → Nat) (v2 : Option Nat), IV τ11 pl gq ci gr nc ot LLt11 Nt11 nut11 → Fx [1, 2, 3, 4, 5, 6, 7, 64, 512, 590, 649, 6464] gr σ τ11 → Ext σ11 τ11 → NU nu nut11 → Hn (gD σ) [13, 14] [] gq LL LLt11 N Nt11 → ((∀ c9, v2 = some c9 → kO τ11 c9 0 ∧ (∀ x, c9 ∉ LLt11 x) ∧ Lo [] (gD σ) LL c9) ∧ (v2 = none → Nt11 1 = N 1 ∧ LLt11 b_1 = []) ∧ (v2 ≠ none → Nt11 1 = N 1 + 1) ∧ Nt11 14 ≤ N 14) → ((LLt11 b_1).length + (if v2 = none then 0 else 1)) < fu11 → wl_X9_sendMade_11 th Q X fu11 τ11 v1 v2 := by
    intro fu11
    induction fu11 with
    | zero => intro _ _ _ _ _ _ _ _ _ _ _ h9; omega
    | succ fu11 ih11 =>
      intro τ11 LLt11 Nt11 nut11 v2 iτ11 fτ11 xτ11 nu_τ11 hnτ11 hi11 hm11
      have nτ11_3 := hnτ11.2.2 3 (by first | decide | (simp; done) | (simp only [List.mem_cons, List.mem_nil_iff, or_false, not_or]; omega)) (by first | decide | omega) (by first | decide | omega) (by first | decide | omega)
      have nτ11_5 := hnτ11.2.2 5 (by first | decide | (simp; done) | (simp only [List.mem_cons, List.mem_nil_iff, or_false, not_or]; omega)) (by first | decide | omega) (by first | decide | omega) (by first | decide | omega)
      have nτ11_44 := hnτ11.2.2 44 (by first | decide | (simp; done) | (simp only [List.mem_cons, List.mem_nil_iff, or_false, not_or]; omega)) (by first | decide | omega) (by first | decide | omega) (by first | decide | omega)
      have nτ11_74 := hnτ11.2.2 74 (by first | decide | (simp; done) | (simp only [List.mem_cons, List.mem_nil_iff, or_false, not_or]; omega)) (by first | decide | omega) (by first | decide | omega) (by first | decide | omega)
      have nτ11_11 := hnτ11.2.2 11 (by first | decide | (simp; done) | (simp only [List.mem_cons, List.mem_nil_iff, or_false, not_or]; omega)) (by first | decide | omega) (by first | decide | omega) (by first | decide | omega)
      have nτ11_12 := hnτ11.2.2 12 (by first | decide | (simp; done) | (simp only [List.mem_cons, List.mem_nil_iff, or_false, not_or]; omega)) (by first | decide | omega) (by first | decide | omega) (by first | decide | omega)
      have nτ11_41 := hnτ11.2.2 41 (by first | decide | (simp; done) | (simp only [List.mem_cons, List.mem_nil_iff, or_false, not_or]; omega)) (by first | decide | omega) (by first | decide | omega) (by first | decide | omega)
      have nτ11_42 := hnτ11.2.2 42 (by first | decide | (simp; done) | (simp only [List.mem_cons, List.mem_nil_iff, or_false, not_or]; omega)) (by first | decide | omega) (by first | decide | omega) (by first | decide | omega)
      have nτ11_50 := hnτ11.2.2 50 (by first | decide | (simp; done) | (simp only [List.mem_cons, List.mem_nil_iff, or_false, not_or]; omega)) (by first | decide | omega) (by first | decide | omega) (by first | decide | omega)
      have uτ11_0 := nu_τ11.1 0 (by decide)
      have uτ11_1 := nu_τ11.1 1 (by decide)
      have uτ11_2 := nu_τ11.2
      have uτ11_5 := nu_τ11.1 5 (by decide)
      have uτ11_15 := nu_τ11.1 15 (by decide)
      have uτ11_16 := nu_τ11.1 16 (by decide)
      unfold wl_X9_sendMade_11
      have kp6 : gI τ11 th 12 = gI σ th 12 := (fτ11.O kth (by decide)).1
      have kp7 : gP τ11 b 2 = gP σ b 2 := (fτ11.O mb (by decide)).2.1
      have kp8 : gP τ11 th 1 = gP σ th 1 := (fτ11.O kth (by decide)).2.1
      have kp9 : gP τ11 th 9 = gP σ th 9 := (fτ11.O kth (by decide)).2.1
      have kp10 : gI τ11 th 12 = gI σ11 th 12 := (fτ11.O kth (by decide)).1.trans (fσ11.O kth (by decide)).1.symm
      unfold w_X9_sendMade_11
      by_cases hc11 : v2 = none
      · rw [if_pos hc11]
        unfold w_X9_sendMade_35
        exact hQ τ11 LLt11 Nt11 nut11 () iτ11 fτ11 (nu_τ11) hnτ11 (⟨(hi11.2.1 (by assumption)).1, by rw [iτ11.one (mb_1.up (xσ11.trans xτ11)) (by omega) (by decide), (hi11.2.1 (by assumption)).2]; rfl⟩)
      · rw [if_neg hc11]
        unfold w_X9_sendMade_15
        obtain ⟨b_2, eb_2⟩ := Option.ne_none_iff_exists'.mp hc11
        have knb_2 : kO τ11 b_2 0 := (hi11.1 _ eb_2).1
        have z9 := hi11.1 _ eb_2
        have hz9 := z9.2.1
        have lo_b_2 := z9.2.2
        have n9 := hi11.2.2.1 (by rw [eb_2]; simp)
        refine i_X9_sendRow iτ11 (kth.up (xσ11.trans xτ11)) hv1 (kt.up (xσ11.trans xτ11)) eb_2 knb_2 (by (first | omega | with_reducible assumption | with_reducible exact rng_toInt _ | with_reducible exact rng_wr _ | (unfold rng; omega) | (unfold rng at *; omega) | assumption)) (by (first | omega | with_reducible assumption | with_reducible exact rng_toInt _ | with_reducible exact rng_wr _ | (unfold rng; omega) | (unfold rng at *; omega) | assumption)) (by (first | omega | with_reducible assumption | with_reducible exact rng_toInt _ | with_reducible exact rng_wr _ | (unfold rng; omega) | (unfold rng at *; omega) | assumption)) (by (first | omega | with_reducible assumption | with_reducible exact rng_toInt _ | with_reducible exact rng_wr _ | (unfold rng; omega) | (unfold rng at *; omega) | assumption)) (kp9.trans hj) (kJ.up (xσ11.trans xτ11)) (by (first | omega | with_reducible assumption | with_reducible exact rng_toInt _ | with_reducible exact rng_wr _ | (unfold rng; omega) | (unfold rng at *; omega) | assumption)) (by (first | omega | with_reducible assumption | with_reducible exact rng_toInt _ | with_reducible exact rng_wr _ | (unfold rng; omega) | (unfold rng at *; omega) | assumption)) (by (first | omega | with_reducible assumption | with_reducible exact rng_toInt _ | with_reducible exact rng_wr _ | (unfold rng; omega) | (unfold rng at *; omega) | assumption)) (by (first | omega | with_reducible assumption | with_reducible exact rng_toInt _ | with_reducible exact rng_wr _ | (unfold rng; omega) | (unfold rng at *; omega) | assumption)) (fun σ14 LLσ14 Nσ14 nuσ14 _ iσ14 cσ14 uσ14 hσ14 pσ14 => ?_) (fun σx LLx Nx nux E ix cx ux px => hX σx LLx Nx nux E ix (fτ11.tr (cx.mo (by decide))) (nu_τ11.x ux) (by first | exact px | exact ⟨by have := px.1; omega, (Hn.nz hnτ11 (by first | decide | (intro x hx; simp only [List.mem_cons, List.mem_nil_iff, or_false] at hx; omega))).tr px.2.1, px.2.2⟩ | (first | omega | with_reducible assumption | with_reducible exact rng_toInt _ | with_reducible exact rng_wr _ | (unfold rng; omega) | (unfold rng at *; omega) | assumption)))
        intro xσ14
        have fσ14 : Fx [1, 2, 3, 4, 5, 6, 7, 64, 512, 590, 649, 6464] gr σ σ14 := fτ11.tr (cσ14.mo (by decide))
        have hnσ14 : Hn (gD σ) [13, 14] [] gq LL LLσ14 N Nσ14 := hnτ11.go hσ14 (fun d hd => (fτ11.1 d hd).1) (by first | decide | exact fun _ h => h | (simp; done) | (intro x hx; simp only [List.mem_cons, List.mem_nil_iff, or_false] at hx ⊢; omega)) (fun d hd => by rw [List.mem_singleton.mp hd]; exact lo_b_2)
        have nσ14_3 := hσ14.2.2 3 (by first | decide | (simp; done) | (simp only [List.mem_cons, List.mem_nil_iff, or_false, not_or]; omega)) (by first | decide | omega) (by first | decide | omega) (by first | decide | omega)
        have nσ14_5 := hσ14.2.2 5 (by first | decide | (simp; done) | (simp only [List.mem_cons, List.mem_nil_iff, or_false, not_or]; omega)) (by first | decide | omega) (by first | decide | omega) (by first | decide | omega)
        have nσ14_14 := hσ14.2.2 14 (by first | decide | (simp; done) | (simp only [List.mem_cons, List.mem_nil_iff, or_false, not_or]; omega)) (by first | decide | omega) (by first | decide | omega) (by first | decide | omega)
        have nσ14_44 := hσ14.2.2 44 (by first | decide | (simp; done) | (simp only [List.mem_cons, List.mem_nil_iff, or_false, not_or]; omega)) (by first | decide | omega) (by first | decide | omega) (by first | decide | omega)
        have nσ14_74 := hσ14.2.2 74 (by first | decide | (simp; done) | (simp only [List.mem_cons, List.mem_nil_iff, or_false, not_or]; omega)) (by first | decide | omega) (by first | decide | omega) (by first | decide | omega)
        have nσ14_11 := hσ14.2.2 11 (by first | decide | (simp; done) | (simp only [List.mem_cons, List.mem_nil_iff, or_false, not_or]; omega)) (by first | decide | omega) (by first | decide | omega) (by first | decide | omega)
        have nσ14_12 := hσ14.2.2 12 (by first | decide | (simp; done) | (simp only [List.mem_cons, List.mem_nil_iff, or_false, not_or]; omega)) (by first | decide | omega) (by first | decide | omega) (by first | decide | omega)
        have nσ14_41 := hσ14.2.2 41 (by first | decide | (simp; done) | (simp only [List.mem_cons, List.mem_nil_iff, or_false, not_or]; omega)) (by first | decide | omega) (by first | decide | omega) (by first | decide | omega)
        have nσ14_42 := hσ14.2.2 42 (by first | decide | (simp; done) | (simp only [List.mem_cons, List.mem_nil_iff, or_false, not_or]; omega)) (by first | decide | omega) (by first | decide | omega) (by first | decide | omega)
        have nσ14_50 := hσ14.2.2 50 (by first | decide | (simp; done) | (simp only [List.mem_cons, List.mem_nil_iff, or_false, not_or]; omega)) (by first | decide | omega) (by first | decide | omega) (by first | decide | omega)
        have nu_σ14 : NU nu nuσ14 := nu_τ11.tr uσ14
        have uσ14_0 := uσ14.1 0 (by decide)
        have uσ14_1 := uσ14.1 1 (by decide)
        have uσ14_2 := uσ14.2
        have uσ14_5 := uσ14.1 5 (by decide)
        have uσ14_15 := uσ14.1 15 (by decide)
        have uσ14_16 := uσ14.1 16 (by decide)
        have kp12 : gI σ14 th 12 = gI τ11 th 12 := (cσ14.O (kth.up (xσ11.trans xτ11)) (by decide)).1
        have kp13 : gP σ14 b 2 = gP τ11 b 2 := (cσ14.O (mb.up (xσ11.trans xτ11)) (by decide)).2.1
        have kp14 : gP σ14 th 1 = gP τ11 th 1 := (cσ14.O (kth.up (xσ11.trans xτ11)) (by decide)).2.1
        have kp15 : gP σ14 th 9 = gP τ11 th 9 := (cσ14.O (kth.up (xσ11.trans xτ11)) (by decide)).2.1
        have laσ14 : (LLσ14 b_1).length = (LLt11 b_1).length := by rw [hσ14.1 b_1 (mb_1.up (xσ11.trans xτ11)).1 (by first | (simp; done) | (simp only [List.mem_cons, List.mem_nil_iff, or_false, not_or]; omega)) (by omega)]
        refine ⟨b, (kp14.trans (kp8.trans eb)), fun kk_b_2 => ?_⟩
        refine ⟨b_1, (kp13.trans (kp7.trans eb_1)), fun kk_b_1_1 => ?_⟩
        refine i_X1_takeFirst (G0 := 14) iσ14 (mb_1.up (xσ11.trans (xτ11.trans xσ14))) (by omega) (fun σ16 LLσ16 Nσ16 nuσ16 r17 iσ16 cσ16 uσ16 hσ16 pσ16 => ?_)
        intro xσ16
        have fσ16 : Fx [1, 2, 3, 4, 5, 6, 7, 64, 512, 590, 649, 6464] gr σ σ16 := fσ14.tr (cσ16.mo (by decide))
        have hnσ16 : Hn (gD σ) [13, 14] [] gq LL LLσ16 N Nσ16 := hnσ14.go hσ16 (fun d hd => (fσ14.1 d hd).1) (by first | decide | exact fun _ h => h | (simp; done) | (intro x hx; simp only [List.mem_cons, List.mem_nil_iff, or_false] at hx ⊢; omega)) (fun d hd => absurd hd (by simp))
        have nσ16_3 := hσ16.2.2 3 (by first | decide | (simp; done) | (simp only [List.mem_cons, List.mem_nil_iff, or_false, not_or]; omega)) (by first | decide | omega) (by first | decide | omega) (by first | decide | omega)
        have nσ16_5 := hσ16.2.2 5 (by first | decide | (simp; done) | (simp only [List.mem_cons, List.mem_nil_iff, or_false, not_or]; omega)) (by first | decide | omega) (by first | decide | omega) (by first | decide | omega)
        have nσ16_44 := hσ16.2.2 44 (by first | decide | (simp; done) | (simp only [List.mem_cons, List.mem_nil_iff, or_false, not_or]; omega)) (by first | decide | omega) (by first | decide | omega) (by first | decide | omega)
        have nσ16_74 := hσ16.2.2 74 (by first | decide | (simp; done) | (simp only [List.mem_cons, List.mem_nil_iff, or_false, not_or]; omega)) (by first | decide | omega) (by first | decide | omega) (by first | decide | omega)
        have nσ16_11 := hσ16.2.2 11 (by first | decide | (simp; done) | (simp only [List.mem_cons, List.mem_nil_iff, or_false, not_or]; omega)) (by first | decide | omega) (by first | decide | omega) (by first | decide | omega)
        have nσ16_12 := hσ16.2.2 12 (by first | decide | (simp; done) | (simp only [List.mem_cons, List.mem_nil_iff, or_false, not_or]; omega)) (by first | decide | omega) (by first | decide | omega) (by first | decide | omega)
        have nσ16_41 := hσ16.2.2 41 (by first | decide | (simp; done) | (simp only [List.mem_cons, List.mem_nil_iff, or_false, not_or]; omega)) (by first | decide | omega) (by first | decide | omega) (by first | decide | omega)
        have nσ16_42 := hσ16.2.2 42 (by first | decide | (simp; done) | (simp only [List.mem_cons, List.mem_nil_iff, or_false, not_or]; omega)) (by first | decide | omega) (by first | decide | omega) (by first | decide | omega)
        have nσ16_13 := hσ16.2.2 13 (by first | decide | (simp; done) | (simp only [List.mem_cons, List.mem_nil_iff, or_false, not_or]; omega)) (by first | decide | omega) (by first | decide | omega) (by first | decide | omega)
        have nσ16_50 := hσ16.2.2 50 (by first | decide | (simp; done) | (simp only [List.mem_cons, List.mem_nil_iff, or_false, not_or]; omega)) (by first | decide | omega) (by first | decide | omega) (by first | decide | omega)
        have nu_σ16 : NU nu nuσ16 := nu_σ14.tr uσ16
        have uσ16_0 := uσ16.1 0 (by decide)
        have uσ16_1 := uσ16.1 1 (by decide)
        have uσ16_2 := uσ16.2
        have uσ16_5 := uσ16.1 5 (by decide)
        have uσ16_15 := uσ16.1 15 (by decide)
        have uσ16_16 := uσ16.1 16 (by decide)
        have kp16 : gI σ16 th 12 = gI σ14 th 12 := (cσ16.O (kth.up (xσ11.trans (xτ11.trans xσ14))) (by decide)).1
        have kp17 : gP σ16 b 2 = gP σ14 b 2 := (cσ16.O (mb.up (xσ11.trans (xτ11.trans xσ14))) (by decide)).2.1
        have kp18 : gP σ16 th 1 = gP σ14 th 1 := (cσ16.O (kth.up (xσ11.trans (xτ11.trans xσ14))) (by decide)).2.1
        have kp19 : gP σ16 th 9 = gP σ14 th 9 := (cσ16.O (kth.up (xσ11.trans (xτ11.trans xσ14))) (by decide)).2.1
        intro tyt_1
        exact ih11 σ16 LLσ16 Nσ16 nuσ16 r17 iσ16 fσ16 (xτ11.trans (xσ14.trans xσ16)) nu_σ16 hnσ16 (by rcases pσ16 with ⟨e1, e2, e3, e4⟩ | ⟨c, T, e1, e2, e3, kc, hc, n1, n2, n3, n4⟩; (subst e2; exact ⟨fun _ q => (nomatch q), fun _ => ⟨by rw [e4]; omega, by rw [e3]; exact e1⟩, fun q => absurd rfl q, by rw [e4]; omega⟩); (subst e2; exact ⟨fun c9 q => by cases q; exact ⟨kc.up (by assumption), hc, hnσ14.loc (fun d hd => (fσ14.1 d hd).1) (Or.inr ⟨_, by rw [e1]; exact List.mem_cons_self⟩)⟩, fun q => (nomatch q), fun _ => by omega, by omega⟩)) (by rcases pσ16 with ⟨e1, e2, e3, e4⟩ | ⟨c, T, e1, e2, e3, kc, hc, n1, n2, n3, n4⟩; (subst e2; rw [e3, if_pos rfl]; rw [if_neg (by rw [eb_2]; simp)] at hm11; omega); (subst e2; rw [if_neg (by simp)]; rw [if_neg (by rw [eb_2]; simp)] at hm11; have l1 := congrArg List.length e1; rw [List.length_cons] at l1; rw [e3, up1_s]; omega))
  exact ⟨_, Lp11 _ σ11 LLσ11 Nσ11 nuσ11 _ iσ11 fσ11 (Ext.rfl' _) nu_σ11 hnσ11 (by rcases pσ11 with ⟨e1, e2, e3, e4⟩ | ⟨c, T, e1, e2, e3, kc, hc, n1, n2, n3, n4⟩; (subst e2; exact ⟨fun _ q => (nomatch q), fun _ => ⟨by rw [e4], by rw [e3]; exact e1⟩, fun q => absurd rfl q, by rw [e4]; exact Nat.le_refl _⟩); (subst e2; exact ⟨fun c9 q => by cases q; exact ⟨kc.up xσ11, hc, hnσ.loc (fun d hd => (fσ.1 d hd).1) (Or.inr ⟨_, by rw [e1]; exact List.mem_cons_self⟩)⟩, fun q => (nomatch q), fun _ => n2, by omega⟩)) (Nat.lt_succ_self _)⟩

set_option maxHeartbeats 1000000 in
theorem i1_X11_addNearTo {σ : Sg} {pl : Nat} {gq ci gr nc : Nat → Nat} {ot : Nat → Nat → Int} {LL : Nat → List Nat} {N nu : Nat → Nat} {th : Nat} {v1 : Option Nat} {v2 : Option Nat} {v3 : Option Nat} {v4 : Int64} (iσ : IV σ pl gq ci gr nc ot LL N nu) (kth : kO σ th 11) {o : Nat} (hv1 : v1 = some o) (ko : kO σ o 5) {x : Nat} (hv2 : v2 = some x) (kx : kO σ x 1) {c3 : Nat} (hv3 : v3 = some c3) (kc3 : kO σ c3 0) (hq : gq th = 1) (hf : ∀ x, c3 ∉ LL x) (hg : gq x = 11) (h5 : nu 5 < 24000) {Q : Sg → Unit → Prop} {X : Sg → String → Prop} (hQ : ∀ (σ' : Sg) (LL' : Nat → List Nat) (N' nu' : Nat → Nat) (r : Unit), IV σ' pl gq ci gr nc ot LL' N' nu' → Fx [1, 4, 5, 6, 64, 512, 513, 514, 708, 6464] gr σ σ' → NU nu nu' → Hn (gD σ) [11] [] gq LL LL' N N' → (N' 1 = N 1 ∧ N' 11 ≤ N 11) → Q σ' r) (hX : ∀ (σ' : Sg) (LL' : Nat → List Nat) (N' nu' : Nat → Nat) (E : String), IV σ' pl gq ci gr nc ot LL' N' nu' → Fx [1, 4, 5, 6, 64, 512, 513, 514, 708, 6464] gr σ σ' → NX nu nu' → (N' 1 ≤ N 1 + 1 ∧ E = "java/lang/IllegalStateException") → X σ' E) : wp_X11_addNearTo th v1 v2 v3 v4 σ Q X := by
  have fσ : Fx [1, 4, 5, 6, 64, 512, 513, 514, 708, 6464] gr σ σ := Fx.rf
  have hnσ : Hn (gD σ) [11] [] gq LL LL N N := Hn.rf
  unfold wp_X11_addNearTo
  unfold w_X11_addNearTo_0
  refine ⟨x, hv2, fun kk_x => ?_⟩
  have Lp9 : ∀ (fu9 : Nat) (τ9 : Sg) (LLt9 : Nat → List Nat) (Nt9 nut9 : Nat → Nat) (v6 : Option Nat) (v7 : Option Nat), IV τ9 pl gq ci gr nc ot LLt9 Nt9 nut9 → Fx [1, 4, 5, 6, 64, 512, 513, 514, 708, 6464] gr σ τ9 → Ext σ τ9 → NU nu nut9 → Hn (gD σ) [11] [] gq LL LLt9 N Nt9 → (∀ x, c3 ∉ LLt9 x) → (∃ (A B : List Nat), ((LLt9 x = A ++ B ∧ v7 = B.head?) ∧ v6 = A.getLast? ∧ Nt9 1 = N 1 ∧ Nt9 11 ≤ N 11) ∧ (B.length) < fu9) → wl_X11_addNearTo_9 th Q X fu9 τ9 v1 v2 v3 v4 v6 v7 := by
    intro fu9
    induction fu9 with
    | zero => intro _ _ _ _ _ _ _ _ _ _ _ _ h9; obtain ⟨_, _, _, h9⟩ := h9; omega
    | succ fu9 ih9 =>
      intro τ9 LLt9 Nt9 nut9 v6 v7 iτ9 fτ9 xτ9 nu_τ9 hnτ9 hg_c3_τ9 hi9
      obtain ⟨A, B, hi9, hm9⟩ := hi9
      have nτ9_14 := hnτ9.2.2 14 (by first | decide | (simp only [List.mem_cons, List.mem_nil_iff, or_false, not_or]; omega)) (by decide) (by decide) (by decide)
      have nτ9_44 := hnτ9.2.2 44 (by first | decide | (simp only [List.mem_cons, List.mem_nil_iff, or_false, not_or]; omega)) (by decide) (by decide) (by decide)
      have nτ9_74 := hnτ9.2.2 74 (by first | decide | (simp only [List.mem_cons, List.mem_nil_iff, or_false, not_or]; omega)) (by decide) (by decide) (by decide)
      have nτ9_12 := hnτ9.2.2 12 (by first | decide | (simp only [List.mem_cons, List.mem_nil_iff, or_false, not_or]; omega)) (by decide) (by decide) (by decide)
      have nτ9_41 := hnτ9.2.2 41 (by first | decide | (simp only [List.mem_cons, List.mem_nil_iff, or_false, not_or]; omega)) (by decide) (by decide) (by decide)
      have nτ9_42 := hnτ9.2.2 42 (by first | decide | (simp only [List.mem_cons, List.mem_nil_iff, or_false, not_or]; omega)) (by decide) (by decide) (by decide)
      have nτ9_13 := hnτ9.2.2 13 (by first | decide | (simp only [List.mem_cons, List.mem_nil_iff, or_false, not_or]; omega)) (by decide) (by decide) (by decide)
      have uτ9_0 := nu_τ9.1 0 (by decide) (by decide)
      have uτ9_1 := nu_τ9.1 1 (by decide) (by decide)
      have uτ9_2 := nu_τ9.2
      have uτ9_5 := nu_τ9.1 5 (by decide) (by decide)
      have uτ9_15 := nu_τ9.1 15 (by decide) (by decide)
      have uτ9_16 := nu_τ9.1 16 (by decide) (by decide)
      unfold wl_X11_addNearTo_9
      unfold w_X11_addNearTo_9
      by_cases hc1 : v7 = none
      · rw [if_pos hc1]
        unfold w_X11_addNearTo_173
        exact hQ τ9 LLt9 Nt9 nut9 () iτ9 fτ9 (nu_τ9) hnτ9 (by (first | omega | with_reducible assumption | with_reducible exact rng_toInt _ | with_reducible exact rng_wr _ | (unfold rng; omega) | (unfold rng at *; omega) | assumption))
      · rw [if_neg hc1]
        unfold w_X11_addNearTo_14
        obtain ⟨b, eb⟩ := Option.ne_none_iff_exists'.mp hc1
        obtain ⟨A1, B1, p1, p2, p3, p4⟩ := it_step iτ9 (kx.up xτ9) hi9.1 eb
        obtain ⟨B2, eB⟩ := it_cons hi9.1.2 eb
        have rc9 := iτ9.recs1 (kth.up xτ9) (by omega)
        have lb2 : B.length = B2.length + 1 := by rw [eB]; rfl
        have nx2 := iτ9.next (kx.up xτ9) (show _ = A ++ b :: B2 by rw [← eB]; exact hi9.1.1)
        refine ⟨b, eb, fun kk_b => ?_⟩
        refine ⟨c3, hv3, fun kk_c3 => ?_⟩
        by_cases hc2 : gJ τ9 b 7 ≠ gJ τ9 c3 7
        · rw [if_pos hc2]
          unfold w_X11_addNearTo_162
          unfold w_X11_addNearTo_166
          exact ih9 τ9 LLt9 Nt9 nut9 v7 (gP τ9 b 1) iτ9 fτ9 xτ9 nu_τ9 hnτ9 hg_c3_τ9 (by first | exact ⟨A1, B1, ⟨⟨p1, p2⟩, by rw [p4]; assumption, by omega, by omega⟩, by omega⟩ | exact ⟨A, B2, ⟨⟨by rw [hLr, eL9]; exact up1_s _ _ _, nx2⟩, hi9.2.1, by omega, by omega⟩, by omega⟩)
        · rw [if_neg hc2]
          have hc2 := Classical.not_not.mp hc2
          unfold w_X11_addNearTo_34
          refine ⟨b, eb, fun kk_b_1 => ?_⟩
          refine ⟨o, hv1, fun kk_o => ?_⟩
          have q4 := I_5_11 iτ9.1 (ko.up xτ9)
          by_cases hc3 : (gJ τ9 b 6 - v4) ≥ (Int64.ofInt (gI τ9 o 11))
          · rw [if_pos hc3]
            unfold w_X11_addNearTo_162
            unfold w_X11_addNearTo_166
            exact ih9 τ9 LLt9 Nt9 nut9 v7 (gP τ9 b 1) iτ9 fτ9 xτ9 nu_τ9 hnτ9 hg_c3_τ9 (by first | exact ⟨A1, B1, ⟨⟨p1, p2⟩, by rw [p4]; assumption, by omega, by omega⟩, by omega⟩ | exact ⟨A, B2, ⟨⟨by rw [hLr, eL9]; exact up1_s _ _ _, nx2⟩, hi9.2.1, by omega, by omega⟩, by omega⟩)
          · rw [if_neg hc3]
            unfold w_X11_addNearTo_51
            refine ⟨b, eb, fun kk_b_2 => ?_⟩
            refine ⟨o, hv1, fun kk_o_1 => ?_⟩
            by_cases hc5 : (v4 - gJ τ9 b 5) ≥ (Int64.ofInt (gI τ9 o 11))
            · rw [if_pos hc5]
              unfold w_X11_addNearTo_162
              unfold w_X11_addNearTo_166
              exact ih9 τ9 LLt9 Nt9 nut9 v7 (gP τ9 b 1) iτ9 fτ9 xτ9 nu_τ9 hnτ9 hg_c3_τ9 (by first | exact ⟨A1, B1, ⟨⟨p1, p2⟩, by rw [p4]; assumption, by omega, by omega⟩, by omega⟩ | exact ⟨A, B2, ⟨⟨by rw [hLr, eL9]; exact up1_s _ _ _, nx2⟩, hi9.2.1, by omega, by omega⟩, by omega⟩)
            · rw [if_neg hc5]
              unfold w_X11_addNearTo_68
              refine ⟨x, hv2, fun kk_x_1 => ?_⟩
              have lo_b : Lo [] (gD σ) LL b := hnτ9.loc (fun d hd => (fτ9.1 d hd).1) (Or.inr ⟨x, it_mem hi9.1 eb⟩)
              have ne9 : c3 ≠ b := fun q => hg_c3_τ9 x (by rw [q]; exact it_mem hi9.1 eb)
              refine i_X1_cutBehind (G0 := 11) (A := A) (B := B) iτ9 (kx.up xτ9) hg hi9.1.1 hi9.2.1 (fun σ59 LLσ59 Nσ59 nuσ59 r60 iσ59 cσ59 uσ59 hσ59 pσ59 => ?_)
              intro xσ59
              have fσ59 : Fx [1, 4, 5, 6, 64, 512, 513, 514, 708, 6464] gr σ σ59 := fτ9.tr (cσ59.mo (by decide))
              have hnσ59 : Hn (gD σ) [11] [] gq LL LLσ59 N Nσ59 := hnτ9.go hσ59 (fun d hd => (fτ9.1 d hd).1) (by first | decide | exact fun _ h => h | simp) (fun d hd => absurd hd (by simp))
              have hg_c3_σ59 : ∀ x, c3 ∉ LLσ59 x := hσ59.2.1 c3 (kc3.up xτ9).1 (by simp) hg_c3_τ9
              have nσ59_14 := hσ59.2.2 14 (by first | decide | (simp only [List.mem_cons, List.mem_nil_iff, or_false, not_or]; omega)) (by decide) (by decide) (by decide)
              have nσ59_44 := hσ59.2.2 44 (by first | decide | (simp only [List.mem_cons, List.mem_nil_iff, or_false, not_or]; omega)) (by decide) (by decide) (by decide)
              have nσ59_74 := hσ59.2.2 74 (by first | decide | (simp only [List.mem_cons, List.mem_nil_iff, or_false, not_or]; omega)) (by decide) (by decide) (by decide)
              have nσ59_12 := hσ59.2.2 12 (by first | decide | (simp only [List.mem_cons, List.mem_nil_iff, or_false, not_or]; omega)) (by decide) (by decide) (by decide)
              have nσ59_41 := hσ59.2.2 41 (by first | decide | (simp only [List.mem_cons, List.mem_nil_iff, or_false, not_or]; omega)) (by decide) (by decide) (by decide)
              have nσ59_42 := hσ59.2.2 42 (by first | decide | (simp only [List.mem_cons, List.mem_nil_iff, or_false, not_or]; omega)) (by decide) (by decide) (by decide)
              have nσ59_13 := hσ59.2.2 13 (by first | decide | (simp only [List.mem_cons, List.mem_nil_iff, or_false, not_or]; omega)) (by decide) (by decide) (by decide)
              have nu_σ59 : NU nu nuσ59 := nu_τ9.tr uσ59
              have uσ59_0 := uσ59.1 0 (by decide) (by decide)
              have uσ59_1 := uσ59.1 1 (by decide) (by decide)
              have uσ59_2 := uσ59.2
              have uσ59_5 := uσ59.1 5 (by decide) (by decide)
              have uσ59_15 := uσ59.1 15 (by decide) (by decide)
              have uσ59_16 := uσ59.1 16 (by decide) (by decide)
              have kp6 : gI σ59 o 11 = gI τ9 o 11 := (cσ59.O (ko.up xτ9) (by decide)).1
              have kp7 : gI σ59 th 4 = gI τ9 th 4 := (cσ59.O (kth.up xτ9) (by decide)).1
              obtain ⟨r9, eL9, hb9, n9a, n9b⟩ := cut_r (N0 := 0) eB pσ59
              intro tyt
              have q8 := I_11_4 iσ59.1 (kth.up (xτ9.trans xσ59))
              refine ⟨by (first | omega | with_reducible assumption | with_reducible exact rng_toInt _ | with_reducible exact rng_wr _ | (unfold rng; omega) | (unfold rng at *; omega) | assumption), ?_⟩
              intro σ62 eσ62
              have xσ62 : Ext σ59 σ62 := by rw [eσ62]; exact fun _ h => ⟨h, rfl, rfl⟩
              have iσ62 : IV σ62 pl gq ci gr nc ot LLσ59 Nσ59 nuσ59 := by rw [eσ62]; exact iσ59.rec1 (kth.up (xτ9.trans xσ59)) (by omega) (by omega) (by omega)
              have fσ62 : Fx [1, 4, 5, 6, 64, 512, 513, 514, 708, 6464] gr σ σ62 := fσ59.tr (Sk.fx (by rw [eσ62]; exact Sk.pI (by rw [fcdO (kth.up (xτ9.trans xσ59)) (by decide)]; decide)))
              have wσ62 : gI σ62 th 4 = (gI σ59 th 4 - 1) := by rw [eσ62]; exact up2_s _ _ _ _
              have kp9 : gI σ62 o 11 = gI σ59 o 11 := by rw [eσ62]; exact up2_n _ _ (fun q => absurd q.2 (by decide))
              refine ⟨c3, hv3, fun kk_c3_1 => ?_⟩
              refine ⟨b, eb, fun kk_b_3 => ?_⟩
              refine i_J9_min_f86c9 iσ62 (fun r66 pσ65 => ?_)
              intro xσ65
              intro σ67 eσ67
              have xσ67 : Ext σ62 σ67 := by rw [eσ67]; exact fun _ h => ⟨h, rfl, rfl⟩
              have iσ67 : IV σ67 pl gq ci gr nc ot LLσ59 Nσ59 nuσ59 := by rw [eσ67]; exact iσ62.wJ
              have fσ67 : Fx [1, 4, 5, 6, 64, 512, 513, 514, 708, 6464] gr σ σ67 := fσ62.tr (Sk.fx (by rw [eσ67]; exact Sk.pJ (by rw [fcdO (kc3.up (xτ9.trans (xσ59.trans xσ62))) (by decide)]; decide)))
              have kp10 : gI σ67 o 11 = gI σ62 o 11 := by rw [eσ67]
              have kp11 : gI σ67 th 4 = gI σ62 th 4 := by rw [eσ67]
              refine i_J9_max_f86c9 iσ67 (fun r69 pσ68 => ?_)
              intro xσ68
              intro σ70 eσ70
              have xσ70 : Ext σ67 σ70 := by rw [eσ70]; exact fun _ h => ⟨h, rfl, rfl⟩
              have iσ70 : IV σ70 pl gq ci gr nc ot LLσ59 Nσ59 nuσ59 := by rw [eσ70]; exact iσ67.wJ
              have fσ70 : Fx [1, 4, 5, 6, 64, 512, 513, 514, 708, 6464] gr σ σ70 := fσ67.tr (Sk.fx (by rw [eσ70]; exact Sk.pJ (by rw [fcdO (kc3.up (xτ9.trans (xσ59.trans (xσ62.trans xσ67)))) (by decide)]; decide)))
              have kp12 : gI σ70 o 11 = gI σ67 o 11 := by rw [eσ70]
              have kp13 : gI σ70 th 4 = gI σ67 th 4 := by rw [eσ70]
              obtain ⟨b_1, eb_1⟩ := P_11_0 iσ70.1 (kth.up (xτ9.trans (xσ59.trans (xσ62.trans (xσ67.trans xσ70)))))
              refine ⟨b_1, eb_1, fun kk_b_1_1 => ?_⟩
              have q14 := I_0_4 iσ70.1 (kc3.up (xτ9.trans (xσ59.trans (xσ62.trans (xσ67.trans xσ70)))))
              have q15 := I_0_4 iσ70.1 (kk_b.up (xσ59.trans (xσ62.trans (xσ67.trans xσ70))))
              refine i_X8_together iσ70 kk_b_1_1 (by (first | omega | with_reducible assumption | with_reducible exact rng_toInt _ | with_reducible exact rng_wr _ | (unfold rng; omega) | (unfold rng at *; omega) | assumption)) (by (first | omega | with_reducible assumption | with_reducible exact rng_toInt _ | with_reducible exact rng_wr _ | (unfold rng; omega) | (unfold rng at *; omega) | assumption)) (by (first | omega | with_reducible assumption | with_reducible exact rng_toInt _ | with_reducible exact rng_wr _ | (unfold rng; omega) | (unfold rng at *; omega) | assumption)) (fun σ71 nuσ71 r72 iσ71 cσ71 uσ71 pσ71 => ?_) (fun σx LLx Nx nux E ix cx ux px => hX σx LLx Nx nux E ix (fσ70.tr (cx.mo (by decide))) (nu_σ59.x ux) (by first | exact px | exact ⟨by have := px.1; omega, px.2⟩ | (first | omega | with_reducible assumption | with_reducible exact rng_toInt _ | with_reducible exact rng_wr _ | (unfold rng; omega) | (unfold rng at *; omega) | assumption)))
              intro xσ71
              have fσ71 : Fx [1, 4, 5, 6, 64, 512, 513, 514, 708, 6464] gr σ σ71 := fσ70.tr (cσ71.mo (by decide))
              have nu_σ71 : NU nu nuσ71 := nu_σ59.tr uσ71
              have uσ71_0 := uσ71.1 0 (by decide) (by decide)
              have uσ71_1 := uσ71.1 1 (by decide) (by decide)
              have uσ71_2 := uσ71.2
              have uσ71_5 := uσ71.1 5 (by decide) (by decide)
              have uσ71_15 := uσ71.1 15 (by decide) (by decide)
              have uσ71_16 := uσ71.1 16 (by decide) (by decide)
              have kp16 : gI σ71 b 4 = gI σ70 b 4 := (cσ71.O (kk_b.up (xσ59.trans (xσ62.trans (xσ67.trans xσ70)))) (by decide)).1
              have kp17 : gI σ71 c3 4 = gI σ70 c3 4 := (cσ71.O (kc3.up (xτ9.trans (xσ59.trans (xσ62.trans (xσ67.trans xσ70))))) (by decide)).1
              have kp18 : gI σ71 o 11 = gI σ70 o 11 := (cσ71.O (ko.up (xτ9.trans (xσ59.trans (xσ62.trans (xσ67.trans xσ70))))) (by decide)).1
              have kp19 : gI σ71 th 4 = gI σ70 th 4 := (cσ71.O (kth.up (xτ9.trans (xσ59.trans (xσ62.trans (xσ67.trans xσ70))))) (by decide)).1
              have kp20 : gP σ71 th 0 = gP σ70 th 0 := (cσ71.O (kth.up (xτ9.trans (xσ59.trans (xσ62.trans (xσ67.trans xσ70))))) (by decide)).2.1
              intro σ74 eσ74
              have xσ74 : Ext σ71 σ74 := by rw [eσ74]; exact fun _ h => ⟨h, rfl, rfl⟩
              have iσ74 : IV σ74 pl gq ci gr nc ot LLσ59 Nσ59 nuσ71 := by rw [eσ74]; exact iσ71.wO (kc3.up (xτ9.trans (xσ59.trans (xσ62.trans (xσ67.trans (xσ70.trans xσ71)))))) (by decide) (show (-1 : Int) ≤ r72 ∧ r72 ≤ (nuσ71 2 : Int) - 1 from ⟨by (first | omega | with_reducible assumption | with_reducible exact rng_toInt _ | with_reducible exact rng_wr _ | (unfold rng; omega) | (unfold rng at *; omega) | assumption), by (first | omega | with_reducible assumption | with_reducible exact rng_toInt _ | with_reducible exact rng_wr _ | (unfold rng; omega) | (unfold rng at *; omega) | assumption)⟩)
              have fσ74 : Fx [1, 4, 5, 6, 64, 512, 513, 514, 708, 6464] gr σ σ74 := fσ71.tr (Sk.fx (by rw [eσ74]; exact Sk.pI (by rw [fcdO (kc3.up (xτ9.trans (xσ59.trans (xσ62.trans (xσ67.trans (xσ70.trans xσ71)))))) (by decide)]; decide)))
              have wσ74 : gI σ74 c3 4 = r72 := by rw [eσ74]; exact up2_s _ _ _ _
              have kp21 : gI σ74 o 11 = gI σ71 o 11 := by rw [eσ74]; exact up2_n _ _ (fun q => absurd q.2 (by decide))
              have kp22 : gI σ74 th 4 = gI σ71 th 4 := by rw [eσ74]; exact up2_n _ _ (fun q => absurd q.1 (kO.ne (kth.up (xτ9.trans (xσ59.trans (xσ62.trans (xσ67.trans (xσ70.trans xσ71)))))) (kc3.up (xτ9.trans (xσ59.trans (xσ62.trans (xσ67.trans (xσ70.trans xσ71)))))) (by decide)))
              have kp23 : gP σ74 th 0 = gP σ71 th 0 := by rw [eσ74]
              obtain ⟨b_2, eb_2, fb_2⟩ := P_0_0 iσ74.1 (kc3.up (xτ9.trans (xσ59.trans (xσ62.trans (xσ67.trans (xσ70.trans (xσ71.trans xσ74)))))))
              have mb_2 : kO σ74 b_2 101 := iσ74.1.kd (kc3.up (xτ9.trans (xσ59.trans (xσ62.trans (xσ67.trans (xσ70.trans (xσ71.trans xσ74))))))) rfl eb_2 rfl
              obtain ⟨b_3, eb_3, fb_3⟩ := P_0_0 iσ74.1 (kk_b.up (xσ59.trans (xσ62.trans (xσ67.trans (xσ70.trans (xσ71.trans xσ74))))))
              have mb_3 : kO σ74 b_3 101 := iσ74.1.kd (kk_b.up (xσ59.trans (xσ62.trans (xσ67.trans (xσ70.trans (xσ71.trans xσ74)))))) rfl eb_3 rfl
              refine i_X11_addUp iσ74 hv1 (ko.up (xτ9.trans (xσ59.trans (xσ62.trans (xσ67.trans (xσ70.trans (xσ71.trans xσ74))))))) eb_2 mb_2 eb_3 mb_3 (by omega) (by omega) (fun σ75 _ iσ75 cσ75 pσ75 => ?_)
              intro xσ75
              have fσ75 : Fx [1, 4, 5, 6, 64, 512, 513, 514, 708, 6464] gr σ σ75 := fσ74.tr (cσ75.mo (by decide))
              have kp24 : gI σ75 c3 4 = gI σ74 c3 4 := (cσ75.O (kc3.up (xτ9.trans (xσ59.trans (xσ62.trans (xσ67.trans (xσ70.trans (xσ71.trans xσ74))))))) (by decide)).1
              have kp25 : gI σ75 o 11 = gI σ74 o 11 := (cσ75.O (ko.up (xτ9.trans (xσ59.trans (xσ62.trans (xσ67.trans (xσ70.trans (xσ71.trans xσ74))))))) (by decide)).1
              have kp26 : gI σ75 th 4 = gI σ74 th 4 := (cσ75.O (kth.up (xτ9.trans (xσ59.trans (xσ62.trans (xσ67.trans (xσ70.trans (xσ71.trans xσ74))))))) (by decide)).1
              have kp27 : gP σ75 b 0 = gP σ74 b 0 := (cσ75.O (kk_b.up (xσ59.trans (xσ62.trans (xσ67.trans (xσ70.trans (xσ71.trans xσ74)))))) (by decide)).2.1
              have kp28 : gP σ75 c3 0 = gP σ74 c3 0 := (cσ75.O (kc3.up (xτ9.trans (xσ59.trans (xσ62.trans (xσ67.trans (xσ70.trans (xσ71.trans xσ74))))))) (by decide)).2.1
              have kp29 : gP σ75 th 0 = gP σ74 th 0 := (cσ75.O (kth.up (xτ9.trans (xσ59.trans (xσ62.trans (xσ67.trans (xσ70.trans (xσ71.trans xσ74))))))) (by decide)).2.1
              refine ⟨b_1, (kp29.trans (kp23.trans (kp20.trans eb_1))), fun kk_b_1_2 => ?_⟩
              refine i_X8_release iσ75 (kk_b_1_1.up (xσ71.trans (xσ74.trans xσ75))) eb (kk_b.up (xσ59.trans (xσ62.trans (xσ67.trans (xσ70.trans (xσ71.trans (xσ74.trans xσ75))))))) (by (first | omega | with_reducible assumption | with_reducible exact rng_toInt _ | with_reducible exact rng_wr _ | (unfold rng; omega) | (unfold rng at *; omega) | assumption)) (by (first | omega | with_reducible assumption | with_reducible exact rng_toInt _ | with_reducible exact rng_wr _ | (unfold rng; omega) | (unfold rng at *; omega) | assumption)) (fun σ76 LLσ76 Nσ76 nuσ76 _ iσ76 cσ76 uσ76 hσ76 pσ76 => ?_)
              intro xσ76
              have fσ76 : Fx [1, 4, 5, 6, 64, 512, 513, 514, 708, 6464] gr σ σ76 := fσ75.tr (cσ76.mo (by decide))
              have hnσ76 : Hn (gD σ) [11] [] gq LL LLσ76 N Nσ76 := hnσ59.go hσ76 (fun d hd => (fσ75.1 d hd).1) (by first | decide | exact fun _ h => h | simp) (fun d hd => by rw [List.mem_singleton.mp hd]; exact lo_b)
              have hg_c3_σ76 : ∀ x, c3 ∉ LLσ76 x := hσ76.2.1 c3 (kc3.up (xτ9.trans (xσ59.trans (xσ62.trans (xσ67.trans (xσ70.trans (xσ71.trans (xσ74.trans xσ75)))))))).1 (by simp only [List.mem_cons, List.mem_nil_iff, or_false, not_or]; first | omega | (exact fun q => absurd q.symm (by assumption))) hg_c3_σ59
              have nσ76_14 := hσ76.2.2 14 (by first | decide | (simp only [List.mem_cons, List.mem_nil_iff, or_false, not_or]; omega)) (by decide) (by decide) (by decide)
              have nσ76_44 := hσ76.2.2 44 (by first | decide | (simp only [List.mem_cons, List.mem_nil_iff, or_false, not_or]; omega)) (by decide) (by decide) (by decide)
              have nσ76_74 := hσ76.2.2 74 (by first | decide | (simp only [List.mem_cons, List.mem_nil_iff, or_false, not_or]; omega)) (by decide) (by decide) (by decide)
              have nσ76_11 := hσ76.2.2 11 (by first | decide | (simp only [List.mem_cons, List.mem_nil_iff, or_false, not_or]; omega)) (by decide) (by decide) (by decide)
              have nσ76_12 := hσ76.2.2 12 (by first | decide | (simp only [List.mem_cons, List.mem_nil_iff, or_false, not_or]; omega)) (by decide) (by decide) (by decide)
              have nσ76_41 := hσ76.2.2 41 (by first | decide | (simp only [List.mem_cons, List.mem_nil_iff, or_false, not_or]; omega)) (by decide) (by decide) (by decide)
              have nσ76_42 := hσ76.2.2 42 (by first | decide | (simp only [List.mem_cons, List.mem_nil_iff, or_false, not_or]; omega)) (by decide) (by decide) (by decide)
              have nσ76_13 := hσ76.2.2 13 (by first | decide | (simp only [List.mem_cons, List.mem_nil_iff, or_false, not_or]; omega)) (by decide) (by decide) (by decide)
              have nu_σ76 : NU nu nuσ76 := nu_σ71.tr uσ76
              have uσ76_0 := uσ76.1 0 (by decide) (by decide)
              have uσ76_1 := uσ76.1 1 (by decide) (by decide)
              have uσ76_2 := uσ76.2
              have uσ76_5 := uσ76.1 5 (by decide) (by decide)
              have uσ76_15 := uσ76.1 15 (by decide) (by decide)
              have uσ76_16 := uσ76.1 16 (by decide) (by decide)
              have kp30 : gI σ76 c3 4 = gI σ75 c3 4 := (cσ76.O (kc3.up (xτ9.trans (xσ59.trans (xσ62.trans (xσ67.trans (xσ70.trans (xσ71.trans (xσ74.trans xσ75)))))))) (by decide)).1
              have kp31 : gI σ76 o 11 = gI σ75 o 11 := (cσ76.O (ko.up (xτ9.trans (xσ59.trans (xσ62.trans (xσ67.trans (xσ70.trans (xσ71.trans (xσ74.trans xσ75)))))))) (by decide)).1
              have kp32 : gI σ76 th 4 = gI σ75 th 4 := (cσ76.O (kth.up (xτ9.trans (xσ59.trans (xσ62.trans (xσ67.trans (xσ70.trans (xσ71.trans (xσ74.trans xσ75)))))))) (by decide)).1
              have kp33 : gP σ76 b 0 = gP σ75 b 0 := (cσ76.O (kk_b.up (xσ59.trans (xσ62.trans (xσ67.trans (xσ70.trans (xσ71.trans (xσ74.trans xσ75))))))) (by decide)).2.1
              have kp34 : gP σ76 c3 0 = gP σ75 c3 0 := (cσ76.O (kc3.up (xτ9.trans (xσ59.trans (xσ62.trans (xσ67.trans (xσ70.trans (xσ71.trans (xσ74.trans xσ75)))))))) (by decide)).2.1
              have kp35 : gP σ76 th 0 = gP σ75 th 0 := (cσ76.O (kth.up (xτ9.trans (xσ59.trans (xσ62.trans (xσ67.trans (xσ70.trans (xσ71.trans (xσ74.trans xσ75)))))))) (by decide)).2.1
              have hLr := hσ76.1 x (by simp) (by omega)
              unfold w_X11_addNearTo_166
              exact ih9 σ76 LLσ76 Nσ76 nuσ76 v6 (gP τ9 b 1) iσ76 fσ76 (xτ9.trans (xσ59.trans (xσ62.trans (xσ67.trans (xσ70.trans (xσ71.trans (xσ74.trans (xσ75.trans xσ76)))))))) nu_σ76 hnσ76 hg_c3_σ76 (by first | exact ⟨A1, B1, ⟨⟨p1, p2⟩, by rw [p4]; assumption, by omega, by omega⟩, by omega⟩ | exact ⟨A, B2, ⟨⟨by rw [hLr, eL9]; exact up1_s _ _ _, nx2⟩, hi9.2.1, by omega, by omega⟩, by omega⟩)
  exact ⟨(LL x).length + 1, Lp9 _ σ LL N nu _ _ iσ fσ (Ext.rfl' _) NU.rf hnσ hf (⟨[], LL x, ⟨⟨by simp, iσ.first kx⟩, rfl, rfl, Nat.le_refl _⟩, Nat.lt_succ_self _⟩)⟩
set_option maxHeartbeats 1000000 in
theorem i1_X11_dropUpTo {σ : Sg} {pl : Nat} {gq ci gr nc : Nat → Nat} {ot : Nat → Nat → Int} {LL : Nat → List Nat} {N nu : Nat → Nat} {th : Nat} {v1 : Option Nat} {v2 : Int64} {G0 : Nat} (iσ : IV σ pl gq ci gr nc ot LL N nu) (kth : kO σ th 11) {x : Nat} (hv1 : v1 = some x) (kx : kO σ x 1) (hq : gq th = 1) (hg : gq x = G0) (hG : G0 = 11 ∨ G0 = 12) {Q : Sg → Unit → Prop} {X : Sg → String → Prop} (hQ : ∀ (σ' : Sg) (LL' : Nat → List Nat) (N' nu' : Nat → Nat) (r : Unit), IV σ' pl gq ci gr nc ot LL' N' nu' → Fx [1, 64, 512, 708] gr σ σ' → NU nu nu' → Hn (gD σ) [G0] [] gq LL LL' N N' → (N' 1 = N 1 ∧ N' G0 ≤ N G0) → Q σ' r) : wp_X11_dropUpTo th v1 v2 σ Q X := by
  have fσ : Fx [1, 64, 512, 708] gr σ σ := Fx.rf
  have hnσ : Hn (gD σ) [G0] [] gq LL LL N N := Hn.rf
  unfold wp_X11_dropUpTo
  unfold w_X11_dropUpTo_0
  refine ⟨x, hv1, fun kk_x => ?_⟩
  have Lp9 : ∀ (fu9 : Nat) (τ9 : Sg) (LLt9 : Nat → List Nat) (Nt9 nut9 : Nat → Nat) (v4 : Option Nat) (v5 : Option Nat), IV τ9 pl gq ci gr nc ot LLt9 Nt9 nut9 → Fx [1, 64, 512, 708] gr σ τ9 → Ext σ τ9 → NU nu nut9 → Hn (gD σ) [G0] [] gq LL LLt9 N Nt9 → (∃ (A B : List Nat), ((LLt9 x = A ++ B ∧ v5 = B.head?) ∧ v4 = A.getLast? ∧ Nt9 1 = N 1 ∧ Nt9 G0 ≤ N G0) ∧ (B.length) < fu9) → wl_X11_dropUpTo_9 th Q X fu9 τ9 v1 v2 v4 v5 := by
    intro fu9
    induction fu9 with
    | zero => intro _ _ _ _ _ _ _ _ _ _ _ h9; obtain ⟨_, _, _, h9⟩ := h9; omega
    | succ fu9 ih9 =>
      intro τ9 LLt9 Nt9 nut9 v4 v5 iτ9 fτ9 xτ9 nu_τ9 hnτ9 hi9
      obtain ⟨A, B, hi9, hm9⟩ := hi9
      have nτ9_14 := hnτ9.2.2 14 (by first | decide | (simp only [List.mem_cons, List.mem_nil_iff, or_false, not_or]; omega)) (by decide) (by decide) (by decide)
      have nτ9_44 := hnτ9.2.2 44 (by first | decide | (simp only [List.mem_cons, List.mem_nil_iff, or_false, not_or]; omega)) (by decide) (by decide) (by decide)
      have nτ9_74 := hnτ9.2.2 74 (by first | decide | (simp only [List.mem_cons, List.mem_nil_iff, or_false, not_or]; omega)) (by decide) (by decide) (by decide)
      have nτ9_13 := hnτ9.2.2 13 (by first | decide | (simp only [List.mem_cons, List.mem_nil_iff, or_false, not_or]; omega)) (by decide) (by decide) (by decide)
      have uτ9_0 := nu_τ9.1 0 (by decide) (by decide)
      have uτ9_1 := nu_τ9.1 1 (by decide) (by decide)
      have uτ9_2 := nu_τ9.2
      have uτ9_5 := nu_τ9.1 5 (by decide) (by decide)
      have uτ9_15 := nu_τ9.1 15 (by decide) (by decide)
      have uτ9_16 := nu_τ9.1 16 (by decide) (by decide)
      unfold wl_X11_dropUpTo_9
      unfold w_X11_dropUpTo_9
      by_cases hc1 : v5 = none
      · rw [if_pos hc1]
        unfold w_X11_dropUpTo_52
        exact hQ τ9 LLt9 Nt9 nut9 () iτ9 fτ9 (nu_τ9) hnτ9 (by (first | omega | with_reducible assumption | with_reducible exact rng_toInt _ | with_reducible exact rng_wr _ | (unfold rng; omega) | (unfold rng at *; omega) | assumption))
      · rw [if_neg hc1]
        unfold w_X11_dropUpTo_14
        obtain ⟨b, eb⟩ := Option.ne_none_iff_exists'.mp hc1
        obtain ⟨A1, B1, p1, p2, p3, p4⟩ := it_step iτ9 (kx.up xτ9) hi9.1 eb
        obtain ⟨B2, eB⟩ := it_cons hi9.1.2 eb
        have lb2 : B.length = B2.length + 1 := by rw [eB]; rfl
        have nx2 := iτ9.next (kx.up xτ9) (show _ = A ++ b :: B2 by rw [← eB]; exact hi9.1.1)
        refine ⟨b, eb, fun kk_b => ?_⟩
        by_cases hc2 : gJ τ9 b 5 > v2
        · rw [if_pos hc2]
          unfold w_X11_dropUpTo_41
          unfold w_X11_dropUpTo_45
          exact ih9 τ9 LLt9 Nt9 nut9 v5 (gP τ9 b 1) iτ9 fτ9 xτ9 nu_τ9 hnτ9 (by first | exact ⟨A1, B1, ⟨⟨p1, p2⟩, by rw [p4]; assumption, by omega, by omega⟩, by omega⟩ | exact ⟨A, B2, ⟨⟨by rw [hLd]; rw [eB]; rfl, nx2⟩, hi9.2.1, by omega, by omega⟩, by omega⟩)
        · rw [if_neg hc2]
          unfold w_X11_dropUpTo_31
          refine i1_X11_drop (G0 := G0) (A := A) (B := B) iτ9 (kth.up xτ9) hv1 (kx.up xτ9) (by (first | omega | with_reducible assumption | with_reducible exact rng_toInt _ | with_reducible exact rng_wr _ | (unfold rng; omega) | (unfold rng at *; omega) | assumption)) (by (first | omega | with_reducible assumption | with_reducible exact rng_toInt _ | with_reducible exact rng_wr _ | (unfold rng; omega) | (unfold rng at *; omega) | assumption)) (by (first | omega | with_reducible assumption | with_reducible exact rng_toInt _ | with_reducible exact rng_wr _ | (unfold rng; omega) | (unfold rng at *; omega) | assumption)) hi9.1.1 hi9.2.1 (fun σ8 LLσ8 Nσ8 nuσ8 _ iσ8 cσ8 uσ8 hσ8 pσ8 => ?_)
          intro xσ8
          have fσ8 : Fx [1, 64, 512, 708] gr σ σ8 := fτ9.tr (cσ8.mo (by decide))
          have hnσ8 : Hn (gD σ) [G0] [] gq LL LLσ8 N Nσ8 := hnτ9.go hσ8 (fun d hd => (fτ9.1 d hd).1) (by first | decide | exact fun _ h => h | simp) (fun d hd => absurd hd (by simp))
          have nσ8_14 := hσ8.2.2 14 (by first | decide | (simp only [List.mem_cons, List.mem_nil_iff, or_false, not_or]; omega)) (by decide) (by decide) (by decide)
          have nσ8_44 := hσ8.2.2 44 (by first | decide | (simp only [List.mem_cons, List.mem_nil_iff, or_false, not_or]; omega)) (by decide) (by decide) (by decide)
          have nσ8_74 := hσ8.2.2 74 (by first | decide | (simp only [List.mem_cons, List.mem_nil_iff, or_false, not_or]; omega)) (by decide) (by decide) (by decide)
          have nσ8_13 := hσ8.2.2 13 (by first | decide | (simp only [List.mem_cons, List.mem_nil_iff, or_false, not_or]; omega)) (by decide) (by decide) (by decide)
          have nu_σ8 : NU nu nuσ8 := nu_τ9.tr uσ8
          have uσ8_0 := uσ8.1 0 (by decide) (by decide)
          have uσ8_1 := uσ8.1 1 (by decide) (by decide)
          have uσ8_2 := uσ8.2
          have uσ8_5 := uσ8.1 5 (by decide) (by decide)
          have uσ8_15 := uσ8.1 15 (by decide) (by decide)
          have uσ8_16 := uσ8.1 16 (by decide) (by decide)
          have hLd := pσ8.2.2.1
          unfold w_X11_dropUpTo_45
          exact ih9 σ8 LLσ8 Nσ8 nuσ8 v4 (gP τ9 b 1) iσ8 fσ8 (xτ9.trans xσ8) nu_σ8 hnσ8 (by first | exact ⟨A1, B1, ⟨⟨p1, p2⟩, by rw [p4]; assumption, by omega, by omega⟩, by omega⟩ | exact ⟨A, B2, ⟨⟨by rw [hLd]; rw [eB]; rfl, nx2⟩, hi9.2.1, by omega, by omega⟩, by omega⟩)
  exact ⟨(LL x).length + 1, Lp9 _ σ LL N nu _ _ iσ fσ (Ext.rfl' _) NU.rf hnσ (⟨[], LL x, ⟨⟨by simp, iσ.first kx⟩, rfl, rfl, Nat.le_refl _⟩, Nat.lt_succ_self _⟩)⟩
set_option maxHeartbeats 1000000 in
theorem i_X11_isOutdone {σ : Sg} {pl : Nat} {gq ci gr nc : Nat → Nat} {ot : Nat → Nat → Int} {LL : Nat → List Nat} {N nu : Nat → Nat} {v0 : Option Nat} {v1 : Option Nat} {v2 : Int64} {v4 : Int} (iσ : IV σ pl gq ci gr nc ot LL N nu) {x : Nat} (hv0 : v0 = some x) (kx : kO σ x 1) {c1 : Nat} (hv1 : v1 = some c1) (kc1 : kO σ c1 0) {Q : Sg → Int → Prop} {X : Sg → String → Prop} (hQ : ∀ (r : Int), (r = 0 ∨ r = 1) → Q σ r) : wp_X11_isOutdone v0 v1 v2 v4 σ Q X := by
  unfold wp_X11_isOutdone
  unfold w_X11_isOutdone_0
  refine ⟨x, hv0, fun kk_x => ?_⟩
  have Lp9 : ∀ (fu9 : Nat) (v5 : Int) (v6 : Option Nat), (∃ (A B : List Nat), ((LL x = A ++ B ∧ v6 = B.head?) ∧ (v5 = 0 ∨ v5 = 1)) ∧ (B.length) < fu9) → wl_X11_isOutdone_9 Q X fu9 σ v1 v2 v4 v5 v6 := by
    intro fu9
    induction fu9 with
    | zero => intro _ _ h9; obtain ⟨_, _, _, h9⟩ := h9; omega
    | succ fu9 ih9 =>
      intro v5 v6 hi9
      obtain ⟨A, B, hi9, hm9⟩ := hi9
      unfold wl_X11_isOutdone_9
      unfold w_X11_isOutdone_9
      by_cases hc1 : v6 = none
      · rw [if_pos hc1]
        unfold w_X11_isOutdone_87
        exact hQ 0 (by (first | omega | with_reducible assumption | with_reducible exact rng_toInt _ | with_reducible exact rng_wr _ | (unfold rng; omega) | (unfold rng at *; omega) | assumption))
      · rw [if_neg hc1]
        unfold w_X11_isOutdone_14
        obtain ⟨b, eb⟩ := Option.ne_none_iff_exists'.mp hc1
        refine ⟨b, eb, fun kk_b => ?_⟩
        by_cases hc2 : gJ σ b 5 > v2
        · rw [if_pos hc2]
          unfold w_X11_isOutdone_87
          exact hQ 0 (by (first | omega | with_reducible assumption | with_reducible exact rng_toInt _ | with_reducible exact rng_wr _ | (unfold rng; omega) | (unfold rng at *; omega) | assumption))
        · rw [if_neg hc2]
          unfold w_X11_isOutdone_24
          by_cases hc3 : v6 ≠ v1
          · rw [if_pos hc3]
            unfold w_X11_isOutdone_36
            refine ⟨b, eb, fun kk_b_1 => ?_⟩
            refine ⟨c1, hv1, fun kk_c1 => ?_⟩
            by_cases hc4 : gJ σ b 7 ≠ gJ σ c1 7
            · rw [if_pos hc4]
              unfold w_X11_isOutdone_77
              refine ⟨b, eb, fun kk_b_2 => ?_⟩
              exact ih9 v5 (gP σ b 1) (by obtain ⟨A1, B1, p1, p2, p3, p4⟩ := it_step iσ kx hi9.1 eb; exact ⟨A1, B1, ⟨⟨p1, p2⟩, by omega⟩, by omega⟩)
            · rw [if_neg hc4]
              have hc4 := Classical.not_not.mp hc4
              unfold w_X11_isOutdone_49
              refine i_X1_compare iσ eb kk_b hv1 kc1 (fun r14 pσ13 => ?_)
              intro xσ13
              by_cases hc5 : r14 > 0
              · rw [if_pos hc5]
                unfold w_X11_isOutdone_75
                exact hQ 1 (by (first | omega | with_reducible assumption | with_reducible exact rng_toInt _ | with_reducible exact rng_wr _ | (unfold rng; omega) | (unfold rng at *; omega) | assumption))
              · rw [if_neg hc5]
                unfold w_X11_isOutdone_65
                by_cases hc6 : r14 ≠ 0
                · rw [if_pos hc6]
                  unfold w_X11_isOutdone_77
                  refine ⟨b, eb, fun kk_b_3 => ?_⟩
                  exact ih9 v5 (gP σ b 1) (by obtain ⟨A1, B1, p1, p2, p3, p4⟩ := it_step iσ kx hi9.1 eb; exact ⟨A1, B1, ⟨⟨p1, p2⟩, by omega⟩, by omega⟩)
                · rw [if_neg hc6]
                  have hc6 := Classical.not_not.mp hc6
                  unfold w_X11_isOutdone_70
                  by_cases hc7 : v5 ≠ 0
                  · rw [if_pos hc7]
                    unfold w_X11_isOutdone_77
                    refine ⟨b, eb, fun kk_b_4 => ?_⟩
                    exact ih9 v5 (gP σ b 1) (by obtain ⟨A1, B1, p1, p2, p3, p4⟩ := it_step iσ kx hi9.1 eb; exact ⟨A1, B1, ⟨⟨p1, p2⟩, by omega⟩, by omega⟩)
                  · rw [if_neg hc7]
                    have hc7 := Classical.not_not.mp hc7
                    unfold w_X11_isOutdone_75
                    exact hQ 1 (by (first | omega | with_reducible assumption | with_reducible exact rng_toInt _ | with_reducible exact rng_wr _ | (unfold rng; omega) | (unfold rng at *; omega) | assumption))
          · rw [if_neg hc3]
            have hc3 := Classical.not_not.mp hc3
            unfold w_X11_isOutdone_30
            unfold w_X11_isOutdone_77
            refine ⟨b, eb, fun kk_b_5 => ?_⟩
            exact ih9 1 (gP σ b 1) (by obtain ⟨A1, B1, p1, p2, p3, p4⟩ := it_step iσ kx hi9.1 eb; exact ⟨A1, B1, ⟨⟨p1, p2⟩, by omega⟩, by omega⟩)
  exact ⟨(LL x).length + 1, Lp9 _ _ _ (⟨[], LL x, ⟨⟨by simp, iσ.first kx⟩, by omega⟩, Nat.lt_succ_self _⟩)⟩
set_option maxHeartbeats 1000000 in
theorem i1_X11_dropOutdone {σ : Sg} {pl : Nat} {gq ci gr nc : Nat → Nat} {ot : Nat → Nat → Int} {LL : Nat → List Nat} {N nu : Nat → Nat} {th : Nat} {v1 : Option Nat} {v2 : Int64} {v4 : Int} {G0 : Nat} (iσ : IV σ pl gq ci gr nc ot LL N nu) (kth : kO σ th 11) {x : Nat} (hv1 : v1 = some x) (kx : kO σ x 1) (hq : gq th = 1) (hg : gq x = G0) (hG : G0 = 11 ∨ G0 = 12) {Q : Sg → Unit → Prop} {X : Sg → String → Prop} (hQ : ∀ (σ' : Sg) (LL' : Nat → List Nat) (N' nu' : Nat → Nat) (r : Unit), IV σ' pl gq ci gr nc ot LL' N' nu' → Fx [1, 64, 512, 708] gr σ σ' → NU nu nu' → Hn (gD σ) [G0] [] gq LL LL' N N' → (N' 1 = N 1 ∧ N' G0 ≤ N G0) → Q σ' r) : wp_X11_dropOutdone th v1 v2 v4 σ Q X := by
  have fσ : Fx [1, 64, 512, 708] gr σ σ := Fx.rf
  have hnσ : Hn (gD σ) [G0] [] gq LL LL N N := Hn.rf
  unfold wp_X11_dropOutdone
  unfold w_X11_dropOutdone_0
  refine ⟨x, hv1, fun kk_x => ?_⟩
  have Lp9 : ∀ (fu9 : Nat) (τ9 : Sg) (LLt9 : Nat → List Nat) (Nt9 nut9 : Nat → Nat) (v5 : Option Nat) (v6 : Option Nat), IV τ9 pl gq ci gr nc ot LLt9 Nt9 nut9 → Fx [1, 64, 512, 708] gr σ τ9 → Ext σ τ9 → NU nu nut9 → Hn (gD σ) [G0] [] gq LL LLt9 N Nt9 → (∃ (A B : List Nat), ((LLt9 x = A ++ B ∧ v6 = B.head?) ∧ v5 = A.getLast? ∧ Nt9 1 = N 1 ∧ Nt9 G0 ≤ N G0) ∧ (B.length) < fu9) → wl_X11_dropOutdone_9 th Q X fu9 τ9 v1 v2 v4 v5 v6 := by
    intro fu9
    induction fu9 with
    | zero => intro _ _ _ _ _ _ _ _ _ _ _ h9; obtain ⟨_, _, _, h9⟩ := h9; omega
    | succ fu9 ih9 =>
      intro τ9 LLt9 Nt9 nut9 v5 v6 iτ9 fτ9 xτ9 nu_τ9 hnτ9 hi9
      obtain ⟨A, B, hi9, hm9⟩ := hi9
      have nτ9_14 := hnτ9.2.2 14 (by first | decide | (simp only [List.mem_cons, List.mem_nil_iff, or_false, not_or]; omega)) (by decide) (by decide) (by decide)
      have nτ9_44 := hnτ9.2.2 44 (by first | decide | (simp only [List.mem_cons, List.mem_nil_iff, or_false, not_or]; omega)) (by decide) (by decide) (by decide)
      have nτ9_74 := hnτ9.2.2 74 (by first | decide | (simp only [List.mem_cons, List.mem_nil_iff, or_false, not_or]; omega)) (by decide) (by decide) (by decide)
      have nτ9_13 := hnτ9.2.2 13 (by first | decide | (simp only [List.mem_cons, List.mem_nil_iff, or_false, not_or]; omega)) (by decide) (by decide) (by decide)
      have uτ9_0 := nu_τ9.1 0 (by decide) (by decide)
      have uτ9_1 := nu_τ9.1 1 (by decide) (by decide)
      have uτ9_2 := nu_τ9.2
      have uτ9_5 := nu_τ9.1 5 (by decide) (by decide)
      have uτ9_15 := nu_τ9.1 15 (by decide) (by decide)
      have uτ9_16 := nu_τ9.1 16 (by decide) (by decide)
      unfold wl_X11_dropOutdone_9
      unfold w_X11_dropOutdone_9
      by_cases hc1 : v6 = none
      · rw [if_pos hc1]
        unfold w_X11_dropOutdone_64
        exact hQ τ9 LLt9 Nt9 nut9 () iτ9 fτ9 (nu_τ9) hnτ9 (by (first | omega | with_reducible assumption | with_reducible exact rng_toInt _ | with_reducible exact rng_wr _ | (unfold rng; omega) | (unfold rng at *; omega) | assumption))
      · rw [if_neg hc1]
        unfold w_X11_dropOutdone_14
        obtain ⟨b, eb⟩ := Option.ne_none_iff_exists'.mp hc1
        obtain ⟨A1, B1, p1, p2, p3, p4⟩ := it_step iτ9 (kx.up xτ9) hi9.1 eb
        obtain ⟨B2, eB⟩ := it_cons hi9.1.2 eb
        have lb2 : B.length = B2.length + 1 := by rw [eB]; rfl
        have nx2 := iτ9.next (kx.up xτ9) (show _ = A ++ b :: B2 by rw [← eB]; exact hi9.1.1)
        refine ⟨b, eb, fun kk_b => ?_⟩
        by_cases hc2 : gJ τ9 b 5 > v2
        · rw [if_pos hc2]
          unfold w_X11_dropOutdone_64
          exact hQ τ9 LLt9 Nt9 nut9 () iτ9 fτ9 (nu_τ9) hnτ9 (by (first | omega | with_reducible assumption | with_reducible exact rng_toInt _ | with_reducible exact rng_wr _ | (unfold rng; omega) | (unfold rng at *; omega) | assumption))
        · rw [if_neg hc2]
          unfold w_X11_dropOutdone_24
          refine ⟨b, eb, fun kk_b_1 => ?_⟩
          refine i_X11_isOutdone iτ9 hv1 (kx.up xτ9) eb kk_b (fun r16 pσ15 => ?_)
          intro xσ15
          by_cases hc3 : r16 = 0
          · rw [if_pos hc3]
            unfold w_X11_dropOutdone_53
            unfold w_X11_dropOutdone_57
            exact ih9 τ9 LLt9 Nt9 nut9 v6 (gP τ9 b 1) iτ9 fτ9 xτ9 nu_τ9 hnτ9 (by first | exact ⟨A1, B1, ⟨⟨p1, p2⟩, by rw [p4]; assumption, by omega, by omega⟩, by omega⟩ | exact ⟨A, B2, ⟨⟨by rw [hLd]; rw [eB]; rfl, nx2⟩, hi9.2.1, by omega, by omega⟩, by omega⟩)
          · rw [if_neg hc3]
            unfold w_X11_dropOutdone_43
            refine i1_X11_drop (G0 := G0) (A := A) (B := B) iτ9 (kth.up xτ9) hv1 (kx.up xτ9) (by (first | omega | with_reducible assumption | with_reducible exact rng_toInt _ | with_reducible exact rng_wr _ | (unfold rng; omega) | (unfold rng at *; omega) | assumption)) (by (first | omega | with_reducible assumption | with_reducible exact rng_toInt _ | with_reducible exact rng_wr _ | (unfold rng; omega) | (unfold rng at *; omega) | assumption)) (by (first | omega | with_reducible assumption | with_reducible exact rng_toInt _ | with_reducible exact rng_wr _ | (unfold rng; omega) | (unfold rng at *; omega) | assumption)) hi9.1.1 hi9.2.1 (fun σ17 LLσ17 Nσ17 nuσ17 _ iσ17 cσ17 uσ17 hσ17 pσ17 => ?_)
            intro xσ17
            have fσ17 : Fx [1, 64, 512, 708] gr σ σ17 := fτ9.tr (cσ17.mo (by decide))
            have hnσ17 : Hn (gD σ) [G0] [] gq LL LLσ17 N Nσ17 := hnτ9.go hσ17 (fun d hd => (fτ9.1 d hd).1) (by first | decide | exact fun _ h => h | simp) (fun d hd => absurd hd (by simp))
            have nσ17_14 := hσ17.2.2 14 (by first | decide | (simp only [List.mem_cons, List.mem_nil_iff, or_false, not_or]; omega)) (by decide) (by decide) (by decide)
            have nσ17_44 := hσ17.2.2 44 (by first | decide | (simp only [List.mem_cons, List.mem_nil_iff, or_false, not_or]; omega)) (by decide) (by decide) (by decide)
            have nσ17_74 := hσ17.2.2 74 (by first | decide | (simp only [List.mem_cons, List.mem_nil_iff, or_false, not_or]; omega)) (by decide) (by decide) (by decide)
            have nσ17_13 := hσ17.2.2 13 (by first | decide | (simp only [List.mem_cons, List.mem_nil_iff, or_false, not_or]; omega)) (by decide) (by decide) (by decide)
            have nu_σ17 : NU nu nuσ17 := nu_τ9.tr uσ17
            have uσ17_0 := uσ17.1 0 (by decide) (by decide)
            have uσ17_1 := uσ17.1 1 (by decide) (by decide)
            have uσ17_2 := uσ17.2
            have uσ17_5 := uσ17.1 5 (by decide) (by decide)
            have uσ17_15 := uσ17.1 15 (by decide) (by decide)
            have uσ17_16 := uσ17.1 16 (by decide) (by decide)
            have hLd := pσ17.2.2.1
            unfold w_X11_dropOutdone_57
            exact ih9 σ17 LLσ17 Nσ17 nuσ17 v5 (gP τ9 b 1) iσ17 fσ17 (xτ9.trans xσ17) nu_σ17 hnσ17 (by first | exact ⟨A1, B1, ⟨⟨p1, p2⟩, by rw [p4]; assumption, by omega, by omega⟩, by omega⟩ | exact ⟨A, B2, ⟨⟨by rw [hLd]; rw [eB]; rfl, nx2⟩, hi9.2.1, by omega, by omega⟩, by omega⟩)
  exact ⟨(LL x).length + 1, Lp9 _ σ LL N nu _ _ iσ fσ (Ext.rfl' _) NU.rf hnσ (⟨[], LL x, ⟨⟨by simp, iσ.first kx⟩, rfl, rfl, Nat.le_refl _⟩, Nat.lt_succ_self _⟩)⟩

set_option maxHeartbeats 1000000 in
theorem i1_X11_addNearTo {σ : Sg} {pl : Nat} {gq ci gr nc : Nat → Nat} {ot : Nat → Nat → Int} {LL : Nat → List Nat} {N nu : Nat → Nat} {th : Nat} {v1 : Option Nat} {v2 : Option Nat} {v3 : Option Nat} {v4 : Int64} (iσ : IV σ pl gq ci gr nc ot LL N nu) (kth : kO σ th 11) {o : Nat} (hv1 : v1 = some o) (ko : kO σ o 5) {x : Nat} (hv2 : v2 = some x) (kx : kO σ x 1) {c3 : Nat} (hv3 : v3 = some c3) (kc3 : kO σ c3 0) (hq : gq th = 1) (hf : ∀ x, c3 ∉ LL x) (hg : gq x = 11) (h5 : nu 5 < 24000) {Q : Sg → Unit → Prop} {X : Sg → String → Prop} (hQ : ∀ (σ' : Sg) (LL' : Nat → List Nat) (N' nu' : Nat → Nat) (r : Unit), IV σ' pl gq ci gr nc ot LL' N' nu' → Fx [1, 4, 5, 6, 64, 512, 513, 514, 708, 6464] gr σ σ' → NU nu nu' → Hn (gD σ) [11] [] gq LL LL' N N' → (N' 1 = N 1 ∧ N' 11 ≤ N 11) → Q σ' r) (hX : ∀ (σ' : Sg) (LL' : Nat → List Nat) (N' nu' : Nat → Nat) (E : String), IV σ' pl gq ci gr nc ot LL' N' nu' → Fx [1, 4, 5, 6, 64, 512, 513, 514, 708, 6464] gr σ σ' → NX nu nu' → ((N' 1 ≤ N 1 + 1 ∧ N' 5 = N 5 ∧ N' 3 = N 3 ∧ N' 44 = N 44 ∧ N' 74 = N 74) ∧ NZ N N' ∧ E = "java/lang/IllegalStateException") → X σ' E) : wp_X11_addNearTo th v1 v2 v3 v4 σ Q X := by
  have fσ : Fx [1, 4, 5, 6, 64, 512, 513, 514, 708, 6464] gr σ σ := Fx.rf
  have hnσ : Hn (gD σ) [11] [] gq LL LL N N := Hn.rf
  unfold wp_X11_addNearTo
  unfold w_X11_addNearTo_0
  refine ⟨x, hv2, fun kk_x => ?_⟩
  have Lp9 : ∀ (fu9 : Nat) (τ9 : Sg) (LLt9 : Nat → List Nat) (Nt9 nut9 : Nat → Nat) (v6 : Option Nat) (v7 : Option Nat), IV τ9 pl gq ci gr nc ot LLt9 Nt9 nut9 → Fx [1, 4, 5, 6, 64, 512, 513, 514, 708, 6464] gr σ τ9 → Ext σ τ9 → NU nu nut9 → Hn (gD σ) [11] [] gq LL LLt9 N Nt9 → (∀ x, c3 ∉ LLt9 x) → (∃ (A B : List Nat), ((LLt9 x = A ++ B ∧ v7 = B.head?) ∧ v6 = A.getLast? ∧ Nt9 1 = N 1 ∧ Nt9 11 ≤ N 11) ∧ (B.length) < fu9) → wl_X11_addNearTo_9 th Q X fu9 τ9 v1 v2 v3 v4 v6 v7 := by
    intro fu9
    induction fu9 with
    | zero => intro _ _ _ _ _ _ _ _ _ _ _ _ h9; obtain ⟨_, _, _, h9⟩ := h9; omega
    | succ fu9 ih9 =>
      intro τ9 LLt9 Nt9 nut9 v6 v7 iτ9 fτ9 xτ9 nu_τ9 hnτ9 hg_c3_τ9 hi9
      obtain ⟨A, B, hi9, hm9⟩ := hi9
      have nτ9_3 := hnτ9.2.2 3 (by first | decide | (simp; done) | (simp only [List.mem_cons, List.mem_nil_iff, or_false, not_or]; omega)) (by first | decide | omega) (by first | decide | omega) (by first | decide | omega)
      have nτ9_5 := hnτ9.2.2 5 (by first | decide | (simp; done) | (simp only [List.mem_cons, List.mem_nil_iff, or_false, not_or]; omega)) (by first | decide | omega) (by first | decide | omega) (by first | decide | omega)
      have nτ9_14 := hnτ9.2.2 14 (by first | decide | (simp; done) | (simp only [List.mem_cons, List.mem_nil_iff, or_false, not_or]; omega)) (by first | decide | omega) (by first | decide | omega) (by first | decide | omega)
      have nτ9_44 := hnτ9.2.2 44 (by first | decide | (simp; done) | (simp only [List.mem_cons, List.mem_nil_iff, or_false, not_or]; omega)) (by first | decide | omega) (by first | decide | omega) (by first | decide | omega)
      have nτ9_74 := hnτ9.2.2 74 (by first | decide | (simp; done) | (simp only [List.mem_cons, List.mem_nil_iff, or_false, not_or]; omega)) (by first | decide | omega) (by first | decide | omega) (by first | decide | omega)
      have nτ9_12 := hnτ9.2.2 12 (by first | decide | (simp; done) | (simp only [List.mem_cons, List.mem_nil_iff, or_false, not_or]; omega)) (by first | decide | omega) (by first | decide | omega) (by first | decide | omega)
      have nτ9_41 := hnτ9.2.2 41 (by first | decide | (simp; done) | (simp only [List.mem_cons, List.mem_nil_iff, or_false, not_or]; omega)) (by first | decide | omega) (by first | decide | omega) (by first | decide | omega)
      have nτ9_42 := hnτ9.2.2 42 (by first | decide | (simp; done) | (simp only [List.mem_cons, List.mem_nil_iff, or_false, not_or]; omega)) (by first | decide | omega) (by first | decide | omega) (by first | decide | omega)
      have nτ9_13 := hnτ9.2.2 13 (by first | decide | (simp; done) | (simp only [List.mem_cons, List.mem_nil_iff, or_false, not_or]; omega)) (by first | decide | omega) (by first | decide | omega) (by first | decide | omega)
      have uτ9_0 := nu_τ9.1 0 (by decide)
      have uτ9_1 := nu_τ9.1 1 (by decide)
      have uτ9_2 := nu_τ9.2
      have uτ9_5 := nu_τ9.1 5 (by decide)
      have uτ9_15 := nu_τ9.1 15 (by decide)
      have uτ9_16 := nu_τ9.1 16 (by decide)
      unfold wl_X11_addNearTo_9
      unfold w_X11_addNearTo_9
      by_cases hc1 : v7 = none
      · rw [if_pos hc1]
        unfold w_X11_addNearTo_173
        exact hQ τ9 LLt9 Nt9 nut9 () iτ9 fτ9 (nu_τ9) hnτ9 (by (first | omega | with_reducible assumption | with_reducible exact rng_toInt _ | with_reducible exact rng_wr _ | (unfold rng; omega) | (unfold rng at *; omega) | assumption))
      · rw [if_neg hc1]
        unfold w_X11_addNearTo_14
        obtain ⟨b, eb⟩ := Option.ne_none_iff_exists'.mp hc1
        obtain ⟨A1, B1, p1, p2, p3, p4⟩ := it_step iτ9 (kx.up xτ9) hi9.1 eb
        obtain ⟨B2, eB⟩ := it_cons hi9.1.2 eb
        have rc9 := iτ9.recs1 (kth.up xτ9) (by omega)
        have lb2 : B.length = B2.length + 1 := by rw [eB]; rfl
        have nx2 := iτ9.next (kx.up xτ9) (show _ = A ++ b :: B2 by rw [← eB]; exact hi9.1.1)
        refine ⟨b, eb, fun kk_b => ?_⟩
        refine ⟨c3, hv3, fun kk_c3 => ?_⟩
        by_cases hc2 : gJ τ9 b 7 ≠ gJ τ9 c3 7
        · rw [if_pos hc2]
          unfold w_X11_addNearTo_162
          unfold w_X11_addNearTo_166
          exact ih9 τ9 LLt9 Nt9 nut9 v7 (gP τ9 b 1) iτ9 fτ9 xτ9 nu_τ9 hnτ9 hg_c3_τ9 (by first | exact ⟨A1, B1, ⟨⟨p1, p2⟩, by rw [p4]; assumption, by omega, by omega⟩, by omega⟩ | exact ⟨A, B2, ⟨⟨by rw [hLr, eL9]; exact up1_s _ _ _, nx2⟩, hi9.2.1, by omega, by omega⟩, by omega⟩)
        · rw [if_neg hc2]
          have hc2q := Classical.not_not.mp hc2
          unfold w_X11_addNearTo_34
          refine ⟨b, eb, fun kk_b_1 => ?_⟩
          refine ⟨o, hv1, fun kk_o => ?_⟩
          have q4 := I_5_11 iτ9.1 (ko.up xτ9)
          by_cases hc3 : (gJ τ9 b 6 - v4) ≥ (Int64.ofInt (gI τ9 o 11))
          · rw [if_pos hc3]
            unfold w_X11_addNearTo_162
            unfold w_X11_addNearTo_166
            exact ih9 τ9 LLt9 Nt9 nut9 v7 (gP τ9 b 1) iτ9 fτ9 xτ9 nu_τ9 hnτ9 hg_c3_τ9 (by first | exact ⟨A1, B1, ⟨⟨p1, p2⟩, by rw [p4]; assumption, by omega, by omega⟩, by omega⟩ | exact ⟨A, B2, ⟨⟨by rw [hLr, eL9]; exact up1_s _ _ _, nx2⟩, hi9.2.1, by omega, by omega⟩, by omega⟩)
          · rw [if_neg hc3]
            unfold w_X11_addNearTo_51
            refine ⟨b, eb, fun kk_b_2 => ?_⟩
            refine ⟨o, hv1, fun kk_o_1 => ?_⟩
            by_cases hc5 : (v4 - gJ τ9 b 5) ≥ (Int64.ofInt (gI τ9 o 11))
            · rw [if_pos hc5]
              unfold w_X11_addNearTo_162
              unfold w_X11_addNearTo_166
              exact ih9 τ9 LLt9 Nt9 nut9 v7 (gP τ9 b 1) iτ9 fτ9 xτ9 nu_τ9 hnτ9 hg_c3_τ9 (by first | exact ⟨A1, B1, ⟨⟨p1, p2⟩, by rw [p4]; assumption, by omega, by omega⟩, by omega⟩ | exact ⟨A, B2, ⟨⟨by rw [hLr, eL9]; exact up1_s _ _ _, nx2⟩, hi9.2.1, by omega, by omega⟩, by omega⟩)
            · rw [if_neg hc5]
              unfold w_X11_addNearTo_68
              refine ⟨x, hv2, fun kk_x_1 => ?_⟩
              have lo_b : Lo [] (gD σ) LL b := hnτ9.loc (fun d hd => (fτ9.1 d hd).1) (Or.inr ⟨x, it_mem hi9.1 eb⟩)
              have ne9 : c3 ≠ b := fun q => hg_c3_τ9 x (by rw [q]; exact it_mem hi9.1 eb)
              refine i_X1_cutBehind (G0 := 11) (A := A) (B := B) iτ9 (kx.up xτ9) hg hi9.1.1 hi9.2.1 (fun σ59 LLσ59 Nσ59 nuσ59 r60 iσ59 cσ59 uσ59 hσ59 pσ59 => ?_)
              intro xσ59
              have fσ59 : Fx [1, 4, 5, 6, 64, 512, 513, 514, 708, 6464] gr σ σ59 := fτ9.tr (cσ59.mo (by decide))
              have hnσ59 : Hn (gD σ) [11] [] gq LL LLσ59 N Nσ59 := hnτ9.go hσ59 (fun d hd => (fτ9.1 d hd).1) (by first | decide | exact fun _ h => h | (simp; done) | (intro x hx; simp only [List.mem_cons, List.mem_nil_iff, or_false] at hx ⊢; omega)) (fun d hd => absurd hd (by simp))
              have hg_c3_σ59 : ∀ x, c3 ∉ LLσ59 x := hσ59.2.1 c3 (kc3.up xτ9).1 (by simp) hg_c3_τ9
              have nσ59_3 := hσ59.2.2 3 (by first | decide | (simp; done) | (simp only [List.mem_cons, List.mem_nil_iff, or_false, not_or]; omega)) (by first | decide | omega) (by first | decide | omega) (by first | decide | omega)
              have nσ59_5 := hσ59.2.2 5 (by first | decide | (simp; done) | (simp only [List.mem_cons, List.mem_nil_iff, or_false, not_or]; omega)) (by first | decide | omega) (by first | decide | omega) (by first | decide | omega)
              have nσ59_14 := hσ59.2.2 14 (by first | decide | (simp; done) | (simp only [List.mem_cons, List.mem_nil_iff, or_false, not_or]; omega)) (by first | decide | omega) (by first | decide | omega) (by first | decide | omega)
              have nσ59_44 := hσ59.2.2 44 (by first | decide | (simp; done) | (simp only [List.mem_cons, List.mem_nil_iff, or_false, not_or]; omega)) (by first | decide | omega) (by first | decide | omega) (by first | decide | omega)
              have nσ59_74 := hσ59.2.2 74 (by first | decide | (simp; done) | (simp only [List.mem_cons, List.mem_nil_iff, or_false, not_or]; omega)) (by first | decide | omega) (by first | decide | omega) (by first | decide | omega)
              have nσ59_12 := hσ59.2.2 12 (by first | decide | (simp; done) | (simp only [List.mem_cons, List.mem_nil_iff, or_false, not_or]; omega)) (by first | decide | omega) (by first | decide | omega) (by first | decide | omega)
              have nσ59_41 := hσ59.2.2 41 (by first | decide | (simp; done) | (simp only [List.mem_cons, List.mem_nil_iff, or_false, not_or]; omega)) (by first | decide | omega) (by first | decide | omega) (by first | decide | omega)
              have nσ59_42 := hσ59.2.2 42 (by first | decide | (simp; done) | (simp only [List.mem_cons, List.mem_nil_iff, or_false, not_or]; omega)) (by first | decide | omega) (by first | decide | omega) (by first | decide | omega)
              have nσ59_13 := hσ59.2.2 13 (by first | decide | (simp; done) | (simp only [List.mem_cons, List.mem_nil_iff, or_false, not_or]; omega)) (by first | decide | omega) (by first | decide | omega) (by first | decide | omega)
              have nu_σ59 : NU nu nuσ59 := nu_τ9.tr uσ59
              have uσ59_0 := uσ59.1 0 (by decide)
              have uσ59_1 := uσ59.1 1 (by decide)
              have uσ59_2 := uσ59.2
              have uσ59_5 := uσ59.1 5 (by decide)
              have uσ59_15 := uσ59.1 15 (by decide)
              have uσ59_16 := uσ59.1 16 (by decide)
              have kp6 : gI σ59 o 11 = gI τ9 o 11 := (cσ59.O (ko.up xτ9) (by decide)).1
              have kp7 : gI σ59 th 4 = gI τ9 th 4 := (cσ59.O (kth.up xτ9) (by decide)).1
              obtain ⟨r9, eL9, hb9, n9a, n9b⟩ := cut_r (N0 := 0) eB pσ59
              intro tyt
              have q8 := I_11_4 iσ59.1 (kth.up (xτ9.trans xσ59))
              refine ⟨by (first | omega | with_reducible assumption | with_reducible exact rng_toInt _ | with_reducible exact rng_wr _ | (unfold rng; omega) | (unfold rng at *; omega) | assumption), ?_⟩
              intro σ62 eσ62
              have xσ62 : Ext σ59 σ62 := by rw [eσ62]; exact fun _ h => ⟨h, rfl, rfl⟩
              have iσ62 : IV σ62 pl gq ci gr nc ot LLσ59 Nσ59 nuσ59 := by rw [eσ62]; exact iσ59.rec1 (kth.up (xτ9.trans xσ59)) (by omega) (by omega) (by omega)
              have fσ62 : Fx [1, 4, 5, 6, 64, 512, 513, 514, 708, 6464] gr σ σ62 := fσ59.tr (Sk.fx (by rw [eσ62]; exact Sk.pI (by rw [fcdO (kth.up (xτ9.trans xσ59)) (by decide)]; decide)))
              have wσ62 : gI σ62 th 4 = (gI σ59 th 4 - 1) := by rw [eσ62]; exact up2_s _ _ _ _
              have kp9 : gI σ62 o 11 = gI σ59 o 11 := by rw [eσ62]; exact up2_n _ _ (fun q => absurd q.2 (by decide))
              refine ⟨c3, hv3, fun kk_c3_1 => ?_⟩
              refine ⟨b, eb, fun kk_b_3 => ?_⟩
              refine i_J9_min_f86c9 iσ62 (fun r66 pσ65 => ?_)
              intro xσ65
              intro σ67 eσ67
              have xσ67 : Ext σ62 σ67 := by rw [eσ67]; exact fun _ h => ⟨h, rfl, rfl⟩
              have iσ67 : IV σ67 pl gq ci gr nc ot LLσ59 Nσ59 nuσ59 := by rw [eσ67]; exact iσ62.wT (kc3.up (xτ9.trans (xσ59.trans xσ62))) (by decide) (by rcases pσ65 with e9 | e9; (rw [e9]; exact (iσ62.t6 (kc3.up (xτ9.trans (xσ59.trans xσ62))))); (rw [e9]; exact (iσ62.t6 (kk_b.up (xσ59.trans xσ62)))))
              have fσ67 : Fx [1, 4, 5, 6, 64, 512, 513, 514, 708, 6464] gr σ σ67 := fσ62.tr (Sk.fx (by rw [eσ67]; exact Sk.pJ (by rw [fcdO (kc3.up (xτ9.trans (xσ59.trans xσ62))) (by decide)]; decide)))
              have kp10 : gI σ67 o 11 = gI σ62 o 11 := by rw [eσ67]
              have kp11 : gI σ67 th 4 = gI σ62 th 4 := by rw [eσ67]
              refine i_J9_max_f86c9 iσ67 (fun r69 pσ68 => ?_)
              intro xσ68
              intro σ70 eσ70
              have xσ70 : Ext σ67 σ70 := by rw [eσ70]; exact fun _ h => ⟨h, rfl, rfl⟩
              have iσ70 : IV σ70 pl gq ci gr nc ot LLσ59 Nσ59 nuσ59 := by rw [eσ70]; exact iσ67.wT (kc3.up (xτ9.trans (xσ59.trans (xσ62.trans xσ67)))) (by decide) (by rcases pσ68 with e9 | e9; (rw [e9]; exact (iσ67.t5 (kc3.up (xτ9.trans (xσ59.trans (xσ62.trans xσ67)))))); (rw [e9]; exact (iσ67.t5 (kk_b.up (xσ59.trans (xσ62.trans xσ67))))))
              have fσ70 : Fx [1, 4, 5, 6, 64, 512, 513, 514, 708, 6464] gr σ σ70 := fσ67.tr (Sk.fx (by rw [eσ70]; exact Sk.pJ (by rw [fcdO (kc3.up (xτ9.trans (xσ59.trans (xσ62.trans xσ67)))) (by decide)]; decide)))
              have kp12 : gI σ70 o 11 = gI σ67 o 11 := by rw [eσ70]
              have kp13 : gI σ70 th 4 = gI σ67 th 4 := by rw [eσ70]
              obtain ⟨b_1, eb_1⟩ := P_11_0 iσ70.1 (kth.up (xτ9.trans (xσ59.trans (xσ62.trans (xσ67.trans xσ70)))))
              refine ⟨b_1, eb_1, fun kk_b_1_1 => ?_⟩
              have q14 := I_0_4 iσ70.1 (kc3.up (xτ9.trans (xσ59.trans (xσ62.trans (xσ67.trans xσ70)))))
              have q15 := I_0_4 iσ70.1 (kk_b.up (xσ59.trans (xσ62.trans (xσ67.trans xσ70))))
              refine i_X8_together iσ70 kk_b_1_1 (by (first | omega | with_reducible assumption | with_reducible exact rng_toInt _ | with_reducible exact rng_wr _ | (unfold rng; omega) | (unfold rng at *; omega) | assumption)) (by (first | omega | with_reducible assumption | with_reducible exact rng_toInt _ | with_reducible exact rng_wr _ | (unfold rng; omega) | (unfold rng at *; omega) | assumption)) (by (first | omega | with_reducible assumption | with_reducible exact rng_toInt _ | with_reducible exact rng_wr _ | (unfold rng; omega) | (unfold rng at *; omega) | assumption)) (fun σ71 nuσ71 r72 iσ71 cσ71 uσ71 pσ71 => ?_) (fun σx LLx Nx nux E ix cx ux px => hX σx LLx Nx nux E ix (fσ70.tr (cx.mo (by decide))) (nu_σ59.x ux) (by first | exact px | exact ⟨by have := px.1; omega, (Hn.nz hnσ59 (by first | decide | (intro x hx; simp only [List.mem_cons, List.mem_nil_iff, or_false] at hx; omega))).tr px.2.1, px.2.2⟩ | (first | omega | with_reducible assumption | with_reducible exact rng_toInt _ | with_reducible exact rng_wr _ | (unfold rng; omega) | (unfold rng at *; omega) | assumption)))
              intro xσ71
              have fσ71 : Fx [1, 4, 5, 6, 64, 512, 513, 514, 708, 6464] gr σ σ71 := fσ70.tr (cσ71.mo (by decide))
              have nu_σ71 : NU nu nuσ71 := nu_σ59.tr uσ71
              have uσ71_0 := uσ71.1 0 (by decide)
              have uσ71_1 := uσ71.1 1 (by decide)
              have uσ71_2 := uσ71.2
              have uσ71_5 := uσ71.1 5 (by decide)
              have uσ71_15 := uσ71.1 15 (by decide)
              have uσ71_16 := uσ71.1 16 (by decide)
              have kp16 : gI σ71 b 4 = gI σ70 b 4 := (cσ71.O (kk_b.up (xσ59.trans (xσ62.trans (xσ67.trans xσ70)))) (by decide)).1
              have kp17 : gI σ71 c3 4 = gI σ70 c3 4 := (cσ71.O (kc3.up (xτ9.trans (xσ59.trans (xσ62.trans (xσ67.trans xσ70))))) (by decide)).1
              have kp18 : gI σ71 o 11 = gI σ70 o 11 := (cσ71.O (ko.up (xτ9.trans (xσ59.trans (xσ62.trans (xσ67.trans xσ70))))) (by decide)).1
              have kp19 : gI σ71 th 4 = gI σ70 th 4 := (cσ71.O (kth.up (xτ9.trans (xσ59.trans (xσ62.trans (xσ67.trans xσ70))))) (by decide)).1
              have kp20 : gP σ71 th 0 = gP σ70 th 0 := (cσ71.O (kth.up (xτ9.trans (xσ59.trans (xσ62.trans (xσ67.trans xσ70))))) (by decide)).2.1
              intro σ74 eσ74
              have xσ74 : Ext σ71 σ74 := by rw [eσ74]; exact fun _ h => ⟨h, rfl, rfl⟩
              have iσ74 : IV σ74 pl gq ci gr nc ot LLσ59 Nσ59 nuσ71 := by rw [eσ74]; exact iσ71.wO (kc3.up (xτ9.trans (xσ59.trans (xσ62.trans (xσ67.trans (xσ70.trans xσ71)))))) (by decide) (show (-1 : Int) ≤ r72 ∧ r72 ≤ (nuσ71 2 : Int) - 1 from ⟨by (first | omega | with_reducible assumption | with_reducible exact rng_toInt _ | with_reducible exact rng_wr _ | (unfold rng; omega) | (unfold rng at *; omega) | assumption), by (first | omega | with_reducible assumption | with_reducible exact rng_toInt _ | with_reducible exact rng_wr _ | (unfold rng; omega) | (unfold rng at *; omega) | assumption)⟩)
              have fσ74 : Fx [1, 4, 5, 6, 64, 512, 513, 514, 708, 6464] gr σ σ74 := fσ71.tr (Sk.fx (by rw [eσ74]; exact Sk.pI (by rw [fcdO (kc3.up (xτ9.trans (xσ59.trans (xσ62.trans (xσ67.trans (xσ70.trans xσ71)))))) (by decide)]; decide)))
              have wσ74 : gI σ74 c3 4 = r72 := by rw [eσ74]; exact up2_s _ _ _ _
              have kp21 : gI σ74 o 11 = gI σ71 o 11 := by rw [eσ74]; exact up2_n _ _ (fun q => absurd q.2 (by decide))
              have kp22 : gI σ74 th 4 = gI σ71 th 4 := by rw [eσ74]; exact up2_n _ _ (fun q => absurd q.1 (kO.ne (kth.up (xτ9.trans (xσ59.trans (xσ62.trans (xσ67.trans (xσ70.trans xσ71)))))) (kc3.up (xτ9.trans (xσ59.trans (xσ62.trans (xσ67.trans (xσ70.trans xσ71)))))) (by decide)))
              have kp23 : gP σ74 th 0 = gP σ71 th 0 := by rw [eσ74]
              obtain ⟨b_2, eb_2, fb_2⟩ := P_0_0 iσ74.1 (kc3.up (xτ9.trans (xσ59.trans (xσ62.trans (xσ67.trans (xσ70.trans (xσ71.trans xσ74)))))))
              have mb_2 : kO σ74 b_2 101 := iσ74.1.kd (kc3.up (xτ9.trans (xσ59.trans (xσ62.trans (xσ67.trans (xσ70.trans (xσ71.trans xσ74))))))) rfl eb_2 rfl
              obtain ⟨b_3, eb_3, fb_3⟩ := P_0_0 iσ74.1 (kk_b.up (xσ59.trans (xσ62.trans (xσ67.trans (xσ70.trans (xσ71.trans xσ74))))))
              have mb_3 : kO σ74 b_3 101 := iσ74.1.kd (kk_b.up (xσ59.trans (xσ62.trans (xσ67.trans (xσ70.trans (xσ71.trans xσ74)))))) rfl eb_3 rfl
              refine i_X11_addUp iσ74 hv1 (ko.up (xτ9.trans (xσ59.trans (xσ62.trans (xσ67.trans (xσ70.trans (xσ71.trans xσ74))))))) eb_2 mb_2 eb_3 mb_3 (by omega) (by omega) (by omega) (fun σ75 _ iσ75 cσ75 pσ75 => ?_)
              intro xσ75
              have fσ75 : Fx [1, 4, 5, 6, 64, 512, 513, 514, 708, 6464] gr σ σ75 := fσ74.tr (cσ75.mo (by decide))
              have kp24 : gI σ75 c3 4 = gI σ74 c3 4 := (cσ75.O (kc3.up (xτ9.trans (xσ59.trans (xσ62.trans (xσ67.trans (xσ70.trans (xσ71.trans xσ74))))))) (by decide)).1
              have kp25 : gI σ75 o 11 = gI σ74 o 11 := (cσ75.O (ko.up (xτ9.trans (xσ59.trans (xσ62.trans (xσ67.trans (xσ70.trans (xσ71.trans xσ74))))))) (by decide)).1
              have kp26 : gI σ75 th 4 = gI σ74 th 4 := (cσ75.O (kth.up (xτ9.trans (xσ59.trans (xσ62.trans (xσ67.trans (xσ70.trans (xσ71.trans xσ74))))))) (by decide)).1
              have kp27 : gP σ75 b 0 = gP σ74 b 0 := (cσ75.O (kk_b.up (xσ59.trans (xσ62.trans (xσ67.trans (xσ70.trans (xσ71.trans xσ74)))))) (by decide)).2.1
              have kp28 : gP σ75 c3 0 = gP σ74 c3 0 := (cσ75.O (kc3.up (xτ9.trans (xσ59.trans (xσ62.trans (xσ67.trans (xσ70.trans (xσ71.trans xσ74))))))) (by decide)).2.1
              have kp29 : gP σ75 th 0 = gP σ74 th 0 := (cσ75.O (kth.up (xτ9.trans (xσ59.trans (xσ62.trans (xσ67.trans (xσ70.trans (xσ71.trans xσ74))))))) (by decide)).2.1
              refine ⟨b_1, (kp29.trans (kp23.trans (kp20.trans eb_1))), fun kk_b_1_2 => ?_⟩
              refine i_X8_release iσ75 (kk_b_1_1.up (xσ71.trans (xσ74.trans xσ75))) eb (kk_b.up (xσ59.trans (xσ62.trans (xσ67.trans (xσ70.trans (xσ71.trans (xσ74.trans xσ75))))))) (by (first | omega | with_reducible assumption | with_reducible exact rng_toInt _ | with_reducible exact rng_wr _ | (unfold rng; omega) | (unfold rng at *; omega) | assumption)) (by (first | omega | with_reducible assumption | with_reducible exact rng_toInt _ | with_reducible exact rng_wr _ | (unfold rng; omega) | (unfold rng at *; omega) | assumption)) (fun σ76 LLσ76 Nσ76 nuσ76 _ iσ76 cσ76 uσ76 hσ76 pσ76 => ?_)
              intro xσ76
              have fσ76 : Fx [1, 4, 5, 6, 64, 512, 513, 514, 708, 6464] gr σ σ76 := fσ75.tr (cσ76.mo (by decide))
              have hnσ76 : Hn (gD σ) [11] [] gq LL LLσ76 N Nσ76 := hnσ59.go hσ76 (fun d hd => (fσ75.1 d hd).1) (by first | decide | exact fun _ h => h | (simp; done) | (intro x hx; simp only [List.mem_cons, List.mem_nil_iff, or_false] at hx ⊢; omega)) (fun d hd => by rw [List.mem_singleton.mp hd]; exact lo_b)
              have hg_c3_σ76 : ∀ x, c3 ∉ LLσ76 x := hσ76.2.1 c3 (kc3.up (xτ9.trans (xσ59.trans (xσ62.trans (xσ67.trans (xσ70.trans (xσ71.trans (xσ74.trans xσ75)))))))).1 (by simp only [List.mem_cons, List.mem_nil_iff, or_false, not_or]; first | omega | (exact fun q => absurd q.symm (by assumption))) hg_c3_σ59
              have nσ76_3 := hσ76.2.2 3 (by first | decide | (simp; done) | (simp only [List.mem_cons, List.mem_nil_iff, or_false, not_or]; omega)) (by first | decide | omega) (by first | decide | omega) (by first | decide | omega)
              have nσ76_5 := hσ76.2.2 5 (by first | decide | (simp; done) | (simp only [List.mem_cons, List.mem_nil_iff, or_false, not_or]; omega)) (by first | decide | omega) (by first | decide | omega) (by first | decide | omega)
              have nσ76_14 := hσ76.2.2 14 (by first | decide | (simp; done) | (simp only [List.mem_cons, List.mem_nil_iff, or_false, not_or]; omega)) (by first | decide | omega) (by first | decide | omega) (by first | decide | omega)
              have nσ76_44 := hσ76.2.2 44 (by first | decide | (simp; done) | (simp only [List.mem_cons, List.mem_nil_iff, or_false, not_or]; omega)) (by first | decide | omega) (by first | decide | omega) (by first | decide | omega)
              have nσ76_74 := hσ76.2.2 74 (by first | decide | (simp; done) | (simp only [List.mem_cons, List.mem_nil_iff, or_false, not_or]; omega)) (by first | decide | omega) (by first | decide | omega) (by first | decide | omega)
              have nσ76_11 := hσ76.2.2 11 (by first | decide | (simp; done) | (simp only [List.mem_cons, List.mem_nil_iff, or_false, not_or]; omega)) (by first | decide | omega) (by first | decide | omega) (by first | decide | omega)
              have nσ76_12 := hσ76.2.2 12 (by first | decide | (simp; done) | (simp only [List.mem_cons, List.mem_nil_iff, or_false, not_or]; omega)) (by first | decide | omega) (by first | decide | omega) (by first | decide | omega)
              have nσ76_41 := hσ76.2.2 41 (by first | decide | (simp; done) | (simp only [List.mem_cons, List.mem_nil_iff, or_false, not_or]; omega)) (by first | decide | omega) (by first | decide | omega) (by first | decide | omega)
              have nσ76_42 := hσ76.2.2 42 (by first | decide | (simp; done) | (simp only [List.mem_cons, List.mem_nil_iff, or_false, not_or]; omega)) (by first | decide | omega) (by first | decide | omega) (by first | decide | omega)
              have nσ76_13 := hσ76.2.2 13 (by first | decide | (simp; done) | (simp only [List.mem_cons, List.mem_nil_iff, or_false, not_or]; omega)) (by first | decide | omega) (by first | decide | omega) (by first | decide | omega)
              have nu_σ76 : NU nu nuσ76 := nu_σ71.tr uσ76
              have uσ76_0 := uσ76.1 0 (by decide)
              have uσ76_1 := uσ76.1 1 (by decide)
              have uσ76_2 := uσ76.2
              have uσ76_5 := uσ76.1 5 (by decide)
              have uσ76_15 := uσ76.1 15 (by decide)
              have uσ76_16 := uσ76.1 16 (by decide)
              have kp30 : gI σ76 c3 4 = gI σ75 c3 4 := (cσ76.O (kc3.up (xτ9.trans (xσ59.trans (xσ62.trans (xσ67.trans (xσ70.trans (xσ71.trans (xσ74.trans xσ75)))))))) (by decide)).1
              have kp31 : gI σ76 o 11 = gI σ75 o 11 := (cσ76.O (ko.up (xτ9.trans (xσ59.trans (xσ62.trans (xσ67.trans (xσ70.trans (xσ71.trans (xσ74.trans xσ75)))))))) (by decide)).1
              have kp32 : gI σ76 th 4 = gI σ75 th 4 := (cσ76.O (kth.up (xτ9.trans (xσ59.trans (xσ62.trans (xσ67.trans (xσ70.trans (xσ71.trans (xσ74.trans xσ75)))))))) (by decide)).1
              have kp33 : gP σ76 b 0 = gP σ75 b 0 := (cσ76.O (kk_b.up (xσ59.trans (xσ62.trans (xσ67.trans (xσ70.trans (xσ71.trans (xσ74.trans xσ75))))))) (by decide)).2.1
              have kp34 : gP σ76 c3 0 = gP σ75 c3 0 := (cσ76.O (kc3.up (xτ9.trans (xσ59.trans (xσ62.trans (xσ67.trans (xσ70.trans (xσ71.trans (xσ74.trans xσ75)))))))) (by decide)).2.1
              have kp35 : gP σ76 th 0 = gP σ75 th 0 := (cσ76.O (kth.up (xτ9.trans (xσ59.trans (xσ62.trans (xσ67.trans (xσ70.trans (xσ71.trans (xσ74.trans xσ75)))))))) (by decide)).2.1
              have hLr := hσ76.1 x (kx.up (xτ9.trans (xσ59.trans (xσ62.trans (xσ67.trans (xσ70.trans (xσ71.trans (xσ74.trans xσ75)))))))).1 (by simp) (by omega)
              unfold w_X11_addNearTo_166
              exact ih9 σ76 LLσ76 Nσ76 nuσ76 v6 (gP τ9 b 1) iσ76 fσ76 (xτ9.trans (xσ59.trans (xσ62.trans (xσ67.trans (xσ70.trans (xσ71.trans (xσ74.trans (xσ75.trans xσ76)))))))) nu_σ76 hnσ76 hg_c3_σ76 (by first | exact ⟨A1, B1, ⟨⟨p1, p2⟩, by rw [p4]; assumption, by omega, by omega⟩, by omega⟩ | exact ⟨A, B2, ⟨⟨by rw [hLr, eL9]; exact up1_s _ _ _, nx2⟩, hi9.2.1, by omega, by omega⟩, by omega⟩)
  exact ⟨(LL x).length + 1, Lp9 _ σ LL N nu _ _ iσ fσ (Ext.rfl' _) NU.rf hnσ hf (⟨[], LL x, ⟨⟨by simp, iσ.first kx⟩, rfl, rfl, Nat.le_refl _⟩, Nat.lt_succ_self _⟩)⟩
set_option maxHeartbeats 1000000 in
theorem i1_X11_dropUpTo {σ : Sg} {pl : Nat} {gq ci gr nc : Nat → Nat} {ot : Nat → Nat → Int} {LL : Nat → List Nat} {N nu : Nat → Nat} {th : Nat} {v1 : Option Nat} {v2 : Int64} {G0 : Nat} (iσ : IV σ pl gq ci gr nc ot LL N nu) (kth : kO σ th 11) {x : Nat} (hv1 : v1 = some x) (kx : kO σ x 1) (hq : gq th = 1) (hg : gq x = G0) (hG : G0 = 11 ∨ G0 = 12) {Q : Sg → Unit → Prop} {X : Sg → String → Prop} (hQ : ∀ (σ' : Sg) (LL' : Nat → List Nat) (N' nu' : Nat → Nat) (r : Unit), IV σ' pl gq ci gr nc ot LL' N' nu' → Fx [1, 64, 512, 708] gr σ σ' → NU nu nu' → Hn (gD σ) [G0] [] gq LL LL' N N' → (N' 1 = N 1 ∧ N' G0 ≤ N G0) → Q σ' r) : wp_X11_dropUpTo th v1 v2 σ Q X := by
  have fσ : Fx [1, 64, 512, 708] gr σ σ := Fx.rf
  have hnσ : Hn (gD σ) [G0] [] gq LL LL N N := Hn.rf
  unfold wp_X11_dropUpTo
  unfold w_X11_dropUpTo_0
  refine ⟨x, hv1, fun kk_x => ?_⟩
  have Lp9 : ∀ (fu9 : Nat) (τ9 : Sg) (LLt9 : Nat → List Nat) (Nt9 nut9 : Nat → Nat) (v4 : Option Nat) (v5 : Option Nat), IV τ9 pl gq ci gr nc ot LLt9 Nt9 nut9 → Fx [1, 64, 512, 708] gr σ τ9 → Ext σ τ9 → NU nu nut9 → Hn (gD σ) [G0] [] gq LL LLt9 N Nt9 → (∃ (A B : List Nat), ((LLt9 x = A ++ B ∧ v5 = B.head?) ∧ v4 = A.getLast? ∧ Nt9 1 = N 1 ∧ Nt9 G0 ≤ N G0) ∧ (B.length) < fu9) → wl_X11_dropUpTo_9 th Q X fu9 τ9 v1 v2 v4 v5 := by
    intro fu9
    induction fu9 with
    | zero => intro _ _ _ _ _ _ _ _ _ _ _ h9; obtain ⟨_, _, _, h9⟩ := h9; omega
    | succ fu9 ih9 =>
      intro τ9 LLt9 Nt9 nut9 v4 v5 iτ9 fτ9 xτ9 nu_τ9 hnτ9 hi9
      obtain ⟨A, B, hi9, hm9⟩ := hi9
      have nτ9_3 := hnτ9.2.2 3 (by first | decide | (simp; done) | (simp only [List.mem_cons, List.mem_nil_iff, or_false, not_or]; omega)) (by first | decide | omega) (by first | decide | omega) (by first | decide | omega)
      have nτ9_5 := hnτ9.2.2 5 (by first | decide | (simp; done) | (simp only [List.mem_cons, List.mem_nil_iff, or_false, not_or]; omega)) (by first | decide | omega) (by first | decide | omega) (by first | decide | omega)
      have nτ9_14 := hnτ9.2.2 14 (by first | decide | (simp; done) | (simp only [List.mem_cons, List.mem_nil_iff, or_false, not_or]; omega)) (by first | decide | omega) (by first | decide | omega) (by first | decide | omega)
      have nτ9_44 := hnτ9.2.2 44 (by first | decide | (simp; done) | (simp only [List.mem_cons, List.mem_nil_iff, or_false, not_or]; omega)) (by first | decide | omega) (by first | decide | omega) (by first | decide | omega)
      have nτ9_74 := hnτ9.2.2 74 (by first | decide | (simp; done) | (simp only [List.mem_cons, List.mem_nil_iff, or_false, not_or]; omega)) (by first | decide | omega) (by first | decide | omega) (by first | decide | omega)
      have nτ9_13 := hnτ9.2.2 13 (by first | decide | (simp; done) | (simp only [List.mem_cons, List.mem_nil_iff, or_false, not_or]; omega)) (by first | decide | omega) (by first | decide | omega) (by first | decide | omega)
      have uτ9_0 := nu_τ9.1 0 (by decide)
      have uτ9_1 := nu_τ9.1 1 (by decide)
      have uτ9_2 := nu_τ9.2
      have uτ9_5 := nu_τ9.1 5 (by decide)
      have uτ9_15 := nu_τ9.1 15 (by decide)
      have uτ9_16 := nu_τ9.1 16 (by decide)
      unfold wl_X11_dropUpTo_9
      unfold w_X11_dropUpTo_9
      by_cases hc1 : v5 = none
      · rw [if_pos hc1]
        unfold w_X11_dropUpTo_52
        exact hQ τ9 LLt9 Nt9 nut9 () iτ9 fτ9 (nu_τ9) hnτ9 (by (first | omega | with_reducible assumption | with_reducible exact rng_toInt _ | with_reducible exact rng_wr _ | (unfold rng; omega) | (unfold rng at *; omega) | assumption))
      · rw [if_neg hc1]
        unfold w_X11_dropUpTo_14
        obtain ⟨b, eb⟩ := Option.ne_none_iff_exists'.mp hc1
        obtain ⟨A1, B1, p1, p2, p3, p4⟩ := it_step iτ9 (kx.up xτ9) hi9.1 eb
        obtain ⟨B2, eB⟩ := it_cons hi9.1.2 eb
        have lb2 : B.length = B2.length + 1 := by rw [eB]; rfl
        have nx2 := iτ9.next (kx.up xτ9) (show _ = A ++ b :: B2 by rw [← eB]; exact hi9.1.1)
        refine ⟨b, eb, fun kk_b => ?_⟩
        by_cases hc2 : gJ τ9 b 5 > v2
        · rw [if_pos hc2]
          unfold w_X11_dropUpTo_41
          unfold w_X11_dropUpTo_45
          exact ih9 τ9 LLt9 Nt9 nut9 v5 (gP τ9 b 1) iτ9 fτ9 xτ9 nu_τ9 hnτ9 (by first | exact ⟨A1, B1, ⟨⟨p1, p2⟩, by rw [p4]; assumption, by omega, by omega⟩, by omega⟩ | exact ⟨A, B2, ⟨⟨by rw [hLd]; rw [eB]; rfl, nx2⟩, hi9.2.1, by omega, by omega⟩, by omega⟩)
        · rw [if_neg hc2]
          unfold w_X11_dropUpTo_31
          refine i1_X11_drop (G0 := G0) (A := A) (B := B) iτ9 (kth.up xτ9) hv1 (kx.up xτ9) (by (first | omega | with_reducible assumption | with_reducible exact rng_toInt _ | with_reducible exact rng_wr _ | (unfold rng; omega) | (unfold rng at *; omega) | assumption)) (by (first | omega | with_reducible assumption | with_reducible exact rng_toInt _ | with_reducible exact rng_wr _ | (unfold rng; omega) | (unfold rng at *; omega) | assumption)) (by (first | omega | with_reducible assumption | with_reducible exact rng_toInt _ | with_reducible exact rng_wr _ | (unfold rng; omega) | (unfold rng at *; omega) | assumption)) hi9.1.1 hi9.2.1 (fun σ8 LLσ8 Nσ8 nuσ8 _ iσ8 cσ8 uσ8 hσ8 pσ8 => ?_)
          intro xσ8
          have fσ8 : Fx [1, 64, 512, 708] gr σ σ8 := fτ9.tr (cσ8.mo (by decide))
          have hnσ8 : Hn (gD σ) [G0] [] gq LL LLσ8 N Nσ8 := hnτ9.go hσ8 (fun d hd => (fτ9.1 d hd).1) (by first | decide | exact fun _ h => h | (simp; done) | (intro x hx; simp only [List.mem_cons, List.mem_nil_iff, or_false] at hx ⊢; omega)) (fun d hd => absurd hd (by simp))
          have nσ8_3 := hσ8.2.2 3 (by first | decide | (simp; done) | (simp only [List.mem_cons, List.mem_nil_iff, or_false, not_or]; omega)) (by first | decide | omega) (by first | decide | omega) (by first | decide | omega)
          have nσ8_5 := hσ8.2.2 5 (by first | decide | (simp; done) | (simp only [List.mem_cons, List.mem_nil_iff, or_false, not_or]; omega)) (by first | decide | omega) (by first | decide | omega) (by first | decide | omega)
          have nσ8_14 := hσ8.2.2 14 (by first | decide | (simp; done) | (simp only [List.mem_cons, List.mem_nil_iff, or_false, not_or]; omega)) (by first | decide | omega) (by first | decide | omega) (by first | decide | omega)
          have nσ8_44 := hσ8.2.2 44 (by first | decide | (simp; done) | (simp only [List.mem_cons, List.mem_nil_iff, or_false, not_or]; omega)) (by first | decide | omega) (by first | decide | omega) (by first | decide | omega)
          have nσ8_74 := hσ8.2.2 74 (by first | decide | (simp; done) | (simp only [List.mem_cons, List.mem_nil_iff, or_false, not_or]; omega)) (by first | decide | omega) (by first | decide | omega) (by first | decide | omega)
          have nσ8_13 := hσ8.2.2 13 (by first | decide | (simp; done) | (simp only [List.mem_cons, List.mem_nil_iff, or_false, not_or]; omega)) (by first | decide | omega) (by first | decide | omega) (by first | decide | omega)
          have nu_σ8 : NU nu nuσ8 := nu_τ9.tr uσ8
          have uσ8_0 := uσ8.1 0 (by decide)
          have uσ8_1 := uσ8.1 1 (by decide)
          have uσ8_2 := uσ8.2
          have uσ8_5 := uσ8.1 5 (by decide)
          have uσ8_15 := uσ8.1 15 (by decide)
          have uσ8_16 := uσ8.1 16 (by decide)
          have hLd := pσ8.2.2.1
          unfold w_X11_dropUpTo_45
          exact ih9 σ8 LLσ8 Nσ8 nuσ8 v4 (gP τ9 b 1) iσ8 fσ8 (xτ9.trans xσ8) nu_σ8 hnσ8 (by first | exact ⟨A1, B1, ⟨⟨p1, p2⟩, by rw [p4]; assumption, by omega, by omega⟩, by omega⟩ | exact ⟨A, B2, ⟨⟨by rw [hLd]; rw [eB]; rfl, nx2⟩, hi9.2.1, by omega, by omega⟩, by omega⟩)
  exact ⟨(LL x).length + 1, Lp9 _ σ LL N nu _ _ iσ fσ (Ext.rfl' _) NU.rf hnσ (⟨[], LL x, ⟨⟨by simp, iσ.first kx⟩, rfl, rfl, Nat.le_refl _⟩, Nat.lt_succ_self _⟩)⟩
set_option maxHeartbeats 1000000 in
theorem i_X11_isOutdone {σ : Sg} {pl : Nat} {gq ci gr nc : Nat → Nat} {ot : Nat → Nat → Int} {LL : Nat → List Nat} {N nu : Nat → Nat} {v0 : Option Nat} {v1 : Option Nat} {v2 : Int64} {v4 : Int} (iσ : IV σ pl gq ci gr nc ot LL N nu) {x : Nat} (hv0 : v0 = some x) (kx : kO σ x 1) {c1 : Nat} (hv1 : v1 = some c1) (kc1 : kO σ c1 0) {Q : Sg → Int → Prop} {X : Sg → String → Prop} (hQ : ∀ (r : Int), (r = 0 ∨ r = 1) → Q σ r) : wp_X11_isOutdone v0 v1 v2 v4 σ Q X := by
  unfold wp_X11_isOutdone
  unfold w_X11_isOutdone_0
  refine ⟨x, hv0, fun kk_x => ?_⟩
  have Lp9 : ∀ (fu9 : Nat) (v5 : Int) (v6 : Option Nat), (∃ (A B : List Nat), ((LL x = A ++ B ∧ v6 = B.head?) ∧ (v5 = 0 ∨ v5 = 1)) ∧ (B.length) < fu9) → wl_X11_isOutdone_9 Q X fu9 σ v1 v2 v4 v5 v6 := by
    intro fu9
    induction fu9 with
    | zero => intro _ _ h9; obtain ⟨_, _, _, h9⟩ := h9; omega
    | succ fu9 ih9 =>
      intro v5 v6 hi9
      obtain ⟨A, B, hi9, hm9⟩ := hi9
      unfold wl_X11_isOutdone_9
      unfold w_X11_isOutdone_9
      by_cases hc1 : v6 = none
      · rw [if_pos hc1]
        unfold w_X11_isOutdone_87
        exact hQ 0 (by (first | omega | with_reducible assumption | with_reducible exact rng_toInt _ | with_reducible exact rng_wr _ | (unfold rng; omega) | (unfold rng at *; omega) | assumption))
      · rw [if_neg hc1]
        unfold w_X11_isOutdone_14
        obtain ⟨b, eb⟩ := Option.ne_none_iff_exists'.mp hc1
        refine ⟨b, eb, fun kk_b => ?_⟩
        by_cases hc2 : gJ σ b 5 > v2
        · rw [if_pos hc2]
          unfold w_X11_isOutdone_87
          exact hQ 0 (by (first | omega | with_reducible assumption | with_reducible exact rng_toInt _ | with_reducible exact rng_wr _ | (unfold rng; omega) | (unfold rng at *; omega) | assumption))
        · rw [if_neg hc2]
          unfold w_X11_isOutdone_24
          by_cases hc3 : v6 ≠ v1
          · rw [if_pos hc3]
            unfold w_X11_isOutdone_36
            refine ⟨b, eb, fun kk_b_1 => ?_⟩
            refine ⟨c1, hv1, fun kk_c1 => ?_⟩
            by_cases hc4 : gJ σ b 7 ≠ gJ σ c1 7
            · rw [if_pos hc4]
              unfold w_X11_isOutdone_77
              refine ⟨b, eb, fun kk_b_2 => ?_⟩
              exact ih9 v5 (gP σ b 1) (by obtain ⟨A1, B1, p1, p2, p3, p4⟩ := it_step iσ kx hi9.1 eb; exact ⟨A1, B1, ⟨⟨p1, p2⟩, by omega⟩, by omega⟩)
            · rw [if_neg hc4]
              have hc4q := Classical.not_not.mp hc4
              unfold w_X11_isOutdone_49
              refine i_X1_compare iσ eb kk_b hv1 kc1 (fun r14 pσ13 => ?_)
              intro xσ13
              by_cases hc5 : r14 > 0
              · rw [if_pos hc5]
                unfold w_X11_isOutdone_75
                exact hQ 1 (by (first | omega | with_reducible assumption | with_reducible exact rng_toInt _ | with_reducible exact rng_wr _ | (unfold rng; omega) | (unfold rng at *; omega) | assumption))
              · rw [if_neg hc5]
                unfold w_X11_isOutdone_65
                by_cases hc6 : r14 ≠ 0
                · rw [if_pos hc6]
                  unfold w_X11_isOutdone_77
                  refine ⟨b, eb, fun kk_b_3 => ?_⟩
                  exact ih9 v5 (gP σ b 1) (by obtain ⟨A1, B1, p1, p2, p3, p4⟩ := it_step iσ kx hi9.1 eb; exact ⟨A1, B1, ⟨⟨p1, p2⟩, by omega⟩, by omega⟩)
                · rw [if_neg hc6]
                  have hc6q := Classical.not_not.mp hc6
                  unfold w_X11_isOutdone_70
                  by_cases hc7 : v5 ≠ 0
                  · rw [if_pos hc7]
                    unfold w_X11_isOutdone_77
                    refine ⟨b, eb, fun kk_b_4 => ?_⟩
                    exact ih9 v5 (gP σ b 1) (by obtain ⟨A1, B1, p1, p2, p3, p4⟩ := it_step iσ kx hi9.1 eb; exact ⟨A1, B1, ⟨⟨p1, p2⟩, by omega⟩, by omega⟩)
                  · rw [if_neg hc7]
                    have hc7q := Classical.not_not.mp hc7
                    unfold w_X11_isOutdone_75
                    exact hQ 1 (by (first | omega | with_reducible assumption | with_reducible exact rng_toInt _ | with_reducible exact rng_wr _ | (unfold rng; omega) | (unfold rng at *; omega) | assumption))
          · rw [if_neg hc3]
            have hc3q := Classical.not_not.mp hc3
            unfold w_X11_isOutdone_30
            unfold w_X11_isOutdone_77
            refine ⟨b, eb, fun kk_b_5 => ?_⟩
            exact ih9 1 (gP σ b 1) (by obtain ⟨A1, B1, p1, p2, p3, p4⟩ := it_step iσ kx hi9.1 eb; exact ⟨A1, B1, ⟨⟨p1, p2⟩, by omega⟩, by omega⟩)
  exact ⟨(LL x).length + 1, Lp9 _ _ _ (⟨[], LL x, ⟨⟨by simp, iσ.first kx⟩, by omega⟩, Nat.lt_succ_self _⟩)⟩
set_option maxHeartbeats 1000000 in
theorem i1_X11_dropOutdone {σ : Sg} {pl : Nat} {gq ci gr nc : Nat → Nat} {ot : Nat → Nat → Int} {LL : Nat → List Nat} {N nu : Nat → Nat} {th : Nat} {v1 : Option Nat} {v2 : Int64} {v4 : Int} {G0 : Nat} (iσ : IV σ pl gq ci gr nc ot LL N nu) (kth : kO σ th 11) {x : Nat} (hv1 : v1 = some x) (kx : kO σ x 1) (hq : gq th = 1) (hg : gq x = G0) (hG : G0 = 11 ∨ G0 = 12) {Q : Sg → Unit → Prop} {X : Sg → String → Prop} (hQ : ∀ (σ' : Sg) (LL' : Nat → List Nat) (N' nu' : Nat → Nat) (r : Unit), IV σ' pl gq ci gr nc ot LL' N' nu' → Fx [1, 64, 512, 708] gr σ σ' → NU nu nu' → Hn (gD σ) [G0] [] gq LL LL' N N' → (N' 1 = N 1 ∧ N' G0 ≤ N G0) → Q σ' r) : wp_X11_dropOutdone th v1 v2 v4 σ Q X := by
  have fσ : Fx [1, 64, 512, 708] gr σ σ := Fx.rf
  have hnσ : Hn (gD σ) [G0] [] gq LL LL N N := Hn.rf
  unfold wp_X11_dropOutdone
  unfold w_X11_dropOutdone_0
  refine ⟨x, hv1, fun kk_x => ?_⟩
  have Lp9 : ∀ (fu9 : Nat) (τ9 : Sg) (LLt9 : Nat → List Nat) (Nt9 nut9 : Nat → Nat) (v5 : Option Nat) (v6 : Option Nat), IV τ9 pl gq ci gr nc ot LLt9 Nt9 nut9 → Fx [1, 64, 512, 708] gr σ τ9 → Ext σ τ9 → NU nu nut9 → Hn (gD σ) [G0] [] gq LL LLt9 N Nt9 → (∃ (A B : List Nat), ((LLt9 x = A ++ B ∧ v6 = B.head?) ∧ v5 = A.getLast? ∧ Nt9 1 = N 1 ∧ Nt9 G0 ≤ N G0) ∧ (B.length) < fu9) → wl_X11_dropOutdone_9 th Q X fu9 τ9 v1 v2 v4 v5 v6 := by
    intro fu9
    induction fu9 with
    | zero => intro _ _ _ _ _ _ _ _ _ _ _ h9; obtain ⟨_, _, _, h9⟩ := h9; omega
    | succ fu9 ih9 =>
      intro τ9 LLt9 Nt9 nut9 v5 v6 iτ9 fτ9 xτ9 nu_τ9 hnτ9 hi9
      obtain ⟨A, B, hi9, hm9⟩ := hi9
      have nτ9_3 := hnτ9.2.2 3 (by first | decide | (simp; done) | (simp only [List.mem_cons, List.mem_nil_iff, or_false, not_or]; omega)) (by first | decide | omega) (by first | decide | omega) (by first | decide | omega)
      have nτ9_5 := hnτ9.2.2 5 (by first | decide | (simp; done) | (simp only [List.mem_cons, List.mem_nil_iff, or_false, not_or]; omega)) (by first | decide | omega) (by first | decide | omega) (by first | decide | omega)
      have nτ9_14 := hnτ9.2.2 14 (by first | decide | (simp; done) | (simp only [List.mem_cons, List.mem_nil_iff, or_false, not_or]; omega)) (by first | decide | omega) (by first | decide | omega) (by first | decide | omega)
      have nτ9_44 := hnτ9.2.2 44 (by first | decide | (simp; done) | (simp only [List.mem_cons, List.mem_nil_iff, or_false, not_or]; omega)) (by first | decide | omega) (by first | decide | omega) (by first | decide | omega)
      have nτ9_74 := hnτ9.2.2 74 (by first | decide | (simp; done) | (simp only [List.mem_cons, List.mem_nil_iff, or_false, not_or]; omega)) (by first | decide | omega) (by first | decide | omega) (by first | decide | omega)
      have nτ9_13 := hnτ9.2.2 13 (by first | decide | (simp; done) | (simp only [List.mem_cons, List.mem_nil_iff, or_false, not_or]; omega)) (by first | decide | omega) (by first | decide | omega) (by first | decide | omega)
      have uτ9_0 := nu_τ9.1 0 (by decide)
      have uτ9_1 := nu_τ9.1 1 (by decide)
      have uτ9_2 := nu_τ9.2
      have uτ9_5 := nu_τ9.1 5 (by decide)
      have uτ9_15 := nu_τ9.1 15 (by decide)
      have uτ9_16 := nu_τ9.1 16 (by decide)
      unfold wl_X11_dropOutdone_9
      unfold w_X11_dropOutdone_9
      by_cases hc1 : v6 = none
      · rw [if_pos hc1]
        unfold w_X11_dropOutdone_64
        exact hQ τ9 LLt9 Nt9 nut9 () iτ9 fτ9 (nu_τ9) hnτ9 (by (first | omega | with_reducible assumption | with_reducible exact rng_toInt _ | with_reducible exact rng_wr _ | (unfold rng; omega) | (unfold rng at *; omega) | assumption))
      · rw [if_neg hc1]
        unfold w_X11_dropOutdone_14
        obtain ⟨b, eb⟩ := Option.ne_none_iff_exists'.mp hc1
        obtain ⟨A1, B1, p1, p2, p3, p4⟩ := it_step iτ9 (kx.up xτ9) hi9.1 eb
        obtain ⟨B2, eB⟩ := it_cons hi9.1.2 eb
        have lb2 : B.length = B2.length + 1 := by rw [eB]; rfl
        have nx2 := iτ9.next (kx.up xτ9) (show _ = A ++ b :: B2 by rw [← eB]; exact hi9.1.1)
        refine ⟨b, eb, fun kk_b => ?_⟩
        by_cases hc2 : gJ τ9 b 5 > v2
        · rw [if_pos hc2]
          unfold w_X11_dropOutdone_64
          exact hQ τ9 LLt9 Nt9 nut9 () iτ9 fτ9 (nu_τ9) hnτ9 (by (first | omega | with_reducible assumption | with_reducible exact rng_toInt _ | with_reducible exact rng_wr _ | (unfold rng; omega) | (unfold rng at *; omega) | assumption))
        · rw [if_neg hc2]
          unfold w_X11_dropOutdone_24
          refine ⟨b, eb, fun kk_b_1 => ?_⟩
          refine i_X11_isOutdone iτ9 hv1 (kx.up xτ9) eb kk_b (fun r16 pσ15 => ?_)
          intro xσ15
          by_cases hc3 : r16 = 0
          · rw [if_pos hc3]
            unfold w_X11_dropOutdone_53
            unfold w_X11_dropOutdone_57
            exact ih9 τ9 LLt9 Nt9 nut9 v6 (gP τ9 b 1) iτ9 fτ9 xτ9 nu_τ9 hnτ9 (by first | exact ⟨A1, B1, ⟨⟨p1, p2⟩, by rw [p4]; assumption, by omega, by omega⟩, by omega⟩ | exact ⟨A, B2, ⟨⟨by rw [hLd]; rw [eB]; rfl, nx2⟩, hi9.2.1, by omega, by omega⟩, by omega⟩)
          · rw [if_neg hc3]
            unfold w_X11_dropOutdone_43
            refine i1_X11_drop (G0 := G0) (A := A) (B := B) iτ9 (kth.up xτ9) hv1 (kx.up xτ9) (by (first | omega | with_reducible assumption | with_reducible exact rng_toInt _ | with_reducible exact rng_wr _ | (unfold rng; omega) | (unfold rng at *; omega) | assumption)) (by (first | omega | with_reducible assumption | with_reducible exact rng_toInt _ | with_reducible exact rng_wr _ | (unfold rng; omega) | (unfold rng at *; omega) | assumption)) (by (first | omega | with_reducible assumption | with_reducible exact rng_toInt _ | with_reducible exact rng_wr _ | (unfold rng; omega) | (unfold rng at *; omega) | assumption)) hi9.1.1 hi9.2.1 (fun σ17 LLσ17 Nσ17 nuσ17 _ iσ17 cσ17 uσ17 hσ17 pσ17 => ?_)
            intro xσ17
            have fσ17 : Fx [1, 64, 512, 708] gr σ σ17 := fτ9.tr (cσ17.mo (by decide))
            have hnσ17 : Hn (gD σ) [G0] [] gq LL LLσ17 N Nσ17 := hnτ9.go hσ17 (fun d hd => (fτ9.1 d hd).1) (by first | decide | exact fun _ h => h | (simp; done) | (intro x hx; simp only [List.mem_cons, List.mem_nil_iff, or_false] at hx ⊢; omega)) (fun d hd => absurd hd (by simp))
            have nσ17_3 := hσ17.2.2 3 (by first | decide | (simp; done) | (simp only [List.mem_cons, List.mem_nil_iff, or_false, not_or]; omega)) (by first | decide | omega) (by first | decide | omega) (by first | decide | omega)
            have nσ17_5 := hσ17.2.2 5 (by first | decide | (simp; done) | (simp only [List.mem_cons, List.mem_nil_iff, or_false, not_or]; omega)) (by first | decide | omega) (by first | decide | omega) (by first | decide | omega)
            have nσ17_14 := hσ17.2.2 14 (by first | decide | (simp; done) | (simp only [List.mem_cons, List.mem_nil_iff, or_false, not_or]; omega)) (by first | decide | omega) (by first | decide | omega) (by first | decide | omega)
            have nσ17_44 := hσ17.2.2 44 (by first | decide | (simp; done) | (simp only [List.mem_cons, List.mem_nil_iff, or_false, not_or]; omega)) (by first | decide | omega) (by first | decide | omega) (by first | decide | omega)
            have nσ17_74 := hσ17.2.2 74 (by first | decide | (simp; done) | (simp only [List.mem_cons, List.mem_nil_iff, or_false, not_or]; omega)) (by first | decide | omega) (by first | decide | omega) (by first | decide | omega)
            have nσ17_13 := hσ17.2.2 13 (by first | decide | (simp; done) | (simp only [List.mem_cons, List.mem_nil_iff, or_false, not_or]; omega)) (by first | decide | omega) (by first | decide | omega) (by first | decide | omega)
            have nu_σ17 : NU nu nuσ17 := nu_τ9.tr uσ17
            have uσ17_0 := uσ17.1 0 (by decide)
            have uσ17_1 := uσ17.1 1 (by decide)
            have uσ17_2 := uσ17.2
            have uσ17_5 := uσ17.1 5 (by decide)
            have uσ17_15 := uσ17.1 15 (by decide)
            have uσ17_16 := uσ17.1 16 (by decide)
            have hLd := pσ17.2.2.1
            unfold w_X11_dropOutdone_57
            exact ih9 σ17 LLσ17 Nσ17 nuσ17 v5 (gP τ9 b 1) iσ17 fσ17 (xτ9.trans xσ17) nu_σ17 hnσ17 (by first | exact ⟨A1, B1, ⟨⟨p1, p2⟩, by rw [p4]; assumption, by omega, by omega⟩, by omega⟩ | exact ⟨A, B2, ⟨⟨by rw [hLd]; rw [eB]; rfl, nx2⟩, hi9.2.1, by omega, by omega⟩, by omega⟩)
  exact ⟨(LL x).length + 1, Lp9 _ σ LL N nu _ _ iσ fσ (Ext.rfl' _) NU.rf hnσ (⟨[], LL x, ⟨⟨by simp, iσ.first kx⟩, rfl, rfl, Nat.le_refl _⟩, Nat.lt_succ_self _⟩)⟩
set_option maxHeartbeats 1000000 in
theorem i1_X11_foldRow {σ : Sg} {pl : Nat} {gq ci gr nc : Nat → Nat} {ot : Nat → Nat → Int} {LL : Nat → List Nat} {N nu : Nat → Nat} {th : Nat} {v1 : Option Nat} {v2 : Option Nat} {v3 : Option Nat} {i : Nat} (iσ : IV σ pl gq ci gr nc ot LL N nu) (kth : kO σ th 11) {o : Nat} (hv1 : v1 = some o) (ko : kO σ o 5) {t : Nat} (hv2 : v2 = some t) (kt : kO σ t 10) {c : Nat} (hv3 : v3 = some c) (kc : kO σ c 0) (hq : gq th = 1) (hf : ∀ x, c ∉ LL x) (h1 : 1 ≤ N 1) (ho : gq o = 16 * nc 0 + i) (hi : i < nc 1) (hk : ot i 6 = 4 ∨ ot i 6 = 5) (ht : gq t = 1) (hl : ci t < nu 15) (hto : gI σ t 0 = (i : Int)) (h5 : nu 5 < 24000) (hb : N 14 + N 44 + N 74 + N 1 ≤ 40900) (hs : -(N 3 : Int) + 6000 ≤ (gJ σ c 5).toInt ∧ (gJ σ c 5).toInt + 6000 ≤ (N 3 : Int)) {Q : Sg → Unit → Prop} {X : Sg → String → Prop} (hQ : ∀ (σ' : Sg) (LL' : Nat → List Nat) (N' nu' : Nat → Nat) (r : Unit), IV σ' pl gq ci gr nc ot LL' N' nu' → Fx [1, 2, 3, 4, 5, 6, 7, 64, 512, 513, 514, 708, 6464] gr σ σ' → NU nu nu' → Hn (gD σ) [11] [c] gq LL LL' N N' → (N' 1 + 1 = N 1) → Q σ' r) (hX : ∀ (σ' : Sg) (LL' : Nat → List Nat) (N' nu' : Nat → Nat) (E : String), IV σ' pl gq ci gr nc ot LL' N' nu' → Fx [1, 2, 3, 4, 5, 6, 7, 64, 512, 513, 514, 708, 6464] gr σ σ' → NX nu nu' → ((N' 1 ≤ N 1 + 2 ∧ N' 5 = N 5 ∧ N' 3 = N 3 ∧ N' 44 = N 44 ∧ N' 74 = N 74) ∧ NZ N N' ∧ E = "java/lang/IllegalStateException") → X σ' E) : wp_X11_foldRow th v1 v2 v3 σ Q X := by
  have fσ : Fx [1, 2, 3, 4, 5, 6, 7, 64, 512, 513, 514, 708, 6464] gr σ σ := Fx.rf
  have hnσ : Hn (gD σ) [11] [c] gq LL LL N N := Hn.rf
  have lo_c : Lo [c] (gD σ) LL c := Or.inl (by simp)
  have q1 := I_10_0 iσ.1 kt
  have m3 := iσ.m3
  unfold wp_X11_foldRow
  unfold w_X11_foldRow_0
  refine ⟨c, hv3, fun kk_c => ?_⟩
  refine ⟨o, hv1, fun kk_o => ?_⟩
  obtain ⟨b, eb, fb⟩ := P_0_0 iσ.1 kc
  have mb : kO σ b 101 := iσ.1.kd kc rfl eb rfl
  refine ⟨b, eb, fun kk_b => ?_⟩
  have q2 := I_5_13 iσ.1 ko
  refine ⟨⟨by (first | omega | with_reducible assumption | with_reducible exact rng_toInt _ | with_reducible exact rng_wr _ | (unfold rng; omega) | (unfold rng at *; omega) | assumption), by (first | omega | with_reducible assumption | with_reducible exact rng_toInt _ | with_reducible exact rng_wr _ | (unfold rng; omega) | (unfold rng at *; omega) | assumption)⟩, ?_⟩
  intro σ40 eσ40
  have xσ40 : Ext σ σ40 := by rw [eσ40]; exact fun _ h => ⟨h, rfl, rfl⟩
  have iσ40 : IV σ40 pl gq ci gr nc ot LL N nu := by rw [eσ40]; exact iσ.wJ kc (by decide)
  have fσ40 : Fx [1, 2, 3, 4, 5, 6, 7, 64, 512, 513, 514, 708, 6464] gr σ σ40 := fσ.tr (Sk.fx (by rw [eσ40]; exact Sk.pJ (by rw [fcdO kc (by decide)]; decide)))
  have kp3 : gI σ40 o 13 = gI σ o 13 := by rw [eσ40]
  have kp4 : gI σ40 t 0 = gI σ t 0 := by rw [eσ40]
  have kp5 : gP σ40 c 0 = gP σ c 0 := by rw [eσ40]
  have kp6 : gI σ40 th 4 = gI σ th 4 := by rw [eσ40]
  have kp7 : gJ σ40 c 5 = gJ σ c 5 := by rw [eσ40]; exact up2_n _ _ (fun q => absurd q.2 (by decide))
  have q9 := I_5_6 iσ40.1 (ko.up xσ40)
  by_cases hc8 : gI σ40 o 6 ≠ 5
  · rw [if_pos hc8]
    unfold w_X11_foldRow_73
    refine ⟨o, hv1, fun kk_o_1 => ?_⟩
    have q10 := I_5_12 iσ40.1 (ko.up xσ40)
    refine i_J9_max_7cf53 iσ40 (fun r55 pσ54 => ?_)
    intro xσ54
    refine ⟨c, hv3, fun kk_c_1 => ?_⟩
    refine i_J9_floorDiv_f86c9 iσ40 (of_ne0 (by omega)) (fun r58 pσ57 => ?_)
    intro xσ57
    have q11 := I_5_11 iσ40.1 (ko.up xσ40)
    refine i_J9_floorDiv_f86c9 iσ40 (of_ne0 (by omega)) (fun r60 pσ59 => ?_)
    intro xσ59
    have qa := I_5_11 iσ40.1 (ko.up xσ40)
    have qb := I_5_12 iσ40.1 (ko.up xσ40)
    have et1 : (gJ σ40 c 5).toInt = (gJ σ c 5).toInt := congrArg Int64.toInt (by assumption)
    obtain ⟨t0, et0⟩ : ∃ t0 : Int, t0 = (gJ σ40 c 5).toInt := ⟨_, rfl⟩
    have f58 := fdm (x := gJ σ40 c 5) (s := r55) (by omega) (by omega) pσ57
    have ex9 : (gJ σ40 c 5 - Int64.ofInt (gI σ40 o 11)).toInt = t0 - gI σ40 o 11 := by rw [sb_int (by omega) (by rw [of_int (by omega)]; omega), of_int (by omega), et0]
    have f60 := fdm (x := gJ σ40 c 5 - Int64.ofInt (gI σ40 o 11)) (s := r55) (by omega) (by omega) pσ59
    have e10 : ((r60 * Int64.ofInt r55) + Int64.ofInt r55).toInt = (r60 * Int64.ofInt r55).toInt + r55 := by rw [ad_int (by omega) (by rw [of_int (by omega)]; omega), of_int (by omega)]
    have Lp125 : ∀ (fu125 : Nat) (τ125 : Sg) (LLt125 : Nat → List Nat) (Nt125 nut125 : Nat → Nat) (v10 : Int64), IV τ125 pl gq ci gr nc ot LLt125 Nt125 nut125 → Fx [1, 2, 3, 4, 5, 6, 7, 64, 512, 513, 514, 708, 6464] gr σ τ125 → Ext σ40 τ125 → NU nu nut125 → Hn (gD σ) [11] [c] gq LL LLt125 N Nt125 → (∀ x, c ∉ LLt125 x) → (Nt125 1 = N 1 ∧ (t0 - 5000 ≤ v10.toInt ∧ v10.toInt ≤ t0 + 3000)) → ((t0 + 3000 - v10.toInt).toNat) < fu125 → wl_X11_foldRow_125 th Q X fu125 τ125 v1 v2 v3 (Int64.ofInt r55) (r58 * (Int64.ofInt r55)) v10 := by
      intro fu125
      induction fu125 with
      | zero => intro _ _ _ _ _ _ _ _ _ _ _ _ h9; omega
      | succ fu125 ih125 =>
        intro τ125 LLt125 Nt125 nut125 v10 iτ125 fτ125 xτ125 nu_τ125 hnτ125 hg_c_τ125 hi125 hm125
        have nτ125_3 := hnτ125.2.2 3 (by first | decide | (simp; done) | (simp only [List.mem_cons, List.mem_nil_iff, or_false, not_or]; omega)) (by first | decide | omega) (by first | decide | omega) (by first | decide | omega)
        have nτ125_5 := hnτ125.2.2 5 (by first | decide | (simp; done) | (simp only [List.mem_cons, List.mem_nil_iff, or_false, not_or]; omega)) (by first | decide | omega) (by first | decide | omega) (by first | decide | omega)
        have nτ125_14 := hnτ125.2.2 14 (by first | decide | (simp; done) | (simp only [List.mem_cons, List.mem_nil_iff, or_false, not_or]; omega)) (by first | decide | omega) (by first | decide | omega) (by first | decide | omega)
        have nτ125_44 := hnτ125.2.2 44 (by first | decide | (simp; done) | (simp only [List.mem_cons, List.mem_nil_iff, or_false, not_or]; omega)) (by first | decide | omega) (by first | decide | omega) (by first | decide | omega)
        have nτ125_74 := hnτ125.2.2 74 (by first | decide | (simp; done) | (simp only [List.mem_cons, List.mem_nil_iff, or_false, not_or]; omega)) (by first | decide | omega) (by first | decide | omega) (by first | decide | omega)
        have nτ125_12 := hnτ125.2.2 12 (by first | decide | (simp; done) | (simp only [List.mem_cons, List.mem_nil_iff, or_false, not_or]; omega)) (by first | decide | omega) (by first | decide | omega) (by first | decide | omega)
        have nτ125_41 := hnτ125.2.2 41 (by first | decide | (simp; done) | (simp only [List.mem_cons, List.mem_nil_iff, or_false, not_or]; omega)) (by first | decide | omega) (by first | decide | omega) (by first | decide | omega)
        have nτ125_42 := hnτ125.2.2 42 (by first | decide | (simp; done) | (simp only [List.mem_cons, List.mem_nil_iff, or_false, not_or]; omega)) (by first | decide | omega) (by first | decide | omega) (by first | decide | omega)
        have nτ125_13 := hnτ125.2.2 13 (by first | decide | (simp; done) | (simp only [List.mem_cons, List.mem_nil_iff, or_false, not_or]; omega)) (by first | decide | omega) (by first | decide | omega) (by first | decide | omega)
        have uτ125_0 := nu_τ125.1 0 (by decide)
        have uτ125_1 := nu_τ125.1 1 (by decide)
        have uτ125_2 := nu_τ125.2
        have uτ125_5 := nu_τ125.1 5 (by decide)
        have uτ125_15 := nu_τ125.1 15 (by decide)
        have uτ125_16 := nu_τ125.1 16 (by decide)
        unfold wl_X11_foldRow_125
        have kp12 : gI τ125 o 13 = gI σ o 13 := (fτ125.O ko (by decide)).1
        have kp13 : gI τ125 t 0 = gI σ t 0 := (fτ125.O kt (by decide)).1
        have kp14 : gP τ125 c 0 = gP σ c 0 := (fτ125.O kc (by decide)).2.1
        have kp15 : gI τ125 o 11 = gI σ40 o 11 := (fτ125.O ko (by decide)).1.trans (fσ40.O ko (by decide)).1.symm
        have kp16 : gI τ125 o 12 = gI σ40 o 12 := (fτ125.O ko (by decide)).1.trans (fσ40.O ko (by decide)).1.symm
        have kp17 : gI τ125 o 13 = gI σ40 o 13 := (fτ125.O ko (by decide)).1.trans (fσ40.O ko (by decide)).1.symm
        have kp18 : gI τ125 o 6 = gI σ40 o 6 := (fτ125.O ko (by decide)).1.trans (fσ40.O ko (by decide)).1.symm
        have kp19 : gI τ125 t 0 = gI σ40 t 0 := (fτ125.O kt (by decide)).1.trans (fσ40.O kt (by decide)).1.symm
        unfold w_X11_foldRow_125
        by_cases hc20 : v10 > (r58 * (Int64.ofInt r55))
        · rw [if_pos hc20]
          unfold w_X11_foldRow_189
          obtain ⟨b_1, eb_1⟩ := P_11_0 iτ125.1 (kth.up (xσ40.trans xτ125))
          refine ⟨b_1, eb_1, fun kk_b_1 => ?_⟩
          refine i_X8_release iτ125 kk_b_1 hv3 (kc.up (xσ40.trans xτ125)) (by (first | omega | with_reducible assumption | with_reducible exact rng_toInt _ | with_reducible exact rng_wr _ | (unfold rng; omega) | (unfold rng at *; omega) | assumption)) (by (first | omega | with_reducible assumption | with_reducible exact rng_toInt _ | with_reducible exact rng_wr _ | (unfold rng; omega) | (unfold rng at *; omega) | assumption)) (fun σ51 LLσ51 Nσ51 nuσ51 _ iσ51 cσ51 uσ51 hσ51 pσ51 => ?_)
          intro xσ51
          have fσ51 : Fx [1, 2, 3, 4, 5, 6, 7, 64, 512, 513, 514, 708, 6464] gr σ σ51 := fτ125.tr (cσ51.mo (by decide))
          have hnσ51 : Hn (gD σ) [11] [c] gq LL LLσ51 N Nσ51 := hnτ125.go hσ51 (fun d hd => (fτ125.1 d hd).1) (by first | decide | exact fun _ h => h | (simp; done) | (intro x hx; simp only [List.mem_cons, List.mem_nil_iff, or_false] at hx ⊢; omega)) (fun d hd => by rw [List.mem_singleton.mp hd]; exact lo_c)
          have nσ51_3 := hσ51.2.2 3 (by first | decide | (simp; done) | (simp only [List.mem_cons, List.mem_nil_iff, or_false, not_or]; omega)) (by first | decide | omega) (by first | decide | omega) (by first | decide | omega)
          have nσ51_5 := hσ51.2.2 5 (by first | decide | (simp; done) | (simp only [List.mem_cons, List.mem_nil_iff, or_false, not_or]; omega)) (by first | decide | omega) (by first | decide | omega) (by first | decide | omega)
          have nσ51_14 := hσ51.2.2 14 (by first | decide | (simp; done) | (simp only [List.mem_cons, List.mem_nil_iff, or_false, not_or]; omega)) (by first | decide | omega) (by first | decide | omega) (by first | decide | omega)
          have nσ51_44 := hσ51.2.2 44 (by first | decide | (simp; done) | (simp only [List.mem_cons, List.mem_nil_iff, or_false, not_or]; omega)) (by first | decide | omega) (by first | decide | omega) (by first | decide | omega)
          have nσ51_74 := hσ51.2.2 74 (by first | decide | (simp; done) | (simp only [List.mem_cons, List.mem_nil_iff, or_false, not_or]; omega)) (by first | decide | omega) (by first | decide | omega) (by first | decide | omega)
          have nσ51_11 := hσ51.2.2 11 (by first | decide | (simp; done) | (simp only [List.mem_cons, List.mem_nil_iff, or_false, not_or]; omega)) (by first | decide | omega) (by first | decide | omega) (by first | decide | omega)
          have nσ51_12 := hσ51.2.2 12 (by first | decide | (simp; done) | (simp only [List.mem_cons, List.mem_nil_iff, or_false, not_or]; omega)) (by first | decide | omega) (by first | decide | omega) (by first | decide | omega)
          have nσ51_41 := hσ51.2.2 41 (by first | decide | (simp; done) | (simp only [List.mem_cons, List.mem_nil_iff, or_false, not_or]; omega)) (by first | decide | omega) (by first | decide | omega) (by first | decide | omega)
          have nσ51_42 := hσ51.2.2 42 (by first | decide | (simp; done) | (simp only [List.mem_cons, List.mem_nil_iff, or_false, not_or]; omega)) (by first | decide | omega) (by first | decide | omega) (by first | decide | omega)
          have nσ51_13 := hσ51.2.2 13 (by first | decide | (simp; done) | (simp only [List.mem_cons, List.mem_nil_iff, or_false, not_or]; omega)) (by first | decide | omega) (by first | decide | omega) (by first | decide | omega)
          have nu_σ51 : NU nu nuσ51 := nu_τ125.tr uσ51
          have uσ51_0 := uσ51.1 0 (by decide)
          have uσ51_1 := uσ51.1 1 (by decide)
          have uσ51_2 := uσ51.2
          have uσ51_5 := uσ51.1 5 (by decide)
          have uσ51_15 := uσ51.1 15 (by decide)
          have uσ51_16 := uσ51.1 16 (by decide)
          have kp21 : gI σ51 o 11 = gI τ125 o 11 := (cσ51.O (ko.up (xσ40.trans xτ125)) (by decide)).1
          have kp22 : gI σ51 o 12 = gI τ125 o 12 := (cσ51.O (ko.up (xσ40.trans xτ125)) (by decide)).1
          have kp23 : gI σ51 o 13 = gI τ125 o 13 := (cσ51.O (ko.up (xσ40.trans xτ125)) (by decide)).1
          have kp24 : gI σ51 o 6 = gI τ125 o 6 := (cσ51.O (ko.up (xσ40.trans xτ125)) (by decide)).1
          have kp25 : gI σ51 t 0 = gI τ125 t 0 := (cσ51.O (kt.up (xσ40.trans xτ125)) (by decide)).1
          have kp26 : gP σ51 c 0 = gP τ125 c 0 := (cσ51.O (kc.up (xσ40.trans xτ125)) (by decide)).2.1
          have kp27 : gP σ51 th 0 = gP τ125 th 0 := (cσ51.O (kth.up (xσ40.trans xτ125)) (by decide)).2.1
          have kp28 : gI σ51 th 4 = gI τ125 th 4 := (cσ51.O (kth.up (xσ40.trans xτ125)) (by decide)).1
          have kp29 : gJ σ51 c 5 = gJ τ125 c 5 := (cσ51.O (kc.up (xσ40.trans xτ125)) (by decide)).2.2
          exact hQ σ51 LLσ51 Nσ51 nuσ51 () iσ51 fσ51 (nu_σ51) hnσ51 (by (first | omega | with_reducible assumption | with_reducible exact rng_toInt _ | with_reducible exact rng_wr _ | (unfold rng; omega) | (unfold rng at *; omega) | assumption))
        · rw [if_neg hc20]
          unfold w_X11_foldRow_133
          have hle : v10.toInt ≤ (r58 * Int64.ofInt r55).toInt := Int64.le_iff_toInt_le.mp (Int64.not_lt.mp (by assumption))
          have q11 := I_5_11 iτ125.1 (ko.up (xσ40.trans xτ125))
          refine ⟨o, hv1, fun kk_o_2 => ?_⟩
          refine ⟨t, hv2, fun kk_t => ?_⟩
          obtain ⟨b_2, eb_2, fb_2⟩ := P_10_2 iτ125.1 (kt.up (xσ40.trans xτ125))
          have mb_2 : kO τ125 b_2 1 := iτ125.1.kd (kt.up (xσ40.trans xτ125)) rfl eb_2 rfl
          refine i1_X11_addToSpan iτ125 (kth.up (xσ40.trans xτ125)) hv1 (ko.up (xσ40.trans xτ125)) eb_2 mb_2 hv3 (kc.up (xσ40.trans xτ125)) (by (first | omega | with_reducible assumption | with_reducible exact rng_toInt _ | with_reducible exact rng_wr _ | (unfold rng; omega) | (unfold rng at *; omega) | assumption)) (by (first | omega | with_reducible assumption | with_reducible exact rng_toInt _ | with_reducible exact rng_wr _ | (unfold rng; omega) | (unfold rng at *; omega) | assumption)) (fun σ63 nuσ63 r64 iσ63 cσ63 uσ63 pσ63 => ?_) (fun σx LLx Nx nux E ix cx ux px => hX σx LLx Nx nux E ix (fτ125.tr (cx.mo (by decide))) (nu_τ125.x ux) (by first | exact px | exact ⟨by have := px.1; omega, (Hn.nz hnτ125 (by first | decide | (intro x hx; simp only [List.mem_cons, List.mem_nil_iff, or_false] at hx; omega))).tr px.2.1, px.2.2⟩ | (first | omega | with_reducible assumption | with_reducible exact rng_toInt _ | with_reducible exact rng_wr _ | (unfold rng; omega) | (unfold rng at *; omega) | assumption)))
          intro xσ63
          have fσ63 : Fx [1, 2, 3, 4, 5, 6, 7, 64, 512, 513, 514, 708, 6464] gr σ σ63 := fτ125.tr (cσ63.mo (by decide))
          have nu_σ63 : NU nu nuσ63 := nu_τ125.tr uσ63
          have uσ63_0 := uσ63.1 0 (by decide)
          have uσ63_1 := uσ63.1 1 (by decide)
          have uσ63_2 := uσ63.2
          have uσ63_5 := uσ63.1 5 (by decide)
          have uσ63_15 := uσ63.1 15 (by decide)
          have uσ63_16 := uσ63.1 16 (by decide)
          have kp30 : gI σ63 o 11 = gI τ125 o 11 := (cσ63.O (ko.up (xσ40.trans xτ125)) (by decide)).1
          have kp31 : gI σ63 o 12 = gI τ125 o 12 := (cσ63.O (ko.up (xσ40.trans xτ125)) (by decide)).1
          have kp32 : gI σ63 o 13 = gI τ125 o 13 := (cσ63.O (ko.up (xσ40.trans xτ125)) (by decide)).1
          have kp33 : gI σ63 o 6 = gI τ125 o 6 := (cσ63.O (ko.up (xσ40.trans xτ125)) (by decide)).1
          have kp34 : gI σ63 t 0 = gI τ125 t 0 := (cσ63.O (kt.up (xσ40.trans xτ125)) (by decide)).1
          have kp35 : gP σ63 c 0 = gP τ125 c 0 := (cσ63.O (kc.up (xσ40.trans xτ125)) (by decide)).2.1
          have kp36 : gP σ63 t 2 = gP τ125 t 2 := (cσ63.O (kt.up (xσ40.trans xτ125)) (by decide)).2.1
          have kp37 : gI σ63 th 4 = gI τ125 th 4 := (cσ63.O (kth.up (xσ40.trans xτ125)) (by decide)).1
          have kp38 : gJ σ63 c 5 = gJ τ125 c 5 := (cσ63.O (kc.up (xσ40.trans xτ125)) (by decide)).2.2
          by_cases hc39 : r64 ≠ 0
          · rw [if_pos hc39]
            unfold w_X11_foldRow_179
            have es9 : (v10 + Int64.ofInt r55).toInt = v10.toInt + r55 := by rw [ad_int (by omega) (by rw [of_int (by omega)]; omega), of_int (by omega)]
            exact ih125 σ63 LLt125 Nt125 nuσ63 (v10 + (Int64.ofInt r55)) iσ63 fσ63 (xτ125.trans xσ63) nu_σ63 hnτ125 hg_c_τ125 (by (first | omega | with_reducible assumption | with_reducible exact rng_toInt _ | with_reducible exact rng_wr _ | (unfold rng; omega) | (unfold rng at *; omega) | assumption)) (by (first | omega | with_reducible assumption | with_reducible exact rng_toInt _ | with_reducible exact rng_wr _ | (unfold rng; omega) | (unfold rng at *; omega) | assumption))
          · rw [if_neg hc39]
            have hc39q := Classical.not_not.mp hc39
            unfold w_X11_foldRow_160
            have rb9 := iσ63.recs1 (kth.up (xσ40.trans (xτ125.trans xσ63))) (by omega)
            refine i1_X11_countRecord iσ63 (kth.up (xσ40.trans (xτ125.trans xσ63))) (by (first | omega | with_reducible assumption | with_reducible exact rng_toInt _ | with_reducible exact rng_wr _ | (unfold rng; omega) | (unfold rng at *; omega) | assumption)) (by (first | omega | with_reducible assumption | with_reducible exact rng_toInt _ | with_reducible exact rng_wr _ | (unfold rng; omega) | (unfold rng at *; omega) | assumption)) (fun σ65 _ iσ65 cσ65 pσ65 => ?_) (fun σx LLx Nx nux E ix cx ux px => hX σx LLx Nx nux E ix (fσ63.tr (cx.mo (by decide))) (nu_σ63.x ux) (by first | exact px | exact ⟨by have := px.1; omega, (Hn.nz hnτ125 (by first | decide | (intro x hx; simp only [List.mem_cons, List.mem_nil_iff, or_false] at hx; omega))).tr px.2.1, px.2.2⟩ | (first | omega | with_reducible assumption | with_reducible exact rng_toInt _ | with_reducible exact rng_wr _ | (unfold rng; omega) | (unfold rng at *; omega) | assumption)))
            intro xσ65
            have fσ65 : Fx [1, 2, 3, 4, 5, 6, 7, 64, 512, 513, 514, 708, 6464] gr σ σ65 := fσ63.tr (cσ65.mo (by decide))
            have kp40 : gI σ65 o 11 = gI σ63 o 11 := (cσ65.O (ko.up (xσ40.trans (xτ125.trans xσ63))) (by decide)).1
            have kp41 : gI σ65 o 12 = gI σ63 o 12 := (cσ65.O (ko.up (xσ40.trans (xτ125.trans xσ63))) (by decide)).1
            have kp42 : gI σ65 o 13 = gI σ63 o 13 := (cσ65.O (ko.up (xσ40.trans (xτ125.trans xσ63))) (by decide)).1
            have kp43 : gI σ65 o 6 = gI σ63 o 6 := (cσ65.O (ko.up (xσ40.trans (xτ125.trans xσ63))) (by decide)).1
            have kp44 : gI σ65 t 0 = gI σ63 t 0 := (cσ65.O (kt.up (xσ40.trans (xτ125.trans xσ63))) (by decide)).1
            have kp45 : gP σ65 c 0 = gP σ63 c 0 := (cσ65.O (kc.up (xσ40.trans (xτ125.trans xσ63))) (by decide)).2.1
            have kp46 : gP σ65 t 2 = gP σ63 t 2 := (cσ65.O (kt.up (xσ40.trans (xτ125.trans xσ63))) (by decide)).2.1
            have kp47 : gJ σ65 c 5 = gJ σ63 c 5 := (cσ65.O (kc.up (xσ40.trans (xτ125.trans xσ63))) (by decide)).2.2
            refine ⟨t, hv2, fun kk_t_1 => ?_⟩
            have el9 : ((v10 + Int64.ofInt (gI τ125 o 11)) - 1).toInt = v10.toInt + gI τ125 o 11 - 1 := by rw [sb_int (by rw [ad_int (by omega) (by rw [of_int (by omega)]; omega), of_int (by omega)]; omega) (by decide), ad_int (by omega) (by rw [of_int (by omega)]; omega), of_int (by omega)]; rfl
            refine i1_X11_newFold iσ65 (kth.up (xσ40.trans (xτ125.trans (xσ63.trans xσ65)))) hv1 (ko.up (xσ40.trans (xτ125.trans (xσ63.trans xσ65)))) hv3 (kc.up (xσ40.trans (xτ125.trans (xσ63.trans xσ65)))) (by (first | omega | with_reducible assumption | with_reducible exact rng_toInt _ | with_reducible exact rng_wr _ | (unfold rng; omega) | (unfold rng at *; omega) | assumption)) (by (first | omega | with_reducible assumption | with_reducible exact rng_toInt _ | with_reducible exact rng_wr _ | (unfold rng; omega) | (unfold rng at *; omega) | assumption)) (by (first | omega | with_reducible assumption | with_reducible exact rng_toInt _ | with_reducible exact rng_wr _ | (unfold rng; omega) | (unfold rng at *; omega) | assumption)) (by (first | omega | with_reducible assumption | with_reducible exact rng_toInt _ | with_reducible exact rng_wr _ | (unfold rng; omega) | (unfold rng at *; omega) | assumption)) (by unfold tb; rw [el9]; omega) (by (first | omega | with_reducible assumption | with_reducible exact rng_toInt _ | with_reducible exact rng_wr _ | (unfold rng; omega) | (unfold rng at *; omega) | assumption)) (fun σ67 LLσ67 Nσ67 nuσ67 c_σ67 iσ67 cσ67 uσ67 hσ67 pσ67 => ?_)
            intro xσ67
            have fσ67 : Fx [1, 2, 3, 4, 5, 6, 7, 64, 512, 513, 514, 708, 6464] gr σ σ67 := fσ65.tr (cσ67.mo (by decide))
            have hnσ67 : Hn (gD σ) [11] [c] gq LL LLσ67 N Nσ67 := hnτ125.go hσ67 (fun d hd => (fσ65.1 d hd).1) (by first | decide | exact fun _ h => h | (simp; done) | (intro x hx; simp only [List.mem_cons, List.mem_nil_iff, or_false] at hx ⊢; omega)) (fun d hd => absurd hd (by simp))
            have ne_c_c_σ67 : c ≠ c_σ67 := pσ67.2.1 c (kc.up (xσ40.trans (xτ125.trans (xσ63.trans xσ65)))) hg_c_τ125
            have hg_c_σ67 : ∀ x, c ∉ LLσ67 x := hσ67.2.1 c (kc.up (xσ40.trans (xτ125.trans (xσ63.trans xσ65)))).1 (by simp) hg_c_τ125
            have hf_c_σ67 : ∀ x, c_σ67 ∉ LLσ67 x := pσ67.1
            have lo_c_σ67 : Lo [c] (gD σ) LL c_σ67 := hnτ125.loc (fun d hd => (fσ65.1 d hd).1) pσ67.2.2.1
            have nσ67_3 := hσ67.2.2 3 (by first | decide | (simp; done) | (simp only [List.mem_cons, List.mem_nil_iff, or_false, not_or]; omega)) (by first | decide | omega) (by first | decide | omega) (by first | decide | omega)
            have nσ67_5 := hσ67.2.2 5 (by first | decide | (simp; done) | (simp only [List.mem_cons, List.mem_nil_iff, or_false, not_or]; omega)) (by first | decide | omega) (by first | decide | omega) (by first | decide | omega)
            have nσ67_14 := hσ67.2.2 14 (by first | decide | (simp; done) | (simp only [List.mem_cons, List.mem_nil_iff, or_false, not_or]; omega)) (by first | decide | omega) (by first | decide | omega) (by first | decide | omega)
            have nσ67_44 := hσ67.2.2 44 (by first | decide | (simp; done) | (simp only [List.mem_cons, List.mem_nil_iff, or_false, not_or]; omega)) (by first | decide | omega) (by first | decide | omega) (by first | decide | omega)
            have nσ67_74 := hσ67.2.2 74 (by first | decide | (simp; done) | (simp only [List.mem_cons, List.mem_nil_iff, or_false, not_or]; omega)) (by first | decide | omega) (by first | decide | omega) (by first | decide | omega)
            have nσ67_11 := hσ67.2.2 11 (by first | decide | (simp; done) | (simp only [List.mem_cons, List.mem_nil_iff, or_false, not_or]; omega)) (by first | decide | omega) (by first | decide | omega) (by first | decide | omega)
            have nσ67_12 := hσ67.2.2 12 (by first | decide | (simp; done) | (simp only [List.mem_cons, List.mem_nil_iff, or_false, not_or]; omega)) (by first | decide | omega) (by first | decide | omega) (by first | decide | omega)
            have nσ67_41 := hσ67.2.2 41 (by first | decide | (simp; done) | (simp only [List.mem_cons, List.mem_nil_iff, or_false, not_or]; omega)) (by first | decide | omega) (by first | decide | omega) (by first | decide | omega)
            have nσ67_42 := hσ67.2.2 42 (by first | decide | (simp; done) | (simp only [List.mem_cons, List.mem_nil_iff, or_false, not_or]; omega)) (by first | decide | omega) (by first | decide | omega) (by first | decide | omega)
            have nσ67_13 := hσ67.2.2 13 (by first | decide | (simp; done) | (simp only [List.mem_cons, List.mem_nil_iff, or_false, not_or]; omega)) (by first | decide | omega) (by first | decide | omega) (by first | decide | omega)
            have nu_σ67 : NU nu nuσ67 := nu_σ63.tr uσ67
            have uσ67_0 := uσ67.1 0 (by decide)
            have uσ67_1 := uσ67.1 1 (by decide)
            have uσ67_2 := uσ67.2
            have uσ67_5 := uσ67.1 5 (by decide)
            have uσ67_15 := uσ67.1 15 (by decide)
            have uσ67_16 := uσ67.1 16 (by decide)
            have kp48 : gI σ67 o 11 = gI σ65 o 11 := (cσ67.O (ko.up (xσ40.trans (xτ125.trans (xσ63.trans xσ65)))) (by decide)).1
            have kp49 : gI σ67 o 12 = gI σ65 o 12 := (cσ67.O (ko.up (xσ40.trans (xτ125.trans (xσ63.trans xσ65)))) (by decide)).1
            have kp50 : gI σ67 o 13 = gI σ65 o 13 := (cσ67.O (ko.up (xσ40.trans (xτ125.trans (xσ63.trans xσ65)))) (by decide)).1
            have kp51 : gI σ67 o 6 = gI σ65 o 6 := (cσ67.O (ko.up (xσ40.trans (xτ125.trans (xσ63.trans xσ65)))) (by decide)).1
            have kp52 : gI σ67 t 0 = gI σ65 t 0 := (cσ67.O (kt.up (xσ40.trans (xτ125.trans (xσ63.trans xσ65)))) (by decide)).1
            have kp53 : gP σ67 c 0 = gP σ65 c 0 := (cσ67.O (kc.up (xσ40.trans (xτ125.trans (xσ63.trans xσ65)))) (by decide)).2.1
            have kp54 : gP σ67 t 2 = gP σ65 t 2 := (cσ67.O (kt.up (xσ40.trans (xτ125.trans (xσ63.trans xσ65)))) (by decide)).2.1
            have kp55 : gI σ67 th 4 = gI σ65 th 4 := (cσ67.O (kth.up (xσ40.trans (xτ125.trans (xσ63.trans xσ65)))) (by decide)).1
            intro tyt
            have krc_σ67 : kO σ67 c_σ67 0 := tyt c_σ67 rfl
            refine ⟨b_2, (kp46.trans (kp36.trans eb_2)), fun kk_b_2 => ?_⟩
            refine i_X1_add (G0 := 11) iσ67 (mb_2.up (xσ63.trans (xσ65.trans xσ67))) rfl krc_σ67 (by omega) (by (first | omega | with_reducible assumption | with_reducible exact rng_toInt _ | with_reducible exact rng_wr _ | (unfold rng; omega) | (unfold rng at *; omega) | assumption)) (by (first | omega | with_reducible assumption | with_reducible exact rng_toInt _ | with_reducible exact rng_wr _ | (unfold rng; omega) | (unfold rng at *; omega) | assumption)) (plc_ab (i := i) iσ67 (by omega) (by omega) (kt.up (xσ40.trans (xτ125.trans (xσ63.trans (xσ65.trans xσ67))))) (by omega) (by omega) (by omega) (by first | exact h7 | exact (iσ67.opok hi).2.2.2.1 (by omega))) (no50 (by first | decide | omega)) (no13 (by first | decide | omega)) (fun N9 n1 n2 => sc_ab1 iσ67 (kth.up (xσ40.trans (xτ125.trans (xσ63.trans (xσ65.trans xσ67))))) (by omega) (by omega) n1 n2 (by omega)) (fun σ69 LLσ69 Nσ69 nuσ69 _ iσ69 cσ69 uσ69 hσ69 pσ69 => ?_)
            intro xσ69
            have fσ69 : Fx [1, 2, 3, 4, 5, 6, 7, 64, 512, 513, 514, 708, 6464] gr σ σ69 := fσ67.tr (cσ69.mo (by decide))
            have hnσ69 : Hn (gD σ) [11] [c] gq LL LLσ69 N Nσ69 := hnσ67.go hσ69 (fun d hd => (fσ67.1 d hd).1) (by first | decide | exact fun _ h => h | (simp; done) | (intro x hx; simp only [List.mem_cons, List.mem_nil_iff, or_false] at hx ⊢; omega)) (fun d hd => by rw [List.mem_singleton.mp hd]; exact lo_c_σ67)
            have hg_c_σ69 : ∀ x, c ∉ LLσ69 x := hσ69.2.1 c (kc.up (xσ40.trans (xτ125.trans (xσ63.trans (xσ65.trans xσ67))))).1 (by simp only [List.mem_cons, List.mem_nil_iff, or_false, not_or]; first | omega | (exact fun q => absurd q.symm (by assumption))) hg_c_σ67
            have nσ69_3 := hσ69.2.2 3 (by first | decide | (simp; done) | (simp only [List.mem_cons, List.mem_nil_iff, or_false, not_or]; omega)) (by first | decide | omega) (by first | decide | omega) (by first | decide | omega)
            have nσ69_5 := hσ69.2.2 5 (by first | decide | (simp; done) | (simp only [List.mem_cons, List.mem_nil_iff, or_false, not_or]; omega)) (by first | decide | omega) (by first | decide | omega) (by first | decide | omega)
            have nσ69_14 := hσ69.2.2 14 (by first | decide | (simp; done) | (simp only [List.mem_cons, List.mem_nil_iff, or_false, not_or]; omega)) (by first | decide | omega) (by first | decide | omega) (by first | decide | omega)
            have nσ69_44 := hσ69.2.2 44 (by first | decide | (simp; done) | (simp only [List.mem_cons, List.mem_nil_iff, or_false, not_or]; omega)) (by first | decide | omega) (by first | decide | omega) (by first | decide | omega)
            have nσ69_74 := hσ69.2.2 74 (by first | decide | (simp; done) | (simp only [List.mem_cons, List.mem_nil_iff, or_false, not_or]; omega)) (by first | decide | omega) (by first | decide | omega) (by first | decide | omega)
            have nσ69_12 := hσ69.2.2 12 (by first | decide | (simp; done) | (simp only [List.mem_cons, List.mem_nil_iff, or_false, not_or]; omega)) (by first | decide | omega) (by first | decide | omega) (by first | decide | omega)
            have nσ69_41 := hσ69.2.2 41 (by first | decide | (simp; done) | (simp only [List.mem_cons, List.mem_nil_iff, or_false, not_or]; omega)) (by first | decide | omega) (by first | decide | omega) (by first | decide | omega)
            have nσ69_42 := hσ69.2.2 42 (by first | decide | (simp; done) | (simp only [List.mem_cons, List.mem_nil_iff, or_false, not_or]; omega)) (by first | decide | omega) (by first | decide | omega) (by first | decide | omega)
            have nσ69_13 := hσ69.2.2 13 (by first | decide | (simp; done) | (simp only [List.mem_cons, List.mem_nil_iff, or_false, not_or]; omega)) (by first | decide | omega) (by first | decide | omega) (by first | decide | omega)
            have nu_σ69 : NU nu nuσ69 := nu_σ67.tr uσ69
            have uσ69_0 := uσ69.1 0 (by decide)
            have uσ69_1 := uσ69.1 1 (by decide)
            have uσ69_2 := uσ69.2
            have uσ69_5 := uσ69.1 5 (by decide)
            have uσ69_15 := uσ69.1 15 (by decide)
            have uσ69_16 := uσ69.1 16 (by decide)
            have kp56 : gI σ69 o 11 = gI σ67 o 11 := (cσ69.O (ko.up (xσ40.trans (xτ125.trans (xσ63.trans (xσ65.trans xσ67))))) (by decide)).1
            have kp57 : gI σ69 o 12 = gI σ67 o 12 := (cσ69.O (ko.up (xσ40.trans (xτ125.trans (xσ63.trans (xσ65.trans xσ67))))) (by decide)).1
            have kp58 : gI σ69 o 13 = gI σ67 o 13 := (cσ69.O (ko.up (xσ40.trans (xτ125.trans (xσ63.trans (xσ65.trans xσ67))))) (by decide)).1
            have kp59 : gI σ69 o 6 = gI σ67 o 6 := (cσ69.O (ko.up (xσ40.trans (xτ125.trans (xσ63.trans (xσ65.trans xσ67))))) (by decide)).1
            have kp60 : gI σ69 t 0 = gI σ67 t 0 := (cσ69.O (kt.up (xσ40.trans (xτ125.trans (xσ63.trans (xσ65.trans xσ67))))) (by decide)).1
            have kp61 : gP σ69 c 0 = gP σ67 c 0 := (cσ69.O (kc.up (xσ40.trans (xτ125.trans (xσ63.trans (xσ65.trans xσ67))))) (by decide)).2.1
            have kp62 : gP σ69 t 2 = gP σ67 t 2 := (cσ69.O (kt.up (xσ40.trans (xτ125.trans (xσ63.trans (xσ65.trans xσ67))))) (by decide)).2.1
            have kp63 : gI σ69 th 4 = gI σ67 th 4 := (cσ69.O (kth.up (xσ40.trans (xτ125.trans (xσ63.trans (xσ65.trans xσ67))))) (by decide)).1
            have kp64 : gJ σ69 c 5 = gJ σ67 c 5 := (cσ69.O (kc.up (xσ40.trans (xτ125.trans (xσ63.trans (xσ65.trans xσ67))))) (by decide)).2.2
            unfold w_X11_foldRow_179
            have es9 : (v10 + Int64.ofInt r55).toInt = v10.toInt + r55 := by rw [ad_int (by omega) (by rw [of_int (by omega)]; omega), of_int (by omega)]
            exact ih125 σ69 LLσ69 Nσ69 nuσ69 (v10 + (Int64.ofInt r55)) iσ69 fσ69 (xτ125.trans (xσ63.trans (xσ65.trans (xσ67.trans xσ69)))) nu_σ69 hnσ69 hg_c_σ69 (by (first | omega | with_reducible assumption | with_reducible exact rng_toInt _ | with_reducible exact rng_wr _ | (unfold rng; omega) | (unfold rng at *; omega) | assumption)) (by (first | omega | with_reducible assumption | with_reducible exact rng_toInt _ | with_reducible exact rng_wr _ | (unfold rng; omega) | (unfold rng at *; omega) | assumption))
    exact ⟨_, Lp125 _ σ40 LL N nu _ iσ40 fσ40 (Ext.rfl' _) NU.rf hnσ hf (by (first | omega | with_reducible assumption | with_reducible exact rng_toInt _ | with_reducible exact rng_wr _ | (unfold rng; omega) | (unfold rng at *; omega) | assumption)) (Nat.lt_succ_self _)⟩
  · rw [if_neg hc8]
    have hc8q := Classical.not_not.mp hc8
    unfold w_X11_foldRow_21
    refine ⟨c, hv3, fun kk_c_2 => ?_⟩
    refine i1_X11_newFold iσ40 (kth.up xσ40) hv1 (ko.up xσ40) hv3 (kc.up xσ40) (by (first | omega | with_reducible assumption | with_reducible exact rng_toInt _ | with_reducible exact rng_wr _ | (unfold rng; omega) | (unfold rng at *; omega) | assumption)) (by (first | omega | with_reducible assumption | with_reducible exact rng_toInt _ | with_reducible exact rng_wr _ | (unfold rng; omega) | (unfold rng at *; omega) | assumption)) (by (first | omega | with_reducible assumption | with_reducible exact rng_toInt _ | with_reducible exact rng_wr _ | (unfold rng; omega) | (unfold rng at *; omega) | assumption)) (by (first | omega | with_reducible assumption | with_reducible exact rng_toInt _ | with_reducible exact rng_wr _ | (unfold rng; omega) | (unfold rng at *; omega) | assumption)) (iσ40.t5 (kc.up xσ40)) (by (first | omega | with_reducible assumption | with_reducible exact rng_toInt _ | with_reducible exact rng_wr _ | (unfold rng; omega) | (unfold rng at *; omega) | assumption)) (fun σ42 LLσ42 Nσ42 nuσ42 c_σ42 iσ42 cσ42 uσ42 hσ42 pσ42 => ?_)
    intro xσ42
    have fσ42 : Fx [1, 2, 3, 4, 5, 6, 7, 64, 512, 513, 514, 708, 6464] gr σ σ42 := fσ40.tr (cσ42.mo (by decide))
    have hnσ42 : Hn (gD σ) [11] [c] gq LL LLσ42 N Nσ42 := hnσ.go hσ42 (fun d hd => (fσ40.1 d hd).1) (by first | decide | exact fun _ h => h | (simp; done) | (intro x hx; simp only [List.mem_cons, List.mem_nil_iff, or_false] at hx ⊢; omega)) (fun d hd => absurd hd (by simp))
    have ne_c_c_σ42 : c ≠ c_σ42 := pσ42.2.1 c (kc.up xσ40) hf
    have hg_c_σ42 : ∀ x, c ∉ LLσ42 x := hσ42.2.1 c (kc.up xσ40).1 (by simp) hf
    have hf_c_σ42 : ∀ x, c_σ42 ∉ LLσ42 x := pσ42.1
    have lo_c_σ42 : Lo [c] (gD σ) LL c_σ42 := hnσ.loc (fun d hd => (fσ40.1 d hd).1) pσ42.2.2.1
    have nσ42_3 := hσ42.2.2 3 (by first | decide | (simp; done) | (simp only [List.mem_cons, List.mem_nil_iff, or_false, not_or]; omega)) (by first | decide | omega) (by first | decide | omega) (by first | decide | omega)
    have nσ42_5 := hσ42.2.2 5 (by first | decide | (simp; done) | (simp only [List.mem_cons, List.mem_nil_iff, or_false, not_or]; omega)) (by first | decide | omega) (by first | decide | omega) (by first | decide | omega)
    have nσ42_14 := hσ42.2.2 14 (by first | decide | (simp; done) | (simp only [List.mem_cons, List.mem_nil_iff, or_false, not_or]; omega)) (by first | decide | omega) (by first | decide | omega) (by first | decide | omega)
    have nσ42_44 := hσ42.2.2 44 (by first | decide | (simp; done) | (simp only [List.mem_cons, List.mem_nil_iff, or_false, not_or]; omega)) (by first | decide | omega) (by first | decide | omega) (by first | decide | omega)
    have nσ42_74 := hσ42.2.2 74 (by first | decide | (simp; done) | (simp only [List.mem_cons, List.mem_nil_iff, or_false, not_or]; omega)) (by first | decide | omega) (by first | decide | omega) (by first | decide | omega)
    have nσ42_11 := hσ42.2.2 11 (by first | decide | (simp; done) | (simp only [List.mem_cons, List.mem_nil_iff, or_false, not_or]; omega)) (by first | decide | omega) (by first | decide | omega) (by first | decide | omega)
    have nσ42_12 := hσ42.2.2 12 (by first | decide | (simp; done) | (simp only [List.mem_cons, List.mem_nil_iff, or_false, not_or]; omega)) (by first | decide | omega) (by first | decide | omega) (by first | decide | omega)
    have nσ42_41 := hσ42.2.2 41 (by first | decide | (simp; done) | (simp only [List.mem_cons, List.mem_nil_iff, or_false, not_or]; omega)) (by first | decide | omega) (by first | decide | omega) (by first | decide | omega)
    have nσ42_42 := hσ42.2.2 42 (by first | decide | (simp; done) | (simp only [List.mem_cons, List.mem_nil_iff, or_false, not_or]; omega)) (by first | decide | omega) (by first | decide | omega) (by first | decide | omega)
    have nσ42_13 := hσ42.2.2 13 (by first | decide | (simp; done) | (simp only [List.mem_cons, List.mem_nil_iff, or_false, not_or]; omega)) (by first | decide | omega) (by first | decide | omega) (by first | decide | omega)
    have nu_σ42 : NU nu nuσ42 := uσ42
    have uσ42_0 := uσ42.1 0 (by decide)
    have uσ42_1 := uσ42.1 1 (by decide)
    have uσ42_2 := uσ42.2
    have uσ42_5 := uσ42.1 5 (by decide)
    have uσ42_15 := uσ42.1 15 (by decide)
    have uσ42_16 := uσ42.1 16 (by decide)
    have kp65 : gI σ42 o 13 = gI σ40 o 13 := (cσ42.O (ko.up xσ40) (by decide)).1
    have kp66 : gI σ42 o 6 = gI σ40 o 6 := (cσ42.O (ko.up xσ40) (by decide)).1
    have kp67 : gI σ42 t 0 = gI σ40 t 0 := (cσ42.O (kt.up xσ40) (by decide)).1
    have kp68 : gP σ42 c 0 = gP σ40 c 0 := (cσ42.O (kc.up xσ40) (by decide)).2.1
    have kp69 : gI σ42 th 4 = gI σ40 th 4 := (cσ42.O (kth.up xσ40) (by decide)).1
    intro tyt_1
    have krc_σ42 : kO σ42 c_σ42 0 := tyt_1 c_σ42 rfl
    refine ⟨c_σ42, rfl, fun kk_c_σ42 => ?_⟩
    intro σ45 eσ45
    have xσ45 : Ext σ42 σ45 := by rw [eσ45]; exact fun _ h => ⟨h, rfl, rfl⟩
    have iσ45 : IV σ45 pl gq ci gr nc ot LLσ42 Nσ42 nuσ42 := by rw [eσ45]; exact iσ42.wT krc_σ42 (by decide) (iσ42.t5 (kc.up (xσ40.trans xσ42)))
    have fσ45 : Fx [1, 2, 3, 4, 5, 6, 7, 64, 512, 513, 514, 708, 6464] gr σ σ45 := fσ42.tr (Sk.fx (by rw [eσ45]; exact Sk.pJ (by rw [fcdO krc_σ42 (by decide)]; decide)))
    have kp70 : gI σ45 o 13 = gI σ42 o 13 := by rw [eσ45]
    have kp71 : gI σ45 o 6 = gI σ42 o 6 := by rw [eσ45]
    have kp72 : gI σ45 t 0 = gI σ42 t 0 := by rw [eσ45]
    have kp73 : gP σ45 c 0 = gP σ42 c 0 := by rw [eσ45]
    have kp74 : gI σ45 th 4 = gI σ42 th 4 := by rw [eσ45]
    have kp75 : gJ σ45 c 5 = gJ σ42 c 5 := by rw [eσ45]; exact up2_n _ _ (fun q => absurd q.2 (by decide))
    refine ⟨t, hv2, fun kk_t_2 => ?_⟩
    obtain ⟨b_3, eb_3, fb_3⟩ := P_10_2 iσ45.1 (kt.up (xσ40.trans (xσ42.trans xσ45)))
    have mb_3 : kO σ45 b_3 1 := iσ45.1.kd (kt.up (xσ40.trans (xσ42.trans xσ45))) rfl eb_3 rfl
    refine i1_X11_addNearTo iσ45 (kth.up (xσ40.trans (xσ42.trans xσ45))) hv1 (ko.up (xσ40.trans (xσ42.trans xσ45))) eb_3 mb_3 rfl (krc_σ42.up xσ45) (by (first | omega | with_reducible assumption | with_reducible exact rng_toInt _ | with_reducible exact rng_wr _ | (unfold rng; omega) | (unfold rng at *; omega) | assumption)) (by (first | omega | with_reducible assumption | with_reducible exact rng_toInt _ | with_reducible exact rng_wr _ | (unfold rng; omega) | (unfold rng at *; omega) | assumption)) (by (first | omega | with_reducible assumption | with_reducible exact rng_toInt _ | with_reducible exact rng_wr _ | (unfold rng; omega) | (unfold rng at *; omega) | assumption)) (by (first | omega | with_reducible assumption | with_reducible exact rng_toInt _ | with_reducible exact rng_wr _ | (unfold rng; omega) | (unfold rng at *; omega) | assumption)) (fun σ47 LLσ47 Nσ47 nuσ47 _ iσ47 cσ47 uσ47 hσ47 pσ47 => ?_) (fun σx LLx Nx nux E ix cx ux px => hX σx LLx Nx nux E ix (fσ45.tr (cx.mo (by decide))) (nu_σ42.x ux) (by first | exact px | exact ⟨by have := px.1; omega, (Hn.nz hnσ42 (by first | decide | (intro x hx; simp only [List.mem_cons, List.mem_nil_iff, or_false] at hx; omega))).tr px.2.1, px.2.2⟩ | (first | omega | with_reducible assumption | with_reducible exact rng_toInt _ | with_reducible exact rng_wr _ | (unfold rng; omega) | (unfold rng at *; omega) | assumption)))
    intro xσ47
    have fσ47 : Fx [1, 2, 3, 4, 5, 6, 7, 64, 512, 513, 514, 708, 6464] gr σ σ47 := fσ45.tr (cσ47.mo (by decide))
    have hnσ47 : Hn (gD σ) [11] [c] gq LL LLσ47 N Nσ47 := hnσ42.go hσ47 (fun d hd => (fσ45.1 d hd).1) (by first | decide | exact fun _ h => h | (simp; done) | (intro x hx; simp only [List.mem_cons, List.mem_nil_iff, or_false] at hx ⊢; omega)) (fun d hd => absurd hd (by simp))
    have hg_c_σ47 : ∀ x, c ∉ LLσ47 x := hσ47.2.1 c (kc.up (xσ40.trans (xσ42.trans xσ45))).1 (by simp) hg_c_σ42
    have hg_c_σ42_σ47 : ∀ x, c_σ42 ∉ LLσ47 x := hσ47.2.1 c_σ42 (krc_σ42.up xσ45).1 (by simp) hf_c_σ42
    have nσ47_3 := hσ47.2.2 3 (by first | decide | (simp; done) | (simp only [List.mem_cons, List.mem_nil_iff, or_false, not_or]; omega)) (by first | decide | omega) (by first | decide | omega) (by first | decide | omega)
    have nσ47_5 := hσ47.2.2 5 (by first | decide | (simp; done) | (simp only [List.mem_cons, List.mem_nil_iff, or_false, not_or]; omega)) (by first | decide | omega) (by first | decide | omega) (by first | decide | omega)
    have nσ47_14 := hσ47.2.2 14 (by first | decide | (simp; done) | (simp only [List.mem_cons, List.mem_nil_iff, or_false, not_or]; omega)) (by first | decide | omega) (by first | decide | omega) (by first | decide | omega)
    have nσ47_44 := hσ47.2.2 44 (by first | decide | (simp; done) | (simp only [List.mem_cons, List.mem_nil_iff, or_false, not_or]; omega)) (by first | decide | omega) (by first | decide | omega) (by first | decide | omega)
    have nσ47_74 := hσ47.2.2 74 (by first | decide | (simp; done) | (simp only [List.mem_cons, List.mem_nil_iff, or_false, not_or]; omega)) (by first | decide | omega) (by first | decide | omega) (by first | decide | omega)
    have nσ47_12 := hσ47.2.2 12 (by first | decide | (simp; done) | (simp only [List.mem_cons, List.mem_nil_iff, or_false, not_or]; omega)) (by first | decide | omega) (by first | decide | omega) (by first | decide | omega)
    have nσ47_41 := hσ47.2.2 41 (by first | decide | (simp; done) | (simp only [List.mem_cons, List.mem_nil_iff, or_false, not_or]; omega)) (by first | decide | omega) (by first | decide | omega) (by first | decide | omega)
    have nσ47_42 := hσ47.2.2 42 (by first | decide | (simp; done) | (simp only [List.mem_cons, List.mem_nil_iff, or_false, not_or]; omega)) (by first | decide | omega) (by first | decide | omega) (by first | decide | omega)
    have nσ47_13 := hσ47.2.2 13 (by first | decide | (simp; done) | (simp only [List.mem_cons, List.mem_nil_iff, or_false, not_or]; omega)) (by first | decide | omega) (by first | decide | omega) (by first | decide | omega)
    have nu_σ47 : NU nu nuσ47 := nu_σ42.tr uσ47
    have uσ47_0 := uσ47.1 0 (by decide)
    have uσ47_1 := uσ47.1 1 (by decide)
    have uσ47_2 := uσ47.2
    have uσ47_5 := uσ47.1 5 (by decide)
    have uσ47_15 := uσ47.1 15 (by decide)
    have uσ47_16 := uσ47.1 16 (by decide)
    have kp76 : gI σ47 o 13 = gI σ45 o 13 := (cσ47.O (ko.up (xσ40.trans (xσ42.trans xσ45))) (by decide)).1
    have kp77 : gI σ47 o 6 = gI σ45 o 6 := (cσ47.O (ko.up (xσ40.trans (xσ42.trans xσ45))) (by decide)).1
    have kp78 : gI σ47 t 0 = gI σ45 t 0 := (cσ47.O (kt.up (xσ40.trans (xσ42.trans xσ45))) (by decide)).1
    have kp79 : gP σ47 c 0 = gP σ45 c 0 := (cσ47.O (kc.up (xσ40.trans (xσ42.trans xσ45))) (by decide)).2.1
    have kp80 : gP σ47 t 2 = gP σ45 t 2 := (cσ47.O (kt.up (xσ40.trans (xσ42.trans xσ45))) (by decide)).2.1
    have rb9 := iσ47.recs1 (kth.up (xσ40.trans (xσ42.trans (xσ45.trans xσ47)))) (by omega)
    refine i1_X11_countRecord iσ47 (kth.up (xσ40.trans (xσ42.trans (xσ45.trans xσ47)))) (by (first | omega | with_reducible assumption | with_reducible exact rng_toInt _ | with_reducible exact rng_wr _ | (unfold rng; omega) | (unfold rng at *; omega) | assumption)) (by (first | omega | with_reducible assumption | with_reducible exact rng_toInt _ | with_reducible exact rng_wr _ | (unfold rng; omega) | (unfold rng at *; omega) | assumption)) (fun σ48 _ iσ48 cσ48 pσ48 => ?_) (fun σx LLx Nx nux E ix cx ux px => hX σx LLx Nx nux E ix (fσ47.tr (cx.mo (by decide))) (nu_σ47.x ux) (by first | exact px | exact ⟨by have := px.1; omega, (Hn.nz hnσ47 (by first | decide | (intro x hx; simp only [List.mem_cons, List.mem_nil_iff, or_false] at hx; omega))).tr px.2.1, px.2.2⟩ | (first | omega | with_reducible assumption | with_reducible exact rng_toInt _ | with_reducible exact rng_wr _ | (unfold rng; omega) | (unfold rng at *; omega) | assumption)))
    intro xσ48
    have fσ48 : Fx [1, 2, 3, 4, 5, 6, 7, 64, 512, 513, 514, 708, 6464] gr σ σ48 := fσ47.tr (cσ48.mo (by decide))
    have kp81 : gI σ48 o 13 = gI σ47 o 13 := (cσ48.O (ko.up (xσ40.trans (xσ42.trans (xσ45.trans xσ47)))) (by decide)).1
    have kp82 : gI σ48 o 6 = gI σ47 o 6 := (cσ48.O (ko.up (xσ40.trans (xσ42.trans (xσ45.trans xσ47)))) (by decide)).1
    have kp83 : gI σ48 t 0 = gI σ47 t 0 := (cσ48.O (kt.up (xσ40.trans (xσ42.trans (xσ45.trans xσ47)))) (by decide)).1
    have kp84 : gP σ48 c 0 = gP σ47 c 0 := (cσ48.O (kc.up (xσ40.trans (xσ42.trans (xσ45.trans xσ47)))) (by decide)).2.1
    have kp85 : gP σ48 t 2 = gP σ47 t 2 := (cσ48.O (kt.up (xσ40.trans (xσ42.trans (xσ45.trans xσ47)))) (by decide)).2.1
    have kp86 : gJ σ48 c 5 = gJ σ47 c 5 := (cσ48.O (kc.up (xσ40.trans (xσ42.trans (xσ45.trans xσ47)))) (by decide)).2.2
    refine ⟨b_3, (kp85.trans (kp80.trans eb_3)), fun kk_b_3 => ?_⟩
    refine i_X1_add (G0 := 11) iσ48 (mb_3.up (xσ47.trans xσ48)) rfl (krc_σ42.up (xσ45.trans (xσ47.trans xσ48))) (by omega) (by (first | omega | with_reducible assumption | with_reducible exact rng_toInt _ | with_reducible exact rng_wr _ | (unfold rng; omega) | (unfold rng at *; omega) | assumption)) (by (first | omega | with_reducible assumption | with_reducible exact rng_toInt _ | with_reducible exact rng_wr _ | (unfold rng; omega) | (unfold rng at *; omega) | assumption)) (plc_ab (i := i) iσ48 (by omega) (by omega) (kt.up (xσ40.trans (xσ42.trans (xσ45.trans (xσ47.trans xσ48))))) (by omega) (by omega) (by omega) (by first | exact h7 | exact (iσ48.opok hi).2.2.2.1 (by omega))) (no50 (by first | decide | omega)) (no13 (by first | decide | omega)) (fun N9 n1 n2 => sc_ab1 iσ48 (kth.up (xσ40.trans (xσ42.trans (xσ45.trans (xσ47.trans xσ48))))) (by omega) (by omega) n1 n2 (by omega)) (fun σ49 LLσ49 Nσ49 nuσ49 _ iσ49 cσ49 uσ49 hσ49 pσ49 => ?_)
    intro xσ49
    have fσ49 : Fx [1, 2, 3, 4, 5, 6, 7, 64, 512, 513, 514, 708, 6464] gr σ σ49 := fσ48.tr (cσ49.mo (by decide))
    have hnσ49 : Hn (gD σ) [11] [c] gq LL LLσ49 N Nσ49 := hnσ47.go hσ49 (fun d hd => (fσ48.1 d hd).1) (by first | decide | exact fun _ h => h | (simp; done) | (intro x hx; simp only [List.mem_cons, List.mem_nil_iff, or_false] at hx ⊢; omega)) (fun d hd => by rw [List.mem_singleton.mp hd]; exact lo_c_σ42)
    have hg_c_σ49 : ∀ x, c ∉ LLσ49 x := hσ49.2.1 c (kc.up (xσ40.trans (xσ42.trans (xσ45.trans (xσ47.trans xσ48))))).1 (by simp only [List.mem_cons, List.mem_nil_iff, or_false, not_or]; first | omega | (exact fun q => absurd q.symm (by assumption))) hg_c_σ47
    have nσ49_3 := hσ49.2.2 3 (by first | decide | (simp; done) | (simp only [List.mem_cons, List.mem_nil_iff, or_false, not_or]; omega)) (by first | decide | omega) (by first | decide | omega) (by first | decide | omega)
    have nσ49_5 := hσ49.2.2 5 (by first | decide | (simp; done) | (simp only [List.mem_cons, List.mem_nil_iff, or_false, not_or]; omega)) (by first | decide | omega) (by first | decide | omega) (by first | decide | omega)
    have nσ49_14 := hσ49.2.2 14 (by first | decide | (simp; done) | (simp only [List.mem_cons, List.mem_nil_iff, or_false, not_or]; omega)) (by first | decide | omega) (by first | decide | omega) (by first | decide | omega)
    have nσ49_44 := hσ49.2.2 44 (by first | decide | (simp; done) | (simp only [List.mem_cons, List.mem_nil_iff, or_false, not_or]; omega)) (by first | decide | omega) (by first | decide | omega) (by first | decide | omega)
    have nσ49_74 := hσ49.2.2 74 (by first | decide | (simp; done) | (simp only [List.mem_cons, List.mem_nil_iff, or_false, not_or]; omega)) (by first | decide | omega) (by first | decide | omega) (by first | decide | omega)
    have nσ49_12 := hσ49.2.2 12 (by first | decide | (simp; done) | (simp only [List.mem_cons, List.mem_nil_iff, or_false, not_or]; omega)) (by first | decide | omega) (by first | decide | omega) (by first | decide | omega)
    have nσ49_41 := hσ49.2.2 41 (by first | decide | (simp; done) | (simp only [List.mem_cons, List.mem_nil_iff, or_false, not_or]; omega)) (by first | decide | omega) (by first | decide | omega) (by first | decide | omega)
    have nσ49_42 := hσ49.2.2 42 (by first | decide | (simp; done) | (simp only [List.mem_cons, List.mem_nil_iff, or_false, not_or]; omega)) (by first | decide | omega) (by first | decide | omega) (by first | decide | omega)
    have nσ49_13 := hσ49.2.2 13 (by first | decide | (simp; done) | (simp only [List.mem_cons, List.mem_nil_iff, or_false, not_or]; omega)) (by first | decide | omega) (by first | decide | omega) (by first | decide | omega)
    have nu_σ49 : NU nu nuσ49 := nu_σ47.tr uσ49
    have uσ49_0 := uσ49.1 0 (by decide)
    have uσ49_1 := uσ49.1 1 (by decide)
    have uσ49_2 := uσ49.2
    have uσ49_5 := uσ49.1 5 (by decide)
    have uσ49_15 := uσ49.1 15 (by decide)
    have uσ49_16 := uσ49.1 16 (by decide)
    have kp87 : gI σ49 o 13 = gI σ48 o 13 := (cσ49.O (ko.up (xσ40.trans (xσ42.trans (xσ45.trans (xσ47.trans xσ48))))) (by decide)).1
    have kp88 : gI σ49 o 6 = gI σ48 o 6 := (cσ49.O (ko.up (xσ40.trans (xσ42.trans (xσ45.trans (xσ47.trans xσ48))))) (by decide)).1
    have kp89 : gI σ49 t 0 = gI σ48 t 0 := (cσ49.O (kt.up (xσ40.trans (xσ42.trans (xσ45.trans (xσ47.trans xσ48))))) (by decide)).1
    have kp90 : gP σ49 c 0 = gP σ48 c 0 := (cσ49.O (kc.up (xσ40.trans (xσ42.trans (xσ45.trans (xσ47.trans xσ48))))) (by decide)).2.1
    have kp91 : gP σ49 t 2 = gP σ48 t 2 := (cσ49.O (kt.up (xσ40.trans (xσ42.trans (xσ45.trans (xσ47.trans xσ48))))) (by decide)).2.1
    have kp92 : gI σ49 th 4 = gI σ48 th 4 := (cσ49.O (kth.up (xσ40.trans (xσ42.trans (xσ45.trans (xσ47.trans xσ48))))) (by decide)).1
    have kp93 : gJ σ49 c 5 = gJ σ48 c 5 := (cσ49.O (kc.up (xσ40.trans (xσ42.trans (xσ45.trans (xσ47.trans xσ48))))) (by decide)).2.2
    unfold w_X11_foldRow_189
    obtain ⟨b_4, eb_4⟩ := P_11_0 iσ49.1 (kth.up (xσ40.trans (xσ42.trans (xσ45.trans (xσ47.trans (xσ48.trans xσ49))))))
    refine ⟨b_4, eb_4, fun kk_b_4 => ?_⟩
    refine i_X8_release iσ49 kk_b_4 hv3 (kc.up (xσ40.trans (xσ42.trans (xσ45.trans (xσ47.trans (xσ48.trans xσ49)))))) (by (first | omega | with_reducible assumption | with_reducible exact rng_toInt _ | with_reducible exact rng_wr _ | (unfold rng; omega) | (unfold rng at *; omega) | assumption)) (by (first | omega | with_reducible assumption | with_reducible exact rng_toInt _ | with_reducible exact rng_wr _ | (unfold rng; omega) | (unfold rng at *; omega) | assumption)) (fun σ51_1 LLσ51_1 Nσ51_1 nuσ51_1 _ iσ51_1 cσ51_1 uσ51_1 hσ51_1 pσ51_1 => ?_)
    intro xσ51_1
    have fσ51_1 : Fx [1, 2, 3, 4, 5, 6, 7, 64, 512, 513, 514, 708, 6464] gr σ σ51_1 := fσ49.tr (cσ51_1.mo (by decide))
    have hnσ51_1 : Hn (gD σ) [11] [c] gq LL LLσ51_1 N Nσ51_1 := hnσ49.go hσ51_1 (fun d hd => (fσ49.1 d hd).1) (by first | decide | exact fun _ h => h | (simp; done) | (intro x hx; simp only [List.mem_cons, List.mem_nil_iff, or_false] at hx ⊢; omega)) (fun d hd => by rw [List.mem_singleton.mp hd]; exact lo_c)
    have nσ51_1_3 := hσ51_1.2.2 3 (by first | decide | (simp; done) | (simp only [List.mem_cons, List.mem_nil_iff, or_false, not_or]; omega)) (by first | decide | omega) (by first | decide | omega) (by first | decide | omega)
    have nσ51_1_5 := hσ51_1.2.2 5 (by first | decide | (simp; done) | (simp only [List.mem_cons, List.mem_nil_iff, or_false, not_or]; omega)) (by first | decide | omega) (by first | decide | omega) (by first | decide | omega)
    have nσ51_1_14 := hσ51_1.2.2 14 (by first | decide | (simp; done) | (simp only [List.mem_cons, List.mem_nil_iff, or_false, not_or]; omega)) (by first | decide | omega) (by first | decide | omega) (by first | decide | omega)
    have nσ51_1_44 := hσ51_1.2.2 44 (by first | decide | (simp; done) | (simp only [List.mem_cons, List.mem_nil_iff, or_false, not_or]; omega)) (by first | decide | omega) (by first | decide | omega) (by first | decide | omega)
    have nσ51_1_74 := hσ51_1.2.2 74 (by first | decide | (simp; done) | (simp only [List.mem_cons, List.mem_nil_iff, or_false, not_or]; omega)) (by first | decide | omega) (by first | decide | omega) (by first | decide | omega)
    have nσ51_1_11 := hσ51_1.2.2 11 (by first | decide | (simp; done) | (simp only [List.mem_cons, List.mem_nil_iff, or_false, not_or]; omega)) (by first | decide | omega) (by first | decide | omega) (by first | decide | omega)
    have nσ51_1_12 := hσ51_1.2.2 12 (by first | decide | (simp; done) | (simp only [List.mem_cons, List.mem_nil_iff, or_false, not_or]; omega)) (by first | decide | omega) (by first | decide | omega) (by first | decide | omega)
    have nσ51_1_41 := hσ51_1.2.2 41 (by first | decide | (simp; done) | (simp only [List.mem_cons, List.mem_nil_iff, or_false, not_or]; omega)) (by first | decide | omega) (by first | decide | omega) (by first | decide | omega)
    have nσ51_1_42 := hσ51_1.2.2 42 (by first | decide | (simp; done) | (simp only [List.mem_cons, List.mem_nil_iff, or_false, not_or]; omega)) (by first | decide | omega) (by first | decide | omega) (by first | decide | omega)
    have nσ51_1_13 := hσ51_1.2.2 13 (by first | decide | (simp; done) | (simp only [List.mem_cons, List.mem_nil_iff, or_false, not_or]; omega)) (by first | decide | omega) (by first | decide | omega) (by first | decide | omega)
    have nu_σ51_1 : NU nu nuσ51_1 := nu_σ49.tr uσ51_1
    have uσ51_1_0 := uσ51_1.1 0 (by decide)
    have uσ51_1_1 := uσ51_1.1 1 (by decide)
    have uσ51_1_2 := uσ51_1.2
    have uσ51_1_5 := uσ51_1.1 5 (by decide)
    have uσ51_1_15 := uσ51_1.1 15 (by decide)
    have uσ51_1_16 := uσ51_1.1 16 (by decide)
    have kp94 : gI σ51_1 o 13 = gI σ49 o 13 := (cσ51_1.O (ko.up (xσ40.trans (xσ42.trans (xσ45.trans (xσ47.trans (xσ48.trans xσ49)))))) (by decide)).1
    have kp95 : gI σ51_1 o 6 = gI σ49 o 6 := (cσ51_1.O (ko.up (xσ40.trans (xσ42.trans (xσ45.trans (xσ47.trans (xσ48.trans xσ49)))))) (by decide)).1
    have kp96 : gI σ51_1 t 0 = gI σ49 t 0 := (cσ51_1.O (kt.up (xσ40.trans (xσ42.trans (xσ45.trans (xσ47.trans (xσ48.trans xσ49)))))) (by decide)).1
    have kp97 : gP σ51_1 c 0 = gP σ49 c 0 := (cσ51_1.O (kc.up (xσ40.trans (xσ42.trans (xσ45.trans (xσ47.trans (xσ48.trans xσ49)))))) (by decide)).2.1
    have kp98 : gP σ51_1 t 2 = gP σ49 t 2 := (cσ51_1.O (kt.up (xσ40.trans (xσ42.trans (xσ45.trans (xσ47.trans (xσ48.trans xσ49)))))) (by decide)).2.1
    have kp99 : gP σ51_1 th 0 = gP σ49 th 0 := (cσ51_1.O (kth.up (xσ40.trans (xσ42.trans (xσ45.trans (xσ47.trans (xσ48.trans xσ49)))))) (by decide)).2.1
    have kp100 : gI σ51_1 th 4 = gI σ49 th 4 := (cσ51_1.O (kth.up (xσ40.trans (xσ42.trans (xσ45.trans (xσ47.trans (xσ48.trans xσ49)))))) (by decide)).1
    have kp101 : gJ σ51_1 c 5 = gJ σ49 c 5 := (cσ51_1.O (kc.up (xσ40.trans (xσ42.trans (xσ45.trans (xσ47.trans (xσ48.trans xσ49)))))) (by decide)).2.2
    exact hQ σ51_1 LLσ51_1 Nσ51_1 nuσ51_1 () iσ51_1 fσ51_1 (nu_σ51_1) hnσ51_1 (by (first | omega | with_reducible assumption | with_reducible exact rng_toInt _ | with_reducible exact rng_wr _ | (unfold rng; omega) | (unfold rng at *; omega) | assumption))

set_option maxHeartbeats 1000000 in
theorem i_X6_aggregates {σ : Sg} {pl : Nat} {gq ci gr nc : Nat → Nat} {ot : Nat → Nat → Int} {LL : Nat → List Nat} {N nu : Nat → Nat} {th : Nat} {tx J o q c : Nat} (iσ : IV σ pl gq ci gr nc ot LL N nu) (kth : kO σ th 6) (hX0 : gP σ th 0 = some tx) (kX : kO σ tx 102) (gX : gn σ tx = 1500) (h7 : gP σ th 7 = some J) (kJ : kO σ J 4) (h8 : gP σ th 8 = some o) (ko : kO σ o 5) (hJq : gq J = q) (hq : q ≠ nc 0 ∧ q ≤ 1) (go : gq o = 16 * q + c) (hc : c < 16) (tf : gI σ th 5 ≤ gI σ th 2 ∧ (gI σ th 3 ≠ 0 → gI σ th 5 + 1 ≤ gI σ th 2)) (h5 : nu 5 < 24000) (lp : gI σ J 7 ≤ 2 * gI σ th 5) (f0 : gI σ o 3 = 1 ∧ gI σ o 4 = 0 ∧ 0 ≤ gI σ o 7) {Q : Sg → Unit → Prop} {X : Sg → String → Prop} (hQ : ∀ (σ' : Sg) (nu' : Nat → Nat) (r : Unit), IV σ' pl gq ci gr nc ot LL N nu' → Fx [261, 262, 263, 323, 324, 386, 387, 388, 389, 390, 6464, 8320] gr σ σ' → NC nu nu' → OX o σ σ' → ((gI σ' th 5 ≤ gI σ' th 2 ∧ (gI σ' th 3 ≠ 0 → gI σ' th 5 + 1 ≤ gI σ' th 2)) ∧ gI σ' J 7 ≤ 2 * gI σ' th 5 ∧ gI σ' o 4 ≤ 4) → Q σ' r) (hX : ∀ (σ' : Sg) (LL' : Nat → List Nat) (N' nu' : Nat → Nat) (E : String), IV σ' pl gq ci gr nc ot LL' N' nu' → Fx [261, 262, 263, 323, 324, 386, 387, 388, 389, 390, 6464, 8320] gr σ σ' → NCX nu nu' → (LL' = LL ∧ N' = N ∧ E = "java/lang/IllegalArgumentException" ∧ gI σ' th 6 ≠ 0) → X σ' E) : wp_X6_aggregates th σ Q X := by
  have fσ : Fx [261, 262, 263, 323, 324, 386, 387, 388, 389, 390, 6464, 8320] gr σ σ := Fx.rf
  have oxσ : OX o σ σ := OX.rf
  have q1 := I_6_5 iσ.1 kth
  have q2 := I_6_2 iσ.1 kth
  have q3 := iσ.rg th 3; unfold rng at q3
  have q4 := I_4_7 iσ.1 kJ
  have q5 := I_5_3 iσ.1 ko
  have q6 := I_5_4 iσ.1 ko
  have q7 := I_5_7 iσ.1 ko
  have ncb := iσ.ncb
  have r70 := I_4_7 iσ.1 kJ
  have r71 := I_4_1 iσ.1 kJ
  unfold wp_X6_aggregates
  unfold w_X6_aggregates_0
  have Lp2 : ∀ (fu2 : Nat) (τ2 : Sg) (nut2 : Nat → Nat) (v1 : Int), IV τ2 pl gq ci gr nc ot LL N nut2 → Fx [261, 262, 263, 323, 324, 386, 387, 388, 389, 390, 6464, 8320] gr σ τ2 → Ext σ τ2 → NC nu nut2 → OX o σ τ2 → ((0 ≤ v1 ∧ v1 ≤ 5) ∧ (gI τ2 th 5 ≤ gI τ2 th 2 ∧ (gI τ2 th 3 ≠ 0 → gI τ2 th 5 + 1 ≤ gI τ2 th 2)) ∧ gI τ2 J 7 ≤ 2 * gI τ2 th 5 ∧ 0 ≤ gI τ2 o 7 ∧ gI τ2 o 3 = gI τ2 o 4 + 1 ∧ gI τ2 o 4 ≤ 4) → ((5 - v1).toNat) < fu2 → wl_X6_aggregates_2 th Q X fu2 τ2 v1 := by
    intro fu2
    induction fu2 with
    | zero => intro _ _ _ _ _ _ _ _ _ h9; omega
    | succ fu2 ih2 =>
      intro τ2 nut2 v1 iτ2 fτ2 xτ2 nu_τ2 oxcτ2 hi2 hm2
      have uτ2_0 := nu_τ2 0 (by decide) (by decide)
      have uτ2_1 := nu_τ2 1 (by decide) (by decide)
      have uτ2_2 := nu_τ2 2 (by decide) (by decide)
      have uτ2_5 := nu_τ2 5 (by decide) (by decide)
      have uτ2_15 := nu_τ2 15 (by decide) (by decide)
      have uτ2_16 := nu_τ2 16 (by decide) (by decide)
      unfold wl_X6_aggregates_2
      have kp8 : gI τ2 o 7 = gI σ o 7 := (fτ2.O ko (by decide)).1
      have kp9 : gP τ2 th 0 = gP σ th 0 := (fτ2.O kth (by decide)).2.1
      have kp10 : gP τ2 th 7 = gP σ th 7 := (fτ2.O kth (by decide)).2.1
      have kp11 : gP τ2 th 8 = gP σ th 8 := (fτ2.O kth (by decide)).2.1
      have kp12 : gI τ2 J 1 = gI σ J 1 := (fτ2.O kJ (by decide)).1
      have kp13 : gI τ2 J 2 = gI σ J 2 := (fτ2.O kJ (by decide)).1
      have kp14 : gI τ2 o 6 = gI σ o 6 := (fτ2.O ko (by decide)).1
      have kp15 : gI τ2 o 8 = gI σ o 8 := (fτ2.O ko (by decide)).1
      have kp16 : gI τ2 o 9 = gI σ o 9 := (fτ2.O ko (by decide)).1
      have r3τ2 := I_5_3 iτ2.1 (ko.up xτ2)
      have r4τ2 := I_5_4 iτ2.1 (ko.up xτ2)
      unfold w_X6_aggregates_2
      by_cases hc17 : v1 > 4
      · rw [if_pos hc17]
        unfold w_X6_aggregates_126
        exact hQ τ2 nut2 () iτ2 fτ2 (nu_τ2) oxcτ2 (by omega)
      · rw [if_neg hc17]
        unfold w_X6_aggregates_7
        refine i_X6_newColumn iτ2 (kth.up xτ2) (kp9.trans hX0) (kX.up xτ2) (((xτ2) tx kX.1).2.2.trans gX) (kp11.trans h8) (ko.up xτ2) (by (first | omega | with_reducible assumption | with_reducible exact rng_toInt _ | with_reducible exact rng_wr _ | (unfold rng; omega) | (unfold rng at *; omega) | assumption)) (by (first | omega | with_reducible assumption | with_reducible exact rng_toInt _ | with_reducible exact rng_wr _ | (unfold rng; omega) | (unfold rng at *; omega) | assumption)) (by (first | omega | with_reducible assumption | with_reducible exact rng_toInt _ | with_reducible exact rng_wr _ | (unfold rng; omega) | (unfold rng at *; omega) | assumption)) (by (first | omega | with_reducible assumption | with_reducible exact rng_toInt _ | with_reducible exact rng_wr _ | (unfold rng; omega) | (unfold rng at *; omega) | assumption)) (by (first | omega | with_reducible assumption | with_reducible exact rng_toInt _ | with_reducible exact rng_wr _ | (unfold rng; omega) | (unfold rng at *; omega) | assumption)) (fun σ16 _ iσ16 cσ16 oxσ16 pσ16 => ?_) (fun σx LLx Nx nux E ix cx ux px => hX σx LLx Nx nux E ix (fτ2.tr (cx.mo (by decide))) (nu_τ2.x ux) (by first | exact px | exact ⟨by have := px.1; omega, px.2⟩ | (first | omega | with_reducible assumption | with_reducible exact rng_toInt _ | with_reducible exact rng_wr _ | (unfold rng; omega) | (unfold rng at *; omega) | assumption)))
        intro xσ16
        have fσ16 : Fx [261, 262, 263, 323, 324, 386, 387, 388, 389, 390, 6464, 8320] gr σ σ16 := fτ2.tr (cσ16.mo (by decide))
        have oxcσ16 : OX o σ σ16 := oxcτ2.tr oxσ16 (xτ2)
        have kp18 : gI σ16 o 7 = gI τ2 o 7 := (cσ16.O (ko.up xτ2) (by decide)).1
        have kp19 : gP σ16 th 0 = gP τ2 th 0 := (cσ16.O (kth.up xτ2) (by decide)).2.1
        have kp20 : gP σ16 th 7 = gP τ2 th 7 := (cσ16.O (kth.up xτ2) (by decide)).2.1
        have kp21 : gP σ16 th 8 = gP τ2 th 8 := (cσ16.O (kth.up xτ2) (by decide)).2.1
        have kp22 : gI σ16 J 7 = gI τ2 J 7 := (cσ16.O (kJ.up xτ2) (by decide)).1
        have kp23 : gI σ16 J 1 = gI τ2 J 1 := (cσ16.O (kJ.up xτ2) (by decide)).1
        have kp24 : gI σ16 J 2 = gI τ2 J 2 := (cσ16.O (kJ.up xτ2) (by decide)).1
        have kp25 : gI σ16 o 4 = gI τ2 o 4 := (cσ16.O (ko.up xτ2) (by decide)).1
        have kp26 : gI σ16 o 6 = gI τ2 o 6 := (cσ16.O (ko.up xτ2) (by decide)).1
        have kp27 : gI σ16 o 8 = gI τ2 o 8 := (cσ16.O (ko.up xτ2) (by decide)).1
        have kp28 : gI σ16 o 9 = gI τ2 o 9 := (cσ16.O (ko.up xτ2) (by decide)).1
        have r5σ16 := I_6_5 iσ16.1 (kth.up (xτ2.trans xσ16))
        refine i_X6_wantSign iσ16 (kth.up (xτ2.trans xσ16)) (kp19.trans (kp9.trans hX0)) (kX.up (xτ2.trans xσ16)) (((xτ2.trans xσ16) tx kX.1).2.2.trans gX) (by (first | omega | with_reducible assumption | with_reducible exact rng_toInt _ | with_reducible exact rng_wr _ | (unfold rng; omega) | (unfold rng at *; omega) | assumption)) (by (first | omega | with_reducible assumption | with_reducible exact rng_toInt _ | with_reducible exact rng_wr _ | (unfold rng; omega) | (unfold rng at *; omega) | assumption)) (fun σ17 _ iσ17 cσ17 pσ17 => ?_) (fun σx LLx Nx nux E ix cx ux px => hX σx LLx Nx nux E ix (fσ16.tr (cx.mo (by decide))) (nu_τ2.x ux) (by first | exact px | exact ⟨by have := px.1; omega, px.2⟩ | (first | omega | with_reducible assumption | with_reducible exact rng_toInt _ | with_reducible exact rng_wr _ | (unfold rng; omega) | (unfold rng at *; omega) | assumption)))
        intro xσ17
        have fσ17 : Fx [261, 262, 263, 323, 324, 386, 387, 388, 389, 390, 6464, 8320] gr σ σ17 := fσ16.tr (cσ17.mo (by decide))
        have oxcσ17 : OX o σ σ17 := oxcσ16.tr (OX.fx cσ17 (by decide) (by decide)) (xτ2.trans xσ16)
        have kp29 : gI σ17 o 7 = gI σ16 o 7 := (cσ17.O (ko.up (xτ2.trans xσ16)) (by decide)).1
        have kp30 : gP σ17 th 0 = gP σ16 th 0 := (cσ17.O (kth.up (xτ2.trans xσ16)) (by decide)).2.1
        have kp31 : gP σ17 th 7 = gP σ16 th 7 := (cσ17.O (kth.up (xτ2.trans xσ16)) (by decide)).2.1
        have kp32 : gP σ17 th 8 = gP σ16 th 8 := (cσ17.O (kth.up (xτ2.trans xσ16)) (by decide)).2.1
        have kp33 : gI σ17 J 7 = gI σ16 J 7 := (cσ17.O (kJ.up (xτ2.trans xσ16)) (by decide)).1
        have kp34 : gI σ17 J 1 = gI σ16 J 1 := (cσ17.O (kJ.up (xτ2.trans xσ16)) (by decide)).1
        have kp35 : gI σ17 J 2 = gI σ16 J 2 := (cσ17.O (kJ.up (xτ2.trans xσ16)) (by decide)).1
        have kp36 : gI σ17 o 3 = gI σ16 o 3 := (cσ17.O (ko.up (xτ2.trans xσ16)) (by decide)).1
        have kp37 : gI σ17 o 4 = gI σ16 o 4 := (cσ17.O (ko.up (xτ2.trans xσ16)) (by decide)).1
        have kp38 : gI σ17 o 6 = gI σ16 o 6 := (cσ17.O (ko.up (xτ2.trans xσ16)) (by decide)).1
        have kp39 : gI σ17 o 8 = gI σ16 o 8 := (cσ17.O (ko.up (xτ2.trans xσ16)) (by decide)).1
        have kp40 : gI σ17 o 9 = gI σ16 o 9 := (cσ17.O (ko.up (xτ2.trans xσ16)) (by decide)).1
        have r5σ17 := I_6_5 iσ17.1 (kth.up (xτ2.trans (xσ16.trans xσ17)))
        have q42 := iσ17.rg th 3; unfold rng at q42
        by_cases hc41 : gI σ17 th 3 ≠ 2
        · rw [if_pos hc41]
          unfold w_X6_aggregates_48
          refine i_X6_cannotStand iσ17 (kth.up (xτ2.trans (xσ16.trans xσ17))) (by (first | omega | with_reducible assumption | with_reducible exact rng_toInt _ | with_reducible exact rng_wr _ | (unfold rng; omega) | (unfold rng at *; omega) | assumption)) (fun σ18 _ iσ18 cσ18 pσ18 => ?_) (fun σx LLx Nx nux E ix cx ux px => hX σx LLx Nx nux E ix (fσ17.tr (cx.mo (by decide))) (nu_τ2.x ux) (by first | exact px | exact ⟨by have := px.1; omega, px.2⟩ | (first | omega | with_reducible assumption | with_reducible exact rng_toInt _ | with_reducible exact rng_wr _ | (unfold rng; omega) | (unfold rng at *; omega) | assumption)))
          intro xσ18
          exact pσ18.elim
        · rw [if_neg hc41]
          have hc41q := Classical.not_not.mp hc41
          unfold w_X6_aggregates_26
          by_cases hc43 : gJ σ17 th 4 < 18
          · rw [if_pos hc43]
            unfold w_X6_aggregates_48
            refine i_X6_cannotStand iσ17 (kth.up (xτ2.trans (xσ16.trans xσ17))) (by (first | omega | with_reducible assumption | with_reducible exact rng_toInt _ | with_reducible exact rng_wr _ | (unfold rng; omega) | (unfold rng at *; omega) | assumption)) (fun σ18_1 _ iσ18_1 cσ18_1 pσ18_1 => ?_) (fun σx LLx Nx nux E ix cx ux px => hX σx LLx Nx nux E ix (fσ17.tr (cx.mo (by decide))) (nu_τ2.x ux) (by first | exact px | exact ⟨by have := px.1; omega, px.2⟩ | (first | omega | with_reducible assumption | with_reducible exact rng_toInt _ | with_reducible exact rng_wr _ | (unfold rng; omega) | (unfold rng at *; omega) | assumption)))
            intro xσ18_1
            exact pσ18_1.elim
          · rw [if_neg hc43]
            unfold w_X6_aggregates_37
            by_cases hc44 : gJ σ17 th 4 ≤ 21
            · rw [if_pos hc44]
              unfold w_X6_aggregates_52
              refine ⟨o, (kp32.trans (kp21.trans (kp11.trans h8))), fun kk_o => ?_⟩
              obtain ⟨b, eb, fb⟩ := P_5_2 iσ17.1 (ko.up (xτ2.trans (xσ16.trans xσ17)))
              have mb : kO σ17 b 100 := iσ17.1.kd (ko.up (xτ2.trans (xσ16.trans xσ17))) rfl eb rfl
              refine ⟨b, eb, fun kk_b => ?_⟩
              have q45 := I_5_4 iσ17.1 (ko.up (xτ2.trans (xσ16.trans xσ17)))
              refine ⟨⟨by (first | omega | with_reducible assumption | with_reducible exact rng_toInt _ | with_reducible exact rng_wr _ | (unfold rng; omega) | (unfold rng at *; omega) | assumption), by (first | omega | with_reducible assumption | with_reducible exact rng_toInt _ | with_reducible exact rng_wr _ | (unfold rng; omega) | (unfold rng at *; omega) | assumption)⟩, ?_⟩
              intro σ21 eσ21
              have xσ21 : Ext σ17 σ21 := by rw [eσ21]; exact fun _ h => ⟨h, rfl, rfl⟩
              have iσ21 : IV σ21 pl gq ci gr nc ot LL N nut2 := by rw [eσ21]; exact iσ17.wA0 mb (by (first | omega | with_reducible assumption | with_reducible exact rng_toInt _ | with_reducible exact rng_wr _ | (unfold rng; omega) | (unfold rng at *; omega) | assumption)) (by first | exact rng_wr _ | (first | omega | with_reducible assumption | with_reducible exact rng_toInt _ | with_reducible exact rng_wr _ | (unfold rng; omega) | (unfold rng at *; omega) | assumption))
              have fσ21 : Fx [261, 262, 263, 323, 324, 386, 387, 388, 389, 390, 6464, 8320] gr σ σ21 := fσ17.tr (Sk.fx (by rw [eσ21]; exact Sk.pI (by rw [fcdI mb, show gr b = 0 from by (first | omega | with_reducible assumption | with_reducible exact rng_toInt _ | with_reducible exact rng_wr _ | (unfold rng; omega) | (unfold rng at *; omega) | assumption)]; decide)))
              have oxcσ21 : OX o σ σ21 := oxcσ17.tr (by rw [eσ21]; exact OX.pI mb (Or.inl (by decide))) (xτ2.trans (xσ16.trans xσ17))
              have wσ21 : gI σ21 b (gI σ17 o 4).toNat = (wr ((wr (0 + (gJ σ17 th 4).toInt32.toInt)) - 18)) := by rw [eσ21]; exact up2_s _ _ _ _
              have kp46 : gI σ21 o 4 = gI σ17 o 4 := by rw [eσ21]; exact up2_n _ _ (fun q => absurd q.1 (kO.ne (ko.up (xτ2.trans (xσ16.trans xσ17))) mb (by decide)))
              have kp47 : gI σ21 o 7 = gI σ17 o 7 := by rw [eσ21]; exact up2_n _ _ (fun q => absurd q.1 (kO.ne (ko.up (xτ2.trans (xσ16.trans xσ17))) mb (by decide)))
              have kp48 : gI σ21 th 3 = gI σ17 th 3 := by rw [eσ21]; exact up2_n _ _ (fun q => absurd q.1 (kO.ne (kth.up (xτ2.trans (xσ16.trans xσ17))) mb (by decide)))
              have kp49 : gP σ21 o 2 = gP σ17 o 2 := by rw [eσ21]
              have kp50 : gP σ21 th 0 = gP σ17 th 0 := by rw [eσ21]
              have kp51 : gP σ21 th 7 = gP σ17 th 7 := by rw [eσ21]
              have kp52 : gP σ21 th 8 = gP σ17 th 8 := by rw [eσ21]
              have kp53 : gI σ21 th 2 = gI σ17 th 2 := by rw [eσ21]; exact up2_n _ _ (fun q => absurd q.1 (kO.ne (kth.up (xτ2.trans (xσ16.trans xσ17))) mb (by decide)))
              have kp54 : gI σ21 th 5 = gI σ17 th 5 := by rw [eσ21]; exact up2_n _ _ (fun q => absurd q.1 (kO.ne (kth.up (xτ2.trans (xσ16.trans xσ17))) mb (by decide)))
              have kp55 : gI σ21 J 7 = gI σ17 J 7 := by rw [eσ21]; exact up2_n _ _ (fun q => absurd q.1 (kO.ne (kJ.up (xτ2.trans (xσ16.trans xσ17))) mb (by decide)))
              have kp56 : gI σ21 J 1 = gI σ17 J 1 := by rw [eσ21]; exact up2_n _ _ (fun q => absurd q.1 (kO.ne (kJ.up (xτ2.trans (xσ16.trans xσ17))) mb (by decide)))
              have kp57 : gI σ21 J 2 = gI σ17 J 2 := by rw [eσ21]; exact up2_n _ _ (fun q => absurd q.1 (kO.ne (kJ.up (xτ2.trans (xσ16.trans xσ17))) mb (by decide)))
              have kp58 : gI σ21 o 3 = gI σ17 o 3 := by rw [eσ21]; exact up2_n _ _ (fun q => absurd q.1 (kO.ne (ko.up (xτ2.trans (xσ16.trans xσ17))) mb (by decide)))
              have kp59 : gI σ21 o 6 = gI σ17 o 6 := by rw [eσ21]; exact up2_n _ _ (fun q => absurd q.1 (kO.ne (ko.up (xτ2.trans (xσ16.trans xσ17))) mb (by decide)))
              have kp60 : gI σ21 o 8 = gI σ17 o 8 := by rw [eσ21]; exact up2_n _ _ (fun q => absurd q.1 (kO.ne (ko.up (xτ2.trans (xσ16.trans xσ17))) mb (by decide)))
              have kp61 : gI σ21 o 9 = gI σ17 o 9 := by rw [eσ21]; exact up2_n _ _ (fun q => absurd q.1 (kO.ne (ko.up (xτ2.trans (xσ16.trans xσ17))) mb (by decide)))
              refine i_X6_next iσ21 (kth.up (xτ2.trans (xσ16.trans (xσ17.trans xσ21)))) (kp50.trans (kp30.trans (kp19.trans (kp9.trans hX0)))) (kX.up (xτ2.trans (xσ16.trans (xσ17.trans xσ21)))) (((xτ2.trans (xσ16.trans (xσ17.trans xσ21))) tx kX.1).2.2.trans gX) (by (first | omega | with_reducible assumption | with_reducible exact rng_toInt _ | with_reducible exact rng_wr _ | (unfold rng; omega) | (unfold rng at *; omega) | assumption)) (by (first | omega | with_reducible assumption | with_reducible exact rng_toInt _ | with_reducible exact rng_wr _ | (unfold rng; omega) | (unfold rng at *; omega) | assumption)) (fun σ22 _ iσ22 cσ22 pσ22 => ?_) (fun σx LLx Nx nux E ix cx ux px => hX σx LLx Nx nux E ix (fσ21.tr (cx.mo (by decide))) (nu_τ2.x ux) (by first | exact px | exact ⟨by have := px.1; omega, px.2⟩ | (first | omega | with_reducible assumption | with_reducible exact rng_toInt _ | with_reducible exact rng_wr _ | (unfold rng; omega) | (unfold rng at *; omega) | assumption)))
              intro xσ22
              have fσ22 : Fx [261, 262, 263, 323, 324, 386, 387, 388, 389, 390, 6464, 8320] gr σ σ22 := fσ21.tr (cσ22.mo (by decide))
              have oxcσ22 : OX o σ σ22 := oxcσ21.tr (OX.fx cσ22 (by decide) (by decide)) (xτ2.trans (xσ16.trans (xσ17.trans xσ21)))
              have kp62 : gI σ22 o 4 = gI σ21 o 4 := (cσ22.O (ko.up (xτ2.trans (xσ16.trans (xσ17.trans xσ21)))) (by decide)).1
              have kp63 : gI σ22 o 7 = gI σ21 o 7 := (cσ22.O (ko.up (xτ2.trans (xσ16.trans (xσ17.trans xσ21)))) (by decide)).1
              have kp64 : gP σ22 o 2 = gP σ21 o 2 := (cσ22.O (ko.up (xτ2.trans (xσ16.trans (xσ17.trans xσ21)))) (by decide)).2.1
              have kp65 : gP σ22 th 0 = gP σ21 th 0 := (cσ22.O (kth.up (xτ2.trans (xσ16.trans (xσ17.trans xσ21)))) (by decide)).2.1
              have kp66 : gP σ22 th 7 = gP σ21 th 7 := (cσ22.O (kth.up (xτ2.trans (xσ16.trans (xσ17.trans xσ21)))) (by decide)).2.1
              have kp67 : gP σ22 th 8 = gP σ21 th 8 := (cσ22.O (kth.up (xτ2.trans (xσ16.trans (xσ17.trans xσ21)))) (by decide)).2.1
              have kp68 : gI σ22 J 7 = gI σ21 J 7 := (cσ22.O (kJ.up (xτ2.trans (xσ16.trans (xσ17.trans xσ21)))) (by decide)).1
              have kp69 : gI σ22 J 1 = gI σ21 J 1 := (cσ22.O (kJ.up (xτ2.trans (xσ16.trans (xσ17.trans xσ21)))) (by decide)).1
              have kp70 : gI σ22 J 2 = gI σ21 J 2 := (cσ22.O (kJ.up (xτ2.trans (xσ16.trans (xσ17.trans xσ21)))) (by decide)).1
              have kp71 : gI σ22 o 3 = gI σ21 o 3 := (cσ22.O (ko.up (xτ2.trans (xσ16.trans (xσ17.trans xσ21)))) (by decide)).1
              have kp72 : gI σ22 o 6 = gI σ21 o 6 := (cσ22.O (ko.up (xτ2.trans (xσ16.trans (xσ17.trans xσ21)))) (by decide)).1
              have kp73 : gI σ22 o 8 = gI σ21 o 8 := (cσ22.O (ko.up (xτ2.trans (xσ16.trans (xσ17.trans xσ21)))) (by decide)).1
              have kp74 : gI σ22 o 9 = gI σ21 o 9 := (cσ22.O (ko.up (xτ2.trans (xσ16.trans (xσ17.trans xσ21)))) (by decide)).1
              have r5σ22 := I_6_5 iσ22.1 (kth.up (xτ2.trans (xσ16.trans (xσ17.trans (xσ21.trans xσ22)))))
              refine i_X6_newValue iσ22 (kth.up (xτ2.trans (xσ16.trans (xσ17.trans (xσ21.trans xσ22))))) (kp66.trans (kp51.trans (kp31.trans (kp20.trans (kp10.trans h7))))) (kJ.up (xτ2.trans (xσ16.trans (xσ17.trans (xσ21.trans xσ22))))) (kp67.trans (kp52.trans (kp32.trans (kp21.trans (kp11.trans h8))))) (ko.up (xτ2.trans (xσ16.trans (xσ17.trans (xσ21.trans xσ22))))) (by (first | omega | with_reducible assumption | with_reducible exact rng_toInt _ | with_reducible exact rng_wr _ | (unfold rng; omega) | (unfold rng at *; omega) | assumption)) (by (first | omega | with_reducible assumption | with_reducible exact rng_toInt _ | with_reducible exact rng_wr _ | (unfold rng; omega) | (unfold rng at *; omega) | assumption)) (by (first | omega | with_reducible assumption | with_reducible exact rng_toInt _ | with_reducible exact rng_wr _ | (unfold rng; omega) | (unfold rng at *; omega) | assumption)) (by (first | omega | with_reducible assumption | with_reducible exact rng_toInt _ | with_reducible exact rng_wr _ | (unfold rng; omega) | (unfold rng at *; omega) | assumption)) (fun σ23 _ iσ23 cσ23 oxσ23 pσ23 => ?_)
              intro xσ23
              have fσ23 : Fx [261, 262, 263, 323, 324, 386, 387, 388, 389, 390, 6464, 8320] gr σ σ23 := fσ22.tr (cσ23.mo (by decide))
              have oxcσ23 : OX o σ σ23 := oxcσ22.tr oxσ23 (xτ2.trans (xσ16.trans (xσ17.trans (xσ21.trans xσ22))))
              have kp75 : gI σ23 o 7 = gI σ22 o 7 := (cσ23.O (ko.up (xτ2.trans (xσ16.trans (xσ17.trans (xσ21.trans xσ22))))) (by decide)).1
              have kp76 : gP σ23 o 2 = gP σ22 o 2 := (cσ23.O (ko.up (xτ2.trans (xσ16.trans (xσ17.trans (xσ21.trans xσ22))))) (by decide)).2.1
              have kp77 : gP σ23 th 0 = gP σ22 th 0 := (cσ23.O (kth.up (xτ2.trans (xσ16.trans (xσ17.trans (xσ21.trans xσ22))))) (by decide)).2.1
              have kp78 : gP σ23 th 7 = gP σ22 th 7 := (cσ23.O (kth.up (xτ2.trans (xσ16.trans (xσ17.trans (xσ21.trans xσ22))))) (by decide)).2.1
              have kp79 : gP σ23 th 8 = gP σ22 th 8 := (cσ23.O (kth.up (xτ2.trans (xσ16.trans (xσ17.trans (xσ21.trans xσ22))))) (by decide)).2.1
              have kp80 : gI σ23 th 2 = gI σ22 th 2 := (cσ23.O (kth.up (xτ2.trans (xσ16.trans (xσ17.trans (xσ21.trans xσ22))))) (by decide)).1
              have kp81 : gI σ23 th 3 = gI σ22 th 3 := (cσ23.O (kth.up (xτ2.trans (xσ16.trans (xσ17.trans (xσ21.trans xσ22))))) (by decide)).1
              have kp82 : gI σ23 th 5 = gI σ22 th 5 := (cσ23.O (kth.up (xτ2.trans (xσ16.trans (xσ17.trans (xσ21.trans xσ22))))) (by decide)).1
              have kp83 : gI σ23 J 7 = gI σ22 J 7 := (cσ23.O (kJ.up (xτ2.trans (xσ16.trans (xσ17.trans (xσ21.trans xσ22))))) (by decide)).1
              have kp84 : gI σ23 J 1 = gI σ22 J 1 := (cσ23.O (kJ.up (xτ2.trans (xσ16.trans (xσ17.trans (xσ21.trans xσ22))))) (by decide)).1
              have kp85 : gI σ23 J 2 = gI σ22 J 2 := (cσ23.O (kJ.up (xτ2.trans (xσ16.trans (xσ17.trans (xσ21.trans xσ22))))) (by decide)).1
              have kp86 : gI σ23 o 3 = gI σ22 o 3 := (cσ23.O (ko.up (xτ2.trans (xσ16.trans (xσ17.trans (xσ21.trans xσ22))))) (by decide)).1
              have kp87 : gI σ23 o 6 = gI σ22 o 6 := (cσ23.O (ko.up (xτ2.trans (xσ16.trans (xσ17.trans (xσ21.trans xσ22))))) (by decide)).1
              have kp88 : gI σ23 o 8 = gI σ22 o 8 := (cσ23.O (ko.up (xτ2.trans (xσ16.trans (xσ17.trans (xσ21.trans xσ22))))) (by decide)).1
              have kp89 : gI σ23 o 9 = gI σ22 o 9 := (cσ23.O (ko.up (xτ2.trans (xσ16.trans (xσ17.trans (xσ21.trans xσ22))))) (by decide)).1
              by_cases hc90 : (wr ((wr (0 + (gJ σ17 th 4).toInt32.toInt)) - 18)) = 0
              · rw [if_pos hc90]
                unfold w_X6_aggregates_106
                refine i_X6_isSign iσ23 (kth.up (xτ2.trans (xσ16.trans (xσ17.trans (xσ21.trans (xσ22.trans xσ23)))))) (fun r29 pσ28 => ?_)
                intro xσ28
                by_cases hc91 : r29 ≠ 0
                · rw [if_pos hc91]
                  unfold w_X6_aggregates_116
                  refine i_X6_next iσ23 (kth.up (xτ2.trans (xσ16.trans (xσ17.trans (xσ21.trans (xσ22.trans xσ23)))))) (kp77.trans (kp65.trans (kp50.trans (kp30.trans (kp19.trans (kp9.trans hX0)))))) (kX.up (xτ2.trans (xσ16.trans (xσ17.trans (xσ21.trans (xσ22.trans xσ23)))))) (((xτ2.trans (xσ16.trans (xσ17.trans (xσ21.trans (xσ22.trans xσ23))))) tx kX.1).2.2.trans gX) (by (first | omega | with_reducible assumption | with_reducible exact rng_toInt _ | with_reducible exact rng_wr _ | (unfold rng; omega) | (unfold rng at *; omega) | assumption)) (by (first | omega | with_reducible assumption | with_reducible exact rng_toInt _ | with_reducible exact rng_wr _ | (unfold rng; omega) | (unfold rng at *; omega) | assumption)) (fun σ30 _ iσ30 cσ30 pσ30 => ?_) (fun σx LLx Nx nux E ix cx ux px => hX σx LLx Nx nux E ix (fσ23.tr (cx.mo (by decide))) (nu_τ2.x ux) (by first | exact px | exact ⟨by have := px.1; omega, px.2⟩ | (first | omega | with_reducible assumption | with_reducible exact rng_toInt _ | with_reducible exact rng_wr _ | (unfold rng; omega) | (unfold rng at *; omega) | assumption)))
                  intro xσ30
                  have fσ30 : Fx [261, 262, 263, 323, 324, 386, 387, 388, 389, 390, 6464, 8320] gr σ σ30 := fσ23.tr (cσ30.mo (by decide))
                  have oxcσ30 : OX o σ σ30 := oxcσ23.tr (OX.fx cσ30 (by decide) (by decide)) (xτ2.trans (xσ16.trans (xσ17.trans (xσ21.trans (xσ22.trans xσ23)))))
                  have kp92 : gI σ30 o 7 = gI σ23 o 7 := (cσ30.O (ko.up (xτ2.trans (xσ16.trans (xσ17.trans (xσ21.trans (xσ22.trans xσ23)))))) (by decide)).1
                  have kp93 : gP σ30 o 2 = gP σ23 o 2 := (cσ30.O (ko.up (xτ2.trans (xσ16.trans (xσ17.trans (xσ21.trans (xσ22.trans xσ23)))))) (by decide)).2.1
                  have kp94 : gP σ30 th 0 = gP σ23 th 0 := (cσ30.O (kth.up (xτ2.trans (xσ16.trans (xσ17.trans (xσ21.trans (xσ22.trans xσ23)))))) (by decide)).2.1
                  have kp95 : gP σ30 th 7 = gP σ23 th 7 := (cσ30.O (kth.up (xτ2.trans (xσ16.trans (xσ17.trans (xσ21.trans (xσ22.trans xσ23)))))) (by decide)).2.1
                  have kp96 : gP σ30 th 8 = gP σ23 th 8 := (cσ30.O (kth.up (xτ2.trans (xσ16.trans (xσ17.trans (xσ21.trans (xσ22.trans xσ23)))))) (by decide)).2.1
                  have kp97 : gI σ30 J 7 = gI σ23 J 7 := (cσ30.O (kJ.up (xτ2.trans (xσ16.trans (xσ17.trans (xσ21.trans (xσ22.trans xσ23)))))) (by decide)).1
                  have kp98 : gI σ30 J 1 = gI σ23 J 1 := (cσ30.O (kJ.up (xτ2.trans (xσ16.trans (xσ17.trans (xσ21.trans (xσ22.trans xσ23)))))) (by decide)).1
                  have kp99 : gI σ30 J 2 = gI σ23 J 2 := (cσ30.O (kJ.up (xτ2.trans (xσ16.trans (xσ17.trans (xσ21.trans (xσ22.trans xσ23)))))) (by decide)).1
                  have kp100 : gI σ30 o 3 = gI σ23 o 3 := (cσ30.O (ko.up (xτ2.trans (xσ16.trans (xσ17.trans (xσ21.trans (xσ22.trans xσ23)))))) (by decide)).1
                  have kp101 : gI σ30 o 4 = gI σ23 o 4 := (cσ30.O (ko.up (xτ2.trans (xσ16.trans (xσ17.trans (xσ21.trans (xσ22.trans xσ23)))))) (by decide)).1
                  have kp102 : gI σ30 o 6 = gI σ23 o 6 := (cσ30.O (ko.up (xτ2.trans (xσ16.trans (xσ17.trans (xσ21.trans (xσ22.trans xσ23)))))) (by decide)).1
                  have kp103 : gI σ30 o 8 = gI σ23 o 8 := (cσ30.O (ko.up (xτ2.trans (xσ16.trans (xσ17.trans (xσ21.trans (xσ22.trans xσ23)))))) (by decide)).1
                  have kp104 : gI σ30 o 9 = gI σ23 o 9 := (cσ30.O (ko.up (xτ2.trans (xσ16.trans (xσ17.trans (xσ21.trans (xσ22.trans xσ23)))))) (by decide)).1
                  have r5σ30 := I_6_5 iσ30.1 (kth.up (xτ2.trans (xσ16.trans (xσ17.trans (xσ21.trans (xσ22.trans (xσ23.trans xσ30)))))))
                  refine ⟨by (first | omega | with_reducible assumption | with_reducible exact rng_toInt _ | with_reducible exact rng_wr _ | (unfold rng; omega) | (unfold rng at *; omega) | assumption), ?_⟩
                  exact ih2 σ30 nut2 (v1 + 1) iσ30 fσ30 (xτ2.trans (xσ16.trans (xσ17.trans (xσ21.trans (xσ22.trans (xσ23.trans xσ30)))))) nu_τ2 oxcσ30 (by (first | omega | with_reducible assumption | with_reducible exact rng_toInt _ | with_reducible exact rng_wr _ | (unfold rng; omega) | (unfold rng at *; omega) | assumption)) (by (first | omega | with_reducible assumption | with_reducible exact rng_toInt _ | with_reducible exact rng_wr _ | (unfold rng; omega) | (unfold rng at *; omega) | assumption))
                · rw [if_neg hc91]
                  have hc91q := Classical.not_not.mp hc91
                  unfold w_X6_aggregates_115
                  exact hQ σ23 nut2 () iσ23 fσ23 (nu_τ2) oxcσ23 (by omega)
              · rw [if_neg hc90]
                unfold w_X6_aggregates_91
                refine i_X6_value iσ23 (kth.up (xτ2.trans (xσ16.trans (xσ17.trans (xσ21.trans (xσ22.trans xσ23)))))) (kp77.trans (kp65.trans (kp50.trans (kp30.trans (kp19.trans (kp9.trans hX0)))))) (kX.up (xτ2.trans (xσ16.trans (xσ17.trans (xσ21.trans (xσ22.trans xσ23)))))) (((xτ2.trans (xσ16.trans (xσ17.trans (xσ21.trans (xσ22.trans xσ23))))) tx kX.1).2.2.trans gX) (kp78.trans (kp66.trans (kp51.trans (kp31.trans (kp20.trans (kp10.trans h7)))))) (kJ.up (xτ2.trans (xσ16.trans (xσ17.trans (xσ21.trans (xσ22.trans xσ23)))))) (kp79.trans (kp67.trans (kp52.trans (kp32.trans (kp21.trans (kp11.trans h8)))))) (ko.up (xτ2.trans (xσ16.trans (xσ17.trans (xσ21.trans (xσ22.trans xσ23)))))) (by (first | omega | with_reducible assumption | with_reducible exact rng_toInt _ | with_reducible exact rng_wr _ | (unfold rng; omega) | (unfold rng at *; omega) | assumption)) (by (first | omega | with_reducible assumption | with_reducible exact rng_toInt _ | with_reducible exact rng_wr _ | (unfold rng; omega) | (unfold rng at *; omega) | assumption)) (by (first | omega | with_reducible assumption | with_reducible exact rng_toInt _ | with_reducible exact rng_wr _ | (unfold rng; omega) | (unfold rng at *; omega) | assumption)) (by (first | omega | with_reducible assumption | with_reducible exact rng_toInt _ | with_reducible exact rng_wr _ | (unfold rng; omega) | (unfold rng at *; omega) | assumption)) (by (first | omega | with_reducible assumption | with_reducible exact rng_toInt _ | with_reducible exact rng_wr _ | (unfold rng; omega) | (unfold rng at *; omega) | assumption)) (by (first | omega | with_reducible assumption | with_reducible exact rng_toInt _ | with_reducible exact rng_wr _ | (unfold rng; omega) | (unfold rng at *; omega) | assumption)) (by (first | omega | with_reducible assumption | with_reducible exact rng_toInt _ | with_reducible exact rng_wr _ | (unfold rng; omega) | (unfold rng at *; omega) | assumption)) (by (first | omega | with_reducible assumption | with_reducible exact rng_toInt _ | with_reducible exact rng_wr _ | (unfold rng; omega) | (unfold rng at *; omega) | assumption)) (by (first | omega | with_reducible assumption | with_reducible exact rng_toInt _ | with_reducible exact rng_wr _ | (unfold rng; omega) | (unfold rng at *; omega) | assumption)) (fun σ24 nuσ24 _ iσ24 cσ24 uσ24 pσ24 => ?_) (fun σx LLx Nx nux E ix cx ux px => hX σx LLx Nx nux E ix (fσ23.tr (cx.mo (by decide))) (nu_τ2.x ux) (by first | exact px | exact ⟨by have := px.1; omega, px.2⟩ | (first | omega | with_reducible assumption | with_reducible exact rng_toInt _ | with_reducible exact rng_wr _ | (unfold rng; omega) | (unfold rng at *; omega) | assumption)))
                intro xσ24
                have fσ24 : Fx [261, 262, 263, 323, 324, 386, 387, 388, 389, 390, 6464, 8320] gr σ σ24 := fσ23.tr (cσ24.mo (by decide))
                have oxcσ24 : OX o σ σ24 := oxcσ23.tr (OX.fx cσ24 (by decide) (by decide)) (xτ2.trans (xσ16.trans (xσ17.trans (xσ21.trans (xσ22.trans xσ23)))))
                have nu_σ24 : NC nu nuσ24 := nu_τ2.tr uσ24
                have uσ24_0 := uσ24 0 (by decide) (by decide)
                have uσ24_1 := uσ24 1 (by decide) (by decide)
                have uσ24_2 := uσ24 2 (by decide) (by decide)
                have uσ24_5 := uσ24 5 (by decide) (by decide)
                have uσ24_15 := uσ24 15 (by decide) (by decide)
                have uσ24_16 := uσ24 16 (by decide) (by decide)
                have kp105 : gI σ24 o 7 = gI σ23 o 7 := (cσ24.O (ko.up (xτ2.trans (xσ16.trans (xσ17.trans (xσ21.trans (xσ22.trans xσ23)))))) (by decide)).1
                have kp106 : gP σ24 o 2 = gP σ23 o 2 := (cσ24.O (ko.up (xτ2.trans (xσ16.trans (xσ17.trans (xσ21.trans (xσ22.trans xσ23)))))) (by decide)).2.1
                have kp107 : gP σ24 th 0 = gP σ23 th 0 := (cσ24.O (kth.up (xτ2.trans (xσ16.trans (xσ17.trans (xσ21.trans (xσ22.trans xσ23)))))) (by decide)).2.1
                have kp108 : gP σ24 th 7 = gP σ23 th 7 := (cσ24.O (kth.up (xτ2.trans (xσ16.trans (xσ17.trans (xσ21.trans (xσ22.trans xσ23)))))) (by decide)).2.1
                have kp109 : gP σ24 th 8 = gP σ23 th 8 := (cσ24.O (kth.up (xτ2.trans (xσ16.trans (xσ17.trans (xσ21.trans (xσ22.trans xσ23)))))) (by decide)).2.1
                have kp110 : gI σ24 J 1 = gI σ23 J 1 := (cσ24.O (kJ.up (xτ2.trans (xσ16.trans (xσ17.trans (xσ21.trans (xσ22.trans xσ23)))))) (by decide)).1
                have kp111 : gI σ24 J 2 = gI σ23 J 2 := (cσ24.O (kJ.up (xτ2.trans (xσ16.trans (xσ17.trans (xσ21.trans (xσ22.trans xσ23)))))) (by decide)).1
                have kp112 : gI σ24 o 3 = gI σ23 o 3 := (cσ24.O (ko.up (xτ2.trans (xσ16.trans (xσ17.trans (xσ21.trans (xσ22.trans xσ23)))))) (by decide)).1
                have kp113 : gI σ24 o 4 = gI σ23 o 4 := (cσ24.O (ko.up (xτ2.trans (xσ16.trans (xσ17.trans (xσ21.trans (xσ22.trans xσ23)))))) (by decide)).1
                have kp114 : gI σ24 o 6 = gI σ23 o 6 := (cσ24.O (ko.up (xτ2.trans (xσ16.trans (xσ17.trans (xσ21.trans (xσ22.trans xσ23)))))) (by decide)).1
                have kp115 : gI σ24 o 8 = gI σ23 o 8 := (cσ24.O (ko.up (xτ2.trans (xσ16.trans (xσ17.trans (xσ21.trans (xσ22.trans xσ23)))))) (by decide)).1
                have kp116 : gI σ24 o 9 = gI σ23 o 9 := (cσ24.O (ko.up (xτ2.trans (xσ16.trans (xσ17.trans (xσ21.trans (xσ22.trans xσ23)))))) (by decide)).1
                have r5σ24 := I_6_5 iσ24.1 (kth.up (xτ2.trans (xσ16.trans (xσ17.trans (xσ21.trans (xσ22.trans (xσ23.trans xσ24)))))))
                refine ⟨J, (kp108.trans (kp78.trans (kp66.trans (kp51.trans (kp31.trans (kp20.trans (kp10.trans h7))))))), fun kk_J => ?_⟩
                refine i_X4_emit iσ24 (kJ.up (xτ2.trans (xσ16.trans (xσ17.trans (xσ21.trans (xσ22.trans (xσ23.trans xσ24))))))) (by (first | omega | with_reducible assumption | with_reducible exact rng_toInt _ | with_reducible exact rng_wr _ | (unfold rng; omega) | (unfold rng at *; omega) | assumption)) (by (first | omega | with_reducible assumption | with_reducible exact rng_toInt _ | with_reducible exact rng_wr _ | (unfold rng; omega) | (unfold rng at *; omega) | assumption)) (by (first | omega | with_reducible assumption | with_reducible exact rng_toInt _ | with_reducible exact rng_wr _ | (unfold rng; omega) | (unfold rng at *; omega) | assumption)) (by (first | omega | with_reducible assumption | with_reducible exact rng_toInt _ | with_reducible exact rng_wr _ | (unfold rng; omega) | (unfold rng at *; omega) | assumption)) (fun σ25 nuσ25 r26 iσ25 cσ25 uσ25 pσ25 => ?_)
                intro xσ25
                have fσ25 : Fx [261, 262, 263, 323, 324, 386, 387, 388, 389, 390, 6464, 8320] gr σ σ25 := fσ24.tr (cσ25.mo (by decide))
                have oxcσ25 : OX o σ σ25 := oxcσ24.tr (OX.fx cσ25 (by decide) (by decide)) (xτ2.trans (xσ16.trans (xσ17.trans (xσ21.trans (xσ22.trans (xσ23.trans xσ24))))))
                have nu_σ25 : NC nu nuσ25 := nu_σ24.tr uσ25
                have uσ25_0 := uσ25 0 (by decide) (by decide)
                have uσ25_1 := uσ25 1 (by decide) (by decide)
                have uσ25_2 := uσ25 2 (by decide) (by decide)
                have uσ25_5 := uσ25 5 (by decide) (by decide)
                have uσ25_15 := uσ25 15 (by decide) (by decide)
                have uσ25_16 := uσ25 16 (by decide) (by decide)
                have kp117 : gI σ25 o 7 = gI σ24 o 7 := (cσ25.O (ko.up (xτ2.trans (xσ16.trans (xσ17.trans (xσ21.trans (xσ22.trans (xσ23.trans xσ24))))))) (by decide)).1
                have kp118 : gP σ25 o 2 = gP σ24 o 2 := (cσ25.O (ko.up (xτ2.trans (xσ16.trans (xσ17.trans (xσ21.trans (xσ22.trans (xσ23.trans xσ24))))))) (by decide)).2.1
                have kp119 : gP σ25 th 0 = gP σ24 th 0 := (cσ25.O (kth.up (xτ2.trans (xσ16.trans (xσ17.trans (xσ21.trans (xσ22.trans (xσ23.trans xσ24))))))) (by decide)).2.1
                have kp120 : gP σ25 th 7 = gP σ24 th 7 := (cσ25.O (kth.up (xτ2.trans (xσ16.trans (xσ17.trans (xσ21.trans (xσ22.trans (xσ23.trans xσ24))))))) (by decide)).2.1
                have kp121 : gP σ25 th 8 = gP σ24 th 8 := (cσ25.O (kth.up (xτ2.trans (xσ16.trans (xσ17.trans (xσ21.trans (xσ22.trans (xσ23.trans xσ24))))))) (by decide)).2.1
                have kp122 : gI σ25 th 2 = gI σ24 th 2 := (cσ25.O (kth.up (xτ2.trans (xσ16.trans (xσ17.trans (xσ21.trans (xσ22.trans (xσ23.trans xσ24))))))) (by decide)).1
                have kp123 : gI σ25 th 3 = gI σ24 th 3 := (cσ25.O (kth.up (xτ2.trans (xσ16.trans (xσ17.trans (xσ21.trans (xσ22.trans (xσ23.trans xσ24))))))) (by decide)).1
                have kp124 : gI σ25 th 5 = gI σ24 th 5 := (cσ25.O (kth.up (xτ2.trans (xσ16.trans (xσ17.trans (xσ21.trans (xσ22.trans (xσ23.trans xσ24))))))) (by decide)).1
                have kp125 : gI σ25 J 1 = gI σ24 J 1 := (cσ25.O (kJ.up (xτ2.trans (xσ16.trans (xσ17.trans (xσ21.trans (xσ22.trans (xσ23.trans xσ24))))))) (by decide)).1
                have kp126 : gI σ25 J 2 = gI σ24 J 2 := (cσ25.O (kJ.up (xτ2.trans (xσ16.trans (xσ17.trans (xσ21.trans (xσ22.trans (xσ23.trans xσ24))))))) (by decide)).1
                have kp127 : gI σ25 o 3 = gI σ24 o 3 := (cσ25.O (ko.up (xτ2.trans (xσ16.trans (xσ17.trans (xσ21.trans (xσ22.trans (xσ23.trans xσ24))))))) (by decide)).1
                have kp128 : gI σ25 o 4 = gI σ24 o 4 := (cσ25.O (ko.up (xτ2.trans (xσ16.trans (xσ17.trans (xσ21.trans (xσ22.trans (xσ23.trans xσ24))))))) (by decide)).1
                have kp129 : gI σ25 o 6 = gI σ24 o 6 := (cσ25.O (ko.up (xτ2.trans (xσ16.trans (xσ17.trans (xσ21.trans (xσ22.trans (xσ23.trans xσ24))))))) (by decide)).1
                have kp130 : gI σ25 o 8 = gI σ24 o 8 := (cσ25.O (ko.up (xτ2.trans (xσ16.trans (xσ17.trans (xσ21.trans (xσ22.trans (xσ23.trans xσ24))))))) (by decide)).1
                have kp131 : gI σ25 o 9 = gI σ24 o 9 := (cσ25.O (ko.up (xτ2.trans (xσ16.trans (xσ17.trans (xσ21.trans (xσ22.trans (xσ23.trans xσ24))))))) (by decide)).1
                unfold w_X6_aggregates_106
                refine i_X6_isSign iσ25 (kth.up (xτ2.trans (xσ16.trans (xσ17.trans (xσ21.trans (xσ22.trans (xσ23.trans (xσ24.trans xσ25)))))))) (fun r29_1 pσ28_1 => ?_)
                intro xσ28_1
                by_cases hc132 : r29_1 ≠ 0
                · rw [if_pos hc132]
                  unfold w_X6_aggregates_116
                  refine i_X6_next iσ25 (kth.up (xτ2.trans (xσ16.trans (xσ17.trans (xσ21.trans (xσ22.trans (xσ23.trans (xσ24.trans xσ25)))))))) (kp119.trans (kp107.trans (kp77.trans (kp65.trans (kp50.trans (kp30.trans (kp19.trans (kp9.trans hX0)))))))) (kX.up (xτ2.trans (xσ16.trans (xσ17.trans (xσ21.trans (xσ22.trans (xσ23.trans (xσ24.trans xσ25)))))))) (((xτ2.trans (xσ16.trans (xσ17.trans (xσ21.trans (xσ22.trans (xσ23.trans (xσ24.trans xσ25))))))) tx kX.1).2.2.trans gX) (by (first | omega | with_reducible assumption | with_reducible exact rng_toInt _ | with_reducible exact rng_wr _ | (unfold rng; omega) | (unfold rng at *; omega) | assumption)) (by (first | omega | with_reducible assumption | with_reducible exact rng_toInt _ | with_reducible exact rng_wr _ | (unfold rng; omega) | (unfold rng at *; omega) | assumption)) (fun σ30_1 _ iσ30_1 cσ30_1 pσ30_1 => ?_) (fun σx LLx Nx nux E ix cx ux px => hX σx LLx Nx nux E ix (fσ25.tr (cx.mo (by decide))) (nu_σ25.x ux) (by first | exact px | exact ⟨by have := px.1; omega, px.2⟩ | (first | omega | with_reducible assumption | with_reducible exact rng_toInt _ | with_reducible exact rng_wr _ | (unfold rng; omega) | (unfold rng at *; omega) | assumption)))
                  intro xσ30_1
                  have fσ30_1 : Fx [261, 262, 263, 323, 324, 386, 387, 388, 389, 390, 6464, 8320] gr σ σ30_1 := fσ25.tr (cσ30_1.mo (by decide))
                  have oxcσ30_1 : OX o σ σ30_1 := oxcσ25.tr (OX.fx cσ30_1 (by decide) (by decide)) (xτ2.trans (xσ16.trans (xσ17.trans (xσ21.trans (xσ22.trans (xσ23.trans (xσ24.trans xσ25)))))))
                  have kp133 : gI σ30_1 o 7 = gI σ25 o 7 := (cσ30_1.O (ko.up (xτ2.trans (xσ16.trans (xσ17.trans (xσ21.trans (xσ22.trans (xσ23.trans (xσ24.trans xσ25)))))))) (by decide)).1
                  have kp134 : gP σ30_1 o 2 = gP σ25 o 2 := (cσ30_1.O (ko.up (xτ2.trans (xσ16.trans (xσ17.trans (xσ21.trans (xσ22.trans (xσ23.trans (xσ24.trans xσ25)))))))) (by decide)).2.1
                  have kp135 : gP σ30_1 th 0 = gP σ25 th 0 := (cσ30_1.O (kth.up (xτ2.trans (xσ16.trans (xσ17.trans (xσ21.trans (xσ22.trans (xσ23.trans (xσ24.trans xσ25)))))))) (by decide)).2.1
                  have kp136 : gP σ30_1 th 7 = gP σ25 th 7 := (cσ30_1.O (kth.up (xτ2.trans (xσ16.trans (xσ17.trans (xσ21.trans (xσ22.trans (xσ23.trans (xσ24.trans xσ25)))))))) (by decide)).2.1
                  have kp137 : gP σ30_1 th 8 = gP σ25 th 8 := (cσ30_1.O (kth.up (xτ2.trans (xσ16.trans (xσ17.trans (xσ21.trans (xσ22.trans (xσ23.trans (xσ24.trans xσ25)))))))) (by decide)).2.1
                  have kp138 : gI σ30_1 J 7 = gI σ25 J 7 := (cσ30_1.O (kJ.up (xτ2.trans (xσ16.trans (xσ17.trans (xσ21.trans (xσ22.trans (xσ23.trans (xσ24.trans xσ25)))))))) (by decide)).1
                  have kp139 : gI σ30_1 J 1 = gI σ25 J 1 := (cσ30_1.O (kJ.up (xτ2.trans (xσ16.trans (xσ17.trans (xσ21.trans (xσ22.trans (xσ23.trans (xσ24.trans xσ25)))))))) (by decide)).1
                  have kp140 : gI σ30_1 J 2 = gI σ25 J 2 := (cσ30_1.O (kJ.up (xτ2.trans (xσ16.trans (xσ17.trans (xσ21.trans (xσ22.trans (xσ23.trans (xσ24.trans xσ25)))))))) (by decide)).1
                  have kp141 : gI σ30_1 o 3 = gI σ25 o 3 := (cσ30_1.O (ko.up (xτ2.trans (xσ16.trans (xσ17.trans (xσ21.trans (xσ22.trans (xσ23.trans (xσ24.trans xσ25)))))))) (by decide)).1
                  have kp142 : gI σ30_1 o 4 = gI σ25 o 4 := (cσ30_1.O (ko.up (xτ2.trans (xσ16.trans (xσ17.trans (xσ21.trans (xσ22.trans (xσ23.trans (xσ24.trans xσ25)))))))) (by decide)).1
                  have kp143 : gI σ30_1 o 6 = gI σ25 o 6 := (cσ30_1.O (ko.up (xτ2.trans (xσ16.trans (xσ17.trans (xσ21.trans (xσ22.trans (xσ23.trans (xσ24.trans xσ25)))))))) (by decide)).1
                  have kp144 : gI σ30_1 o 8 = gI σ25 o 8 := (cσ30_1.O (ko.up (xτ2.trans (xσ16.trans (xσ17.trans (xσ21.trans (xσ22.trans (xσ23.trans (xσ24.trans xσ25)))))))) (by decide)).1
                  have kp145 : gI σ30_1 o 9 = gI σ25 o 9 := (cσ30_1.O (ko.up (xτ2.trans (xσ16.trans (xσ17.trans (xσ21.trans (xσ22.trans (xσ23.trans (xσ24.trans xσ25)))))))) (by decide)).1
                  have r5σ30_1 := I_6_5 iσ30_1.1 (kth.up (xτ2.trans (xσ16.trans (xσ17.trans (xσ21.trans (xσ22.trans (xσ23.trans (xσ24.trans (xσ25.trans xσ30_1)))))))))
                  refine ⟨by (first | omega | with_reducible assumption | with_reducible exact rng_toInt _ | with_reducible exact rng_wr _ | (unfold rng; omega) | (unfold rng at *; omega) | assumption), ?_⟩
                  exact ih2 σ30_1 nuσ25 (v1 + 1) iσ30_1 fσ30_1 (xτ2.trans (xσ16.trans (xσ17.trans (xσ21.trans (xσ22.trans (xσ23.trans (xσ24.trans (xσ25.trans xσ30_1)))))))) nu_σ25 oxcσ30_1 (by (first | omega | with_reducible assumption | with_reducible exact rng_toInt _ | with_reducible exact rng_wr _ | (unfold rng; omega) | (unfold rng at *; omega) | assumption)) (by (first | omega | with_reducible assumption | with_reducible exact rng_toInt _ | with_reducible exact rng_wr _ | (unfold rng; omega) | (unfold rng at *; omega) | assumption))
                · rw [if_neg hc132]
                  have hc132q := Classical.not_not.mp hc132
                  unfold w_X6_aggregates_115
                  exact hQ σ25 nuσ25 () iσ25 fσ25 (nu_σ25) oxcσ25 (by omega)
            · rw [if_neg hc44]
              unfold w_X6_aggregates_48
              refine i_X6_cannotStand iσ17 (kth.up (xτ2.trans (xσ16.trans xσ17))) (by (first | omega | with_reducible assumption | with_reducible exact rng_toInt _ | with_reducible exact rng_wr _ | (unfold rng; omega) | (unfold rng at *; omega) | assumption)) (fun σ18_2 _ iσ18_2 cσ18_2 pσ18_2 => ?_) (fun σx LLx Nx nux E ix cx ux px => hX σx LLx Nx nux E ix (fσ17.tr (cx.mo (by decide))) (nu_τ2.x ux) (by first | exact px | exact ⟨by have := px.1; omega, px.2⟩ | (first | omega | with_reducible assumption | with_reducible exact rng_toInt _ | with_reducible exact rng_wr _ | (unfold rng; omega) | (unfold rng at *; omega) | assumption)))
              intro xσ18_2
              exact pσ18_2.elim
  exact ⟨_, Lp2 _ σ nu _ iσ fσ (Ext.rfl' _) NC.rf oxσ (by (first | omega | with_reducible assumption | with_reducible exact rng_toInt _ | with_reducible exact rng_wr _ | (unfold rng; omega) | (unfold rng at *; omega) | assumption)) (Nat.lt_succ_self _)⟩
set_option maxHeartbeats 1000000 in
theorem i_X6_pairText {σ : Sg} {pl : Nat} {gq ci gr nc : Nat → Nat} {ot : Nat → Nat → Int} {LL : Nat → List Nat} {N nu : Nat → Nat} {th : Nat} {v1 : Int} {tx J o q c : Nat} (iσ : IV σ pl gq ci gr nc ot LL N nu) (kth : kO σ th 6) (hX0 : gP σ th 0 = some tx) (kX : kO σ tx 102) (gX : gn σ tx = 1500) (h7 : gP σ th 7 = some J) (kJ : kO σ J 4) (h8 : gP σ th 8 = some o) (ko : kO σ o 5) (hJq : gq J = q) (hq : q ≠ nc 0 ∧ q ≤ 1) (go : gq o = 16 * q + c) (hc : c < 16) (cJ : gI σ J 1 = (c : Int)) (tf : gI σ th 5 ≤ gI σ th 2 ∧ (gI σ th 3 ≠ 0 → gI σ th 5 + 1 ≤ gI σ th 2)) (h5 : nu 5 < 24000) (lp : gI σ J 7 ≤ 2 * gI σ th 5) (f0 : gI σ o 3 = 0 ∧ gI σ o 4 = 0 ∧ gI σ o 7 = -1 ∧ gI σ o 8 = -1) (hk : v1 = 6 ∨ v1 = 7) {Q : Sg → Unit → Prop} {X : Sg → String → Prop} (hQ : ∀ (σ' : Sg) (r : Unit), IV σ' pl gq ci gr nc ot LL N nu → Fx [323, 326, 327, 328, 333, 334, 335, 336, 386, 387, 388, 389, 390, 6464] gr σ σ' → OX o σ σ' → ((gI σ' th 5 ≤ gI σ' th 2 ∧ (gI σ' th 3 ≠ 0 → gI σ' th 5 + 1 ≤ gI σ' th 2)) ∧ gI σ' J 7 ≤ 2 * gI σ' th 5 ∧ OPR σ σ' gq q c o) → Q σ' r) (hX : ∀ (σ' : Sg) (LL' : Nat → List Nat) (N' nu' : Nat → Nat) (E : String), IV σ' pl gq ci gr nc ot LL' N' nu' → Fx [323, 326, 327, 328, 333, 334, 335, 336, 386, 387, 388, 389, 390, 6464] gr σ σ' → NCX nu nu' → (LL' = LL ∧ N' = N ∧ E = "java/lang/IllegalArgumentException" ∧ gI σ' th 6 ≠ 0) → X σ' E) : wp_X6_pairText th v1 σ Q X := by
  have fσ : Fx [323, 326, 327, 328, 333, 334, 335, 336, 386, 387, 388, 389, 390, 6464] gr σ σ := Fx.rf
  have oxσ : OX o σ σ := OX.rf
  have q1 := I_4_1 iσ.1 kJ
  have q2 := I_6_5 iσ.1 kth
  have q3 := I_6_2 iσ.1 kth
  have q4 := iσ.rg th 3; unfold rng at q4
  have q5 := I_4_7 iσ.1 kJ
  have q6 := I_5_3 iσ.1 ko
  have q7 := I_5_4 iσ.1 ko
  have q8 := I_5_7 iσ.1 ko
  have q9 := I_5_8 iσ.1 ko
  have ncb := iσ.ncb
  have r70 := I_4_7 iσ.1 kJ
  have r71 := I_4_1 iσ.1 kJ
  unfold wp_X6_pairText
  unfold w_X6_pairText_0
  refine i_X6_next iσ kth hX0 kX (((Ext.rfl' _) tx kX.1).2.2.trans gX) (by (first | omega | with_reducible assumption | with_reducible exact rng_toInt _ | with_reducible exact rng_wr _ | (unfold rng; omega) | (unfold rng at *; omega) | assumption)) (by (first | omega | with_reducible assumption | with_reducible exact rng_toInt _ | with_reducible exact rng_wr _ | (unfold rng; omega) | (unfold rng at *; omega) | assumption)) (fun σ49 _ iσ49 cσ49 pσ49 => ?_) (fun σx LLx Nx nux E ix cx ux px => hX σx LLx Nx nux E ix (fσ.tr (cx.mo (by decide))) (ux) (by first | exact px | exact ⟨by have := px.1; omega, px.2⟩ | (first | omega | with_reducible assumption | with_reducible exact rng_toInt _ | with_reducible exact rng_wr _ | (unfold rng; omega) | (unfold rng at *; omega) | assumption)))
  intro xσ49
  have fσ49 : Fx [323, 326, 327, 328, 333, 334, 335, 336, 386, 387, 388, 389, 390, 6464] gr σ σ49 := fσ.tr (cσ49.mo (by decide))
  have oxcσ49 : OX o σ σ49 := oxσ.tr (OX.fx cσ49 (by decide) (by decide)) (Ext.rfl' _)
  have kp10 : gI σ49 J 1 = gI σ J 1 := (cσ49.O kJ (by decide)).1
  have kp11 : gI σ49 J 7 = gI σ J 7 := (cσ49.O kJ (by decide)).1
  have kp12 : gI σ49 o 3 = gI σ o 3 := (cσ49.O ko (by decide)).1
  have kp13 : gI σ49 o 4 = gI σ o 4 := (cσ49.O ko (by decide)).1
  have kp14 : gI σ49 o 7 = gI σ o 7 := (cσ49.O ko (by decide)).1
  have kp15 : gI σ49 o 8 = gI σ o 8 := (cσ49.O ko (by decide)).1
  have kp16 : gP σ49 th 0 = gP σ th 0 := (cσ49.O kth (by decide)).2.1
  have kp17 : gP σ49 th 7 = gP σ th 7 := (cσ49.O kth (by decide)).2.1
  have kp18 : gP σ49 th 8 = gP σ th 8 := (cσ49.O kth (by decide)).2.1
  have kp19 : gI σ49 J 2 = gI σ J 2 := (cσ49.O kJ (by decide)).1
  have kp20 : gI σ49 o 6 = gI σ o 6 := (cσ49.O ko (by decide)).1
  have kp21 : gI σ49 o 9 = gI σ o 9 := (cσ49.O ko (by decide)).1
  have r5σ49 := I_6_5 iσ49.1 (kth.up xσ49)
  refine i_X6_firstInput iσ49 (kth.up xσ49) (kp17.trans h7) (kJ.up xσ49) (kp18.trans h8) (ko.up xσ49) (by (first | omega | with_reducible assumption | with_reducible exact rng_toInt _ | with_reducible exact rng_wr _ | (unfold rng; omega) | (unfold rng at *; omega) | assumption)) (by (first | omega | with_reducible assumption | with_reducible exact rng_toInt _ | with_reducible exact rng_wr _ | (unfold rng; omega) | (unfold rng at *; omega) | assumption)) (by (first | omega | with_reducible assumption | with_reducible exact rng_toInt _ | with_reducible exact rng_wr _ | (unfold rng; omega) | (unfold rng at *; omega) | assumption)) (by (first | omega | with_reducible assumption | with_reducible exact rng_toInt _ | with_reducible exact rng_wr _ | (unfold rng; omega) | (unfold rng at *; omega) | assumption)) (by (first | omega | with_reducible assumption | with_reducible exact rng_toInt _ | with_reducible exact rng_wr _ | (unfold rng; omega) | (unfold rng at *; omega) | assumption)) (by (first | omega | with_reducible assumption | with_reducible exact rng_toInt _ | with_reducible exact rng_wr _ | (unfold rng; omega) | (unfold rng at *; omega) | assumption)) (fun σ50 _ iσ50 cσ50 oxσ50 pσ50 => ?_) (fun σx LLx Nx nux E ix cx ux px => hX σx LLx Nx nux E ix (fσ49.tr (cx.mo (by decide))) (ux) (by first | exact px | exact ⟨by have := px.1; omega, px.2⟩ | (first | omega | with_reducible assumption | with_reducible exact rng_toInt _ | with_reducible exact rng_wr _ | (unfold rng; omega) | (unfold rng at *; omega) | assumption)))
  intro xσ50
  have fσ50 : Fx [323, 326, 327, 328, 333, 334, 335, 336, 386, 387, 388, 389, 390, 6464] gr σ σ50 := fσ49.tr (cσ50.mo (by decide))
  have oxcσ50 : OX o σ σ50 := oxcσ49.tr oxσ50 (xσ49)
  have kp22 : gI σ50 J 1 = gI σ49 J 1 := (cσ50.O (kJ.up xσ49) (by decide)).1
  have kp23 : gI σ50 J 7 = gI σ49 J 7 := (cσ50.O (kJ.up xσ49) (by decide)).1
  have kp24 : gI σ50 o 3 = gI σ49 o 3 := (cσ50.O (ko.up xσ49) (by decide)).1
  have kp25 : gI σ50 o 4 = gI σ49 o 4 := (cσ50.O (ko.up xσ49) (by decide)).1
  have kp26 : gI σ50 o 8 = gI σ49 o 8 := (cσ50.O (ko.up xσ49) (by decide)).1
  have kp27 : gP σ50 th 0 = gP σ49 th 0 := (cσ50.O (kth.up xσ49) (by decide)).2.1
  have kp28 : gP σ50 th 7 = gP σ49 th 7 := (cσ50.O (kth.up xσ49) (by decide)).2.1
  have kp29 : gP σ50 th 8 = gP σ49 th 8 := (cσ50.O (kth.up xσ49) (by decide)).2.1
  have kp30 : gI σ50 th 2 = gI σ49 th 2 := (cσ50.O (kth.up xσ49) (by decide)).1
  have kp31 : gI σ50 th 3 = gI σ49 th 3 := (cσ50.O (kth.up xσ49) (by decide)).1
  have kp32 : gI σ50 th 5 = gI σ49 th 5 := (cσ50.O (kth.up xσ49) (by decide)).1
  have kp33 : gI σ50 J 2 = gI σ49 J 2 := (cσ50.O (kJ.up xσ49) (by decide)).1
  have kp34 : gI σ50 o 9 = gI σ49 o 9 := (cσ50.O (ko.up xσ49) (by decide)).1
  refine i_X6_next iσ50 (kth.up (xσ49.trans xσ50)) (kp27.trans (kp16.trans hX0)) (kX.up (xσ49.trans xσ50)) (((xσ49.trans xσ50) tx kX.1).2.2.trans gX) (by (first | omega | with_reducible assumption | with_reducible exact rng_toInt _ | with_reducible exact rng_wr _ | (unfold rng; omega) | (unfold rng at *; omega) | assumption)) (by (first | omega | with_reducible assumption | with_reducible exact rng_toInt _ | with_reducible exact rng_wr _ | (unfold rng; omega) | (unfold rng at *; omega) | assumption)) (fun σ51 _ iσ51 cσ51 pσ51 => ?_) (fun σx LLx Nx nux E ix cx ux px => hX σx LLx Nx nux E ix (fσ50.tr (cx.mo (by decide))) (ux) (by first | exact px | exact ⟨by have := px.1; omega, px.2⟩ | (first | omega | with_reducible assumption | with_reducible exact rng_toInt _ | with_reducible exact rng_wr _ | (unfold rng; omega) | (unfold rng at *; omega) | assumption)))
  intro xσ51
  have fσ51 : Fx [323, 326, 327, 328, 333, 334, 335, 336, 386, 387, 388, 389, 390, 6464] gr σ σ51 := fσ50.tr (cσ51.mo (by decide))
  have oxcσ51 : OX o σ σ51 := oxcσ50.tr (OX.fx cσ51 (by decide) (by decide)) (xσ49.trans xσ50)
  have kp35 : gI σ51 J 1 = gI σ50 J 1 := (cσ51.O (kJ.up (xσ49.trans xσ50)) (by decide)).1
  have kp36 : gI σ51 J 7 = gI σ50 J 7 := (cσ51.O (kJ.up (xσ49.trans xσ50)) (by decide)).1
  have kp37 : gI σ51 o 3 = gI σ50 o 3 := (cσ51.O (ko.up (xσ49.trans xσ50)) (by decide)).1
  have kp38 : gI σ51 o 4 = gI σ50 o 4 := (cσ51.O (ko.up (xσ49.trans xσ50)) (by decide)).1
  have kp39 : gI σ51 o 8 = gI σ50 o 8 := (cσ51.O (ko.up (xσ49.trans xσ50)) (by decide)).1
  have kp40 : gP σ51 th 0 = gP σ50 th 0 := (cσ51.O (kth.up (xσ49.trans xσ50)) (by decide)).2.1
  have kp41 : gP σ51 th 7 = gP σ50 th 7 := (cσ51.O (kth.up (xσ49.trans xσ50)) (by decide)).2.1
  have kp42 : gP σ51 th 8 = gP σ50 th 8 := (cσ51.O (kth.up (xσ49.trans xσ50)) (by decide)).2.1
  have kp43 : gI σ51 J 2 = gI σ50 J 2 := (cσ51.O (kJ.up (xσ49.trans xσ50)) (by decide)).1
  have kp44 : gI σ51 o 6 = gI σ50 o 6 := (cσ51.O (ko.up (xσ49.trans xσ50)) (by decide)).1
  have kp45 : gI σ51 o 7 = gI σ50 o 7 := (cσ51.O (ko.up (xσ49.trans xσ50)) (by decide)).1
  have kp46 : gI σ51 o 9 = gI σ50 o 9 := (cσ51.O (ko.up (xσ49.trans xσ50)) (by decide)).1
  have r5σ51 := I_6_5 iσ51.1 (kth.up (xσ49.trans (xσ50.trans xσ51)))
  refine ⟨J, (kp41.trans (kp28.trans (kp17.trans h7))), fun kk_J => ?_⟩
  refine ⟨o, (kp42.trans (kp29.trans (kp18.trans h8))), fun kk_o => ?_⟩
  obtain ⟨b, eb, fb⟩ := P_4_0 iσ51.1 (kJ.up (xσ49.trans (xσ50.trans xσ51)))
  have mb : kO σ51 b 115 := iσ51.1.kd (kJ.up (xσ49.trans (xσ50.trans xσ51))) rfl eb rfl
  refine ⟨b, eb, fun kk_b => ?_⟩
  have q47 := I_5_7 iσ51.1 (ko.up (xσ49.trans (xσ50.trans xσ51)))
  refine ⟨⟨by (first | omega | with_reducible assumption | with_reducible exact rng_toInt _ | with_reducible exact rng_wr _ | (unfold rng; omega) | (unfold rng at *; omega) | assumption), by (first | omega | with_reducible assumption | with_reducible exact rng_toInt _ | with_reducible exact rng_wr _ | (unfold rng; omega) | (unfold rng at *; omega) | assumption)⟩, ?_⟩
  refine i_X6_input iσ51 (kth.up (xσ49.trans (xσ50.trans xσ51))) (kp41.trans (kp28.trans (kp17.trans h7))) (kJ.up (xσ49.trans (xσ50.trans xσ51))) (by (first | omega | with_reducible assumption | with_reducible exact rng_toInt _ | with_reducible exact rng_wr _ | (unfold rng; omega) | (unfold rng at *; omega) | assumption)) (fun σ55 r56 iσ55 cσ55 pσ55 => ?_) (fun σx LLx Nx nux E ix cx ux px => hX σx LLx Nx nux E ix (fσ51.tr (cx.mo (by decide))) (ux) (by first | exact px | exact ⟨by have := px.1; omega, px.2⟩ | (first | omega | with_reducible assumption | with_reducible exact rng_toInt _ | with_reducible exact rng_wr _ | (unfold rng; omega) | (unfold rng at *; omega) | assumption)))
  intro xσ55
  have fσ55 : Fx [323, 326, 327, 328, 333, 334, 335, 336, 386, 387, 388, 389, 390, 6464] gr σ σ55 := fσ51.tr (cσ55.mo (by decide))
  have oxcσ55 : OX o σ σ55 := oxcσ51.tr (OX.fx cσ55 (by decide) (by decide)) (xσ49.trans (xσ50.trans xσ51))
  have kp48 : gI σ55 J 1 = gI σ51 J 1 := (cσ55.O (kJ.up (xσ49.trans (xσ50.trans xσ51))) (by decide)).1
  have kp49 : gI σ55 J 7 = gI σ51 J 7 := (cσ55.O (kJ.up (xσ49.trans (xσ50.trans xσ51))) (by decide)).1
  have kp50 : gI σ55 o 3 = gI σ51 o 3 := (cσ55.O (ko.up (xσ49.trans (xσ50.trans xσ51))) (by decide)).1
  have kp51 : gI σ55 o 4 = gI σ51 o 4 := (cσ55.O (ko.up (xσ49.trans (xσ50.trans xσ51))) (by decide)).1
  have kp52 : gI σ55 o 7 = gI σ51 o 7 := (cσ55.O (ko.up (xσ49.trans (xσ50.trans xσ51))) (by decide)).1
  have kp53 : gI σ55 o 8 = gI σ51 o 8 := (cσ55.O (ko.up (xσ49.trans (xσ50.trans xσ51))) (by decide)).1
  have kp54 : gP σ55 J 0 = gP σ51 J 0 := (cσ55.O (kJ.up (xσ49.trans (xσ50.trans xσ51))) (by decide)).2.1
  have kp55 : gP σ55 th 0 = gP σ51 th 0 := (cσ55.O (kth.up (xσ49.trans (xσ50.trans xσ51))) (by decide)).2.1
  have kp56 : gP σ55 th 7 = gP σ51 th 7 := (cσ55.O (kth.up (xσ49.trans (xσ50.trans xσ51))) (by decide)).2.1
  have kp57 : gP σ55 th 8 = gP σ51 th 8 := (cσ55.O (kth.up (xσ49.trans (xσ50.trans xσ51))) (by decide)).2.1
  have kp58 : gI σ55 th 2 = gI σ51 th 2 := (cσ55.O (kth.up (xσ49.trans (xσ50.trans xσ51))) (by decide)).1
  have kp59 : gI σ55 th 3 = gI σ51 th 3 := (cσ55.O (kth.up (xσ49.trans (xσ50.trans xσ51))) (by decide)).1
  have kp60 : gI σ55 th 5 = gI σ51 th 5 := (cσ55.O (kth.up (xσ49.trans (xσ50.trans xσ51))) (by decide)).1
  have kp61 : gI σ55 J 2 = gI σ51 J 2 := (cσ55.O (kJ.up (xσ49.trans (xσ50.trans xσ51))) (by decide)).1
  have kp62 : gI σ55 o 6 = gI σ51 o 6 := (cσ55.O (ko.up (xσ49.trans (xσ50.trans xσ51))) (by decide)).1
  have kp63 : gI σ55 o 9 = gI σ51 o 9 := (cσ55.O (ko.up (xσ49.trans (xσ50.trans xσ51))) (by decide)).1
  intro σ57 eσ57
  have xσ57 : Ext σ55 σ57 := by rw [eσ57]; exact fun _ h => ⟨h, rfl, rfl⟩
  have iσ57 : IV σ57 pl gq ci gr nc ot LL N nu := by rw [eσ57]; exact iσ55.wSp (ko.up (xσ49.trans (xσ50.trans (xσ51.trans xσ55)))) (fun i hi => by omega) (by decide) (show (-1 : Int) ≤ r56 ∧ r56 ≤ 15 from ⟨by omega, by omega⟩)
  have fσ57 : Fx [323, 326, 327, 328, 333, 334, 335, 336, 386, 387, 388, 389, 390, 6464] gr σ σ57 := fσ55.tr (Sk.fx (by rw [eσ57]; exact Sk.pI (by rw [fcdO (ko.up (xσ49.trans (xσ50.trans (xσ51.trans xσ55)))) (by decide)]; decide)))
  have oxcσ57 : OX o σ σ57 := oxcσ55.tr (by rw [eσ57]; exact OX.pI (ko.up (xσ49.trans (xσ50.trans (xσ51.trans xσ55)))) (Or.inr rfl)) (xσ49.trans (xσ50.trans (xσ51.trans xσ55)))
  have wσ57 : gI σ57 o 8 = r56 := by rw [eσ57]; exact up2_s _ _ _ _
  have kp64 : gI σ57 J 1 = gI σ55 J 1 := by rw [eσ57]; exact up2_n _ _ (fun q => absurd q.2 (by decide))
  have kp65 : gI σ57 J 7 = gI σ55 J 7 := by rw [eσ57]; exact up2_n _ _ (fun q => absurd q.2 (by decide))
  have kp66 : gI σ57 o 3 = gI σ55 o 3 := by rw [eσ57]; exact up2_n _ _ (fun q => absurd q.2 (by decide))
  have kp67 : gI σ57 o 4 = gI σ55 o 4 := by rw [eσ57]; exact up2_n _ _ (fun q => absurd q.2 (by decide))
  have kp68 : gI σ57 o 7 = gI σ55 o 7 := by rw [eσ57]; exact up2_n _ _ (fun q => absurd q.2 (by decide))
  have kp69 : gP σ57 J 0 = gP σ55 J 0 := by rw [eσ57]
  have kp70 : gP σ57 th 0 = gP σ55 th 0 := by rw [eσ57]
  have kp71 : gP σ57 th 7 = gP σ55 th 7 := by rw [eσ57]
  have kp72 : gP σ57 th 8 = gP σ55 th 8 := by rw [eσ57]
  have kp73 : gI σ57 th 2 = gI σ55 th 2 := by rw [eσ57]; exact up2_n _ _ (fun q => absurd q.2 (by decide))
  have kp74 : gI σ57 th 3 = gI σ55 th 3 := by rw [eσ57]; exact up2_n _ _ (fun q => absurd q.2 (by decide))
  have kp75 : gI σ57 th 5 = gI σ55 th 5 := by rw [eσ57]; exact up2_n _ _ (fun q => absurd q.2 (by decide))
  have kp76 : gI σ57 J 2 = gI σ55 J 2 := by rw [eσ57]; exact up2_n _ _ (fun q => absurd q.2 (by decide))
  have kp77 : gI σ57 o 6 = gI σ55 o 6 := by rw [eσ57]; exact up2_n _ _ (fun q => absurd q.2 (by decide))
  have kp78 : gI σ57 o 9 = gI σ55 o 9 := by rw [eσ57]; exact up2_n _ _ (fun q => absurd q.2 (by decide))
  refine ⟨J, (kp71.trans (kp56.trans (kp41.trans (kp28.trans (kp17.trans h7))))), fun kk_J_1 => ?_⟩
  refine ⟨o, (kp72.trans (kp57.trans (kp42.trans (kp29.trans (kp18.trans h8))))), fun kk_o_1 => ?_⟩
  refine ⟨b, (kp69.trans (kp54.trans eb)), fun kk_b_1 => ?_⟩
  have q79 := ((xσ55.trans xσ57) b mb.1).2.2
  refine ⟨⟨by (first | omega | with_reducible assumption | with_reducible exact rng_toInt _ | with_reducible exact rng_wr _ | (unfold rng; omega) | (unfold rng at *; omega) | assumption), by (first | omega | with_reducible assumption | with_reducible exact rng_toInt _ | with_reducible exact rng_wr _ | (unfold rng; omega) | (unfold rng at *; omega) | assumption)⟩, ?_⟩
  obtain ⟨b_1, eb_1⟩ := P_115 iσ51.1 mb (k := (gI σ51 o 7).toNat) (by (first | omega | with_reducible assumption | with_reducible exact rng_toInt _ | with_reducible exact rng_wr _ | (unfold rng; omega) | (unfold rng at *; omega) | assumption))
  have fb_1 := T_115 iσ51.1 mb eb_1
  have mb_1 : kO σ51 b_1 5 := iσ51.1.kd mb rfl eb_1 rfl
  refine ⟨b_1, eb_1, fun kk_b_1_1 => ?_⟩
  obtain ⟨b_2, eb_2⟩ := P_115 iσ57.1 (mb.up (xσ55.trans xσ57)) (k := (gI σ57 o 8).toNat) (by (first | omega | with_reducible assumption | with_reducible exact rng_toInt _ | with_reducible exact rng_wr _ | (unfold rng; omega) | (unfold rng at *; omega) | assumption))
  have fb_2 := T_115 iσ57.1 (mb.up (xσ55.trans xσ57)) eb_2
  have mb_2 : kO σ57 b_2 5 := iσ57.1.kd (mb.up (xσ55.trans xσ57)) rfl eb_2 rfl
  refine i_X5_sharesColumnWith iσ57 (mb_1.up (xσ55.trans xσ57)) eb_2 mb_2 (fun r62 pσ61 => ?_)
  intro xσ61
  have wf : ∀ a, kO σ a 5 → gq a = 16 * q + (gI σ57 o 7).toNat → gI σ a 3 = gI σ57 b_1 3 := fun a ka ga => by have e9 := iσ57.unq (ka.up fσ57.1) (mb_1.up (xσ55.trans xσ57)) rfl rfl (by omega); subst e9; exact (oxcσ57 _ ka (fun e => absurd (congrArg gq e) (by omega)) 3).symm
  have r63 := I_5_3 iσ57.1 (mb_1.up (xσ55.trans xσ57))
  by_cases hc80 : r62 = 0
  · rw [if_pos hc80]
    unfold w_X6_pairText_70
    refine ⟨b_1, eb_1, fun kk_b_1_2 => ?_⟩
    refine ⟨b_2, eb_2, fun kk_b_2 => ?_⟩
    have q81 := I_5_3 iσ57.1 (mb_1.up (xσ55.trans xσ57))
    have q82 := I_5_3 iσ57.1 mb_2
    refine ⟨by (first | omega | with_reducible assumption | with_reducible exact rng_toInt _ | with_reducible exact rng_wr _ | (unfold rng; omega) | (unfold rng at *; omega) | assumption), ?_⟩
    by_cases hc83 : (gI σ57 b_1 3 + gI σ57 b_2 3) ≤ 8
    · rw [if_pos hc83]
      unfold w_X6_pairText_90
      refine ⟨o, (kp72.trans (kp57.trans (kp42.trans (kp29.trans (kp18.trans h8))))), fun kk_o_2 => ?_⟩
      refine i_X5_addColumnsOf iσ57 (ko.up (xσ49.trans (xσ50.trans (xσ51.trans (xσ55.trans xσ57))))) eb_1 (mb_1.up (xσ55.trans xσ57)) (by (first | omega | with_reducible assumption | with_reducible exact rng_toInt _ | with_reducible exact rng_wr _ | (unfold rng; omega) | (unfold rng at *; omega) | assumption)) (by (first | omega | with_reducible assumption | with_reducible exact rng_toInt _ | with_reducible exact rng_wr _ | (unfold rng; omega) | (unfold rng at *; omega) | assumption)) (by (first | omega | with_reducible assumption | with_reducible exact rng_toInt _ | with_reducible exact rng_wr _ | (unfold rng; omega) | (unfold rng at *; omega) | assumption)) (fun e => absurd (congrArg gq e) (by omega)) (fun σ68 _ iσ68 cσ68 oxσ68 pσ68 => ?_)
      intro xσ68
      have fσ68 : Fx [323, 326, 327, 328, 333, 334, 335, 336, 386, 387, 388, 389, 390, 6464] gr σ σ68 := fσ57.tr (cσ68.mo (by decide))
      have oxcσ68 : OX o σ σ68 := oxcσ57.tr oxσ68 (xσ49.trans (xσ50.trans (xσ51.trans (xσ55.trans xσ57))))
      have kp84 : gI σ68 J 1 = gI σ57 J 1 := (cσ68.O (kJ.up (xσ49.trans (xσ50.trans (xσ51.trans (xσ55.trans xσ57))))) (by decide)).1
      have kp85 : gI σ68 J 7 = gI σ57 J 7 := (cσ68.O (kJ.up (xσ49.trans (xσ50.trans (xσ51.trans (xσ55.trans xσ57))))) (by decide)).1
      have kp86 : gI σ68 o 4 = gI σ57 o 4 := (cσ68.O (ko.up (xσ49.trans (xσ50.trans (xσ51.trans (xσ55.trans xσ57))))) (by decide)).1
      have kp87 : gI σ68 o 7 = gI σ57 o 7 := (cσ68.O (ko.up (xσ49.trans (xσ50.trans (xσ51.trans (xσ55.trans xσ57))))) (by decide)).1
      have kp88 : gI σ68 o 8 = gI σ57 o 8 := (cσ68.O (ko.up (xσ49.trans (xσ50.trans (xσ51.trans (xσ55.trans xσ57))))) (by decide)).1
      have kp89 : gP σ68 J 0 = gP σ57 J 0 := (cσ68.O (kJ.up (xσ49.trans (xσ50.trans (xσ51.trans (xσ55.trans xσ57))))) (by decide)).2.1
      have kp90 : gP σ68 b (gI σ57 o 8).toNat = gP σ57 b (gI σ57 o 8).toNat := (cσ68.A (mb.up (xσ55.trans xσ57)) (by decide)).2.1
      have kp91 : gP σ68 th 0 = gP σ57 th 0 := (cσ68.O (kth.up (xσ49.trans (xσ50.trans (xσ51.trans (xσ55.trans xσ57))))) (by decide)).2.1
      have kp92 : gP σ68 th 7 = gP σ57 th 7 := (cσ68.O (kth.up (xσ49.trans (xσ50.trans (xσ51.trans (xσ55.trans xσ57))))) (by decide)).2.1
      have kp93 : gP σ68 th 8 = gP σ57 th 8 := (cσ68.O (kth.up (xσ49.trans (xσ50.trans (xσ51.trans (xσ55.trans xσ57))))) (by decide)).2.1
      have kp94 : gI σ68 th 2 = gI σ57 th 2 := (cσ68.O (kth.up (xσ49.trans (xσ50.trans (xσ51.trans (xσ55.trans xσ57))))) (by decide)).1
      have kp95 : gI σ68 th 3 = gI σ57 th 3 := (cσ68.O (kth.up (xσ49.trans (xσ50.trans (xσ51.trans (xσ55.trans xσ57))))) (by decide)).1
      have kp96 : gI σ68 th 5 = gI σ57 th 5 := (cσ68.O (kth.up (xσ49.trans (xσ50.trans (xσ51.trans (xσ55.trans xσ57))))) (by decide)).1
      have kp97 : gI σ68 J 2 = gI σ57 J 2 := (cσ68.O (kJ.up (xσ49.trans (xσ50.trans (xσ51.trans (xσ55.trans xσ57))))) (by decide)).1
      have kp98 : gI σ68 o 6 = gI σ57 o 6 := (cσ68.O (ko.up (xσ49.trans (xσ50.trans (xσ51.trans (xσ55.trans xσ57))))) (by decide)).1
      have kp99 : gI σ68 o 9 = gI σ57 o 9 := (cσ68.O (ko.up (xσ49.trans (xσ50.trans (xσ51.trans (xσ55.trans xσ57))))) (by decide)).1
      refine ⟨o, (kp93.trans (kp72.trans (kp57.trans (kp42.trans (kp29.trans (kp18.trans h8)))))), fun kk_o_3 => ?_⟩
      refine i_X5_addColumnsOf iσ68 (ko.up (xσ49.trans (xσ50.trans (xσ51.trans (xσ55.trans (xσ57.trans xσ68)))))) eb_2 (mb_2.up xσ68) (by (first | omega | with_reducible assumption | with_reducible exact rng_toInt _ | with_reducible exact rng_wr _ | (unfold rng; omega) | (unfold rng at *; omega) | assumption)) (by (first | omega | with_reducible assumption | with_reducible exact rng_toInt _ | with_reducible exact rng_wr _ | (unfold rng; omega) | (unfold rng at *; omega) | assumption)) (by (first | omega | with_reducible assumption | with_reducible exact rng_toInt _ | with_reducible exact rng_wr _ | (unfold rng; omega) | (unfold rng at *; omega) | assumption)) (fun e => absurd (congrArg gq e) (by omega)) (fun σ70 _ iσ70 cσ70 oxσ70 pσ70 => ?_)
      intro xσ70
      have fσ70 : Fx [323, 326, 327, 328, 333, 334, 335, 336, 386, 387, 388, 389, 390, 6464] gr σ σ70 := fσ68.tr (cσ70.mo (by decide))
      have oxcσ70 : OX o σ σ70 := oxcσ68.tr oxσ70 (xσ49.trans (xσ50.trans (xσ51.trans (xσ55.trans (xσ57.trans xσ68)))))
      have kp100 : gI σ70 J 1 = gI σ68 J 1 := (cσ70.O (kJ.up (xσ49.trans (xσ50.trans (xσ51.trans (xσ55.trans (xσ57.trans xσ68)))))) (by decide)).1
      have kp101 : gI σ70 J 7 = gI σ68 J 7 := (cσ70.O (kJ.up (xσ49.trans (xσ50.trans (xσ51.trans (xσ55.trans (xσ57.trans xσ68)))))) (by decide)).1
      have kp102 : gI σ70 o 4 = gI σ68 o 4 := (cσ70.O (ko.up (xσ49.trans (xσ50.trans (xσ51.trans (xσ55.trans (xσ57.trans xσ68)))))) (by decide)).1
      have kp103 : gI σ70 o 7 = gI σ68 o 7 := (cσ70.O (ko.up (xσ49.trans (xσ50.trans (xσ51.trans (xσ55.trans (xσ57.trans xσ68)))))) (by decide)).1
      have kp104 : gI σ70 o 8 = gI σ68 o 8 := (cσ70.O (ko.up (xσ49.trans (xσ50.trans (xσ51.trans (xσ55.trans (xσ57.trans xσ68)))))) (by decide)).1
      have kp105 : gP σ70 J 0 = gP σ68 J 0 := (cσ70.O (kJ.up (xσ49.trans (xσ50.trans (xσ51.trans (xσ55.trans (xσ57.trans xσ68)))))) (by decide)).2.1
      have kp106 : gP σ70 b (gI σ57 o 8).toNat = gP σ68 b (gI σ57 o 8).toNat := (cσ70.A (mb.up (xσ55.trans (xσ57.trans xσ68))) (by decide)).2.1
      have kp107 : gP σ70 th 0 = gP σ68 th 0 := (cσ70.O (kth.up (xσ49.trans (xσ50.trans (xσ51.trans (xσ55.trans (xσ57.trans xσ68)))))) (by decide)).2.1
      have kp108 : gP σ70 th 7 = gP σ68 th 7 := (cσ70.O (kth.up (xσ49.trans (xσ50.trans (xσ51.trans (xσ55.trans (xσ57.trans xσ68)))))) (by decide)).2.1
      have kp109 : gP σ70 th 8 = gP σ68 th 8 := (cσ70.O (kth.up (xσ49.trans (xσ50.trans (xσ51.trans (xσ55.trans (xσ57.trans xσ68)))))) (by decide)).2.1
      have kp110 : gI σ70 th 2 = gI σ68 th 2 := (cσ70.O (kth.up (xσ49.trans (xσ50.trans (xσ51.trans (xσ55.trans (xσ57.trans xσ68)))))) (by decide)).1
      have kp111 : gI σ70 th 3 = gI σ68 th 3 := (cσ70.O (kth.up (xσ49.trans (xσ50.trans (xσ51.trans (xσ55.trans (xσ57.trans xσ68)))))) (by decide)).1
      have kp112 : gI σ70 th 5 = gI σ68 th 5 := (cσ70.O (kth.up (xσ49.trans (xσ50.trans (xσ51.trans (xσ55.trans (xσ57.trans xσ68)))))) (by decide)).1
      have kp113 : gI σ70 J 2 = gI σ68 J 2 := (cσ70.O (kJ.up (xσ49.trans (xσ50.trans (xσ51.trans (xσ55.trans (xσ57.trans xσ68)))))) (by decide)).1
      have kp114 : gI σ70 o 6 = gI σ68 o 6 := (cσ70.O (ko.up (xσ49.trans (xσ50.trans (xσ51.trans (xσ55.trans (xσ57.trans xσ68)))))) (by decide)).1
      have kp115 : gI σ70 o 9 = gI σ68 o 9 := (cσ70.O (ko.up (xσ49.trans (xσ50.trans (xσ51.trans (xσ55.trans (xσ57.trans xσ68)))))) (by decide)).1
      refine i_X6_next iσ70 (kth.up (xσ49.trans (xσ50.trans (xσ51.trans (xσ55.trans (xσ57.trans (xσ68.trans xσ70))))))) (kp107.trans (kp91.trans (kp70.trans (kp55.trans (kp40.trans (kp27.trans (kp16.trans hX0))))))) (kX.up (xσ49.trans (xσ50.trans (xσ51.trans (xσ55.trans (xσ57.trans (xσ68.trans xσ70))))))) (((xσ49.trans (xσ50.trans (xσ51.trans (xσ55.trans (xσ57.trans (xσ68.trans xσ70)))))) tx kX.1).2.2.trans gX) (by (first | omega | with_reducible assumption | with_reducible exact rng_toInt _ | with_reducible exact rng_wr _ | (unfold rng; omega) | (unfold rng at *; omega) | assumption)) (by (first | omega | with_reducible assumption | with_reducible exact rng_toInt _ | with_reducible exact rng_wr _ | (unfold rng; omega) | (unfold rng at *; omega) | assumption)) (fun σ72 _ iσ72 cσ72 pσ72 => ?_) (fun σx LLx Nx nux E ix cx ux px => hX σx LLx Nx nux E ix (fσ70.tr (cx.mo (by decide))) (ux) (by first | exact px | exact ⟨by have := px.1; omega, px.2⟩ | (first | omega | with_reducible assumption | with_reducible exact rng_toInt _ | with_reducible exact rng_wr _ | (unfold rng; omega) | (unfold rng at *; omega) | assumption)))
      intro xσ72
      have fσ72 : Fx [323, 326, 327, 328, 333, 334, 335, 336, 386, 387, 388, 389, 390, 6464] gr σ σ72 := fσ70.tr (cσ72.mo (by decide))
      have oxcσ72 : OX o σ σ72 := oxcσ70.tr (OX.fx cσ72 (by decide) (by decide)) (xσ49.trans (xσ50.trans (xσ51.trans (xσ55.trans (xσ57.trans (xσ68.trans xσ70))))))
      have kp116 : gI σ72 J 1 = gI σ70 J 1 := (cσ72.O (kJ.up (xσ49.trans (xσ50.trans (xσ51.trans (xσ55.trans (xσ57.trans (xσ68.trans xσ70))))))) (by decide)).1
      have kp117 : gI σ72 J 7 = gI σ70 J 7 := (cσ72.O (kJ.up (xσ49.trans (xσ50.trans (xσ51.trans (xσ55.trans (xσ57.trans (xσ68.trans xσ70))))))) (by decide)).1
      have kp118 : gI σ72 o 4 = gI σ70 o 4 := (cσ72.O (ko.up (xσ49.trans (xσ50.trans (xσ51.trans (xσ55.trans (xσ57.trans (xσ68.trans xσ70))))))) (by decide)).1
      have kp119 : gI σ72 o 7 = gI σ70 o 7 := (cσ72.O (ko.up (xσ49.trans (xσ50.trans (xσ51.trans (xσ55.trans (xσ57.trans (xσ68.trans xσ70))))))) (by decide)).1
      have kp120 : gI σ72 o 8 = gI σ70 o 8 := (cσ72.O (ko.up (xσ49.trans (xσ50.trans (xσ51.trans (xσ55.trans (xσ57.trans (xσ68.trans xσ70))))))) (by decide)).1
      have kp121 : gP σ72 J 0 = gP σ70 J 0 := (cσ72.O (kJ.up (xσ49.trans (xσ50.trans (xσ51.trans (xσ55.trans (xσ57.trans (xσ68.trans xσ70))))))) (by decide)).2.1
      have kp122 : gP σ72 b (gI σ57 o 8).toNat = gP σ70 b (gI σ57 o 8).toNat := (cσ72.A (mb.up (xσ55.trans (xσ57.trans (xσ68.trans xσ70)))) (by decide)).2.1
      have kp123 : gP σ72 th 0 = gP σ70 th 0 := (cσ72.O (kth.up (xσ49.trans (xσ50.trans (xσ51.trans (xσ55.trans (xσ57.trans (xσ68.trans xσ70))))))) (by decide)).2.1
      have kp124 : gP σ72 th 7 = gP σ70 th 7 := (cσ72.O (kth.up (xσ49.trans (xσ50.trans (xσ51.trans (xσ55.trans (xσ57.trans (xσ68.trans xσ70))))))) (by decide)).2.1
      have kp125 : gP σ72 th 8 = gP σ70 th 8 := (cσ72.O (kth.up (xσ49.trans (xσ50.trans (xσ51.trans (xσ55.trans (xσ57.trans (xσ68.trans xσ70))))))) (by decide)).2.1
      have kp126 : gI σ72 J 2 = gI σ70 J 2 := (cσ72.O (kJ.up (xσ49.trans (xσ50.trans (xσ51.trans (xσ55.trans (xσ57.trans (xσ68.trans xσ70))))))) (by decide)).1
      have kp127 : gI σ72 o 3 = gI σ70 o 3 := (cσ72.O (ko.up (xσ49.trans (xσ50.trans (xσ51.trans (xσ55.trans (xσ57.trans (xσ68.trans xσ70))))))) (by decide)).1
      have kp128 : gI σ72 o 6 = gI σ70 o 6 := (cσ72.O (ko.up (xσ49.trans (xσ50.trans (xσ51.trans (xσ55.trans (xσ57.trans (xσ68.trans xσ70))))))) (by decide)).1
      have kp129 : gI σ72 o 9 = gI σ70 o 9 := (cσ72.O (ko.up (xσ49.trans (xσ50.trans (xσ51.trans (xσ55.trans (xσ57.trans (xσ68.trans xσ70))))))) (by decide)).1
      have r5σ72 := I_6_5 iσ72.1 (kth.up (xσ49.trans (xσ50.trans (xσ51.trans (xσ55.trans (xσ57.trans (xσ68.trans (xσ70.trans xσ72))))))))
      refine i_X6_wantWord iσ72 (kth.up (xσ49.trans (xσ50.trans (xσ51.trans (xσ55.trans (xσ57.trans (xσ68.trans (xσ70.trans xσ72)))))))) (kp123.trans (kp107.trans (kp91.trans (kp70.trans (kp55.trans (kp40.trans (kp27.trans (kp16.trans hX0)))))))) (kX.up (xσ49.trans (xσ50.trans (xσ51.trans (xσ55.trans (xσ57.trans (xσ68.trans (xσ70.trans xσ72)))))))) (((xσ49.trans (xσ50.trans (xσ51.trans (xσ55.trans (xσ57.trans (xσ68.trans (xσ70.trans xσ72))))))) tx kX.1).2.2.trans gX) (by (first | omega | with_reducible assumption | with_reducible exact rng_toInt _ | with_reducible exact rng_wr _ | (unfold rng; omega) | (unfold rng at *; omega) | assumption)) (by (first | omega | with_reducible assumption | with_reducible exact rng_toInt _ | with_reducible exact rng_wr _ | (unfold rng; omega) | (unfold rng at *; omega) | assumption)) (fun σ73 _ iσ73 cσ73 pσ73 => ?_) (fun σx LLx Nx nux E ix cx ux px => hX σx LLx Nx nux E ix (fσ72.tr (cx.mo (by decide))) (ux) (by first | exact px | exact ⟨by have := px.1; omega, px.2⟩ | (first | omega | with_reducible assumption | with_reducible exact rng_toInt _ | with_reducible exact rng_wr _ | (unfold rng; omega) | (unfold rng at *; omega) | assumption)))
      intro xσ73
      have fσ73 : Fx [323, 326, 327, 328, 333, 334, 335, 336, 386, 387, 388, 389, 390, 6464] gr σ σ73 := fσ72.tr (cσ73.mo (by decide))
      have oxcσ73 : OX o σ σ73 := oxcσ72.tr (OX.fx cσ73 (by decide) (by decide)) (xσ49.trans (xσ50.trans (xσ51.trans (xσ55.trans (xσ57.trans (xσ68.trans (xσ70.trans xσ72)))))))
      have kp130 : gI σ73 J 1 = gI σ72 J 1 := (cσ73.O (kJ.up (xσ49.trans (xσ50.trans (xσ51.trans (xσ55.trans (xσ57.trans (xσ68.trans (xσ70.trans xσ72)))))))) (by decide)).1
      have kp131 : gI σ73 J 7 = gI σ72 J 7 := (cσ73.O (kJ.up (xσ49.trans (xσ50.trans (xσ51.trans (xσ55.trans (xσ57.trans (xσ68.trans (xσ70.trans xσ72)))))))) (by decide)).1
      have kp132 : gI σ73 o 4 = gI σ72 o 4 := (cσ73.O (ko.up (xσ49.trans (xσ50.trans (xσ51.trans (xσ55.trans (xσ57.trans (xσ68.trans (xσ70.trans xσ72)))))))) (by decide)).1
      have kp133 : gI σ73 o 7 = gI σ72 o 7 := (cσ73.O (ko.up (xσ49.trans (xσ50.trans (xσ51.trans (xσ55.trans (xσ57.trans (xσ68.trans (xσ70.trans xσ72)))))))) (by decide)).1
      have kp134 : gI σ73 o 8 = gI σ72 o 8 := (cσ73.O (ko.up (xσ49.trans (xσ50.trans (xσ51.trans (xσ55.trans (xσ57.trans (xσ68.trans (xσ70.trans xσ72)))))))) (by decide)).1
      have kp135 : gP σ73 J 0 = gP σ72 J 0 := (cσ73.O (kJ.up (xσ49.trans (xσ50.trans (xσ51.trans (xσ55.trans (xσ57.trans (xσ68.trans (xσ70.trans xσ72)))))))) (by decide)).2.1
      have kp136 : gP σ73 b (gI σ57 o 8).toNat = gP σ72 b (gI σ57 o 8).toNat := (cσ73.A (mb.up (xσ55.trans (xσ57.trans (xσ68.trans (xσ70.trans xσ72))))) (by decide)).2.1
      have kp137 : gP σ73 th 0 = gP σ72 th 0 := (cσ73.O (kth.up (xσ49.trans (xσ50.trans (xσ51.trans (xσ55.trans (xσ57.trans (xσ68.trans (xσ70.trans xσ72)))))))) (by decide)).2.1
      have kp138 : gP σ73 th 7 = gP σ72 th 7 := (cσ73.O (kth.up (xσ49.trans (xσ50.trans (xσ51.trans (xσ55.trans (xσ57.trans (xσ68.trans (xσ70.trans xσ72)))))))) (by decide)).2.1
      have kp139 : gP σ73 th 8 = gP σ72 th 8 := (cσ73.O (kth.up (xσ49.trans (xσ50.trans (xσ51.trans (xσ55.trans (xσ57.trans (xσ68.trans (xσ70.trans xσ72)))))))) (by decide)).2.1
      have kp140 : gI σ73 J 2 = gI σ72 J 2 := (cσ73.O (kJ.up (xσ49.trans (xσ50.trans (xσ51.trans (xσ55.trans (xσ57.trans (xσ68.trans (xσ70.trans xσ72)))))))) (by decide)).1
      have kp141 : gI σ73 o 3 = gI σ72 o 3 := (cσ73.O (ko.up (xσ49.trans (xσ50.trans (xσ51.trans (xσ55.trans (xσ57.trans (xσ68.trans (xσ70.trans xσ72)))))))) (by decide)).1
      have kp142 : gI σ73 o 6 = gI σ72 o 6 := (cσ73.O (ko.up (xσ49.trans (xσ50.trans (xσ51.trans (xσ55.trans (xσ57.trans (xσ68.trans (xσ70.trans xσ72)))))))) (by decide)).1
      have kp143 : gI σ73 o 9 = gI σ72 o 9 := (cσ73.O (ko.up (xσ49.trans (xσ50.trans (xσ51.trans (xσ55.trans (xσ57.trans (xσ68.trans (xσ70.trans xσ72)))))))) (by decide)).1
      have r5σ73 := I_6_5 iσ73.1 (kth.up (xσ49.trans (xσ50.trans (xσ51.trans (xσ55.trans (xσ57.trans (xσ68.trans (xσ70.trans (xσ72.trans xσ73)))))))))
      refine i_X6_column iσ73 (kth.up (xσ49.trans (xσ50.trans (xσ51.trans (xσ55.trans (xσ57.trans (xσ68.trans (xσ70.trans (xσ72.trans xσ73))))))))) eb_1 (mb_1.up (xσ55.trans (xσ57.trans (xσ68.trans (xσ70.trans (xσ72.trans xσ73)))))) (by (first | omega | with_reducible assumption | with_reducible exact rng_toInt _ | with_reducible exact rng_wr _ | (unfold rng; omega) | (unfold rng at *; omega) | assumption)) (fun σ74 r75 iσ74 cσ74 pσ74 => ?_) (fun σx LLx Nx nux E ix cx ux px => hX σx LLx Nx nux E ix (fσ73.tr (cx.mo (by decide))) (ux) (by first | exact px | exact ⟨by have := px.1; omega, px.2⟩ | (first | omega | with_reducible assumption | with_reducible exact rng_toInt _ | with_reducible exact rng_wr _ | (unfold rng; omega) | (unfold rng at *; omega) | assumption)))
      intro xσ74
      have fσ74 : Fx [323, 326, 327, 328, 333, 334, 335, 336, 386, 387, 388, 389, 390, 6464] gr σ σ74 := fσ73.tr (cσ74.mo (by decide))
      have oxcσ74 : OX o σ σ74 := oxcσ73.tr (OX.fx cσ74 (by decide) (by decide)) (xσ49.trans (xσ50.trans (xσ51.trans (xσ55.trans (xσ57.trans (xσ68.trans (xσ70.trans (xσ72.trans xσ73))))))))
      have kp144 : gI σ74 J 1 = gI σ73 J 1 := (cσ74.O (kJ.up (xσ49.trans (xσ50.trans (xσ51.trans (xσ55.trans (xσ57.trans (xσ68.trans (xσ70.trans (xσ72.trans xσ73))))))))) (by decide)).1
      have kp145 : gI σ74 J 7 = gI σ73 J 7 := (cσ74.O (kJ.up (xσ49.trans (xσ50.trans (xσ51.trans (xσ55.trans (xσ57.trans (xσ68.trans (xσ70.trans (xσ72.trans xσ73))))))))) (by decide)).1
      have kp146 : gI σ74 o 4 = gI σ73 o 4 := (cσ74.O (ko.up (xσ49.trans (xσ50.trans (xσ51.trans (xσ55.trans (xσ57.trans (xσ68.trans (xσ70.trans (xσ72.trans xσ73))))))))) (by decide)).1
      have kp147 : gI σ74 o 7 = gI σ73 o 7 := (cσ74.O (ko.up (xσ49.trans (xσ50.trans (xσ51.trans (xσ55.trans (xσ57.trans (xσ68.trans (xσ70.trans (xσ72.trans xσ73))))))))) (by decide)).1
      have kp148 : gI σ74 o 8 = gI σ73 o 8 := (cσ74.O (ko.up (xσ49.trans (xσ50.trans (xσ51.trans (xσ55.trans (xσ57.trans (xσ68.trans (xσ70.trans (xσ72.trans xσ73))))))))) (by decide)).1
      have kp149 : gP σ74 J 0 = gP σ73 J 0 := (cσ74.O (kJ.up (xσ49.trans (xσ50.trans (xσ51.trans (xσ55.trans (xσ57.trans (xσ68.trans (xσ70.trans (xσ72.trans xσ73))))))))) (by decide)).2.1
      have kp150 : gP σ74 b (gI σ57 o 8).toNat = gP σ73 b (gI σ57 o 8).toNat := (cσ74.A (mb.up (xσ55.trans (xσ57.trans (xσ68.trans (xσ70.trans (xσ72.trans xσ73)))))) (by decide)).2.1
      have kp151 : gP σ74 th 0 = gP σ73 th 0 := (cσ74.O (kth.up (xσ49.trans (xσ50.trans (xσ51.trans (xσ55.trans (xσ57.trans (xσ68.trans (xσ70.trans (xσ72.trans xσ73))))))))) (by decide)).2.1
      have kp152 : gP σ74 th 7 = gP σ73 th 7 := (cσ74.O (kth.up (xσ49.trans (xσ50.trans (xσ51.trans (xσ55.trans (xσ57.trans (xσ68.trans (xσ70.trans (xσ72.trans xσ73))))))))) (by decide)).2.1
      have kp153 : gP σ74 th 8 = gP σ73 th 8 := (cσ74.O (kth.up (xσ49.trans (xσ50.trans (xσ51.trans (xσ55.trans (xσ57.trans (xσ68.trans (xσ70.trans (xσ72.trans xσ73))))))))) (by decide)).2.1
      have kp154 : gI σ74 th 2 = gI σ73 th 2 := (cσ74.O (kth.up (xσ49.trans (xσ50.trans (xσ51.trans (xσ55.trans (xσ57.trans (xσ68.trans (xσ70.trans (xσ72.trans xσ73))))))))) (by decide)).1
      have kp155 : gI σ74 th 3 = gI σ73 th 3 := (cσ74.O (kth.up (xσ49.trans (xσ50.trans (xσ51.trans (xσ55.trans (xσ57.trans (xσ68.trans (xσ70.trans (xσ72.trans xσ73))))))))) (by decide)).1
      have kp156 : gI σ74 th 5 = gI σ73 th 5 := (cσ74.O (kth.up (xσ49.trans (xσ50.trans (xσ51.trans (xσ55.trans (xσ57.trans (xσ68.trans (xσ70.trans (xσ72.trans xσ73))))))))) (by decide)).1
      have kp157 : gI σ74 J 2 = gI σ73 J 2 := (cσ74.O (kJ.up (xσ49.trans (xσ50.trans (xσ51.trans (xσ55.trans (xσ57.trans (xσ68.trans (xσ70.trans (xσ72.trans xσ73))))))))) (by decide)).1
      have kp158 : gI σ74 o 3 = gI σ73 o 3 := (cσ74.O (ko.up (xσ49.trans (xσ50.trans (xσ51.trans (xσ55.trans (xσ57.trans (xσ68.trans (xσ70.trans (xσ72.trans xσ73))))))))) (by decide)).1
      have kp159 : gI σ74 o 6 = gI σ73 o 6 := (cσ74.O (ko.up (xσ49.trans (xσ50.trans (xσ51.trans (xσ55.trans (xσ57.trans (xσ68.trans (xσ70.trans (xσ72.trans xσ73))))))))) (by decide)).1
      have kp160 : gI σ74 o 9 = gI σ73 o 9 := (cσ74.O (ko.up (xσ49.trans (xσ50.trans (xσ51.trans (xσ55.trans (xσ57.trans (xσ68.trans (xσ70.trans (xσ72.trans xσ73))))))))) (by decide)).1
      refine ⟨o, (kp139.trans (kp125.trans (kp109.trans (kp93.trans (kp72.trans (kp57.trans (kp42.trans (kp29.trans (kp18.trans h8))))))))), fun kk_o_4 => ?_⟩
      intro σ77 eσ77
      have xσ77 : Ext σ74 σ77 := by rw [eσ77]; exact fun _ h => ⟨h, rfl, rfl⟩
      have iσ77 : IV σ77 pl gq ci gr nc ot LL N nu := by rw [eσ77]; exact iσ74.wSp (ko.up (xσ49.trans (xσ50.trans (xσ51.trans (xσ55.trans (xσ57.trans (xσ68.trans (xσ70.trans (xσ72.trans (xσ73.trans xσ74)))))))))) (fun i hi => by omega) (by decide) (show (0 : Int) ≤ r75 ∧ r75 ≤ 7 from ⟨by omega, by omega⟩)
      have fσ77 : Fx [323, 326, 327, 328, 333, 334, 335, 336, 386, 387, 388, 389, 390, 6464] gr σ σ77 := fσ74.tr (Sk.fx (by rw [eσ77]; exact Sk.pI (by rw [fcdO (ko.up (xσ49.trans (xσ50.trans (xσ51.trans (xσ55.trans (xσ57.trans (xσ68.trans (xσ70.trans (xσ72.trans (xσ73.trans xσ74)))))))))) (by decide)]; decide)))
      have oxcσ77 : OX o σ σ77 := oxcσ74.tr (by rw [eσ77]; exact OX.pI (ko.up (xσ49.trans (xσ50.trans (xσ51.trans (xσ55.trans (xσ57.trans (xσ68.trans (xσ70.trans (xσ72.trans (xσ73.trans xσ74)))))))))) (Or.inr rfl)) (xσ49.trans (xσ50.trans (xσ51.trans (xσ55.trans (xσ57.trans (xσ68.trans (xσ70.trans (xσ72.trans (xσ73.trans xσ74)))))))))
      have wσ77 : gI σ77 o 13 = r75 := by rw [eσ77]; exact up2_s _ _ _ _
      have kp161 : gI σ77 J 1 = gI σ74 J 1 := by rw [eσ77]; exact up2_n _ _ (fun q => absurd q.2 (by decide))
      have kp162 : gI σ77 J 7 = gI σ74 J 7 := by rw [eσ77]; exact up2_n _ _ (fun q => absurd q.2 (by decide))
      have kp163 : gI σ77 o 4 = gI σ74 o 4 := by rw [eσ77]; exact up2_n _ _ (fun q => absurd q.2 (by decide))
      have kp164 : gI σ77 o 7 = gI σ74 o 7 := by rw [eσ77]; exact up2_n _ _ (fun q => absurd q.2 (by decide))
      have kp165 : gI σ77 o 8 = gI σ74 o 8 := by rw [eσ77]; exact up2_n _ _ (fun q => absurd q.2 (by decide))
      have kp166 : gP σ77 J 0 = gP σ74 J 0 := by rw [eσ77]
      have kp167 : gP σ77 b (gI σ57 o 8).toNat = gP σ74 b (gI σ57 o 8).toNat := by rw [eσ77]
      have kp168 : gP σ77 th 0 = gP σ74 th 0 := by rw [eσ77]
      have kp169 : gP σ77 th 7 = gP σ74 th 7 := by rw [eσ77]
      have kp170 : gP σ77 th 8 = gP σ74 th 8 := by rw [eσ77]
      have kp171 : gI σ77 th 2 = gI σ74 th 2 := by rw [eσ77]; exact up2_n _ _ (fun q => absurd q.2 (by decide))
      have kp172 : gI σ77 th 3 = gI σ74 th 3 := by rw [eσ77]; exact up2_n _ _ (fun q => absurd q.2 (by decide))
      have kp173 : gI σ77 th 5 = gI σ74 th 5 := by rw [eσ77]; exact up2_n _ _ (fun q => absurd q.2 (by decide))
      have kp174 : gI σ77 J 2 = gI σ74 J 2 := by rw [eσ77]; exact up2_n _ _ (fun q => absurd q.2 (by decide))
      have kp175 : gI σ77 o 3 = gI σ74 o 3 := by rw [eσ77]; exact up2_n _ _ (fun q => absurd q.2 (by decide))
      have kp176 : gI σ77 o 6 = gI σ74 o 6 := by rw [eσ77]; exact up2_n _ _ (fun q => absurd q.2 (by decide))
      have kp177 : gI σ77 o 9 = gI σ74 o 9 := by rw [eσ77]; exact up2_n _ _ (fun q => absurd q.2 (by decide))
      refine i_X6_next iσ77 (kth.up (xσ49.trans (xσ50.trans (xσ51.trans (xσ55.trans (xσ57.trans (xσ68.trans (xσ70.trans (xσ72.trans (xσ73.trans (xσ74.trans xσ77))))))))))) (kp168.trans (kp151.trans (kp137.trans (kp123.trans (kp107.trans (kp91.trans (kp70.trans (kp55.trans (kp40.trans (kp27.trans (kp16.trans hX0))))))))))) (kX.up (xσ49.trans (xσ50.trans (xσ51.trans (xσ55.trans (xσ57.trans (xσ68.trans (xσ70.trans (xσ72.trans (xσ73.trans (xσ74.trans xσ77))))))))))) (((xσ49.trans (xσ50.trans (xσ51.trans (xσ55.trans (xσ57.trans (xσ68.trans (xσ70.trans (xσ72.trans (xσ73.trans (xσ74.trans xσ77)))))))))) tx kX.1).2.2.trans gX) (by (first | omega | with_reducible assumption | with_reducible exact rng_toInt _ | with_reducible exact rng_wr _ | (unfold rng; omega) | (unfold rng at *; omega) | assumption)) (by (first | omega | with_reducible assumption | with_reducible exact rng_toInt _ | with_reducible exact rng_wr _ | (unfold rng; omega) | (unfold rng at *; omega) | assumption)) (fun σ78 _ iσ78 cσ78 pσ78 => ?_) (fun σx LLx Nx nux E ix cx ux px => hX σx LLx Nx nux E ix (fσ77.tr (cx.mo (by decide))) (ux) (by first | exact px | exact ⟨by have := px.1; omega, px.2⟩ | (first | omega | with_reducible assumption | with_reducible exact rng_toInt _ | with_reducible exact rng_wr _ | (unfold rng; omega) | (unfold rng at *; omega) | assumption)))
      intro xσ78
      have fσ78 : Fx [323, 326, 327, 328, 333, 334, 335, 336, 386, 387, 388, 389, 390, 6464] gr σ σ78 := fσ77.tr (cσ78.mo (by decide))
      have oxcσ78 : OX o σ σ78 := oxcσ77.tr (OX.fx cσ78 (by decide) (by decide)) (xσ49.trans (xσ50.trans (xσ51.trans (xσ55.trans (xσ57.trans (xσ68.trans (xσ70.trans (xσ72.trans (xσ73.trans (xσ74.trans xσ77))))))))))
      have kp178 : gI σ78 J 1 = gI σ77 J 1 := (cσ78.O (kJ.up (xσ49.trans (xσ50.trans (xσ51.trans (xσ55.trans (xσ57.trans (xσ68.trans (xσ70.trans (xσ72.trans (xσ73.trans (xσ74.trans xσ77))))))))))) (by decide)).1
      have kp179 : gI σ78 J 7 = gI σ77 J 7 := (cσ78.O (kJ.up (xσ49.trans (xσ50.trans (xσ51.trans (xσ55.trans (xσ57.trans (xσ68.trans (xσ70.trans (xσ72.trans (xσ73.trans (xσ74.trans xσ77))))))))))) (by decide)).1
      have kp180 : gI σ78 o 13 = gI σ77 o 13 := (cσ78.O (ko.up (xσ49.trans (xσ50.trans (xσ51.trans (xσ55.trans (xσ57.trans (xσ68.trans (xσ70.trans (xσ72.trans (xσ73.trans (xσ74.trans xσ77))))))))))) (by decide)).1
      have kp181 : gI σ78 o 4 = gI σ77 o 4 := (cσ78.O (ko.up (xσ49.trans (xσ50.trans (xσ51.trans (xσ55.trans (xσ57.trans (xσ68.trans (xσ70.trans (xσ72.trans (xσ73.trans (xσ74.trans xσ77))))))))))) (by decide)).1
      have kp182 : gI σ78 o 7 = gI σ77 o 7 := (cσ78.O (ko.up (xσ49.trans (xσ50.trans (xσ51.trans (xσ55.trans (xσ57.trans (xσ68.trans (xσ70.trans (xσ72.trans (xσ73.trans (xσ74.trans xσ77))))))))))) (by decide)).1
      have kp183 : gI σ78 o 8 = gI σ77 o 8 := (cσ78.O (ko.up (xσ49.trans (xσ50.trans (xσ51.trans (xσ55.trans (xσ57.trans (xσ68.trans (xσ70.trans (xσ72.trans (xσ73.trans (xσ74.trans xσ77))))))))))) (by decide)).1
      have kp184 : gP σ78 J 0 = gP σ77 J 0 := (cσ78.O (kJ.up (xσ49.trans (xσ50.trans (xσ51.trans (xσ55.trans (xσ57.trans (xσ68.trans (xσ70.trans (xσ72.trans (xσ73.trans (xσ74.trans xσ77))))))))))) (by decide)).2.1
      have kp185 : gP σ78 b (gI σ57 o 8).toNat = gP σ77 b (gI σ57 o 8).toNat := (cσ78.A (mb.up (xσ55.trans (xσ57.trans (xσ68.trans (xσ70.trans (xσ72.trans (xσ73.trans (xσ74.trans xσ77)))))))) (by decide)).2.1
      have kp186 : gP σ78 th 0 = gP σ77 th 0 := (cσ78.O (kth.up (xσ49.trans (xσ50.trans (xσ51.trans (xσ55.trans (xσ57.trans (xσ68.trans (xσ70.trans (xσ72.trans (xσ73.trans (xσ74.trans xσ77))))))))))) (by decide)).2.1
      have kp187 : gP σ78 th 7 = gP σ77 th 7 := (cσ78.O (kth.up (xσ49.trans (xσ50.trans (xσ51.trans (xσ55.trans (xσ57.trans (xσ68.trans (xσ70.trans (xσ72.trans (xσ73.trans (xσ74.trans xσ77))))))))))) (by decide)).2.1
      have kp188 : gP σ78 th 8 = gP σ77 th 8 := (cσ78.O (kth.up (xσ49.trans (xσ50.trans (xσ51.trans (xσ55.trans (xσ57.trans (xσ68.trans (xσ70.trans (xσ72.trans (xσ73.trans (xσ74.trans xσ77))))))))))) (by decide)).2.1
      have kp189 : gI σ78 J 2 = gI σ77 J 2 := (cσ78.O (kJ.up (xσ49.trans (xσ50.trans (xσ51.trans (xσ55.trans (xσ57.trans (xσ68.trans (xσ70.trans (xσ72.trans (xσ73.trans (xσ74.trans xσ77))))))))))) (by decide)).1
      have kp190 : gI σ78 o 3 = gI σ77 o 3 := (cσ78.O (ko.up (xσ49.trans (xσ50.trans (xσ51.trans (xσ55.trans (xσ57.trans (xσ68.trans (xσ70.trans (xσ72.trans (xσ73.trans (xσ74.trans xσ77))))))))))) (by decide)).1
      have kp191 : gI σ78 o 6 = gI σ77 o 6 := (cσ78.O (ko.up (xσ49.trans (xσ50.trans (xσ51.trans (xσ55.trans (xσ57.trans (xσ68.trans (xσ70.trans (xσ72.trans (xσ73.trans (xσ74.trans xσ77))))))))))) (by decide)).1
      have kp192 : gI σ78 o 9 = gI σ77 o 9 := (cσ78.O (ko.up (xσ49.trans (xσ50.trans (xσ51.trans (xσ55.trans (xσ57.trans (xσ68.trans (xσ70.trans (xσ72.trans (xσ73.trans (xσ74.trans xσ77))))))))))) (by decide)).1
      have r5σ78 := I_6_5 iσ78.1 (kth.up (xσ49.trans (xσ50.trans (xσ51.trans (xσ55.trans (xσ57.trans (xσ68.trans (xσ70.trans (xσ72.trans (xσ73.trans (xσ74.trans (xσ77.trans xσ78))))))))))))
      refine i_X6_column iσ78 (kth.up (xσ49.trans (xσ50.trans (xσ51.trans (xσ55.trans (xσ57.trans (xσ68.trans (xσ70.trans (xσ72.trans (xσ73.trans (xσ74.trans (xσ77.trans xσ78)))))))))))) eb_2 (mb_2.up (xσ68.trans (xσ70.trans (xσ72.trans (xσ73.trans (xσ74.trans (xσ77.trans xσ78))))))) (by (first | omega | with_reducible assumption | with_reducible exact rng_toInt _ | with_reducible exact rng_wr _ | (unfold rng; omega) | (unfold rng at *; omega) | assumption)) (fun σ79 r80 iσ79 cσ79 pσ79 => ?_) (fun σx LLx Nx nux E ix cx ux px => hX σx LLx Nx nux E ix (fσ78.tr (cx.mo (by decide))) (ux) (by first | exact px | exact ⟨by have := px.1; omega, px.2⟩ | (first | omega | with_reducible assumption | with_reducible exact rng_toInt _ | with_reducible exact rng_wr _ | (unfold rng; omega) | (unfold rng at *; omega) | assumption)))
      intro xσ79
      have fσ79 : Fx [323, 326, 327, 328, 333, 334, 335, 336, 386, 387, 388, 389, 390, 6464] gr σ σ79 := fσ78.tr (cσ79.mo (by decide))
      have oxcσ79 : OX o σ σ79 := oxcσ78.tr (OX.fx cσ79 (by decide) (by decide)) (xσ49.trans (xσ50.trans (xσ51.trans (xσ55.trans (xσ57.trans (xσ68.trans (xσ70.trans (xσ72.trans (xσ73.trans (xσ74.trans (xσ77.trans xσ78)))))))))))
      have kp193 : gI σ79 J 1 = gI σ78 J 1 := (cσ79.O (kJ.up (xσ49.trans (xσ50.trans (xσ51.trans (xσ55.trans (xσ57.trans (xσ68.trans (xσ70.trans (xσ72.trans (xσ73.trans (xσ74.trans (xσ77.trans xσ78)))))))))))) (by decide)).1
      have kp194 : gI σ79 J 7 = gI σ78 J 7 := (cσ79.O (kJ.up (xσ49.trans (xσ50.trans (xσ51.trans (xσ55.trans (xσ57.trans (xσ68.trans (xσ70.trans (xσ72.trans (xσ73.trans (xσ74.trans (xσ77.trans xσ78)))))))))))) (by decide)).1
      have kp195 : gI σ79 o 13 = gI σ78 o 13 := (cσ79.O (ko.up (xσ49.trans (xσ50.trans (xσ51.trans (xσ55.trans (xσ57.trans (xσ68.trans (xσ70.trans (xσ72.trans (xσ73.trans (xσ74.trans (xσ77.trans xσ78)))))))))))) (by decide)).1
      have kp196 : gI σ79 o 4 = gI σ78 o 4 := (cσ79.O (ko.up (xσ49.trans (xσ50.trans (xσ51.trans (xσ55.trans (xσ57.trans (xσ68.trans (xσ70.trans (xσ72.trans (xσ73.trans (xσ74.trans (xσ77.trans xσ78)))))))))))) (by decide)).1
      have kp197 : gI σ79 o 7 = gI σ78 o 7 := (cσ79.O (ko.up (xσ49.trans (xσ50.trans (xσ51.trans (xσ55.trans (xσ57.trans (xσ68.trans (xσ70.trans (xσ72.trans (xσ73.trans (xσ74.trans (xσ77.trans xσ78)))))))))))) (by decide)).1
      have kp198 : gI σ79 o 8 = gI σ78 o 8 := (cσ79.O (ko.up (xσ49.trans (xσ50.trans (xσ51.trans (xσ55.trans (xσ57.trans (xσ68.trans (xσ70.trans (xσ72.trans (xσ73.trans (xσ74.trans (xσ77.trans xσ78)))))))))))) (by decide)).1
      have kp199 : gP σ79 J 0 = gP σ78 J 0 := (cσ79.O (kJ.up (xσ49.trans (xσ50.trans (xσ51.trans (xσ55.trans (xσ57.trans (xσ68.trans (xσ70.trans (xσ72.trans (xσ73.trans (xσ74.trans (xσ77.trans xσ78)))))))))))) (by decide)).2.1
      have kp200 : gP σ79 b (gI σ57 o 8).toNat = gP σ78 b (gI σ57 o 8).toNat := (cσ79.A (mb.up (xσ55.trans (xσ57.trans (xσ68.trans (xσ70.trans (xσ72.trans (xσ73.trans (xσ74.trans (xσ77.trans xσ78))))))))) (by decide)).2.1
      have kp201 : gP σ79 th 0 = gP σ78 th 0 := (cσ79.O (kth.up (xσ49.trans (xσ50.trans (xσ51.trans (xσ55.trans (xσ57.trans (xσ68.trans (xσ70.trans (xσ72.trans (xσ73.trans (xσ74.trans (xσ77.trans xσ78)))))))))))) (by decide)).2.1
      have kp202 : gP σ79 th 7 = gP σ78 th 7 := (cσ79.O (kth.up (xσ49.trans (xσ50.trans (xσ51.trans (xσ55.trans (xσ57.trans (xσ68.trans (xσ70.trans (xσ72.trans (xσ73.trans (xσ74.trans (xσ77.trans xσ78)))))))))))) (by decide)).2.1
      have kp203 : gP σ79 th 8 = gP σ78 th 8 := (cσ79.O (kth.up (xσ49.trans (xσ50.trans (xσ51.trans (xσ55.trans (xσ57.trans (xσ68.trans (xσ70.trans (xσ72.trans (xσ73.trans (xσ74.trans (xσ77.trans xσ78)))))))))))) (by decide)).2.1
      have kp204 : gI σ79 th 2 = gI σ78 th 2 := (cσ79.O (kth.up (xσ49.trans (xσ50.trans (xσ51.trans (xσ55.trans (xσ57.trans (xσ68.trans (xσ70.trans (xσ72.trans (xσ73.trans (xσ74.trans (xσ77.trans xσ78)))))))))))) (by decide)).1
      have kp205 : gI σ79 th 3 = gI σ78 th 3 := (cσ79.O (kth.up (xσ49.trans (xσ50.trans (xσ51.trans (xσ55.trans (xσ57.trans (xσ68.trans (xσ70.trans (xσ72.trans (xσ73.trans (xσ74.trans (xσ77.trans xσ78)))))))))))) (by decide)).1
      have kp206 : gI σ79 th 5 = gI σ78 th 5 := (cσ79.O (kth.up (xσ49.trans (xσ50.trans (xσ51.trans (xσ55.trans (xσ57.trans (xσ68.trans (xσ70.trans (xσ72.trans (xσ73.trans (xσ74.trans (xσ77.trans xσ78)))))))))))) (by decide)).1
      have kp207 : gI σ79 J 2 = gI σ78 J 2 := (cσ79.O (kJ.up (xσ49.trans (xσ50.trans (xσ51.trans (xσ55.trans (xσ57.trans (xσ68.trans (xσ70.trans (xσ72.trans (xσ73.trans (xσ74.trans (xσ77.trans xσ78)))))))))))) (by decide)).1
      have kp208 : gI σ79 o 3 = gI σ78 o 3 := (cσ79.O (ko.up (xσ49.trans (xσ50.trans (xσ51.trans (xσ55.trans (xσ57.trans (xσ68.trans (xσ70.trans (xσ72.trans (xσ73.trans (xσ74.trans (xσ77.trans xσ78)))))))))))) (by decide)).1
      have kp209 : gI σ79 o 6 = gI σ78 o 6 := (cσ79.O (ko.up (xσ49.trans (xσ50.trans (xσ51.trans (xσ55.trans (xσ57.trans (xσ68.trans (xσ70.trans (xσ72.trans (xσ73.trans (xσ74.trans (xσ77.trans xσ78)))))))))))) (by decide)).1
      have kp210 : gI σ79 o 9 = gI σ78 o 9 := (cσ79.O (ko.up (xσ49.trans (xσ50.trans (xσ51.trans (xσ55.trans (xσ57.trans (xσ68.trans (xσ70.trans (xσ72.trans (xσ73.trans (xσ74.trans (xσ77.trans xσ78)))))))))))) (by decide)).1
      refine ⟨o, (kp188.trans (kp170.trans (kp153.trans (kp139.trans (kp125.trans (kp109.trans (kp93.trans (kp72.trans (kp57.trans (kp42.trans (kp29.trans (kp18.trans h8)))))))))))), fun kk_o_5 => ?_⟩
      intro σ82 eσ82
      have xσ82 : Ext σ79 σ82 := by rw [eσ82]; exact fun _ h => ⟨h, rfl, rfl⟩
      have iσ82 : IV σ82 pl gq ci gr nc ot LL N nu := by rw [eσ82]; exact iσ79.wSp (ko.up (xσ49.trans (xσ50.trans (xσ51.trans (xσ55.trans (xσ57.trans (xσ68.trans (xσ70.trans (xσ72.trans (xσ73.trans (xσ74.trans (xσ77.trans (xσ78.trans xσ79))))))))))))) (fun i hi => by omega) (by decide) (show (0 : Int) ≤ r80 ∧ r80 ≤ 7 from ⟨by omega, by omega⟩)
      have fσ82 : Fx [323, 326, 327, 328, 333, 334, 335, 336, 386, 387, 388, 389, 390, 6464] gr σ σ82 := fσ79.tr (Sk.fx (by rw [eσ82]; exact Sk.pI (by rw [fcdO (ko.up (xσ49.trans (xσ50.trans (xσ51.trans (xσ55.trans (xσ57.trans (xσ68.trans (xσ70.trans (xσ72.trans (xσ73.trans (xσ74.trans (xσ77.trans (xσ78.trans xσ79))))))))))))) (by decide)]; decide)))
      have oxcσ82 : OX o σ σ82 := oxcσ79.tr (by rw [eσ82]; exact OX.pI (ko.up (xσ49.trans (xσ50.trans (xσ51.trans (xσ55.trans (xσ57.trans (xσ68.trans (xσ70.trans (xσ72.trans (xσ73.trans (xσ74.trans (xσ77.trans (xσ78.trans xσ79))))))))))))) (Or.inr rfl)) (xσ49.trans (xσ50.trans (xσ51.trans (xσ55.trans (xσ57.trans (xσ68.trans (xσ70.trans (xσ72.trans (xσ73.trans (xσ74.trans (xσ77.trans (xσ78.trans xσ79))))))))))))
      have wσ82 : gI σ82 o 14 = r80 := by rw [eσ82]; exact up2_s _ _ _ _
      have kp211 : gI σ82 J 1 = gI σ79 J 1 := by rw [eσ82]; exact up2_n _ _ (fun q => absurd q.2 (by decide))
      have kp212 : gI σ82 J 7 = gI σ79 J 7 := by rw [eσ82]; exact up2_n _ _ (fun q => absurd q.2 (by decide))
      have kp213 : gI σ82 o 13 = gI σ79 o 13 := by rw [eσ82]; exact up2_n _ _ (fun q => absurd q.2 (by decide))
      have kp214 : gI σ82 o 4 = gI σ79 o 4 := by rw [eσ82]; exact up2_n _ _ (fun q => absurd q.2 (by decide))
      have kp215 : gI σ82 o 7 = gI σ79 o 7 := by rw [eσ82]; exact up2_n _ _ (fun q => absurd q.2 (by decide))
      have kp216 : gI σ82 o 8 = gI σ79 o 8 := by rw [eσ82]; exact up2_n _ _ (fun q => absurd q.2 (by decide))
      have kp217 : gP σ82 J 0 = gP σ79 J 0 := by rw [eσ82]
      have kp218 : gP σ82 b (gI σ57 o 8).toNat = gP σ79 b (gI σ57 o 8).toNat := by rw [eσ82]
      have kp219 : gP σ82 th 0 = gP σ79 th 0 := by rw [eσ82]
      have kp220 : gP σ82 th 7 = gP σ79 th 7 := by rw [eσ82]
      have kp221 : gP σ82 th 8 = gP σ79 th 8 := by rw [eσ82]
      have kp222 : gI σ82 th 2 = gI σ79 th 2 := by rw [eσ82]; exact up2_n _ _ (fun q => absurd q.2 (by decide))
      have kp223 : gI σ82 th 3 = gI σ79 th 3 := by rw [eσ82]; exact up2_n _ _ (fun q => absurd q.2 (by decide))
      have kp224 : gI σ82 th 5 = gI σ79 th 5 := by rw [eσ82]; exact up2_n _ _ (fun q => absurd q.2 (by decide))
      have kp225 : gI σ82 J 2 = gI σ79 J 2 := by rw [eσ82]; exact up2_n _ _ (fun q => absurd q.2 (by decide))
      have kp226 : gI σ82 o 3 = gI σ79 o 3 := by rw [eσ82]; exact up2_n _ _ (fun q => absurd q.2 (by decide))
      have kp227 : gI σ82 o 6 = gI σ79 o 6 := by rw [eσ82]; exact up2_n _ _ (fun q => absurd q.2 (by decide))
      have kp228 : gI σ82 o 9 = gI σ79 o 9 := by rw [eσ82]; exact up2_n _ _ (fun q => absurd q.2 (by decide))
      refine i_X6_next iσ82 (kth.up (xσ49.trans (xσ50.trans (xσ51.trans (xσ55.trans (xσ57.trans (xσ68.trans (xσ70.trans (xσ72.trans (xσ73.trans (xσ74.trans (xσ77.trans (xσ78.trans (xσ79.trans xσ82)))))))))))))) (kp219.trans (kp201.trans (kp186.trans (kp168.trans (kp151.trans (kp137.trans (kp123.trans (kp107.trans (kp91.trans (kp70.trans (kp55.trans (kp40.trans (kp27.trans (kp16.trans hX0)))))))))))))) (kX.up (xσ49.trans (xσ50.trans (xσ51.trans (xσ55.trans (xσ57.trans (xσ68.trans (xσ70.trans (xσ72.trans (xσ73.trans (xσ74.trans (xσ77.trans (xσ78.trans (xσ79.trans xσ82)))))))))))))) (((xσ49.trans (xσ50.trans (xσ51.trans (xσ55.trans (xσ57.trans (xσ68.trans (xσ70.trans (xσ72.trans (xσ73.trans (xσ74.trans (xσ77.trans (xσ78.trans (xσ79.trans xσ82))))))))))))) tx kX.1).2.2.trans gX) (by (first | omega | with_reducible assumption | with_reducible exact rng_toInt _ | with_reducible exact rng_wr _ | (unfold rng; omega) | (unfold rng at *; omega) | assumption)) (by (first | omega | with_reducible assumption | with_reducible exact rng_toInt _ | with_reducible exact rng_wr _ | (unfold rng; omega) | (unfold rng at *; omega) | assumption)) (fun σ83 _ iσ83 cσ83 pσ83 => ?_) (fun σx LLx Nx nux E ix cx ux px => hX σx LLx Nx nux E ix (fσ82.tr (cx.mo (by decide))) (ux) (by first | exact px | exact ⟨by have := px.1; omega, px.2⟩ | (first | omega | with_reducible assumption | with_reducible exact rng_toInt _ | with_reducible exact rng_wr _ | (unfold rng; omega) | (unfold rng at *; omega) | assumption)))
      intro xσ83
      have fσ83 : Fx [323, 326, 327, 328, 333, 334, 335, 336, 386, 387, 388, 389, 390, 6464] gr σ σ83 := fσ82.tr (cσ83.mo (by decide))
      have oxcσ83 : OX o σ σ83 := oxcσ82.tr (OX.fx cσ83 (by decide) (by decide)) (xσ49.trans (xσ50.trans (xσ51.trans (xσ55.trans (xσ57.trans (xσ68.trans (xσ70.trans (xσ72.trans (xσ73.trans (xσ74.trans (xσ77.trans (xσ78.trans (xσ79.trans xσ82)))))))))))))
      have kp229 : gI σ83 J 1 = gI σ82 J 1 := (cσ83.O (kJ.up (xσ49.trans (xσ50.trans (xσ51.trans (xσ55.trans (xσ57.trans (xσ68.trans (xσ70.trans (xσ72.trans (xσ73.trans (xσ74.trans (xσ77.trans (xσ78.trans (xσ79.trans xσ82)))))))))))))) (by decide)).1
      have kp230 : gI σ83 J 7 = gI σ82 J 7 := (cσ83.O (kJ.up (xσ49.trans (xσ50.trans (xσ51.trans (xσ55.trans (xσ57.trans (xσ68.trans (xσ70.trans (xσ72.trans (xσ73.trans (xσ74.trans (xσ77.trans (xσ78.trans (xσ79.trans xσ82)))))))))))))) (by decide)).1
      have kp231 : gI σ83 o 13 = gI σ82 o 13 := (cσ83.O (ko.up (xσ49.trans (xσ50.trans (xσ51.trans (xσ55.trans (xσ57.trans (xσ68.trans (xσ70.trans (xσ72.trans (xσ73.trans (xσ74.trans (xσ77.trans (xσ78.trans (xσ79.trans xσ82)))))))))))))) (by decide)).1
      have kp232 : gI σ83 o 14 = gI σ82 o 14 := (cσ83.O (ko.up (xσ49.trans (xσ50.trans (xσ51.trans (xσ55.trans (xσ57.trans (xσ68.trans (xσ70.trans (xσ72.trans (xσ73.trans (xσ74.trans (xσ77.trans (xσ78.trans (xσ79.trans xσ82)))))))))))))) (by decide)).1
      have kp233 : gI σ83 o 4 = gI σ82 o 4 := (cσ83.O (ko.up (xσ49.trans (xσ50.trans (xσ51.trans (xσ55.trans (xσ57.trans (xσ68.trans (xσ70.trans (xσ72.trans (xσ73.trans (xσ74.trans (xσ77.trans (xσ78.trans (xσ79.trans xσ82)))))))))))))) (by decide)).1
      have kp234 : gI σ83 o 7 = gI σ82 o 7 := (cσ83.O (ko.up (xσ49.trans (xσ50.trans (xσ51.trans (xσ55.trans (xσ57.trans (xσ68.trans (xσ70.trans (xσ72.trans (xσ73.trans (xσ74.trans (xσ77.trans (xσ78.trans (xσ79.trans xσ82)))))))))))))) (by decide)).1
      have kp235 : gI σ83 o 8 = gI σ82 o 8 := (cσ83.O (ko.up (xσ49.trans (xσ50.trans (xσ51.trans (xσ55.trans (xσ57.trans (xσ68.trans (xσ70.trans (xσ72.trans (xσ73.trans (xσ74.trans (xσ77.trans (xσ78.trans (xσ79.trans xσ82)))))))))))))) (by decide)).1
      have kp236 : gP σ83 J 0 = gP σ82 J 0 := (cσ83.O (kJ.up (xσ49.trans (xσ50.trans (xσ51.trans (xσ55.trans (xσ57.trans (xσ68.trans (xσ70.trans (xσ72.trans (xσ73.trans (xσ74.trans (xσ77.trans (xσ78.trans (xσ79.trans xσ82)))))))))))))) (by decide)).2.1
      have kp237 : gP σ83 b (gI σ57 o 8).toNat = gP σ82 b (gI σ57 o 8).toNat := (cσ83.A (mb.up (xσ55.trans (xσ57.trans (xσ68.trans (xσ70.trans (xσ72.trans (xσ73.trans (xσ74.trans (xσ77.trans (xσ78.trans (xσ79.trans xσ82))))))))))) (by decide)).2.1
      have kp238 : gP σ83 th 0 = gP σ82 th 0 := (cσ83.O (kth.up (xσ49.trans (xσ50.trans (xσ51.trans (xσ55.trans (xσ57.trans (xσ68.trans (xσ70.trans (xσ72.trans (xσ73.trans (xσ74.trans (xσ77.trans (xσ78.trans (xσ79.trans xσ82)))))))))))))) (by decide)).2.1
      have kp239 : gP σ83 th 7 = gP σ82 th 7 := (cσ83.O (kth.up (xσ49.trans (xσ50.trans (xσ51.trans (xσ55.trans (xσ57.trans (xσ68.trans (xσ70.trans (xσ72.trans (xσ73.trans (xσ74.trans (xσ77.trans (xσ78.trans (xσ79.trans xσ82)))))))))))))) (by decide)).2.1
      have kp240 : gP σ83 th 8 = gP σ82 th 8 := (cσ83.O (kth.up (xσ49.trans (xσ50.trans (xσ51.trans (xσ55.trans (xσ57.trans (xσ68.trans (xσ70.trans (xσ72.trans (xσ73.trans (xσ74.trans (xσ77.trans (xσ78.trans (xσ79.trans xσ82)))))))))))))) (by decide)).2.1
      have kp241 : gI σ83 J 2 = gI σ82 J 2 := (cσ83.O (kJ.up (xσ49.trans (xσ50.trans (xσ51.trans (xσ55.trans (xσ57.trans (xσ68.trans (xσ70.trans (xσ72.trans (xσ73.trans (xσ74.trans (xσ77.trans (xσ78.trans (xσ79.trans xσ82)))))))))))))) (by decide)).1
      have kp242 : gI σ83 o 3 = gI σ82 o 3 := (cσ83.O (ko.up (xσ49.trans (xσ50.trans (xσ51.trans (xσ55.trans (xσ57.trans (xσ68.trans (xσ70.trans (xσ72.trans (xσ73.trans (xσ74.trans (xσ77.trans (xσ78.trans (xσ79.trans xσ82)))))))))))))) (by decide)).1
      have kp243 : gI σ83 o 6 = gI σ82 o 6 := (cσ83.O (ko.up (xσ49.trans (xσ50.trans (xσ51.trans (xσ55.trans (xσ57.trans (xσ68.trans (xσ70.trans (xσ72.trans (xσ73.trans (xσ74.trans (xσ77.trans (xσ78.trans (xσ79.trans xσ82)))))))))))))) (by decide)).1
      have kp244 : gI σ83 o 9 = gI σ82 o 9 := (cσ83.O (ko.up (xσ49.trans (xσ50.trans (xσ51.trans (xσ55.trans (xσ57.trans (xσ68.trans (xσ70.trans (xσ72.trans (xσ73.trans (xσ74.trans (xσ77.trans (xσ78.trans (xσ79.trans xσ82)))))))))))))) (by decide)).1
      have r5σ83 := I_6_5 iσ83.1 (kth.up (xσ49.trans (xσ50.trans (xσ51.trans (xσ55.trans (xσ57.trans (xσ68.trans (xσ70.trans (xσ72.trans (xσ73.trans (xσ74.trans (xσ77.trans (xσ78.trans (xσ79.trans (xσ82.trans xσ83)))))))))))))))
      by_cases hc245 : v1 ≠ 6
      · rw [if_pos hc245]
        unfold w_X6_pairText_213
        exact hQ σ83 () iσ83 fσ83 oxcσ83 (⟨by omega, by omega, ⟨by omega, (fun _ a ka ga => by have w9 := wf a ka (by omega); omega), (fun h => absurd h (by omega))⟩⟩)
      · rw [if_neg hc245]
        have hc245q := Classical.not_not.mp hc245
        unfold w_X6_pairText_154
        refine i_X6_wantWord iσ83 (kth.up (xσ49.trans (xσ50.trans (xσ51.trans (xσ55.trans (xσ57.trans (xσ68.trans (xσ70.trans (xσ72.trans (xσ73.trans (xσ74.trans (xσ77.trans (xσ78.trans (xσ79.trans (xσ82.trans xσ83))))))))))))))) (kp238.trans (kp219.trans (kp201.trans (kp186.trans (kp168.trans (kp151.trans (kp137.trans (kp123.trans (kp107.trans (kp91.trans (kp70.trans (kp55.trans (kp40.trans (kp27.trans (kp16.trans hX0))))))))))))))) (kX.up (xσ49.trans (xσ50.trans (xσ51.trans (xσ55.trans (xσ57.trans (xσ68.trans (xσ70.trans (xσ72.trans (xσ73.trans (xσ74.trans (xσ77.trans (xσ78.trans (xσ79.trans (xσ82.trans xσ83))))))))))))))) (((xσ49.trans (xσ50.trans (xσ51.trans (xσ55.trans (xσ57.trans (xσ68.trans (xσ70.trans (xσ72.trans (xσ73.trans (xσ74.trans (xσ77.trans (xσ78.trans (xσ79.trans (xσ82.trans xσ83)))))))))))))) tx kX.1).2.2.trans gX) (by (first | omega | with_reducible assumption | with_reducible exact rng_toInt _ | with_reducible exact rng_wr _ | (unfold rng; omega) | (unfold rng at *; omega) | assumption)) (by (first | omega | with_reducible assumption | with_reducible exact rng_toInt _ | with_reducible exact rng_wr _ | (unfold rng; omega) | (unfold rng at *; omega) | assumption)) (fun σ84 _ iσ84 cσ84 pσ84 => ?_) (fun σx LLx Nx nux E ix cx ux px => hX σx LLx Nx nux E ix (fσ83.tr (cx.mo (by decide))) (ux) (by first | exact px | exact ⟨by have := px.1; omega, px.2⟩ | (first | omega | with_reducible assumption | with_reducible exact rng_toInt _ | with_reducible exact rng_wr _ | (unfold rng; omega) | (unfold rng at *; omega) | assumption)))
        intro xσ84
        have fσ84 : Fx [323, 326, 327, 328, 333, 334, 335, 336, 386, 387, 388, 389, 390, 6464] gr σ σ84 := fσ83.tr (cσ84.mo (by decide))
        have oxcσ84 : OX o σ σ84 := oxcσ83.tr (OX.fx cσ84 (by decide) (by decide)) (xσ49.trans (xσ50.trans (xσ51.trans (xσ55.trans (xσ57.trans (xσ68.trans (xσ70.trans (xσ72.trans (xσ73.trans (xσ74.trans (xσ77.trans (xσ78.trans (xσ79.trans (xσ82.trans xσ83))))))))))))))
        have kp246 : gI σ84 J 1 = gI σ83 J 1 := (cσ84.O (kJ.up (xσ49.trans (xσ50.trans (xσ51.trans (xσ55.trans (xσ57.trans (xσ68.trans (xσ70.trans (xσ72.trans (xσ73.trans (xσ74.trans (xσ77.trans (xσ78.trans (xσ79.trans (xσ82.trans xσ83))))))))))))))) (by decide)).1
        have kp247 : gI σ84 J 7 = gI σ83 J 7 := (cσ84.O (kJ.up (xσ49.trans (xσ50.trans (xσ51.trans (xσ55.trans (xσ57.trans (xσ68.trans (xσ70.trans (xσ72.trans (xσ73.trans (xσ74.trans (xσ77.trans (xσ78.trans (xσ79.trans (xσ82.trans xσ83))))))))))))))) (by decide)).1
        have kp248 : gI σ84 o 13 = gI σ83 o 13 := (cσ84.O (ko.up (xσ49.trans (xσ50.trans (xσ51.trans (xσ55.trans (xσ57.trans (xσ68.trans (xσ70.trans (xσ72.trans (xσ73.trans (xσ74.trans (xσ77.trans (xσ78.trans (xσ79.trans (xσ82.trans xσ83))))))))))))))) (by decide)).1
        have kp249 : gI σ84 o 14 = gI σ83 o 14 := (cσ84.O (ko.up (xσ49.trans (xσ50.trans (xσ51.trans (xσ55.trans (xσ57.trans (xσ68.trans (xσ70.trans (xσ72.trans (xσ73.trans (xσ74.trans (xσ77.trans (xσ78.trans (xσ79.trans (xσ82.trans xσ83))))))))))))))) (by decide)).1
        have kp250 : gI σ84 o 4 = gI σ83 o 4 := (cσ84.O (ko.up (xσ49.trans (xσ50.trans (xσ51.trans (xσ55.trans (xσ57.trans (xσ68.trans (xσ70.trans (xσ72.trans (xσ73.trans (xσ74.trans (xσ77.trans (xσ78.trans (xσ79.trans (xσ82.trans xσ83))))))))))))))) (by decide)).1
        have kp251 : gI σ84 o 7 = gI σ83 o 7 := (cσ84.O (ko.up (xσ49.trans (xσ50.trans (xσ51.trans (xσ55.trans (xσ57.trans (xσ68.trans (xσ70.trans (xσ72.trans (xσ73.trans (xσ74.trans (xσ77.trans (xσ78.trans (xσ79.trans (xσ82.trans xσ83))))))))))))))) (by decide)).1
        have kp252 : gI σ84 o 8 = gI σ83 o 8 := (cσ84.O (ko.up (xσ49.trans (xσ50.trans (xσ51.trans (xσ55.trans (xσ57.trans (xσ68.trans (xσ70.trans (xσ72.trans (xσ73.trans (xσ74.trans (xσ77.trans (xσ78.trans (xσ79.trans (xσ82.trans xσ83))))))))))))))) (by decide)).1
        have kp253 : gP σ84 J 0 = gP σ83 J 0 := (cσ84.O (kJ.up (xσ49.trans (xσ50.trans (xσ51.trans (xσ55.trans (xσ57.trans (xσ68.trans (xσ70.trans (xσ72.trans (xσ73.trans (xσ74.trans (xσ77.trans (xσ78.trans (xσ79.trans (xσ82.trans xσ83))))))))))))))) (by decide)).2.1
        have kp254 : gP σ84 b (gI σ57 o 8).toNat = gP σ83 b (gI σ57 o 8).toNat := (cσ84.A (mb.up (xσ55.trans (xσ57.trans (xσ68.trans (xσ70.trans (xσ72.trans (xσ73.trans (xσ74.trans (xσ77.trans (xσ78.trans (xσ79.trans (xσ82.trans xσ83)))))))))))) (by decide)).2.1
        have kp255 : gP σ84 th 0 = gP σ83 th 0 := (cσ84.O (kth.up (xσ49.trans (xσ50.trans (xσ51.trans (xσ55.trans (xσ57.trans (xσ68.trans (xσ70.trans (xσ72.trans (xσ73.trans (xσ74.trans (xσ77.trans (xσ78.trans (xσ79.trans (xσ82.trans xσ83))))))))))))))) (by decide)).2.1
        have kp256 : gP σ84 th 7 = gP σ83 th 7 := (cσ84.O (kth.up (xσ49.trans (xσ50.trans (xσ51.trans (xσ55.trans (xσ57.trans (xσ68.trans (xσ70.trans (xσ72.trans (xσ73.trans (xσ74.trans (xσ77.trans (xσ78.trans (xσ79.trans (xσ82.trans xσ83))))))))))))))) (by decide)).2.1
        have kp257 : gP σ84 th 8 = gP σ83 th 8 := (cσ84.O (kth.up (xσ49.trans (xσ50.trans (xσ51.trans (xσ55.trans (xσ57.trans (xσ68.trans (xσ70.trans (xσ72.trans (xσ73.trans (xσ74.trans (xσ77.trans (xσ78.trans (xσ79.trans (xσ82.trans xσ83))))))))))))))) (by decide)).2.1
        have kp258 : gI σ84 J 2 = gI σ83 J 2 := (cσ84.O (kJ.up (xσ49.trans (xσ50.trans (xσ51.trans (xσ55.trans (xσ57.trans (xσ68.trans (xσ70.trans (xσ72.trans (xσ73.trans (xσ74.trans (xσ77.trans (xσ78.trans (xσ79.trans (xσ82.trans xσ83))))))))))))))) (by decide)).1
        have kp259 : gI σ84 o 3 = gI σ83 o 3 := (cσ84.O (ko.up (xσ49.trans (xσ50.trans (xσ51.trans (xσ55.trans (xσ57.trans (xσ68.trans (xσ70.trans (xσ72.trans (xσ73.trans (xσ74.trans (xσ77.trans (xσ78.trans (xσ79.trans (xσ82.trans xσ83))))))))))))))) (by decide)).1
        have kp260 : gI σ84 o 6 = gI σ83 o 6 := (cσ84.O (ko.up (xσ49.trans (xσ50.trans (xσ51.trans (xσ55.trans (xσ57.trans (xσ68.trans (xσ70.trans (xσ72.trans (xσ73.trans (xσ74.trans (xσ77.trans (xσ78.trans (xσ79.trans (xσ82.trans xσ83))))))))))))))) (by decide)).1
        have kp261 : gI σ84 o 9 = gI σ83 o 9 := (cσ84.O (ko.up (xσ49.trans (xσ50.trans (xσ51.trans (xσ55.trans (xσ57.trans (xσ68.trans (xσ70.trans (xσ72.trans (xσ73.trans (xσ74.trans (xσ77.trans (xσ78.trans (xσ79.trans (xσ82.trans xσ83))))))))))))))) (by decide)).1
        have r5σ84 := I_6_5 iσ84.1 (kth.up (xσ49.trans (xσ50.trans (xσ51.trans (xσ55.trans (xσ57.trans (xσ68.trans (xσ70.trans (xσ72.trans (xσ73.trans (xσ74.trans (xσ77.trans (xσ78.trans (xσ79.trans (xσ82.trans (xσ83.trans xσ84))))))))))))))))
        refine i_X6_signedNumber iσ84 (kth.up (xσ49.trans (xσ50.trans (xσ51.trans (xσ55.trans (xσ57.trans (xσ68.trans (xσ70.trans (xσ72.trans (xσ73.trans (xσ74.trans (xσ77.trans (xσ78.trans (xσ79.trans (xσ82.trans (xσ83.trans xσ84)))))))))))))))) (kp255.trans (kp238.trans (kp219.trans (kp201.trans (kp186.trans (kp168.trans (kp151.trans (kp137.trans (kp123.trans (kp107.trans (kp91.trans (kp70.trans (kp55.trans (kp40.trans (kp27.trans (kp16.trans hX0)))))))))))))))) (kX.up (xσ49.trans (xσ50.trans (xσ51.trans (xσ55.trans (xσ57.trans (xσ68.trans (xσ70.trans (xσ72.trans (xσ73.trans (xσ74.trans (xσ77.trans (xσ78.trans (xσ79.trans (xσ82.trans (xσ83.trans xσ84)))))))))))))))) (((xσ49.trans (xσ50.trans (xσ51.trans (xσ55.trans (xσ57.trans (xσ68.trans (xσ70.trans (xσ72.trans (xσ73.trans (xσ74.trans (xσ77.trans (xσ78.trans (xσ79.trans (xσ82.trans (xσ83.trans xσ84))))))))))))))) tx kX.1).2.2.trans gX) (by (first | omega | with_reducible assumption | with_reducible exact rng_toInt _ | with_reducible exact rng_wr _ | (unfold rng; omega) | (unfold rng at *; omega) | assumption)) (by (first | omega | with_reducible assumption | with_reducible exact rng_toInt _ | with_reducible exact rng_wr _ | (unfold rng; omega) | (unfold rng at *; omega) | assumption)) (fun σ85 r86 iσ85 cσ85 pσ85 => ?_) (fun σx LLx Nx nux E ix cx ux px => hX σx LLx Nx nux E ix (fσ84.tr (cx.mo (by decide))) (ux) (by first | exact px | exact ⟨by have := px.1; omega, px.2⟩ | (first | omega | with_reducible assumption | with_reducible exact rng_toInt _ | with_reducible exact rng_wr _ | (unfold rng; omega) | (unfold rng at *; omega) | assumption)))
        intro xσ85
        have fσ85 : Fx [323, 326, 327, 328, 333, 334, 335, 336, 386, 387, 388, 389, 390, 6464] gr σ σ85 := fσ84.tr (cσ85.mo (by decide))
        have oxcσ85 : OX o σ σ85 := oxcσ84.tr (OX.fx cσ85 (by decide) (by decide)) (xσ49.trans (xσ50.trans (xσ51.trans (xσ55.trans (xσ57.trans (xσ68.trans (xσ70.trans (xσ72.trans (xσ73.trans (xσ74.trans (xσ77.trans (xσ78.trans (xσ79.trans (xσ82.trans (xσ83.trans xσ84)))))))))))))))
        have kp262 : gI σ85 J 1 = gI σ84 J 1 := (cσ85.O (kJ.up (xσ49.trans (xσ50.trans (xσ51.trans (xσ55.trans (xσ57.trans (xσ68.trans (xσ70.trans (xσ72.trans (xσ73.trans (xσ74.trans (xσ77.trans (xσ78.trans (xσ79.trans (xσ82.trans (xσ83.trans xσ84)))))))))))))))) (by decide)).1
        have kp263 : gI σ85 J 7 = gI σ84 J 7 := (cσ85.O (kJ.up (xσ49.trans (xσ50.trans (xσ51.trans (xσ55.trans (xσ57.trans (xσ68.trans (xσ70.trans (xσ72.trans (xσ73.trans (xσ74.trans (xσ77.trans (xσ78.trans (xσ79.trans (xσ82.trans (xσ83.trans xσ84)))))))))))))))) (by decide)).1
        have kp264 : gI σ85 o 13 = gI σ84 o 13 := (cσ85.O (ko.up (xσ49.trans (xσ50.trans (xσ51.trans (xσ55.trans (xσ57.trans (xσ68.trans (xσ70.trans (xσ72.trans (xσ73.trans (xσ74.trans (xσ77.trans (xσ78.trans (xσ79.trans (xσ82.trans (xσ83.trans xσ84)))))))))))))))) (by decide)).1
        have kp265 : gI σ85 o 14 = gI σ84 o 14 := (cσ85.O (ko.up (xσ49.trans (xσ50.trans (xσ51.trans (xσ55.trans (xσ57.trans (xσ68.trans (xσ70.trans (xσ72.trans (xσ73.trans (xσ74.trans (xσ77.trans (xσ78.trans (xσ79.trans (xσ82.trans (xσ83.trans xσ84)))))))))))))))) (by decide)).1
        have kp266 : gI σ85 o 4 = gI σ84 o 4 := (cσ85.O (ko.up (xσ49.trans (xσ50.trans (xσ51.trans (xσ55.trans (xσ57.trans (xσ68.trans (xσ70.trans (xσ72.trans (xσ73.trans (xσ74.trans (xσ77.trans (xσ78.trans (xσ79.trans (xσ82.trans (xσ83.trans xσ84)))))))))))))))) (by decide)).1
        have kp267 : gI σ85 o 7 = gI σ84 o 7 := (cσ85.O (ko.up (xσ49.trans (xσ50.trans (xσ51.trans (xσ55.trans (xσ57.trans (xσ68.trans (xσ70.trans (xσ72.trans (xσ73.trans (xσ74.trans (xσ77.trans (xσ78.trans (xσ79.trans (xσ82.trans (xσ83.trans xσ84)))))))))))))))) (by decide)).1
        have kp268 : gI σ85 o 8 = gI σ84 o 8 := (cσ85.O (ko.up (xσ49.trans (xσ50.trans (xσ51.trans (xσ55.trans (xσ57.trans (xσ68.trans (xσ70.trans (xσ72.trans (xσ73.trans (xσ74.trans (xσ77.trans (xσ78.trans (xσ79.trans (xσ82.trans (xσ83.trans xσ84)))))))))))))))) (by decide)).1
        have kp269 : gP σ85 J 0 = gP σ84 J 0 := (cσ85.O (kJ.up (xσ49.trans (xσ50.trans (xσ51.trans (xσ55.trans (xσ57.trans (xσ68.trans (xσ70.trans (xσ72.trans (xσ73.trans (xσ74.trans (xσ77.trans (xσ78.trans (xσ79.trans (xσ82.trans (xσ83.trans xσ84)))))))))))))))) (by decide)).2.1
        have kp270 : gP σ85 b (gI σ57 o 8).toNat = gP σ84 b (gI σ57 o 8).toNat := (cσ85.A (mb.up (xσ55.trans (xσ57.trans (xσ68.trans (xσ70.trans (xσ72.trans (xσ73.trans (xσ74.trans (xσ77.trans (xσ78.trans (xσ79.trans (xσ82.trans (xσ83.trans xσ84))))))))))))) (by decide)).2.1
        have kp271 : gP σ85 th 0 = gP σ84 th 0 := (cσ85.O (kth.up (xσ49.trans (xσ50.trans (xσ51.trans (xσ55.trans (xσ57.trans (xσ68.trans (xσ70.trans (xσ72.trans (xσ73.trans (xσ74.trans (xσ77.trans (xσ78.trans (xσ79.trans (xσ82.trans (xσ83.trans xσ84)))))))))))))))) (by decide)).2.1
        have kp272 : gP σ85 th 7 = gP σ84 th 7 := (cσ85.O (kth.up (xσ49.trans (xσ50.trans (xσ51.trans (xσ55.trans (xσ57.trans (xσ68.trans (xσ70.trans (xσ72.trans (xσ73.trans (xσ74.trans (xσ77.trans (xσ78.trans (xσ79.trans (xσ82.trans (xσ83.trans xσ84)))))))))))))))) (by decide)).2.1
        have kp273 : gP σ85 th 8 = gP σ84 th 8 := (cσ85.O (kth.up (xσ49.trans (xσ50.trans (xσ51.trans (xσ55.trans (xσ57.trans (xσ68.trans (xσ70.trans (xσ72.trans (xσ73.trans (xσ74.trans (xσ77.trans (xσ78.trans (xσ79.trans (xσ82.trans (xσ83.trans xσ84)))))))))))))))) (by decide)).2.1
        have kp274 : gI σ85 J 2 = gI σ84 J 2 := (cσ85.O (kJ.up (xσ49.trans (xσ50.trans (xσ51.trans (xσ55.trans (xσ57.trans (xσ68.trans (xσ70.trans (xσ72.trans (xσ73.trans (xσ74.trans (xσ77.trans (xσ78.trans (xσ79.trans (xσ82.trans (xσ83.trans xσ84)))))))))))))))) (by decide)).1
        have kp275 : gI σ85 o 3 = gI σ84 o 3 := (cσ85.O (ko.up (xσ49.trans (xσ50.trans (xσ51.trans (xσ55.trans (xσ57.trans (xσ68.trans (xσ70.trans (xσ72.trans (xσ73.trans (xσ74.trans (xσ77.trans (xσ78.trans (xσ79.trans (xσ82.trans (xσ83.trans xσ84)))))))))))))))) (by decide)).1
        have kp276 : gI σ85 o 6 = gI σ84 o 6 := (cσ85.O (ko.up (xσ49.trans (xσ50.trans (xσ51.trans (xσ55.trans (xσ57.trans (xσ68.trans (xσ70.trans (xσ72.trans (xσ73.trans (xσ74.trans (xσ77.trans (xσ78.trans (xσ79.trans (xσ82.trans (xσ83.trans xσ84)))))))))))))))) (by decide)).1
        have kp277 : gI σ85 o 9 = gI σ84 o 9 := (cσ85.O (ko.up (xσ49.trans (xσ50.trans (xσ51.trans (xσ55.trans (xσ57.trans (xσ68.trans (xσ70.trans (xσ72.trans (xσ73.trans (xσ74.trans (xσ77.trans (xσ78.trans (xσ79.trans (xσ82.trans (xσ83.trans xσ84)))))))))))))))) (by decide)).1
        have r5σ85 := I_6_5 iσ85.1 (kth.up (xσ49.trans (xσ50.trans (xσ51.trans (xσ55.trans (xσ57.trans (xσ68.trans (xσ70.trans (xσ72.trans (xσ73.trans (xσ74.trans (xσ77.trans (xσ78.trans (xσ79.trans (xσ82.trans (xσ83.trans (xσ84.trans xσ85)))))))))))))))))
        refine ⟨o, (kp257.trans (kp240.trans (kp221.trans (kp203.trans (kp188.trans (kp170.trans (kp153.trans (kp139.trans (kp125.trans (kp109.trans (kp93.trans (kp72.trans (kp57.trans (kp42.trans (kp29.trans (kp18.trans h8)))))))))))))))), fun kk_o_6 => ?_⟩
        intro σ88 eσ88
        have xσ88 : Ext σ85 σ88 := by rw [eσ88]; exact fun _ h => ⟨h, rfl, rfl⟩
        have iσ88 : IV σ88 pl gq ci gr nc ot LL N nu := by rw [eσ88]; exact iσ85.wSp (ko.up (xσ49.trans (xσ50.trans (xσ51.trans (xσ55.trans (xσ57.trans (xσ68.trans (xσ70.trans (xσ72.trans (xσ73.trans (xσ74.trans (xσ77.trans (xσ78.trans (xσ79.trans (xσ82.trans (xσ83.trans (xσ84.trans xσ85))))))))))))))))) (fun i hi => by omega) (by decide) (show (-1000 : Int) ≤ r86 ∧ r86 ≤ 1000 from ⟨by omega, by omega⟩)
        have fσ88 : Fx [323, 326, 327, 328, 333, 334, 335, 336, 386, 387, 388, 389, 390, 6464] gr σ σ88 := fσ85.tr (Sk.fx (by rw [eσ88]; exact Sk.pI (by rw [fcdO (ko.up (xσ49.trans (xσ50.trans (xσ51.trans (xσ55.trans (xσ57.trans (xσ68.trans (xσ70.trans (xσ72.trans (xσ73.trans (xσ74.trans (xσ77.trans (xσ78.trans (xσ79.trans (xσ82.trans (xσ83.trans (xσ84.trans xσ85))))))))))))))))) (by decide)]; decide)))
        have oxcσ88 : OX o σ σ88 := oxcσ85.tr (by rw [eσ88]; exact OX.pI (ko.up (xσ49.trans (xσ50.trans (xσ51.trans (xσ55.trans (xσ57.trans (xσ68.trans (xσ70.trans (xσ72.trans (xσ73.trans (xσ74.trans (xσ77.trans (xσ78.trans (xσ79.trans (xσ82.trans (xσ83.trans (xσ84.trans xσ85))))))))))))))))) (Or.inr rfl)) (xσ49.trans (xσ50.trans (xσ51.trans (xσ55.trans (xσ57.trans (xσ68.trans (xσ70.trans (xσ72.trans (xσ73.trans (xσ74.trans (xσ77.trans (xσ78.trans (xσ79.trans (xσ82.trans (xσ83.trans (xσ84.trans xσ85))))))))))))))))
        have wσ88 : gI σ88 o 15 = r86 := by rw [eσ88]; exact up2_s _ _ _ _
        have kp278 : gI σ88 J 1 = gI σ85 J 1 := by rw [eσ88]; exact up2_n _ _ (fun q => absurd q.2 (by decide))
        have kp279 : gI σ88 J 7 = gI σ85 J 7 := by rw [eσ88]; exact up2_n _ _ (fun q => absurd q.2 (by decide))
        have kp280 : gI σ88 o 13 = gI σ85 o 13 := by rw [eσ88]; exact up2_n _ _ (fun q => absurd q.2 (by decide))
        have kp281 : gI σ88 o 14 = gI σ85 o 14 := by rw [eσ88]; exact up2_n _ _ (fun q => absurd q.2 (by decide))
        have kp282 : gI σ88 o 4 = gI σ85 o 4 := by rw [eσ88]; exact up2_n _ _ (fun q => absurd q.2 (by decide))
        have kp283 : gI σ88 o 7 = gI σ85 o 7 := by rw [eσ88]; exact up2_n _ _ (fun q => absurd q.2 (by decide))
        have kp284 : gI σ88 o 8 = gI σ85 o 8 := by rw [eσ88]; exact up2_n _ _ (fun q => absurd q.2 (by decide))
        have kp285 : gP σ88 J 0 = gP σ85 J 0 := by rw [eσ88]
        have kp286 : gP σ88 b (gI σ57 o 8).toNat = gP σ85 b (gI σ57 o 8).toNat := by rw [eσ88]
        have kp287 : gP σ88 th 0 = gP σ85 th 0 := by rw [eσ88]
        have kp288 : gP σ88 th 7 = gP σ85 th 7 := by rw [eσ88]
        have kp289 : gP σ88 th 8 = gP σ85 th 8 := by rw [eσ88]
        have kp290 : gI σ88 th 2 = gI σ85 th 2 := by rw [eσ88]; exact up2_n _ _ (fun q => absurd q.2 (by decide))
        have kp291 : gI σ88 th 3 = gI σ85 th 3 := by rw [eσ88]; exact up2_n _ _ (fun q => absurd q.2 (by decide))
        have kp292 : gI σ88 th 5 = gI σ85 th 5 := by rw [eσ88]; exact up2_n _ _ (fun q => absurd q.2 (by decide))
        have kp293 : gI σ88 J 2 = gI σ85 J 2 := by rw [eσ88]; exact up2_n _ _ (fun q => absurd q.2 (by decide))
        have kp294 : gI σ88 o 3 = gI σ85 o 3 := by rw [eσ88]; exact up2_n _ _ (fun q => absurd q.2 (by decide))
        have kp295 : gI σ88 o 6 = gI σ85 o 6 := by rw [eσ88]; exact up2_n _ _ (fun q => absurd q.2 (by decide))
        have kp296 : gI σ88 o 9 = gI σ85 o 9 := by rw [eσ88]; exact up2_n _ _ (fun q => absurd q.2 (by decide))
        refine i_X6_next iσ88 (kth.up (xσ49.trans (xσ50.trans (xσ51.trans (xσ55.trans (xσ57.trans (xσ68.trans (xσ70.trans (xσ72.trans (xσ73.trans (xσ74.trans (xσ77.trans (xσ78.trans (xσ79.trans (xσ82.trans (xσ83.trans (xσ84.trans (xσ85.trans xσ88)))))))))))))))))) (kp287.trans (kp271.trans (kp255.trans (kp238.trans (kp219.trans (kp201.trans (kp186.trans (kp168.trans (kp151.trans (kp137.trans (kp123.trans (kp107.trans (kp91.trans (kp70.trans (kp55.trans (kp40.trans (kp27.trans (kp16.trans hX0)))))))))))))))))) (kX.up (xσ49.trans (xσ50.trans (xσ51.trans (xσ55.trans (xσ57.trans (xσ68.trans (xσ70.trans (xσ72.trans (xσ73.trans (xσ74.trans (xσ77.trans (xσ78.trans (xσ79.trans (xσ82.trans (xσ83.trans (xσ84.trans (xσ85.trans xσ88)))))))))))))))))) (((xσ49.trans (xσ50.trans (xσ51.trans (xσ55.trans (xσ57.trans (xσ68.trans (xσ70.trans (xσ72.trans (xσ73.trans (xσ74.trans (xσ77.trans (xσ78.trans (xσ79.trans (xσ82.trans (xσ83.trans (xσ84.trans (xσ85.trans xσ88))))))))))))))))) tx kX.1).2.2.trans gX) (by (first | omega | with_reducible assumption | with_reducible exact rng_toInt _ | with_reducible exact rng_wr _ | (unfold rng; omega) | (unfold rng at *; omega) | assumption)) (by (first | omega | with_reducible assumption | with_reducible exact rng_toInt _ | with_reducible exact rng_wr _ | (unfold rng; omega) | (unfold rng at *; omega) | assumption)) (fun σ89 _ iσ89 cσ89 pσ89 => ?_) (fun σx LLx Nx nux E ix cx ux px => hX σx LLx Nx nux E ix (fσ88.tr (cx.mo (by decide))) (ux) (by first | exact px | exact ⟨by have := px.1; omega, px.2⟩ | (first | omega | with_reducible assumption | with_reducible exact rng_toInt _ | with_reducible exact rng_wr _ | (unfold rng; omega) | (unfold rng at *; omega) | assumption)))
        intro xσ89
        have fσ89 : Fx [323, 326, 327, 328, 333, 334, 335, 336, 386, 387, 388, 389, 390, 6464] gr σ σ89 := fσ88.tr (cσ89.mo (by decide))
        have oxcσ89 : OX o σ σ89 := oxcσ88.tr (OX.fx cσ89 (by decide) (by decide)) (xσ49.trans (xσ50.trans (xσ51.trans (xσ55.trans (xσ57.trans (xσ68.trans (xσ70.trans (xσ72.trans (xσ73.trans (xσ74.trans (xσ77.trans (xσ78.trans (xσ79.trans (xσ82.trans (xσ83.trans (xσ84.trans (xσ85.trans xσ88)))))))))))))))))
        have kp297 : gI σ89 J 1 = gI σ88 J 1 := (cσ89.O (kJ.up (xσ49.trans (xσ50.trans (xσ51.trans (xσ55.trans (xσ57.trans (xσ68.trans (xσ70.trans (xσ72.trans (xσ73.trans (xσ74.trans (xσ77.trans (xσ78.trans (xσ79.trans (xσ82.trans (xσ83.trans (xσ84.trans (xσ85.trans xσ88)))))))))))))))))) (by decide)).1
        have kp298 : gI σ89 J 7 = gI σ88 J 7 := (cσ89.O (kJ.up (xσ49.trans (xσ50.trans (xσ51.trans (xσ55.trans (xσ57.trans (xσ68.trans (xσ70.trans (xσ72.trans (xσ73.trans (xσ74.trans (xσ77.trans (xσ78.trans (xσ79.trans (xσ82.trans (xσ83.trans (xσ84.trans (xσ85.trans xσ88)))))))))))))))))) (by decide)).1
        have kp299 : gI σ89 o 13 = gI σ88 o 13 := (cσ89.O (ko.up (xσ49.trans (xσ50.trans (xσ51.trans (xσ55.trans (xσ57.trans (xσ68.trans (xσ70.trans (xσ72.trans (xσ73.trans (xσ74.trans (xσ77.trans (xσ78.trans (xσ79.trans (xσ82.trans (xσ83.trans (xσ84.trans (xσ85.trans xσ88)))))))))))))))))) (by decide)).1
        have kp300 : gI σ89 o 14 = gI σ88 o 14 := (cσ89.O (ko.up (xσ49.trans (xσ50.trans (xσ51.trans (xσ55.trans (xσ57.trans (xσ68.trans (xσ70.trans (xσ72.trans (xσ73.trans (xσ74.trans (xσ77.trans (xσ78.trans (xσ79.trans (xσ82.trans (xσ83.trans (xσ84.trans (xσ85.trans xσ88)))))))))))))))))) (by decide)).1
        have kp301 : gI σ89 o 15 = gI σ88 o 15 := (cσ89.O (ko.up (xσ49.trans (xσ50.trans (xσ51.trans (xσ55.trans (xσ57.trans (xσ68.trans (xσ70.trans (xσ72.trans (xσ73.trans (xσ74.trans (xσ77.trans (xσ78.trans (xσ79.trans (xσ82.trans (xσ83.trans (xσ84.trans (xσ85.trans xσ88)))))))))))))))))) (by decide)).1
        have kp302 : gI σ89 o 4 = gI σ88 o 4 := (cσ89.O (ko.up (xσ49.trans (xσ50.trans (xσ51.trans (xσ55.trans (xσ57.trans (xσ68.trans (xσ70.trans (xσ72.trans (xσ73.trans (xσ74.trans (xσ77.trans (xσ78.trans (xσ79.trans (xσ82.trans (xσ83.trans (xσ84.trans (xσ85.trans xσ88)))))))))))))))))) (by decide)).1
        have kp303 : gI σ89 o 7 = gI σ88 o 7 := (cσ89.O (ko.up (xσ49.trans (xσ50.trans (xσ51.trans (xσ55.trans (xσ57.trans (xσ68.trans (xσ70.trans (xσ72.trans (xσ73.trans (xσ74.trans (xσ77.trans (xσ78.trans (xσ79.trans (xσ82.trans (xσ83.trans (xσ84.trans (xσ85.trans xσ88)))))))))))))))))) (by decide)).1
        have kp304 : gI σ89 o 8 = gI σ88 o 8 := (cσ89.O (ko.up (xσ49.trans (xσ50.trans (xσ51.trans (xσ55.trans (xσ57.trans (xσ68.trans (xσ70.trans (xσ72.trans (xσ73.trans (xσ74.trans (xσ77.trans (xσ78.trans (xσ79.trans (xσ82.trans (xσ83.trans (xσ84.trans (xσ85.trans xσ88)))))))))))))))))) (by decide)).1
        have kp305 : gP σ89 J 0 = gP σ88 J 0 := (cσ89.O (kJ.up (xσ49.trans (xσ50.trans (xσ51.trans (xσ55.trans (xσ57.trans (xσ68.trans (xσ70.trans (xσ72.trans (xσ73.trans (xσ74.trans (xσ77.trans (xσ78.trans (xσ79.trans (xσ82.trans (xσ83.trans (xσ84.trans (xσ85.trans xσ88)))))))))))))))))) (by decide)).2.1
        have kp306 : gP σ89 b (gI σ57 o 8).toNat = gP σ88 b (gI σ57 o 8).toNat := (cσ89.A (mb.up (xσ55.trans (xσ57.trans (xσ68.trans (xσ70.trans (xσ72.trans (xσ73.trans (xσ74.trans (xσ77.trans (xσ78.trans (xσ79.trans (xσ82.trans (xσ83.trans (xσ84.trans (xσ85.trans xσ88))))))))))))))) (by decide)).2.1
        have kp307 : gP σ89 th 0 = gP σ88 th 0 := (cσ89.O (kth.up (xσ49.trans (xσ50.trans (xσ51.trans (xσ55.trans (xσ57.trans (xσ68.trans (xσ70.trans (xσ72.trans (xσ73.trans (xσ74.trans (xσ77.trans (xσ78.trans (xσ79.trans (xσ82.trans (xσ83.trans (xσ84.trans (xσ85.trans xσ88)))))))))))))))))) (by decide)).2.1
        have kp308 : gP σ89 th 7 = gP σ88 th 7 := (cσ89.O (kth.up (xσ49.trans (xσ50.trans (xσ51.trans (xσ55.trans (xσ57.trans (xσ68.trans (xσ70.trans (xσ72.trans (xσ73.trans (xσ74.trans (xσ77.trans (xσ78.trans (xσ79.trans (xσ82.trans (xσ83.trans (xσ84.trans (xσ85.trans xσ88)))))))))))))))))) (by decide)).2.1
        have kp309 : gP σ89 th 8 = gP σ88 th 8 := (cσ89.O (kth.up (xσ49.trans (xσ50.trans (xσ51.trans (xσ55.trans (xσ57.trans (xσ68.trans (xσ70.trans (xσ72.trans (xσ73.trans (xσ74.trans (xσ77.trans (xσ78.trans (xσ79.trans (xσ82.trans (xσ83.trans (xσ84.trans (xσ85.trans xσ88)))))))))))))))))) (by decide)).2.1
        have kp310 : gI σ89 J 2 = gI σ88 J 2 := (cσ89.O (kJ.up (xσ49.trans (xσ50.trans (xσ51.trans (xσ55.trans (xσ57.trans (xσ68.trans (xσ70.trans (xσ72.trans (xσ73.trans (xσ74.trans (xσ77.trans (xσ78.trans (xσ79.trans (xσ82.trans (xσ83.trans (xσ84.trans (xσ85.trans xσ88)))))))))))))))))) (by decide)).1
        have kp311 : gI σ89 o 3 = gI σ88 o 3 := (cσ89.O (ko.up (xσ49.trans (xσ50.trans (xσ51.trans (xσ55.trans (xσ57.trans (xσ68.trans (xσ70.trans (xσ72.trans (xσ73.trans (xσ74.trans (xσ77.trans (xσ78.trans (xσ79.trans (xσ82.trans (xσ83.trans (xσ84.trans (xσ85.trans xσ88)))))))))))))))))) (by decide)).1
        have kp312 : gI σ89 o 6 = gI σ88 o 6 := (cσ89.O (ko.up (xσ49.trans (xσ50.trans (xσ51.trans (xσ55.trans (xσ57.trans (xσ68.trans (xσ70.trans (xσ72.trans (xσ73.trans (xσ74.trans (xσ77.trans (xσ78.trans (xσ79.trans (xσ82.trans (xσ83.trans (xσ84.trans (xσ85.trans xσ88)))))))))))))))))) (by decide)).1
        have kp313 : gI σ89 o 9 = gI σ88 o 9 := (cσ89.O (ko.up (xσ49.trans (xσ50.trans (xσ51.trans (xσ55.trans (xσ57.trans (xσ68.trans (xσ70.trans (xσ72.trans (xσ73.trans (xσ74.trans (xσ77.trans (xσ78.trans (xσ79.trans (xσ82.trans (xσ83.trans (xσ84.trans (xσ85.trans xσ88)))))))))))))))))) (by decide)).1
        have r5σ89 := I_6_5 iσ89.1 (kth.up (xσ49.trans (xσ50.trans (xσ51.trans (xσ55.trans (xσ57.trans (xσ68.trans (xσ70.trans (xσ72.trans (xσ73.trans (xσ74.trans (xσ77.trans (xσ78.trans (xσ79.trans (xσ82.trans (xσ83.trans (xσ84.trans (xσ85.trans (xσ88.trans xσ89)))))))))))))))))))
        refine i_X6_signedNumber iσ89 (kth.up (xσ49.trans (xσ50.trans (xσ51.trans (xσ55.trans (xσ57.trans (xσ68.trans (xσ70.trans (xσ72.trans (xσ73.trans (xσ74.trans (xσ77.trans (xσ78.trans (xσ79.trans (xσ82.trans (xσ83.trans (xσ84.trans (xσ85.trans (xσ88.trans xσ89))))))))))))))))))) (kp307.trans (kp287.trans (kp271.trans (kp255.trans (kp238.trans (kp219.trans (kp201.trans (kp186.trans (kp168.trans (kp151.trans (kp137.trans (kp123.trans (kp107.trans (kp91.trans (kp70.trans (kp55.trans (kp40.trans (kp27.trans (kp16.trans hX0))))))))))))))))))) (kX.up (xσ49.trans (xσ50.trans (xσ51.trans (xσ55.trans (xσ57.trans (xσ68.trans (xσ70.trans (xσ72.trans (xσ73.trans (xσ74.trans (xσ77.trans (xσ78.trans (xσ79.trans (xσ82.trans (xσ83.trans (xσ84.trans (xσ85.trans (xσ88.trans xσ89))))))))))))))))))) (((xσ49.trans (xσ50.trans (xσ51.trans (xσ55.trans (xσ57.trans (xσ68.trans (xσ70.trans (xσ72.trans (xσ73.trans (xσ74.trans (xσ77.trans (xσ78.trans (xσ79.trans (xσ82.trans (xσ83.trans (xσ84.trans (xσ85.trans (xσ88.trans xσ89)))))))))))))))))) tx kX.1).2.2.trans gX) (by (first | omega | with_reducible assumption | with_reducible exact rng_toInt _ | with_reducible exact rng_wr _ | (unfold rng; omega) | (unfold rng at *; omega) | assumption)) (by (first | omega | with_reducible assumption | with_reducible exact rng_toInt _ | with_reducible exact rng_wr _ | (unfold rng; omega) | (unfold rng at *; omega) | assumption)) (fun σ90 r91 iσ90 cσ90 pσ90 => ?_) (fun σx LLx Nx nux E ix cx ux px => hX σx LLx Nx nux E ix (fσ89.tr (cx.mo (by decide))) (ux) (by first | exact px | exact ⟨by have := px.1; omega, px.2⟩ | (first | omega | with_reducible assumption | with_reducible exact rng_toInt _ | with_reducible exact rng_wr _ | (unfold rng; omega) | (unfold rng at *; omega) | assumption)))
        intro xσ90
        have fσ90 : Fx [323, 326, 327, 328, 333, 334, 335, 336, 386, 387, 388, 389, 390, 6464] gr σ σ90 := fσ89.tr (cσ90.mo (by decide))
        have oxcσ90 : OX o σ σ90 := oxcσ89.tr (OX.fx cσ90 (by decide) (by decide)) (xσ49.trans (xσ50.trans (xσ51.trans (xσ55.trans (xσ57.trans (xσ68.trans (xσ70.trans (xσ72.trans (xσ73.trans (xσ74.trans (xσ77.trans (xσ78.trans (xσ79.trans (xσ82.trans (xσ83.trans (xσ84.trans (xσ85.trans (xσ88.trans xσ89))))))))))))))))))
        have kp314 : gI σ90 J 1 = gI σ89 J 1 := (cσ90.O (kJ.up (xσ49.trans (xσ50.trans (xσ51.trans (xσ55.trans (xσ57.trans (xσ68.trans (xσ70.trans (xσ72.trans (xσ73.trans (xσ74.trans (xσ77.trans (xσ78.trans (xσ79.trans (xσ82.trans (xσ83.trans (xσ84.trans (xσ85.trans (xσ88.trans xσ89))))))))))))))))))) (by decide)).1
        have kp315 : gI σ90 J 7 = gI σ89 J 7 := (cσ90.O (kJ.up (xσ49.trans (xσ50.trans (xσ51.trans (xσ55.trans (xσ57.trans (xσ68.trans (xσ70.trans (xσ72.trans (xσ73.trans (xσ74.trans (xσ77.trans (xσ78.trans (xσ79.trans (xσ82.trans (xσ83.trans (xσ84.trans (xσ85.trans (xσ88.trans xσ89))))))))))))))))))) (by decide)).1
        have kp316 : gI σ90 o 13 = gI σ89 o 13 := (cσ90.O (ko.up (xσ49.trans (xσ50.trans (xσ51.trans (xσ55.trans (xσ57.trans (xσ68.trans (xσ70.trans (xσ72.trans (xσ73.trans (xσ74.trans (xσ77.trans (xσ78.trans (xσ79.trans (xσ82.trans (xσ83.trans (xσ84.trans (xσ85.trans (xσ88.trans xσ89))))))))))))))))))) (by decide)).1
        have kp317 : gI σ90 o 14 = gI σ89 o 14 := (cσ90.O (ko.up (xσ49.trans (xσ50.trans (xσ51.trans (xσ55.trans (xσ57.trans (xσ68.trans (xσ70.trans (xσ72.trans (xσ73.trans (xσ74.trans (xσ77.trans (xσ78.trans (xσ79.trans (xσ82.trans (xσ83.trans (xσ84.trans (xσ85.trans (xσ88.trans xσ89))))))))))))))))))) (by decide)).1
        have kp318 : gI σ90 o 15 = gI σ89 o 15 := (cσ90.O (ko.up (xσ49.trans (xσ50.trans (xσ51.trans (xσ55.trans (xσ57.trans (xσ68.trans (xσ70.trans (xσ72.trans (xσ73.trans (xσ74.trans (xσ77.trans (xσ78.trans (xσ79.trans (xσ82.trans (xσ83.trans (xσ84.trans (xσ85.trans (xσ88.trans xσ89))))))))))))))))))) (by decide)).1
        have kp319 : gI σ90 o 4 = gI σ89 o 4 := (cσ90.O (ko.up (xσ49.trans (xσ50.trans (xσ51.trans (xσ55.trans (xσ57.trans (xσ68.trans (xσ70.trans (xσ72.trans (xσ73.trans (xσ74.trans (xσ77.trans (xσ78.trans (xσ79.trans (xσ82.trans (xσ83.trans (xσ84.trans (xσ85.trans (xσ88.trans xσ89))))))))))))))))))) (by decide)).1
        have kp320 : gI σ90 o 7 = gI σ89 o 7 := (cσ90.O (ko.up (xσ49.trans (xσ50.trans (xσ51.trans (xσ55.trans (xσ57.trans (xσ68.trans (xσ70.trans (xσ72.trans (xσ73.trans (xσ74.trans (xσ77.trans (xσ78.trans (xσ79.trans (xσ82.trans (xσ83.trans (xσ84.trans (xσ85.trans (xσ88.trans xσ89))))))))))))))))))) (by decide)).1
        have kp321 : gI σ90 o 8 = gI σ89 o 8 := (cσ90.O (ko.up (xσ49.trans (xσ50.trans (xσ51.trans (xσ55.trans (xσ57.trans (xσ68.trans (xσ70.trans (xσ72.trans (xσ73.trans (xσ74.trans (xσ77.trans (xσ78.trans (xσ79.trans (xσ82.trans (xσ83.trans (xσ84.trans (xσ85.trans (xσ88.trans xσ89))))))))))))))))))) (by decide)).1
        have kp322 : gP σ90 J 0 = gP σ89 J 0 := (cσ90.O (kJ.up (xσ49.trans (xσ50.trans (xσ51.trans (xσ55.trans (xσ57.trans (xσ68.trans (xσ70.trans (xσ72.trans (xσ73.trans (xσ74.trans (xσ77.trans (xσ78.trans (xσ79.trans (xσ82.trans (xσ83.trans (xσ84.trans (xσ85.trans (xσ88.trans xσ89))))))))))))))))))) (by decide)).2.1
        have kp323 : gP σ90 b (gI σ57 o 8).toNat = gP σ89 b (gI σ57 o 8).toNat := (cσ90.A (mb.up (xσ55.trans (xσ57.trans (xσ68.trans (xσ70.trans (xσ72.trans (xσ73.trans (xσ74.trans (xσ77.trans (xσ78.trans (xσ79.trans (xσ82.trans (xσ83.trans (xσ84.trans (xσ85.trans (xσ88.trans xσ89)))))))))))))))) (by decide)).2.1
        have kp324 : gP σ90 th 0 = gP σ89 th 0 := (cσ90.O (kth.up (xσ49.trans (xσ50.trans (xσ51.trans (xσ55.trans (xσ57.trans (xσ68.trans (xσ70.trans (xσ72.trans (xσ73.trans (xσ74.trans (xσ77.trans (xσ78.trans (xσ79.trans (xσ82.trans (xσ83.trans (xσ84.trans (xσ85.trans (xσ88.trans xσ89))))))))))))))))))) (by decide)).2.1
        have kp325 : gP σ90 th 7 = gP σ89 th 7 := (cσ90.O (kth.up (xσ49.trans (xσ50.trans (xσ51.trans (xσ55.trans (xσ57.trans (xσ68.trans (xσ70.trans (xσ72.trans (xσ73.trans (xσ74.trans (xσ77.trans (xσ78.trans (xσ79.trans (xσ82.trans (xσ83.trans (xσ84.trans (xσ85.trans (xσ88.trans xσ89))))))))))))))))))) (by decide)).2.1
        have kp326 : gP σ90 th 8 = gP σ89 th 8 := (cσ90.O (kth.up (xσ49.trans (xσ50.trans (xσ51.trans (xσ55.trans (xσ57.trans (xσ68.trans (xσ70.trans (xσ72.trans (xσ73.trans (xσ74.trans (xσ77.trans (xσ78.trans (xσ79.trans (xσ82.trans (xσ83.trans (xσ84.trans (xσ85.trans (xσ88.trans xσ89))))))))))))))))))) (by decide)).2.1
        have kp327 : gI σ90 J 2 = gI σ89 J 2 := (cσ90.O (kJ.up (xσ49.trans (xσ50.trans (xσ51.trans (xσ55.trans (xσ57.trans (xσ68.trans (xσ70.trans (xσ72.trans (xσ73.trans (xσ74.trans (xσ77.trans (xσ78.trans (xσ79.trans (xσ82.trans (xσ83.trans (xσ84.trans (xσ85.trans (xσ88.trans xσ89))))))))))))))))))) (by decide)).1
        have kp328 : gI σ90 o 3 = gI σ89 o 3 := (cσ90.O (ko.up (xσ49.trans (xσ50.trans (xσ51.trans (xσ55.trans (xσ57.trans (xσ68.trans (xσ70.trans (xσ72.trans (xσ73.trans (xσ74.trans (xσ77.trans (xσ78.trans (xσ79.trans (xσ82.trans (xσ83.trans (xσ84.trans (xσ85.trans (xσ88.trans xσ89))))))))))))))))))) (by decide)).1
        have kp329 : gI σ90 o 6 = gI σ89 o 6 := (cσ90.O (ko.up (xσ49.trans (xσ50.trans (xσ51.trans (xσ55.trans (xσ57.trans (xσ68.trans (xσ70.trans (xσ72.trans (xσ73.trans (xσ74.trans (xσ77.trans (xσ78.trans (xσ79.trans (xσ82.trans (xσ83.trans (xσ84.trans (xσ85.trans (xσ88.trans xσ89))))))))))))))))))) (by decide)).1
        have kp330 : gI σ90 o 9 = gI σ89 o 9 := (cσ90.O (ko.up (xσ49.trans (xσ50.trans (xσ51.trans (xσ55.trans (xσ57.trans (xσ68.trans (xσ70.trans (xσ72.trans (xσ73.trans (xσ74.trans (xσ77.trans (xσ78.trans (xσ79.trans (xσ82.trans (xσ83.trans (xσ84.trans (xσ85.trans (xσ88.trans xσ89))))))))))))))))))) (by decide)).1
        have r5σ90 := I_6_5 iσ90.1 (kth.up (xσ49.trans (xσ50.trans (xσ51.trans (xσ55.trans (xσ57.trans (xσ68.trans (xσ70.trans (xσ72.trans (xσ73.trans (xσ74.trans (xσ77.trans (xσ78.trans (xσ79.trans (xσ82.trans (xσ83.trans (xσ84.trans (xσ85.trans (xσ88.trans (xσ89.trans xσ90))))))))))))))))))))
        refine ⟨o, (kp309.trans (kp289.trans (kp273.trans (kp257.trans (kp240.trans (kp221.trans (kp203.trans (kp188.trans (kp170.trans (kp153.trans (kp139.trans (kp125.trans (kp109.trans (kp93.trans (kp72.trans (kp57.trans (kp42.trans (kp29.trans (kp18.trans h8))))))))))))))))))), fun kk_o_7 => ?_⟩
        intro σ93 eσ93
        have xσ93 : Ext σ90 σ93 := by rw [eσ93]; exact fun _ h => ⟨h, rfl, rfl⟩
        have iσ93 : IV σ93 pl gq ci gr nc ot LL N nu := by rw [eσ93]; exact iσ90.wSp (ko.up (xσ49.trans (xσ50.trans (xσ51.trans (xσ55.trans (xσ57.trans (xσ68.trans (xσ70.trans (xσ72.trans (xσ73.trans (xσ74.trans (xσ77.trans (xσ78.trans (xσ79.trans (xσ82.trans (xσ83.trans (xσ84.trans (xσ85.trans (xσ88.trans (xσ89.trans xσ90)))))))))))))))))))) (fun i hi => by omega) (by decide) (show (-1000 : Int) ≤ r91 ∧ r91 ≤ 1000 from ⟨by omega, by omega⟩)
        have fσ93 : Fx [323, 326, 327, 328, 333, 334, 335, 336, 386, 387, 388, 389, 390, 6464] gr σ σ93 := fσ90.tr (Sk.fx (by rw [eσ93]; exact Sk.pI (by rw [fcdO (ko.up (xσ49.trans (xσ50.trans (xσ51.trans (xσ55.trans (xσ57.trans (xσ68.trans (xσ70.trans (xσ72.trans (xσ73.trans (xσ74.trans (xσ77.trans (xσ78.trans (xσ79.trans (xσ82.trans (xσ83.trans (xσ84.trans (xσ85.trans (xσ88.trans (xσ89.trans xσ90)))))))))))))))))))) (by decide)]; decide)))
        have oxcσ93 : OX o σ σ93 := oxcσ90.tr (by rw [eσ93]; exact OX.pI (ko.up (xσ49.trans (xσ50.trans (xσ51.trans (xσ55.trans (xσ57.trans (xσ68.trans (xσ70.trans (xσ72.trans (xσ73.trans (xσ74.trans (xσ77.trans (xσ78.trans (xσ79.trans (xσ82.trans (xσ83.trans (xσ84.trans (xσ85.trans (xσ88.trans (xσ89.trans xσ90)))))))))))))))))))) (Or.inr rfl)) (xσ49.trans (xσ50.trans (xσ51.trans (xσ55.trans (xσ57.trans (xσ68.trans (xσ70.trans (xσ72.trans (xσ73.trans (xσ74.trans (xσ77.trans (xσ78.trans (xσ79.trans (xσ82.trans (xσ83.trans (xσ84.trans (xσ85.trans (xσ88.trans (xσ89.trans xσ90)))))))))))))))))))
        have wσ93 : gI σ93 o 16 = r91 := by rw [eσ93]; exact up2_s _ _ _ _
        have kp331 : gI σ93 J 1 = gI σ90 J 1 := by rw [eσ93]; exact up2_n _ _ (fun q => absurd q.2 (by decide))
        have kp332 : gI σ93 J 7 = gI σ90 J 7 := by rw [eσ93]; exact up2_n _ _ (fun q => absurd q.2 (by decide))
        have kp333 : gI σ93 o 13 = gI σ90 o 13 := by rw [eσ93]; exact up2_n _ _ (fun q => absurd q.2 (by decide))
        have kp334 : gI σ93 o 14 = gI σ90 o 14 := by rw [eσ93]; exact up2_n _ _ (fun q => absurd q.2 (by decide))
        have kp335 : gI σ93 o 15 = gI σ90 o 15 := by rw [eσ93]; exact up2_n _ _ (fun q => absurd q.2 (by decide))
        have kp336 : gI σ93 o 4 = gI σ90 o 4 := by rw [eσ93]; exact up2_n _ _ (fun q => absurd q.2 (by decide))
        have kp337 : gI σ93 o 7 = gI σ90 o 7 := by rw [eσ93]; exact up2_n _ _ (fun q => absurd q.2 (by decide))
        have kp338 : gI σ93 o 8 = gI σ90 o 8 := by rw [eσ93]; exact up2_n _ _ (fun q => absurd q.2 (by decide))
        have kp339 : gP σ93 J 0 = gP σ90 J 0 := by rw [eσ93]
        have kp340 : gP σ93 b (gI σ57 o 8).toNat = gP σ90 b (gI σ57 o 8).toNat := by rw [eσ93]
        have kp341 : gP σ93 th 0 = gP σ90 th 0 := by rw [eσ93]
        have kp342 : gP σ93 th 7 = gP σ90 th 7 := by rw [eσ93]
        have kp343 : gP σ93 th 8 = gP σ90 th 8 := by rw [eσ93]
        have kp344 : gI σ93 th 2 = gI σ90 th 2 := by rw [eσ93]; exact up2_n _ _ (fun q => absurd q.2 (by decide))
        have kp345 : gI σ93 th 3 = gI σ90 th 3 := by rw [eσ93]; exact up2_n _ _ (fun q => absurd q.2 (by decide))
        have kp346 : gI σ93 th 5 = gI σ90 th 5 := by rw [eσ93]; exact up2_n _ _ (fun q => absurd q.2 (by decide))
        have kp347 : gI σ93 J 2 = gI σ90 J 2 := by rw [eσ93]; exact up2_n _ _ (fun q => absurd q.2 (by decide))
        have kp348 : gI σ93 o 3 = gI σ90 o 3 := by rw [eσ93]; exact up2_n _ _ (fun q => absurd q.2 (by decide))
        have kp349 : gI σ93 o 6 = gI σ90 o 6 := by rw [eσ93]; exact up2_n _ _ (fun q => absurd q.2 (by decide))
        have kp350 : gI σ93 o 9 = gI σ90 o 9 := by rw [eσ93]; exact up2_n _ _ (fun q => absurd q.2 (by decide))
        refine ⟨o, (kp343.trans (kp326.trans (kp309.trans (kp289.trans (kp273.trans (kp257.trans (kp240.trans (kp221.trans (kp203.trans (kp188.trans (kp170.trans (kp153.trans (kp139.trans (kp125.trans (kp109.trans (kp93.trans (kp72.trans (kp57.trans (kp42.trans (kp29.trans (kp18.trans h8))))))))))))))))))))), fun kk_o_8 => ?_⟩
        by_cases hc351 : gI σ93 o 15 ≤ gI σ93 o 16
        · rw [if_pos hc351]
          unfold w_X6_pairText_209
          refine i_X6_next iσ93 (kth.up (xσ49.trans (xσ50.trans (xσ51.trans (xσ55.trans (xσ57.trans (xσ68.trans (xσ70.trans (xσ72.trans (xσ73.trans (xσ74.trans (xσ77.trans (xσ78.trans (xσ79.trans (xσ82.trans (xσ83.trans (xσ84.trans (xσ85.trans (xσ88.trans (xσ89.trans (xσ90.trans xσ93))))))))))))))))))))) (kp341.trans (kp324.trans (kp307.trans (kp287.trans (kp271.trans (kp255.trans (kp238.trans (kp219.trans (kp201.trans (kp186.trans (kp168.trans (kp151.trans (kp137.trans (kp123.trans (kp107.trans (kp91.trans (kp70.trans (kp55.trans (kp40.trans (kp27.trans (kp16.trans hX0))))))))))))))))))))) (kX.up (xσ49.trans (xσ50.trans (xσ51.trans (xσ55.trans (xσ57.trans (xσ68.trans (xσ70.trans (xσ72.trans (xσ73.trans (xσ74.trans (xσ77.trans (xσ78.trans (xσ79.trans (xσ82.trans (xσ83.trans (xσ84.trans (xσ85.trans (xσ88.trans (xσ89.trans (xσ90.trans xσ93))))))))))))))))))))) (((xσ49.trans (xσ50.trans (xσ51.trans (xσ55.trans (xσ57.trans (xσ68.trans (xσ70.trans (xσ72.trans (xσ73.trans (xσ74.trans (xσ77.trans (xσ78.trans (xσ79.trans (xσ82.trans (xσ83.trans (xσ84.trans (xσ85.trans (xσ88.trans (xσ89.trans (xσ90.trans xσ93)))))))))))))))))))) tx kX.1).2.2.trans gX) (by (first | omega | with_reducible assumption | with_reducible exact rng_toInt _ | with_reducible exact rng_wr _ | (unfold rng; omega) | (unfold rng at *; omega) | assumption)) (by (first | omega | with_reducible assumption | with_reducible exact rng_toInt _ | with_reducible exact rng_wr _ | (unfold rng; omega) | (unfold rng at *; omega) | assumption)) (fun σ96 _ iσ96 cσ96 pσ96 => ?_) (fun σx LLx Nx nux E ix cx ux px => hX σx LLx Nx nux E ix (fσ93.tr (cx.mo (by decide))) (ux) (by first | exact px | exact ⟨by have := px.1; omega, px.2⟩ | (first | omega | with_reducible assumption | with_reducible exact rng_toInt _ | with_reducible exact rng_wr _ | (unfold rng; omega) | (unfold rng at *; omega) | assumption)))
          intro xσ96
          have fσ96 : Fx [323, 326, 327, 328, 333, 334, 335, 336, 386, 387, 388, 389, 390, 6464] gr σ σ96 := fσ93.tr (cσ96.mo (by decide))
          have oxcσ96 : OX o σ σ96 := oxcσ93.tr (OX.fx cσ96 (by decide) (by decide)) (xσ49.trans (xσ50.trans (xσ51.trans (xσ55.trans (xσ57.trans (xσ68.trans (xσ70.trans (xσ72.trans (xσ73.trans (xσ74.trans (xσ77.trans (xσ78.trans (xσ79.trans (xσ82.trans (xσ83.trans (xσ84.trans (xσ85.trans (xσ88.trans (xσ89.trans (xσ90.trans xσ93))))))))))))))))))))
          have kp352 : gI σ96 J 1 = gI σ93 J 1 := (cσ96.O (kJ.up (xσ49.trans (xσ50.trans (xσ51.trans (xσ55.trans (xσ57.trans (xσ68.trans (xσ70.trans (xσ72.trans (xσ73.trans (xσ74.trans (xσ77.trans (xσ78.trans (xσ79.trans (xσ82.trans (xσ83.trans (xσ84.trans (xσ85.trans (xσ88.trans (xσ89.trans (xσ90.trans xσ93))))))))))))))))))))) (by decide)).1
          have kp353 : gI σ96 J 7 = gI σ93 J 7 := (cσ96.O (kJ.up (xσ49.trans (xσ50.trans (xσ51.trans (xσ55.trans (xσ57.trans (xσ68.trans (xσ70.trans (xσ72.trans (xσ73.trans (xσ74.trans (xσ77.trans (xσ78.trans (xσ79.trans (xσ82.trans (xσ83.trans (xσ84.trans (xσ85.trans (xσ88.trans (xσ89.trans (xσ90.trans xσ93))))))))))))))))))))) (by decide)).1
          have kp354 : gI σ96 o 13 = gI σ93 o 13 := (cσ96.O (ko.up (xσ49.trans (xσ50.trans (xσ51.trans (xσ55.trans (xσ57.trans (xσ68.trans (xσ70.trans (xσ72.trans (xσ73.trans (xσ74.trans (xσ77.trans (xσ78.trans (xσ79.trans (xσ82.trans (xσ83.trans (xσ84.trans (xσ85.trans (xσ88.trans (xσ89.trans (xσ90.trans xσ93))))))))))))))))))))) (by decide)).1
          have kp355 : gI σ96 o 14 = gI σ93 o 14 := (cσ96.O (ko.up (xσ49.trans (xσ50.trans (xσ51.trans (xσ55.trans (xσ57.trans (xσ68.trans (xσ70.trans (xσ72.trans (xσ73.trans (xσ74.trans (xσ77.trans (xσ78.trans (xσ79.trans (xσ82.trans (xσ83.trans (xσ84.trans (xσ85.trans (xσ88.trans (xσ89.trans (xσ90.trans xσ93))))))))))))))))))))) (by decide)).1
          have kp356 : gI σ96 o 15 = gI σ93 o 15 := (cσ96.O (ko.up (xσ49.trans (xσ50.trans (xσ51.trans (xσ55.trans (xσ57.trans (xσ68.trans (xσ70.trans (xσ72.trans (xσ73.trans (xσ74.trans (xσ77.trans (xσ78.trans (xσ79.trans (xσ82.trans (xσ83.trans (xσ84.trans (xσ85.trans (xσ88.trans (xσ89.trans (xσ90.trans xσ93))))))))))))))))))))) (by decide)).1
          have kp357 : gI σ96 o 16 = gI σ93 o 16 := (cσ96.O (ko.up (xσ49.trans (xσ50.trans (xσ51.trans (xσ55.trans (xσ57.trans (xσ68.trans (xσ70.trans (xσ72.trans (xσ73.trans (xσ74.trans (xσ77.trans (xσ78.trans (xσ79.trans (xσ82.trans (xσ83.trans (xσ84.trans (xσ85.trans (xσ88.trans (xσ89.trans (xσ90.trans xσ93))))))))))))))))))))) (by decide)).1
          have kp358 : gI σ96 o 4 = gI σ93 o 4 := (cσ96.O (ko.up (xσ49.trans (xσ50.trans (xσ51.trans (xσ55.trans (xσ57.trans (xσ68.trans (xσ70.trans (xσ72.trans (xσ73.trans (xσ74.trans (xσ77.trans (xσ78.trans (xσ79.trans (xσ82.trans (xσ83.trans (xσ84.trans (xσ85.trans (xσ88.trans (xσ89.trans (xσ90.trans xσ93))))))))))))))))))))) (by decide)).1
          have kp359 : gI σ96 o 7 = gI σ93 o 7 := (cσ96.O (ko.up (xσ49.trans (xσ50.trans (xσ51.trans (xσ55.trans (xσ57.trans (xσ68.trans (xσ70.trans (xσ72.trans (xσ73.trans (xσ74.trans (xσ77.trans (xσ78.trans (xσ79.trans (xσ82.trans (xσ83.trans (xσ84.trans (xσ85.trans (xσ88.trans (xσ89.trans (xσ90.trans xσ93))))))))))))))))))))) (by decide)).1
          have kp360 : gI σ96 o 8 = gI σ93 o 8 := (cσ96.O (ko.up (xσ49.trans (xσ50.trans (xσ51.trans (xσ55.trans (xσ57.trans (xσ68.trans (xσ70.trans (xσ72.trans (xσ73.trans (xσ74.trans (xσ77.trans (xσ78.trans (xσ79.trans (xσ82.trans (xσ83.trans (xσ84.trans (xσ85.trans (xσ88.trans (xσ89.trans (xσ90.trans xσ93))))))))))))))))))))) (by decide)).1
          have kp361 : gP σ96 J 0 = gP σ93 J 0 := (cσ96.O (kJ.up (xσ49.trans (xσ50.trans (xσ51.trans (xσ55.trans (xσ57.trans (xσ68.trans (xσ70.trans (xσ72.trans (xσ73.trans (xσ74.trans (xσ77.trans (xσ78.trans (xσ79.trans (xσ82.trans (xσ83.trans (xσ84.trans (xσ85.trans (xσ88.trans (xσ89.trans (xσ90.trans xσ93))))))))))))))))))))) (by decide)).2.1
          have kp362 : gP σ96 b (gI σ57 o 8).toNat = gP σ93 b (gI σ57 o 8).toNat := (cσ96.A (mb.up (xσ55.trans (xσ57.trans (xσ68.trans (xσ70.trans (xσ72.trans (xσ73.trans (xσ74.trans (xσ77.trans (xσ78.trans (xσ79.trans (xσ82.trans (xσ83.trans (xσ84.trans (xσ85.trans (xσ88.trans (xσ89.trans (xσ90.trans xσ93)))))))))))))))))) (by decide)).2.1
          have kp363 : gP σ96 th 0 = gP σ93 th 0 := (cσ96.O (kth.up (xσ49.trans (xσ50.trans (xσ51.trans (xσ55.trans (xσ57.trans (xσ68.trans (xσ70.trans (xσ72.trans (xσ73.trans (xσ74.trans (xσ77.trans (xσ78.trans (xσ79.trans (xσ82.trans (xσ83.trans (xσ84.trans (xσ85.trans (xσ88.trans (xσ89.trans (xσ90.trans xσ93))))))))))))))))))))) (by decide)).2.1
          have kp364 : gP σ96 th 7 = gP σ93 th 7 := (cσ96.O (kth.up (xσ49.trans (xσ50.trans (xσ51.trans (xσ55.trans (xσ57.trans (xσ68.trans (xσ70.trans (xσ72.trans (xσ73.trans (xσ74.trans (xσ77.trans (xσ78.trans (xσ79.trans (xσ82.trans (xσ83.trans (xσ84.trans (xσ85.trans (xσ88.trans (xσ89.trans (xσ90.trans xσ93))))))))))))))))))))) (by decide)).2.1
          have kp365 : gP σ96 th 8 = gP σ93 th 8 := (cσ96.O (kth.up (xσ49.trans (xσ50.trans (xσ51.trans (xσ55.trans (xσ57.trans (xσ68.trans (xσ70.trans (xσ72.trans (xσ73.trans (xσ74.trans (xσ77.trans (xσ78.trans (xσ79.trans (xσ82.trans (xσ83.trans (xσ84.trans (xσ85.trans (xσ88.trans (xσ89.trans (xσ90.trans xσ93))))))))))))))))))))) (by decide)).2.1
          have kp366 : gI σ96 J 2 = gI σ93 J 2 := (cσ96.O (kJ.up (xσ49.trans (xσ50.trans (xσ51.trans (xσ55.trans (xσ57.trans (xσ68.trans (xσ70.trans (xσ72.trans (xσ73.trans (xσ74.trans (xσ77.trans (xσ78.trans (xσ79.trans (xσ82.trans (xσ83.trans (xσ84.trans (xσ85.trans (xσ88.trans (xσ89.trans (xσ90.trans xσ93))))))))))))))))))))) (by decide)).1
          have kp367 : gI σ96 o 3 = gI σ93 o 3 := (cσ96.O (ko.up (xσ49.trans (xσ50.trans (xσ51.trans (xσ55.trans (xσ57.trans (xσ68.trans (xσ70.trans (xσ72.trans (xσ73.trans (xσ74.trans (xσ77.trans (xσ78.trans (xσ79.trans (xσ82.trans (xσ83.trans (xσ84.trans (xσ85.trans (xσ88.trans (xσ89.trans (xσ90.trans xσ93))))))))))))))))))))) (by decide)).1
          have kp368 : gI σ96 o 6 = gI σ93 o 6 := (cσ96.O (ko.up (xσ49.trans (xσ50.trans (xσ51.trans (xσ55.trans (xσ57.trans (xσ68.trans (xσ70.trans (xσ72.trans (xσ73.trans (xσ74.trans (xσ77.trans (xσ78.trans (xσ79.trans (xσ82.trans (xσ83.trans (xσ84.trans (xσ85.trans (xσ88.trans (xσ89.trans (xσ90.trans xσ93))))))))))))))))))))) (by decide)).1
          have kp369 : gI σ96 o 9 = gI σ93 o 9 := (cσ96.O (ko.up (xσ49.trans (xσ50.trans (xσ51.trans (xσ55.trans (xσ57.trans (xσ68.trans (xσ70.trans (xσ72.trans (xσ73.trans (xσ74.trans (xσ77.trans (xσ78.trans (xσ79.trans (xσ82.trans (xσ83.trans (xσ84.trans (xσ85.trans (xσ88.trans (xσ89.trans (xσ90.trans xσ93))))))))))))))))))))) (by decide)).1
          have r5σ96 := I_6_5 iσ96.1 (kth.up (xσ49.trans (xσ50.trans (xσ51.trans (xσ55.trans (xσ57.trans (xσ68.trans (xσ70.trans (xσ72.trans (xσ73.trans (xσ74.trans (xσ77.trans (xσ78.trans (xσ79.trans (xσ82.trans (xσ83.trans (xσ84.trans (xσ85.trans (xσ88.trans (xσ89.trans (xσ90.trans (xσ93.trans xσ96))))))))))))))))))))))
          unfold w_X6_pairText_213
          exact hQ σ96 () iσ96 fσ96 oxcσ96 (⟨by omega, by omega, ⟨by omega, (fun _ a ka ga => by have w9 := wf a ka (by omega); omega), (fun h => absurd h (by omega))⟩⟩)
        · rw [if_neg hc351]
          unfold w_X6_pairText_203
          refine i_X6_refuse iσ93 (kth.up (xσ49.trans (xσ50.trans (xσ51.trans (xσ55.trans (xσ57.trans (xσ68.trans (xσ70.trans (xσ72.trans (xσ73.trans (xσ74.trans (xσ77.trans (xσ78.trans (xσ79.trans (xσ82.trans (xσ83.trans (xσ84.trans (xσ85.trans (xσ88.trans (xσ89.trans (xσ90.trans xσ93))))))))))))))))))))) (by (first | omega | with_reducible assumption | with_reducible exact rng_toInt _ | with_reducible exact rng_wr _ | (unfold rng; omega) | (unfold rng at *; omega) | assumption)) (by (first | omega | with_reducible assumption | with_reducible exact rng_toInt _ | with_reducible exact rng_wr _ | (unfold rng; omega) | (unfold rng at *; omega) | assumption)) (by (first | omega | with_reducible assumption | with_reducible exact rng_toInt _ | with_reducible exact rng_wr _ | (unfold rng; omega) | (unfold rng at *; omega) | assumption)) (fun σ95 _ iσ95 cσ95 pσ95 => ?_) (fun σx LLx Nx nux E ix cx ux px => hX σx LLx Nx nux E ix (fσ93.tr (cx.mo (by decide))) (ux) (by first | exact px | exact ⟨by have := px.1; omega, px.2⟩ | (first | omega | with_reducible assumption | with_reducible exact rng_toInt _ | with_reducible exact rng_wr _ | (unfold rng; omega) | (unfold rng at *; omega) | assumption)))
          intro xσ95
          exact pσ95.elim
    · rw [if_neg hc83]
      unfold w_X6_pairText_84
      refine i_X6_refuse iσ57 (kth.up (xσ49.trans (xσ50.trans (xσ51.trans (xσ55.trans xσ57))))) (by (first | omega | with_reducible assumption | with_reducible exact rng_toInt _ | with_reducible exact rng_wr _ | (unfold rng; omega) | (unfold rng at *; omega) | assumption)) (by (first | omega | with_reducible assumption | with_reducible exact rng_toInt _ | with_reducible exact rng_wr _ | (unfold rng; omega) | (unfold rng at *; omega) | assumption)) (by (first | omega | with_reducible assumption | with_reducible exact rng_toInt _ | with_reducible exact rng_wr _ | (unfold rng; omega) | (unfold rng at *; omega) | assumption)) (fun σ67 _ iσ67 cσ67 pσ67 => ?_) (fun σx LLx Nx nux E ix cx ux px => hX σx LLx Nx nux E ix (fσ57.tr (cx.mo (by decide))) (ux) (by first | exact px | exact ⟨by have := px.1; omega, px.2⟩ | (first | omega | with_reducible assumption | with_reducible exact rng_toInt _ | with_reducible exact rng_wr _ | (unfold rng; omega) | (unfold rng at *; omega) | assumption)))
      intro xσ67
      exact pσ67.elim
  · rw [if_neg hc80]
    unfold w_X6_pairText_64
    refine i_X6_refuse iσ57 (kth.up (xσ49.trans (xσ50.trans (xσ51.trans (xσ55.trans xσ57))))) (by (first | omega | with_reducible assumption | with_reducible exact rng_toInt _ | with_reducible exact rng_wr _ | (unfold rng; omega) | (unfold rng at *; omega) | assumption)) (by (first | omega | with_reducible assumption | with_reducible exact rng_toInt _ | with_reducible exact rng_wr _ | (unfold rng; omega) | (unfold rng at *; omega) | assumption)) (by (first | omega | with_reducible assumption | with_reducible exact rng_toInt _ | with_reducible exact rng_wr _ | (unfold rng; omega) | (unfold rng at *; omega) | assumption)) (fun σ64 _ iσ64 cσ64 pσ64 => ?_) (fun σx LLx Nx nux E ix cx ux px => hX σx LLx Nx nux E ix (fσ57.tr (cx.mo (by decide))) (ux) (by first | exact px | exact ⟨by have := px.1; omega, px.2⟩ | (first | omega | with_reducible assumption | with_reducible exact rng_toInt _ | with_reducible exact rng_wr _ | (unfold rng; omega) | (unfold rng at *; omega) | assumption)))
    intro xσ64
    exact pσ64.elim
set_option maxHeartbeats 1000000 in
theorem i_X6_matchText {σ : Sg} {pl : Nat} {gq ci gr nc : Nat → Nat} {ot : Nat → Nat → Int} {LL : Nat → List Nat} {N nu : Nat → Nat} {th : Nat} {tx J o q c : Nat} (iσ : IV σ pl gq ci gr nc ot LL N nu) (kth : kO σ th 6) (hX0 : gP σ th 0 = some tx) (kX : kO σ tx 102) (gX : gn σ tx = 1500) (h7 : gP σ th 7 = some J) (kJ : kO σ J 4) (h8 : gP σ th 8 = some o) (ko : kO σ o 5) (hJq : gq J = q) (hq : q ≠ nc 0 ∧ q ≤ 1) (go : gq o = 16 * q + c) (hc : c < 16) (cJ : gI σ J 1 = (c : Int)) (tf : gI σ th 5 ≤ gI σ th 2 ∧ (gI σ th 3 ≠ 0 → gI σ th 5 + 1 ≤ gI σ th 2)) (h5 : nu 5 < 24000) (lp : gI σ J 7 ≤ 2 * gI σ th 5) (f0 : gI σ o 3 = 0 ∧ gI σ o 4 = 0 ∧ gI σ o 7 = -1 ∧ gI σ o 8 = -1) {Q : Sg → Unit → Prop} {X : Sg → String → Prop} (hQ : ∀ (σ' : Sg) (nu' : Nat → Nat) (r : Unit), IV σ' pl gq ci gr nc ot LL N nu' → Fx [261, 262, 263, 323, 324, 326, 327, 333, 336, 386, 387, 388, 389, 390, 6464, 8320] gr σ σ' → NC nu nu' → OX o σ σ' → ((gI σ' th 5 ≤ gI σ' th 2 ∧ (gI σ' th 3 ≠ 0 → gI σ' th 5 + 1 ≤ gI σ' th 2)) ∧ gI σ' J 7 ≤ 2 * gI σ' th 5 ∧ OPR σ σ' gq q c o) → Q σ' r) (hX : ∀ (σ' : Sg) (LL' : Nat → List Nat) (N' nu' : Nat → Nat) (E : String), IV σ' pl gq ci gr nc ot LL' N' nu' → Fx [261, 262, 263, 323, 324, 326, 327, 333, 336, 386, 387, 388, 389, 390, 6464, 8320] gr σ σ' → NCX nu nu' → (LL' = LL ∧ N' = N ∧ E = "java/lang/IllegalArgumentException" ∧ gI σ' th 6 ≠ 0) → X σ' E) : wp_X6_matchText th σ Q X := by
  have fσ : Fx [261, 262, 263, 323, 324, 326, 327, 333, 336, 386, 387, 388, 389, 390, 6464, 8320] gr σ σ := Fx.rf
  have oxσ : OX o σ σ := OX.rf
  have q1 := I_4_1 iσ.1 kJ
  have q2 := I_6_5 iσ.1 kth
  have q3 := I_6_2 iσ.1 kth
  have q4 := iσ.rg th 3; unfold rng at q4
  have q5 := I_4_7 iσ.1 kJ
  have q6 := I_5_3 iσ.1 ko
  have q7 := I_5_4 iσ.1 ko
  have q8 := I_5_7 iσ.1 ko
  have q9 := I_5_8 iσ.1 ko
  have ncb := iσ.ncb
  have r70 := I_4_7 iσ.1 kJ
  have r71 := I_4_1 iσ.1 kJ
  unfold wp_X6_matchText
  unfold w_X6_matchText_0
  refine i_X6_next iσ kth hX0 kX (((Ext.rfl' _) tx kX.1).2.2.trans gX) (by (first | omega | with_reducible assumption | with_reducible exact rng_toInt _ | with_reducible exact rng_wr _ | (unfold rng; omega) | (unfold rng at *; omega) | assumption)) (by (first | omega | with_reducible assumption | with_reducible exact rng_toInt _ | with_reducible exact rng_wr _ | (unfold rng; omega) | (unfold rng at *; omega) | assumption)) (fun σ39 _ iσ39 cσ39 pσ39 => ?_) (fun σx LLx Nx nux E ix cx ux px => hX σx LLx Nx nux E ix (fσ.tr (cx.mo (by decide))) (ux) (by first | exact px | exact ⟨by have := px.1; omega, px.2⟩ | (first | omega | with_reducible assumption | with_reducible exact rng_toInt _ | with_reducible exact rng_wr _ | (unfold rng; omega) | (unfold rng at *; omega) | assumption)))
  intro xσ39
  have fσ39 : Fx [261, 262, 263, 323, 324, 326, 327, 333, 336, 386, 387, 388, 389, 390, 6464, 8320] gr σ σ39 := fσ.tr (cσ39.mo (by decide))
  have oxcσ39 : OX o σ σ39 := oxσ.tr (OX.fx cσ39 (by decide) (by decide)) (Ext.rfl' _)
  have kp10 : gI σ39 J 1 = gI σ J 1 := (cσ39.O kJ (by decide)).1
  have kp11 : gI σ39 J 7 = gI σ J 7 := (cσ39.O kJ (by decide)).1
  have kp12 : gI σ39 o 3 = gI σ o 3 := (cσ39.O ko (by decide)).1
  have kp13 : gI σ39 o 4 = gI σ o 4 := (cσ39.O ko (by decide)).1
  have kp14 : gI σ39 o 7 = gI σ o 7 := (cσ39.O ko (by decide)).1
  have kp15 : gI σ39 o 8 = gI σ o 8 := (cσ39.O ko (by decide)).1
  have kp16 : gP σ39 th 0 = gP σ th 0 := (cσ39.O kth (by decide)).2.1
  have kp17 : gP σ39 th 7 = gP σ th 7 := (cσ39.O kth (by decide)).2.1
  have kp18 : gP σ39 th 8 = gP σ th 8 := (cσ39.O kth (by decide)).2.1
  have kp19 : gI σ39 J 2 = gI σ J 2 := (cσ39.O kJ (by decide)).1
  have kp20 : gI σ39 o 6 = gI σ o 6 := (cσ39.O ko (by decide)).1
  have kp21 : gI σ39 o 9 = gI σ o 9 := (cσ39.O ko (by decide)).1
  have r5σ39 := I_6_5 iσ39.1 (kth.up xσ39)
  refine i_X6_firstInput iσ39 (kth.up xσ39) (kp17.trans h7) (kJ.up xσ39) (kp18.trans h8) (ko.up xσ39) (by (first | omega | with_reducible assumption | with_reducible exact rng_toInt _ | with_reducible exact rng_wr _ | (unfold rng; omega) | (unfold rng at *; omega) | assumption)) (by (first | omega | with_reducible assumption | with_reducible exact rng_toInt _ | with_reducible exact rng_wr _ | (unfold rng; omega) | (unfold rng at *; omega) | assumption)) (by (first | omega | with_reducible assumption | with_reducible exact rng_toInt _ | with_reducible exact rng_wr _ | (unfold rng; omega) | (unfold rng at *; omega) | assumption)) (by (first | omega | with_reducible assumption | with_reducible exact rng_toInt _ | with_reducible exact rng_wr _ | (unfold rng; omega) | (unfold rng at *; omega) | assumption)) (by (first | omega | with_reducible assumption | with_reducible exact rng_toInt _ | with_reducible exact rng_wr _ | (unfold rng; omega) | (unfold rng at *; omega) | assumption)) (by (first | omega | with_reducible assumption | with_reducible exact rng_toInt _ | with_reducible exact rng_wr _ | (unfold rng; omega) | (unfold rng at *; omega) | assumption)) (fun σ40 _ iσ40 cσ40 oxσ40 pσ40 => ?_) (fun σx LLx Nx nux E ix cx ux px => hX σx LLx Nx nux E ix (fσ39.tr (cx.mo (by decide))) (ux) (by first | exact px | exact ⟨by have := px.1; omega, px.2⟩ | (first | omega | with_reducible assumption | with_reducible exact rng_toInt _ | with_reducible exact rng_wr _ | (unfold rng; omega) | (unfold rng at *; omega) | assumption)))
  intro xσ40
  have fσ40 : Fx [261, 262, 263, 323, 324, 326, 327, 333, 336, 386, 387, 388, 389, 390, 6464, 8320] gr σ σ40 := fσ39.tr (cσ40.mo (by decide))
  have oxcσ40 : OX o σ σ40 := oxcσ39.tr oxσ40 (xσ39)
  have kp22 : gI σ40 J 1 = gI σ39 J 1 := (cσ40.O (kJ.up xσ39) (by decide)).1
  have kp23 : gI σ40 J 7 = gI σ39 J 7 := (cσ40.O (kJ.up xσ39) (by decide)).1
  have kp24 : gI σ40 o 3 = gI σ39 o 3 := (cσ40.O (ko.up xσ39) (by decide)).1
  have kp25 : gI σ40 o 4 = gI σ39 o 4 := (cσ40.O (ko.up xσ39) (by decide)).1
  have kp26 : gI σ40 o 8 = gI σ39 o 8 := (cσ40.O (ko.up xσ39) (by decide)).1
  have kp27 : gP σ40 th 0 = gP σ39 th 0 := (cσ40.O (kth.up xσ39) (by decide)).2.1
  have kp28 : gP σ40 th 7 = gP σ39 th 7 := (cσ40.O (kth.up xσ39) (by decide)).2.1
  have kp29 : gP σ40 th 8 = gP σ39 th 8 := (cσ40.O (kth.up xσ39) (by decide)).2.1
  have kp30 : gI σ40 th 2 = gI σ39 th 2 := (cσ40.O (kth.up xσ39) (by decide)).1
  have kp31 : gI σ40 th 3 = gI σ39 th 3 := (cσ40.O (kth.up xσ39) (by decide)).1
  have kp32 : gI σ40 th 5 = gI σ39 th 5 := (cσ40.O (kth.up xσ39) (by decide)).1
  have kp33 : gI σ40 J 2 = gI σ39 J 2 := (cσ40.O (kJ.up xσ39) (by decide)).1
  have kp34 : gI σ40 o 9 = gI σ39 o 9 := (cσ40.O (ko.up xσ39) (by decide)).1
  refine i_X6_next iσ40 (kth.up (xσ39.trans xσ40)) (kp27.trans (kp16.trans hX0)) (kX.up (xσ39.trans xσ40)) (((xσ39.trans xσ40) tx kX.1).2.2.trans gX) (by (first | omega | with_reducible assumption | with_reducible exact rng_toInt _ | with_reducible exact rng_wr _ | (unfold rng; omega) | (unfold rng at *; omega) | assumption)) (by (first | omega | with_reducible assumption | with_reducible exact rng_toInt _ | with_reducible exact rng_wr _ | (unfold rng; omega) | (unfold rng at *; omega) | assumption)) (fun σ41 _ iσ41 cσ41 pσ41 => ?_) (fun σx LLx Nx nux E ix cx ux px => hX σx LLx Nx nux E ix (fσ40.tr (cx.mo (by decide))) (ux) (by first | exact px | exact ⟨by have := px.1; omega, px.2⟩ | (first | omega | with_reducible assumption | with_reducible exact rng_toInt _ | with_reducible exact rng_wr _ | (unfold rng; omega) | (unfold rng at *; omega) | assumption)))
  intro xσ41
  have fσ41 : Fx [261, 262, 263, 323, 324, 326, 327, 333, 336, 386, 387, 388, 389, 390, 6464, 8320] gr σ σ41 := fσ40.tr (cσ41.mo (by decide))
  have oxcσ41 : OX o σ σ41 := oxcσ40.tr (OX.fx cσ41 (by decide) (by decide)) (xσ39.trans xσ40)
  have kp35 : gI σ41 J 1 = gI σ40 J 1 := (cσ41.O (kJ.up (xσ39.trans xσ40)) (by decide)).1
  have kp36 : gI σ41 J 7 = gI σ40 J 7 := (cσ41.O (kJ.up (xσ39.trans xσ40)) (by decide)).1
  have kp37 : gI σ41 o 3 = gI σ40 o 3 := (cσ41.O (ko.up (xσ39.trans xσ40)) (by decide)).1
  have kp38 : gI σ41 o 4 = gI σ40 o 4 := (cσ41.O (ko.up (xσ39.trans xσ40)) (by decide)).1
  have kp39 : gI σ41 o 8 = gI σ40 o 8 := (cσ41.O (ko.up (xσ39.trans xσ40)) (by decide)).1
  have kp40 : gP σ41 th 0 = gP σ40 th 0 := (cσ41.O (kth.up (xσ39.trans xσ40)) (by decide)).2.1
  have kp41 : gP σ41 th 7 = gP σ40 th 7 := (cσ41.O (kth.up (xσ39.trans xσ40)) (by decide)).2.1
  have kp42 : gP σ41 th 8 = gP σ40 th 8 := (cσ41.O (kth.up (xσ39.trans xσ40)) (by decide)).2.1
  have kp43 : gI σ41 J 2 = gI σ40 J 2 := (cσ41.O (kJ.up (xσ39.trans xσ40)) (by decide)).1
  have kp44 : gI σ41 o 6 = gI σ40 o 6 := (cσ41.O (ko.up (xσ39.trans xσ40)) (by decide)).1
  have kp45 : gI σ41 o 7 = gI σ40 o 7 := (cσ41.O (ko.up (xσ39.trans xσ40)) (by decide)).1
  have kp46 : gI σ41 o 9 = gI σ40 o 9 := (cσ41.O (ko.up (xσ39.trans xσ40)) (by decide)).1
  have r5σ41 := I_6_5 iσ41.1 (kth.up (xσ39.trans (xσ40.trans xσ41)))
  refine i_X6_wantWord iσ41 (kth.up (xσ39.trans (xσ40.trans xσ41))) (kp40.trans (kp27.trans (kp16.trans hX0))) (kX.up (xσ39.trans (xσ40.trans xσ41))) (((xσ39.trans (xσ40.trans xσ41)) tx kX.1).2.2.trans gX) (by (first | omega | with_reducible assumption | with_reducible exact rng_toInt _ | with_reducible exact rng_wr _ | (unfold rng; omega) | (unfold rng at *; omega) | assumption)) (by (first | omega | with_reducible assumption | with_reducible exact rng_toInt _ | with_reducible exact rng_wr _ | (unfold rng; omega) | (unfold rng at *; omega) | assumption)) (fun σ42 _ iσ42 cσ42 pσ42 => ?_) (fun σx LLx Nx nux E ix cx ux px => hX σx LLx Nx nux E ix (fσ41.tr (cx.mo (by decide))) (ux) (by first | exact px | exact ⟨by have := px.1; omega, px.2⟩ | (first | omega | with_reducible assumption | with_reducible exact rng_toInt _ | with_reducible exact rng_wr _ | (unfold rng; omega) | (unfold rng at *; omega) | assumption)))
  intro xσ42
  have fσ42 : Fx [261, 262, 263, 323, 324, 326, 327, 333, 336, 386, 387, 388, 389, 390, 6464, 8320] gr σ σ42 := fσ41.tr (cσ42.mo (by decide))
  have oxcσ42 : OX o σ σ42 := oxcσ41.tr (OX.fx cσ42 (by decide) (by decide)) (xσ39.trans (xσ40.trans xσ41))
  have kp47 : gI σ42 J 1 = gI σ41 J 1 := (cσ42.O (kJ.up (xσ39.trans (xσ40.trans xσ41))) (by decide)).1
  have kp48 : gI σ42 J 7 = gI σ41 J 7 := (cσ42.O (kJ.up (xσ39.trans (xσ40.trans xσ41))) (by decide)).1
  have kp49 : gI σ42 o 3 = gI σ41 o 3 := (cσ42.O (ko.up (xσ39.trans (xσ40.trans xσ41))) (by decide)).1
  have kp50 : gI σ42 o 4 = gI σ41 o 4 := (cσ42.O (ko.up (xσ39.trans (xσ40.trans xσ41))) (by decide)).1
  have kp51 : gI σ42 o 8 = gI σ41 o 8 := (cσ42.O (ko.up (xσ39.trans (xσ40.trans xσ41))) (by decide)).1
  have kp52 : gP σ42 th 0 = gP σ41 th 0 := (cσ42.O (kth.up (xσ39.trans (xσ40.trans xσ41))) (by decide)).2.1
  have kp53 : gP σ42 th 7 = gP σ41 th 7 := (cσ42.O (kth.up (xσ39.trans (xσ40.trans xσ41))) (by decide)).2.1
  have kp54 : gP σ42 th 8 = gP σ41 th 8 := (cσ42.O (kth.up (xσ39.trans (xσ40.trans xσ41))) (by decide)).2.1
  have kp55 : gI σ42 J 2 = gI σ41 J 2 := (cσ42.O (kJ.up (xσ39.trans (xσ40.trans xσ41))) (by decide)).1
  have kp56 : gI σ42 o 6 = gI σ41 o 6 := (cσ42.O (ko.up (xσ39.trans (xσ40.trans xσ41))) (by decide)).1
  have kp57 : gI σ42 o 7 = gI σ41 o 7 := (cσ42.O (ko.up (xσ39.trans (xσ40.trans xσ41))) (by decide)).1
  have kp58 : gI σ42 o 9 = gI σ41 o 9 := (cσ42.O (ko.up (xσ39.trans (xσ40.trans xσ41))) (by decide)).1
  have r5σ42 := I_6_5 iσ42.1 (kth.up (xσ39.trans (xσ40.trans (xσ41.trans xσ42))))
  refine ⟨J, (kp53.trans (kp41.trans (kp28.trans (kp17.trans h7)))), fun kk_J => ?_⟩
  refine ⟨o, (kp54.trans (kp42.trans (kp29.trans (kp18.trans h8)))), fun kk_o => ?_⟩
  obtain ⟨b, eb, fb⟩ := P_4_0 iσ42.1 (kJ.up (xσ39.trans (xσ40.trans (xσ41.trans xσ42))))
  have mb : kO σ42 b 115 := iσ42.1.kd (kJ.up (xσ39.trans (xσ40.trans (xσ41.trans xσ42)))) rfl eb rfl
  refine ⟨b, eb, fun kk_b => ?_⟩
  have q59 := I_5_7 iσ42.1 (ko.up (xσ39.trans (xσ40.trans (xσ41.trans xσ42))))
  refine ⟨⟨by (first | omega | with_reducible assumption | with_reducible exact rng_toInt _ | with_reducible exact rng_wr _ | (unfold rng; omega) | (unfold rng at *; omega) | assumption), by (first | omega | with_reducible assumption | with_reducible exact rng_toInt _ | with_reducible exact rng_wr _ | (unfold rng; omega) | (unfold rng at *; omega) | assumption)⟩, ?_⟩
  obtain ⟨b_1, eb_1⟩ := P_115 iσ42.1 mb (k := (gI σ42 o 7).toNat) (by (first | omega | with_reducible assumption | with_reducible exact rng_toInt _ | with_reducible exact rng_wr _ | (unfold rng; omega) | (unfold rng at *; omega) | assumption))
  have fb_1 := T_115 iσ42.1 mb eb_1
  have mb_1 : kO σ42 b_1 5 := iσ42.1.kd mb rfl eb_1 rfl
  refine i_X6_column iσ42 (kth.up (xσ39.trans (xσ40.trans (xσ41.trans xσ42)))) eb_1 mb_1 (by (first | omega | with_reducible assumption | with_reducible exact rng_toInt _ | with_reducible exact rng_wr _ | (unfold rng; omega) | (unfold rng at *; omega) | assumption)) (fun σ46 r47 iσ46 cσ46 pσ46 => ?_) (fun σx LLx Nx nux E ix cx ux px => hX σx LLx Nx nux E ix (fσ42.tr (cx.mo (by decide))) (ux) (by first | exact px | exact ⟨by have := px.1; omega, px.2⟩ | (first | omega | with_reducible assumption | with_reducible exact rng_toInt _ | with_reducible exact rng_wr _ | (unfold rng; omega) | (unfold rng at *; omega) | assumption)))
  intro xσ46
  have fσ46 : Fx [261, 262, 263, 323, 324, 326, 327, 333, 336, 386, 387, 388, 389, 390, 6464, 8320] gr σ σ46 := fσ42.tr (cσ46.mo (by decide))
  have oxcσ46 : OX o σ σ46 := oxcσ42.tr (OX.fx cσ46 (by decide) (by decide)) (xσ39.trans (xσ40.trans (xσ41.trans xσ42)))
  have kp60 : gI σ46 J 1 = gI σ42 J 1 := (cσ46.O (kJ.up (xσ39.trans (xσ40.trans (xσ41.trans xσ42)))) (by decide)).1
  have kp61 : gI σ46 J 7 = gI σ42 J 7 := (cσ46.O (kJ.up (xσ39.trans (xσ40.trans (xσ41.trans xσ42)))) (by decide)).1
  have kp62 : gI σ46 o 3 = gI σ42 o 3 := (cσ46.O (ko.up (xσ39.trans (xσ40.trans (xσ41.trans xσ42)))) (by decide)).1
  have kp63 : gI σ46 o 4 = gI σ42 o 4 := (cσ46.O (ko.up (xσ39.trans (xσ40.trans (xσ41.trans xσ42)))) (by decide)).1
  have kp64 : gI σ46 o 7 = gI σ42 o 7 := (cσ46.O (ko.up (xσ39.trans (xσ40.trans (xσ41.trans xσ42)))) (by decide)).1
  have kp65 : gI σ46 o 8 = gI σ42 o 8 := (cσ46.O (ko.up (xσ39.trans (xσ40.trans (xσ41.trans xσ42)))) (by decide)).1
  have kp66 : gP σ46 J 0 = gP σ42 J 0 := (cσ46.O (kJ.up (xσ39.trans (xσ40.trans (xσ41.trans xσ42)))) (by decide)).2.1
  have kp67 : gP σ46 b (gI σ42 o 7).toNat = gP σ42 b (gI σ42 o 7).toNat := (cσ46.A mb (by decide)).2.1
  have kp68 : gP σ46 th 0 = gP σ42 th 0 := (cσ46.O (kth.up (xσ39.trans (xσ40.trans (xσ41.trans xσ42)))) (by decide)).2.1
  have kp69 : gP σ46 th 7 = gP σ42 th 7 := (cσ46.O (kth.up (xσ39.trans (xσ40.trans (xσ41.trans xσ42)))) (by decide)).2.1
  have kp70 : gP σ46 th 8 = gP σ42 th 8 := (cσ46.O (kth.up (xσ39.trans (xσ40.trans (xσ41.trans xσ42)))) (by decide)).2.1
  have kp71 : gI σ46 th 2 = gI σ42 th 2 := (cσ46.O (kth.up (xσ39.trans (xσ40.trans (xσ41.trans xσ42)))) (by decide)).1
  have kp72 : gI σ46 th 3 = gI σ42 th 3 := (cσ46.O (kth.up (xσ39.trans (xσ40.trans (xσ41.trans xσ42)))) (by decide)).1
  have kp73 : gI σ46 th 5 = gI σ42 th 5 := (cσ46.O (kth.up (xσ39.trans (xσ40.trans (xσ41.trans xσ42)))) (by decide)).1
  have kp74 : gI σ46 J 2 = gI σ42 J 2 := (cσ46.O (kJ.up (xσ39.trans (xσ40.trans (xσ41.trans xσ42)))) (by decide)).1
  have kp75 : gI σ46 o 6 = gI σ42 o 6 := (cσ46.O (ko.up (xσ39.trans (xσ40.trans (xσ41.trans xσ42)))) (by decide)).1
  have kp76 : gI σ46 o 9 = gI σ42 o 9 := (cσ46.O (ko.up (xσ39.trans (xσ40.trans (xσ41.trans xσ42)))) (by decide)).1
  intro σ48 eσ48
  have xσ48 : Ext σ46 σ48 := by rw [eσ48]; exact fun _ h => ⟨h, rfl, rfl⟩
  have iσ48 : IV σ48 pl gq ci gr nc ot LL N nu := by rw [eσ48]; exact iσ46.wSp (ko.up (xσ39.trans (xσ40.trans (xσ41.trans (xσ42.trans xσ46))))) (fun i hi => by omega) (by decide) (show (0 : Int) ≤ r47 ∧ r47 ≤ 7 from ⟨by omega, by omega⟩)
  have fσ48 : Fx [261, 262, 263, 323, 324, 326, 327, 333, 336, 386, 387, 388, 389, 390, 6464, 8320] gr σ σ48 := fσ46.tr (Sk.fx (by rw [eσ48]; exact Sk.pI (by rw [fcdO (ko.up (xσ39.trans (xσ40.trans (xσ41.trans (xσ42.trans xσ46))))) (by decide)]; decide)))
  have oxcσ48 : OX o σ σ48 := oxcσ46.tr (by rw [eσ48]; exact OX.pI (ko.up (xσ39.trans (xσ40.trans (xσ41.trans (xσ42.trans xσ46))))) (Or.inr rfl)) (xσ39.trans (xσ40.trans (xσ41.trans (xσ42.trans xσ46))))
  have wσ48 : gI σ48 o 13 = r47 := by rw [eσ48]; exact up2_s _ _ _ _
  have kp77 : gI σ48 J 1 = gI σ46 J 1 := by rw [eσ48]; exact up2_n _ _ (fun q => absurd q.2 (by decide))
  have kp78 : gI σ48 J 7 = gI σ46 J 7 := by rw [eσ48]; exact up2_n _ _ (fun q => absurd q.2 (by decide))
  have kp79 : gI σ48 o 3 = gI σ46 o 3 := by rw [eσ48]; exact up2_n _ _ (fun q => absurd q.2 (by decide))
  have kp80 : gI σ48 o 4 = gI σ46 o 4 := by rw [eσ48]; exact up2_n _ _ (fun q => absurd q.2 (by decide))
  have kp81 : gI σ48 o 7 = gI σ46 o 7 := by rw [eσ48]; exact up2_n _ _ (fun q => absurd q.2 (by decide))
  have kp82 : gI σ48 o 8 = gI σ46 o 8 := by rw [eσ48]; exact up2_n _ _ (fun q => absurd q.2 (by decide))
  have kp83 : gP σ48 J 0 = gP σ46 J 0 := by rw [eσ48]
  have kp84 : gP σ48 b (gI σ42 o 7).toNat = gP σ46 b (gI σ42 o 7).toNat := by rw [eσ48]
  have kp85 : gP σ48 th 0 = gP σ46 th 0 := by rw [eσ48]
  have kp86 : gP σ48 th 7 = gP σ46 th 7 := by rw [eσ48]
  have kp87 : gP σ48 th 8 = gP σ46 th 8 := by rw [eσ48]
  have kp88 : gI σ48 th 2 = gI σ46 th 2 := by rw [eσ48]; exact up2_n _ _ (fun q => absurd q.2 (by decide))
  have kp89 : gI σ48 th 3 = gI σ46 th 3 := by rw [eσ48]; exact up2_n _ _ (fun q => absurd q.2 (by decide))
  have kp90 : gI σ48 th 5 = gI σ46 th 5 := by rw [eσ48]; exact up2_n _ _ (fun q => absurd q.2 (by decide))
  have kp91 : gI σ48 J 2 = gI σ46 J 2 := by rw [eσ48]; exact up2_n _ _ (fun q => absurd q.2 (by decide))
  have kp92 : gI σ48 o 6 = gI σ46 o 6 := by rw [eσ48]; exact up2_n _ _ (fun q => absurd q.2 (by decide))
  have kp93 : gI σ48 o 9 = gI σ46 o 9 := by rw [eσ48]; exact up2_n _ _ (fun q => absurd q.2 (by decide))
  by_cases hc94 : gJ σ48 th 4 = 1718775661
  · rw [if_pos hc94]
    unfold w_X6_matchText_68
    refine i_X6_refuse iσ48 (kth.up (xσ39.trans (xσ40.trans (xσ41.trans (xσ42.trans (xσ46.trans xσ48)))))) (by (first | omega | with_reducible assumption | with_reducible exact rng_toInt _ | with_reducible exact rng_wr _ | (unfold rng; omega) | (unfold rng at *; omega) | assumption)) (by (first | omega | with_reducible assumption | with_reducible exact rng_toInt _ | with_reducible exact rng_wr _ | (unfold rng; omega) | (unfold rng at *; omega) | assumption)) (by (first | omega | with_reducible assumption | with_reducible exact rng_toInt _ | with_reducible exact rng_wr _ | (unfold rng; omega) | (unfold rng at *; omega) | assumption)) (fun σ49 _ iσ49 cσ49 pσ49 => ?_) (fun σx LLx Nx nux E ix cx ux px => hX σx LLx Nx nux E ix (fσ48.tr (cx.mo (by decide))) (ux) (by first | exact px | exact ⟨by have := px.1; omega, px.2⟩ | (first | omega | with_reducible assumption | with_reducible exact rng_toInt _ | with_reducible exact rng_wr _ | (unfold rng; omega) | (unfold rng at *; omega) | assumption)))
    intro xσ49
    exact pσ49.elim
  · rw [if_neg hc94]
    unfold w_X6_matchText_57
    by_cases hc95 : gJ σ48 th 4 ≠ 29807
    · rw [if_pos hc95]
      unfold w_X6_matchText_74
      refine ⟨o, (kp87.trans (kp70.trans (kp54.trans (kp42.trans (kp29.trans (kp18.trans h8)))))), fun kk_o_1 => ?_⟩
      refine i_X5_addColumn iσ48 (ko.up (xσ39.trans (xσ40.trans (xσ41.trans (xσ42.trans (xσ46.trans xσ48)))))) (by (first | omega | with_reducible assumption | with_reducible exact rng_toInt _ | with_reducible exact rng_wr _ | (unfold rng; omega) | (unfold rng at *; omega) | assumption)) (by (first | omega | with_reducible assumption | with_reducible exact rng_toInt _ | with_reducible exact rng_wr _ | (unfold rng; omega) | (unfold rng at *; omega) | assumption)) (by (first | omega | with_reducible assumption | with_reducible exact rng_toInt _ | with_reducible exact rng_wr _ | (unfold rng; omega) | (unfold rng at *; omega) | assumption)) (fun σ50 _ iσ50 cσ50 oxσ50 pσ50 => ?_)
      intro xσ50
      have fσ50 : Fx [261, 262, 263, 323, 324, 326, 327, 333, 336, 386, 387, 388, 389, 390, 6464, 8320] gr σ σ50 := fσ48.tr (cσ50.mo (by decide))
      have oxcσ50 : OX o σ σ50 := oxcσ48.tr oxσ50 (xσ39.trans (xσ40.trans (xσ41.trans (xσ42.trans (xσ46.trans xσ48)))))
      have kp96 : gI σ50 J 1 = gI σ48 J 1 := (cσ50.O (kJ.up (xσ39.trans (xσ40.trans (xσ41.trans (xσ42.trans (xσ46.trans xσ48)))))) (by decide)).1
      have kp97 : gI σ50 J 7 = gI σ48 J 7 := (cσ50.O (kJ.up (xσ39.trans (xσ40.trans (xσ41.trans (xσ42.trans (xσ46.trans xσ48)))))) (by decide)).1
      have kp98 : gI σ50 o 13 = gI σ48 o 13 := (cσ50.O (ko.up (xσ39.trans (xσ40.trans (xσ41.trans (xσ42.trans (xσ46.trans xσ48)))))) (by decide)).1
      have kp99 : gI σ50 o 4 = gI σ48 o 4 := (cσ50.O (ko.up (xσ39.trans (xσ40.trans (xσ41.trans (xσ42.trans (xσ46.trans xσ48)))))) (by decide)).1
      have kp100 : gI σ50 o 7 = gI σ48 o 7 := (cσ50.O (ko.up (xσ39.trans (xσ40.trans (xσ41.trans (xσ42.trans (xσ46.trans xσ48)))))) (by decide)).1
      have kp101 : gI σ50 o 8 = gI σ48 o 8 := (cσ50.O (ko.up (xσ39.trans (xσ40.trans (xσ41.trans (xσ42.trans (xσ46.trans xσ48)))))) (by decide)).1
      have kp102 : gP σ50 J 0 = gP σ48 J 0 := (cσ50.O (kJ.up (xσ39.trans (xσ40.trans (xσ41.trans (xσ42.trans (xσ46.trans xσ48)))))) (by decide)).2.1
      have kp103 : gP σ50 b (gI σ42 o 7).toNat = gP σ48 b (gI σ42 o 7).toNat := (cσ50.A (mb.up (xσ46.trans xσ48)) (by decide)).2.1
      have kp104 : gP σ50 th 0 = gP σ48 th 0 := (cσ50.O (kth.up (xσ39.trans (xσ40.trans (xσ41.trans (xσ42.trans (xσ46.trans xσ48)))))) (by decide)).2.1
      have kp105 : gP σ50 th 7 = gP σ48 th 7 := (cσ50.O (kth.up (xσ39.trans (xσ40.trans (xσ41.trans (xσ42.trans (xσ46.trans xσ48)))))) (by decide)).2.1
      have kp106 : gP σ50 th 8 = gP σ48 th 8 := (cσ50.O (kth.up (xσ39.trans (xσ40.trans (xσ41.trans (xσ42.trans (xσ46.trans xσ48)))))) (by decide)).2.1
      have kp107 : gI σ50 th 2 = gI σ48 th 2 := (cσ50.O (kth.up (xσ39.trans (xσ40.trans (xσ41.trans (xσ42.trans (xσ46.trans xσ48)))))) (by decide)).1
      have kp108 : gI σ50 th 3 = gI σ48 th 3 := (cσ50.O (kth.up (xσ39.trans (xσ40.trans (xσ41.trans (xσ42.trans (xσ46.trans xσ48)))))) (by decide)).1
      have kp109 : gI σ50 th 5 = gI σ48 th 5 := (cσ50.O (kth.up (xσ39.trans (xσ40.trans (xσ41.trans (xσ42.trans (xσ46.trans xσ48)))))) (by decide)).1
      have kp110 : gI σ50 J 2 = gI σ48 J 2 := (cσ50.O (kJ.up (xσ39.trans (xσ40.trans (xσ41.trans (xσ42.trans (xσ46.trans xσ48)))))) (by decide)).1
      have kp111 : gI σ50 o 6 = gI σ48 o 6 := (cσ50.O (ko.up (xσ39.trans (xσ40.trans (xσ41.trans (xσ42.trans (xσ46.trans xσ48)))))) (by decide)).1
      have kp112 : gI σ50 o 9 = gI σ48 o 9 := (cσ50.O (ko.up (xσ39.trans (xσ40.trans (xσ41.trans (xσ42.trans (xσ46.trans xσ48)))))) (by decide)).1
      refine ⟨o, (kp106.trans (kp87.trans (kp70.trans (kp54.trans (kp42.trans (kp29.trans (kp18.trans h8))))))), fun kk_o_2 => ?_⟩
      refine i_X5_addColumn iσ50 (ko.up (xσ39.trans (xσ40.trans (xσ41.trans (xσ42.trans (xσ46.trans (xσ48.trans xσ50))))))) (by (first | omega | with_reducible assumption | with_reducible exact rng_toInt _ | with_reducible exact rng_wr _ | (unfold rng; omega) | (unfold rng at *; omega) | assumption)) (by (first | omega | with_reducible assumption | with_reducible exact rng_toInt _ | with_reducible exact rng_wr _ | (unfold rng; omega) | (unfold rng at *; omega) | assumption)) (by (first | omega | with_reducible assumption | with_reducible exact rng_toInt _ | with_reducible exact rng_wr _ | (unfold rng; omega) | (unfold rng at *; omega) | assumption)) (fun σ52 _ iσ52 cσ52 oxσ52 pσ52 => ?_)
      intro xσ52
      have fσ52 : Fx [261, 262, 263, 323, 324, 326, 327, 333, 336, 386, 387, 388, 389, 390, 6464, 8320] gr σ σ52 := fσ50.tr (cσ52.mo (by decide))
      have oxcσ52 : OX o σ σ52 := oxcσ50.tr oxσ52 (xσ39.trans (xσ40.trans (xσ41.trans (xσ42.trans (xσ46.trans (xσ48.trans xσ50))))))
      have kp113 : gI σ52 J 1 = gI σ50 J 1 := (cσ52.O (kJ.up (xσ39.trans (xσ40.trans (xσ41.trans (xσ42.trans (xσ46.trans (xσ48.trans xσ50))))))) (by decide)).1
      have kp114 : gI σ52 J 7 = gI σ50 J 7 := (cσ52.O (kJ.up (xσ39.trans (xσ40.trans (xσ41.trans (xσ42.trans (xσ46.trans (xσ48.trans xσ50))))))) (by decide)).1
      have kp115 : gI σ52 o 13 = gI σ50 o 13 := (cσ52.O (ko.up (xσ39.trans (xσ40.trans (xσ41.trans (xσ42.trans (xσ46.trans (xσ48.trans xσ50))))))) (by decide)).1
      have kp116 : gI σ52 o 4 = gI σ50 o 4 := (cσ52.O (ko.up (xσ39.trans (xσ40.trans (xσ41.trans (xσ42.trans (xσ46.trans (xσ48.trans xσ50))))))) (by decide)).1
      have kp117 : gI σ52 o 7 = gI σ50 o 7 := (cσ52.O (ko.up (xσ39.trans (xσ40.trans (xσ41.trans (xσ42.trans (xσ46.trans (xσ48.trans xσ50))))))) (by decide)).1
      have kp118 : gI σ52 o 8 = gI σ50 o 8 := (cσ52.O (ko.up (xσ39.trans (xσ40.trans (xσ41.trans (xσ42.trans (xσ46.trans (xσ48.trans xσ50))))))) (by decide)).1
      have kp119 : gP σ52 J 0 = gP σ50 J 0 := (cσ52.O (kJ.up (xσ39.trans (xσ40.trans (xσ41.trans (xσ42.trans (xσ46.trans (xσ48.trans xσ50))))))) (by decide)).2.1
      have kp120 : gP σ52 b (gI σ42 o 7).toNat = gP σ50 b (gI σ42 o 7).toNat := (cσ52.A (mb.up (xσ46.trans (xσ48.trans xσ50))) (by decide)).2.1
      have kp121 : gP σ52 th 0 = gP σ50 th 0 := (cσ52.O (kth.up (xσ39.trans (xσ40.trans (xσ41.trans (xσ42.trans (xσ46.trans (xσ48.trans xσ50))))))) (by decide)).2.1
      have kp122 : gP σ52 th 7 = gP σ50 th 7 := (cσ52.O (kth.up (xσ39.trans (xσ40.trans (xσ41.trans (xσ42.trans (xσ46.trans (xσ48.trans xσ50))))))) (by decide)).2.1
      have kp123 : gP σ52 th 8 = gP σ50 th 8 := (cσ52.O (kth.up (xσ39.trans (xσ40.trans (xσ41.trans (xσ42.trans (xσ46.trans (xσ48.trans xσ50))))))) (by decide)).2.1
      have kp124 : gI σ52 th 2 = gI σ50 th 2 := (cσ52.O (kth.up (xσ39.trans (xσ40.trans (xσ41.trans (xσ42.trans (xσ46.trans (xσ48.trans xσ50))))))) (by decide)).1
      have kp125 : gI σ52 th 3 = gI σ50 th 3 := (cσ52.O (kth.up (xσ39.trans (xσ40.trans (xσ41.trans (xσ42.trans (xσ46.trans (xσ48.trans xσ50))))))) (by decide)).1
      have kp126 : gI σ52 th 5 = gI σ50 th 5 := (cσ52.O (kth.up (xσ39.trans (xσ40.trans (xσ41.trans (xσ42.trans (xσ46.trans (xσ48.trans xσ50))))))) (by decide)).1
      have kp127 : gI σ52 J 2 = gI σ50 J 2 := (cσ52.O (kJ.up (xσ39.trans (xσ40.trans (xσ41.trans (xσ42.trans (xσ46.trans (xσ48.trans xσ50))))))) (by decide)).1
      have kp128 : gI σ52 o 6 = gI σ50 o 6 := (cσ52.O (ko.up (xσ39.trans (xσ40.trans (xσ41.trans (xσ42.trans (xσ46.trans (xσ48.trans xσ50))))))) (by decide)).1
      have kp129 : gI σ52 o 9 = gI σ50 o 9 := (cσ52.O (ko.up (xσ39.trans (xσ40.trans (xσ41.trans (xσ42.trans (xσ46.trans (xσ48.trans xσ50))))))) (by decide)).1
      refine ⟨o, (kp123.trans (kp106.trans (kp87.trans (kp70.trans (kp54.trans (kp42.trans (kp29.trans (kp18.trans h8)))))))), fun kk_o_3 => ?_⟩
      refine i_X5_addColumn iσ52 (ko.up (xσ39.trans (xσ40.trans (xσ41.trans (xσ42.trans (xσ46.trans (xσ48.trans (xσ50.trans xσ52)))))))) (by (first | omega | with_reducible assumption | with_reducible exact rng_toInt _ | with_reducible exact rng_wr _ | (unfold rng; omega) | (unfold rng at *; omega) | assumption)) (by (first | omega | with_reducible assumption | with_reducible exact rng_toInt _ | with_reducible exact rng_wr _ | (unfold rng; omega) | (unfold rng at *; omega) | assumption)) (by (first | omega | with_reducible assumption | with_reducible exact rng_toInt _ | with_reducible exact rng_wr _ | (unfold rng; omega) | (unfold rng at *; omega) | assumption)) (fun σ54 _ iσ54 cσ54 oxσ54 pσ54 => ?_)
      intro xσ54
      have fσ54 : Fx [261, 262, 263, 323, 324, 326, 327, 333, 336, 386, 387, 388, 389, 390, 6464, 8320] gr σ σ54 := fσ52.tr (cσ54.mo (by decide))
      have oxcσ54 : OX o σ σ54 := oxcσ52.tr oxσ54 (xσ39.trans (xσ40.trans (xσ41.trans (xσ42.trans (xσ46.trans (xσ48.trans (xσ50.trans xσ52)))))))
      have kp130 : gI σ54 J 1 = gI σ52 J 1 := (cσ54.O (kJ.up (xσ39.trans (xσ40.trans (xσ41.trans (xσ42.trans (xσ46.trans (xσ48.trans (xσ50.trans xσ52)))))))) (by decide)).1
      have kp131 : gI σ54 J 7 = gI σ52 J 7 := (cσ54.O (kJ.up (xσ39.trans (xσ40.trans (xσ41.trans (xσ42.trans (xσ46.trans (xσ48.trans (xσ50.trans xσ52)))))))) (by decide)).1
      have kp132 : gI σ54 o 13 = gI σ52 o 13 := (cσ54.O (ko.up (xσ39.trans (xσ40.trans (xσ41.trans (xσ42.trans (xσ46.trans (xσ48.trans (xσ50.trans xσ52)))))))) (by decide)).1
      have kp133 : gI σ54 o 4 = gI σ52 o 4 := (cσ54.O (ko.up (xσ39.trans (xσ40.trans (xσ41.trans (xσ42.trans (xσ46.trans (xσ48.trans (xσ50.trans xσ52)))))))) (by decide)).1
      have kp134 : gI σ54 o 7 = gI σ52 o 7 := (cσ54.O (ko.up (xσ39.trans (xσ40.trans (xσ41.trans (xσ42.trans (xσ46.trans (xσ48.trans (xσ50.trans xσ52)))))))) (by decide)).1
      have kp135 : gI σ54 o 8 = gI σ52 o 8 := (cσ54.O (ko.up (xσ39.trans (xσ40.trans (xσ41.trans (xσ42.trans (xσ46.trans (xσ48.trans (xσ50.trans xσ52)))))))) (by decide)).1
      have kp136 : gP σ54 J 0 = gP σ52 J 0 := (cσ54.O (kJ.up (xσ39.trans (xσ40.trans (xσ41.trans (xσ42.trans (xσ46.trans (xσ48.trans (xσ50.trans xσ52)))))))) (by decide)).2.1
      have kp137 : gP σ54 b (gI σ42 o 7).toNat = gP σ52 b (gI σ42 o 7).toNat := (cσ54.A (mb.up (xσ46.trans (xσ48.trans (xσ50.trans xσ52)))) (by decide)).2.1
      have kp138 : gP σ54 th 0 = gP σ52 th 0 := (cσ54.O (kth.up (xσ39.trans (xσ40.trans (xσ41.trans (xσ42.trans (xσ46.trans (xσ48.trans (xσ50.trans xσ52)))))))) (by decide)).2.1
      have kp139 : gP σ54 th 7 = gP σ52 th 7 := (cσ54.O (kth.up (xσ39.trans (xσ40.trans (xσ41.trans (xσ42.trans (xσ46.trans (xσ48.trans (xσ50.trans xσ52)))))))) (by decide)).2.1
      have kp140 : gP σ54 th 8 = gP σ52 th 8 := (cσ54.O (kth.up (xσ39.trans (xσ40.trans (xσ41.trans (xσ42.trans (xσ46.trans (xσ48.trans (xσ50.trans xσ52)))))))) (by decide)).2.1
      have kp141 : gI σ54 th 2 = gI σ52 th 2 := (cσ54.O (kth.up (xσ39.trans (xσ40.trans (xσ41.trans (xσ42.trans (xσ46.trans (xσ48.trans (xσ50.trans xσ52)))))))) (by decide)).1
      have kp142 : gI σ54 th 3 = gI σ52 th 3 := (cσ54.O (kth.up (xσ39.trans (xσ40.trans (xσ41.trans (xσ42.trans (xσ46.trans (xσ48.trans (xσ50.trans xσ52)))))))) (by decide)).1
      have kp143 : gI σ54 th 5 = gI σ52 th 5 := (cσ54.O (kth.up (xσ39.trans (xσ40.trans (xσ41.trans (xσ42.trans (xσ46.trans (xσ48.trans (xσ50.trans xσ52)))))))) (by decide)).1
      have kp144 : gI σ54 J 2 = gI σ52 J 2 := (cσ54.O (kJ.up (xσ39.trans (xσ40.trans (xσ41.trans (xσ42.trans (xσ46.trans (xσ48.trans (xσ50.trans xσ52)))))))) (by decide)).1
      have kp145 : gI σ54 o 6 = gI σ52 o 6 := (cσ54.O (ko.up (xσ39.trans (xσ40.trans (xσ41.trans (xσ42.trans (xσ46.trans (xσ48.trans (xσ50.trans xσ52)))))))) (by decide)).1
      have kp146 : gI σ54 o 9 = gI σ52 o 9 := (cσ54.O (ko.up (xσ39.trans (xσ40.trans (xσ41.trans (xσ42.trans (xσ46.trans (xσ48.trans (xσ50.trans xσ52)))))))) (by decide)).1
      refine i_X6_next iσ54 (kth.up (xσ39.trans (xσ40.trans (xσ41.trans (xσ42.trans (xσ46.trans (xσ48.trans (xσ50.trans (xσ52.trans xσ54))))))))) (kp138.trans (kp121.trans (kp104.trans (kp85.trans (kp68.trans (kp52.trans (kp40.trans (kp27.trans (kp16.trans hX0))))))))) (kX.up (xσ39.trans (xσ40.trans (xσ41.trans (xσ42.trans (xσ46.trans (xσ48.trans (xσ50.trans (xσ52.trans xσ54))))))))) (((xσ39.trans (xσ40.trans (xσ41.trans (xσ42.trans (xσ46.trans (xσ48.trans (xσ50.trans (xσ52.trans xσ54)))))))) tx kX.1).2.2.trans gX) (by (first | omega | with_reducible assumption | with_reducible exact rng_toInt _ | with_reducible exact rng_wr _ | (unfold rng; omega) | (unfold rng at *; omega) | assumption)) (by (first | omega | with_reducible assumption | with_reducible exact rng_toInt _ | with_reducible exact rng_wr _ | (unfold rng; omega) | (unfold rng at *; omega) | assumption)) (fun σ56 _ iσ56 cσ56 pσ56 => ?_) (fun σx LLx Nx nux E ix cx ux px => hX σx LLx Nx nux E ix (fσ54.tr (cx.mo (by decide))) (ux) (by first | exact px | exact ⟨by have := px.1; omega, px.2⟩ | (first | omega | with_reducible assumption | with_reducible exact rng_toInt _ | with_reducible exact rng_wr _ | (unfold rng; omega) | (unfold rng at *; omega) | assumption)))
      intro xσ56
      have fσ56 : Fx [261, 262, 263, 323, 324, 326, 327, 333, 336, 386, 387, 388, 389, 390, 6464, 8320] gr σ σ56 := fσ54.tr (cσ56.mo (by decide))
      have oxcσ56 : OX o σ σ56 := oxcσ54.tr (OX.fx cσ56 (by decide) (by decide)) (xσ39.trans (xσ40.trans (xσ41.trans (xσ42.trans (xσ46.trans (xσ48.trans (xσ50.trans (xσ52.trans xσ54))))))))
      have kp147 : gI σ56 J 1 = gI σ54 J 1 := (cσ56.O (kJ.up (xσ39.trans (xσ40.trans (xσ41.trans (xσ42.trans (xσ46.trans (xσ48.trans (xσ50.trans (xσ52.trans xσ54))))))))) (by decide)).1
      have kp148 : gI σ56 J 7 = gI σ54 J 7 := (cσ56.O (kJ.up (xσ39.trans (xσ40.trans (xσ41.trans (xσ42.trans (xσ46.trans (xσ48.trans (xσ50.trans (xσ52.trans xσ54))))))))) (by decide)).1
      have kp149 : gI σ56 o 13 = gI σ54 o 13 := (cσ56.O (ko.up (xσ39.trans (xσ40.trans (xσ41.trans (xσ42.trans (xσ46.trans (xσ48.trans (xσ50.trans (xσ52.trans xσ54))))))))) (by decide)).1
      have kp150 : gI σ56 o 4 = gI σ54 o 4 := (cσ56.O (ko.up (xσ39.trans (xσ40.trans (xσ41.trans (xσ42.trans (xσ46.trans (xσ48.trans (xσ50.trans (xσ52.trans xσ54))))))))) (by decide)).1
      have kp151 : gI σ56 o 7 = gI σ54 o 7 := (cσ56.O (ko.up (xσ39.trans (xσ40.trans (xσ41.trans (xσ42.trans (xσ46.trans (xσ48.trans (xσ50.trans (xσ52.trans xσ54))))))))) (by decide)).1
      have kp152 : gI σ56 o 8 = gI σ54 o 8 := (cσ56.O (ko.up (xσ39.trans (xσ40.trans (xσ41.trans (xσ42.trans (xσ46.trans (xσ48.trans (xσ50.trans (xσ52.trans xσ54))))))))) (by decide)).1
      have kp153 : gP σ56 J 0 = gP σ54 J 0 := (cσ56.O (kJ.up (xσ39.trans (xσ40.trans (xσ41.trans (xσ42.trans (xσ46.trans (xσ48.trans (xσ50.trans (xσ52.trans xσ54))))))))) (by decide)).2.1
      have kp154 : gP σ56 b (gI σ42 o 7).toNat = gP σ54 b (gI σ42 o 7).toNat := (cσ56.A (mb.up (xσ46.trans (xσ48.trans (xσ50.trans (xσ52.trans xσ54))))) (by decide)).2.1
      have kp155 : gP σ56 th 0 = gP σ54 th 0 := (cσ56.O (kth.up (xσ39.trans (xσ40.trans (xσ41.trans (xσ42.trans (xσ46.trans (xσ48.trans (xσ50.trans (xσ52.trans xσ54))))))))) (by decide)).2.1
      have kp156 : gP σ56 th 7 = gP σ54 th 7 := (cσ56.O (kth.up (xσ39.trans (xσ40.trans (xσ41.trans (xσ42.trans (xσ46.trans (xσ48.trans (xσ50.trans (xσ52.trans xσ54))))))))) (by decide)).2.1
      have kp157 : gP σ56 th 8 = gP σ54 th 8 := (cσ56.O (kth.up (xσ39.trans (xσ40.trans (xσ41.trans (xσ42.trans (xσ46.trans (xσ48.trans (xσ50.trans (xσ52.trans xσ54))))))))) (by decide)).2.1
      have kp158 : gI σ56 J 2 = gI σ54 J 2 := (cσ56.O (kJ.up (xσ39.trans (xσ40.trans (xσ41.trans (xσ42.trans (xσ46.trans (xσ48.trans (xσ50.trans (xσ52.trans xσ54))))))))) (by decide)).1
      have kp159 : gI σ56 o 3 = gI σ54 o 3 := (cσ56.O (ko.up (xσ39.trans (xσ40.trans (xσ41.trans (xσ42.trans (xσ46.trans (xσ48.trans (xσ50.trans (xσ52.trans xσ54))))))))) (by decide)).1
      have kp160 : gI σ56 o 6 = gI σ54 o 6 := (cσ56.O (ko.up (xσ39.trans (xσ40.trans (xσ41.trans (xσ42.trans (xσ46.trans (xσ48.trans (xσ50.trans (xσ52.trans xσ54))))))))) (by decide)).1
      have kp161 : gI σ56 o 9 = gI σ54 o 9 := (cσ56.O (ko.up (xσ39.trans (xσ40.trans (xσ41.trans (xσ42.trans (xσ46.trans (xσ48.trans (xσ50.trans (xσ52.trans xσ54))))))))) (by decide)).1
      have r5σ56 := I_6_5 iσ56.1 (kth.up (xσ39.trans (xσ40.trans (xσ41.trans (xσ42.trans (xσ46.trans (xσ48.trans (xσ50.trans (xσ52.trans (xσ54.trans xσ56))))))))))
      refine i_X6_wantSign iσ56 (kth.up (xσ39.trans (xσ40.trans (xσ41.trans (xσ42.trans (xσ46.trans (xσ48.trans (xσ50.trans (xσ52.trans (xσ54.trans xσ56)))))))))) (kp155.trans (kp138.trans (kp121.trans (kp104.trans (kp85.trans (kp68.trans (kp52.trans (kp40.trans (kp27.trans (kp16.trans hX0)))))))))) (kX.up (xσ39.trans (xσ40.trans (xσ41.trans (xσ42.trans (xσ46.trans (xσ48.trans (xσ50.trans (xσ52.trans (xσ54.trans xσ56)))))))))) (((xσ39.trans (xσ40.trans (xσ41.trans (xσ42.trans (xσ46.trans (xσ48.trans (xσ50.trans (xσ52.trans (xσ54.trans xσ56))))))))) tx kX.1).2.2.trans gX) (by (first | omega | with_reducible assumption | with_reducible exact rng_toInt _ | with_reducible exact rng_wr _ | (unfold rng; omega) | (unfold rng at *; omega) | assumption)) (by (first | omega | with_reducible assumption | with_reducible exact rng_toInt _ | with_reducible exact rng_wr _ | (unfold rng; omega) | (unfold rng at *; omega) | assumption)) (fun σ57 _ iσ57 cσ57 pσ57 => ?_) (fun σx LLx Nx nux E ix cx ux px => hX σx LLx Nx nux E ix (fσ56.tr (cx.mo (by decide))) (ux) (by first | exact px | exact ⟨by have := px.1; omega, px.2⟩ | (first | omega | with_reducible assumption | with_reducible exact rng_toInt _ | with_reducible exact rng_wr _ | (unfold rng; omega) | (unfold rng at *; omega) | assumption)))
      intro xσ57
      have fσ57 : Fx [261, 262, 263, 323, 324, 326, 327, 333, 336, 386, 387, 388, 389, 390, 6464, 8320] gr σ σ57 := fσ56.tr (cσ57.mo (by decide))
      have oxcσ57 : OX o σ σ57 := oxcσ56.tr (OX.fx cσ57 (by decide) (by decide)) (xσ39.trans (xσ40.trans (xσ41.trans (xσ42.trans (xσ46.trans (xσ48.trans (xσ50.trans (xσ52.trans (xσ54.trans xσ56)))))))))
      have kp162 : gI σ57 J 1 = gI σ56 J 1 := (cσ57.O (kJ.up (xσ39.trans (xσ40.trans (xσ41.trans (xσ42.trans (xσ46.trans (xσ48.trans (xσ50.trans (xσ52.trans (xσ54.trans xσ56)))))))))) (by decide)).1
      have kp163 : gI σ57 J 7 = gI σ56 J 7 := (cσ57.O (kJ.up (xσ39.trans (xσ40.trans (xσ41.trans (xσ42.trans (xσ46.trans (xσ48.trans (xσ50.trans (xσ52.trans (xσ54.trans xσ56)))))))))) (by decide)).1
      have kp164 : gI σ57 o 13 = gI σ56 o 13 := (cσ57.O (ko.up (xσ39.trans (xσ40.trans (xσ41.trans (xσ42.trans (xσ46.trans (xσ48.trans (xσ50.trans (xσ52.trans (xσ54.trans xσ56)))))))))) (by decide)).1
      have kp165 : gI σ57 o 4 = gI σ56 o 4 := (cσ57.O (ko.up (xσ39.trans (xσ40.trans (xσ41.trans (xσ42.trans (xσ46.trans (xσ48.trans (xσ50.trans (xσ52.trans (xσ54.trans xσ56)))))))))) (by decide)).1
      have kp166 : gI σ57 o 7 = gI σ56 o 7 := (cσ57.O (ko.up (xσ39.trans (xσ40.trans (xσ41.trans (xσ42.trans (xσ46.trans (xσ48.trans (xσ50.trans (xσ52.trans (xσ54.trans xσ56)))))))))) (by decide)).1
      have kp167 : gI σ57 o 8 = gI σ56 o 8 := (cσ57.O (ko.up (xσ39.trans (xσ40.trans (xσ41.trans (xσ42.trans (xσ46.trans (xσ48.trans (xσ50.trans (xσ52.trans (xσ54.trans xσ56)))))))))) (by decide)).1
      have kp168 : gP σ57 J 0 = gP σ56 J 0 := (cσ57.O (kJ.up (xσ39.trans (xσ40.trans (xσ41.trans (xσ42.trans (xσ46.trans (xσ48.trans (xσ50.trans (xσ52.trans (xσ54.trans xσ56)))))))))) (by decide)).2.1
      have kp169 : gP σ57 b (gI σ42 o 7).toNat = gP σ56 b (gI σ42 o 7).toNat := (cσ57.A (mb.up (xσ46.trans (xσ48.trans (xσ50.trans (xσ52.trans (xσ54.trans xσ56)))))) (by decide)).2.1
      have kp170 : gP σ57 th 0 = gP σ56 th 0 := (cσ57.O (kth.up (xσ39.trans (xσ40.trans (xσ41.trans (xσ42.trans (xσ46.trans (xσ48.trans (xσ50.trans (xσ52.trans (xσ54.trans xσ56)))))))))) (by decide)).2.1
      have kp171 : gP σ57 th 7 = gP σ56 th 7 := (cσ57.O (kth.up (xσ39.trans (xσ40.trans (xσ41.trans (xσ42.trans (xσ46.trans (xσ48.trans (xσ50.trans (xσ52.trans (xσ54.trans xσ56)))))))))) (by decide)).2.1
      have kp172 : gP σ57 th 8 = gP σ56 th 8 := (cσ57.O (kth.up (xσ39.trans (xσ40.trans (xσ41.trans (xσ42.trans (xσ46.trans (xσ48.trans (xσ50.trans (xσ52.trans (xσ54.trans xσ56)))))))))) (by decide)).2.1
      have kp173 : gI σ57 J 2 = gI σ56 J 2 := (cσ57.O (kJ.up (xσ39.trans (xσ40.trans (xσ41.trans (xσ42.trans (xσ46.trans (xσ48.trans (xσ50.trans (xσ52.trans (xσ54.trans xσ56)))))))))) (by decide)).1
      have kp174 : gI σ57 o 3 = gI σ56 o 3 := (cσ57.O (ko.up (xσ39.trans (xσ40.trans (xσ41.trans (xσ42.trans (xσ46.trans (xσ48.trans (xσ50.trans (xσ52.trans (xσ54.trans xσ56)))))))))) (by decide)).1
      have kp175 : gI σ57 o 6 = gI σ56 o 6 := (cσ57.O (ko.up (xσ39.trans (xσ40.trans (xσ41.trans (xσ42.trans (xσ46.trans (xσ48.trans (xσ50.trans (xσ52.trans (xσ54.trans xσ56)))))))))) (by decide)).1
      have kp176 : gI σ57 o 9 = gI σ56 o 9 := (cσ57.O (ko.up (xσ39.trans (xσ40.trans (xσ41.trans (xσ42.trans (xσ46.trans (xσ48.trans (xσ50.trans (xσ52.trans (xσ54.trans xσ56)))))))))) (by decide)).1
      have r5σ57 := I_6_5 iσ57.1 (kth.up (xσ39.trans (xσ40.trans (xσ41.trans (xσ42.trans (xσ46.trans (xσ48.trans (xσ50.trans (xσ52.trans (xσ54.trans (xσ56.trans xσ57)))))))))))
      have Lp117 : ∀ (fu117 : Nat) (τ117 : Sg) (nut117 : Nat → Nat) (v1 : Int), IV τ117 pl gq ci gr nc ot LL N nut117 → Fx [261, 262, 263, 323, 324, 326, 327, 333, 336, 386, 387, 388, 389, 390, 6464, 8320] gr σ τ117 → Ext σ57 τ117 → NC nu nut117 → OX o σ τ117 → ((0 ≤ v1 ∧ v1 ≤ 4) ∧ (gI τ117 th 5 ≤ gI τ117 th 2 ∧ (gI τ117 th 3 ≠ 0 → gI τ117 th 5 + 1 ≤ gI τ117 th 2)) ∧ gI τ117 J 7 ≤ 2 * gI τ117 th 5 ∧ gI τ117 o 6 = 8 ∧ 0 ≤ gI τ117 o 7 ∧ gI τ117 o 7 < (c : Int) ∧ gI τ117 o 8 = -1 ∧ gI τ117 o 4 = v1) → ((4 - v1).toNat) < fu117 → wl_X6_matchText_117 th Q X fu117 τ117 v1 := by
        intro fu117
        induction fu117 with
        | zero => intro _ _ _ _ _ _ _ _ _ h9; omega
        | succ fu117 ih117 =>
          intro τ117 nut117 v1 iτ117 fτ117 xτ117 nu_τ117 oxcτ117 hi117 hm117
          have uτ117_0 := nu_τ117 0 (by decide) (by decide)
          have uτ117_1 := nu_τ117 1 (by decide) (by decide)
          have uτ117_2 := nu_τ117 2 (by decide) (by decide)
          have uτ117_5 := nu_τ117 5 (by decide) (by decide)
          have uτ117_15 := nu_τ117 15 (by decide) (by decide)
          have uτ117_16 := nu_τ117 16 (by decide) (by decide)
          unfold wl_X6_matchText_117
          have kp177 : gI τ117 J 1 = gI σ J 1 := (fτ117.O kJ (by decide)).1
          have kp178 : gI τ117 o 8 = gI σ o 8 := (fτ117.O ko (by decide)).1
          have kp179 : gP τ117 th 0 = gP σ th 0 := (fτ117.O kth (by decide)).2.1
          have kp180 : gP τ117 th 7 = gP σ th 7 := (fτ117.O kth (by decide)).2.1
          have kp181 : gP τ117 th 8 = gP σ th 8 := (fτ117.O kth (by decide)).2.1
          have kp182 : gI τ117 J 2 = gI σ J 2 := (fτ117.O kJ (by decide)).1
          have kp183 : gI τ117 o 9 = gI σ o 9 := (fτ117.O ko (by decide)).1
          have kp184 : gI τ117 J 1 = gI σ57 J 1 := (fτ117.O kJ (by decide)).1.trans (fσ57.O kJ (by decide)).1.symm
          have kp185 : gI τ117 o 8 = gI σ57 o 8 := (fτ117.O ko (by decide)).1.trans (fσ57.O ko (by decide)).1.symm
          have kp186 : gP τ117 J 0 = gP σ57 J 0 := (fτ117.O kJ (by decide)).2.1.trans (fσ57.O kJ (by decide)).2.1.symm
          have kp187 : gI τ117 J 2 = gI σ57 J 2 := (fτ117.O kJ (by decide)).1.trans (fσ57.O kJ (by decide)).1.symm
          have kp188 : gI τ117 o 9 = gI σ57 o 9 := (fτ117.O ko (by decide)).1.trans (fσ57.O ko (by decide)).1.symm
          unfold w_X6_matchText_117
          by_cases hc189 : v1 ≥ 4
          · rw [if_pos hc189]
            unfold w_X6_matchText_197
            refine i_X6_wantWord iτ117 (kth.up (xσ39.trans (xσ40.trans (xσ41.trans (xσ42.trans (xσ46.trans (xσ48.trans (xσ50.trans (xσ52.trans (xσ54.trans (xσ56.trans (xσ57.trans xτ117)))))))))))) (kp179.trans hX0) (kX.up (xσ39.trans (xσ40.trans (xσ41.trans (xσ42.trans (xσ46.trans (xσ48.trans (xσ50.trans (xσ52.trans (xσ54.trans (xσ56.trans (xσ57.trans xτ117)))))))))))) (((xσ39.trans (xσ40.trans (xσ41.trans (xσ42.trans (xσ46.trans (xσ48.trans (xσ50.trans (xσ52.trans (xσ54.trans (xσ56.trans (xσ57.trans xτ117))))))))))) tx kX.1).2.2.trans gX) (by (first | omega | with_reducible assumption | with_reducible exact rng_toInt _ | with_reducible exact rng_wr _ | (unfold rng; omega) | (unfold rng at *; omega) | assumption)) (by (first | omega | with_reducible assumption | with_reducible exact rng_toInt _ | with_reducible exact rng_wr _ | (unfold rng; omega) | (unfold rng at *; omega) | assumption)) (fun σ65 _ iσ65 cσ65 pσ65 => ?_) (fun σx LLx Nx nux E ix cx ux px => hX σx LLx Nx nux E ix (fτ117.tr (cx.mo (by decide))) (nu_τ117.x ux) (by first | exact px | exact ⟨by have := px.1; omega, px.2⟩ | (first | omega | with_reducible assumption | with_reducible exact rng_toInt _ | with_reducible exact rng_wr _ | (unfold rng; omega) | (unfold rng at *; omega) | assumption)))
            intro xσ65
            have fσ65 : Fx [261, 262, 263, 323, 324, 326, 327, 333, 336, 386, 387, 388, 389, 390, 6464, 8320] gr σ σ65 := fτ117.tr (cσ65.mo (by decide))
            have oxcσ65 : OX o σ σ65 := oxcτ117.tr (OX.fx cσ65 (by decide) (by decide)) (xσ39.trans (xσ40.trans (xσ41.trans (xσ42.trans (xσ46.trans (xσ48.trans (xσ50.trans (xσ52.trans (xσ54.trans (xσ56.trans (xσ57.trans xτ117)))))))))))
            have kp190 : gI σ65 J 1 = gI τ117 J 1 := (cσ65.O (kJ.up (xσ39.trans (xσ40.trans (xσ41.trans (xσ42.trans (xσ46.trans (xσ48.trans (xσ50.trans (xσ52.trans (xσ54.trans (xσ56.trans (xσ57.trans xτ117)))))))))))) (by decide)).1
            have kp191 : gI σ65 o 8 = gI τ117 o 8 := (cσ65.O (ko.up (xσ39.trans (xσ40.trans (xσ41.trans (xσ42.trans (xσ46.trans (xσ48.trans (xσ50.trans (xσ52.trans (xσ54.trans (xσ56.trans (xσ57.trans xτ117)))))))))))) (by decide)).1
            have kp192 : gP σ65 J 0 = gP τ117 J 0 := (cσ65.O (kJ.up (xσ39.trans (xσ40.trans (xσ41.trans (xσ42.trans (xσ46.trans (xσ48.trans (xσ50.trans (xσ52.trans (xσ54.trans (xσ56.trans (xσ57.trans xτ117)))))))))))) (by decide)).2.1
            have kp193 : gP σ65 th 0 = gP τ117 th 0 := (cσ65.O (kth.up (xσ39.trans (xσ40.trans (xσ41.trans (xσ42.trans (xσ46.trans (xσ48.trans (xσ50.trans (xσ52.trans (xσ54.trans (xσ56.trans (xσ57.trans xτ117)))))))))))) (by decide)).2.1
            have kp194 : gP σ65 th 7 = gP τ117 th 7 := (cσ65.O (kth.up (xσ39.trans (xσ40.trans (xσ41.trans (xσ42.trans (xσ46.trans (xσ48.trans (xσ50.trans (xσ52.trans (xσ54.trans (xσ56.trans (xσ57.trans xτ117)))))))))))) (by decide)).2.1
            have kp195 : gP σ65 th 8 = gP τ117 th 8 := (cσ65.O (kth.up (xσ39.trans (xσ40.trans (xσ41.trans (xσ42.trans (xσ46.trans (xσ48.trans (xσ50.trans (xσ52.trans (xσ54.trans (xσ56.trans (xσ57.trans xτ117)))))))))))) (by decide)).2.1
            have kp196 : gI σ65 J 7 = gI τ117 J 7 := (cσ65.O (kJ.up (xσ39.trans (xσ40.trans (xσ41.trans (xσ42.trans (xσ46.trans (xσ48.trans (xσ50.trans (xσ52.trans (xσ54.trans (xσ56.trans (xσ57.trans xτ117)))))))))))) (by decide)).1
            have kp197 : gI σ65 J 2 = gI τ117 J 2 := (cσ65.O (kJ.up (xσ39.trans (xσ40.trans (xσ41.trans (xσ42.trans (xσ46.trans (xσ48.trans (xσ50.trans (xσ52.trans (xσ54.trans (xσ56.trans (xσ57.trans xτ117)))))))))))) (by decide)).1
            have kp198 : gI σ65 o 3 = gI τ117 o 3 := (cσ65.O (ko.up (xσ39.trans (xσ40.trans (xσ41.trans (xσ42.trans (xσ46.trans (xσ48.trans (xσ50.trans (xσ52.trans (xσ54.trans (xσ56.trans (xσ57.trans xτ117)))))))))))) (by decide)).1
            have kp199 : gI σ65 o 4 = gI τ117 o 4 := (cσ65.O (ko.up (xσ39.trans (xσ40.trans (xσ41.trans (xσ42.trans (xσ46.trans (xσ48.trans (xσ50.trans (xσ52.trans (xσ54.trans (xσ56.trans (xσ57.trans xτ117)))))))))))) (by decide)).1
            have kp200 : gI σ65 o 6 = gI τ117 o 6 := (cσ65.O (ko.up (xσ39.trans (xσ40.trans (xσ41.trans (xσ42.trans (xσ46.trans (xσ48.trans (xσ50.trans (xσ52.trans (xσ54.trans (xσ56.trans (xσ57.trans xτ117)))))))))))) (by decide)).1
            have kp201 : gI σ65 o 7 = gI τ117 o 7 := (cσ65.O (ko.up (xσ39.trans (xσ40.trans (xσ41.trans (xσ42.trans (xσ46.trans (xσ48.trans (xσ50.trans (xσ52.trans (xσ54.trans (xσ56.trans (xσ57.trans xτ117)))))))))))) (by decide)).1
            have kp202 : gI σ65 o 9 = gI τ117 o 9 := (cσ65.O (ko.up (xσ39.trans (xσ40.trans (xσ41.trans (xσ42.trans (xσ46.trans (xσ48.trans (xσ50.trans (xσ52.trans (xσ54.trans (xσ56.trans (xσ57.trans xτ117)))))))))))) (by decide)).1
            have r5σ65 := I_6_5 iσ65.1 (kth.up (xσ39.trans (xσ40.trans (xσ41.trans (xσ42.trans (xσ46.trans (xσ48.trans (xσ50.trans (xσ52.trans (xσ54.trans (xσ56.trans (xσ57.trans (xτ117.trans xσ65)))))))))))))
            refine i_X6_number iσ65 (kth.up (xσ39.trans (xσ40.trans (xσ41.trans (xσ42.trans (xσ46.trans (xσ48.trans (xσ50.trans (xσ52.trans (xσ54.trans (xσ56.trans (xσ57.trans (xτ117.trans xσ65))))))))))))) (by (first | omega | with_reducible assumption | with_reducible exact rng_toInt _ | with_reducible exact rng_wr _ | (unfold rng; omega) | (unfold rng at *; omega) | assumption)) (by (first | omega | with_reducible assumption | with_reducible exact rng_toInt _ | with_reducible exact rng_wr _ | (unfold rng; omega) | (unfold rng at *; omega) | assumption)) (fun σ66 r67 iσ66 cσ66 pσ66 => ?_) (fun σx LLx Nx nux E ix cx ux px => hX σx LLx Nx nux E ix (fσ65.tr (cx.mo (by decide))) (nu_τ117.x ux) (by first | exact px | exact ⟨by have := px.1; omega, px.2⟩ | (first | omega | with_reducible assumption | with_reducible exact rng_toInt _ | with_reducible exact rng_wr _ | (unfold rng; omega) | (unfold rng at *; omega) | assumption)))
            intro xσ66
            have fσ66 : Fx [261, 262, 263, 323, 324, 326, 327, 333, 336, 386, 387, 388, 389, 390, 6464, 8320] gr σ σ66 := fσ65.tr (cσ66.mo (by decide))
            have oxcσ66 : OX o σ σ66 := oxcσ65.tr (OX.fx cσ66 (by decide) (by decide)) (xσ39.trans (xσ40.trans (xσ41.trans (xσ42.trans (xσ46.trans (xσ48.trans (xσ50.trans (xσ52.trans (xσ54.trans (xσ56.trans (xσ57.trans (xτ117.trans xσ65))))))))))))
            have kp203 : gI σ66 J 1 = gI σ65 J 1 := (cσ66.O (kJ.up (xσ39.trans (xσ40.trans (xσ41.trans (xσ42.trans (xσ46.trans (xσ48.trans (xσ50.trans (xσ52.trans (xσ54.trans (xσ56.trans (xσ57.trans (xτ117.trans xσ65))))))))))))) (by decide)).1
            have kp204 : gI σ66 o 8 = gI σ65 o 8 := (cσ66.O (ko.up (xσ39.trans (xσ40.trans (xσ41.trans (xσ42.trans (xσ46.trans (xσ48.trans (xσ50.trans (xσ52.trans (xσ54.trans (xσ56.trans (xσ57.trans (xτ117.trans xσ65))))))))))))) (by decide)).1
            have kp205 : gP σ66 J 0 = gP σ65 J 0 := (cσ66.O (kJ.up (xσ39.trans (xσ40.trans (xσ41.trans (xσ42.trans (xσ46.trans (xσ48.trans (xσ50.trans (xσ52.trans (xσ54.trans (xσ56.trans (xσ57.trans (xτ117.trans xσ65))))))))))))) (by decide)).2.1
            have kp206 : gP σ66 th 0 = gP σ65 th 0 := (cσ66.O (kth.up (xσ39.trans (xσ40.trans (xσ41.trans (xσ42.trans (xσ46.trans (xσ48.trans (xσ50.trans (xσ52.trans (xσ54.trans (xσ56.trans (xσ57.trans (xτ117.trans xσ65))))))))))))) (by decide)).2.1
            have kp207 : gP σ66 th 7 = gP σ65 th 7 := (cσ66.O (kth.up (xσ39.trans (xσ40.trans (xσ41.trans (xσ42.trans (xσ46.trans (xσ48.trans (xσ50.trans (xσ52.trans (xσ54.trans (xσ56.trans (xσ57.trans (xτ117.trans xσ65))))))))))))) (by decide)).2.1
            have kp208 : gP σ66 th 8 = gP σ65 th 8 := (cσ66.O (kth.up (xσ39.trans (xσ40.trans (xσ41.trans (xσ42.trans (xσ46.trans (xσ48.trans (xσ50.trans (xσ52.trans (xσ54.trans (xσ56.trans (xσ57.trans (xτ117.trans xσ65))))))))))))) (by decide)).2.1
            have kp209 : gI σ66 th 2 = gI σ65 th 2 := (cσ66.O (kth.up (xσ39.trans (xσ40.trans (xσ41.trans (xσ42.trans (xσ46.trans (xσ48.trans (xσ50.trans (xσ52.trans (xσ54.trans (xσ56.trans (xσ57.trans (xτ117.trans xσ65))))))))))))) (by decide)).1
            have kp210 : gI σ66 th 3 = gI σ65 th 3 := (cσ66.O (kth.up (xσ39.trans (xσ40.trans (xσ41.trans (xσ42.trans (xσ46.trans (xσ48.trans (xσ50.trans (xσ52.trans (xσ54.trans (xσ56.trans (xσ57.trans (xτ117.trans xσ65))))))))))))) (by decide)).1
            have kp211 : gI σ66 th 5 = gI σ65 th 5 := (cσ66.O (kth.up (xσ39.trans (xσ40.trans (xσ41.trans (xσ42.trans (xσ46.trans (xσ48.trans (xσ50.trans (xσ52.trans (xσ54.trans (xσ56.trans (xσ57.trans (xτ117.trans xσ65))))))))))))) (by decide)).1
            have kp212 : gI σ66 J 7 = gI σ65 J 7 := (cσ66.O (kJ.up (xσ39.trans (xσ40.trans (xσ41.trans (xσ42.trans (xσ46.trans (xσ48.trans (xσ50.trans (xσ52.trans (xσ54.trans (xσ56.trans (xσ57.trans (xτ117.trans xσ65))))))))))))) (by decide)).1
            have kp213 : gI σ66 J 2 = gI σ65 J 2 := (cσ66.O (kJ.up (xσ39.trans (xσ40.trans (xσ41.trans (xσ42.trans (xσ46.trans (xσ48.trans (xσ50.trans (xσ52.trans (xσ54.trans (xσ56.trans (xσ57.trans (xτ117.trans xσ65))))))))))))) (by decide)).1
            have kp214 : gI σ66 o 3 = gI σ65 o 3 := (cσ66.O (ko.up (xσ39.trans (xσ40.trans (xσ41.trans (xσ42.trans (xσ46.trans (xσ48.trans (xσ50.trans (xσ52.trans (xσ54.trans (xσ56.trans (xσ57.trans (xτ117.trans xσ65))))))))))))) (by decide)).1
            have kp215 : gI σ66 o 4 = gI σ65 o 4 := (cσ66.O (ko.up (xσ39.trans (xσ40.trans (xσ41.trans (xσ42.trans (xσ46.trans (xσ48.trans (xσ50.trans (xσ52.trans (xσ54.trans (xσ56.trans (xσ57.trans (xτ117.trans xσ65))))))))))))) (by decide)).1
            have kp216 : gI σ66 o 6 = gI σ65 o 6 := (cσ66.O (ko.up (xσ39.trans (xσ40.trans (xσ41.trans (xσ42.trans (xσ46.trans (xσ48.trans (xσ50.trans (xσ52.trans (xσ54.trans (xσ56.trans (xσ57.trans (xτ117.trans xσ65))))))))))))) (by decide)).1
            have kp217 : gI σ66 o 7 = gI σ65 o 7 := (cσ66.O (ko.up (xσ39.trans (xσ40.trans (xσ41.trans (xσ42.trans (xσ46.trans (xσ48.trans (xσ50.trans (xσ52.trans (xσ54.trans (xσ56.trans (xσ57.trans (xτ117.trans xσ65))))))))))))) (by decide)).1
            have kp218 : gI σ66 o 9 = gI σ65 o 9 := (cσ66.O (ko.up (xσ39.trans (xσ40.trans (xσ41.trans (xσ42.trans (xσ46.trans (xσ48.trans (xσ50.trans (xσ52.trans (xσ54.trans (xσ56.trans (xσ57.trans (xτ117.trans xσ65))))))))))))) (by decide)).1
            refine ⟨o, (kp195.trans (kp181.trans h8)), fun kk_o_4 => ?_⟩
            intro σ69 eσ69
            have xσ69 : Ext σ66 σ69 := by rw [eσ69]; exact fun _ h => ⟨h, rfl, rfl⟩
            have iσ69 : IV σ69 pl gq ci gr nc ot LL N nut117 := by rw [eσ69]; exact iσ66.wSp (ko.up (xσ39.trans (xσ40.trans (xσ41.trans (xσ42.trans (xσ46.trans (xσ48.trans (xσ50.trans (xσ52.trans (xσ54.trans (xσ56.trans (xσ57.trans (xτ117.trans (xσ65.trans xσ66)))))))))))))) (fun i hi => by omega) (by decide) (show (-1000 : Int) ≤ r67 ∧ r67 ≤ 1000 from ⟨by omega, by omega⟩)
            have fσ69 : Fx [261, 262, 263, 323, 324, 326, 327, 333, 336, 386, 387, 388, 389, 390, 6464, 8320] gr σ σ69 := fσ66.tr (Sk.fx (by rw [eσ69]; exact Sk.pI (by rw [fcdO (ko.up (xσ39.trans (xσ40.trans (xσ41.trans (xσ42.trans (xσ46.trans (xσ48.trans (xσ50.trans (xσ52.trans (xσ54.trans (xσ56.trans (xσ57.trans (xτ117.trans (xσ65.trans xσ66)))))))))))))) (by decide)]; decide)))
            have oxcσ69 : OX o σ σ69 := oxcσ66.tr (by rw [eσ69]; exact OX.pI (ko.up (xσ39.trans (xσ40.trans (xσ41.trans (xσ42.trans (xσ46.trans (xσ48.trans (xσ50.trans (xσ52.trans (xσ54.trans (xσ56.trans (xσ57.trans (xτ117.trans (xσ65.trans xσ66)))))))))))))) (Or.inr rfl)) (xσ39.trans (xσ40.trans (xσ41.trans (xσ42.trans (xσ46.trans (xσ48.trans (xσ50.trans (xσ52.trans (xσ54.trans (xσ56.trans (xσ57.trans (xτ117.trans (xσ65.trans xσ66)))))))))))))
            have wσ69 : gI σ69 o 16 = r67 := by rw [eσ69]; exact up2_s _ _ _ _
            have kp219 : gI σ69 J 1 = gI σ66 J 1 := by rw [eσ69]; exact up2_n _ _ (fun q => absurd q.2 (by decide))
            have kp220 : gI σ69 o 8 = gI σ66 o 8 := by rw [eσ69]; exact up2_n _ _ (fun q => absurd q.2 (by decide))
            have kp221 : gP σ69 J 0 = gP σ66 J 0 := by rw [eσ69]
            have kp222 : gP σ69 th 0 = gP σ66 th 0 := by rw [eσ69]
            have kp223 : gP σ69 th 7 = gP σ66 th 7 := by rw [eσ69]
            have kp224 : gP σ69 th 8 = gP σ66 th 8 := by rw [eσ69]
            have kp225 : gI σ69 th 2 = gI σ66 th 2 := by rw [eσ69]; exact up2_n _ _ (fun q => absurd q.2 (by decide))
            have kp226 : gI σ69 th 3 = gI σ66 th 3 := by rw [eσ69]; exact up2_n _ _ (fun q => absurd q.2 (by decide))
            have kp227 : gI σ69 th 5 = gI σ66 th 5 := by rw [eσ69]; exact up2_n _ _ (fun q => absurd q.2 (by decide))
            have kp228 : gI σ69 J 7 = gI σ66 J 7 := by rw [eσ69]; exact up2_n _ _ (fun q => absurd q.2 (by decide))
            have kp229 : gI σ69 J 2 = gI σ66 J 2 := by rw [eσ69]; exact up2_n _ _ (fun q => absurd q.2 (by decide))
            have kp230 : gI σ69 o 3 = gI σ66 o 3 := by rw [eσ69]; exact up2_n _ _ (fun q => absurd q.2 (by decide))
            have kp231 : gI σ69 o 4 = gI σ66 o 4 := by rw [eσ69]; exact up2_n _ _ (fun q => absurd q.2 (by decide))
            have kp232 : gI σ69 o 6 = gI σ66 o 6 := by rw [eσ69]; exact up2_n _ _ (fun q => absurd q.2 (by decide))
            have kp233 : gI σ69 o 7 = gI σ66 o 7 := by rw [eσ69]; exact up2_n _ _ (fun q => absurd q.2 (by decide))
            have kp234 : gI σ69 o 9 = gI σ66 o 9 := by rw [eσ69]; exact up2_n _ _ (fun q => absurd q.2 (by decide))
            refine i_X6_next iσ69 (kth.up (xσ39.trans (xσ40.trans (xσ41.trans (xσ42.trans (xσ46.trans (xσ48.trans (xσ50.trans (xσ52.trans (xσ54.trans (xσ56.trans (xσ57.trans (xτ117.trans (xσ65.trans (xσ66.trans xσ69))))))))))))))) (kp222.trans (kp206.trans (kp193.trans (kp179.trans hX0)))) (kX.up (xσ39.trans (xσ40.trans (xσ41.trans (xσ42.trans (xσ46.trans (xσ48.trans (xσ50.trans (xσ52.trans (xσ54.trans (xσ56.trans (xσ57.trans (xτ117.trans (xσ65.trans (xσ66.trans xσ69))))))))))))))) (((xσ39.trans (xσ40.trans (xσ41.trans (xσ42.trans (xσ46.trans (xσ48.trans (xσ50.trans (xσ52.trans (xσ54.trans (xσ56.trans (xσ57.trans (xτ117.trans (xσ65.trans (xσ66.trans xσ69)))))))))))))) tx kX.1).2.2.trans gX) (by (first | omega | with_reducible assumption | with_reducible exact rng_toInt _ | with_reducible exact rng_wr _ | (unfold rng; omega) | (unfold rng at *; omega) | assumption)) (by (first | omega | with_reducible assumption | with_reducible exact rng_toInt _ | with_reducible exact rng_wr _ | (unfold rng; omega) | (unfold rng at *; omega) | assumption)) (fun σ70 _ iσ70 cσ70 pσ70 => ?_) (fun σx LLx Nx nux E ix cx ux px => hX σx LLx Nx nux E ix (fσ69.tr (cx.mo (by decide))) (nu_τ117.x ux) (by first | exact px | exact ⟨by have := px.1; omega, px.2⟩ | (first | omega | with_reducible assumption | with_reducible exact rng_toInt _ | with_reducible exact rng_wr _ | (unfold rng; omega) | (unfold rng at *; omega) | assumption)))
            intro xσ70
            have fσ70 : Fx [261, 262, 263, 323, 324, 326, 327, 333, 336, 386, 387, 388, 389, 390, 6464, 8320] gr σ σ70 := fσ69.tr (cσ70.mo (by decide))
            have oxcσ70 : OX o σ σ70 := oxcσ69.tr (OX.fx cσ70 (by decide) (by decide)) (xσ39.trans (xσ40.trans (xσ41.trans (xσ42.trans (xσ46.trans (xσ48.trans (xσ50.trans (xσ52.trans (xσ54.trans (xσ56.trans (xσ57.trans (xτ117.trans (xσ65.trans (xσ66.trans xσ69))))))))))))))
            have kp235 : gI σ70 J 1 = gI σ69 J 1 := (cσ70.O (kJ.up (xσ39.trans (xσ40.trans (xσ41.trans (xσ42.trans (xσ46.trans (xσ48.trans (xσ50.trans (xσ52.trans (xσ54.trans (xσ56.trans (xσ57.trans (xτ117.trans (xσ65.trans (xσ66.trans xσ69))))))))))))))) (by decide)).1
            have kp236 : gI σ70 o 16 = gI σ69 o 16 := (cσ70.O (ko.up (xσ39.trans (xσ40.trans (xσ41.trans (xσ42.trans (xσ46.trans (xσ48.trans (xσ50.trans (xσ52.trans (xσ54.trans (xσ56.trans (xσ57.trans (xτ117.trans (xσ65.trans (xσ66.trans xσ69))))))))))))))) (by decide)).1
            have kp237 : gI σ70 o 8 = gI σ69 o 8 := (cσ70.O (ko.up (xσ39.trans (xσ40.trans (xσ41.trans (xσ42.trans (xσ46.trans (xσ48.trans (xσ50.trans (xσ52.trans (xσ54.trans (xσ56.trans (xσ57.trans (xτ117.trans (xσ65.trans (xσ66.trans xσ69))))))))))))))) (by decide)).1
            have kp238 : gP σ70 J 0 = gP σ69 J 0 := (cσ70.O (kJ.up (xσ39.trans (xσ40.trans (xσ41.trans (xσ42.trans (xσ46.trans (xσ48.trans (xσ50.trans (xσ52.trans (xσ54.trans (xσ56.trans (xσ57.trans (xτ117.trans (xσ65.trans (xσ66.trans xσ69))))))))))))))) (by decide)).2.1
            have kp239 : gP σ70 th 0 = gP σ69 th 0 := (cσ70.O (kth.up (xσ39.trans (xσ40.trans (xσ41.trans (xσ42.trans (xσ46.trans (xσ48.trans (xσ50.trans (xσ52.trans (xσ54.trans (xσ56.trans (xσ57.trans (xτ117.trans (xσ65.trans (xσ66.trans xσ69))))))))))))))) (by decide)).2.1
            have kp240 : gP σ70 th 7 = gP σ69 th 7 := (cσ70.O (kth.up (xσ39.trans (xσ40.trans (xσ41.trans (xσ42.trans (xσ46.trans (xσ48.trans (xσ50.trans (xσ52.trans (xσ54.trans (xσ56.trans (xσ57.trans (xτ117.trans (xσ65.trans (xσ66.trans xσ69))))))))))))))) (by decide)).2.1
            have kp241 : gP σ70 th 8 = gP σ69 th 8 := (cσ70.O (kth.up (xσ39.trans (xσ40.trans (xσ41.trans (xσ42.trans (xσ46.trans (xσ48.trans (xσ50.trans (xσ52.trans (xσ54.trans (xσ56.trans (xσ57.trans (xτ117.trans (xσ65.trans (xσ66.trans xσ69))))))))))))))) (by decide)).2.1
            have kp242 : gI σ70 J 7 = gI σ69 J 7 := (cσ70.O (kJ.up (xσ39.trans (xσ40.trans (xσ41.trans (xσ42.trans (xσ46.trans (xσ48.trans (xσ50.trans (xσ52.trans (xσ54.trans (xσ56.trans (xσ57.trans (xτ117.trans (xσ65.trans (xσ66.trans xσ69))))))))))))))) (by decide)).1
            have kp243 : gI σ70 J 2 = gI σ69 J 2 := (cσ70.O (kJ.up (xσ39.trans (xσ40.trans (xσ41.trans (xσ42.trans (xσ46.trans (xσ48.trans (xσ50.trans (xσ52.trans (xσ54.trans (xσ56.trans (xσ57.trans (xτ117.trans (xσ65.trans (xσ66.trans xσ69))))))))))))))) (by decide)).1
            have kp244 : gI σ70 o 3 = gI σ69 o 3 := (cσ70.O (ko.up (xσ39.trans (xσ40.trans (xσ41.trans (xσ42.trans (xσ46.trans (xσ48.trans (xσ50.trans (xσ52.trans (xσ54.trans (xσ56.trans (xσ57.trans (xτ117.trans (xσ65.trans (xσ66.trans xσ69))))))))))))))) (by decide)).1
            have kp245 : gI σ70 o 4 = gI σ69 o 4 := (cσ70.O (ko.up (xσ39.trans (xσ40.trans (xσ41.trans (xσ42.trans (xσ46.trans (xσ48.trans (xσ50.trans (xσ52.trans (xσ54.trans (xσ56.trans (xσ57.trans (xτ117.trans (xσ65.trans (xσ66.trans xσ69))))))))))))))) (by decide)).1
            have kp246 : gI σ70 o 6 = gI σ69 o 6 := (cσ70.O (ko.up (xσ39.trans (xσ40.trans (xσ41.trans (xσ42.trans (xσ46.trans (xσ48.trans (xσ50.trans (xσ52.trans (xσ54.trans (xσ56.trans (xσ57.trans (xτ117.trans (xσ65.trans (xσ66.trans xσ69))))))))))))))) (by decide)).1
            have kp247 : gI σ70 o 7 = gI σ69 o 7 := (cσ70.O (ko.up (xσ39.trans (xσ40.trans (xσ41.trans (xσ42.trans (xσ46.trans (xσ48.trans (xσ50.trans (xσ52.trans (xσ54.trans (xσ56.trans (xσ57.trans (xτ117.trans (xσ65.trans (xσ66.trans xσ69))))))))))))))) (by decide)).1
            have kp248 : gI σ70 o 9 = gI σ69 o 9 := (cσ70.O (ko.up (xσ39.trans (xσ40.trans (xσ41.trans (xσ42.trans (xσ46.trans (xσ48.trans (xσ50.trans (xσ52.trans (xσ54.trans (xσ56.trans (xσ57.trans (xτ117.trans (xσ65.trans (xσ66.trans xσ69))))))))))))))) (by decide)).1
            have r5σ70 := I_6_5 iσ70.1 (kth.up (xσ39.trans (xσ40.trans (xσ41.trans (xσ42.trans (xσ46.trans (xσ48.trans (xσ50.trans (xσ52.trans (xσ54.trans (xσ56.trans (xσ57.trans (xτ117.trans (xσ65.trans (xσ66.trans (xσ69.trans xσ70))))))))))))))))
            exact hQ σ70 nut117 () iσ70 fσ70 (nu_τ117) oxcσ70 (⟨by omega, by omega, ⟨by omega, (fun h => absurd h (by omega)), (fun h => absurd h (by omega))⟩⟩)
          · rw [if_neg hc189]
            unfold w_X6_matchText_122
            refine i_X6_newValue iτ117 (kth.up (xσ39.trans (xσ40.trans (xσ41.trans (xσ42.trans (xσ46.trans (xσ48.trans (xσ50.trans (xσ52.trans (xσ54.trans (xσ56.trans (xσ57.trans xτ117)))))))))))) (kp180.trans h7) (kJ.up (xσ39.trans (xσ40.trans (xσ41.trans (xσ42.trans (xσ46.trans (xσ48.trans (xσ50.trans (xσ52.trans (xσ54.trans (xσ56.trans (xσ57.trans xτ117)))))))))))) (kp181.trans h8) (ko.up (xσ39.trans (xσ40.trans (xσ41.trans (xσ42.trans (xσ46.trans (xσ48.trans (xσ50.trans (xσ52.trans (xσ54.trans (xσ56.trans (xσ57.trans xτ117)))))))))))) (by (first | omega | with_reducible assumption | with_reducible exact rng_toInt _ | with_reducible exact rng_wr _ | (unfold rng; omega) | (unfold rng at *; omega) | assumption)) (by (first | omega | with_reducible assumption | with_reducible exact rng_toInt _ | with_reducible exact rng_wr _ | (unfold rng; omega) | (unfold rng at *; omega) | assumption)) (by (first | omega | with_reducible assumption | with_reducible exact rng_toInt _ | with_reducible exact rng_wr _ | (unfold rng; omega) | (unfold rng at *; omega) | assumption)) (by (first | omega | with_reducible assumption | with_reducible exact rng_toInt _ | with_reducible exact rng_wr _ | (unfold rng; omega) | (unfold rng at *; omega) | assumption)) (fun σ58 _ iσ58 cσ58 oxσ58 pσ58 => ?_)
            intro xσ58
            have fσ58 : Fx [261, 262, 263, 323, 324, 326, 327, 333, 336, 386, 387, 388, 389, 390, 6464, 8320] gr σ σ58 := fτ117.tr (cσ58.mo (by decide))
            have oxcσ58 : OX o σ σ58 := oxcτ117.tr oxσ58 (xσ39.trans (xσ40.trans (xσ41.trans (xσ42.trans (xσ46.trans (xσ48.trans (xσ50.trans (xσ52.trans (xσ54.trans (xσ56.trans (xσ57.trans xτ117)))))))))))
            have kp249 : gI σ58 J 1 = gI τ117 J 1 := (cσ58.O (kJ.up (xσ39.trans (xσ40.trans (xσ41.trans (xσ42.trans (xσ46.trans (xσ48.trans (xσ50.trans (xσ52.trans (xσ54.trans (xσ56.trans (xσ57.trans xτ117)))))))))))) (by decide)).1
            have kp250 : gI σ58 o 8 = gI τ117 o 8 := (cσ58.O (ko.up (xσ39.trans (xσ40.trans (xσ41.trans (xσ42.trans (xσ46.trans (xσ48.trans (xσ50.trans (xσ52.trans (xσ54.trans (xσ56.trans (xσ57.trans xτ117)))))))))))) (by decide)).1
            have kp251 : gP σ58 J 0 = gP τ117 J 0 := (cσ58.O (kJ.up (xσ39.trans (xσ40.trans (xσ41.trans (xσ42.trans (xσ46.trans (xσ48.trans (xσ50.trans (xσ52.trans (xσ54.trans (xσ56.trans (xσ57.trans xτ117)))))))))))) (by decide)).2.1
            have kp252 : gP σ58 th 0 = gP τ117 th 0 := (cσ58.O (kth.up (xσ39.trans (xσ40.trans (xσ41.trans (xσ42.trans (xσ46.trans (xσ48.trans (xσ50.trans (xσ52.trans (xσ54.trans (xσ56.trans (xσ57.trans xτ117)))))))))))) (by decide)).2.1
            have kp253 : gP σ58 th 7 = gP τ117 th 7 := (cσ58.O (kth.up (xσ39.trans (xσ40.trans (xσ41.trans (xσ42.trans (xσ46.trans (xσ48.trans (xσ50.trans (xσ52.trans (xσ54.trans (xσ56.trans (xσ57.trans xτ117)))))))))))) (by decide)).2.1
            have kp254 : gP σ58 th 8 = gP τ117 th 8 := (cσ58.O (kth.up (xσ39.trans (xσ40.trans (xσ41.trans (xσ42.trans (xσ46.trans (xσ48.trans (xσ50.trans (xσ52.trans (xσ54.trans (xσ56.trans (xσ57.trans xτ117)))))))))))) (by decide)).2.1
            have kp255 : gI σ58 th 2 = gI τ117 th 2 := (cσ58.O (kth.up (xσ39.trans (xσ40.trans (xσ41.trans (xσ42.trans (xσ46.trans (xσ48.trans (xσ50.trans (xσ52.trans (xσ54.trans (xσ56.trans (xσ57.trans xτ117)))))))))))) (by decide)).1
            have kp256 : gI σ58 th 3 = gI τ117 th 3 := (cσ58.O (kth.up (xσ39.trans (xσ40.trans (xσ41.trans (xσ42.trans (xσ46.trans (xσ48.trans (xσ50.trans (xσ52.trans (xσ54.trans (xσ56.trans (xσ57.trans xτ117)))))))))))) (by decide)).1
            have kp257 : gI σ58 th 5 = gI τ117 th 5 := (cσ58.O (kth.up (xσ39.trans (xσ40.trans (xσ41.trans (xσ42.trans (xσ46.trans (xσ48.trans (xσ50.trans (xσ52.trans (xσ54.trans (xσ56.trans (xσ57.trans xτ117)))))))))))) (by decide)).1
            have kp258 : gI σ58 J 7 = gI τ117 J 7 := (cσ58.O (kJ.up (xσ39.trans (xσ40.trans (xσ41.trans (xσ42.trans (xσ46.trans (xσ48.trans (xσ50.trans (xσ52.trans (xσ54.trans (xσ56.trans (xσ57.trans xτ117)))))))))))) (by decide)).1
            have kp259 : gI σ58 J 2 = gI τ117 J 2 := (cσ58.O (kJ.up (xσ39.trans (xσ40.trans (xσ41.trans (xσ42.trans (xσ46.trans (xσ48.trans (xσ50.trans (xσ52.trans (xσ54.trans (xσ56.trans (xσ57.trans xτ117)))))))))))) (by decide)).1
            have kp260 : gI σ58 o 3 = gI τ117 o 3 := (cσ58.O (ko.up (xσ39.trans (xσ40.trans (xσ41.trans (xσ42.trans (xσ46.trans (xσ48.trans (xσ50.trans (xσ52.trans (xσ54.trans (xσ56.trans (xσ57.trans xτ117)))))))))))) (by decide)).1
            have kp261 : gI σ58 o 6 = gI τ117 o 6 := (cσ58.O (ko.up (xσ39.trans (xσ40.trans (xσ41.trans (xσ42.trans (xσ46.trans (xσ48.trans (xσ50.trans (xσ52.trans (xσ54.trans (xσ56.trans (xσ57.trans xτ117)))))))))))) (by decide)).1
            have kp262 : gI σ58 o 7 = gI τ117 o 7 := (cσ58.O (ko.up (xσ39.trans (xσ40.trans (xσ41.trans (xσ42.trans (xσ46.trans (xσ48.trans (xσ50.trans (xσ52.trans (xσ54.trans (xσ56.trans (xσ57.trans xτ117)))))))))))) (by decide)).1
            have kp263 : gI σ58 o 9 = gI τ117 o 9 := (cσ58.O (ko.up (xσ39.trans (xσ40.trans (xσ41.trans (xσ42.trans (xσ46.trans (xσ48.trans (xσ50.trans (xσ52.trans (xσ54.trans (xσ56.trans (xσ57.trans xτ117)))))))))))) (by decide)).1
            refine i_X6_value iσ58 (kth.up (xσ39.trans (xσ40.trans (xσ41.trans (xσ42.trans (xσ46.trans (xσ48.trans (xσ50.trans (xσ52.trans (xσ54.trans (xσ56.trans (xσ57.trans (xτ117.trans xσ58))))))))))))) (kp252.trans (kp179.trans hX0)) (kX.up (xσ39.trans (xσ40.trans (xσ41.trans (xσ42.trans (xσ46.trans (xσ48.trans (xσ50.trans (xσ52.trans (xσ54.trans (xσ56.trans (xσ57.trans (xτ117.trans xσ58))))))))))))) (((xσ39.trans (xσ40.trans (xσ41.trans (xσ42.trans (xσ46.trans (xσ48.trans (xσ50.trans (xσ52.trans (xσ54.trans (xσ56.trans (xσ57.trans (xτ117.trans xσ58)))))))))))) tx kX.1).2.2.trans gX) (kp253.trans (kp180.trans h7)) (kJ.up (xσ39.trans (xσ40.trans (xσ41.trans (xσ42.trans (xσ46.trans (xσ48.trans (xσ50.trans (xσ52.trans (xσ54.trans (xσ56.trans (xσ57.trans (xτ117.trans xσ58))))))))))))) (kp254.trans (kp181.trans h8)) (ko.up (xσ39.trans (xσ40.trans (xσ41.trans (xσ42.trans (xσ46.trans (xσ48.trans (xσ50.trans (xσ52.trans (xσ54.trans (xσ56.trans (xσ57.trans (xτ117.trans xσ58))))))))))))) (by (first | omega | with_reducible assumption | with_reducible exact rng_toInt _ | with_reducible exact rng_wr _ | (unfold rng; omega) | (unfold rng at *; omega) | assumption)) (by (first | omega | with_reducible assumption | with_reducible exact rng_toInt _ | with_reducible exact rng_wr _ | (unfold rng; omega) | (unfold rng at *; omega) | assumption)) (by (first | omega | with_reducible assumption | with_reducible exact rng_toInt _ | with_reducible exact rng_wr _ | (unfold rng; omega) | (unfold rng at *; omega) | assumption)) (by (first | omega | with_reducible assumption | with_reducible exact rng_toInt _ | with_reducible exact rng_wr _ | (unfold rng; omega) | (unfold rng at *; omega) | assumption)) (by (first | omega | with_reducible assumption | with_reducible exact rng_toInt _ | with_reducible exact rng_wr _ | (unfold rng; omega) | (unfold rng at *; omega) | assumption)) (by (first | omega | with_reducible assumption | with_reducible exact rng_toInt _ | with_reducible exact rng_wr _ | (unfold rng; omega) | (unfold rng at *; omega) | assumption)) (by (first | omega | with_reducible assumption | with_reducible exact rng_toInt _ | with_reducible exact rng_wr _ | (unfold rng; omega) | (unfold rng at *; omega) | assumption)) (by (first | omega | with_reducible assumption | with_reducible exact rng_toInt _ | with_reducible exact rng_wr _ | (unfold rng; omega) | (unfold rng at *; omega) | assumption)) (by (first | omega | with_reducible assumption | with_reducible exact rng_toInt _ | with_reducible exact rng_wr _ | (unfold rng; omega) | (unfold rng at *; omega) | assumption)) (fun σ59 nuσ59 _ iσ59 cσ59 uσ59 pσ59 => ?_) (fun σx LLx Nx nux E ix cx ux px => hX σx LLx Nx nux E ix (fσ58.tr (cx.mo (by decide))) (nu_τ117.x ux) (by first | exact px | exact ⟨by have := px.1; omega, px.2⟩ | (first | omega | with_reducible assumption | with_reducible exact rng_toInt _ | with_reducible exact rng_wr _ | (unfold rng; omega) | (unfold rng at *; omega) | assumption)))
            intro xσ59
            have fσ59 : Fx [261, 262, 263, 323, 324, 326, 327, 333, 336, 386, 387, 388, 389, 390, 6464, 8320] gr σ σ59 := fσ58.tr (cσ59.mo (by decide))
            have oxcσ59 : OX o σ σ59 := oxcσ58.tr (OX.fx cσ59 (by decide) (by decide)) (xσ39.trans (xσ40.trans (xσ41.trans (xσ42.trans (xσ46.trans (xσ48.trans (xσ50.trans (xσ52.trans (xσ54.trans (xσ56.trans (xσ57.trans (xτ117.trans xσ58))))))))))))
            have nu_σ59 : NC nu nuσ59 := nu_τ117.tr uσ59
            have uσ59_0 := uσ59 0 (by decide) (by decide)
            have uσ59_1 := uσ59 1 (by decide) (by decide)
            have uσ59_2 := uσ59 2 (by decide) (by decide)
            have uσ59_5 := uσ59 5 (by decide) (by decide)
            have uσ59_15 := uσ59 15 (by decide) (by decide)
            have uσ59_16 := uσ59 16 (by decide) (by decide)
            have kp264 : gI σ59 J 1 = gI σ58 J 1 := (cσ59.O (kJ.up (xσ39.trans (xσ40.trans (xσ41.trans (xσ42.trans (xσ46.trans (xσ48.trans (xσ50.trans (xσ52.trans (xσ54.trans (xσ56.trans (xσ57.trans (xτ117.trans xσ58))))))))))))) (by decide)).1
            have kp265 : gI σ59 o 8 = gI σ58 o 8 := (cσ59.O (ko.up (xσ39.trans (xσ40.trans (xσ41.trans (xσ42.trans (xσ46.trans (xσ48.trans (xσ50.trans (xσ52.trans (xσ54.trans (xσ56.trans (xσ57.trans (xτ117.trans xσ58))))))))))))) (by decide)).1
            have kp266 : gP σ59 J 0 = gP σ58 J 0 := (cσ59.O (kJ.up (xσ39.trans (xσ40.trans (xσ41.trans (xσ42.trans (xσ46.trans (xσ48.trans (xσ50.trans (xσ52.trans (xσ54.trans (xσ56.trans (xσ57.trans (xτ117.trans xσ58))))))))))))) (by decide)).2.1
            have kp267 : gP σ59 th 0 = gP σ58 th 0 := (cσ59.O (kth.up (xσ39.trans (xσ40.trans (xσ41.trans (xσ42.trans (xσ46.trans (xσ48.trans (xσ50.trans (xσ52.trans (xσ54.trans (xσ56.trans (xσ57.trans (xτ117.trans xσ58))))))))))))) (by decide)).2.1
            have kp268 : gP σ59 th 7 = gP σ58 th 7 := (cσ59.O (kth.up (xσ39.trans (xσ40.trans (xσ41.trans (xσ42.trans (xσ46.trans (xσ48.trans (xσ50.trans (xσ52.trans (xσ54.trans (xσ56.trans (xσ57.trans (xτ117.trans xσ58))))))))))))) (by decide)).2.1
            have kp269 : gP σ59 th 8 = gP σ58 th 8 := (cσ59.O (kth.up (xσ39.trans (xσ40.trans (xσ41.trans (xσ42.trans (xσ46.trans (xσ48.trans (xσ50.trans (xσ52.trans (xσ54.trans (xσ56.trans (xσ57.trans (xτ117.trans xσ58))))))))))))) (by decide)).2.1
            have kp270 : gI σ59 J 2 = gI σ58 J 2 := (cσ59.O (kJ.up (xσ39.trans (xσ40.trans (xσ41.trans (xσ42.trans (xσ46.trans (xσ48.trans (xσ50.trans (xσ52.trans (xσ54.trans (xσ56.trans (xσ57.trans (xτ117.trans xσ58))))))))))))) (by decide)).1
            have kp271 : gI σ59 o 3 = gI σ58 o 3 := (cσ59.O (ko.up (xσ39.trans (xσ40.trans (xσ41.trans (xσ42.trans (xσ46.trans (xσ48.trans (xσ50.trans (xσ52.trans (xσ54.trans (xσ56.trans (xσ57.trans (xτ117.trans xσ58))))))))))))) (by decide)).1
            have kp272 : gI σ59 o 4 = gI σ58 o 4 := (cσ59.O (ko.up (xσ39.trans (xσ40.trans (xσ41.trans (xσ42.trans (xσ46.trans (xσ48.trans (xσ50.trans (xσ52.trans (xσ54.trans (xσ56.trans (xσ57.trans (xτ117.trans xσ58))))))))))))) (by decide)).1
            have kp273 : gI σ59 o 6 = gI σ58 o 6 := (cσ59.O (ko.up (xσ39.trans (xσ40.trans (xσ41.trans (xσ42.trans (xσ46.trans (xσ48.trans (xσ50.trans (xσ52.trans (xσ54.trans (xσ56.trans (xσ57.trans (xτ117.trans xσ58))))))))))))) (by decide)).1
            have kp274 : gI σ59 o 7 = gI σ58 o 7 := (cσ59.O (ko.up (xσ39.trans (xσ40.trans (xσ41.trans (xσ42.trans (xσ46.trans (xσ48.trans (xσ50.trans (xσ52.trans (xσ54.trans (xσ56.trans (xσ57.trans (xτ117.trans xσ58))))))))))))) (by decide)).1
            have kp275 : gI σ59 o 9 = gI σ58 o 9 := (cσ59.O (ko.up (xσ39.trans (xσ40.trans (xσ41.trans (xσ42.trans (xσ46.trans (xσ48.trans (xσ50.trans (xσ52.trans (xσ54.trans (xσ56.trans (xσ57.trans (xτ117.trans xσ58))))))))))))) (by decide)).1
            have r5σ59 := I_6_5 iσ59.1 (kth.up (xσ39.trans (xσ40.trans (xσ41.trans (xσ42.trans (xσ46.trans (xσ48.trans (xσ50.trans (xσ52.trans (xσ54.trans (xσ56.trans (xσ57.trans (xτ117.trans (xσ58.trans xσ59))))))))))))))
            refine ⟨J, (kp268.trans (kp253.trans (kp180.trans h7))), fun kk_J_1 => ?_⟩
            refine i_X4_emit iσ59 (kJ.up (xσ39.trans (xσ40.trans (xσ41.trans (xσ42.trans (xσ46.trans (xσ48.trans (xσ50.trans (xσ52.trans (xσ54.trans (xσ56.trans (xσ57.trans (xτ117.trans (xσ58.trans xσ59)))))))))))))) (by (first | omega | with_reducible assumption | with_reducible exact rng_toInt _ | with_reducible exact rng_wr _ | (unfold rng; omega) | (unfold rng at *; omega) | assumption)) (by (first | omega | with_reducible assumption | with_reducible exact rng_toInt _ | with_reducible exact rng_wr _ | (unfold rng; omega) | (unfold rng at *; omega) | assumption)) (by (first | omega | with_reducible assumption | with_reducible exact rng_toInt _ | with_reducible exact rng_wr _ | (unfold rng; omega) | (unfold rng at *; omega) | assumption)) (by (first | omega | with_reducible assumption | with_reducible exact rng_toInt _ | with_reducible exact rng_wr _ | (unfold rng; omega) | (unfold rng at *; omega) | assumption)) (fun σ60 nuσ60 r61 iσ60 cσ60 uσ60 pσ60 => ?_)
            intro xσ60
            have fσ60 : Fx [261, 262, 263, 323, 324, 326, 327, 333, 336, 386, 387, 388, 389, 390, 6464, 8320] gr σ σ60 := fσ59.tr (cσ60.mo (by decide))
            have oxcσ60 : OX o σ σ60 := oxcσ59.tr (OX.fx cσ60 (by decide) (by decide)) (xσ39.trans (xσ40.trans (xσ41.trans (xσ42.trans (xσ46.trans (xσ48.trans (xσ50.trans (xσ52.trans (xσ54.trans (xσ56.trans (xσ57.trans (xτ117.trans (xσ58.trans xσ59)))))))))))))
            have nu_σ60 : NC nu nuσ60 := nu_σ59.tr uσ60
            have uσ60_0 := uσ60 0 (by decide) (by decide)
            have uσ60_1 := uσ60 1 (by decide) (by decide)
            have uσ60_2 := uσ60 2 (by decide) (by decide)
            have uσ60_5 := uσ60 5 (by decide) (by decide)
            have uσ60_15 := uσ60 15 (by decide) (by decide)
            have uσ60_16 := uσ60 16 (by decide) (by decide)
            have kp276 : gI σ60 J 1 = gI σ59 J 1 := (cσ60.O (kJ.up (xσ39.trans (xσ40.trans (xσ41.trans (xσ42.trans (xσ46.trans (xσ48.trans (xσ50.trans (xσ52.trans (xσ54.trans (xσ56.trans (xσ57.trans (xτ117.trans (xσ58.trans xσ59)))))))))))))) (by decide)).1
            have kp277 : gI σ60 o 8 = gI σ59 o 8 := (cσ60.O (ko.up (xσ39.trans (xσ40.trans (xσ41.trans (xσ42.trans (xσ46.trans (xσ48.trans (xσ50.trans (xσ52.trans (xσ54.trans (xσ56.trans (xσ57.trans (xτ117.trans (xσ58.trans xσ59)))))))))))))) (by decide)).1
            have kp278 : gP σ60 J 0 = gP σ59 J 0 := (cσ60.O (kJ.up (xσ39.trans (xσ40.trans (xσ41.trans (xσ42.trans (xσ46.trans (xσ48.trans (xσ50.trans (xσ52.trans (xσ54.trans (xσ56.trans (xσ57.trans (xτ117.trans (xσ58.trans xσ59)))))))))))))) (by decide)).2.1
            have kp279 : gP σ60 th 0 = gP σ59 th 0 := (cσ60.O (kth.up (xσ39.trans (xσ40.trans (xσ41.trans (xσ42.trans (xσ46.trans (xσ48.trans (xσ50.trans (xσ52.trans (xσ54.trans (xσ56.trans (xσ57.trans (xτ117.trans (xσ58.trans xσ59)))))))))))))) (by decide)).2.1
            have kp280 : gP σ60 th 7 = gP σ59 th 7 := (cσ60.O (kth.up (xσ39.trans (xσ40.trans (xσ41.trans (xσ42.trans (xσ46.trans (xσ48.trans (xσ50.trans (xσ52.trans (xσ54.trans (xσ56.trans (xσ57.trans (xτ117.trans (xσ58.trans xσ59)))))))))))))) (by decide)).2.1
            have kp281 : gP σ60 th 8 = gP σ59 th 8 := (cσ60.O (kth.up (xσ39.trans (xσ40.trans (xσ41.trans (xσ42.trans (xσ46.trans (xσ48.trans (xσ50.trans (xσ52.trans (xσ54.trans (xσ56.trans (xσ57.trans (xτ117.trans (xσ58.trans xσ59)))))))))))))) (by decide)).2.1
            have kp282 : gI σ60 th 2 = gI σ59 th 2 := (cσ60.O (kth.up (xσ39.trans (xσ40.trans (xσ41.trans (xσ42.trans (xσ46.trans (xσ48.trans (xσ50.trans (xσ52.trans (xσ54.trans (xσ56.trans (xσ57.trans (xτ117.trans (xσ58.trans xσ59)))))))))))))) (by decide)).1
            have kp283 : gI σ60 th 3 = gI σ59 th 3 := (cσ60.O (kth.up (xσ39.trans (xσ40.trans (xσ41.trans (xσ42.trans (xσ46.trans (xσ48.trans (xσ50.trans (xσ52.trans (xσ54.trans (xσ56.trans (xσ57.trans (xτ117.trans (xσ58.trans xσ59)))))))))))))) (by decide)).1
            have kp284 : gI σ60 th 5 = gI σ59 th 5 := (cσ60.O (kth.up (xσ39.trans (xσ40.trans (xσ41.trans (xσ42.trans (xσ46.trans (xσ48.trans (xσ50.trans (xσ52.trans (xσ54.trans (xσ56.trans (xσ57.trans (xτ117.trans (xσ58.trans xσ59)))))))))))))) (by decide)).1
            have kp285 : gI σ60 J 2 = gI σ59 J 2 := (cσ60.O (kJ.up (xσ39.trans (xσ40.trans (xσ41.trans (xσ42.trans (xσ46.trans (xσ48.trans (xσ50.trans (xσ52.trans (xσ54.trans (xσ56.trans (xσ57.trans (xτ117.trans (xσ58.trans xσ59)))))))))))))) (by decide)).1
            have kp286 : gI σ60 o 3 = gI σ59 o 3 := (cσ60.O (ko.up (xσ39.trans (xσ40.trans (xσ41.trans (xσ42.trans (xσ46.trans (xσ48.trans (xσ50.trans (xσ52.trans (xσ54.trans (xσ56.trans (xσ57.trans (xτ117.trans (xσ58.trans xσ59)))))))))))))) (by decide)).1
            have kp287 : gI σ60 o 4 = gI σ59 o 4 := (cσ60.O (ko.up (xσ39.trans (xσ40.trans (xσ41.trans (xσ42.trans (xσ46.trans (xσ48.trans (xσ50.trans (xσ52.trans (xσ54.trans (xσ56.trans (xσ57.trans (xτ117.trans (xσ58.trans xσ59)))))))))))))) (by decide)).1
            have kp288 : gI σ60 o 6 = gI σ59 o 6 := (cσ60.O (ko.up (xσ39.trans (xσ40.trans (xσ41.trans (xσ42.trans (xσ46.trans (xσ48.trans (xσ50.trans (xσ52.trans (xσ54.trans (xσ56.trans (xσ57.trans (xτ117.trans (xσ58.trans xσ59)))))))))))))) (by decide)).1
            have kp289 : gI σ60 o 7 = gI σ59 o 7 := (cσ60.O (ko.up (xσ39.trans (xσ40.trans (xσ41.trans (xσ42.trans (xσ46.trans (xσ48.trans (xσ50.trans (xσ52.trans (xσ54.trans (xσ56.trans (xσ57.trans (xτ117.trans (xσ58.trans xσ59)))))))))))))) (by decide)).1
            have kp290 : gI σ60 o 9 = gI σ59 o 9 := (cσ60.O (ko.up (xσ39.trans (xσ40.trans (xσ41.trans (xσ42.trans (xσ46.trans (xσ48.trans (xσ50.trans (xσ52.trans (xσ54.trans (xσ56.trans (xσ57.trans (xτ117.trans (xσ58.trans xσ59)))))))))))))) (by decide)).1
            by_cases hc291 : v1 ≤ 0
            · rw [if_pos hc291]
              unfold w_X6_matchText_157
              refine i_X6_isWord iσ60 (kth.up (xσ39.trans (xσ40.trans (xσ41.trans (xσ42.trans (xσ46.trans (xσ48.trans (xσ50.trans (xσ52.trans (xσ54.trans (xσ56.trans (xσ57.trans (xτ117.trans (xσ58.trans (xσ59.trans xσ60))))))))))))))) (fun r72 pσ71 => ?_)
              intro xσ71
              by_cases hc292 : r72 ≠ 0
              · rw [if_pos hc292]
                unfold w_X6_matchText_170
                refine ⟨o, (kp281.trans (kp269.trans (kp254.trans (kp181.trans h8)))), fun kk_o_5 => ?_⟩
                have q294 := I_5_4 iσ60.1 (ko.up (xσ39.trans (xσ40.trans (xσ41.trans (xσ42.trans (xσ46.trans (xσ48.trans (xσ50.trans (xσ52.trans (xσ54.trans (xσ56.trans (xσ57.trans (xτ117.trans (xσ58.trans (xσ59.trans xσ60)))))))))))))))
                by_cases hc293 : gI σ60 o 4 ≠ 4
                · rw [if_pos hc293]
                  unfold w_X6_matchText_187
                  refine i_X6_next iσ60 (kth.up (xσ39.trans (xσ40.trans (xσ41.trans (xσ42.trans (xσ46.trans (xσ48.trans (xσ50.trans (xσ52.trans (xσ54.trans (xσ56.trans (xσ57.trans (xτ117.trans (xσ58.trans (xσ59.trans xσ60))))))))))))))) (kp279.trans (kp267.trans (kp252.trans (kp179.trans hX0)))) (kX.up (xσ39.trans (xσ40.trans (xσ41.trans (xσ42.trans (xσ46.trans (xσ48.trans (xσ50.trans (xσ52.trans (xσ54.trans (xσ56.trans (xσ57.trans (xτ117.trans (xσ58.trans (xσ59.trans xσ60))))))))))))))) (((xσ39.trans (xσ40.trans (xσ41.trans (xσ42.trans (xσ46.trans (xσ48.trans (xσ50.trans (xσ52.trans (xσ54.trans (xσ56.trans (xσ57.trans (xτ117.trans (xσ58.trans (xσ59.trans xσ60)))))))))))))) tx kX.1).2.2.trans gX) (by (first | omega | with_reducible assumption | with_reducible exact rng_toInt _ | with_reducible exact rng_wr _ | (unfold rng; omega) | (unfold rng at *; omega) | assumption)) (by (first | omega | with_reducible assumption | with_reducible exact rng_toInt _ | with_reducible exact rng_wr _ | (unfold rng; omega) | (unfold rng at *; omega) | assumption)) (fun σ76 _ iσ76 cσ76 pσ76 => ?_) (fun σx LLx Nx nux E ix cx ux px => hX σx LLx Nx nux E ix (fσ60.tr (cx.mo (by decide))) (nu_σ60.x ux) (by first | exact px | exact ⟨by have := px.1; omega, px.2⟩ | (first | omega | with_reducible assumption | with_reducible exact rng_toInt _ | with_reducible exact rng_wr _ | (unfold rng; omega) | (unfold rng at *; omega) | assumption)))
                  intro xσ76
                  have fσ76 : Fx [261, 262, 263, 323, 324, 326, 327, 333, 336, 386, 387, 388, 389, 390, 6464, 8320] gr σ σ76 := fσ60.tr (cσ76.mo (by decide))
                  have oxcσ76 : OX o σ σ76 := oxcσ60.tr (OX.fx cσ76 (by decide) (by decide)) (xσ39.trans (xσ40.trans (xσ41.trans (xσ42.trans (xσ46.trans (xσ48.trans (xσ50.trans (xσ52.trans (xσ54.trans (xσ56.trans (xσ57.trans (xτ117.trans (xσ58.trans (xσ59.trans xσ60))))))))))))))
                  have kp295 : gI σ76 J 1 = gI σ60 J 1 := (cσ76.O (kJ.up (xσ39.trans (xσ40.trans (xσ41.trans (xσ42.trans (xσ46.trans (xσ48.trans (xσ50.trans (xσ52.trans (xσ54.trans (xσ56.trans (xσ57.trans (xτ117.trans (xσ58.trans (xσ59.trans xσ60))))))))))))))) (by decide)).1
                  have kp296 : gI σ76 o 4 = gI σ60 o 4 := (cσ76.O (ko.up (xσ39.trans (xσ40.trans (xσ41.trans (xσ42.trans (xσ46.trans (xσ48.trans (xσ50.trans (xσ52.trans (xσ54.trans (xσ56.trans (xσ57.trans (xτ117.trans (xσ58.trans (xσ59.trans xσ60))))))))))))))) (by decide)).1
                  have kp297 : gI σ76 o 8 = gI σ60 o 8 := (cσ76.O (ko.up (xσ39.trans (xσ40.trans (xσ41.trans (xσ42.trans (xσ46.trans (xσ48.trans (xσ50.trans (xσ52.trans (xσ54.trans (xσ56.trans (xσ57.trans (xτ117.trans (xσ58.trans (xσ59.trans xσ60))))))))))))))) (by decide)).1
                  have kp298 : gP σ76 J 0 = gP σ60 J 0 := (cσ76.O (kJ.up (xσ39.trans (xσ40.trans (xσ41.trans (xσ42.trans (xσ46.trans (xσ48.trans (xσ50.trans (xσ52.trans (xσ54.trans (xσ56.trans (xσ57.trans (xτ117.trans (xσ58.trans (xσ59.trans xσ60))))))))))))))) (by decide)).2.1
                  have kp299 : gP σ76 th 0 = gP σ60 th 0 := (cσ76.O (kth.up (xσ39.trans (xσ40.trans (xσ41.trans (xσ42.trans (xσ46.trans (xσ48.trans (xσ50.trans (xσ52.trans (xσ54.trans (xσ56.trans (xσ57.trans (xτ117.trans (xσ58.trans (xσ59.trans xσ60))))))))))))))) (by decide)).2.1
                  have kp300 : gP σ76 th 7 = gP σ60 th 7 := (cσ76.O (kth.up (xσ39.trans (xσ40.trans (xσ41.trans (xσ42.trans (xσ46.trans (xσ48.trans (xσ50.trans (xσ52.trans (xσ54.trans (xσ56.trans (xσ57.trans (xτ117.trans (xσ58.trans (xσ59.trans xσ60))))))))))))))) (by decide)).2.1
                  have kp301 : gP σ76 th 8 = gP σ60 th 8 := (cσ76.O (kth.up (xσ39.trans (xσ40.trans (xσ41.trans (xσ42.trans (xσ46.trans (xσ48.trans (xσ50.trans (xσ52.trans (xσ54.trans (xσ56.trans (xσ57.trans (xτ117.trans (xσ58.trans (xσ59.trans xσ60))))))))))))))) (by decide)).2.1
                  have kp302 : gI σ76 J 7 = gI σ60 J 7 := (cσ76.O (kJ.up (xσ39.trans (xσ40.trans (xσ41.trans (xσ42.trans (xσ46.trans (xσ48.trans (xσ50.trans (xσ52.trans (xσ54.trans (xσ56.trans (xσ57.trans (xτ117.trans (xσ58.trans (xσ59.trans xσ60))))))))))))))) (by decide)).1
                  have kp303 : gI σ76 J 2 = gI σ60 J 2 := (cσ76.O (kJ.up (xσ39.trans (xσ40.trans (xσ41.trans (xσ42.trans (xσ46.trans (xσ48.trans (xσ50.trans (xσ52.trans (xσ54.trans (xσ56.trans (xσ57.trans (xτ117.trans (xσ58.trans (xσ59.trans xσ60))))))))))))))) (by decide)).1
                  have kp304 : gI σ76 o 3 = gI σ60 o 3 := (cσ76.O (ko.up (xσ39.trans (xσ40.trans (xσ41.trans (xσ42.trans (xσ46.trans (xσ48.trans (xσ50.trans (xσ52.trans (xσ54.trans (xσ56.trans (xσ57.trans (xτ117.trans (xσ58.trans (xσ59.trans xσ60))))))))))))))) (by decide)).1
                  have kp305 : gI σ76 o 6 = gI σ60 o 6 := (cσ76.O (ko.up (xσ39.trans (xσ40.trans (xσ41.trans (xσ42.trans (xσ46.trans (xσ48.trans (xσ50.trans (xσ52.trans (xσ54.trans (xσ56.trans (xσ57.trans (xτ117.trans (xσ58.trans (xσ59.trans xσ60))))))))))))))) (by decide)).1
                  have kp306 : gI σ76 o 7 = gI σ60 o 7 := (cσ76.O (ko.up (xσ39.trans (xσ40.trans (xσ41.trans (xσ42.trans (xσ46.trans (xσ48.trans (xσ50.trans (xσ52.trans (xσ54.trans (xσ56.trans (xσ57.trans (xτ117.trans (xσ58.trans (xσ59.trans xσ60))))))))))))))) (by decide)).1
                  have kp307 : gI σ76 o 9 = gI σ60 o 9 := (cσ76.O (ko.up (xσ39.trans (xσ40.trans (xσ41.trans (xσ42.trans (xσ46.trans (xσ48.trans (xσ50.trans (xσ52.trans (xσ54.trans (xσ56.trans (xσ57.trans (xτ117.trans (xσ58.trans (xσ59.trans xσ60))))))))))))))) (by decide)).1
                  have r5σ76 := I_6_5 iσ76.1 (kth.up (xσ39.trans (xσ40.trans (xσ41.trans (xσ42.trans (xσ46.trans (xσ48.trans (xσ50.trans (xσ52.trans (xσ54.trans (xσ56.trans (xσ57.trans (xτ117.trans (xσ58.trans (xσ59.trans (xσ60.trans xσ76))))))))))))))))
                  refine ⟨by (first | omega | with_reducible assumption | with_reducible exact rng_toInt _ | with_reducible exact rng_wr _ | (unfold rng; omega) | (unfold rng at *; omega) | assumption), ?_⟩
                  exact ih117 σ76 nuσ60 (v1 + 1) iσ76 fσ76 (xτ117.trans (xσ58.trans (xσ59.trans (xσ60.trans xσ76)))) nu_σ60 oxcσ76 (by (first | omega | with_reducible assumption | with_reducible exact rng_toInt _ | with_reducible exact rng_wr _ | (unfold rng; omega) | (unfold rng at *; omega) | assumption)) (by (first | omega | with_reducible assumption | with_reducible exact rng_toInt _ | with_reducible exact rng_wr _ | (unfold rng; omega) | (unfold rng at *; omega) | assumption))
                · rw [if_neg hc293]
                  have hc293q := Classical.not_not.mp hc293
                  unfold w_X6_matchText_181
                  refine i_X6_refuse iσ60 (kth.up (xσ39.trans (xσ40.trans (xσ41.trans (xσ42.trans (xσ46.trans (xσ48.trans (xσ50.trans (xσ52.trans (xσ54.trans (xσ56.trans (xσ57.trans (xτ117.trans (xσ58.trans (xσ59.trans xσ60))))))))))))))) (by (first | omega | with_reducible assumption | with_reducible exact rng_toInt _ | with_reducible exact rng_wr _ | (unfold rng; omega) | (unfold rng at *; omega) | assumption)) (by (first | omega | with_reducible assumption | with_reducible exact rng_toInt _ | with_reducible exact rng_wr _ | (unfold rng; omega) | (unfold rng at *; omega) | assumption)) (by (first | omega | with_reducible assumption | with_reducible exact rng_toInt _ | with_reducible exact rng_wr _ | (unfold rng; omega) | (unfold rng at *; omega) | assumption)) (fun σ75 _ iσ75 cσ75 pσ75 => ?_) (fun σx LLx Nx nux E ix cx ux px => hX σx LLx Nx nux E ix (fσ60.tr (cx.mo (by decide))) (nu_σ60.x ux) (by first | exact px | exact ⟨by have := px.1; omega, px.2⟩ | (first | omega | with_reducible assumption | with_reducible exact rng_toInt _ | with_reducible exact rng_wr _ | (unfold rng; omega) | (unfold rng at *; omega) | assumption)))
                  intro xσ75
                  exact pσ75.elim
              · rw [if_neg hc292]
                have hc292q := Classical.not_not.mp hc292
                unfold w_X6_matchText_166
                refine i_X6_cannotStand iσ60 (kth.up (xσ39.trans (xσ40.trans (xσ41.trans (xσ42.trans (xσ46.trans (xσ48.trans (xσ50.trans (xσ52.trans (xσ54.trans (xσ56.trans (xσ57.trans (xτ117.trans (xσ58.trans (xσ59.trans xσ60))))))))))))))) (by (first | omega | with_reducible assumption | with_reducible exact rng_toInt _ | with_reducible exact rng_wr _ | (unfold rng; omega) | (unfold rng at *; omega) | assumption)) (fun σ73 _ iσ73 cσ73 pσ73 => ?_) (fun σx LLx Nx nux E ix cx ux px => hX σx LLx Nx nux E ix (fσ60.tr (cx.mo (by decide))) (nu_σ60.x ux) (by first | exact px | exact ⟨by have := px.1; omega, px.2⟩ | (first | omega | with_reducible assumption | with_reducible exact rng_toInt _ | with_reducible exact rng_wr _ | (unfold rng; omega) | (unfold rng at *; omega) | assumption)))
                intro xσ73
                exact pσ73.elim
            · rw [if_neg hc291]
              unfold w_X6_matchText_145
              refine i_X6_isWord iσ60 (kth.up (xσ39.trans (xσ40.trans (xσ41.trans (xσ42.trans (xσ46.trans (xσ48.trans (xσ50.trans (xσ52.trans (xσ54.trans (xσ56.trans (xσ57.trans (xτ117.trans (xσ58.trans (xσ59.trans xσ60))))))))))))))) (fun r64 pσ63 => ?_)
              intro xσ63
              by_cases hc308 : r64 = 0
              · rw [if_pos hc308]
                unfold w_X6_matchText_157
                refine i_X6_isWord iσ60 (kth.up (xσ39.trans (xσ40.trans (xσ41.trans (xσ42.trans (xσ46.trans (xσ48.trans (xσ50.trans (xσ52.trans (xσ54.trans (xσ56.trans (xσ57.trans (xτ117.trans (xσ58.trans (xσ59.trans xσ60))))))))))))))) (fun r72_1 pσ71_1 => ?_)
                intro xσ71_1
                by_cases hc309 : r72_1 ≠ 0
                · rw [if_pos hc309]
                  unfold w_X6_matchText_170
                  refine ⟨o, (kp281.trans (kp269.trans (kp254.trans (kp181.trans h8)))), fun kk_o_6 => ?_⟩
                  have q311 := I_5_4 iσ60.1 (ko.up (xσ39.trans (xσ40.trans (xσ41.trans (xσ42.trans (xσ46.trans (xσ48.trans (xσ50.trans (xσ52.trans (xσ54.trans (xσ56.trans (xσ57.trans (xτ117.trans (xσ58.trans (xσ59.trans xσ60)))))))))))))))
                  by_cases hc310 : gI σ60 o 4 ≠ 4
                  · rw [if_pos hc310]
                    unfold w_X6_matchText_187
                    refine i_X6_next iσ60 (kth.up (xσ39.trans (xσ40.trans (xσ41.trans (xσ42.trans (xσ46.trans (xσ48.trans (xσ50.trans (xσ52.trans (xσ54.trans (xσ56.trans (xσ57.trans (xτ117.trans (xσ58.trans (xσ59.trans xσ60))))))))))))))) (kp279.trans (kp267.trans (kp252.trans (kp179.trans hX0)))) (kX.up (xσ39.trans (xσ40.trans (xσ41.trans (xσ42.trans (xσ46.trans (xσ48.trans (xσ50.trans (xσ52.trans (xσ54.trans (xσ56.trans (xσ57.trans (xτ117.trans (xσ58.trans (xσ59.trans xσ60))))))))))))))) (((xσ39.trans (xσ40.trans (xσ41.trans (xσ42.trans (xσ46.trans (xσ48.trans (xσ50.trans (xσ52.trans (xσ54.trans (xσ56.trans (xσ57.trans (xτ117.trans (xσ58.trans (xσ59.trans xσ60)))))))))))))) tx kX.1).2.2.trans gX) (by (first | omega | with_reducible assumption | with_reducible exact rng_toInt _ | with_reducible exact rng_wr _ | (unfold rng; omega) | (unfold rng at *; omega) | assumption)) (by (first | omega | with_reducible assumption | with_reducible exact rng_toInt _ | with_reducible exact rng_wr _ | (unfold rng; omega) | (unfold rng at *; omega) | assumption)) (fun σ76_1 _ iσ76_1 cσ76_1 pσ76_1 => ?_) (fun σx LLx Nx nux E ix cx ux px => hX σx LLx Nx nux E ix (fσ60.tr (cx.mo (by decide))) (nu_σ60.x ux) (by first | exact px | exact ⟨by have := px.1; omega, px.2⟩ | (first | omega | with_reducible assumption | with_reducible exact rng_toInt _ | with_reducible exact rng_wr _ | (unfold rng; omega) | (unfold rng at *; omega) | assumption)))
                    intro xσ76_1
                    have fσ76_1 : Fx [261, 262, 263, 323, 324, 326, 327, 333, 336, 386, 387, 388, 389, 390, 6464, 8320] gr σ σ76_1 := fσ60.tr (cσ76_1.mo (by decide))
                    have oxcσ76_1 : OX o σ σ76_1 := oxcσ60.tr (OX.fx cσ76_1 (by decide) (by decide)) (xσ39.trans (xσ40.trans (xσ41.trans (xσ42.trans (xσ46.trans (xσ48.trans (xσ50.trans (xσ52.trans (xσ54.trans (xσ56.trans (xσ57.trans (xτ117.trans (xσ58.trans (xσ59.trans xσ60))))))))))))))
                    have kp312 : gI σ76_1 J 1 = gI σ60 J 1 := (cσ76_1.O (kJ.up (xσ39.trans (xσ40.trans (xσ41.trans (xσ42.trans (xσ46.trans (xσ48.trans (xσ50.trans (xσ52.trans (xσ54.trans (xσ56.trans (xσ57.trans (xτ117.trans (xσ58.trans (xσ59.trans xσ60))))))))))))))) (by decide)).1
                    have kp313 : gI σ76_1 o 4 = gI σ60 o 4 := (cσ76_1.O (ko.up (xσ39.trans (xσ40.trans (xσ41.trans (xσ42.trans (xσ46.trans (xσ48.trans (xσ50.trans (xσ52.trans (xσ54.trans (xσ56.trans (xσ57.trans (xτ117.trans (xσ58.trans (xσ59.trans xσ60))))))))))))))) (by decide)).1
                    have kp314 : gI σ76_1 o 8 = gI σ60 o 8 := (cσ76_1.O (ko.up (xσ39.trans (xσ40.trans (xσ41.trans (xσ42.trans (xσ46.trans (xσ48.trans (xσ50.trans (xσ52.trans (xσ54.trans (xσ56.trans (xσ57.trans (xτ117.trans (xσ58.trans (xσ59.trans xσ60))))))))))))))) (by decide)).1
                    have kp315 : gP σ76_1 J 0 = gP σ60 J 0 := (cσ76_1.O (kJ.up (xσ39.trans (xσ40.trans (xσ41.trans (xσ42.trans (xσ46.trans (xσ48.trans (xσ50.trans (xσ52.trans (xσ54.trans (xσ56.trans (xσ57.trans (xτ117.trans (xσ58.trans (xσ59.trans xσ60))))))))))))))) (by decide)).2.1
                    have kp316 : gP σ76_1 th 0 = gP σ60 th 0 := (cσ76_1.O (kth.up (xσ39.trans (xσ40.trans (xσ41.trans (xσ42.trans (xσ46.trans (xσ48.trans (xσ50.trans (xσ52.trans (xσ54.trans (xσ56.trans (xσ57.trans (xτ117.trans (xσ58.trans (xσ59.trans xσ60))))))))))))))) (by decide)).2.1
                    have kp317 : gP σ76_1 th 7 = gP σ60 th 7 := (cσ76_1.O (kth.up (xσ39.trans (xσ40.trans (xσ41.trans (xσ42.trans (xσ46.trans (xσ48.trans (xσ50.trans (xσ52.trans (xσ54.trans (xσ56.trans (xσ57.trans (xτ117.trans (xσ58.trans (xσ59.trans xσ60))))))))))))))) (by decide)).2.1
                    have kp318 : gP σ76_1 th 8 = gP σ60 th 8 := (cσ76_1.O (kth.up (xσ39.trans (xσ40.trans (xσ41.trans (xσ42.trans (xσ46.trans (xσ48.trans (xσ50.trans (xσ52.trans (xσ54.trans (xσ56.trans (xσ57.trans (xτ117.trans (xσ58.trans (xσ59.trans xσ60))))))))))))))) (by decide)).2.1
                    have kp319 : gI σ76_1 J 7 = gI σ60 J 7 := (cσ76_1.O (kJ.up (xσ39.trans (xσ40.trans (xσ41.trans (xσ42.trans (xσ46.trans (xσ48.trans (xσ50.trans (xσ52.trans (xσ54.trans (xσ56.trans (xσ57.trans (xτ117.trans (xσ58.trans (xσ59.trans xσ60))))))))))))))) (by decide)).1
                    have kp320 : gI σ76_1 J 2 = gI σ60 J 2 := (cσ76_1.O (kJ.up (xσ39.trans (xσ40.trans (xσ41.trans (xσ42.trans (xσ46.trans (xσ48.trans (xσ50.trans (xσ52.trans (xσ54.trans (xσ56.trans (xσ57.trans (xτ117.trans (xσ58.trans (xσ59.trans xσ60))))))))))))))) (by decide)).1
                    have kp321 : gI σ76_1 o 3 = gI σ60 o 3 := (cσ76_1.O (ko.up (xσ39.trans (xσ40.trans (xσ41.trans (xσ42.trans (xσ46.trans (xσ48.trans (xσ50.trans (xσ52.trans (xσ54.trans (xσ56.trans (xσ57.trans (xτ117.trans (xσ58.trans (xσ59.trans xσ60))))))))))))))) (by decide)).1
                    have kp322 : gI σ76_1 o 6 = gI σ60 o 6 := (cσ76_1.O (ko.up (xσ39.trans (xσ40.trans (xσ41.trans (xσ42.trans (xσ46.trans (xσ48.trans (xσ50.trans (xσ52.trans (xσ54.trans (xσ56.trans (xσ57.trans (xτ117.trans (xσ58.trans (xσ59.trans xσ60))))))))))))))) (by decide)).1
                    have kp323 : gI σ76_1 o 7 = gI σ60 o 7 := (cσ76_1.O (ko.up (xσ39.trans (xσ40.trans (xσ41.trans (xσ42.trans (xσ46.trans (xσ48.trans (xσ50.trans (xσ52.trans (xσ54.trans (xσ56.trans (xσ57.trans (xτ117.trans (xσ58.trans (xσ59.trans xσ60))))))))))))))) (by decide)).1
                    have kp324 : gI σ76_1 o 9 = gI σ60 o 9 := (cσ76_1.O (ko.up (xσ39.trans (xσ40.trans (xσ41.trans (xσ42.trans (xσ46.trans (xσ48.trans (xσ50.trans (xσ52.trans (xσ54.trans (xσ56.trans (xσ57.trans (xτ117.trans (xσ58.trans (xσ59.trans xσ60))))))))))))))) (by decide)).1
                    have r5σ76_1 := I_6_5 iσ76_1.1 (kth.up (xσ39.trans (xσ40.trans (xσ41.trans (xσ42.trans (xσ46.trans (xσ48.trans (xσ50.trans (xσ52.trans (xσ54.trans (xσ56.trans (xσ57.trans (xτ117.trans (xσ58.trans (xσ59.trans (xσ60.trans xσ76_1))))))))))))))))
                    refine ⟨by (first | omega | with_reducible assumption | with_reducible exact rng_toInt _ | with_reducible exact rng_wr _ | (unfold rng; omega) | (unfold rng at *; omega) | assumption), ?_⟩
                    exact ih117 σ76_1 nuσ60 (v1 + 1) iσ76_1 fσ76_1 (xτ117.trans (xσ58.trans (xσ59.trans (xσ60.trans xσ76_1)))) nu_σ60 oxcσ76_1 (by (first | omega | with_reducible assumption | with_reducible exact rng_toInt _ | with_reducible exact rng_wr _ | (unfold rng; omega) | (unfold rng at *; omega) | assumption)) (by (first | omega | with_reducible assumption | with_reducible exact rng_toInt _ | with_reducible exact rng_wr _ | (unfold rng; omega) | (unfold rng at *; omega) | assumption))
                  · rw [if_neg hc310]
                    have hc310q := Classical.not_not.mp hc310
                    unfold w_X6_matchText_181
                    refine i_X6_refuse iσ60 (kth.up (xσ39.trans (xσ40.trans (xσ41.trans (xσ42.trans (xσ46.trans (xσ48.trans (xσ50.trans (xσ52.trans (xσ54.trans (xσ56.trans (xσ57.trans (xτ117.trans (xσ58.trans (xσ59.trans xσ60))))))))))))))) (by (first | omega | with_reducible assumption | with_reducible exact rng_toInt _ | with_reducible exact rng_wr _ | (unfold rng; omega) | (unfold rng at *; omega) | assumption)) (by (first | omega | with_reducible assumption | with_reducible exact rng_toInt _ | with_reducible exact rng_wr _ | (unfold rng; omega) | (unfold rng at *; omega) | assumption)) (by (first | omega | with_reducible assumption | with_reducible exact rng_toInt _ | with_reducible exact rng_wr _ | (unfold rng; omega) | (unfold rng at *; omega) | assumption)) (fun σ75_1 _ iσ75_1 cσ75_1 pσ75_1 => ?_) (fun σx LLx Nx nux E ix cx ux px => hX σx LLx Nx nux E ix (fσ60.tr (cx.mo (by decide))) (nu_σ60.x ux) (by first | exact px | exact ⟨by have := px.1; omega, px.2⟩ | (first | omega | with_reducible assumption | with_reducible exact rng_toInt _ | with_reducible exact rng_wr _ | (unfold rng; omega) | (unfold rng at *; omega) | assumption)))
                    intro xσ75_1
                    exact pσ75_1.elim
                · rw [if_neg hc309]
                  have hc309q := Classical.not_not.mp hc309
                  unfold w_X6_matchText_166
                  refine i_X6_cannotStand iσ60 (kth.up (xσ39.trans (xσ40.trans (xσ41.trans (xσ42.trans (xσ46.trans (xσ48.trans (xσ50.trans (xσ52.trans (xσ54.trans (xσ56.trans (xσ57.trans (xτ117.trans (xσ58.trans (xσ59.trans xσ60))))))))))))))) (by (first | omega | with_reducible assumption | with_reducible exact rng_toInt _ | with_reducible exact rng_wr _ | (unfold rng; omega) | (unfold rng at *; omega) | assumption)) (fun σ73_1 _ iσ73_1 cσ73_1 pσ73_1 => ?_) (fun σx LLx Nx nux E ix cx ux px => hX σx LLx Nx nux E ix (fσ60.tr (cx.mo (by decide))) (nu_σ60.x ux) (by first | exact px | exact ⟨by have := px.1; omega, px.2⟩ | (first | omega | with_reducible assumption | with_reducible exact rng_toInt _ | with_reducible exact rng_wr _ | (unfold rng; omega) | (unfold rng at *; omega) | assumption)))
                  intro xσ73_1
                  exact pσ73_1.elim
              · rw [if_neg hc308]
                unfold w_X6_matchText_154
                unfold w_X6_matchText_197
                refine i_X6_wantWord iσ60 (kth.up (xσ39.trans (xσ40.trans (xσ41.trans (xσ42.trans (xσ46.trans (xσ48.trans (xσ50.trans (xσ52.trans (xσ54.trans (xσ56.trans (xσ57.trans (xτ117.trans (xσ58.trans (xσ59.trans xσ60))))))))))))))) (kp279.trans (kp267.trans (kp252.trans (kp179.trans hX0)))) (kX.up (xσ39.trans (xσ40.trans (xσ41.trans (xσ42.trans (xσ46.trans (xσ48.trans (xσ50.trans (xσ52.trans (xσ54.trans (xσ56.trans (xσ57.trans (xτ117.trans (xσ58.trans (xσ59.trans xσ60))))))))))))))) (((xσ39.trans (xσ40.trans (xσ41.trans (xσ42.trans (xσ46.trans (xσ48.trans (xσ50.trans (xσ52.trans (xσ54.trans (xσ56.trans (xσ57.trans (xτ117.trans (xσ58.trans (xσ59.trans xσ60)))))))))))))) tx kX.1).2.2.trans gX) (by (first | omega | with_reducible assumption | with_reducible exact rng_toInt _ | with_reducible exact rng_wr _ | (unfold rng; omega) | (unfold rng at *; omega) | assumption)) (by (first | omega | with_reducible assumption | with_reducible exact rng_toInt _ | with_reducible exact rng_wr _ | (unfold rng; omega) | (unfold rng at *; omega) | assumption)) (fun σ65_1 _ iσ65_1 cσ65_1 pσ65_1 => ?_) (fun σx LLx Nx nux E ix cx ux px => hX σx LLx Nx nux E ix (fσ60.tr (cx.mo (by decide))) (nu_σ60.x ux) (by first | exact px | exact ⟨by have := px.1; omega, px.2⟩ | (first | omega | with_reducible assumption | with_reducible exact rng_toInt _ | with_reducible exact rng_wr _ | (unfold rng; omega) | (unfold rng at *; omega) | assumption)))
                intro xσ65_1
                have fσ65_1 : Fx [261, 262, 263, 323, 324, 326, 327, 333, 336, 386, 387, 388, 389, 390, 6464, 8320] gr σ σ65_1 := fσ60.tr (cσ65_1.mo (by decide))
                have oxcσ65_1 : OX o σ σ65_1 := oxcσ60.tr (OX.fx cσ65_1 (by decide) (by decide)) (xσ39.trans (xσ40.trans (xσ41.trans (xσ42.trans (xσ46.trans (xσ48.trans (xσ50.trans (xσ52.trans (xσ54.trans (xσ56.trans (xσ57.trans (xτ117.trans (xσ58.trans (xσ59.trans xσ60))))))))))))))
                have kp325 : gI σ65_1 J 1 = gI σ60 J 1 := (cσ65_1.O (kJ.up (xσ39.trans (xσ40.trans (xσ41.trans (xσ42.trans (xσ46.trans (xσ48.trans (xσ50.trans (xσ52.trans (xσ54.trans (xσ56.trans (xσ57.trans (xτ117.trans (xσ58.trans (xσ59.trans xσ60))))))))))))))) (by decide)).1
                have kp326 : gI σ65_1 o 8 = gI σ60 o 8 := (cσ65_1.O (ko.up (xσ39.trans (xσ40.trans (xσ41.trans (xσ42.trans (xσ46.trans (xσ48.trans (xσ50.trans (xσ52.trans (xσ54.trans (xσ56.trans (xσ57.trans (xτ117.trans (xσ58.trans (xσ59.trans xσ60))))))))))))))) (by decide)).1
                have kp327 : gP σ65_1 J 0 = gP σ60 J 0 := (cσ65_1.O (kJ.up (xσ39.trans (xσ40.trans (xσ41.trans (xσ42.trans (xσ46.trans (xσ48.trans (xσ50.trans (xσ52.trans (xσ54.trans (xσ56.trans (xσ57.trans (xτ117.trans (xσ58.trans (xσ59.trans xσ60))))))))))))))) (by decide)).2.1
                have kp328 : gP σ65_1 th 0 = gP σ60 th 0 := (cσ65_1.O (kth.up (xσ39.trans (xσ40.trans (xσ41.trans (xσ42.trans (xσ46.trans (xσ48.trans (xσ50.trans (xσ52.trans (xσ54.trans (xσ56.trans (xσ57.trans (xτ117.trans (xσ58.trans (xσ59.trans xσ60))))))))))))))) (by decide)).2.1
                have kp329 : gP σ65_1 th 7 = gP σ60 th 7 := (cσ65_1.O (kth.up (xσ39.trans (xσ40.trans (xσ41.trans (xσ42.trans (xσ46.trans (xσ48.trans (xσ50.trans (xσ52.trans (xσ54.trans (xσ56.trans (xσ57.trans (xτ117.trans (xσ58.trans (xσ59.trans xσ60))))))))))))))) (by decide)).2.1
                have kp330 : gP σ65_1 th 8 = gP σ60 th 8 := (cσ65_1.O (kth.up (xσ39.trans (xσ40.trans (xσ41.trans (xσ42.trans (xσ46.trans (xσ48.trans (xσ50.trans (xσ52.trans (xσ54.trans (xσ56.trans (xσ57.trans (xτ117.trans (xσ58.trans (xσ59.trans xσ60))))))))))))))) (by decide)).2.1
                have kp331 : gI σ65_1 J 7 = gI σ60 J 7 := (cσ65_1.O (kJ.up (xσ39.trans (xσ40.trans (xσ41.trans (xσ42.trans (xσ46.trans (xσ48.trans (xσ50.trans (xσ52.trans (xσ54.trans (xσ56.trans (xσ57.trans (xτ117.trans (xσ58.trans (xσ59.trans xσ60))))))))))))))) (by decide)).1
                have kp332 : gI σ65_1 J 2 = gI σ60 J 2 := (cσ65_1.O (kJ.up (xσ39.trans (xσ40.trans (xσ41.trans (xσ42.trans (xσ46.trans (xσ48.trans (xσ50.trans (xσ52.trans (xσ54.trans (xσ56.trans (xσ57.trans (xτ117.trans (xσ58.trans (xσ59.trans xσ60))))))))))))))) (by decide)).1
                have kp333 : gI σ65_1 o 3 = gI σ60 o 3 := (cσ65_1.O (ko.up (xσ39.trans (xσ40.trans (xσ41.trans (xσ42.trans (xσ46.trans (xσ48.trans (xσ50.trans (xσ52.trans (xσ54.trans (xσ56.trans (xσ57.trans (xτ117.trans (xσ58.trans (xσ59.trans xσ60))))))))))))))) (by decide)).1
                have kp334 : gI σ65_1 o 4 = gI σ60 o 4 := (cσ65_1.O (ko.up (xσ39.trans (xσ40.trans (xσ41.trans (xσ42.trans (xσ46.trans (xσ48.trans (xσ50.trans (xσ52.trans (xσ54.trans (xσ56.trans (xσ57.trans (xτ117.trans (xσ58.trans (xσ59.trans xσ60))))))))))))))) (by decide)).1
                have kp335 : gI σ65_1 o 6 = gI σ60 o 6 := (cσ65_1.O (ko.up (xσ39.trans (xσ40.trans (xσ41.trans (xσ42.trans (xσ46.trans (xσ48.trans (xσ50.trans (xσ52.trans (xσ54.trans (xσ56.trans (xσ57.trans (xτ117.trans (xσ58.trans (xσ59.trans xσ60))))))))))))))) (by decide)).1
                have kp336 : gI σ65_1 o 7 = gI σ60 o 7 := (cσ65_1.O (ko.up (xσ39.trans (xσ40.trans (xσ41.trans (xσ42.trans (xσ46.trans (xσ48.trans (xσ50.trans (xσ52.trans (xσ54.trans (xσ56.trans (xσ57.trans (xτ117.trans (xσ58.trans (xσ59.trans xσ60))))))))))))))) (by decide)).1
                have kp337 : gI σ65_1 o 9 = gI σ60 o 9 := (cσ65_1.O (ko.up (xσ39.trans (xσ40.trans (xσ41.trans (xσ42.trans (xσ46.trans (xσ48.trans (xσ50.trans (xσ52.trans (xσ54.trans (xσ56.trans (xσ57.trans (xτ117.trans (xσ58.trans (xσ59.trans xσ60))))))))))))))) (by decide)).1
                have r5σ65_1 := I_6_5 iσ65_1.1 (kth.up (xσ39.trans (xσ40.trans (xσ41.trans (xσ42.trans (xσ46.trans (xσ48.trans (xσ50.trans (xσ52.trans (xσ54.trans (xσ56.trans (xσ57.trans (xτ117.trans (xσ58.trans (xσ59.trans (xσ60.trans xσ65_1))))))))))))))))
                refine i_X6_number iσ65_1 (kth.up (xσ39.trans (xσ40.trans (xσ41.trans (xσ42.trans (xσ46.trans (xσ48.trans (xσ50.trans (xσ52.trans (xσ54.trans (xσ56.trans (xσ57.trans (xτ117.trans (xσ58.trans (xσ59.trans (xσ60.trans xσ65_1)))))))))))))))) (by (first | omega | with_reducible assumption | with_reducible exact rng_toInt _ | with_reducible exact rng_wr _ | (unfold rng; omega) | (unfold rng at *; omega) | assumption)) (by (first | omega | with_reducible assumption | with_reducible exact rng_toInt _ | with_reducible exact rng_wr _ | (unfold rng; omega) | (unfold rng at *; omega) | assumption)) (fun σ66_1 r67_1 iσ66_1 cσ66_1 pσ66_1 => ?_) (fun σx LLx Nx nux E ix cx ux px => hX σx LLx Nx nux E ix (fσ65_1.tr (cx.mo (by decide))) (nu_σ60.x ux) (by first | exact px | exact ⟨by have := px.1; omega, px.2⟩ | (first | omega | with_reducible assumption | with_reducible exact rng_toInt _ | with_reducible exact rng_wr _ | (unfold rng; omega) | (unfold rng at *; omega) | assumption)))
                intro xσ66_1
                have fσ66_1 : Fx [261, 262, 263, 323, 324, 326, 327, 333, 336, 386, 387, 388, 389, 390, 6464, 8320] gr σ σ66_1 := fσ65_1.tr (cσ66_1.mo (by decide))
                have oxcσ66_1 : OX o σ σ66_1 := oxcσ65_1.tr (OX.fx cσ66_1 (by decide) (by decide)) (xσ39.trans (xσ40.trans (xσ41.trans (xσ42.trans (xσ46.trans (xσ48.trans (xσ50.trans (xσ52.trans (xσ54.trans (xσ56.trans (xσ57.trans (xτ117.trans (xσ58.trans (xσ59.trans (xσ60.trans xσ65_1)))))))))))))))
                have kp338 : gI σ66_1 J 1 = gI σ65_1 J 1 := (cσ66_1.O (kJ.up (xσ39.trans (xσ40.trans (xσ41.trans (xσ42.trans (xσ46.trans (xσ48.trans (xσ50.trans (xσ52.trans (xσ54.trans (xσ56.trans (xσ57.trans (xτ117.trans (xσ58.trans (xσ59.trans (xσ60.trans xσ65_1)))))))))))))))) (by decide)).1
                have kp339 : gI σ66_1 o 8 = gI σ65_1 o 8 := (cσ66_1.O (ko.up (xσ39.trans (xσ40.trans (xσ41.trans (xσ42.trans (xσ46.trans (xσ48.trans (xσ50.trans (xσ52.trans (xσ54.trans (xσ56.trans (xσ57.trans (xτ117.trans (xσ58.trans (xσ59.trans (xσ60.trans xσ65_1)))))))))))))))) (by decide)).1
                have kp340 : gP σ66_1 J 0 = gP σ65_1 J 0 := (cσ66_1.O (kJ.up (xσ39.trans (xσ40.trans (xσ41.trans (xσ42.trans (xσ46.trans (xσ48.trans (xσ50.trans (xσ52.trans (xσ54.trans (xσ56.trans (xσ57.trans (xτ117.trans (xσ58.trans (xσ59.trans (xσ60.trans xσ65_1)))))))))))))))) (by decide)).2.1
                have kp341 : gP σ66_1 th 0 = gP σ65_1 th 0 := (cσ66_1.O (kth.up (xσ39.trans (xσ40.trans (xσ41.trans (xσ42.trans (xσ46.trans (xσ48.trans (xσ50.trans (xσ52.trans (xσ54.trans (xσ56.trans (xσ57.trans (xτ117.trans (xσ58.trans (xσ59.trans (xσ60.trans xσ65_1)))))))))))))))) (by decide)).2.1
                have kp342 : gP σ66_1 th 7 = gP σ65_1 th 7 := (cσ66_1.O (kth.up (xσ39.trans (xσ40.trans (xσ41.trans (xσ42.trans (xσ46.trans (xσ48.trans (xσ50.trans (xσ52.trans (xσ54.trans (xσ56.trans (xσ57.trans (xτ117.trans (xσ58.trans (xσ59.trans (xσ60.trans xσ65_1)))))))))))))))) (by decide)).2.1
                have kp343 : gP σ66_1 th 8 = gP σ65_1 th 8 := (cσ66_1.O (kth.up (xσ39.trans (xσ40.trans (xσ41.trans (xσ42.trans (xσ46.trans (xσ48.trans (xσ50.trans (xσ52.trans (xσ54.trans (xσ56.trans (xσ57.trans (xτ117.trans (xσ58.trans (xσ59.trans (xσ60.trans xσ65_1)))))))))))))))) (by decide)).2.1
                have kp344 : gI σ66_1 th 2 = gI σ65_1 th 2 := (cσ66_1.O (kth.up (xσ39.trans (xσ40.trans (xσ41.trans (xσ42.trans (xσ46.trans (xσ48.trans (xσ50.trans (xσ52.trans (xσ54.trans (xσ56.trans (xσ57.trans (xτ117.trans (xσ58.trans (xσ59.trans (xσ60.trans xσ65_1)))))))))))))))) (by decide)).1
                have kp345 : gI σ66_1 th 3 = gI σ65_1 th 3 := (cσ66_1.O (kth.up (xσ39.trans (xσ40.trans (xσ41.trans (xσ42.trans (xσ46.trans (xσ48.trans (xσ50.trans (xσ52.trans (xσ54.trans (xσ56.trans (xσ57.trans (xτ117.trans (xσ58.trans (xσ59.trans (xσ60.trans xσ65_1)))))))))))))))) (by decide)).1
                have kp346 : gI σ66_1 th 5 = gI σ65_1 th 5 := (cσ66_1.O (kth.up (xσ39.trans (xσ40.trans (xσ41.trans (xσ42.trans (xσ46.trans (xσ48.trans (xσ50.trans (xσ52.trans (xσ54.trans (xσ56.trans (xσ57.trans (xτ117.trans (xσ58.trans (xσ59.trans (xσ60.trans xσ65_1)))))))))))))))) (by decide)).1
                have kp347 : gI σ66_1 J 7 = gI σ65_1 J 7 := (cσ66_1.O (kJ.up (xσ39.trans (xσ40.trans (xσ41.trans (xσ42.trans (xσ46.trans (xσ48.trans (xσ50.trans (xσ52.trans (xσ54.trans (xσ56.trans (xσ57.trans (xτ117.trans (xσ58.trans (xσ59.trans (xσ60.trans xσ65_1)))))))))))))))) (by decide)).1
                have kp348 : gI σ66_1 J 2 = gI σ65_1 J 2 := (cσ66_1.O (kJ.up (xσ39.trans (xσ40.trans (xσ41.trans (xσ42.trans (xσ46.trans (xσ48.trans (xσ50.trans (xσ52.trans (xσ54.trans (xσ56.trans (xσ57.trans (xτ117.trans (xσ58.trans (xσ59.trans (xσ60.trans xσ65_1)))))))))))))))) (by decide)).1
                have kp349 : gI σ66_1 o 3 = gI σ65_1 o 3 := (cσ66_1.O (ko.up (xσ39.trans (xσ40.trans (xσ41.trans (xσ42.trans (xσ46.trans (xσ48.trans (xσ50.trans (xσ52.trans (xσ54.trans (xσ56.trans (xσ57.trans (xτ117.trans (xσ58.trans (xσ59.trans (xσ60.trans xσ65_1)))))))))))))))) (by decide)).1
                have kp350 : gI σ66_1 o 4 = gI σ65_1 o 4 := (cσ66_1.O (ko.up (xσ39.trans (xσ40.trans (xσ41.trans (xσ42.trans (xσ46.trans (xσ48.trans (xσ50.trans (xσ52.trans (xσ54.trans (xσ56.trans (xσ57.trans (xτ117.trans (xσ58.trans (xσ59.trans (xσ60.trans xσ65_1)))))))))))))))) (by decide)).1
                have kp351 : gI σ66_1 o 6 = gI σ65_1 o 6 := (cσ66_1.O (ko.up (xσ39.trans (xσ40.trans (xσ41.trans (xσ42.trans (xσ46.trans (xσ48.trans (xσ50.trans (xσ52.trans (xσ54.trans (xσ56.trans (xσ57.trans (xτ117.trans (xσ58.trans (xσ59.trans (xσ60.trans xσ65_1)))))))))))))))) (by decide)).1
                have kp352 : gI σ66_1 o 7 = gI σ65_1 o 7 := (cσ66_1.O (ko.up (xσ39.trans (xσ40.trans (xσ41.trans (xσ42.trans (xσ46.trans (xσ48.trans (xσ50.trans (xσ52.trans (xσ54.trans (xσ56.trans (xσ57.trans (xτ117.trans (xσ58.trans (xσ59.trans (xσ60.trans xσ65_1)))))))))))))))) (by decide)).1
                have kp353 : gI σ66_1 o 9 = gI σ65_1 o 9 := (cσ66_1.O (ko.up (xσ39.trans (xσ40.trans (xσ41.trans (xσ42.trans (xσ46.trans (xσ48.trans (xσ50.trans (xσ52.trans (xσ54.trans (xσ56.trans (xσ57.trans (xτ117.trans (xσ58.trans (xσ59.trans (xσ60.trans xσ65_1)))))))))))))))) (by decide)).1
                refine ⟨o, (kp330.trans (kp281.trans (kp269.trans (kp254.trans (kp181.trans h8))))), fun kk_o_7 => ?_⟩
                intro σ69_1 eσ69_1
                have xσ69_1 : Ext σ66_1 σ69_1 := by rw [eσ69_1]; exact fun _ h => ⟨h, rfl, rfl⟩
                have iσ69_1 : IV σ69_1 pl gq ci gr nc ot LL N nuσ60 := by rw [eσ69_1]; exact iσ66_1.wSp (ko.up (xσ39.trans (xσ40.trans (xσ41.trans (xσ42.trans (xσ46.trans (xσ48.trans (xσ50.trans (xσ52.trans (xσ54.trans (xσ56.trans (xσ57.trans (xτ117.trans (xσ58.trans (xσ59.trans (xσ60.trans (xσ65_1.trans xσ66_1))))))))))))))))) (fun i hi => by omega) (by decide) (show (-1000 : Int) ≤ r67_1 ∧ r67_1 ≤ 1000 from ⟨by omega, by omega⟩)
                have fσ69_1 : Fx [261, 262, 263, 323, 324, 326, 327, 333, 336, 386, 387, 388, 389, 390, 6464, 8320] gr σ σ69_1 := fσ66_1.tr (Sk.fx (by rw [eσ69_1]; exact Sk.pI (by rw [fcdO (ko.up (xσ39.trans (xσ40.trans (xσ41.trans (xσ42.trans (xσ46.trans (xσ48.trans (xσ50.trans (xσ52.trans (xσ54.trans (xσ56.trans (xσ57.trans (xτ117.trans (xσ58.trans (xσ59.trans (xσ60.trans (xσ65_1.trans xσ66_1))))))))))))))))) (by decide)]; decide)))
                have oxcσ69_1 : OX o σ σ69_1 := oxcσ66_1.tr (by rw [eσ69_1]; exact OX.pI (ko.up (xσ39.trans (xσ40.trans (xσ41.trans (xσ42.trans (xσ46.trans (xσ48.trans (xσ50.trans (xσ52.trans (xσ54.trans (xσ56.trans (xσ57.trans (xτ117.trans (xσ58.trans (xσ59.trans (xσ60.trans (xσ65_1.trans xσ66_1))))))))))))))))) (Or.inr rfl)) (xσ39.trans (xσ40.trans (xσ41.trans (xσ42.trans (xσ46.trans (xσ48.trans (xσ50.trans (xσ52.trans (xσ54.trans (xσ56.trans (xσ57.trans (xτ117.trans (xσ58.trans (xσ59.trans (xσ60.trans (xσ65_1.trans xσ66_1))))))))))))))))
                have wσ69_1 : gI σ69_1 o 16 = r67_1 := by rw [eσ69_1]; exact up2_s _ _ _ _
                have kp354 : gI σ69_1 J 1 = gI σ66_1 J 1 := by rw [eσ69_1]; exact up2_n _ _ (fun q => absurd q.2 (by decide))
                have kp355 : gI σ69_1 o 8 = gI σ66_1 o 8 := by rw [eσ69_1]; exact up2_n _ _ (fun q => absurd q.2 (by decide))
                have kp356 : gP σ69_1 J 0 = gP σ66_1 J 0 := by rw [eσ69_1]
                have kp357 : gP σ69_1 th 0 = gP σ66_1 th 0 := by rw [eσ69_1]
                have kp358 : gP σ69_1 th 7 = gP σ66_1 th 7 := by rw [eσ69_1]
                have kp359 : gP σ69_1 th 8 = gP σ66_1 th 8 := by rw [eσ69_1]
                have kp360 : gI σ69_1 th 2 = gI σ66_1 th 2 := by rw [eσ69_1]; exact up2_n _ _ (fun q => absurd q.2 (by decide))
                have kp361 : gI σ69_1 th 3 = gI σ66_1 th 3 := by rw [eσ69_1]; exact up2_n _ _ (fun q => absurd q.2 (by decide))
                have kp362 : gI σ69_1 th 5 = gI σ66_1 th 5 := by rw [eσ69_1]; exact up2_n _ _ (fun q => absurd q.2 (by decide))
                have kp363 : gI σ69_1 J 7 = gI σ66_1 J 7 := by rw [eσ69_1]; exact up2_n _ _ (fun q => absurd q.2 (by decide))
                have kp364 : gI σ69_1 J 2 = gI σ66_1 J 2 := by rw [eσ69_1]; exact up2_n _ _ (fun q => absurd q.2 (by decide))
                have kp365 : gI σ69_1 o 3 = gI σ66_1 o 3 := by rw [eσ69_1]; exact up2_n _ _ (fun q => absurd q.2 (by decide))
                have kp366 : gI σ69_1 o 4 = gI σ66_1 o 4 := by rw [eσ69_1]; exact up2_n _ _ (fun q => absurd q.2 (by decide))
                have kp367 : gI σ69_1 o 6 = gI σ66_1 o 6 := by rw [eσ69_1]; exact up2_n _ _ (fun q => absurd q.2 (by decide))
                have kp368 : gI σ69_1 o 7 = gI σ66_1 o 7 := by rw [eσ69_1]; exact up2_n _ _ (fun q => absurd q.2 (by decide))
                have kp369 : gI σ69_1 o 9 = gI σ66_1 o 9 := by rw [eσ69_1]; exact up2_n _ _ (fun q => absurd q.2 (by decide))
                refine i_X6_next iσ69_1 (kth.up (xσ39.trans (xσ40.trans (xσ41.trans (xσ42.trans (xσ46.trans (xσ48.trans (xσ50.trans (xσ52.trans (xσ54.trans (xσ56.trans (xσ57.trans (xτ117.trans (xσ58.trans (xσ59.trans (xσ60.trans (xσ65_1.trans (xσ66_1.trans xσ69_1)))))))))))))))))) (kp357.trans (kp341.trans (kp328.trans (kp279.trans (kp267.trans (kp252.trans (kp179.trans hX0))))))) (kX.up (xσ39.trans (xσ40.trans (xσ41.trans (xσ42.trans (xσ46.trans (xσ48.trans (xσ50.trans (xσ52.trans (xσ54.trans (xσ56.trans (xσ57.trans (xτ117.trans (xσ58.trans (xσ59.trans (xσ60.trans (xσ65_1.trans (xσ66_1.trans xσ69_1)))))))))))))))))) (((xσ39.trans (xσ40.trans (xσ41.trans (xσ42.trans (xσ46.trans (xσ48.trans (xσ50.trans (xσ52.trans (xσ54.trans (xσ56.trans (xσ57.trans (xτ117.trans (xσ58.trans (xσ59.trans (xσ60.trans (xσ65_1.trans (xσ66_1.trans xσ69_1))))))))))))))))) tx kX.1).2.2.trans gX) (by (first | omega | with_reducible assumption | with_reducible exact rng_toInt _ | with_reducible exact rng_wr _ | (unfold rng; omega) | (unfold rng at *; omega) | assumption)) (by (first | omega | with_reducible assumption | with_reducible exact rng_toInt _ | with_reducible exact rng_wr _ | (unfold rng; omega) | (unfold rng at *; omega) | assumption)) (fun σ70_1 _ iσ70_1 cσ70_1 pσ70_1 => ?_) (fun σx LLx Nx nux E ix cx ux px => hX σx LLx Nx nux E ix (fσ69_1.tr (cx.mo (by decide))) (nu_σ60.x ux) (by first | exact px | exact ⟨by have := px.1; omega, px.2⟩ | (first | omega | with_reducible assumption | with_reducible exact rng_toInt _ | with_reducible exact rng_wr _ | (unfold rng; omega) | (unfold rng at *; omega) | assumption)))
                intro xσ70_1
                have fσ70_1 : Fx [261, 262, 263, 323, 324, 326, 327, 333, 336, 386, 387, 388, 389, 390, 6464, 8320] gr σ σ70_1 := fσ69_1.tr (cσ70_1.mo (by decide))
                have oxcσ70_1 : OX o σ σ70_1 := oxcσ69_1.tr (OX.fx cσ70_1 (by decide) (by decide)) (xσ39.trans (xσ40.trans (xσ41.trans (xσ42.trans (xσ46.trans (xσ48.trans (xσ50.trans (xσ52.trans (xσ54.trans (xσ56.trans (xσ57.trans (xτ117.trans (xσ58.trans (xσ59.trans (xσ60.trans (xσ65_1.trans (xσ66_1.trans xσ69_1)))))))))))))))))
                have kp370 : gI σ70_1 J 1 = gI σ69_1 J 1 := (cσ70_1.O (kJ.up (xσ39.trans (xσ40.trans (xσ41.trans (xσ42.trans (xσ46.trans (xσ48.trans (xσ50.trans (xσ52.trans (xσ54.trans (xσ56.trans (xσ57.trans (xτ117.trans (xσ58.trans (xσ59.trans (xσ60.trans (xσ65_1.trans (xσ66_1.trans xσ69_1)))))))))))))))))) (by decide)).1
                have kp371 : gI σ70_1 o 16 = gI σ69_1 o 16 := (cσ70_1.O (ko.up (xσ39.trans (xσ40.trans (xσ41.trans (xσ42.trans (xσ46.trans (xσ48.trans (xσ50.trans (xσ52.trans (xσ54.trans (xσ56.trans (xσ57.trans (xτ117.trans (xσ58.trans (xσ59.trans (xσ60.trans (xσ65_1.trans (xσ66_1.trans xσ69_1)))))))))))))))))) (by decide)).1
                have kp372 : gI σ70_1 o 8 = gI σ69_1 o 8 := (cσ70_1.O (ko.up (xσ39.trans (xσ40.trans (xσ41.trans (xσ42.trans (xσ46.trans (xσ48.trans (xσ50.trans (xσ52.trans (xσ54.trans (xσ56.trans (xσ57.trans (xτ117.trans (xσ58.trans (xσ59.trans (xσ60.trans (xσ65_1.trans (xσ66_1.trans xσ69_1)))))))))))))))))) (by decide)).1
                have kp373 : gP σ70_1 J 0 = gP σ69_1 J 0 := (cσ70_1.O (kJ.up (xσ39.trans (xσ40.trans (xσ41.trans (xσ42.trans (xσ46.trans (xσ48.trans (xσ50.trans (xσ52.trans (xσ54.trans (xσ56.trans (xσ57.trans (xτ117.trans (xσ58.trans (xσ59.trans (xσ60.trans (xσ65_1.trans (xσ66_1.trans xσ69_1)))))))))))))))))) (by decide)).2.1
                have kp374 : gP σ70_1 th 0 = gP σ69_1 th 0 := (cσ70_1.O (kth.up (xσ39.trans (xσ40.trans (xσ41.trans (xσ42.trans (xσ46.trans (xσ48.trans (xσ50.trans (xσ52.trans (xσ54.trans (xσ56.trans (xσ57.trans (xτ117.trans (xσ58.trans (xσ59.trans (xσ60.trans (xσ65_1.trans (xσ66_1.trans xσ69_1)))))))))))))))))) (by decide)).2.1
                have kp375 : gP σ70_1 th 7 = gP σ69_1 th 7 := (cσ70_1.O (kth.up (xσ39.trans (xσ40.trans (xσ41.trans (xσ42.trans (xσ46.trans (xσ48.trans (xσ50.trans (xσ52.trans (xσ54.trans (xσ56.trans (xσ57.trans (xτ117.trans (xσ58.trans (xσ59.trans (xσ60.trans (xσ65_1.trans (xσ66_1.trans xσ69_1)))))))))))))))))) (by decide)).2.1
                have kp376 : gP σ70_1 th 8 = gP σ69_1 th 8 := (cσ70_1.O (kth.up (xσ39.trans (xσ40.trans (xσ41.trans (xσ42.trans (xσ46.trans (xσ48.trans (xσ50.trans (xσ52.trans (xσ54.trans (xσ56.trans (xσ57.trans (xτ117.trans (xσ58.trans (xσ59.trans (xσ60.trans (xσ65_1.trans (xσ66_1.trans xσ69_1)))))))))))))))))) (by decide)).2.1
                have kp377 : gI σ70_1 J 7 = gI σ69_1 J 7 := (cσ70_1.O (kJ.up (xσ39.trans (xσ40.trans (xσ41.trans (xσ42.trans (xσ46.trans (xσ48.trans (xσ50.trans (xσ52.trans (xσ54.trans (xσ56.trans (xσ57.trans (xτ117.trans (xσ58.trans (xσ59.trans (xσ60.trans (xσ65_1.trans (xσ66_1.trans xσ69_1)))))))))))))))))) (by decide)).1
                have kp378 : gI σ70_1 J 2 = gI σ69_1 J 2 := (cσ70_1.O (kJ.up (xσ39.trans (xσ40.trans (xσ41.trans (xσ42.trans (xσ46.trans (xσ48.trans (xσ50.trans (xσ52.trans (xσ54.trans (xσ56.trans (xσ57.trans (xτ117.trans (xσ58.trans (xσ59.trans (xσ60.trans (xσ65_1.trans (xσ66_1.trans xσ69_1)))))))))))))))))) (by decide)).1
                have kp379 : gI σ70_1 o 3 = gI σ69_1 o 3 := (cσ70_1.O (ko.up (xσ39.trans (xσ40.trans (xσ41.trans (xσ42.trans (xσ46.trans (xσ48.trans (xσ50.trans (xσ52.trans (xσ54.trans (xσ56.trans (xσ57.trans (xτ117.trans (xσ58.trans (xσ59.trans (xσ60.trans (xσ65_1.trans (xσ66_1.trans xσ69_1)))))))))))))))))) (by decide)).1
                have kp380 : gI σ70_1 o 4 = gI σ69_1 o 4 := (cσ70_1.O (ko.up (xσ39.trans (xσ40.trans (xσ41.trans (xσ42.trans (xσ46.trans (xσ48.trans (xσ50.trans (xσ52.trans (xσ54.trans (xσ56.trans (xσ57.trans (xτ117.trans (xσ58.trans (xσ59.trans (xσ60.trans (xσ65_1.trans (xσ66_1.trans xσ69_1)))))))))))))))))) (by decide)).1
                have kp381 : gI σ70_1 o 6 = gI σ69_1 o 6 := (cσ70_1.O (ko.up (xσ39.trans (xσ40.trans (xσ41.trans (xσ42.trans (xσ46.trans (xσ48.trans (xσ50.trans (xσ52.trans (xσ54.trans (xσ56.trans (xσ57.trans (xτ117.trans (xσ58.trans (xσ59.trans (xσ60.trans (xσ65_1.trans (xσ66_1.trans xσ69_1)))))))))))))))))) (by decide)).1
                have kp382 : gI σ70_1 o 7 = gI σ69_1 o 7 := (cσ70_1.O (ko.up (xσ39.trans (xσ40.trans (xσ41.trans (xσ42.trans (xσ46.trans (xσ48.trans (xσ50.trans (xσ52.trans (xσ54.trans (xσ56.trans (xσ57.trans (xτ117.trans (xσ58.trans (xσ59.trans (xσ60.trans (xσ65_1.trans (xσ66_1.trans xσ69_1)))))))))))))))))) (by decide)).1
                have kp383 : gI σ70_1 o 9 = gI σ69_1 o 9 := (cσ70_1.O (ko.up (xσ39.trans (xσ40.trans (xσ41.trans (xσ42.trans (xσ46.trans (xσ48.trans (xσ50.trans (xσ52.trans (xσ54.trans (xσ56.trans (xσ57.trans (xτ117.trans (xσ58.trans (xσ59.trans (xσ60.trans (xσ65_1.trans (xσ66_1.trans xσ69_1)))))))))))))))))) (by decide)).1
                have r5σ70_1 := I_6_5 iσ70_1.1 (kth.up (xσ39.trans (xσ40.trans (xσ41.trans (xσ42.trans (xσ46.trans (xσ48.trans (xσ50.trans (xσ52.trans (xσ54.trans (xσ56.trans (xσ57.trans (xτ117.trans (xσ58.trans (xσ59.trans (xσ60.trans (xσ65_1.trans (xσ66_1.trans (xσ69_1.trans xσ70_1)))))))))))))))))))
                exact hQ σ70_1 nuσ60 () iσ70_1 fσ70_1 (nu_σ60) oxcσ70_1 (⟨by omega, by omega, ⟨by omega, (fun h => absurd h (by omega)), (fun h => absurd h (by omega))⟩⟩)
      exact ⟨_, Lp117 _ σ57 nu _ iσ57 fσ57 (Ext.rfl' _) NC.rf oxcσ57 (by (first | omega | with_reducible assumption | with_reducible exact rng_toInt _ | with_reducible exact rng_wr _ | (unfold rng; omega) | (unfold rng at *; omega) | assumption)) (Nat.lt_succ_self _)⟩
    · rw [if_neg hc95]
      have hc95q := Classical.not_not.mp hc95
      unfold w_X6_matchText_68
      refine i_X6_refuse iσ48 (kth.up (xσ39.trans (xσ40.trans (xσ41.trans (xσ42.trans (xσ46.trans xσ48)))))) (by (first | omega | with_reducible assumption | with_reducible exact rng_toInt _ | with_reducible exact rng_wr _ | (unfold rng; omega) | (unfold rng at *; omega) | assumption)) (by (first | omega | with_reducible assumption | with_reducible exact rng_toInt _ | with_reducible exact rng_wr _ | (unfold rng; omega) | (unfold rng at *; omega) | assumption)) (by (first | omega | with_reducible assumption | with_reducible exact rng_toInt _ | with_reducible exact rng_wr _ | (unfold rng; omega) | (unfold rng at *; omega) | assumption)) (fun σ49_1 _ iσ49_1 cσ49_1 pσ49_1 => ?_) (fun σx LLx Nx nux E ix cx ux px => hX σx LLx Nx nux E ix (fσ48.tr (cx.mo (by decide))) (ux) (by first | exact px | exact ⟨by have := px.1; omega, px.2⟩ | (first | omega | with_reducible assumption | with_reducible exact rng_toInt _ | with_reducible exact rng_wr _ | (unfold rng; omega) | (unfold rng at *; omega) | assumption)))
      intro xσ49_1
      exact pσ49_1.elim
set_option maxHeartbeats 1000000 in
theorem i_X6_uniqueText {σ : Sg} {pl : Nat} {gq ci gr nc : Nat → Nat} {ot : Nat → Nat → Int} {LL : Nat → List Nat} {N nu : Nat → Nat} {th : Nat} {tx J o q c : Nat} (iσ : IV σ pl gq ci gr nc ot LL N nu) (kth : kO σ th 6) (hX0 : gP σ th 0 = some tx) (kX : kO σ tx 102) (gX : gn σ tx = 1500) (h7 : gP σ th 7 = some J) (kJ : kO σ J 4) (h8 : gP σ th 8 = some o) (ko : kO σ o 5) (hJq : gq J = q) (hq : q ≠ nc 0 ∧ q ≤ 1) (go : gq o = 16 * q + c) (hc : c < 16) (cJ : gI σ J 1 = (c : Int)) (tf : gI σ th 5 ≤ gI σ th 2 ∧ (gI σ th 3 ≠ 0 → gI σ th 5 + 1 ≤ gI σ th 2)) (h5 : nu 5 < 24000) (lp : gI σ J 7 ≤ 2 * gI σ th 5) (f0 : gI σ o 3 = 0 ∧ gI σ o 4 = 0 ∧ gI σ o 7 = -1 ∧ gI σ o 8 = -1) {Q : Sg → Unit → Prop} {X : Sg → String → Prop} (hQ : ∀ (σ' : Sg) (r : Unit), IV σ' pl gq ci gr nc ot LL N nu → Fx [323, 326, 327, 333, 336, 386, 387, 388, 389, 390, 6464] gr σ σ' → OX o σ σ' → ((gI σ' th 5 ≤ gI σ' th 2 ∧ (gI σ' th 3 ≠ 0 → gI σ' th 5 + 1 ≤ gI σ' th 2)) ∧ gI σ' J 7 ≤ 2 * gI σ' th 5 ∧ OPR σ σ' gq q c o) → Q σ' r) (hX : ∀ (σ' : Sg) (LL' : Nat → List Nat) (N' nu' : Nat → Nat) (E : String), IV σ' pl gq ci gr nc ot LL' N' nu' → Fx [323, 326, 327, 333, 336, 386, 387, 388, 389, 390, 6464] gr σ σ' → NCX nu nu' → (LL' = LL ∧ N' = N ∧ E = "java/lang/IllegalArgumentException" ∧ gI σ' th 6 ≠ 0) → X σ' E) : wp_X6_uniqueText th σ Q X := by
  have fσ : Fx [323, 326, 327, 333, 336, 386, 387, 388, 389, 390, 6464] gr σ σ := Fx.rf
  have oxσ : OX o σ σ := OX.rf
  have q1 := I_4_1 iσ.1 kJ
  have q2 := I_6_5 iσ.1 kth
  have q3 := I_6_2 iσ.1 kth
  have q4 := iσ.rg th 3; unfold rng at q4
  have q5 := I_4_7 iσ.1 kJ
  have q6 := I_5_3 iσ.1 ko
  have q7 := I_5_4 iσ.1 ko
  have q8 := I_5_7 iσ.1 ko
  have q9 := I_5_8 iσ.1 ko
  have ncb := iσ.ncb
  have r70 := I_4_7 iσ.1 kJ
  have r71 := I_4_1 iσ.1 kJ
  unfold wp_X6_uniqueText
  unfold w_X6_uniqueText_0
  refine i_X6_next iσ kth hX0 kX (((Ext.rfl' _) tx kX.1).2.2.trans gX) (by (first | omega | with_reducible assumption | with_reducible exact rng_toInt _ | with_reducible exact rng_wr _ | (unfold rng; omega) | (unfold rng at *; omega) | assumption)) (by (first | omega | with_reducible assumption | with_reducible exact rng_toInt _ | with_reducible exact rng_wr _ | (unfold rng; omega) | (unfold rng at *; omega) | assumption)) (fun σ20 _ iσ20 cσ20 pσ20 => ?_) (fun σx LLx Nx nux E ix cx ux px => hX σx LLx Nx nux E ix (fσ.tr (cx.mo (by decide))) (ux) (by first | exact px | exact ⟨by have := px.1; omega, px.2⟩ | (first | omega | with_reducible assumption | with_reducible exact rng_toInt _ | with_reducible exact rng_wr _ | (unfold rng; omega) | (unfold rng at *; omega) | assumption)))
  intro xσ20
  have fσ20 : Fx [323, 326, 327, 333, 336, 386, 387, 388, 389, 390, 6464] gr σ σ20 := fσ.tr (cσ20.mo (by decide))
  have oxcσ20 : OX o σ σ20 := oxσ.tr (OX.fx cσ20 (by decide) (by decide)) (Ext.rfl' _)
  have kp10 : gI σ20 J 1 = gI σ J 1 := (cσ20.O kJ (by decide)).1
  have kp11 : gI σ20 J 7 = gI σ J 7 := (cσ20.O kJ (by decide)).1
  have kp12 : gI σ20 o 3 = gI σ o 3 := (cσ20.O ko (by decide)).1
  have kp13 : gI σ20 o 4 = gI σ o 4 := (cσ20.O ko (by decide)).1
  have kp14 : gI σ20 o 7 = gI σ o 7 := (cσ20.O ko (by decide)).1
  have kp15 : gI σ20 o 8 = gI σ o 8 := (cσ20.O ko (by decide)).1
  have kp16 : gP σ20 th 0 = gP σ th 0 := (cσ20.O kth (by decide)).2.1
  have kp17 : gP σ20 th 7 = gP σ th 7 := (cσ20.O kth (by decide)).2.1
  have kp18 : gP σ20 th 8 = gP σ th 8 := (cσ20.O kth (by decide)).2.1
  have kp19 : gI σ20 J 2 = gI σ J 2 := (cσ20.O kJ (by decide)).1
  have kp20 : gI σ20 o 6 = gI σ o 6 := (cσ20.O ko (by decide)).1
  have kp21 : gI σ20 o 9 = gI σ o 9 := (cσ20.O ko (by decide)).1
  have r5σ20 := I_6_5 iσ20.1 (kth.up xσ20)
  refine i_X6_firstInput iσ20 (kth.up xσ20) (kp17.trans h7) (kJ.up xσ20) (kp18.trans h8) (ko.up xσ20) (by (first | omega | with_reducible assumption | with_reducible exact rng_toInt _ | with_reducible exact rng_wr _ | (unfold rng; omega) | (unfold rng at *; omega) | assumption)) (by (first | omega | with_reducible assumption | with_reducible exact rng_toInt _ | with_reducible exact rng_wr _ | (unfold rng; omega) | (unfold rng at *; omega) | assumption)) (by (first | omega | with_reducible assumption | with_reducible exact rng_toInt _ | with_reducible exact rng_wr _ | (unfold rng; omega) | (unfold rng at *; omega) | assumption)) (by (first | omega | with_reducible assumption | with_reducible exact rng_toInt _ | with_reducible exact rng_wr _ | (unfold rng; omega) | (unfold rng at *; omega) | assumption)) (by (first | omega | with_reducible assumption | with_reducible exact rng_toInt _ | with_reducible exact rng_wr _ | (unfold rng; omega) | (unfold rng at *; omega) | assumption)) (by (first | omega | with_reducible assumption | with_reducible exact rng_toInt _ | with_reducible exact rng_wr _ | (unfold rng; omega) | (unfold rng at *; omega) | assumption)) (fun σ21 _ iσ21 cσ21 oxσ21 pσ21 => ?_) (fun σx LLx Nx nux E ix cx ux px => hX σx LLx Nx nux E ix (fσ20.tr (cx.mo (by decide))) (ux) (by first | exact px | exact ⟨by have := px.1; omega, px.2⟩ | (first | omega | with_reducible assumption | with_reducible exact rng_toInt _ | with_reducible exact rng_wr _ | (unfold rng; omega) | (unfold rng at *; omega) | assumption)))
  intro xσ21
  have fσ21 : Fx [323, 326, 327, 333, 336, 386, 387, 388, 389, 390, 6464] gr σ σ21 := fσ20.tr (cσ21.mo (by decide))
  have oxcσ21 : OX o σ σ21 := oxcσ20.tr oxσ21 (xσ20)
  have kp22 : gI σ21 J 1 = gI σ20 J 1 := (cσ21.O (kJ.up xσ20) (by decide)).1
  have kp23 : gI σ21 J 7 = gI σ20 J 7 := (cσ21.O (kJ.up xσ20) (by decide)).1
  have kp24 : gI σ21 o 3 = gI σ20 o 3 := (cσ21.O (ko.up xσ20) (by decide)).1
  have kp25 : gI σ21 o 4 = gI σ20 o 4 := (cσ21.O (ko.up xσ20) (by decide)).1
  have kp26 : gI σ21 o 8 = gI σ20 o 8 := (cσ21.O (ko.up xσ20) (by decide)).1
  have kp27 : gP σ21 th 0 = gP σ20 th 0 := (cσ21.O (kth.up xσ20) (by decide)).2.1
  have kp28 : gP σ21 th 7 = gP σ20 th 7 := (cσ21.O (kth.up xσ20) (by decide)).2.1
  have kp29 : gP σ21 th 8 = gP σ20 th 8 := (cσ21.O (kth.up xσ20) (by decide)).2.1
  have kp30 : gI σ21 th 2 = gI σ20 th 2 := (cσ21.O (kth.up xσ20) (by decide)).1
  have kp31 : gI σ21 th 3 = gI σ20 th 3 := (cσ21.O (kth.up xσ20) (by decide)).1
  have kp32 : gI σ21 th 5 = gI σ20 th 5 := (cσ21.O (kth.up xσ20) (by decide)).1
  have kp33 : gI σ21 J 2 = gI σ20 J 2 := (cσ21.O (kJ.up xσ20) (by decide)).1
  have kp34 : gI σ21 o 9 = gI σ20 o 9 := (cσ21.O (ko.up xσ20) (by decide)).1
  refine i_X6_next iσ21 (kth.up (xσ20.trans xσ21)) (kp27.trans (kp16.trans hX0)) (kX.up (xσ20.trans xσ21)) (((xσ20.trans xσ21) tx kX.1).2.2.trans gX) (by (first | omega | with_reducible assumption | with_reducible exact rng_toInt _ | with_reducible exact rng_wr _ | (unfold rng; omega) | (unfold rng at *; omega) | assumption)) (by (first | omega | with_reducible assumption | with_reducible exact rng_toInt _ | with_reducible exact rng_wr _ | (unfold rng; omega) | (unfold rng at *; omega) | assumption)) (fun σ22 _ iσ22 cσ22 pσ22 => ?_) (fun σx LLx Nx nux E ix cx ux px => hX σx LLx Nx nux E ix (fσ21.tr (cx.mo (by decide))) (ux) (by first | exact px | exact ⟨by have := px.1; omega, px.2⟩ | (first | omega | with_reducible assumption | with_reducible exact rng_toInt _ | with_reducible exact rng_wr _ | (unfold rng; omega) | (unfold rng at *; omega) | assumption)))
  intro xσ22
  have fσ22 : Fx [323, 326, 327, 333, 336, 386, 387, 388, 389, 390, 6464] gr σ σ22 := fσ21.tr (cσ22.mo (by decide))
  have oxcσ22 : OX o σ σ22 := oxcσ21.tr (OX.fx cσ22 (by decide) (by decide)) (xσ20.trans xσ21)
  have kp35 : gI σ22 J 1 = gI σ21 J 1 := (cσ22.O (kJ.up (xσ20.trans xσ21)) (by decide)).1
  have kp36 : gI σ22 J 7 = gI σ21 J 7 := (cσ22.O (kJ.up (xσ20.trans xσ21)) (by decide)).1
  have kp37 : gI σ22 o 3 = gI σ21 o 3 := (cσ22.O (ko.up (xσ20.trans xσ21)) (by decide)).1
  have kp38 : gI σ22 o 4 = gI σ21 o 4 := (cσ22.O (ko.up (xσ20.trans xσ21)) (by decide)).1
  have kp39 : gI σ22 o 8 = gI σ21 o 8 := (cσ22.O (ko.up (xσ20.trans xσ21)) (by decide)).1
  have kp40 : gP σ22 th 0 = gP σ21 th 0 := (cσ22.O (kth.up (xσ20.trans xσ21)) (by decide)).2.1
  have kp41 : gP σ22 th 7 = gP σ21 th 7 := (cσ22.O (kth.up (xσ20.trans xσ21)) (by decide)).2.1
  have kp42 : gP σ22 th 8 = gP σ21 th 8 := (cσ22.O (kth.up (xσ20.trans xσ21)) (by decide)).2.1
  have kp43 : gI σ22 J 2 = gI σ21 J 2 := (cσ22.O (kJ.up (xσ20.trans xσ21)) (by decide)).1
  have kp44 : gI σ22 o 6 = gI σ21 o 6 := (cσ22.O (ko.up (xσ20.trans xσ21)) (by decide)).1
  have kp45 : gI σ22 o 7 = gI σ21 o 7 := (cσ22.O (ko.up (xσ20.trans xσ21)) (by decide)).1
  have kp46 : gI σ22 o 9 = gI σ21 o 9 := (cσ22.O (ko.up (xσ20.trans xσ21)) (by decide)).1
  have r5σ22 := I_6_5 iσ22.1 (kth.up (xσ20.trans (xσ21.trans xσ22)))
  refine ⟨J, (kp41.trans (kp28.trans (kp17.trans h7))), fun kk_J => ?_⟩
  refine ⟨o, (kp42.trans (kp29.trans (kp18.trans h8))), fun kk_o => ?_⟩
  obtain ⟨b, eb, fb⟩ := P_4_0 iσ22.1 (kJ.up (xσ20.trans (xσ21.trans xσ22)))
  have mb : kO σ22 b 115 := iσ22.1.kd (kJ.up (xσ20.trans (xσ21.trans xσ22))) rfl eb rfl
  refine ⟨b, eb, fun kk_b => ?_⟩
  have q47 := I_5_7 iσ22.1 (ko.up (xσ20.trans (xσ21.trans xσ22)))
  refine ⟨⟨by (first | omega | with_reducible assumption | with_reducible exact rng_toInt _ | with_reducible exact rng_wr _ | (unfold rng; omega) | (unfold rng at *; omega) | assumption), by (first | omega | with_reducible assumption | with_reducible exact rng_toInt _ | with_reducible exact rng_wr _ | (unfold rng; omega) | (unfold rng at *; omega) | assumption)⟩, ?_⟩
  obtain ⟨b_1, eb_1⟩ := P_115 iσ22.1 mb (k := (gI σ22 o 7).toNat) (by (first | omega | with_reducible assumption | with_reducible exact rng_toInt _ | with_reducible exact rng_wr _ | (unfold rng; omega) | (unfold rng at *; omega) | assumption))
  have fb_1 := T_115 iσ22.1 mb eb_1
  have mb_1 : kO σ22 b_1 5 := iσ22.1.kd mb rfl eb_1 rfl
  refine i_X5_addColumnsOf iσ22 (ko.up (xσ20.trans (xσ21.trans xσ22))) eb_1 mb_1 (by (first | omega | with_reducible assumption | with_reducible exact rng_toInt _ | with_reducible exact rng_wr _ | (unfold rng; omega) | (unfold rng at *; omega) | assumption)) (by (first | omega | with_reducible assumption | with_reducible exact rng_toInt _ | with_reducible exact rng_wr _ | (unfold rng; omega) | (unfold rng at *; omega) | assumption)) (by (first | omega | with_reducible assumption | with_reducible exact rng_toInt _ | with_reducible exact rng_wr _ | (unfold rng; omega) | (unfold rng at *; omega) | assumption)) (fun e => absurd (congrArg gq e) (by omega)) (fun σ26 _ iσ26 cσ26 oxσ26 pσ26 => ?_)
  intro xσ26
  have fσ26 : Fx [323, 326, 327, 333, 336, 386, 387, 388, 389, 390, 6464] gr σ σ26 := fσ22.tr (cσ26.mo (by decide))
  have oxcσ26 : OX o σ σ26 := oxcσ22.tr oxσ26 (xσ20.trans (xσ21.trans xσ22))
  have kp48 : gI σ26 J 1 = gI σ22 J 1 := (cσ26.O (kJ.up (xσ20.trans (xσ21.trans xσ22))) (by decide)).1
  have kp49 : gI σ26 J 7 = gI σ22 J 7 := (cσ26.O (kJ.up (xσ20.trans (xσ21.trans xσ22))) (by decide)).1
  have kp50 : gI σ26 o 4 = gI σ22 o 4 := (cσ26.O (ko.up (xσ20.trans (xσ21.trans xσ22))) (by decide)).1
  have kp51 : gI σ26 o 7 = gI σ22 o 7 := (cσ26.O (ko.up (xσ20.trans (xσ21.trans xσ22))) (by decide)).1
  have kp52 : gI σ26 o 8 = gI σ22 o 8 := (cσ26.O (ko.up (xσ20.trans (xσ21.trans xσ22))) (by decide)).1
  have kp53 : gP σ26 J 0 = gP σ22 J 0 := (cσ26.O (kJ.up (xσ20.trans (xσ21.trans xσ22))) (by decide)).2.1
  have kp54 : gP σ26 b (gI σ22 o 7).toNat = gP σ22 b (gI σ22 o 7).toNat := (cσ26.A mb (by decide)).2.1
  have kp55 : gP σ26 th 0 = gP σ22 th 0 := (cσ26.O (kth.up (xσ20.trans (xσ21.trans xσ22))) (by decide)).2.1
  have kp56 : gP σ26 th 7 = gP σ22 th 7 := (cσ26.O (kth.up (xσ20.trans (xσ21.trans xσ22))) (by decide)).2.1
  have kp57 : gP σ26 th 8 = gP σ22 th 8 := (cσ26.O (kth.up (xσ20.trans (xσ21.trans xσ22))) (by decide)).2.1
  have kp58 : gI σ26 th 2 = gI σ22 th 2 := (cσ26.O (kth.up (xσ20.trans (xσ21.trans xσ22))) (by decide)).1
  have kp59 : gI σ26 th 3 = gI σ22 th 3 := (cσ26.O (kth.up (xσ20.trans (xσ21.trans xσ22))) (by decide)).1
  have kp60 : gI σ26 th 5 = gI σ22 th 5 := (cσ26.O (kth.up (xσ20.trans (xσ21.trans xσ22))) (by decide)).1
  have kp61 : gI σ26 J 2 = gI σ22 J 2 := (cσ26.O (kJ.up (xσ20.trans (xσ21.trans xσ22))) (by decide)).1
  have kp62 : gI σ26 o 6 = gI σ22 o 6 := (cσ26.O (ko.up (xσ20.trans (xσ21.trans xσ22))) (by decide)).1
  have kp63 : gI σ26 o 9 = gI σ22 o 9 := (cσ26.O (ko.up (xσ20.trans (xσ21.trans xσ22))) (by decide)).1
  refine i_X6_wantWord iσ26 (kth.up (xσ20.trans (xσ21.trans (xσ22.trans xσ26)))) (kp55.trans (kp40.trans (kp27.trans (kp16.trans hX0)))) (kX.up (xσ20.trans (xσ21.trans (xσ22.trans xσ26)))) (((xσ20.trans (xσ21.trans (xσ22.trans xσ26))) tx kX.1).2.2.trans gX) (by (first | omega | with_reducible assumption | with_reducible exact rng_toInt _ | with_reducible exact rng_wr _ | (unfold rng; omega) | (unfold rng at *; omega) | assumption)) (by (first | omega | with_reducible assumption | with_reducible exact rng_toInt _ | with_reducible exact rng_wr _ | (unfold rng; omega) | (unfold rng at *; omega) | assumption)) (fun σ27 _ iσ27 cσ27 pσ27 => ?_) (fun σx LLx Nx nux E ix cx ux px => hX σx LLx Nx nux E ix (fσ26.tr (cx.mo (by decide))) (ux) (by first | exact px | exact ⟨by have := px.1; omega, px.2⟩ | (first | omega | with_reducible assumption | with_reducible exact rng_toInt _ | with_reducible exact rng_wr _ | (unfold rng; omega) | (unfold rng at *; omega) | assumption)))
  intro xσ27
  have fσ27 : Fx [323, 326, 327, 333, 336, 386, 387, 388, 389, 390, 6464] gr σ σ27 := fσ26.tr (cσ27.mo (by decide))
  have oxcσ27 : OX o σ σ27 := oxcσ26.tr (OX.fx cσ27 (by decide) (by decide)) (xσ20.trans (xσ21.trans (xσ22.trans xσ26)))
  have kp64 : gI σ27 J 1 = gI σ26 J 1 := (cσ27.O (kJ.up (xσ20.trans (xσ21.trans (xσ22.trans xσ26)))) (by decide)).1
  have kp65 : gI σ27 J 7 = gI σ26 J 7 := (cσ27.O (kJ.up (xσ20.trans (xσ21.trans (xσ22.trans xσ26)))) (by decide)).1
  have kp66 : gI σ27 o 4 = gI σ26 o 4 := (cσ27.O (ko.up (xσ20.trans (xσ21.trans (xσ22.trans xσ26)))) (by decide)).1
  have kp67 : gI σ27 o 7 = gI σ26 o 7 := (cσ27.O (ko.up (xσ20.trans (xσ21.trans (xσ22.trans xσ26)))) (by decide)).1
  have kp68 : gI σ27 o 8 = gI σ26 o 8 := (cσ27.O (ko.up (xσ20.trans (xσ21.trans (xσ22.trans xσ26)))) (by decide)).1
  have kp69 : gP σ27 J 0 = gP σ26 J 0 := (cσ27.O (kJ.up (xσ20.trans (xσ21.trans (xσ22.trans xσ26)))) (by decide)).2.1
  have kp70 : gP σ27 b (gI σ22 o 7).toNat = gP σ26 b (gI σ22 o 7).toNat := (cσ27.A (mb.up xσ26) (by decide)).2.1
  have kp71 : gP σ27 th 0 = gP σ26 th 0 := (cσ27.O (kth.up (xσ20.trans (xσ21.trans (xσ22.trans xσ26)))) (by decide)).2.1
  have kp72 : gP σ27 th 7 = gP σ26 th 7 := (cσ27.O (kth.up (xσ20.trans (xσ21.trans (xσ22.trans xσ26)))) (by decide)).2.1
  have kp73 : gP σ27 th 8 = gP σ26 th 8 := (cσ27.O (kth.up (xσ20.trans (xσ21.trans (xσ22.trans xσ26)))) (by decide)).2.1
  have kp74 : gI σ27 J 2 = gI σ26 J 2 := (cσ27.O (kJ.up (xσ20.trans (xσ21.trans (xσ22.trans xσ26)))) (by decide)).1
  have kp75 : gI σ27 o 3 = gI σ26 o 3 := (cσ27.O (ko.up (xσ20.trans (xσ21.trans (xσ22.trans xσ26)))) (by decide)).1
  have kp76 : gI σ27 o 6 = gI σ26 o 6 := (cσ27.O (ko.up (xσ20.trans (xσ21.trans (xσ22.trans xσ26)))) (by decide)).1
  have kp77 : gI σ27 o 9 = gI σ26 o 9 := (cσ27.O (ko.up (xσ20.trans (xσ21.trans (xσ22.trans xσ26)))) (by decide)).1
  have r5σ27 := I_6_5 iσ27.1 (kth.up (xσ20.trans (xσ21.trans (xσ22.trans (xσ26.trans xσ27)))))
  refine i_X6_column iσ27 (kth.up (xσ20.trans (xσ21.trans (xσ22.trans (xσ26.trans xσ27))))) (kp73.trans (kp57.trans (kp42.trans (kp29.trans (kp18.trans h8))))) (ko.up (xσ20.trans (xσ21.trans (xσ22.trans (xσ26.trans xσ27))))) (by (first | omega | with_reducible assumption | with_reducible exact rng_toInt _ | with_reducible exact rng_wr _ | (unfold rng; omega) | (unfold rng at *; omega) | assumption)) (fun σ28 r29 iσ28 cσ28 pσ28 => ?_) (fun σx LLx Nx nux E ix cx ux px => hX σx LLx Nx nux E ix (fσ27.tr (cx.mo (by decide))) (ux) (by first | exact px | exact ⟨by have := px.1; omega, px.2⟩ | (first | omega | with_reducible assumption | with_reducible exact rng_toInt _ | with_reducible exact rng_wr _ | (unfold rng; omega) | (unfold rng at *; omega) | assumption)))
  intro xσ28
  have fσ28 : Fx [323, 326, 327, 333, 336, 386, 387, 388, 389, 390, 6464] gr σ σ28 := fσ27.tr (cσ28.mo (by decide))
  have oxcσ28 : OX o σ σ28 := oxcσ27.tr (OX.fx cσ28 (by decide) (by decide)) (xσ20.trans (xσ21.trans (xσ22.trans (xσ26.trans xσ27))))
  have kp78 : gI σ28 J 1 = gI σ27 J 1 := (cσ28.O (kJ.up (xσ20.trans (xσ21.trans (xσ22.trans (xσ26.trans xσ27))))) (by decide)).1
  have kp79 : gI σ28 J 7 = gI σ27 J 7 := (cσ28.O (kJ.up (xσ20.trans (xσ21.trans (xσ22.trans (xσ26.trans xσ27))))) (by decide)).1
  have kp80 : gI σ28 o 4 = gI σ27 o 4 := (cσ28.O (ko.up (xσ20.trans (xσ21.trans (xσ22.trans (xσ26.trans xσ27))))) (by decide)).1
  have kp81 : gI σ28 o 7 = gI σ27 o 7 := (cσ28.O (ko.up (xσ20.trans (xσ21.trans (xσ22.trans (xσ26.trans xσ27))))) (by decide)).1
  have kp82 : gI σ28 o 8 = gI σ27 o 8 := (cσ28.O (ko.up (xσ20.trans (xσ21.trans (xσ22.trans (xσ26.trans xσ27))))) (by decide)).1
  have kp83 : gP σ28 J 0 = gP σ27 J 0 := (cσ28.O (kJ.up (xσ20.trans (xσ21.trans (xσ22.trans (xσ26.trans xσ27))))) (by decide)).2.1
  have kp84 : gP σ28 b (gI σ22 o 7).toNat = gP σ27 b (gI σ22 o 7).toNat := (cσ28.A (mb.up (xσ26.trans xσ27)) (by decide)).2.1
  have kp85 : gP σ28 th 0 = gP σ27 th 0 := (cσ28.O (kth.up (xσ20.trans (xσ21.trans (xσ22.trans (xσ26.trans xσ27))))) (by decide)).2.1
  have kp86 : gP σ28 th 7 = gP σ27 th 7 := (cσ28.O (kth.up (xσ20.trans (xσ21.trans (xσ22.trans (xσ26.trans xσ27))))) (by decide)).2.1
  have kp87 : gP σ28 th 8 = gP σ27 th 8 := (cσ28.O (kth.up (xσ20.trans (xσ21.trans (xσ22.trans (xσ26.trans xσ27))))) (by decide)).2.1
  have kp88 : gI σ28 th 2 = gI σ27 th 2 := (cσ28.O (kth.up (xσ20.trans (xσ21.trans (xσ22.trans (xσ26.trans xσ27))))) (by decide)).1
  have kp89 : gI σ28 th 3 = gI σ27 th 3 := (cσ28.O (kth.up (xσ20.trans (xσ21.trans (xσ22.trans (xσ26.trans xσ27))))) (by decide)).1
  have kp90 : gI σ28 th 5 = gI σ27 th 5 := (cσ28.O (kth.up (xσ20.trans (xσ21.trans (xσ22.trans (xσ26.trans xσ27))))) (by decide)).1
  have kp91 : gI σ28 J 2 = gI σ27 J 2 := (cσ28.O (kJ.up (xσ20.trans (xσ21.trans (xσ22.trans (xσ26.trans xσ27))))) (by decide)).1
  have kp92 : gI σ28 o 3 = gI σ27 o 3 := (cσ28.O (ko.up (xσ20.trans (xσ21.trans (xσ22.trans (xσ26.trans xσ27))))) (by decide)).1
  have kp93 : gI σ28 o 6 = gI σ27 o 6 := (cσ28.O (ko.up (xσ20.trans (xσ21.trans (xσ22.trans (xσ26.trans xσ27))))) (by decide)).1
  have kp94 : gI σ28 o 9 = gI σ27 o 9 := (cσ28.O (ko.up (xσ20.trans (xσ21.trans (xσ22.trans (xσ26.trans xσ27))))) (by decide)).1
  refine ⟨o, (kp73.trans (kp57.trans (kp42.trans (kp29.trans (kp18.trans h8))))), fun kk_o_1 => ?_⟩
  intro σ31 eσ31
  have xσ31 : Ext σ28 σ31 := by rw [eσ31]; exact fun _ h => ⟨h, rfl, rfl⟩
  have iσ31 : IV σ31 pl gq ci gr nc ot LL N nu := by rw [eσ31]; exact iσ28.wSp (ko.up (xσ20.trans (xσ21.trans (xσ22.trans (xσ26.trans (xσ27.trans xσ28)))))) (fun i hi => by omega) (by decide) (show (0 : Int) ≤ r29 ∧ r29 ≤ 7 from ⟨by omega, by omega⟩)
  have fσ31 : Fx [323, 326, 327, 333, 336, 386, 387, 388, 389, 390, 6464] gr σ σ31 := fσ28.tr (Sk.fx (by rw [eσ31]; exact Sk.pI (by rw [fcdO (ko.up (xσ20.trans (xσ21.trans (xσ22.trans (xσ26.trans (xσ27.trans xσ28)))))) (by decide)]; decide)))
  have oxcσ31 : OX o σ σ31 := oxcσ28.tr (by rw [eσ31]; exact OX.pI (ko.up (xσ20.trans (xσ21.trans (xσ22.trans (xσ26.trans (xσ27.trans xσ28)))))) (Or.inr rfl)) (xσ20.trans (xσ21.trans (xσ22.trans (xσ26.trans (xσ27.trans xσ28)))))
  have wσ31 : gI σ31 o 13 = r29 := by rw [eσ31]; exact up2_s _ _ _ _
  have kp95 : gI σ31 J 1 = gI σ28 J 1 := by rw [eσ31]; exact up2_n _ _ (fun q => absurd q.2 (by decide))
  have kp96 : gI σ31 J 7 = gI σ28 J 7 := by rw [eσ31]; exact up2_n _ _ (fun q => absurd q.2 (by decide))
  have kp97 : gI σ31 o 4 = gI σ28 o 4 := by rw [eσ31]; exact up2_n _ _ (fun q => absurd q.2 (by decide))
  have kp98 : gI σ31 o 7 = gI σ28 o 7 := by rw [eσ31]; exact up2_n _ _ (fun q => absurd q.2 (by decide))
  have kp99 : gI σ31 o 8 = gI σ28 o 8 := by rw [eσ31]; exact up2_n _ _ (fun q => absurd q.2 (by decide))
  have kp100 : gP σ31 J 0 = gP σ28 J 0 := by rw [eσ31]
  have kp101 : gP σ31 b (gI σ22 o 7).toNat = gP σ28 b (gI σ22 o 7).toNat := by rw [eσ31]
  have kp102 : gP σ31 th 0 = gP σ28 th 0 := by rw [eσ31]
  have kp103 : gP σ31 th 7 = gP σ28 th 7 := by rw [eσ31]
  have kp104 : gP σ31 th 8 = gP σ28 th 8 := by rw [eσ31]
  have kp105 : gI σ31 th 2 = gI σ28 th 2 := by rw [eσ31]; exact up2_n _ _ (fun q => absurd q.2 (by decide))
  have kp106 : gI σ31 th 3 = gI σ28 th 3 := by rw [eσ31]; exact up2_n _ _ (fun q => absurd q.2 (by decide))
  have kp107 : gI σ31 th 5 = gI σ28 th 5 := by rw [eσ31]; exact up2_n _ _ (fun q => absurd q.2 (by decide))
  have kp108 : gI σ31 J 2 = gI σ28 J 2 := by rw [eσ31]; exact up2_n _ _ (fun q => absurd q.2 (by decide))
  have kp109 : gI σ31 o 3 = gI σ28 o 3 := by rw [eσ31]; exact up2_n _ _ (fun q => absurd q.2 (by decide))
  have kp110 : gI σ31 o 6 = gI σ28 o 6 := by rw [eσ31]; exact up2_n _ _ (fun q => absurd q.2 (by decide))
  have kp111 : gI σ31 o 9 = gI σ28 o 9 := by rw [eσ31]; exact up2_n _ _ (fun q => absurd q.2 (by decide))
  refine i_X6_next iσ31 (kth.up (xσ20.trans (xσ21.trans (xσ22.trans (xσ26.trans (xσ27.trans (xσ28.trans xσ31))))))) (kp102.trans (kp85.trans (kp71.trans (kp55.trans (kp40.trans (kp27.trans (kp16.trans hX0))))))) (kX.up (xσ20.trans (xσ21.trans (xσ22.trans (xσ26.trans (xσ27.trans (xσ28.trans xσ31))))))) (((xσ20.trans (xσ21.trans (xσ22.trans (xσ26.trans (xσ27.trans (xσ28.trans xσ31)))))) tx kX.1).2.2.trans gX) (by (first | omega | with_reducible assumption | with_reducible exact rng_toInt _ | with_reducible exact rng_wr _ | (unfold rng; omega) | (unfold rng at *; omega) | assumption)) (by (first | omega | with_reducible assumption | with_reducible exact rng_toInt _ | with_reducible exact rng_wr _ | (unfold rng; omega) | (unfold rng at *; omega) | assumption)) (fun σ32 _ iσ32 cσ32 pσ32 => ?_) (fun σx LLx Nx nux E ix cx ux px => hX σx LLx Nx nux E ix (fσ31.tr (cx.mo (by decide))) (ux) (by first | exact px | exact ⟨by have := px.1; omega, px.2⟩ | (first | omega | with_reducible assumption | with_reducible exact rng_toInt _ | with_reducible exact rng_wr _ | (unfold rng; omega) | (unfold rng at *; omega) | assumption)))
  intro xσ32
  have fσ32 : Fx [323, 326, 327, 333, 336, 386, 387, 388, 389, 390, 6464] gr σ σ32 := fσ31.tr (cσ32.mo (by decide))
  have oxcσ32 : OX o σ σ32 := oxcσ31.tr (OX.fx cσ32 (by decide) (by decide)) (xσ20.trans (xσ21.trans (xσ22.trans (xσ26.trans (xσ27.trans (xσ28.trans xσ31))))))
  have kp112 : gI σ32 J 1 = gI σ31 J 1 := (cσ32.O (kJ.up (xσ20.trans (xσ21.trans (xσ22.trans (xσ26.trans (xσ27.trans (xσ28.trans xσ31))))))) (by decide)).1
  have kp113 : gI σ32 J 7 = gI σ31 J 7 := (cσ32.O (kJ.up (xσ20.trans (xσ21.trans (xσ22.trans (xσ26.trans (xσ27.trans (xσ28.trans xσ31))))))) (by decide)).1
  have kp114 : gI σ32 o 13 = gI σ31 o 13 := (cσ32.O (ko.up (xσ20.trans (xσ21.trans (xσ22.trans (xσ26.trans (xσ27.trans (xσ28.trans xσ31))))))) (by decide)).1
  have kp115 : gI σ32 o 4 = gI σ31 o 4 := (cσ32.O (ko.up (xσ20.trans (xσ21.trans (xσ22.trans (xσ26.trans (xσ27.trans (xσ28.trans xσ31))))))) (by decide)).1
  have kp116 : gI σ32 o 7 = gI σ31 o 7 := (cσ32.O (ko.up (xσ20.trans (xσ21.trans (xσ22.trans (xσ26.trans (xσ27.trans (xσ28.trans xσ31))))))) (by decide)).1
  have kp117 : gI σ32 o 8 = gI σ31 o 8 := (cσ32.O (ko.up (xσ20.trans (xσ21.trans (xσ22.trans (xσ26.trans (xσ27.trans (xσ28.trans xσ31))))))) (by decide)).1
  have kp118 : gP σ32 J 0 = gP σ31 J 0 := (cσ32.O (kJ.up (xσ20.trans (xσ21.trans (xσ22.trans (xσ26.trans (xσ27.trans (xσ28.trans xσ31))))))) (by decide)).2.1
  have kp119 : gP σ32 b (gI σ22 o 7).toNat = gP σ31 b (gI σ22 o 7).toNat := (cσ32.A (mb.up (xσ26.trans (xσ27.trans (xσ28.trans xσ31)))) (by decide)).2.1
  have kp120 : gP σ32 th 0 = gP σ31 th 0 := (cσ32.O (kth.up (xσ20.trans (xσ21.trans (xσ22.trans (xσ26.trans (xσ27.trans (xσ28.trans xσ31))))))) (by decide)).2.1
  have kp121 : gP σ32 th 7 = gP σ31 th 7 := (cσ32.O (kth.up (xσ20.trans (xσ21.trans (xσ22.trans (xσ26.trans (xσ27.trans (xσ28.trans xσ31))))))) (by decide)).2.1
  have kp122 : gP σ32 th 8 = gP σ31 th 8 := (cσ32.O (kth.up (xσ20.trans (xσ21.trans (xσ22.trans (xσ26.trans (xσ27.trans (xσ28.trans xσ31))))))) (by decide)).2.1
  have kp123 : gI σ32 J 2 = gI σ31 J 2 := (cσ32.O (kJ.up (xσ20.trans (xσ21.trans (xσ22.trans (xσ26.trans (xσ27.trans (xσ28.trans xσ31))))))) (by decide)).1
  have kp124 : gI σ32 o 3 = gI σ31 o 3 := (cσ32.O (ko.up (xσ20.trans (xσ21.trans (xσ22.trans (xσ26.trans (xσ27.trans (xσ28.trans xσ31))))))) (by decide)).1
  have kp125 : gI σ32 o 6 = gI σ31 o 6 := (cσ32.O (ko.up (xσ20.trans (xσ21.trans (xσ22.trans (xσ26.trans (xσ27.trans (xσ28.trans xσ31))))))) (by decide)).1
  have kp126 : gI σ32 o 9 = gI σ31 o 9 := (cσ32.O (ko.up (xσ20.trans (xσ21.trans (xσ22.trans (xσ26.trans (xσ27.trans (xσ28.trans xσ31))))))) (by decide)).1
  have r5σ32 := I_6_5 iσ32.1 (kth.up (xσ20.trans (xσ21.trans (xσ22.trans (xσ26.trans (xσ27.trans (xσ28.trans (xσ31.trans xσ32))))))))
  refine i_X6_wantWord iσ32 (kth.up (xσ20.trans (xσ21.trans (xσ22.trans (xσ26.trans (xσ27.trans (xσ28.trans (xσ31.trans xσ32)))))))) (kp120.trans (kp102.trans (kp85.trans (kp71.trans (kp55.trans (kp40.trans (kp27.trans (kp16.trans hX0)))))))) (kX.up (xσ20.trans (xσ21.trans (xσ22.trans (xσ26.trans (xσ27.trans (xσ28.trans (xσ31.trans xσ32)))))))) (((xσ20.trans (xσ21.trans (xσ22.trans (xσ26.trans (xσ27.trans (xσ28.trans (xσ31.trans xσ32))))))) tx kX.1).2.2.trans gX) (by (first | omega | with_reducible assumption | with_reducible exact rng_toInt _ | with_reducible exact rng_wr _ | (unfold rng; omega) | (unfold rng at *; omega) | assumption)) (by (first | omega | with_reducible assumption | with_reducible exact rng_toInt _ | with_reducible exact rng_wr _ | (unfold rng; omega) | (unfold rng at *; omega) | assumption)) (fun σ33 _ iσ33 cσ33 pσ33 => ?_) (fun σx LLx Nx nux E ix cx ux px => hX σx LLx Nx nux E ix (fσ32.tr (cx.mo (by decide))) (ux) (by first | exact px | exact ⟨by have := px.1; omega, px.2⟩ | (first | omega | with_reducible assumption | with_reducible exact rng_toInt _ | with_reducible exact rng_wr _ | (unfold rng; omega) | (unfold rng at *; omega) | assumption)))
  intro xσ33
  have fσ33 : Fx [323, 326, 327, 333, 336, 386, 387, 388, 389, 390, 6464] gr σ σ33 := fσ32.tr (cσ33.mo (by decide))
  have oxcσ33 : OX o σ σ33 := oxcσ32.tr (OX.fx cσ33 (by decide) (by decide)) (xσ20.trans (xσ21.trans (xσ22.trans (xσ26.trans (xσ27.trans (xσ28.trans (xσ31.trans xσ32)))))))
  have kp127 : gI σ33 J 1 = gI σ32 J 1 := (cσ33.O (kJ.up (xσ20.trans (xσ21.trans (xσ22.trans (xσ26.trans (xσ27.trans (xσ28.trans (xσ31.trans xσ32)))))))) (by decide)).1
  have kp128 : gI σ33 J 7 = gI σ32 J 7 := (cσ33.O (kJ.up (xσ20.trans (xσ21.trans (xσ22.trans (xσ26.trans (xσ27.trans (xσ28.trans (xσ31.trans xσ32)))))))) (by decide)).1
  have kp129 : gI σ33 o 13 = gI σ32 o 13 := (cσ33.O (ko.up (xσ20.trans (xσ21.trans (xσ22.trans (xσ26.trans (xσ27.trans (xσ28.trans (xσ31.trans xσ32)))))))) (by decide)).1
  have kp130 : gI σ33 o 4 = gI σ32 o 4 := (cσ33.O (ko.up (xσ20.trans (xσ21.trans (xσ22.trans (xσ26.trans (xσ27.trans (xσ28.trans (xσ31.trans xσ32)))))))) (by decide)).1
  have kp131 : gI σ33 o 7 = gI σ32 o 7 := (cσ33.O (ko.up (xσ20.trans (xσ21.trans (xσ22.trans (xσ26.trans (xσ27.trans (xσ28.trans (xσ31.trans xσ32)))))))) (by decide)).1
  have kp132 : gI σ33 o 8 = gI σ32 o 8 := (cσ33.O (ko.up (xσ20.trans (xσ21.trans (xσ22.trans (xσ26.trans (xσ27.trans (xσ28.trans (xσ31.trans xσ32)))))))) (by decide)).1
  have kp133 : gP σ33 J 0 = gP σ32 J 0 := (cσ33.O (kJ.up (xσ20.trans (xσ21.trans (xσ22.trans (xσ26.trans (xσ27.trans (xσ28.trans (xσ31.trans xσ32)))))))) (by decide)).2.1
  have kp134 : gP σ33 b (gI σ22 o 7).toNat = gP σ32 b (gI σ22 o 7).toNat := (cσ33.A (mb.up (xσ26.trans (xσ27.trans (xσ28.trans (xσ31.trans xσ32))))) (by decide)).2.1
  have kp135 : gP σ33 th 0 = gP σ32 th 0 := (cσ33.O (kth.up (xσ20.trans (xσ21.trans (xσ22.trans (xσ26.trans (xσ27.trans (xσ28.trans (xσ31.trans xσ32)))))))) (by decide)).2.1
  have kp136 : gP σ33 th 7 = gP σ32 th 7 := (cσ33.O (kth.up (xσ20.trans (xσ21.trans (xσ22.trans (xσ26.trans (xσ27.trans (xσ28.trans (xσ31.trans xσ32)))))))) (by decide)).2.1
  have kp137 : gP σ33 th 8 = gP σ32 th 8 := (cσ33.O (kth.up (xσ20.trans (xσ21.trans (xσ22.trans (xσ26.trans (xσ27.trans (xσ28.trans (xσ31.trans xσ32)))))))) (by decide)).2.1
  have kp138 : gI σ33 J 2 = gI σ32 J 2 := (cσ33.O (kJ.up (xσ20.trans (xσ21.trans (xσ22.trans (xσ26.trans (xσ27.trans (xσ28.trans (xσ31.trans xσ32)))))))) (by decide)).1
  have kp139 : gI σ33 o 3 = gI σ32 o 3 := (cσ33.O (ko.up (xσ20.trans (xσ21.trans (xσ22.trans (xσ26.trans (xσ27.trans (xσ28.trans (xσ31.trans xσ32)))))))) (by decide)).1
  have kp140 : gI σ33 o 6 = gI σ32 o 6 := (cσ33.O (ko.up (xσ20.trans (xσ21.trans (xσ22.trans (xσ26.trans (xσ27.trans (xσ28.trans (xσ31.trans xσ32)))))))) (by decide)).1
  have kp141 : gI σ33 o 9 = gI σ32 o 9 := (cσ33.O (ko.up (xσ20.trans (xσ21.trans (xσ22.trans (xσ26.trans (xσ27.trans (xσ28.trans (xσ31.trans xσ32)))))))) (by decide)).1
  have r5σ33 := I_6_5 iσ33.1 (kth.up (xσ20.trans (xσ21.trans (xσ22.trans (xσ26.trans (xσ27.trans (xσ28.trans (xσ31.trans (xσ32.trans xσ33)))))))))
  refine i_X6_number iσ33 (kth.up (xσ20.trans (xσ21.trans (xσ22.trans (xσ26.trans (xσ27.trans (xσ28.trans (xσ31.trans (xσ32.trans xσ33))))))))) (by (first | omega | with_reducible assumption | with_reducible exact rng_toInt _ | with_reducible exact rng_wr _ | (unfold rng; omega) | (unfold rng at *; omega) | assumption)) (by (first | omega | with_reducible assumption | with_reducible exact rng_toInt _ | with_reducible exact rng_wr _ | (unfold rng; omega) | (unfold rng at *; omega) | assumption)) (fun σ34 r35 iσ34 cσ34 pσ34 => ?_) (fun σx LLx Nx nux E ix cx ux px => hX σx LLx Nx nux E ix (fσ33.tr (cx.mo (by decide))) (ux) (by first | exact px | exact ⟨by have := px.1; omega, px.2⟩ | (first | omega | with_reducible assumption | with_reducible exact rng_toInt _ | with_reducible exact rng_wr _ | (unfold rng; omega) | (unfold rng at *; omega) | assumption)))
  intro xσ34
  have fσ34 : Fx [323, 326, 327, 333, 336, 386, 387, 388, 389, 390, 6464] gr σ σ34 := fσ33.tr (cσ34.mo (by decide))
  have oxcσ34 : OX o σ σ34 := oxcσ33.tr (OX.fx cσ34 (by decide) (by decide)) (xσ20.trans (xσ21.trans (xσ22.trans (xσ26.trans (xσ27.trans (xσ28.trans (xσ31.trans (xσ32.trans xσ33))))))))
  have kp142 : gI σ34 J 1 = gI σ33 J 1 := (cσ34.O (kJ.up (xσ20.trans (xσ21.trans (xσ22.trans (xσ26.trans (xσ27.trans (xσ28.trans (xσ31.trans (xσ32.trans xσ33))))))))) (by decide)).1
  have kp143 : gI σ34 J 7 = gI σ33 J 7 := (cσ34.O (kJ.up (xσ20.trans (xσ21.trans (xσ22.trans (xσ26.trans (xσ27.trans (xσ28.trans (xσ31.trans (xσ32.trans xσ33))))))))) (by decide)).1
  have kp144 : gI σ34 o 13 = gI σ33 o 13 := (cσ34.O (ko.up (xσ20.trans (xσ21.trans (xσ22.trans (xσ26.trans (xσ27.trans (xσ28.trans (xσ31.trans (xσ32.trans xσ33))))))))) (by decide)).1
  have kp145 : gI σ34 o 4 = gI σ33 o 4 := (cσ34.O (ko.up (xσ20.trans (xσ21.trans (xσ22.trans (xσ26.trans (xσ27.trans (xσ28.trans (xσ31.trans (xσ32.trans xσ33))))))))) (by decide)).1
  have kp146 : gI σ34 o 7 = gI σ33 o 7 := (cσ34.O (ko.up (xσ20.trans (xσ21.trans (xσ22.trans (xσ26.trans (xσ27.trans (xσ28.trans (xσ31.trans (xσ32.trans xσ33))))))))) (by decide)).1
  have kp147 : gI σ34 o 8 = gI σ33 o 8 := (cσ34.O (ko.up (xσ20.trans (xσ21.trans (xσ22.trans (xσ26.trans (xσ27.trans (xσ28.trans (xσ31.trans (xσ32.trans xσ33))))))))) (by decide)).1
  have kp148 : gP σ34 J 0 = gP σ33 J 0 := (cσ34.O (kJ.up (xσ20.trans (xσ21.trans (xσ22.trans (xσ26.trans (xσ27.trans (xσ28.trans (xσ31.trans (xσ32.trans xσ33))))))))) (by decide)).2.1
  have kp149 : gP σ34 b (gI σ22 o 7).toNat = gP σ33 b (gI σ22 o 7).toNat := (cσ34.A (mb.up (xσ26.trans (xσ27.trans (xσ28.trans (xσ31.trans (xσ32.trans xσ33)))))) (by decide)).2.1
  have kp150 : gP σ34 th 0 = gP σ33 th 0 := (cσ34.O (kth.up (xσ20.trans (xσ21.trans (xσ22.trans (xσ26.trans (xσ27.trans (xσ28.trans (xσ31.trans (xσ32.trans xσ33))))))))) (by decide)).2.1
  have kp151 : gP σ34 th 7 = gP σ33 th 7 := (cσ34.O (kth.up (xσ20.trans (xσ21.trans (xσ22.trans (xσ26.trans (xσ27.trans (xσ28.trans (xσ31.trans (xσ32.trans xσ33))))))))) (by decide)).2.1
  have kp152 : gP σ34 th 8 = gP σ33 th 8 := (cσ34.O (kth.up (xσ20.trans (xσ21.trans (xσ22.trans (xσ26.trans (xσ27.trans (xσ28.trans (xσ31.trans (xσ32.trans xσ33))))))))) (by decide)).2.1
  have kp153 : gI σ34 th 2 = gI σ33 th 2 := (cσ34.O (kth.up (xσ20.trans (xσ21.trans (xσ22.trans (xσ26.trans (xσ27.trans (xσ28.trans (xσ31.trans (xσ32.trans xσ33))))))))) (by decide)).1
  have kp154 : gI σ34 th 3 = gI σ33 th 3 := (cσ34.O (kth.up (xσ20.trans (xσ21.trans (xσ22.trans (xσ26.trans (xσ27.trans (xσ28.trans (xσ31.trans (xσ32.trans xσ33))))))))) (by decide)).1
  have kp155 : gI σ34 th 5 = gI σ33 th 5 := (cσ34.O (kth.up (xσ20.trans (xσ21.trans (xσ22.trans (xσ26.trans (xσ27.trans (xσ28.trans (xσ31.trans (xσ32.trans xσ33))))))))) (by decide)).1
  have kp156 : gI σ34 J 2 = gI σ33 J 2 := (cσ34.O (kJ.up (xσ20.trans (xσ21.trans (xσ22.trans (xσ26.trans (xσ27.trans (xσ28.trans (xσ31.trans (xσ32.trans xσ33))))))))) (by decide)).1
  have kp157 : gI σ34 o 3 = gI σ33 o 3 := (cσ34.O (ko.up (xσ20.trans (xσ21.trans (xσ22.trans (xσ26.trans (xσ27.trans (xσ28.trans (xσ31.trans (xσ32.trans xσ33))))))))) (by decide)).1
  have kp158 : gI σ34 o 6 = gI σ33 o 6 := (cσ34.O (ko.up (xσ20.trans (xσ21.trans (xσ22.trans (xσ26.trans (xσ27.trans (xσ28.trans (xσ31.trans (xσ32.trans xσ33))))))))) (by decide)).1
  have kp159 : gI σ34 o 9 = gI σ33 o 9 := (cσ34.O (ko.up (xσ20.trans (xσ21.trans (xσ22.trans (xσ26.trans (xσ27.trans (xσ28.trans (xσ31.trans (xσ32.trans xσ33))))))))) (by decide)).1
  refine ⟨o, (kp137.trans (kp122.trans (kp104.trans (kp87.trans (kp73.trans (kp57.trans (kp42.trans (kp29.trans (kp18.trans h8))))))))), fun kk_o_2 => ?_⟩
  intro σ37 eσ37
  have xσ37 : Ext σ34 σ37 := by rw [eσ37]; exact fun _ h => ⟨h, rfl, rfl⟩
  have iσ37 : IV σ37 pl gq ci gr nc ot LL N nu := by rw [eσ37]; exact iσ34.wSp (ko.up (xσ20.trans (xσ21.trans (xσ22.trans (xσ26.trans (xσ27.trans (xσ28.trans (xσ31.trans (xσ32.trans (xσ33.trans xσ34)))))))))) (fun i hi => by omega) (by decide) (show (-1000 : Int) ≤ r35 ∧ r35 ≤ 1000 from ⟨by omega, by omega⟩)
  have fσ37 : Fx [323, 326, 327, 333, 336, 386, 387, 388, 389, 390, 6464] gr σ σ37 := fσ34.tr (Sk.fx (by rw [eσ37]; exact Sk.pI (by rw [fcdO (ko.up (xσ20.trans (xσ21.trans (xσ22.trans (xσ26.trans (xσ27.trans (xσ28.trans (xσ31.trans (xσ32.trans (xσ33.trans xσ34)))))))))) (by decide)]; decide)))
  have oxcσ37 : OX o σ σ37 := oxcσ34.tr (by rw [eσ37]; exact OX.pI (ko.up (xσ20.trans (xσ21.trans (xσ22.trans (xσ26.trans (xσ27.trans (xσ28.trans (xσ31.trans (xσ32.trans (xσ33.trans xσ34)))))))))) (Or.inr rfl)) (xσ20.trans (xσ21.trans (xσ22.trans (xσ26.trans (xσ27.trans (xσ28.trans (xσ31.trans (xσ32.trans (xσ33.trans xσ34)))))))))
  have wσ37 : gI σ37 o 16 = r35 := by rw [eσ37]; exact up2_s _ _ _ _
  have kp160 : gI σ37 J 1 = gI σ34 J 1 := by rw [eσ37]; exact up2_n _ _ (fun q => absurd q.2 (by decide))
  have kp161 : gI σ37 J 7 = gI σ34 J 7 := by rw [eσ37]; exact up2_n _ _ (fun q => absurd q.2 (by decide))
  have kp162 : gI σ37 o 13 = gI σ34 o 13 := by rw [eσ37]; exact up2_n _ _ (fun q => absurd q.2 (by decide))
  have kp163 : gI σ37 o 4 = gI σ34 o 4 := by rw [eσ37]; exact up2_n _ _ (fun q => absurd q.2 (by decide))
  have kp164 : gI σ37 o 7 = gI σ34 o 7 := by rw [eσ37]; exact up2_n _ _ (fun q => absurd q.2 (by decide))
  have kp165 : gI σ37 o 8 = gI σ34 o 8 := by rw [eσ37]; exact up2_n _ _ (fun q => absurd q.2 (by decide))
  have kp166 : gP σ37 J 0 = gP σ34 J 0 := by rw [eσ37]
  have kp167 : gP σ37 b (gI σ22 o 7).toNat = gP σ34 b (gI σ22 o 7).toNat := by rw [eσ37]
  have kp168 : gP σ37 th 0 = gP σ34 th 0 := by rw [eσ37]
  have kp169 : gP σ37 th 7 = gP σ34 th 7 := by rw [eσ37]
  have kp170 : gP σ37 th 8 = gP σ34 th 8 := by rw [eσ37]
  have kp171 : gI σ37 th 2 = gI σ34 th 2 := by rw [eσ37]; exact up2_n _ _ (fun q => absurd q.2 (by decide))
  have kp172 : gI σ37 th 3 = gI σ34 th 3 := by rw [eσ37]; exact up2_n _ _ (fun q => absurd q.2 (by decide))
  have kp173 : gI σ37 th 5 = gI σ34 th 5 := by rw [eσ37]; exact up2_n _ _ (fun q => absurd q.2 (by decide))
  have kp174 : gI σ37 J 2 = gI σ34 J 2 := by rw [eσ37]; exact up2_n _ _ (fun q => absurd q.2 (by decide))
  have kp175 : gI σ37 o 3 = gI σ34 o 3 := by rw [eσ37]; exact up2_n _ _ (fun q => absurd q.2 (by decide))
  have kp176 : gI σ37 o 6 = gI σ34 o 6 := by rw [eσ37]; exact up2_n _ _ (fun q => absurd q.2 (by decide))
  have kp177 : gI σ37 o 9 = gI σ34 o 9 := by rw [eσ37]; exact up2_n _ _ (fun q => absurd q.2 (by decide))
  refine i_X6_next iσ37 (kth.up (xσ20.trans (xσ21.trans (xσ22.trans (xσ26.trans (xσ27.trans (xσ28.trans (xσ31.trans (xσ32.trans (xσ33.trans (xσ34.trans xσ37))))))))))) (kp168.trans (kp150.trans (kp135.trans (kp120.trans (kp102.trans (kp85.trans (kp71.trans (kp55.trans (kp40.trans (kp27.trans (kp16.trans hX0))))))))))) (kX.up (xσ20.trans (xσ21.trans (xσ22.trans (xσ26.trans (xσ27.trans (xσ28.trans (xσ31.trans (xσ32.trans (xσ33.trans (xσ34.trans xσ37))))))))))) (((xσ20.trans (xσ21.trans (xσ22.trans (xσ26.trans (xσ27.trans (xσ28.trans (xσ31.trans (xσ32.trans (xσ33.trans (xσ34.trans xσ37)))))))))) tx kX.1).2.2.trans gX) (by (first | omega | with_reducible assumption | with_reducible exact rng_toInt _ | with_reducible exact rng_wr _ | (unfold rng; omega) | (unfold rng at *; omega) | assumption)) (by (first | omega | with_reducible assumption | with_reducible exact rng_toInt _ | with_reducible exact rng_wr _ | (unfold rng; omega) | (unfold rng at *; omega) | assumption)) (fun σ38 _ iσ38 cσ38 pσ38 => ?_) (fun σx LLx Nx nux E ix cx ux px => hX σx LLx Nx nux E ix (fσ37.tr (cx.mo (by decide))) (ux) (by first | exact px | exact ⟨by have := px.1; omega, px.2⟩ | (first | omega | with_reducible assumption | with_reducible exact rng_toInt _ | with_reducible exact rng_wr _ | (unfold rng; omega) | (unfold rng at *; omega) | assumption)))
  intro xσ38
  have fσ38 : Fx [323, 326, 327, 333, 336, 386, 387, 388, 389, 390, 6464] gr σ σ38 := fσ37.tr (cσ38.mo (by decide))
  have oxcσ38 : OX o σ σ38 := oxcσ37.tr (OX.fx cσ38 (by decide) (by decide)) (xσ20.trans (xσ21.trans (xσ22.trans (xσ26.trans (xσ27.trans (xσ28.trans (xσ31.trans (xσ32.trans (xσ33.trans (xσ34.trans xσ37))))))))))
  have kp178 : gI σ38 J 1 = gI σ37 J 1 := (cσ38.O (kJ.up (xσ20.trans (xσ21.trans (xσ22.trans (xσ26.trans (xσ27.trans (xσ28.trans (xσ31.trans (xσ32.trans (xσ33.trans (xσ34.trans xσ37))))))))))) (by decide)).1
  have kp179 : gI σ38 J 7 = gI σ37 J 7 := (cσ38.O (kJ.up (xσ20.trans (xσ21.trans (xσ22.trans (xσ26.trans (xσ27.trans (xσ28.trans (xσ31.trans (xσ32.trans (xσ33.trans (xσ34.trans xσ37))))))))))) (by decide)).1
  have kp180 : gI σ38 o 13 = gI σ37 o 13 := (cσ38.O (ko.up (xσ20.trans (xσ21.trans (xσ22.trans (xσ26.trans (xσ27.trans (xσ28.trans (xσ31.trans (xσ32.trans (xσ33.trans (xσ34.trans xσ37))))))))))) (by decide)).1
  have kp181 : gI σ38 o 16 = gI σ37 o 16 := (cσ38.O (ko.up (xσ20.trans (xσ21.trans (xσ22.trans (xσ26.trans (xσ27.trans (xσ28.trans (xσ31.trans (xσ32.trans (xσ33.trans (xσ34.trans xσ37))))))))))) (by decide)).1
  have kp182 : gI σ38 o 4 = gI σ37 o 4 := (cσ38.O (ko.up (xσ20.trans (xσ21.trans (xσ22.trans (xσ26.trans (xσ27.trans (xσ28.trans (xσ31.trans (xσ32.trans (xσ33.trans (xσ34.trans xσ37))))))))))) (by decide)).1
  have kp183 : gI σ38 o 7 = gI σ37 o 7 := (cσ38.O (ko.up (xσ20.trans (xσ21.trans (xσ22.trans (xσ26.trans (xσ27.trans (xσ28.trans (xσ31.trans (xσ32.trans (xσ33.trans (xσ34.trans xσ37))))))))))) (by decide)).1
  have kp184 : gI σ38 o 8 = gI σ37 o 8 := (cσ38.O (ko.up (xσ20.trans (xσ21.trans (xσ22.trans (xσ26.trans (xσ27.trans (xσ28.trans (xσ31.trans (xσ32.trans (xσ33.trans (xσ34.trans xσ37))))))))))) (by decide)).1
  have kp185 : gP σ38 J 0 = gP σ37 J 0 := (cσ38.O (kJ.up (xσ20.trans (xσ21.trans (xσ22.trans (xσ26.trans (xσ27.trans (xσ28.trans (xσ31.trans (xσ32.trans (xσ33.trans (xσ34.trans xσ37))))))))))) (by decide)).2.1
  have kp186 : gP σ38 b (gI σ22 o 7).toNat = gP σ37 b (gI σ22 o 7).toNat := (cσ38.A (mb.up (xσ26.trans (xσ27.trans (xσ28.trans (xσ31.trans (xσ32.trans (xσ33.trans (xσ34.trans xσ37)))))))) (by decide)).2.1
  have kp187 : gP σ38 th 0 = gP σ37 th 0 := (cσ38.O (kth.up (xσ20.trans (xσ21.trans (xσ22.trans (xσ26.trans (xσ27.trans (xσ28.trans (xσ31.trans (xσ32.trans (xσ33.trans (xσ34.trans xσ37))))))))))) (by decide)).2.1
  have kp188 : gP σ38 th 7 = gP σ37 th 7 := (cσ38.O (kth.up (xσ20.trans (xσ21.trans (xσ22.trans (xσ26.trans (xσ27.trans (xσ28.trans (xσ31.trans (xσ32.trans (xσ33.trans (xσ34.trans xσ37))))))))))) (by decide)).2.1
  have kp189 : gP σ38 th 8 = gP σ37 th 8 := (cσ38.O (kth.up (xσ20.trans (xσ21.trans (xσ22.trans (xσ26.trans (xσ27.trans (xσ28.trans (xσ31.trans (xσ32.trans (xσ33.trans (xσ34.trans xσ37))))))))))) (by decide)).2.1
  have kp190 : gI σ38 J 2 = gI σ37 J 2 := (cσ38.O (kJ.up (xσ20.trans (xσ21.trans (xσ22.trans (xσ26.trans (xσ27.trans (xσ28.trans (xσ31.trans (xσ32.trans (xσ33.trans (xσ34.trans xσ37))))))))))) (by decide)).1
  have kp191 : gI σ38 o 3 = gI σ37 o 3 := (cσ38.O (ko.up (xσ20.trans (xσ21.trans (xσ22.trans (xσ26.trans (xσ27.trans (xσ28.trans (xσ31.trans (xσ32.trans (xσ33.trans (xσ34.trans xσ37))))))))))) (by decide)).1
  have kp192 : gI σ38 o 6 = gI σ37 o 6 := (cσ38.O (ko.up (xσ20.trans (xσ21.trans (xσ22.trans (xσ26.trans (xσ27.trans (xσ28.trans (xσ31.trans (xσ32.trans (xσ33.trans (xσ34.trans xσ37))))))))))) (by decide)).1
  have kp193 : gI σ38 o 9 = gI σ37 o 9 := (cσ38.O (ko.up (xσ20.trans (xσ21.trans (xσ22.trans (xσ26.trans (xσ27.trans (xσ28.trans (xσ31.trans (xσ32.trans (xσ33.trans (xσ34.trans xσ37))))))))))) (by decide)).1
  have r5σ38 := I_6_5 iσ38.1 (kth.up (xσ20.trans (xσ21.trans (xσ22.trans (xσ26.trans (xσ27.trans (xσ28.trans (xσ31.trans (xσ32.trans (xσ33.trans (xσ34.trans (xσ37.trans xσ38))))))))))))
  exact hQ σ38 () iσ38 fσ38 oxcσ38 (⟨by omega, by omega, ⟨by omega, (fun h => absurd h (by omega)), (fun h => absurd h (by omega))⟩⟩)
set_option maxHeartbeats 1000000 in
theorem i_X6_topText {σ : Sg} {pl : Nat} {gq ci gr nc : Nat → Nat} {ot : Nat → Nat → Int} {LL : Nat → List Nat} {N nu : Nat → Nat} {th : Nat} {tx J o q c : Nat} (iσ : IV σ pl gq ci gr nc ot LL N nu) (kth : kO σ th 6) (hX0 : gP σ th 0 = some tx) (kX : kO σ tx 102) (gX : gn σ tx = 1500) (h7 : gP σ th 7 = some J) (kJ : kO σ J 4) (h8 : gP σ th 8 = some o) (ko : kO σ o 5) (hJq : gq J = q) (hq : q ≠ nc 0 ∧ q ≤ 1) (go : gq o = 16 * q + c) (hc : c < 16) (cJ : gI σ J 1 = (c : Int)) (tf : gI σ th 5 ≤ gI σ th 2 ∧ (gI σ th 3 ≠ 0 → gI σ th 5 + 1 ≤ gI σ th 2)) (h5 : nu 5 < 24000) (lp : gI σ J 7 ≤ 2 * gI σ th 5) (f0 : gI σ o 3 = 0 ∧ gI σ o 4 = 0 ∧ gI σ o 7 = -1 ∧ gI σ o 8 = -1) {Q : Sg → Unit → Prop} {X : Sg → String → Prop} (hQ : ∀ (σ' : Sg) (r : Unit), IV σ' pl gq ci gr nc ot LL N nu → Fx [323, 326, 327, 329, 331, 333, 386, 387, 388, 389, 390, 6464] gr σ σ' → OX o σ σ' → ((gI σ' th 5 ≤ gI σ' th 2 ∧ (gI σ' th 3 ≠ 0 → gI σ' th 5 + 1 ≤ gI σ' th 2)) ∧ gI σ' J 7 ≤ 2 * gI σ' th 5 ∧ OPR σ σ' gq q c o) → Q σ' r) (hX : ∀ (σ' : Sg) (LL' : Nat → List Nat) (N' nu' : Nat → Nat) (E : String), IV σ' pl gq ci gr nc ot LL' N' nu' → Fx [323, 326, 327, 329, 331, 333, 386, 387, 388, 389, 390, 6464] gr σ σ' → NCX nu nu' → (LL' = LL ∧ N' = N ∧ E = "java/lang/IllegalArgumentException" ∧ gI σ' th 6 ≠ 0) → X σ' E) : wp_X6_topText th σ Q X := by
  have fσ : Fx [323, 326, 327, 329, 331, 333, 386, 387, 388, 389, 390, 6464] gr σ σ := Fx.rf
  have oxσ : OX o σ σ := OX.rf
  have q1 := I_4_1 iσ.1 kJ
  have q2 := I_6_5 iσ.1 kth
  have q3 := I_6_2 iσ.1 kth
  have q4 := iσ.rg th 3; unfold rng at q4
  have q5 := I_4_7 iσ.1 kJ
  have q6 := I_5_3 iσ.1 ko
  have q7 := I_5_4 iσ.1 ko
  have q8 := I_5_7 iσ.1 ko
  have q9 := I_5_8 iσ.1 ko
  have ncb := iσ.ncb
  have r70 := I_4_7 iσ.1 kJ
  have r71 := I_4_1 iσ.1 kJ
  unfold wp_X6_topText
  unfold w_X6_topText_0
  refine i_X6_next iσ kth hX0 kX (((Ext.rfl' _) tx kX.1).2.2.trans gX) (by (first | omega | with_reducible assumption | with_reducible exact rng_toInt _ | with_reducible exact rng_wr _ | (unfold rng; omega) | (unfold rng at *; omega) | assumption)) (by (first | omega | with_reducible assumption | with_reducible exact rng_toInt _ | with_reducible exact rng_wr _ | (unfold rng; omega) | (unfold rng at *; omega) | assumption)) (fun σ34 _ iσ34 cσ34 pσ34 => ?_) (fun σx LLx Nx nux E ix cx ux px => hX σx LLx Nx nux E ix (fσ.tr (cx.mo (by decide))) (ux) (by first | exact px | exact ⟨by have := px.1; omega, px.2⟩ | (first | omega | with_reducible assumption | with_reducible exact rng_toInt _ | with_reducible exact rng_wr _ | (unfold rng; omega) | (unfold rng at *; omega) | assumption)))
  intro xσ34
  have fσ34 : Fx [323, 326, 327, 329, 331, 333, 386, 387, 388, 389, 390, 6464] gr σ σ34 := fσ.tr (cσ34.mo (by decide))
  have oxcσ34 : OX o σ σ34 := oxσ.tr (OX.fx cσ34 (by decide) (by decide)) (Ext.rfl' _)
  have kp10 : gI σ34 J 1 = gI σ J 1 := (cσ34.O kJ (by decide)).1
  have kp11 : gI σ34 J 7 = gI σ J 7 := (cσ34.O kJ (by decide)).1
  have kp12 : gI σ34 o 3 = gI σ o 3 := (cσ34.O ko (by decide)).1
  have kp13 : gI σ34 o 4 = gI σ o 4 := (cσ34.O ko (by decide)).1
  have kp14 : gI σ34 o 7 = gI σ o 7 := (cσ34.O ko (by decide)).1
  have kp15 : gI σ34 o 8 = gI σ o 8 := (cσ34.O ko (by decide)).1
  have kp16 : gP σ34 th 0 = gP σ th 0 := (cσ34.O kth (by decide)).2.1
  have kp17 : gP σ34 th 7 = gP σ th 7 := (cσ34.O kth (by decide)).2.1
  have kp18 : gP σ34 th 8 = gP σ th 8 := (cσ34.O kth (by decide)).2.1
  have kp19 : gI σ34 J 2 = gI σ J 2 := (cσ34.O kJ (by decide)).1
  have kp20 : gI σ34 o 6 = gI σ o 6 := (cσ34.O ko (by decide)).1
  have kp21 : gI σ34 o 9 = gI σ o 9 := (cσ34.O ko (by decide)).1
  have r5σ34 := I_6_5 iσ34.1 (kth.up xσ34)
  refine i_X6_number iσ34 (kth.up xσ34) (by (first | omega | with_reducible assumption | with_reducible exact rng_toInt _ | with_reducible exact rng_wr _ | (unfold rng; omega) | (unfold rng at *; omega) | assumption)) (by (first | omega | with_reducible assumption | with_reducible exact rng_toInt _ | with_reducible exact rng_wr _ | (unfold rng; omega) | (unfold rng at *; omega) | assumption)) (fun σ35 r36 iσ35 cσ35 pσ35 => ?_) (fun σx LLx Nx nux E ix cx ux px => hX σx LLx Nx nux E ix (fσ34.tr (cx.mo (by decide))) (ux) (by first | exact px | exact ⟨by have := px.1; omega, px.2⟩ | (first | omega | with_reducible assumption | with_reducible exact rng_toInt _ | with_reducible exact rng_wr _ | (unfold rng; omega) | (unfold rng at *; omega) | assumption)))
  intro xσ35
  have fσ35 : Fx [323, 326, 327, 329, 331, 333, 386, 387, 388, 389, 390, 6464] gr σ σ35 := fσ34.tr (cσ35.mo (by decide))
  have oxcσ35 : OX o σ σ35 := oxcσ34.tr (OX.fx cσ35 (by decide) (by decide)) (xσ34)
  have kp22 : gI σ35 J 1 = gI σ34 J 1 := (cσ35.O (kJ.up xσ34) (by decide)).1
  have kp23 : gI σ35 J 7 = gI σ34 J 7 := (cσ35.O (kJ.up xσ34) (by decide)).1
  have kp24 : gI σ35 o 3 = gI σ34 o 3 := (cσ35.O (ko.up xσ34) (by decide)).1
  have kp25 : gI σ35 o 4 = gI σ34 o 4 := (cσ35.O (ko.up xσ34) (by decide)).1
  have kp26 : gI σ35 o 7 = gI σ34 o 7 := (cσ35.O (ko.up xσ34) (by decide)).1
  have kp27 : gI σ35 o 8 = gI σ34 o 8 := (cσ35.O (ko.up xσ34) (by decide)).1
  have kp28 : gP σ35 th 0 = gP σ34 th 0 := (cσ35.O (kth.up xσ34) (by decide)).2.1
  have kp29 : gP σ35 th 7 = gP σ34 th 7 := (cσ35.O (kth.up xσ34) (by decide)).2.1
  have kp30 : gP σ35 th 8 = gP σ34 th 8 := (cσ35.O (kth.up xσ34) (by decide)).2.1
  have kp31 : gI σ35 th 2 = gI σ34 th 2 := (cσ35.O (kth.up xσ34) (by decide)).1
  have kp32 : gI σ35 th 3 = gI σ34 th 3 := (cσ35.O (kth.up xσ34) (by decide)).1
  have kp33 : gI σ35 th 5 = gI σ34 th 5 := (cσ35.O (kth.up xσ34) (by decide)).1
  have kp34 : gI σ35 J 2 = gI σ34 J 2 := (cσ35.O (kJ.up xσ34) (by decide)).1
  have kp35 : gI σ35 o 6 = gI σ34 o 6 := (cσ35.O (ko.up xσ34) (by decide)).1
  have kp36 : gI σ35 o 9 = gI σ34 o 9 := (cσ35.O (ko.up xσ34) (by decide)).1
  refine ⟨o, (kp18.trans h8), fun kk_o => ?_⟩
  intro σ38 eσ38
  have xσ38 : Ext σ35 σ38 := by rw [eσ38]; exact fun _ h => ⟨h, rfl, rfl⟩
  have iσ38 : IV σ38 pl gq ci gr nc ot LL N nu := by rw [eσ38]; exact iσ35.wSp (ko.up (xσ34.trans xσ35)) (fun i hi => by omega) (by decide) (show (0 : Int) ≤ r36 ∧ r36 ≤ 9 from ⟨by omega, by omega⟩)
  have fσ38 : Fx [323, 326, 327, 329, 331, 333, 386, 387, 388, 389, 390, 6464] gr σ σ38 := fσ35.tr (Sk.fx (by rw [eσ38]; exact Sk.pI (by rw [fcdO (ko.up (xσ34.trans xσ35)) (by decide)]; decide)))
  have oxcσ38 : OX o σ σ38 := oxcσ35.tr (by rw [eσ38]; exact OX.pI (ko.up (xσ34.trans xσ35)) (Or.inr rfl)) (xσ34.trans xσ35)
  have wσ38 : gI σ38 o 9 = r36 := by rw [eσ38]; exact up2_s _ _ _ _
  have kp37 : gI σ38 J 1 = gI σ35 J 1 := by rw [eσ38]; exact up2_n _ _ (fun q => absurd q.2 (by decide))
  have kp38 : gI σ38 J 7 = gI σ35 J 7 := by rw [eσ38]; exact up2_n _ _ (fun q => absurd q.2 (by decide))
  have kp39 : gI σ38 o 3 = gI σ35 o 3 := by rw [eσ38]; exact up2_n _ _ (fun q => absurd q.2 (by decide))
  have kp40 : gI σ38 o 4 = gI σ35 o 4 := by rw [eσ38]; exact up2_n _ _ (fun q => absurd q.2 (by decide))
  have kp41 : gI σ38 o 7 = gI σ35 o 7 := by rw [eσ38]; exact up2_n _ _ (fun q => absurd q.2 (by decide))
  have kp42 : gI σ38 o 8 = gI σ35 o 8 := by rw [eσ38]; exact up2_n _ _ (fun q => absurd q.2 (by decide))
  have kp43 : gP σ38 th 0 = gP σ35 th 0 := by rw [eσ38]
  have kp44 : gP σ38 th 7 = gP σ35 th 7 := by rw [eσ38]
  have kp45 : gP σ38 th 8 = gP σ35 th 8 := by rw [eσ38]
  have kp46 : gI σ38 th 2 = gI σ35 th 2 := by rw [eσ38]; exact up2_n _ _ (fun q => absurd q.2 (by decide))
  have kp47 : gI σ38 th 3 = gI σ35 th 3 := by rw [eσ38]; exact up2_n _ _ (fun q => absurd q.2 (by decide))
  have kp48 : gI σ38 th 5 = gI σ35 th 5 := by rw [eσ38]; exact up2_n _ _ (fun q => absurd q.2 (by decide))
  have kp49 : gI σ38 J 2 = gI σ35 J 2 := by rw [eσ38]; exact up2_n _ _ (fun q => absurd q.2 (by decide))
  have kp50 : gI σ38 o 6 = gI σ35 o 6 := by rw [eσ38]; exact up2_n _ _ (fun q => absurd q.2 (by decide))
  refine i_X6_next iσ38 (kth.up (xσ34.trans (xσ35.trans xσ38))) (kp43.trans (kp28.trans (kp16.trans hX0))) (kX.up (xσ34.trans (xσ35.trans xσ38))) (((xσ34.trans (xσ35.trans xσ38)) tx kX.1).2.2.trans gX) (by (first | omega | with_reducible assumption | with_reducible exact rng_toInt _ | with_reducible exact rng_wr _ | (unfold rng; omega) | (unfold rng at *; omega) | assumption)) (by (first | omega | with_reducible assumption | with_reducible exact rng_toInt _ | with_reducible exact rng_wr _ | (unfold rng; omega) | (unfold rng at *; omega) | assumption)) (fun σ39 _ iσ39 cσ39 pσ39 => ?_) (fun σx LLx Nx nux E ix cx ux px => hX σx LLx Nx nux E ix (fσ38.tr (cx.mo (by decide))) (ux) (by first | exact px | exact ⟨by have := px.1; omega, px.2⟩ | (first | omega | with_reducible assumption | with_reducible exact rng_toInt _ | with_reducible exact rng_wr _ | (unfold rng; omega) | (unfold rng at *; omega) | assumption)))
  intro xσ39
  have fσ39 : Fx [323, 326, 327, 329, 331, 333, 386, 387, 388, 389, 390, 6464] gr σ σ39 := fσ38.tr (cσ39.mo (by decide))
  have oxcσ39 : OX o σ σ39 := oxcσ38.tr (OX.fx cσ39 (by decide) (by decide)) (xσ34.trans (xσ35.trans xσ38))
  have kp51 : gI σ39 J 1 = gI σ38 J 1 := (cσ39.O (kJ.up (xσ34.trans (xσ35.trans xσ38))) (by decide)).1
  have kp52 : gI σ39 J 7 = gI σ38 J 7 := (cσ39.O (kJ.up (xσ34.trans (xσ35.trans xσ38))) (by decide)).1
  have kp53 : gI σ39 o 3 = gI σ38 o 3 := (cσ39.O (ko.up (xσ34.trans (xσ35.trans xσ38))) (by decide)).1
  have kp54 : gI σ39 o 4 = gI σ38 o 4 := (cσ39.O (ko.up (xσ34.trans (xσ35.trans xσ38))) (by decide)).1
  have kp55 : gI σ39 o 7 = gI σ38 o 7 := (cσ39.O (ko.up (xσ34.trans (xσ35.trans xσ38))) (by decide)).1
  have kp56 : gI σ39 o 8 = gI σ38 o 8 := (cσ39.O (ko.up (xσ34.trans (xσ35.trans xσ38))) (by decide)).1
  have kp57 : gI σ39 o 9 = gI σ38 o 9 := (cσ39.O (ko.up (xσ34.trans (xσ35.trans xσ38))) (by decide)).1
  have kp58 : gP σ39 th 0 = gP σ38 th 0 := (cσ39.O (kth.up (xσ34.trans (xσ35.trans xσ38))) (by decide)).2.1
  have kp59 : gP σ39 th 7 = gP σ38 th 7 := (cσ39.O (kth.up (xσ34.trans (xσ35.trans xσ38))) (by decide)).2.1
  have kp60 : gP σ39 th 8 = gP σ38 th 8 := (cσ39.O (kth.up (xσ34.trans (xσ35.trans xσ38))) (by decide)).2.1
  have kp61 : gI σ39 J 2 = gI σ38 J 2 := (cσ39.O (kJ.up (xσ34.trans (xσ35.trans xσ38))) (by decide)).1
  have kp62 : gI σ39 o 6 = gI σ38 o 6 := (cσ39.O (ko.up (xσ34.trans (xσ35.trans xσ38))) (by decide)).1
  have r5σ39 := I_6_5 iσ39.1 (kth.up (xσ34.trans (xσ35.trans (xσ38.trans xσ39))))
  refine i_X6_firstInput iσ39 (kth.up (xσ34.trans (xσ35.trans (xσ38.trans xσ39)))) (kp59.trans (kp44.trans (kp29.trans (kp17.trans h7)))) (kJ.up (xσ34.trans (xσ35.trans (xσ38.trans xσ39)))) (kp60.trans (kp45.trans (kp30.trans (kp18.trans h8)))) (ko.up (xσ34.trans (xσ35.trans (xσ38.trans xσ39)))) (by (first | omega | with_reducible assumption | with_reducible exact rng_toInt _ | with_reducible exact rng_wr _ | (unfold rng; omega) | (unfold rng at *; omega) | assumption)) (by (first | omega | with_reducible assumption | with_reducible exact rng_toInt _ | with_reducible exact rng_wr _ | (unfold rng; omega) | (unfold rng at *; omega) | assumption)) (by (first | omega | with_reducible assumption | with_reducible exact rng_toInt _ | with_reducible exact rng_wr _ | (unfold rng; omega) | (unfold rng at *; omega) | assumption)) (by (first | omega | with_reducible assumption | with_reducible exact rng_toInt _ | with_reducible exact rng_wr _ | (unfold rng; omega) | (unfold rng at *; omega) | assumption)) (by (first | omega | with_reducible assumption | with_reducible exact rng_toInt _ | with_reducible exact rng_wr _ | (unfold rng; omega) | (unfold rng at *; omega) | assumption)) (by (first | omega | with_reducible assumption | with_reducible exact rng_toInt _ | with_reducible exact rng_wr _ | (unfold rng; omega) | (unfold rng at *; omega) | assumption)) (fun σ40 _ iσ40 cσ40 oxσ40 pσ40 => ?_) (fun σx LLx Nx nux E ix cx ux px => hX σx LLx Nx nux E ix (fσ39.tr (cx.mo (by decide))) (ux) (by first | exact px | exact ⟨by have := px.1; omega, px.2⟩ | (first | omega | with_reducible assumption | with_reducible exact rng_toInt _ | with_reducible exact rng_wr _ | (unfold rng; omega) | (unfold rng at *; omega) | assumption)))
  intro xσ40
  have fσ40 : Fx [323, 326, 327, 329, 331, 333, 386, 387, 388, 389, 390, 6464] gr σ σ40 := fσ39.tr (cσ40.mo (by decide))
  have oxcσ40 : OX o σ σ40 := oxcσ39.tr oxσ40 (xσ34.trans (xσ35.trans (xσ38.trans xσ39)))
  have kp63 : gI σ40 J 1 = gI σ39 J 1 := (cσ40.O (kJ.up (xσ34.trans (xσ35.trans (xσ38.trans xσ39)))) (by decide)).1
  have kp64 : gI σ40 J 7 = gI σ39 J 7 := (cσ40.O (kJ.up (xσ34.trans (xσ35.trans (xσ38.trans xσ39)))) (by decide)).1
  have kp65 : gI σ40 o 3 = gI σ39 o 3 := (cσ40.O (ko.up (xσ34.trans (xσ35.trans (xσ38.trans xσ39)))) (by decide)).1
  have kp66 : gI σ40 o 4 = gI σ39 o 4 := (cσ40.O (ko.up (xσ34.trans (xσ35.trans (xσ38.trans xσ39)))) (by decide)).1
  have kp67 : gI σ40 o 8 = gI σ39 o 8 := (cσ40.O (ko.up (xσ34.trans (xσ35.trans (xσ38.trans xσ39)))) (by decide)).1
  have kp68 : gI σ40 o 9 = gI σ39 o 9 := (cσ40.O (ko.up (xσ34.trans (xσ35.trans (xσ38.trans xσ39)))) (by decide)).1
  have kp69 : gP σ40 th 0 = gP σ39 th 0 := (cσ40.O (kth.up (xσ34.trans (xσ35.trans (xσ38.trans xσ39)))) (by decide)).2.1
  have kp70 : gP σ40 th 7 = gP σ39 th 7 := (cσ40.O (kth.up (xσ34.trans (xσ35.trans (xσ38.trans xσ39)))) (by decide)).2.1
  have kp71 : gP σ40 th 8 = gP σ39 th 8 := (cσ40.O (kth.up (xσ34.trans (xσ35.trans (xσ38.trans xσ39)))) (by decide)).2.1
  have kp72 : gI σ40 th 2 = gI σ39 th 2 := (cσ40.O (kth.up (xσ34.trans (xσ35.trans (xσ38.trans xσ39)))) (by decide)).1
  have kp73 : gI σ40 th 3 = gI σ39 th 3 := (cσ40.O (kth.up (xσ34.trans (xσ35.trans (xσ38.trans xσ39)))) (by decide)).1
  have kp74 : gI σ40 th 5 = gI σ39 th 5 := (cσ40.O (kth.up (xσ34.trans (xσ35.trans (xσ38.trans xσ39)))) (by decide)).1
  have kp75 : gI σ40 J 2 = gI σ39 J 2 := (cσ40.O (kJ.up (xσ34.trans (xσ35.trans (xσ38.trans xσ39)))) (by decide)).1
  refine ⟨J, (kp70.trans (kp59.trans (kp44.trans (kp29.trans (kp17.trans h7))))), fun kk_J => ?_⟩
  refine ⟨o, (kp71.trans (kp60.trans (kp45.trans (kp30.trans (kp18.trans h8))))), fun kk_o_1 => ?_⟩
  obtain ⟨b, eb, fb⟩ := P_4_0 iσ40.1 (kJ.up (xσ34.trans (xσ35.trans (xσ38.trans (xσ39.trans xσ40)))))
  have mb : kO σ40 b 115 := iσ40.1.kd (kJ.up (xσ34.trans (xσ35.trans (xσ38.trans (xσ39.trans xσ40))))) rfl eb rfl
  refine ⟨b, eb, fun kk_b => ?_⟩
  have q76 := I_5_7 iσ40.1 (ko.up (xσ34.trans (xσ35.trans (xσ38.trans (xσ39.trans xσ40)))))
  refine ⟨⟨by (first | omega | with_reducible assumption | with_reducible exact rng_toInt _ | with_reducible exact rng_wr _ | (unfold rng; omega) | (unfold rng at *; omega) | assumption), by (first | omega | with_reducible assumption | with_reducible exact rng_toInt _ | with_reducible exact rng_wr _ | (unfold rng; omega) | (unfold rng at *; omega) | assumption)⟩, ?_⟩
  obtain ⟨b_1, eb_1⟩ := P_115 iσ40.1 mb (k := (gI σ40 o 7).toNat) (by (first | omega | with_reducible assumption | with_reducible exact rng_toInt _ | with_reducible exact rng_wr _ | (unfold rng; omega) | (unfold rng at *; omega) | assumption))
  have fb_1 := T_115 iσ40.1 mb eb_1
  have mb_1 : kO σ40 b_1 5 := iσ40.1.kd mb rfl eb_1 rfl
  refine ⟨b_1, eb_1, fun kk_b_1 => ?_⟩
  refine i_X5_find iσ40 mb_1 (fun r45 pσ44 => ?_)
  intro xσ44
  have wf : ∀ a, kO σ a 5 → gq a = 16 * q + (gI σ40 o 7).toNat → gI σ a 3 = gI σ40 b_1 3 := fun a ka ga => by have e9 := iσ40.unq (ka.up fσ40.1) mb_1 rfl rfl (by omega); subst e9; exact (oxcσ40 _ ka (fun e => absurd (congrArg gq e) (by omega)) 3).symm
  have r46 := I_5_3 iσ40.1 mb_1
  by_cases hc77 : r45 = (-1)
  · rw [if_pos hc77]
    unfold w_X6_topText_61
    refine ⟨b_1, eb_1, fun kk_b_1_1 => ?_⟩
    have q79 := I_5_3 iσ40.1 mb_1
    by_cases hc78 : gI σ40 b_1 3 ≠ 8
    · rw [if_pos hc78]
      unfold w_X6_topText_76
      refine ⟨o, (kp71.trans (kp60.trans (kp45.trans (kp30.trans (kp18.trans h8))))), fun kk_o_2 => ?_⟩
      refine i_X5_addColumnsOf iσ40 (ko.up (xσ34.trans (xσ35.trans (xσ38.trans (xσ39.trans xσ40))))) eb_1 mb_1 (by (first | omega | with_reducible assumption | with_reducible exact rng_toInt _ | with_reducible exact rng_wr _ | (unfold rng; omega) | (unfold rng at *; omega) | assumption)) (by (first | omega | with_reducible assumption | with_reducible exact rng_toInt _ | with_reducible exact rng_wr _ | (unfold rng; omega) | (unfold rng at *; omega) | assumption)) (by (first | omega | with_reducible assumption | with_reducible exact rng_toInt _ | with_reducible exact rng_wr _ | (unfold rng; omega) | (unfold rng at *; omega) | assumption)) (fun e => absurd (congrArg gq e) (by omega)) (fun σ50 _ iσ50 cσ50 oxσ50 pσ50 => ?_)
      intro xσ50
      have fσ50 : Fx [323, 326, 327, 329, 331, 333, 386, 387, 388, 389, 390, 6464] gr σ σ50 := fσ40.tr (cσ50.mo (by decide))
      have oxcσ50 : OX o σ σ50 := oxcσ40.tr oxσ50 (xσ34.trans (xσ35.trans (xσ38.trans (xσ39.trans xσ40))))
      have kp80 : gI σ50 J 1 = gI σ40 J 1 := (cσ50.O (kJ.up (xσ34.trans (xσ35.trans (xσ38.trans (xσ39.trans xσ40))))) (by decide)).1
      have kp81 : gI σ50 J 7 = gI σ40 J 7 := (cσ50.O (kJ.up (xσ34.trans (xσ35.trans (xσ38.trans (xσ39.trans xσ40))))) (by decide)).1
      have kp82 : gI σ50 o 4 = gI σ40 o 4 := (cσ50.O (ko.up (xσ34.trans (xσ35.trans (xσ38.trans (xσ39.trans xσ40))))) (by decide)).1
      have kp83 : gI σ50 o 7 = gI σ40 o 7 := (cσ50.O (ko.up (xσ34.trans (xσ35.trans (xσ38.trans (xσ39.trans xσ40))))) (by decide)).1
      have kp84 : gI σ50 o 8 = gI σ40 o 8 := (cσ50.O (ko.up (xσ34.trans (xσ35.trans (xσ38.trans (xσ39.trans xσ40))))) (by decide)).1
      have kp85 : gI σ50 o 9 = gI σ40 o 9 := (cσ50.O (ko.up (xσ34.trans (xσ35.trans (xσ38.trans (xσ39.trans xσ40))))) (by decide)).1
      have kp86 : gP σ50 J 0 = gP σ40 J 0 := (cσ50.O (kJ.up (xσ34.trans (xσ35.trans (xσ38.trans (xσ39.trans xσ40))))) (by decide)).2.1
      have kp87 : gP σ50 b (gI σ40 o 7).toNat = gP σ40 b (gI σ40 o 7).toNat := (cσ50.A mb (by decide)).2.1
      have kp88 : gP σ50 th 0 = gP σ40 th 0 := (cσ50.O (kth.up (xσ34.trans (xσ35.trans (xσ38.trans (xσ39.trans xσ40))))) (by decide)).2.1
      have kp89 : gP σ50 th 7 = gP σ40 th 7 := (cσ50.O (kth.up (xσ34.trans (xσ35.trans (xσ38.trans (xσ39.trans xσ40))))) (by decide)).2.1
      have kp90 : gP σ50 th 8 = gP σ40 th 8 := (cσ50.O (kth.up (xσ34.trans (xσ35.trans (xσ38.trans (xσ39.trans xσ40))))) (by decide)).2.1
      have kp91 : gI σ50 th 2 = gI σ40 th 2 := (cσ50.O (kth.up (xσ34.trans (xσ35.trans (xσ38.trans (xσ39.trans xσ40))))) (by decide)).1
      have kp92 : gI σ50 th 3 = gI σ40 th 3 := (cσ50.O (kth.up (xσ34.trans (xσ35.trans (xσ38.trans (xσ39.trans xσ40))))) (by decide)).1
      have kp93 : gI σ50 th 5 = gI σ40 th 5 := (cσ50.O (kth.up (xσ34.trans (xσ35.trans (xσ38.trans (xσ39.trans xσ40))))) (by decide)).1
      have kp94 : gI σ50 J 2 = gI σ40 J 2 := (cσ50.O (kJ.up (xσ34.trans (xσ35.trans (xσ38.trans (xσ39.trans xσ40))))) (by decide)).1
      have kp95 : gI σ50 o 6 = gI σ40 o 6 := (cσ50.O (ko.up (xσ34.trans (xσ35.trans (xσ38.trans (xσ39.trans xσ40))))) (by decide)).1
      refine ⟨o, (kp90.trans (kp71.trans (kp60.trans (kp45.trans (kp30.trans (kp18.trans h8)))))), fun kk_o_3 => ?_⟩
      refine i_X5_addColumn iσ50 (ko.up (xσ34.trans (xσ35.trans (xσ38.trans (xσ39.trans (xσ40.trans xσ50)))))) (by (first | omega | with_reducible assumption | with_reducible exact rng_toInt _ | with_reducible exact rng_wr _ | (unfold rng; omega) | (unfold rng at *; omega) | assumption)) (by (first | omega | with_reducible assumption | with_reducible exact rng_toInt _ | with_reducible exact rng_wr _ | (unfold rng; omega) | (unfold rng at *; omega) | assumption)) (by (first | omega | with_reducible assumption | with_reducible exact rng_toInt _ | with_reducible exact rng_wr _ | (unfold rng; omega) | (unfold rng at *; omega) | assumption)) (fun σ52 _ iσ52 cσ52 oxσ52 pσ52 => ?_)
      intro xσ52
      have fσ52 : Fx [323, 326, 327, 329, 331, 333, 386, 387, 388, 389, 390, 6464] gr σ σ52 := fσ50.tr (cσ52.mo (by decide))
      have oxcσ52 : OX o σ σ52 := oxcσ50.tr oxσ52 (xσ34.trans (xσ35.trans (xσ38.trans (xσ39.trans (xσ40.trans xσ50)))))
      have kp96 : gI σ52 J 1 = gI σ50 J 1 := (cσ52.O (kJ.up (xσ34.trans (xσ35.trans (xσ38.trans (xσ39.trans (xσ40.trans xσ50)))))) (by decide)).1
      have kp97 : gI σ52 J 7 = gI σ50 J 7 := (cσ52.O (kJ.up (xσ34.trans (xσ35.trans (xσ38.trans (xσ39.trans (xσ40.trans xσ50)))))) (by decide)).1
      have kp98 : gI σ52 o 4 = gI σ50 o 4 := (cσ52.O (ko.up (xσ34.trans (xσ35.trans (xσ38.trans (xσ39.trans (xσ40.trans xσ50)))))) (by decide)).1
      have kp99 : gI σ52 o 7 = gI σ50 o 7 := (cσ52.O (ko.up (xσ34.trans (xσ35.trans (xσ38.trans (xσ39.trans (xσ40.trans xσ50)))))) (by decide)).1
      have kp100 : gI σ52 o 8 = gI σ50 o 8 := (cσ52.O (ko.up (xσ34.trans (xσ35.trans (xσ38.trans (xσ39.trans (xσ40.trans xσ50)))))) (by decide)).1
      have kp101 : gI σ52 o 9 = gI σ50 o 9 := (cσ52.O (ko.up (xσ34.trans (xσ35.trans (xσ38.trans (xσ39.trans (xσ40.trans xσ50)))))) (by decide)).1
      have kp102 : gP σ52 J 0 = gP σ50 J 0 := (cσ52.O (kJ.up (xσ34.trans (xσ35.trans (xσ38.trans (xσ39.trans (xσ40.trans xσ50)))))) (by decide)).2.1
      have kp103 : gP σ52 b (gI σ40 o 7).toNat = gP σ50 b (gI σ40 o 7).toNat := (cσ52.A (mb.up xσ50) (by decide)).2.1
      have kp104 : gP σ52 th 0 = gP σ50 th 0 := (cσ52.O (kth.up (xσ34.trans (xσ35.trans (xσ38.trans (xσ39.trans (xσ40.trans xσ50)))))) (by decide)).2.1
      have kp105 : gP σ52 th 7 = gP σ50 th 7 := (cσ52.O (kth.up (xσ34.trans (xσ35.trans (xσ38.trans (xσ39.trans (xσ40.trans xσ50)))))) (by decide)).2.1
      have kp106 : gP σ52 th 8 = gP σ50 th 8 := (cσ52.O (kth.up (xσ34.trans (xσ35.trans (xσ38.trans (xσ39.trans (xσ40.trans xσ50)))))) (by decide)).2.1
      have kp107 : gI σ52 th 2 = gI σ50 th 2 := (cσ52.O (kth.up (xσ34.trans (xσ35.trans (xσ38.trans (xσ39.trans (xσ40.trans xσ50)))))) (by decide)).1
      have kp108 : gI σ52 th 3 = gI σ50 th 3 := (cσ52.O (kth.up (xσ34.trans (xσ35.trans (xσ38.trans (xσ39.trans (xσ40.trans xσ50)))))) (by decide)).1
      have kp109 : gI σ52 th 5 = gI σ50 th 5 := (cσ52.O (kth.up (xσ34.trans (xσ35.trans (xσ38.trans (xσ39.trans (xσ40.trans xσ50)))))) (by decide)).1
      have kp110 : gI σ52 J 2 = gI σ50 J 2 := (cσ52.O (kJ.up (xσ34.trans (xσ35.trans (xσ38.trans (xσ39.trans (xσ40.trans xσ50)))))) (by decide)).1
      have kp111 : gI σ52 o 6 = gI σ50 o 6 := (cσ52.O (ko.up (xσ34.trans (xσ35.trans (xσ38.trans (xσ39.trans (xσ40.trans xσ50)))))) (by decide)).1
      refine i_X6_next iσ52 (kth.up (xσ34.trans (xσ35.trans (xσ38.trans (xσ39.trans (xσ40.trans (xσ50.trans xσ52))))))) (kp104.trans (kp88.trans (kp69.trans (kp58.trans (kp43.trans (kp28.trans (kp16.trans hX0))))))) (kX.up (xσ34.trans (xσ35.trans (xσ38.trans (xσ39.trans (xσ40.trans (xσ50.trans xσ52))))))) (((xσ34.trans (xσ35.trans (xσ38.trans (xσ39.trans (xσ40.trans (xσ50.trans xσ52)))))) tx kX.1).2.2.trans gX) (by (first | omega | with_reducible assumption | with_reducible exact rng_toInt _ | with_reducible exact rng_wr _ | (unfold rng; omega) | (unfold rng at *; omega) | assumption)) (by (first | omega | with_reducible assumption | with_reducible exact rng_toInt _ | with_reducible exact rng_wr _ | (unfold rng; omega) | (unfold rng at *; omega) | assumption)) (fun σ54 _ iσ54 cσ54 pσ54 => ?_) (fun σx LLx Nx nux E ix cx ux px => hX σx LLx Nx nux E ix (fσ52.tr (cx.mo (by decide))) (ux) (by first | exact px | exact ⟨by have := px.1; omega, px.2⟩ | (first | omega | with_reducible assumption | with_reducible exact rng_toInt _ | with_reducible exact rng_wr _ | (unfold rng; omega) | (unfold rng at *; omega) | assumption)))
      intro xσ54
      have fσ54 : Fx [323, 326, 327, 329, 331, 333, 386, 387, 388, 389, 390, 6464] gr σ σ54 := fσ52.tr (cσ54.mo (by decide))
      have oxcσ54 : OX o σ σ54 := oxcσ52.tr (OX.fx cσ54 (by decide) (by decide)) (xσ34.trans (xσ35.trans (xσ38.trans (xσ39.trans (xσ40.trans (xσ50.trans xσ52))))))
      have kp112 : gI σ54 J 1 = gI σ52 J 1 := (cσ54.O (kJ.up (xσ34.trans (xσ35.trans (xσ38.trans (xσ39.trans (xσ40.trans (xσ50.trans xσ52))))))) (by decide)).1
      have kp113 : gI σ54 J 7 = gI σ52 J 7 := (cσ54.O (kJ.up (xσ34.trans (xσ35.trans (xσ38.trans (xσ39.trans (xσ40.trans (xσ50.trans xσ52))))))) (by decide)).1
      have kp114 : gI σ54 o 4 = gI σ52 o 4 := (cσ54.O (ko.up (xσ34.trans (xσ35.trans (xσ38.trans (xσ39.trans (xσ40.trans (xσ50.trans xσ52))))))) (by decide)).1
      have kp115 : gI σ54 o 7 = gI σ52 o 7 := (cσ54.O (ko.up (xσ34.trans (xσ35.trans (xσ38.trans (xσ39.trans (xσ40.trans (xσ50.trans xσ52))))))) (by decide)).1
      have kp116 : gI σ54 o 8 = gI σ52 o 8 := (cσ54.O (ko.up (xσ34.trans (xσ35.trans (xσ38.trans (xσ39.trans (xσ40.trans (xσ50.trans xσ52))))))) (by decide)).1
      have kp117 : gI σ54 o 9 = gI σ52 o 9 := (cσ54.O (ko.up (xσ34.trans (xσ35.trans (xσ38.trans (xσ39.trans (xσ40.trans (xσ50.trans xσ52))))))) (by decide)).1
      have kp118 : gP σ54 J 0 = gP σ52 J 0 := (cσ54.O (kJ.up (xσ34.trans (xσ35.trans (xσ38.trans (xσ39.trans (xσ40.trans (xσ50.trans xσ52))))))) (by decide)).2.1
      have kp119 : gP σ54 b (gI σ40 o 7).toNat = gP σ52 b (gI σ40 o 7).toNat := (cσ54.A (mb.up (xσ50.trans xσ52)) (by decide)).2.1
      have kp120 : gP σ54 th 0 = gP σ52 th 0 := (cσ54.O (kth.up (xσ34.trans (xσ35.trans (xσ38.trans (xσ39.trans (xσ40.trans (xσ50.trans xσ52))))))) (by decide)).2.1
      have kp121 : gP σ54 th 7 = gP σ52 th 7 := (cσ54.O (kth.up (xσ34.trans (xσ35.trans (xσ38.trans (xσ39.trans (xσ40.trans (xσ50.trans xσ52))))))) (by decide)).2.1
      have kp122 : gP σ54 th 8 = gP σ52 th 8 := (cσ54.O (kth.up (xσ34.trans (xσ35.trans (xσ38.trans (xσ39.trans (xσ40.trans (xσ50.trans xσ52))))))) (by decide)).2.1
      have kp123 : gI σ54 J 2 = gI σ52 J 2 := (cσ54.O (kJ.up (xσ34.trans (xσ35.trans (xσ38.trans (xσ39.trans (xσ40.trans (xσ50.trans xσ52))))))) (by decide)).1
      have kp124 : gI σ54 o 3 = gI σ52 o 3 := (cσ54.O (ko.up (xσ34.trans (xσ35.trans (xσ38.trans (xσ39.trans (xσ40.trans (xσ50.trans xσ52))))))) (by decide)).1
      have kp125 : gI σ54 o 6 = gI σ52 o 6 := (cσ54.O (ko.up (xσ34.trans (xσ35.trans (xσ38.trans (xσ39.trans (xσ40.trans (xσ50.trans xσ52))))))) (by decide)).1
      have r5σ54 := I_6_5 iσ54.1 (kth.up (xσ34.trans (xσ35.trans (xσ38.trans (xσ39.trans (xσ40.trans (xσ50.trans (xσ52.trans xσ54))))))))
      refine i_X6_wantWord iσ54 (kth.up (xσ34.trans (xσ35.trans (xσ38.trans (xσ39.trans (xσ40.trans (xσ50.trans (xσ52.trans xσ54)))))))) (kp120.trans (kp104.trans (kp88.trans (kp69.trans (kp58.trans (kp43.trans (kp28.trans (kp16.trans hX0)))))))) (kX.up (xσ34.trans (xσ35.trans (xσ38.trans (xσ39.trans (xσ40.trans (xσ50.trans (xσ52.trans xσ54)))))))) (((xσ34.trans (xσ35.trans (xσ38.trans (xσ39.trans (xσ40.trans (xσ50.trans (xσ52.trans xσ54))))))) tx kX.1).2.2.trans gX) (by (first | omega | with_reducible assumption | with_reducible exact rng_toInt _ | with_reducible exact rng_wr _ | (unfold rng; omega) | (unfold rng at *; omega) | assumption)) (by (first | omega | with_reducible assumption | with_reducible exact rng_toInt _ | with_reducible exact rng_wr _ | (unfold rng; omega) | (unfold rng at *; omega) | assumption)) (fun σ55 _ iσ55 cσ55 pσ55 => ?_) (fun σx LLx Nx nux E ix cx ux px => hX σx LLx Nx nux E ix (fσ54.tr (cx.mo (by decide))) (ux) (by first | exact px | exact ⟨by have := px.1; omega, px.2⟩ | (first | omega | with_reducible assumption | with_reducible exact rng_toInt _ | with_reducible exact rng_wr _ | (unfold rng; omega) | (unfold rng at *; omega) | assumption)))
      intro xσ55
      have fσ55 : Fx [323, 326, 327, 329, 331, 333, 386, 387, 388, 389, 390, 6464] gr σ σ55 := fσ54.tr (cσ55.mo (by decide))
      have oxcσ55 : OX o σ σ55 := oxcσ54.tr (OX.fx cσ55 (by decide) (by decide)) (xσ34.trans (xσ35.trans (xσ38.trans (xσ39.trans (xσ40.trans (xσ50.trans (xσ52.trans xσ54)))))))
      have kp126 : gI σ55 J 1 = gI σ54 J 1 := (cσ55.O (kJ.up (xσ34.trans (xσ35.trans (xσ38.trans (xσ39.trans (xσ40.trans (xσ50.trans (xσ52.trans xσ54)))))))) (by decide)).1
      have kp127 : gI σ55 J 7 = gI σ54 J 7 := (cσ55.O (kJ.up (xσ34.trans (xσ35.trans (xσ38.trans (xσ39.trans (xσ40.trans (xσ50.trans (xσ52.trans xσ54)))))))) (by decide)).1
      have kp128 : gI σ55 o 4 = gI σ54 o 4 := (cσ55.O (ko.up (xσ34.trans (xσ35.trans (xσ38.trans (xσ39.trans (xσ40.trans (xσ50.trans (xσ52.trans xσ54)))))))) (by decide)).1
      have kp129 : gI σ55 o 7 = gI σ54 o 7 := (cσ55.O (ko.up (xσ34.trans (xσ35.trans (xσ38.trans (xσ39.trans (xσ40.trans (xσ50.trans (xσ52.trans xσ54)))))))) (by decide)).1
      have kp130 : gI σ55 o 8 = gI σ54 o 8 := (cσ55.O (ko.up (xσ34.trans (xσ35.trans (xσ38.trans (xσ39.trans (xσ40.trans (xσ50.trans (xσ52.trans xσ54)))))))) (by decide)).1
      have kp131 : gI σ55 o 9 = gI σ54 o 9 := (cσ55.O (ko.up (xσ34.trans (xσ35.trans (xσ38.trans (xσ39.trans (xσ40.trans (xσ50.trans (xσ52.trans xσ54)))))))) (by decide)).1
      have kp132 : gP σ55 J 0 = gP σ54 J 0 := (cσ55.O (kJ.up (xσ34.trans (xσ35.trans (xσ38.trans (xσ39.trans (xσ40.trans (xσ50.trans (xσ52.trans xσ54)))))))) (by decide)).2.1
      have kp133 : gP σ55 b (gI σ40 o 7).toNat = gP σ54 b (gI σ40 o 7).toNat := (cσ55.A (mb.up (xσ50.trans (xσ52.trans xσ54))) (by decide)).2.1
      have kp134 : gP σ55 th 0 = gP σ54 th 0 := (cσ55.O (kth.up (xσ34.trans (xσ35.trans (xσ38.trans (xσ39.trans (xσ40.trans (xσ50.trans (xσ52.trans xσ54)))))))) (by decide)).2.1
      have kp135 : gP σ55 th 7 = gP σ54 th 7 := (cσ55.O (kth.up (xσ34.trans (xσ35.trans (xσ38.trans (xσ39.trans (xσ40.trans (xσ50.trans (xσ52.trans xσ54)))))))) (by decide)).2.1
      have kp136 : gP σ55 th 8 = gP σ54 th 8 := (cσ55.O (kth.up (xσ34.trans (xσ35.trans (xσ38.trans (xσ39.trans (xσ40.trans (xσ50.trans (xσ52.trans xσ54)))))))) (by decide)).2.1
      have kp137 : gI σ55 J 2 = gI σ54 J 2 := (cσ55.O (kJ.up (xσ34.trans (xσ35.trans (xσ38.trans (xσ39.trans (xσ40.trans (xσ50.trans (xσ52.trans xσ54)))))))) (by decide)).1
      have kp138 : gI σ55 o 3 = gI σ54 o 3 := (cσ55.O (ko.up (xσ34.trans (xσ35.trans (xσ38.trans (xσ39.trans (xσ40.trans (xσ50.trans (xσ52.trans xσ54)))))))) (by decide)).1
      have kp139 : gI σ55 o 6 = gI σ54 o 6 := (cσ55.O (ko.up (xσ34.trans (xσ35.trans (xσ38.trans (xσ39.trans (xσ40.trans (xσ50.trans (xσ52.trans xσ54)))))))) (by decide)).1
      have r5σ55 := I_6_5 iσ55.1 (kth.up (xσ34.trans (xσ35.trans (xσ38.trans (xσ39.trans (xσ40.trans (xσ50.trans (xσ52.trans (xσ54.trans xσ55)))))))))
      refine i_X6_column iσ55 (kth.up (xσ34.trans (xσ35.trans (xσ38.trans (xσ39.trans (xσ40.trans (xσ50.trans (xσ52.trans (xσ54.trans xσ55))))))))) eb_1 (mb_1.up (xσ50.trans (xσ52.trans (xσ54.trans xσ55)))) (by (first | omega | with_reducible assumption | with_reducible exact rng_toInt _ | with_reducible exact rng_wr _ | (unfold rng; omega) | (unfold rng at *; omega) | assumption)) (fun σ56 r57 iσ56 cσ56 pσ56 => ?_) (fun σx LLx Nx nux E ix cx ux px => hX σx LLx Nx nux E ix (fσ55.tr (cx.mo (by decide))) (ux) (by first | exact px | exact ⟨by have := px.1; omega, px.2⟩ | (first | omega | with_reducible assumption | with_reducible exact rng_toInt _ | with_reducible exact rng_wr _ | (unfold rng; omega) | (unfold rng at *; omega) | assumption)))
      intro xσ56
      have fσ56 : Fx [323, 326, 327, 329, 331, 333, 386, 387, 388, 389, 390, 6464] gr σ σ56 := fσ55.tr (cσ56.mo (by decide))
      have oxcσ56 : OX o σ σ56 := oxcσ55.tr (OX.fx cσ56 (by decide) (by decide)) (xσ34.trans (xσ35.trans (xσ38.trans (xσ39.trans (xσ40.trans (xσ50.trans (xσ52.trans (xσ54.trans xσ55))))))))
      have kp140 : gI σ56 J 1 = gI σ55 J 1 := (cσ56.O (kJ.up (xσ34.trans (xσ35.trans (xσ38.trans (xσ39.trans (xσ40.trans (xσ50.trans (xσ52.trans (xσ54.trans xσ55))))))))) (by decide)).1
      have kp141 : gI σ56 J 7 = gI σ55 J 7 := (cσ56.O (kJ.up (xσ34.trans (xσ35.trans (xσ38.trans (xσ39.trans (xσ40.trans (xσ50.trans (xσ52.trans (xσ54.trans xσ55))))))))) (by decide)).1
      have kp142 : gI σ56 o 4 = gI σ55 o 4 := (cσ56.O (ko.up (xσ34.trans (xσ35.trans (xσ38.trans (xσ39.trans (xσ40.trans (xσ50.trans (xσ52.trans (xσ54.trans xσ55))))))))) (by decide)).1
      have kp143 : gI σ56 o 7 = gI σ55 o 7 := (cσ56.O (ko.up (xσ34.trans (xσ35.trans (xσ38.trans (xσ39.trans (xσ40.trans (xσ50.trans (xσ52.trans (xσ54.trans xσ55))))))))) (by decide)).1
      have kp144 : gI σ56 o 8 = gI σ55 o 8 := (cσ56.O (ko.up (xσ34.trans (xσ35.trans (xσ38.trans (xσ39.trans (xσ40.trans (xσ50.trans (xσ52.trans (xσ54.trans xσ55))))))))) (by decide)).1
      have kp145 : gI σ56 o 9 = gI σ55 o 9 := (cσ56.O (ko.up (xσ34.trans (xσ35.trans (xσ38.trans (xσ39.trans (xσ40.trans (xσ50.trans (xσ52.trans (xσ54.trans xσ55))))))))) (by decide)).1
      have kp146 : gP σ56 J 0 = gP σ55 J 0 := (cσ56.O (kJ.up (xσ34.trans (xσ35.trans (xσ38.trans (xσ39.trans (xσ40.trans (xσ50.trans (xσ52.trans (xσ54.trans xσ55))))))))) (by decide)).2.1
      have kp147 : gP σ56 b (gI σ40 o 7).toNat = gP σ55 b (gI σ40 o 7).toNat := (cσ56.A (mb.up (xσ50.trans (xσ52.trans (xσ54.trans xσ55)))) (by decide)).2.1
      have kp148 : gP σ56 th 0 = gP σ55 th 0 := (cσ56.O (kth.up (xσ34.trans (xσ35.trans (xσ38.trans (xσ39.trans (xσ40.trans (xσ50.trans (xσ52.trans (xσ54.trans xσ55))))))))) (by decide)).2.1
      have kp149 : gP σ56 th 7 = gP σ55 th 7 := (cσ56.O (kth.up (xσ34.trans (xσ35.trans (xσ38.trans (xσ39.trans (xσ40.trans (xσ50.trans (xσ52.trans (xσ54.trans xσ55))))))))) (by decide)).2.1
      have kp150 : gP σ56 th 8 = gP σ55 th 8 := (cσ56.O (kth.up (xσ34.trans (xσ35.trans (xσ38.trans (xσ39.trans (xσ40.trans (xσ50.trans (xσ52.trans (xσ54.trans xσ55))))))))) (by decide)).2.1
      have kp151 : gI σ56 th 2 = gI σ55 th 2 := (cσ56.O (kth.up (xσ34.trans (xσ35.trans (xσ38.trans (xσ39.trans (xσ40.trans (xσ50.trans (xσ52.trans (xσ54.trans xσ55))))))))) (by decide)).1
      have kp152 : gI σ56 th 3 = gI σ55 th 3 := (cσ56.O (kth.up (xσ34.trans (xσ35.trans (xσ38.trans (xσ39.trans (xσ40.trans (xσ50.trans (xσ52.trans (xσ54.trans xσ55))))))))) (by decide)).1
      have kp153 : gI σ56 th 5 = gI σ55 th 5 := (cσ56.O (kth.up (xσ34.trans (xσ35.trans (xσ38.trans (xσ39.trans (xσ40.trans (xσ50.trans (xσ52.trans (xσ54.trans xσ55))))))))) (by decide)).1
      have kp154 : gI σ56 J 2 = gI σ55 J 2 := (cσ56.O (kJ.up (xσ34.trans (xσ35.trans (xσ38.trans (xσ39.trans (xσ40.trans (xσ50.trans (xσ52.trans (xσ54.trans xσ55))))))))) (by decide)).1
      have kp155 : gI σ56 o 3 = gI σ55 o 3 := (cσ56.O (ko.up (xσ34.trans (xσ35.trans (xσ38.trans (xσ39.trans (xσ40.trans (xσ50.trans (xσ52.trans (xσ54.trans xσ55))))))))) (by decide)).1
      have kp156 : gI σ56 o 6 = gI σ55 o 6 := (cσ56.O (ko.up (xσ34.trans (xσ35.trans (xσ38.trans (xσ39.trans (xσ40.trans (xσ50.trans (xσ52.trans (xσ54.trans xσ55))))))))) (by decide)).1
      refine ⟨o, (kp136.trans (kp122.trans (kp106.trans (kp90.trans (kp71.trans (kp60.trans (kp45.trans (kp30.trans (kp18.trans h8))))))))), fun kk_o_4 => ?_⟩
      intro σ59 eσ59
      have xσ59 : Ext σ56 σ59 := by rw [eσ59]; exact fun _ h => ⟨h, rfl, rfl⟩
      have iσ59 : IV σ59 pl gq ci gr nc ot LL N nu := by rw [eσ59]; exact iσ56.wSp (ko.up (xσ34.trans (xσ35.trans (xσ38.trans (xσ39.trans (xσ40.trans (xσ50.trans (xσ52.trans (xσ54.trans (xσ55.trans xσ56)))))))))) (fun i hi => by omega) (by decide) (show (0 : Int) ≤ r57 ∧ r57 ≤ 7 from ⟨by omega, by omega⟩)
      have fσ59 : Fx [323, 326, 327, 329, 331, 333, 386, 387, 388, 389, 390, 6464] gr σ σ59 := fσ56.tr (Sk.fx (by rw [eσ59]; exact Sk.pI (by rw [fcdO (ko.up (xσ34.trans (xσ35.trans (xσ38.trans (xσ39.trans (xσ40.trans (xσ50.trans (xσ52.trans (xσ54.trans (xσ55.trans xσ56)))))))))) (by decide)]; decide)))
      have oxcσ59 : OX o σ σ59 := oxcσ56.tr (by rw [eσ59]; exact OX.pI (ko.up (xσ34.trans (xσ35.trans (xσ38.trans (xσ39.trans (xσ40.trans (xσ50.trans (xσ52.trans (xσ54.trans (xσ55.trans xσ56)))))))))) (Or.inr rfl)) (xσ34.trans (xσ35.trans (xσ38.trans (xσ39.trans (xσ40.trans (xσ50.trans (xσ52.trans (xσ54.trans (xσ55.trans xσ56)))))))))
      have wσ59 : gI σ59 o 13 = r57 := by rw [eσ59]; exact up2_s _ _ _ _
      have kp157 : gI σ59 J 1 = gI σ56 J 1 := by rw [eσ59]; exact up2_n _ _ (fun q => absurd q.2 (by decide))
      have kp158 : gI σ59 J 7 = gI σ56 J 7 := by rw [eσ59]; exact up2_n _ _ (fun q => absurd q.2 (by decide))
      have kp159 : gI σ59 o 4 = gI σ56 o 4 := by rw [eσ59]; exact up2_n _ _ (fun q => absurd q.2 (by decide))
      have kp160 : gI σ59 o 7 = gI σ56 o 7 := by rw [eσ59]; exact up2_n _ _ (fun q => absurd q.2 (by decide))
      have kp161 : gI σ59 o 8 = gI σ56 o 8 := by rw [eσ59]; exact up2_n _ _ (fun q => absurd q.2 (by decide))
      have kp162 : gI σ59 o 9 = gI σ56 o 9 := by rw [eσ59]; exact up2_n _ _ (fun q => absurd q.2 (by decide))
      have kp163 : gP σ59 J 0 = gP σ56 J 0 := by rw [eσ59]
      have kp164 : gP σ59 b (gI σ40 o 7).toNat = gP σ56 b (gI σ40 o 7).toNat := by rw [eσ59]
      have kp165 : gP σ59 th 0 = gP σ56 th 0 := by rw [eσ59]
      have kp166 : gP σ59 th 7 = gP σ56 th 7 := by rw [eσ59]
      have kp167 : gP σ59 th 8 = gP σ56 th 8 := by rw [eσ59]
      have kp168 : gI σ59 th 2 = gI σ56 th 2 := by rw [eσ59]; exact up2_n _ _ (fun q => absurd q.2 (by decide))
      have kp169 : gI σ59 th 3 = gI σ56 th 3 := by rw [eσ59]; exact up2_n _ _ (fun q => absurd q.2 (by decide))
      have kp170 : gI σ59 th 5 = gI σ56 th 5 := by rw [eσ59]; exact up2_n _ _ (fun q => absurd q.2 (by decide))
      have kp171 : gI σ59 J 2 = gI σ56 J 2 := by rw [eσ59]; exact up2_n _ _ (fun q => absurd q.2 (by decide))
      have kp172 : gI σ59 o 3 = gI σ56 o 3 := by rw [eσ59]; exact up2_n _ _ (fun q => absurd q.2 (by decide))
      have kp173 : gI σ59 o 6 = gI σ56 o 6 := by rw [eσ59]; exact up2_n _ _ (fun q => absurd q.2 (by decide))
      refine i_X6_next iσ59 (kth.up (xσ34.trans (xσ35.trans (xσ38.trans (xσ39.trans (xσ40.trans (xσ50.trans (xσ52.trans (xσ54.trans (xσ55.trans (xσ56.trans xσ59))))))))))) (kp165.trans (kp148.trans (kp134.trans (kp120.trans (kp104.trans (kp88.trans (kp69.trans (kp58.trans (kp43.trans (kp28.trans (kp16.trans hX0))))))))))) (kX.up (xσ34.trans (xσ35.trans (xσ38.trans (xσ39.trans (xσ40.trans (xσ50.trans (xσ52.trans (xσ54.trans (xσ55.trans (xσ56.trans xσ59))))))))))) (((xσ34.trans (xσ35.trans (xσ38.trans (xσ39.trans (xσ40.trans (xσ50.trans (xσ52.trans (xσ54.trans (xσ55.trans (xσ56.trans xσ59)))))))))) tx kX.1).2.2.trans gX) (by (first | omega | with_reducible assumption | with_reducible exact rng_toInt _ | with_reducible exact rng_wr _ | (unfold rng; omega) | (unfold rng at *; omega) | assumption)) (by (first | omega | with_reducible assumption | with_reducible exact rng_toInt _ | with_reducible exact rng_wr _ | (unfold rng; omega) | (unfold rng at *; omega) | assumption)) (fun σ60 _ iσ60 cσ60 pσ60 => ?_) (fun σx LLx Nx nux E ix cx ux px => hX σx LLx Nx nux E ix (fσ59.tr (cx.mo (by decide))) (ux) (by first | exact px | exact ⟨by have := px.1; omega, px.2⟩ | (first | omega | with_reducible assumption | with_reducible exact rng_toInt _ | with_reducible exact rng_wr _ | (unfold rng; omega) | (unfold rng at *; omega) | assumption)))
      intro xσ60
      have fσ60 : Fx [323, 326, 327, 329, 331, 333, 386, 387, 388, 389, 390, 6464] gr σ σ60 := fσ59.tr (cσ60.mo (by decide))
      have oxcσ60 : OX o σ σ60 := oxcσ59.tr (OX.fx cσ60 (by decide) (by decide)) (xσ34.trans (xσ35.trans (xσ38.trans (xσ39.trans (xσ40.trans (xσ50.trans (xσ52.trans (xσ54.trans (xσ55.trans (xσ56.trans xσ59))))))))))
      have kp174 : gI σ60 J 1 = gI σ59 J 1 := (cσ60.O (kJ.up (xσ34.trans (xσ35.trans (xσ38.trans (xσ39.trans (xσ40.trans (xσ50.trans (xσ52.trans (xσ54.trans (xσ55.trans (xσ56.trans xσ59))))))))))) (by decide)).1
      have kp175 : gI σ60 J 7 = gI σ59 J 7 := (cσ60.O (kJ.up (xσ34.trans (xσ35.trans (xσ38.trans (xσ39.trans (xσ40.trans (xσ50.trans (xσ52.trans (xσ54.trans (xσ55.trans (xσ56.trans xσ59))))))))))) (by decide)).1
      have kp176 : gI σ60 o 13 = gI σ59 o 13 := (cσ60.O (ko.up (xσ34.trans (xσ35.trans (xσ38.trans (xσ39.trans (xσ40.trans (xσ50.trans (xσ52.trans (xσ54.trans (xσ55.trans (xσ56.trans xσ59))))))))))) (by decide)).1
      have kp177 : gI σ60 o 4 = gI σ59 o 4 := (cσ60.O (ko.up (xσ34.trans (xσ35.trans (xσ38.trans (xσ39.trans (xσ40.trans (xσ50.trans (xσ52.trans (xσ54.trans (xσ55.trans (xσ56.trans xσ59))))))))))) (by decide)).1
      have kp178 : gI σ60 o 7 = gI σ59 o 7 := (cσ60.O (ko.up (xσ34.trans (xσ35.trans (xσ38.trans (xσ39.trans (xσ40.trans (xσ50.trans (xσ52.trans (xσ54.trans (xσ55.trans (xσ56.trans xσ59))))))))))) (by decide)).1
      have kp179 : gI σ60 o 8 = gI σ59 o 8 := (cσ60.O (ko.up (xσ34.trans (xσ35.trans (xσ38.trans (xσ39.trans (xσ40.trans (xσ50.trans (xσ52.trans (xσ54.trans (xσ55.trans (xσ56.trans xσ59))))))))))) (by decide)).1
      have kp180 : gI σ60 o 9 = gI σ59 o 9 := (cσ60.O (ko.up (xσ34.trans (xσ35.trans (xσ38.trans (xσ39.trans (xσ40.trans (xσ50.trans (xσ52.trans (xσ54.trans (xσ55.trans (xσ56.trans xσ59))))))))))) (by decide)).1
      have kp181 : gP σ60 J 0 = gP σ59 J 0 := (cσ60.O (kJ.up (xσ34.trans (xσ35.trans (xσ38.trans (xσ39.trans (xσ40.trans (xσ50.trans (xσ52.trans (xσ54.trans (xσ55.trans (xσ56.trans xσ59))))))))))) (by decide)).2.1
      have kp182 : gP σ60 b (gI σ40 o 7).toNat = gP σ59 b (gI σ40 o 7).toNat := (cσ60.A (mb.up (xσ50.trans (xσ52.trans (xσ54.trans (xσ55.trans (xσ56.trans xσ59)))))) (by decide)).2.1
      have kp183 : gP σ60 th 0 = gP σ59 th 0 := (cσ60.O (kth.up (xσ34.trans (xσ35.trans (xσ38.trans (xσ39.trans (xσ40.trans (xσ50.trans (xσ52.trans (xσ54.trans (xσ55.trans (xσ56.trans xσ59))))))))))) (by decide)).2.1
      have kp184 : gP σ60 th 7 = gP σ59 th 7 := (cσ60.O (kth.up (xσ34.trans (xσ35.trans (xσ38.trans (xσ39.trans (xσ40.trans (xσ50.trans (xσ52.trans (xσ54.trans (xσ55.trans (xσ56.trans xσ59))))))))))) (by decide)).2.1
      have kp185 : gP σ60 th 8 = gP σ59 th 8 := (cσ60.O (kth.up (xσ34.trans (xσ35.trans (xσ38.trans (xσ39.trans (xσ40.trans (xσ50.trans (xσ52.trans (xσ54.trans (xσ55.trans (xσ56.trans xσ59))))))))))) (by decide)).2.1
      have kp186 : gI σ60 J 2 = gI σ59 J 2 := (cσ60.O (kJ.up (xσ34.trans (xσ35.trans (xσ38.trans (xσ39.trans (xσ40.trans (xσ50.trans (xσ52.trans (xσ54.trans (xσ55.trans (xσ56.trans xσ59))))))))))) (by decide)).1
      have kp187 : gI σ60 o 3 = gI σ59 o 3 := (cσ60.O (ko.up (xσ34.trans (xσ35.trans (xσ38.trans (xσ39.trans (xσ40.trans (xσ50.trans (xσ52.trans (xσ54.trans (xσ55.trans (xσ56.trans xσ59))))))))))) (by decide)).1
      have kp188 : gI σ60 o 6 = gI σ59 o 6 := (cσ60.O (ko.up (xσ34.trans (xσ35.trans (xσ38.trans (xσ39.trans (xσ40.trans (xσ50.trans (xσ52.trans (xσ54.trans (xσ55.trans (xσ56.trans xσ59))))))))))) (by decide)).1
      have r5σ60 := I_6_5 iσ60.1 (kth.up (xσ34.trans (xσ35.trans (xσ38.trans (xσ39.trans (xσ40.trans (xσ50.trans (xσ52.trans (xσ54.trans (xσ55.trans (xσ56.trans (xσ59.trans xσ60))))))))))))
      refine i_X6_wantWord iσ60 (kth.up (xσ34.trans (xσ35.trans (xσ38.trans (xσ39.trans (xσ40.trans (xσ50.trans (xσ52.trans (xσ54.trans (xσ55.trans (xσ56.trans (xσ59.trans xσ60)))))))))))) (kp183.trans (kp165.trans (kp148.trans (kp134.trans (kp120.trans (kp104.trans (kp88.trans (kp69.trans (kp58.trans (kp43.trans (kp28.trans (kp16.trans hX0)))))))))))) (kX.up (xσ34.trans (xσ35.trans (xσ38.trans (xσ39.trans (xσ40.trans (xσ50.trans (xσ52.trans (xσ54.trans (xσ55.trans (xσ56.trans (xσ59.trans xσ60)))))))))))) (((xσ34.trans (xσ35.trans (xσ38.trans (xσ39.trans (xσ40.trans (xσ50.trans (xσ52.trans (xσ54.trans (xσ55.trans (xσ56.trans (xσ59.trans xσ60))))))))))) tx kX.1).2.2.trans gX) (by (first | omega | with_reducible assumption | with_reducible exact rng_toInt _ | with_reducible exact rng_wr _ | (unfold rng; omega) | (unfold rng at *; omega) | assumption)) (by (first | omega | with_reducible assumption | with_reducible exact rng_toInt _ | with_reducible exact rng_wr _ | (unfold rng; omega) | (unfold rng at *; omega) | assumption)) (fun σ61 _ iσ61 cσ61 pσ61 => ?_) (fun σx LLx Nx nux E ix cx ux px => hX σx LLx Nx nux E ix (fσ60.tr (cx.mo (by decide))) (ux) (by first | exact px | exact ⟨by have := px.1; omega, px.2⟩ | (first | omega | with_reducible assumption | with_reducible exact rng_toInt _ | with_reducible exact rng_wr _ | (unfold rng; omega) | (unfold rng at *; omega) | assumption)))
      intro xσ61
      have fσ61 : Fx [323, 326, 327, 329, 331, 333, 386, 387, 388, 389, 390, 6464] gr σ σ61 := fσ60.tr (cσ61.mo (by decide))
      have oxcσ61 : OX o σ σ61 := oxcσ60.tr (OX.fx cσ61 (by decide) (by decide)) (xσ34.trans (xσ35.trans (xσ38.trans (xσ39.trans (xσ40.trans (xσ50.trans (xσ52.trans (xσ54.trans (xσ55.trans (xσ56.trans (xσ59.trans xσ60)))))))))))
      have kp189 : gI σ61 J 1 = gI σ60 J 1 := (cσ61.O (kJ.up (xσ34.trans (xσ35.trans (xσ38.trans (xσ39.trans (xσ40.trans (xσ50.trans (xσ52.trans (xσ54.trans (xσ55.trans (xσ56.trans (xσ59.trans xσ60)))))))))))) (by decide)).1
      have kp190 : gI σ61 J 7 = gI σ60 J 7 := (cσ61.O (kJ.up (xσ34.trans (xσ35.trans (xσ38.trans (xσ39.trans (xσ40.trans (xσ50.trans (xσ52.trans (xσ54.trans (xσ55.trans (xσ56.trans (xσ59.trans xσ60)))))))))))) (by decide)).1
      have kp191 : gI σ61 o 13 = gI σ60 o 13 := (cσ61.O (ko.up (xσ34.trans (xσ35.trans (xσ38.trans (xσ39.trans (xσ40.trans (xσ50.trans (xσ52.trans (xσ54.trans (xσ55.trans (xσ56.trans (xσ59.trans xσ60)))))))))))) (by decide)).1
      have kp192 : gI σ61 o 4 = gI σ60 o 4 := (cσ61.O (ko.up (xσ34.trans (xσ35.trans (xσ38.trans (xσ39.trans (xσ40.trans (xσ50.trans (xσ52.trans (xσ54.trans (xσ55.trans (xσ56.trans (xσ59.trans xσ60)))))))))))) (by decide)).1
      have kp193 : gI σ61 o 7 = gI σ60 o 7 := (cσ61.O (ko.up (xσ34.trans (xσ35.trans (xσ38.trans (xσ39.trans (xσ40.trans (xσ50.trans (xσ52.trans (xσ54.trans (xσ55.trans (xσ56.trans (xσ59.trans xσ60)))))))))))) (by decide)).1
      have kp194 : gI σ61 o 8 = gI σ60 o 8 := (cσ61.O (ko.up (xσ34.trans (xσ35.trans (xσ38.trans (xσ39.trans (xσ40.trans (xσ50.trans (xσ52.trans (xσ54.trans (xσ55.trans (xσ56.trans (xσ59.trans xσ60)))))))))))) (by decide)).1
      have kp195 : gI σ61 o 9 = gI σ60 o 9 := (cσ61.O (ko.up (xσ34.trans (xσ35.trans (xσ38.trans (xσ39.trans (xσ40.trans (xσ50.trans (xσ52.trans (xσ54.trans (xσ55.trans (xσ56.trans (xσ59.trans xσ60)))))))))))) (by decide)).1
      have kp196 : gP σ61 J 0 = gP σ60 J 0 := (cσ61.O (kJ.up (xσ34.trans (xσ35.trans (xσ38.trans (xσ39.trans (xσ40.trans (xσ50.trans (xσ52.trans (xσ54.trans (xσ55.trans (xσ56.trans (xσ59.trans xσ60)))))))))))) (by decide)).2.1
      have kp197 : gP σ61 b (gI σ40 o 7).toNat = gP σ60 b (gI σ40 o 7).toNat := (cσ61.A (mb.up (xσ50.trans (xσ52.trans (xσ54.trans (xσ55.trans (xσ56.trans (xσ59.trans xσ60))))))) (by decide)).2.1
      have kp198 : gP σ61 th 0 = gP σ60 th 0 := (cσ61.O (kth.up (xσ34.trans (xσ35.trans (xσ38.trans (xσ39.trans (xσ40.trans (xσ50.trans (xσ52.trans (xσ54.trans (xσ55.trans (xσ56.trans (xσ59.trans xσ60)))))))))))) (by decide)).2.1
      have kp199 : gP σ61 th 7 = gP σ60 th 7 := (cσ61.O (kth.up (xσ34.trans (xσ35.trans (xσ38.trans (xσ39.trans (xσ40.trans (xσ50.trans (xσ52.trans (xσ54.trans (xσ55.trans (xσ56.trans (xσ59.trans xσ60)))))))))))) (by decide)).2.1
      have kp200 : gP σ61 th 8 = gP σ60 th 8 := (cσ61.O (kth.up (xσ34.trans (xσ35.trans (xσ38.trans (xσ39.trans (xσ40.trans (xσ50.trans (xσ52.trans (xσ54.trans (xσ55.trans (xσ56.trans (xσ59.trans xσ60)))))))))))) (by decide)).2.1
      have kp201 : gI σ61 J 2 = gI σ60 J 2 := (cσ61.O (kJ.up (xσ34.trans (xσ35.trans (xσ38.trans (xσ39.trans (xσ40.trans (xσ50.trans (xσ52.trans (xσ54.trans (xσ55.trans (xσ56.trans (xσ59.trans xσ60)))))))))))) (by decide)).1
      have kp202 : gI σ61 o 3 = gI σ60 o 3 := (cσ61.O (ko.up (xσ34.trans (xσ35.trans (xσ38.trans (xσ39.trans (xσ40.trans (xσ50.trans (xσ52.trans (xσ54.trans (xσ55.trans (xσ56.trans (xσ59.trans xσ60)))))))))))) (by decide)).1
      have kp203 : gI σ61 o 6 = gI σ60 o 6 := (cσ61.O (ko.up (xσ34.trans (xσ35.trans (xσ38.trans (xσ39.trans (xσ40.trans (xσ50.trans (xσ52.trans (xσ54.trans (xσ55.trans (xσ56.trans (xσ59.trans xσ60)))))))))))) (by decide)).1
      have r5σ61 := I_6_5 iσ61.1 (kth.up (xσ34.trans (xσ35.trans (xσ38.trans (xσ39.trans (xσ40.trans (xσ50.trans (xσ52.trans (xσ54.trans (xσ55.trans (xσ56.trans (xσ59.trans (xσ60.trans xσ61)))))))))))))
      refine i_X6_number iσ61 (kth.up (xσ34.trans (xσ35.trans (xσ38.trans (xσ39.trans (xσ40.trans (xσ50.trans (xσ52.trans (xσ54.trans (xσ55.trans (xσ56.trans (xσ59.trans (xσ60.trans xσ61))))))))))))) (by (first | omega | with_reducible assumption | with_reducible exact rng_toInt _ | with_reducible exact rng_wr _ | (unfold rng; omega) | (unfold rng at *; omega) | assumption)) (by (first | omega | with_reducible assumption | with_reducible exact rng_toInt _ | with_reducible exact rng_wr _ | (unfold rng; omega) | (unfold rng at *; omega) | assumption)) (fun σ62 r63 iσ62 cσ62 pσ62 => ?_) (fun σx LLx Nx nux E ix cx ux px => hX σx LLx Nx nux E ix (fσ61.tr (cx.mo (by decide))) (ux) (by first | exact px | exact ⟨by have := px.1; omega, px.2⟩ | (first | omega | with_reducible assumption | with_reducible exact rng_toInt _ | with_reducible exact rng_wr _ | (unfold rng; omega) | (unfold rng at *; omega) | assumption)))
      intro xσ62
      have fσ62 : Fx [323, 326, 327, 329, 331, 333, 386, 387, 388, 389, 390, 6464] gr σ σ62 := fσ61.tr (cσ62.mo (by decide))
      have oxcσ62 : OX o σ σ62 := oxcσ61.tr (OX.fx cσ62 (by decide) (by decide)) (xσ34.trans (xσ35.trans (xσ38.trans (xσ39.trans (xσ40.trans (xσ50.trans (xσ52.trans (xσ54.trans (xσ55.trans (xσ56.trans (xσ59.trans (xσ60.trans xσ61))))))))))))
      have kp204 : gI σ62 J 1 = gI σ61 J 1 := (cσ62.O (kJ.up (xσ34.trans (xσ35.trans (xσ38.trans (xσ39.trans (xσ40.trans (xσ50.trans (xσ52.trans (xσ54.trans (xσ55.trans (xσ56.trans (xσ59.trans (xσ60.trans xσ61))))))))))))) (by decide)).1
      have kp205 : gI σ62 J 7 = gI σ61 J 7 := (cσ62.O (kJ.up (xσ34.trans (xσ35.trans (xσ38.trans (xσ39.trans (xσ40.trans (xσ50.trans (xσ52.trans (xσ54.trans (xσ55.trans (xσ56.trans (xσ59.trans (xσ60.trans xσ61))))))))))))) (by decide)).1
      have kp206 : gI σ62 o 13 = gI σ61 o 13 := (cσ62.O (ko.up (xσ34.trans (xσ35.trans (xσ38.trans (xσ39.trans (xσ40.trans (xσ50.trans (xσ52.trans (xσ54.trans (xσ55.trans (xσ56.trans (xσ59.trans (xσ60.trans xσ61))))))))))))) (by decide)).1
      have kp207 : gI σ62 o 4 = gI σ61 o 4 := (cσ62.O (ko.up (xσ34.trans (xσ35.trans (xσ38.trans (xσ39.trans (xσ40.trans (xσ50.trans (xσ52.trans (xσ54.trans (xσ55.trans (xσ56.trans (xσ59.trans (xσ60.trans xσ61))))))))))))) (by decide)).1
      have kp208 : gI σ62 o 7 = gI σ61 o 7 := (cσ62.O (ko.up (xσ34.trans (xσ35.trans (xσ38.trans (xσ39.trans (xσ40.trans (xσ50.trans (xσ52.trans (xσ54.trans (xσ55.trans (xσ56.trans (xσ59.trans (xσ60.trans xσ61))))))))))))) (by decide)).1
      have kp209 : gI σ62 o 8 = gI σ61 o 8 := (cσ62.O (ko.up (xσ34.trans (xσ35.trans (xσ38.trans (xσ39.trans (xσ40.trans (xσ50.trans (xσ52.trans (xσ54.trans (xσ55.trans (xσ56.trans (xσ59.trans (xσ60.trans xσ61))))))))))))) (by decide)).1
      have kp210 : gI σ62 o 9 = gI σ61 o 9 := (cσ62.O (ko.up (xσ34.trans (xσ35.trans (xσ38.trans (xσ39.trans (xσ40.trans (xσ50.trans (xσ52.trans (xσ54.trans (xσ55.trans (xσ56.trans (xσ59.trans (xσ60.trans xσ61))))))))))))) (by decide)).1
      have kp211 : gP σ62 J 0 = gP σ61 J 0 := (cσ62.O (kJ.up (xσ34.trans (xσ35.trans (xσ38.trans (xσ39.trans (xσ40.trans (xσ50.trans (xσ52.trans (xσ54.trans (xσ55.trans (xσ56.trans (xσ59.trans (xσ60.trans xσ61))))))))))))) (by decide)).2.1
      have kp212 : gP σ62 b (gI σ40 o 7).toNat = gP σ61 b (gI σ40 o 7).toNat := (cσ62.A (mb.up (xσ50.trans (xσ52.trans (xσ54.trans (xσ55.trans (xσ56.trans (xσ59.trans (xσ60.trans xσ61)))))))) (by decide)).2.1
      have kp213 : gP σ62 th 0 = gP σ61 th 0 := (cσ62.O (kth.up (xσ34.trans (xσ35.trans (xσ38.trans (xσ39.trans (xσ40.trans (xσ50.trans (xσ52.trans (xσ54.trans (xσ55.trans (xσ56.trans (xσ59.trans (xσ60.trans xσ61))))))))))))) (by decide)).2.1
      have kp214 : gP σ62 th 7 = gP σ61 th 7 := (cσ62.O (kth.up (xσ34.trans (xσ35.trans (xσ38.trans (xσ39.trans (xσ40.trans (xσ50.trans (xσ52.trans (xσ54.trans (xσ55.trans (xσ56.trans (xσ59.trans (xσ60.trans xσ61))))))))))))) (by decide)).2.1
      have kp215 : gP σ62 th 8 = gP σ61 th 8 := (cσ62.O (kth.up (xσ34.trans (xσ35.trans (xσ38.trans (xσ39.trans (xσ40.trans (xσ50.trans (xσ52.trans (xσ54.trans (xσ55.trans (xσ56.trans (xσ59.trans (xσ60.trans xσ61))))))))))))) (by decide)).2.1
      have kp216 : gI σ62 th 2 = gI σ61 th 2 := (cσ62.O (kth.up (xσ34.trans (xσ35.trans (xσ38.trans (xσ39.trans (xσ40.trans (xσ50.trans (xσ52.trans (xσ54.trans (xσ55.trans (xσ56.trans (xσ59.trans (xσ60.trans xσ61))))))))))))) (by decide)).1
      have kp217 : gI σ62 th 3 = gI σ61 th 3 := (cσ62.O (kth.up (xσ34.trans (xσ35.trans (xσ38.trans (xσ39.trans (xσ40.trans (xσ50.trans (xσ52.trans (xσ54.trans (xσ55.trans (xσ56.trans (xσ59.trans (xσ60.trans xσ61))))))))))))) (by decide)).1
      have kp218 : gI σ62 th 5 = gI σ61 th 5 := (cσ62.O (kth.up (xσ34.trans (xσ35.trans (xσ38.trans (xσ39.trans (xσ40.trans (xσ50.trans (xσ52.trans (xσ54.trans (xσ55.trans (xσ56.trans (xσ59.trans (xσ60.trans xσ61))))))))))))) (by decide)).1
      have kp219 : gI σ62 J 2 = gI σ61 J 2 := (cσ62.O (kJ.up (xσ34.trans (xσ35.trans (xσ38.trans (xσ39.trans (xσ40.trans (xσ50.trans (xσ52.trans (xσ54.trans (xσ55.trans (xσ56.trans (xσ59.trans (xσ60.trans xσ61))))))))))))) (by decide)).1
      have kp220 : gI σ62 o 3 = gI σ61 o 3 := (cσ62.O (ko.up (xσ34.trans (xσ35.trans (xσ38.trans (xσ39.trans (xσ40.trans (xσ50.trans (xσ52.trans (xσ54.trans (xσ55.trans (xσ56.trans (xσ59.trans (xσ60.trans xσ61))))))))))))) (by decide)).1
      have kp221 : gI σ62 o 6 = gI σ61 o 6 := (cσ62.O (ko.up (xσ34.trans (xσ35.trans (xσ38.trans (xσ39.trans (xσ40.trans (xσ50.trans (xσ52.trans (xσ54.trans (xσ55.trans (xσ56.trans (xσ59.trans (xσ60.trans xσ61))))))))))))) (by decide)).1
      refine ⟨o, (kp200.trans (kp185.trans (kp167.trans (kp150.trans (kp136.trans (kp122.trans (kp106.trans (kp90.trans (kp71.trans (kp60.trans (kp45.trans (kp30.trans (kp18.trans h8))))))))))))), fun kk_o_5 => ?_⟩
      intro σ65 eσ65
      have xσ65 : Ext σ62 σ65 := by rw [eσ65]; exact fun _ h => ⟨h, rfl, rfl⟩
      have iσ65 : IV σ65 pl gq ci gr nc ot LL N nu := by rw [eσ65]; exact iσ62.wSp (ko.up (xσ34.trans (xσ35.trans (xσ38.trans (xσ39.trans (xσ40.trans (xσ50.trans (xσ52.trans (xσ54.trans (xσ55.trans (xσ56.trans (xσ59.trans (xσ60.trans (xσ61.trans xσ62)))))))))))))) (fun i hi => by omega) (by decide) (show (1 : Int) ≤ r63 ∧ r63 ≤ 1000 from ⟨by omega, by omega⟩)
      have fσ65 : Fx [323, 326, 327, 329, 331, 333, 386, 387, 388, 389, 390, 6464] gr σ σ65 := fσ62.tr (Sk.fx (by rw [eσ65]; exact Sk.pI (by rw [fcdO (ko.up (xσ34.trans (xσ35.trans (xσ38.trans (xσ39.trans (xσ40.trans (xσ50.trans (xσ52.trans (xσ54.trans (xσ55.trans (xσ56.trans (xσ59.trans (xσ60.trans (xσ61.trans xσ62)))))))))))))) (by decide)]; decide)))
      have oxcσ65 : OX o σ σ65 := oxcσ62.tr (by rw [eσ65]; exact OX.pI (ko.up (xσ34.trans (xσ35.trans (xσ38.trans (xσ39.trans (xσ40.trans (xσ50.trans (xσ52.trans (xσ54.trans (xσ55.trans (xσ56.trans (xσ59.trans (xσ60.trans (xσ61.trans xσ62)))))))))))))) (Or.inr rfl)) (xσ34.trans (xσ35.trans (xσ38.trans (xσ39.trans (xσ40.trans (xσ50.trans (xσ52.trans (xσ54.trans (xσ55.trans (xσ56.trans (xσ59.trans (xσ60.trans (xσ61.trans xσ62)))))))))))))
      have wσ65 : gI σ65 o 11 = r63 := by rw [eσ65]; exact up2_s _ _ _ _
      have kp222 : gI σ65 J 1 = gI σ62 J 1 := by rw [eσ65]; exact up2_n _ _ (fun q => absurd q.2 (by decide))
      have kp223 : gI σ65 J 7 = gI σ62 J 7 := by rw [eσ65]; exact up2_n _ _ (fun q => absurd q.2 (by decide))
      have kp224 : gI σ65 o 13 = gI σ62 o 13 := by rw [eσ65]; exact up2_n _ _ (fun q => absurd q.2 (by decide))
      have kp225 : gI σ65 o 4 = gI σ62 o 4 := by rw [eσ65]; exact up2_n _ _ (fun q => absurd q.2 (by decide))
      have kp226 : gI σ65 o 7 = gI σ62 o 7 := by rw [eσ65]; exact up2_n _ _ (fun q => absurd q.2 (by decide))
      have kp227 : gI σ65 o 8 = gI σ62 o 8 := by rw [eσ65]; exact up2_n _ _ (fun q => absurd q.2 (by decide))
      have kp228 : gI σ65 o 9 = gI σ62 o 9 := by rw [eσ65]; exact up2_n _ _ (fun q => absurd q.2 (by decide))
      have kp229 : gP σ65 J 0 = gP σ62 J 0 := by rw [eσ65]
      have kp230 : gP σ65 b (gI σ40 o 7).toNat = gP σ62 b (gI σ40 o 7).toNat := by rw [eσ65]
      have kp231 : gP σ65 th 0 = gP σ62 th 0 := by rw [eσ65]
      have kp232 : gP σ65 th 7 = gP σ62 th 7 := by rw [eσ65]
      have kp233 : gP σ65 th 8 = gP σ62 th 8 := by rw [eσ65]
      have kp234 : gI σ65 th 2 = gI σ62 th 2 := by rw [eσ65]; exact up2_n _ _ (fun q => absurd q.2 (by decide))
      have kp235 : gI σ65 th 3 = gI σ62 th 3 := by rw [eσ65]; exact up2_n _ _ (fun q => absurd q.2 (by decide))
      have kp236 : gI σ65 th 5 = gI σ62 th 5 := by rw [eσ65]; exact up2_n _ _ (fun q => absurd q.2 (by decide))
      have kp237 : gI σ65 J 2 = gI σ62 J 2 := by rw [eσ65]; exact up2_n _ _ (fun q => absurd q.2 (by decide))
      have kp238 : gI σ65 o 3 = gI σ62 o 3 := by rw [eσ65]; exact up2_n _ _ (fun q => absurd q.2 (by decide))
      have kp239 : gI σ65 o 6 = gI σ62 o 6 := by rw [eσ65]; exact up2_n _ _ (fun q => absurd q.2 (by decide))
      refine i_X6_next iσ65 (kth.up (xσ34.trans (xσ35.trans (xσ38.trans (xσ39.trans (xσ40.trans (xσ50.trans (xσ52.trans (xσ54.trans (xσ55.trans (xσ56.trans (xσ59.trans (xσ60.trans (xσ61.trans (xσ62.trans xσ65))))))))))))))) (kp231.trans (kp213.trans (kp198.trans (kp183.trans (kp165.trans (kp148.trans (kp134.trans (kp120.trans (kp104.trans (kp88.trans (kp69.trans (kp58.trans (kp43.trans (kp28.trans (kp16.trans hX0))))))))))))))) (kX.up (xσ34.trans (xσ35.trans (xσ38.trans (xσ39.trans (xσ40.trans (xσ50.trans (xσ52.trans (xσ54.trans (xσ55.trans (xσ56.trans (xσ59.trans (xσ60.trans (xσ61.trans (xσ62.trans xσ65))))))))))))))) (((xσ34.trans (xσ35.trans (xσ38.trans (xσ39.trans (xσ40.trans (xσ50.trans (xσ52.trans (xσ54.trans (xσ55.trans (xσ56.trans (xσ59.trans (xσ60.trans (xσ61.trans (xσ62.trans xσ65)))))))))))))) tx kX.1).2.2.trans gX) (by (first | omega | with_reducible assumption | with_reducible exact rng_toInt _ | with_reducible exact rng_wr _ | (unfold rng; omega) | (unfold rng at *; omega) | assumption)) (by (first | omega | with_reducible assumption | with_reducible exact rng_toInt _ | with_reducible exact rng_wr _ | (unfold rng; omega) | (unfold rng at *; omega) | assumption)) (fun σ66 _ iσ66 cσ66 pσ66 => ?_) (fun σx LLx Nx nux E ix cx ux px => hX σx LLx Nx nux E ix (fσ65.tr (cx.mo (by decide))) (ux) (by first | exact px | exact ⟨by have := px.1; omega, px.2⟩ | (first | omega | with_reducible assumption | with_reducible exact rng_toInt _ | with_reducible exact rng_wr _ | (unfold rng; omega) | (unfold rng at *; omega) | assumption)))
      intro xσ66
      have fσ66 : Fx [323, 326, 327, 329, 331, 333, 386, 387, 388, 389, 390, 6464] gr σ σ66 := fσ65.tr (cσ66.mo (by decide))
      have oxcσ66 : OX o σ σ66 := oxcσ65.tr (OX.fx cσ66 (by decide) (by decide)) (xσ34.trans (xσ35.trans (xσ38.trans (xσ39.trans (xσ40.trans (xσ50.trans (xσ52.trans (xσ54.trans (xσ55.trans (xσ56.trans (xσ59.trans (xσ60.trans (xσ61.trans (xσ62.trans xσ65))))))))))))))
      have kp240 : gI σ66 J 1 = gI σ65 J 1 := (cσ66.O (kJ.up (xσ34.trans (xσ35.trans (xσ38.trans (xσ39.trans (xσ40.trans (xσ50.trans (xσ52.trans (xσ54.trans (xσ55.trans (xσ56.trans (xσ59.trans (xσ60.trans (xσ61.trans (xσ62.trans xσ65))))))))))))))) (by decide)).1
      have kp241 : gI σ66 J 7 = gI σ65 J 7 := (cσ66.O (kJ.up (xσ34.trans (xσ35.trans (xσ38.trans (xσ39.trans (xσ40.trans (xσ50.trans (xσ52.trans (xσ54.trans (xσ55.trans (xσ56.trans (xσ59.trans (xσ60.trans (xσ61.trans (xσ62.trans xσ65))))))))))))))) (by decide)).1
      have kp242 : gI σ66 o 11 = gI σ65 o 11 := (cσ66.O (ko.up (xσ34.trans (xσ35.trans (xσ38.trans (xσ39.trans (xσ40.trans (xσ50.trans (xσ52.trans (xσ54.trans (xσ55.trans (xσ56.trans (xσ59.trans (xσ60.trans (xσ61.trans (xσ62.trans xσ65))))))))))))))) (by decide)).1
      have kp243 : gI σ66 o 13 = gI σ65 o 13 := (cσ66.O (ko.up (xσ34.trans (xσ35.trans (xσ38.trans (xσ39.trans (xσ40.trans (xσ50.trans (xσ52.trans (xσ54.trans (xσ55.trans (xσ56.trans (xσ59.trans (xσ60.trans (xσ61.trans (xσ62.trans xσ65))))))))))))))) (by decide)).1
      have kp244 : gI σ66 o 4 = gI σ65 o 4 := (cσ66.O (ko.up (xσ34.trans (xσ35.trans (xσ38.trans (xσ39.trans (xσ40.trans (xσ50.trans (xσ52.trans (xσ54.trans (xσ55.trans (xσ56.trans (xσ59.trans (xσ60.trans (xσ61.trans (xσ62.trans xσ65))))))))))))))) (by decide)).1
      have kp245 : gI σ66 o 7 = gI σ65 o 7 := (cσ66.O (ko.up (xσ34.trans (xσ35.trans (xσ38.trans (xσ39.trans (xσ40.trans (xσ50.trans (xσ52.trans (xσ54.trans (xσ55.trans (xσ56.trans (xσ59.trans (xσ60.trans (xσ61.trans (xσ62.trans xσ65))))))))))))))) (by decide)).1
      have kp246 : gI σ66 o 8 = gI σ65 o 8 := (cσ66.O (ko.up (xσ34.trans (xσ35.trans (xσ38.trans (xσ39.trans (xσ40.trans (xσ50.trans (xσ52.trans (xσ54.trans (xσ55.trans (xσ56.trans (xσ59.trans (xσ60.trans (xσ61.trans (xσ62.trans xσ65))))))))))))))) (by decide)).1
      have kp247 : gI σ66 o 9 = gI σ65 o 9 := (cσ66.O (ko.up (xσ34.trans (xσ35.trans (xσ38.trans (xσ39.trans (xσ40.trans (xσ50.trans (xσ52.trans (xσ54.trans (xσ55.trans (xσ56.trans (xσ59.trans (xσ60.trans (xσ61.trans (xσ62.trans xσ65))))))))))))))) (by decide)).1
      have kp248 : gP σ66 J 0 = gP σ65 J 0 := (cσ66.O (kJ.up (xσ34.trans (xσ35.trans (xσ38.trans (xσ39.trans (xσ40.trans (xσ50.trans (xσ52.trans (xσ54.trans (xσ55.trans (xσ56.trans (xσ59.trans (xσ60.trans (xσ61.trans (xσ62.trans xσ65))))))))))))))) (by decide)).2.1
      have kp249 : gP σ66 b (gI σ40 o 7).toNat = gP σ65 b (gI σ40 o 7).toNat := (cσ66.A (mb.up (xσ50.trans (xσ52.trans (xσ54.trans (xσ55.trans (xσ56.trans (xσ59.trans (xσ60.trans (xσ61.trans (xσ62.trans xσ65)))))))))) (by decide)).2.1
      have kp250 : gP σ66 th 0 = gP σ65 th 0 := (cσ66.O (kth.up (xσ34.trans (xσ35.trans (xσ38.trans (xσ39.trans (xσ40.trans (xσ50.trans (xσ52.trans (xσ54.trans (xσ55.trans (xσ56.trans (xσ59.trans (xσ60.trans (xσ61.trans (xσ62.trans xσ65))))))))))))))) (by decide)).2.1
      have kp251 : gP σ66 th 7 = gP σ65 th 7 := (cσ66.O (kth.up (xσ34.trans (xσ35.trans (xσ38.trans (xσ39.trans (xσ40.trans (xσ50.trans (xσ52.trans (xσ54.trans (xσ55.trans (xσ56.trans (xσ59.trans (xσ60.trans (xσ61.trans (xσ62.trans xσ65))))))))))))))) (by decide)).2.1
      have kp252 : gP σ66 th 8 = gP σ65 th 8 := (cσ66.O (kth.up (xσ34.trans (xσ35.trans (xσ38.trans (xσ39.trans (xσ40.trans (xσ50.trans (xσ52.trans (xσ54.trans (xσ55.trans (xσ56.trans (xσ59.trans (xσ60.trans (xσ61.trans (xσ62.trans xσ65))))))))))))))) (by decide)).2.1
      have kp253 : gI σ66 J 2 = gI σ65 J 2 := (cσ66.O (kJ.up (xσ34.trans (xσ35.trans (xσ38.trans (xσ39.trans (xσ40.trans (xσ50.trans (xσ52.trans (xσ54.trans (xσ55.trans (xσ56.trans (xσ59.trans (xσ60.trans (xσ61.trans (xσ62.trans xσ65))))))))))))))) (by decide)).1
      have kp254 : gI σ66 o 3 = gI σ65 o 3 := (cσ66.O (ko.up (xσ34.trans (xσ35.trans (xσ38.trans (xσ39.trans (xσ40.trans (xσ50.trans (xσ52.trans (xσ54.trans (xσ55.trans (xσ56.trans (xσ59.trans (xσ60.trans (xσ61.trans (xσ62.trans xσ65))))))))))))))) (by decide)).1
      have kp255 : gI σ66 o 6 = gI σ65 o 6 := (cσ66.O (ko.up (xσ34.trans (xσ35.trans (xσ38.trans (xσ39.trans (xσ40.trans (xσ50.trans (xσ52.trans (xσ54.trans (xσ55.trans (xσ56.trans (xσ59.trans (xσ60.trans (xσ61.trans (xσ62.trans xσ65))))))))))))))) (by decide)).1
      have r5σ66 := I_6_5 iσ66.1 (kth.up (xσ34.trans (xσ35.trans (xσ38.trans (xσ39.trans (xσ40.trans (xσ50.trans (xσ52.trans (xσ54.trans (xσ55.trans (xσ56.trans (xσ59.trans (xσ60.trans (xσ61.trans (xσ62.trans (xσ65.trans xσ66))))))))))))))))
      exact hQ σ66 () iσ66 fσ66 oxcσ66 (⟨by omega, by omega, ⟨by omega, (fun h => absurd h (by omega)), (fun _ a ka ga => by have w9 := wf a ka (by omega); omega)⟩⟩)
    · rw [if_neg hc78]
      have hc78q := Classical.not_not.mp hc78
      unfold w_X6_topText_70
      refine i_X6_refuse iσ40 (kth.up (xσ34.trans (xσ35.trans (xσ38.trans (xσ39.trans xσ40))))) (by (first | omega | with_reducible assumption | with_reducible exact rng_toInt _ | with_reducible exact rng_wr _ | (unfold rng; omega) | (unfold rng at *; omega) | assumption)) (by (first | omega | with_reducible assumption | with_reducible exact rng_toInt _ | with_reducible exact rng_wr _ | (unfold rng; omega) | (unfold rng at *; omega) | assumption)) (by (first | omega | with_reducible assumption | with_reducible exact rng_toInt _ | with_reducible exact rng_wr _ | (unfold rng; omega) | (unfold rng at *; omega) | assumption)) (fun σ49 _ iσ49 cσ49 pσ49 => ?_) (fun σx LLx Nx nux E ix cx ux px => hX σx LLx Nx nux E ix (fσ40.tr (cx.mo (by decide))) (ux) (by first | exact px | exact ⟨by have := px.1; omega, px.2⟩ | (first | omega | with_reducible assumption | with_reducible exact rng_toInt _ | with_reducible exact rng_wr _ | (unfold rng; omega) | (unfold rng at *; omega) | assumption)))
      intro xσ49
      exact pσ49.elim
  · rw [if_neg hc77]
    unfold w_X6_topText_55
    refine i_X6_refuse iσ40 (kth.up (xσ34.trans (xσ35.trans (xσ38.trans (xσ39.trans xσ40))))) (by (first | omega | with_reducible assumption | with_reducible exact rng_toInt _ | with_reducible exact rng_wr _ | (unfold rng; omega) | (unfold rng at *; omega) | assumption)) (by (first | omega | with_reducible assumption | with_reducible exact rng_toInt _ | with_reducible exact rng_wr _ | (unfold rng; omega) | (unfold rng at *; omega) | assumption)) (by (first | omega | with_reducible assumption | with_reducible exact rng_toInt _ | with_reducible exact rng_wr _ | (unfold rng; omega) | (unfold rng at *; omega) | assumption)) (fun σ47 _ iσ47 cσ47 pσ47 => ?_) (fun σx LLx Nx nux E ix cx ux px => hX σx LLx Nx nux E ix (fσ40.tr (cx.mo (by decide))) (ux) (by first | exact px | exact ⟨by have := px.1; omega, px.2⟩ | (first | omega | with_reducible assumption | with_reducible exact rng_toInt _ | with_reducible exact rng_wr _ | (unfold rng; omega) | (unfold rng at *; omega) | assumption)))
    intro xσ47
    exact pσ47.elim
set_option maxHeartbeats 1000000 in
theorem i_X6_outputText {σ : Sg} {pl : Nat} {gq ci gr nc : Nat → Nat} {ot : Nat → Nat → Int} {LL : Nat → List Nat} {N nu : Nat → Nat} {th : Nat} {tx J o q c : Nat} (iσ : IV σ pl gq ci gr nc ot LL N nu) (kth : kO σ th 6) (hX0 : gP σ th 0 = some tx) (kX : kO σ tx 102) (gX : gn σ tx = 1500) (h7 : gP σ th 7 = some J) (kJ : kO σ J 4) (h8 : gP σ th 8 = some o) (ko : kO σ o 5) (hJq : gq J = q) (hq : q ≠ nc 0 ∧ q ≤ 1) (go : gq o = 16 * q + c) (hc : c < 16) (cJ : gI σ J 1 = (c : Int)) (tf : gI σ th 5 ≤ gI σ th 2 ∧ (gI σ th 3 ≠ 0 → gI σ th 5 + 1 ≤ gI σ th 2)) (h5 : nu 5 < 24000) (lp : gI σ J 7 ≤ 2 * gI σ th 5) (f0 : gI σ o 3 = 0 ∧ gI σ o 4 = 0 ∧ gI σ o 7 = -1 ∧ gI σ o 8 = -1) (h2 : gI σ J 2 ≤ 3) {Q : Sg → Unit → Prop} {X : Sg → String → Prop} (hQ : ∀ (σ' : Sg) (r : Unit), IV σ' pl gq ci gr nc ot LL N nu → Fx [258, 323, 326, 327, 329, 386, 387, 388, 389, 390, 6464, 8384] gr σ σ' → OX o σ σ' → ((gI σ' th 5 ≤ gI σ' th 2 ∧ (gI σ' th 3 ≠ 0 → gI σ' th 5 + 1 ≤ gI σ' th 2)) ∧ gI σ' J 7 ≤ 2 * gI σ' th 5 ∧ OPR σ σ' gq q c o ∧ OUTR σ σ' J o c) → Q σ' r) (hX : ∀ (σ' : Sg) (LL' : Nat → List Nat) (N' nu' : Nat → Nat) (E : String), IV σ' pl gq ci gr nc ot LL' N' nu' → Fx [258, 323, 326, 327, 329, 386, 387, 388, 389, 390, 6464, 8384] gr σ σ' → NCX nu nu' → (LL' = LL ∧ N' = N ∧ E = "java/lang/IllegalArgumentException" ∧ gI σ' th 6 ≠ 0) → X σ' E) : wp_X6_outputText th σ Q X := by
  have fσ : Fx [258, 323, 326, 327, 329, 386, 387, 388, 389, 390, 6464, 8384] gr σ σ := Fx.rf
  have oxσ : OX o σ σ := OX.rf
  have q1 := I_4_1 iσ.1 kJ
  have q2 := I_6_5 iσ.1 kth
  have q3 := I_6_2 iσ.1 kth
  have q4 := iσ.rg th 3; unfold rng at q4
  have q5 := I_4_7 iσ.1 kJ
  have q6 := I_5_3 iσ.1 ko
  have q7 := I_5_4 iσ.1 ko
  have q8 := I_5_7 iσ.1 ko
  have q9 := I_5_8 iσ.1 ko
  have q10 := I_4_2 iσ.1 kJ
  have ncb := iσ.ncb
  have r70 := I_4_7 iσ.1 kJ
  have r71 := I_4_1 iσ.1 kJ
  unfold wp_X6_outputText
  unfold w_X6_outputText_0
  refine i_X6_next iσ kth hX0 kX (((Ext.rfl' _) tx kX.1).2.2.trans gX) (by (first | omega | with_reducible assumption | with_reducible exact rng_toInt _ | with_reducible exact rng_wr _ | (unfold rng; omega) | (unfold rng at *; omega) | assumption)) (by (first | omega | with_reducible assumption | with_reducible exact rng_toInt _ | with_reducible exact rng_wr _ | (unfold rng; omega) | (unfold rng at *; omega) | assumption)) (fun σ16 _ iσ16 cσ16 pσ16 => ?_) (fun σx LLx Nx nux E ix cx ux px => hX σx LLx Nx nux E ix (fσ.tr (cx.mo (by decide))) (ux) (by first | exact px | exact ⟨by have := px.1; omega, px.2⟩ | (first | omega | with_reducible assumption | with_reducible exact rng_toInt _ | with_reducible exact rng_wr _ | (unfold rng; omega) | (unfold rng at *; omega) | assumption)))
  intro xσ16
  have fσ16 : Fx [258, 323, 326, 327, 329, 386, 387, 388, 389, 390, 6464, 8384] gr σ σ16 := fσ.tr (cσ16.mo (by decide))
  have oxcσ16 : OX o σ σ16 := oxσ.tr (OX.fx cσ16 (by decide) (by decide)) (Ext.rfl' _)
  have kp11 : gI σ16 J 1 = gI σ J 1 := (cσ16.O kJ (by decide)).1
  have kp12 : gI σ16 J 2 = gI σ J 2 := (cσ16.O kJ (by decide)).1
  have kp13 : gI σ16 J 7 = gI σ J 7 := (cσ16.O kJ (by decide)).1
  have kp14 : gI σ16 o 3 = gI σ o 3 := (cσ16.O ko (by decide)).1
  have kp15 : gI σ16 o 4 = gI σ o 4 := (cσ16.O ko (by decide)).1
  have kp16 : gI σ16 o 7 = gI σ o 7 := (cσ16.O ko (by decide)).1
  have kp17 : gI σ16 o 8 = gI σ o 8 := (cσ16.O ko (by decide)).1
  have kp18 : gP σ16 th 0 = gP σ th 0 := (cσ16.O kth (by decide)).2.1
  have kp19 : gP σ16 th 7 = gP σ th 7 := (cσ16.O kth (by decide)).2.1
  have kp20 : gP σ16 th 8 = gP σ th 8 := (cσ16.O kth (by decide)).2.1
  have kp21 : gI σ16 o 6 = gI σ o 6 := (cσ16.O ko (by decide)).1
  have kp22 : gI σ16 o 9 = gI σ o 9 := (cσ16.O ko (by decide)).1
  have r5σ16 := I_6_5 iσ16.1 (kth.up xσ16)
  refine i_X6_firstInput iσ16 (kth.up xσ16) (kp19.trans h7) (kJ.up xσ16) (kp20.trans h8) (ko.up xσ16) (by (first | omega | with_reducible assumption | with_reducible exact rng_toInt _ | with_reducible exact rng_wr _ | (unfold rng; omega) | (unfold rng at *; omega) | assumption)) (by (first | omega | with_reducible assumption | with_reducible exact rng_toInt _ | with_reducible exact rng_wr _ | (unfold rng; omega) | (unfold rng at *; omega) | assumption)) (by (first | omega | with_reducible assumption | with_reducible exact rng_toInt _ | with_reducible exact rng_wr _ | (unfold rng; omega) | (unfold rng at *; omega) | assumption)) (by (first | omega | with_reducible assumption | with_reducible exact rng_toInt _ | with_reducible exact rng_wr _ | (unfold rng; omega) | (unfold rng at *; omega) | assumption)) (by (first | omega | with_reducible assumption | with_reducible exact rng_toInt _ | with_reducible exact rng_wr _ | (unfold rng; omega) | (unfold rng at *; omega) | assumption)) (by (first | omega | with_reducible assumption | with_reducible exact rng_toInt _ | with_reducible exact rng_wr _ | (unfold rng; omega) | (unfold rng at *; omega) | assumption)) (fun σ17 _ iσ17 cσ17 oxσ17 pσ17 => ?_) (fun σx LLx Nx nux E ix cx ux px => hX σx LLx Nx nux E ix (fσ16.tr (cx.mo (by decide))) (ux) (by first | exact px | exact ⟨by have := px.1; omega, px.2⟩ | (first | omega | with_reducible assumption | with_reducible exact rng_toInt _ | with_reducible exact rng_wr _ | (unfold rng; omega) | (unfold rng at *; omega) | assumption)))
  intro xσ17
  have fσ17 : Fx [258, 323, 326, 327, 329, 386, 387, 388, 389, 390, 6464, 8384] gr σ σ17 := fσ16.tr (cσ17.mo (by decide))
  have oxcσ17 : OX o σ σ17 := oxcσ16.tr oxσ17 (xσ16)
  have kp23 : gI σ17 J 1 = gI σ16 J 1 := (cσ17.O (kJ.up xσ16) (by decide)).1
  have kp24 : gI σ17 J 2 = gI σ16 J 2 := (cσ17.O (kJ.up xσ16) (by decide)).1
  have kp25 : gI σ17 J 7 = gI σ16 J 7 := (cσ17.O (kJ.up xσ16) (by decide)).1
  have kp26 : gI σ17 o 3 = gI σ16 o 3 := (cσ17.O (ko.up xσ16) (by decide)).1
  have kp27 : gI σ17 o 4 = gI σ16 o 4 := (cσ17.O (ko.up xσ16) (by decide)).1
  have kp28 : gI σ17 o 8 = gI σ16 o 8 := (cσ17.O (ko.up xσ16) (by decide)).1
  have kp29 : gP σ17 th 0 = gP σ16 th 0 := (cσ17.O (kth.up xσ16) (by decide)).2.1
  have kp30 : gP σ17 th 7 = gP σ16 th 7 := (cσ17.O (kth.up xσ16) (by decide)).2.1
  have kp31 : gP σ17 th 8 = gP σ16 th 8 := (cσ17.O (kth.up xσ16) (by decide)).2.1
  have kp32 : gI σ17 th 2 = gI σ16 th 2 := (cσ17.O (kth.up xσ16) (by decide)).1
  have kp33 : gI σ17 th 3 = gI σ16 th 3 := (cσ17.O (kth.up xσ16) (by decide)).1
  have kp34 : gI σ17 th 5 = gI σ16 th 5 := (cσ17.O (kth.up xσ16) (by decide)).1
  have kp35 : gI σ17 o 9 = gI σ16 o 9 := (cσ17.O (ko.up xσ16) (by decide)).1
  refine i_X6_next iσ17 (kth.up (xσ16.trans xσ17)) (kp29.trans (kp18.trans hX0)) (kX.up (xσ16.trans xσ17)) (((xσ16.trans xσ17) tx kX.1).2.2.trans gX) (by (first | omega | with_reducible assumption | with_reducible exact rng_toInt _ | with_reducible exact rng_wr _ | (unfold rng; omega) | (unfold rng at *; omega) | assumption)) (by (first | omega | with_reducible assumption | with_reducible exact rng_toInt _ | with_reducible exact rng_wr _ | (unfold rng; omega) | (unfold rng at *; omega) | assumption)) (fun σ18 _ iσ18 cσ18 pσ18 => ?_) (fun σx LLx Nx nux E ix cx ux px => hX σx LLx Nx nux E ix (fσ17.tr (cx.mo (by decide))) (ux) (by first | exact px | exact ⟨by have := px.1; omega, px.2⟩ | (first | omega | with_reducible assumption | with_reducible exact rng_toInt _ | with_reducible exact rng_wr _ | (unfold rng; omega) | (unfold rng at *; omega) | assumption)))
  intro xσ18
  have fσ18 : Fx [258, 323, 326, 327, 329, 386, 387, 388, 389, 390, 6464, 8384] gr σ σ18 := fσ17.tr (cσ18.mo (by decide))
  have oxcσ18 : OX o σ σ18 := oxcσ17.tr (OX.fx cσ18 (by decide) (by decide)) (xσ16.trans xσ17)
  have kp36 : gI σ18 J 1 = gI σ17 J 1 := (cσ18.O (kJ.up (xσ16.trans xσ17)) (by decide)).1
  have kp37 : gI σ18 J 2 = gI σ17 J 2 := (cσ18.O (kJ.up (xσ16.trans xσ17)) (by decide)).1
  have kp38 : gI σ18 J 7 = gI σ17 J 7 := (cσ18.O (kJ.up (xσ16.trans xσ17)) (by decide)).1
  have kp39 : gI σ18 o 3 = gI σ17 o 3 := (cσ18.O (ko.up (xσ16.trans xσ17)) (by decide)).1
  have kp40 : gI σ18 o 4 = gI σ17 o 4 := (cσ18.O (ko.up (xσ16.trans xσ17)) (by decide)).1
  have kp41 : gI σ18 o 8 = gI σ17 o 8 := (cσ18.O (ko.up (xσ16.trans xσ17)) (by decide)).1
  have kp42 : gP σ18 th 0 = gP σ17 th 0 := (cσ18.O (kth.up (xσ16.trans xσ17)) (by decide)).2.1
  have kp43 : gP σ18 th 7 = gP σ17 th 7 := (cσ18.O (kth.up (xσ16.trans xσ17)) (by decide)).2.1
  have kp44 : gP σ18 th 8 = gP σ17 th 8 := (cσ18.O (kth.up (xσ16.trans xσ17)) (by decide)).2.1
  have kp45 : gI σ18 o 6 = gI σ17 o 6 := (cσ18.O (ko.up (xσ16.trans xσ17)) (by decide)).1
  have kp46 : gI σ18 o 7 = gI σ17 o 7 := (cσ18.O (ko.up (xσ16.trans xσ17)) (by decide)).1
  have kp47 : gI σ18 o 9 = gI σ17 o 9 := (cσ18.O (ko.up (xσ16.trans xσ17)) (by decide)).1
  have r5σ18 := I_6_5 iσ18.1 (kth.up (xσ16.trans (xσ17.trans xσ18)))
  refine ⟨J, (kp43.trans (kp30.trans (kp19.trans h7))), fun kk_J => ?_⟩
  refine ⟨o, (kp44.trans (kp31.trans (kp20.trans h8))), fun kk_o => ?_⟩
  obtain ⟨b, eb, fb⟩ := P_4_0 iσ18.1 (kJ.up (xσ16.trans (xσ17.trans xσ18)))
  have mb : kO σ18 b 115 := iσ18.1.kd (kJ.up (xσ16.trans (xσ17.trans xσ18))) rfl eb rfl
  refine ⟨b, eb, fun kk_b => ?_⟩
  have q48 := I_5_7 iσ18.1 (ko.up (xσ16.trans (xσ17.trans xσ18)))
  refine ⟨⟨by (first | omega | with_reducible assumption | with_reducible exact rng_toInt _ | with_reducible exact rng_wr _ | (unfold rng; omega) | (unfold rng at *; omega) | assumption), by (first | omega | with_reducible assumption | with_reducible exact rng_toInt _ | with_reducible exact rng_wr _ | (unfold rng; omega) | (unfold rng at *; omega) | assumption)⟩, ?_⟩
  obtain ⟨b_1, eb_1⟩ := P_115 iσ18.1 mb (k := (gI σ18 o 7).toNat) (by (first | omega | with_reducible assumption | with_reducible exact rng_toInt _ | with_reducible exact rng_wr _ | (unfold rng; omega) | (unfold rng at *; omega) | assumption))
  have fb_1 := T_115 iσ18.1 mb eb_1
  have mb_1 : kO σ18 b_1 5 := iσ18.1.kd mb rfl eb_1 rfl
  refine i_X5_addColumnsOf iσ18 (ko.up (xσ16.trans (xσ17.trans xσ18))) eb_1 mb_1 (by (first | omega | with_reducible assumption | with_reducible exact rng_toInt _ | with_reducible exact rng_wr _ | (unfold rng; omega) | (unfold rng at *; omega) | assumption)) (by (first | omega | with_reducible assumption | with_reducible exact rng_toInt _ | with_reducible exact rng_wr _ | (unfold rng; omega) | (unfold rng at *; omega) | assumption)) (by (first | omega | with_reducible assumption | with_reducible exact rng_toInt _ | with_reducible exact rng_wr _ | (unfold rng; omega) | (unfold rng at *; omega) | assumption)) (fun e => absurd (congrArg gq e) (by omega)) (fun σ22 _ iσ22 cσ22 oxσ22 pσ22 => ?_)
  intro xσ22
  have fσ22 : Fx [258, 323, 326, 327, 329, 386, 387, 388, 389, 390, 6464, 8384] gr σ σ22 := fσ18.tr (cσ22.mo (by decide))
  have oxcσ22 : OX o σ σ22 := oxcσ18.tr oxσ22 (xσ16.trans (xσ17.trans xσ18))
  have kp49 : gI σ22 J 1 = gI σ18 J 1 := (cσ22.O (kJ.up (xσ16.trans (xσ17.trans xσ18))) (by decide)).1
  have kp50 : gI σ22 J 2 = gI σ18 J 2 := (cσ22.O (kJ.up (xσ16.trans (xσ17.trans xσ18))) (by decide)).1
  have kp51 : gI σ22 J 7 = gI σ18 J 7 := (cσ22.O (kJ.up (xσ16.trans (xσ17.trans xσ18))) (by decide)).1
  have kp52 : gI σ22 o 4 = gI σ18 o 4 := (cσ22.O (ko.up (xσ16.trans (xσ17.trans xσ18))) (by decide)).1
  have kp53 : gI σ22 o 7 = gI σ18 o 7 := (cσ22.O (ko.up (xσ16.trans (xσ17.trans xσ18))) (by decide)).1
  have kp54 : gI σ22 o 8 = gI σ18 o 8 := (cσ22.O (ko.up (xσ16.trans (xσ17.trans xσ18))) (by decide)).1
  have kp55 : gP σ22 J 0 = gP σ18 J 0 := (cσ22.O (kJ.up (xσ16.trans (xσ17.trans xσ18))) (by decide)).2.1
  have kp56 : gP σ22 b (gI σ18 o 7).toNat = gP σ18 b (gI σ18 o 7).toNat := (cσ22.A mb (by decide)).2.1
  have kp57 : gP σ22 th 0 = gP σ18 th 0 := (cσ22.O (kth.up (xσ16.trans (xσ17.trans xσ18))) (by decide)).2.1
  have kp58 : gP σ22 th 7 = gP σ18 th 7 := (cσ22.O (kth.up (xσ16.trans (xσ17.trans xσ18))) (by decide)).2.1
  have kp59 : gP σ22 th 8 = gP σ18 th 8 := (cσ22.O (kth.up (xσ16.trans (xσ17.trans xσ18))) (by decide)).2.1
  have kp60 : gI σ22 th 2 = gI σ18 th 2 := (cσ22.O (kth.up (xσ16.trans (xσ17.trans xσ18))) (by decide)).1
  have kp61 : gI σ22 th 3 = gI σ18 th 3 := (cσ22.O (kth.up (xσ16.trans (xσ17.trans xσ18))) (by decide)).1
  have kp62 : gI σ22 th 5 = gI σ18 th 5 := (cσ22.O (kth.up (xσ16.trans (xσ17.trans xσ18))) (by decide)).1
  have kp63 : gI σ22 o 6 = gI σ18 o 6 := (cσ22.O (ko.up (xσ16.trans (xσ17.trans xσ18))) (by decide)).1
  have kp64 : gI σ22 o 9 = gI σ18 o 9 := (cσ22.O (ko.up (xσ16.trans (xσ17.trans xσ18))) (by decide)).1
  have fz : Fx [323, 326, 327, 386, 387, 388, 389, 390, 6464] gr σ σ22 := (((cσ16.mo (by decide)).tr (cσ17.mo (by decide))).tr (cσ18.mo (by decide))).tr (cσ22.mo (by decide))
  have r72 := I_4_2 iσ.1 kJ
  refine ⟨J, (kp58.trans (kp43.trans (kp30.trans (kp19.trans h7)))), fun kk_J_1 => ?_⟩
  refine ⟨o, (kp59.trans (kp44.trans (kp31.trans (kp20.trans h8)))), fun kk_o_1 => ?_⟩
  intro σ25 eσ25
  have xσ25 : Ext σ22 σ25 := by rw [eσ25]; exact fun _ h => ⟨h, rfl, rfl⟩
  have iσ25 : IV σ25 pl gq ci gr nc ot LL N nu := by rw [eσ25]; exact iσ22.wSp (ko.up (xσ16.trans (xσ17.trans (xσ18.trans xσ22)))) (fun i hi => by omega) (by decide) (show (0 : Int) ≤ (gI σ22 J 2) ∧ (gI σ22 J 2) ≤ 9 from ⟨by omega, by omega⟩)
  have fσ25 : Fx [258, 323, 326, 327, 329, 386, 387, 388, 389, 390, 6464, 8384] gr σ σ25 := fσ22.tr (Sk.fx (by rw [eσ25]; exact Sk.pI (by rw [fcdO (ko.up (xσ16.trans (xσ17.trans (xσ18.trans xσ22)))) (by decide)]; decide)))
  have oxcσ25 : OX o σ σ25 := oxcσ22.tr (by rw [eσ25]; exact OX.pI (ko.up (xσ16.trans (xσ17.trans (xσ18.trans xσ22)))) (Or.inr rfl)) (xσ16.trans (xσ17.trans (xσ18.trans xσ22)))
  have wσ25 : gI σ25 o 9 = (gI σ22 J 2) := by rw [eσ25]; exact up2_s _ _ _ _
  have kp65 : gI σ25 J 1 = gI σ22 J 1 := by rw [eσ25]; exact up2_n _ _ (fun q => absurd q.2 (by decide))
  have kp66 : gI σ25 J 2 = gI σ22 J 2 := by rw [eσ25]; exact up2_n _ _ (fun q => absurd q.2 (by decide))
  have kp67 : gI σ25 J 7 = gI σ22 J 7 := by rw [eσ25]; exact up2_n _ _ (fun q => absurd q.2 (by decide))
  have kp68 : gI σ25 o 4 = gI σ22 o 4 := by rw [eσ25]; exact up2_n _ _ (fun q => absurd q.2 (by decide))
  have kp69 : gI σ25 o 7 = gI σ22 o 7 := by rw [eσ25]; exact up2_n _ _ (fun q => absurd q.2 (by decide))
  have kp70 : gI σ25 o 8 = gI σ22 o 8 := by rw [eσ25]; exact up2_n _ _ (fun q => absurd q.2 (by decide))
  have kp71 : gP σ25 J 0 = gP σ22 J 0 := by rw [eσ25]
  have kp72 : gP σ25 b (gI σ18 o 7).toNat = gP σ22 b (gI σ18 o 7).toNat := by rw [eσ25]
  have kp73 : gP σ25 th 0 = gP σ22 th 0 := by rw [eσ25]
  have kp74 : gP σ25 th 7 = gP σ22 th 7 := by rw [eσ25]
  have kp75 : gP σ25 th 8 = gP σ22 th 8 := by rw [eσ25]
  have kp76 : gI σ25 th 2 = gI σ22 th 2 := by rw [eσ25]; exact up2_n _ _ (fun q => absurd q.2 (by decide))
  have kp77 : gI σ25 th 3 = gI σ22 th 3 := by rw [eσ25]; exact up2_n _ _ (fun q => absurd q.2 (by decide))
  have kp78 : gI σ25 th 5 = gI σ22 th 5 := by rw [eσ25]; exact up2_n _ _ (fun q => absurd q.2 (by decide))
  have kp79 : gI σ25 o 3 = gI σ22 o 3 := by rw [eσ25]; exact up2_n _ _ (fun q => absurd q.2 (by decide))
  have kp80 : gI σ25 o 6 = gI σ22 o 6 := by rw [eσ25]; exact up2_n _ _ (fun q => absurd q.2 (by decide))
  refine ⟨J, (kp74.trans (kp58.trans (kp43.trans (kp30.trans (kp19.trans h7))))), fun kk_J_2 => ?_⟩
  obtain ⟨b_2, eb_2, fb_2⟩ := P_4_3 iσ25.1 (kJ.up (xσ16.trans (xσ17.trans (xσ18.trans (xσ22.trans xσ25)))))
  have mb_2 : kO σ25 b_2 100 := iσ25.1.kd (kJ.up (xσ16.trans (xσ17.trans (xσ18.trans (xσ22.trans xσ25))))) rfl eb_2 rfl
  refine ⟨b_2, eb_2, fun kk_b_2 => ?_⟩
  refine ⟨⟨by (first | omega | with_reducible assumption | with_reducible exact rng_toInt _ | with_reducible exact rng_wr _ | (unfold rng; omega) | (unfold rng at *; omega) | assumption), by (first | omega | with_reducible assumption | with_reducible exact rng_toInt _ | with_reducible exact rng_wr _ | (unfold rng; omega) | (unfold rng at *; omega) | assumption)⟩, ?_⟩
  intro σ28 eσ28
  have xσ28 : Ext σ25 σ28 := by rw [eσ28]; exact fun _ h => ⟨h, rfl, rfl⟩
  have iσ28 : IV σ28 pl gq ci gr nc ot LL N nu := by rw [eσ28]; exact iσ25.wSo (kJ.up (xσ16.trans (xσ17.trans (xσ18.trans (xσ22.trans xσ25))))) (by omega) eb_2 ⟨by omega, by omega⟩
  have fσ28 : Fx [258, 323, 326, 327, 329, 386, 387, 388, 389, 390, 6464, 8384] gr σ σ28 := fσ25.tr (Sk.fx (by rw [eσ28]; exact Sk.pI (by rw [fcdI mb_2, show gr b_2 = 1 from by (first | omega | with_reducible assumption | with_reducible exact rng_toInt _ | with_reducible exact rng_wr _ | (unfold rng; omega) | (unfold rng at *; omega) | assumption)]; decide)))
  have oxcσ28 : OX o σ σ28 := oxcσ25.tr (by rw [eσ28]; exact OX.pI mb_2 (Or.inl (by decide))) (xσ16.trans (xσ17.trans (xσ18.trans (xσ22.trans xσ25))))
  have wσ28 : gI σ28 b_2 (gI σ25 J 2).toNat = (gI σ25 J 1) := by rw [eσ28]; exact up2_s _ _ _ _
  have kp81 : gI σ28 J 1 = gI σ25 J 1 := by rw [eσ28]; exact up2_n _ _ (fun q => absurd q.1 (kO.ne (kJ.up (xσ16.trans (xσ17.trans (xσ18.trans (xσ22.trans xσ25))))) mb_2 (by decide)))
  have kp82 : gI σ28 J 2 = gI σ25 J 2 := by rw [eσ28]; exact up2_n _ _ (fun q => absurd q.1 (kO.ne (kJ.up (xσ16.trans (xσ17.trans (xσ18.trans (xσ22.trans xσ25))))) mb_2 (by decide)))
  have kp83 : gI σ28 J 7 = gI σ25 J 7 := by rw [eσ28]; exact up2_n _ _ (fun q => absurd q.1 (kO.ne (kJ.up (xσ16.trans (xσ17.trans (xσ18.trans (xσ22.trans xσ25))))) mb_2 (by decide)))
  have kp84 : gI σ28 o 4 = gI σ25 o 4 := by rw [eσ28]; exact up2_n _ _ (fun q => absurd q.1 (kO.ne (ko.up (xσ16.trans (xσ17.trans (xσ18.trans (xσ22.trans xσ25))))) mb_2 (by decide)))
  have kp85 : gI σ28 o 7 = gI σ25 o 7 := by rw [eσ28]; exact up2_n _ _ (fun q => absurd q.1 (kO.ne (ko.up (xσ16.trans (xσ17.trans (xσ18.trans (xσ22.trans xσ25))))) mb_2 (by decide)))
  have kp86 : gI σ28 o 8 = gI σ25 o 8 := by rw [eσ28]; exact up2_n _ _ (fun q => absurd q.1 (kO.ne (ko.up (xσ16.trans (xσ17.trans (xσ18.trans (xσ22.trans xσ25))))) mb_2 (by decide)))
  have kp87 : gI σ28 o 9 = gI σ25 o 9 := by rw [eσ28]; exact up2_n _ _ (fun q => absurd q.1 (kO.ne (ko.up (xσ16.trans (xσ17.trans (xσ18.trans (xσ22.trans xσ25))))) mb_2 (by decide)))
  have kp88 : gP σ28 J 0 = gP σ25 J 0 := by rw [eσ28]
  have kp89 : gP σ28 J 3 = gP σ25 J 3 := by rw [eσ28]
  have kp90 : gP σ28 b (gI σ18 o 7).toNat = gP σ25 b (gI σ18 o 7).toNat := by rw [eσ28]
  have kp91 : gP σ28 th 0 = gP σ25 th 0 := by rw [eσ28]
  have kp92 : gP σ28 th 7 = gP σ25 th 7 := by rw [eσ28]
  have kp93 : gP σ28 th 8 = gP σ25 th 8 := by rw [eσ28]
  have kp94 : gI σ28 th 2 = gI σ25 th 2 := by rw [eσ28]; exact up2_n _ _ (fun q => absurd q.1 (kO.ne (kth.up (xσ16.trans (xσ17.trans (xσ18.trans (xσ22.trans xσ25))))) mb_2 (by decide)))
  have kp95 : gI σ28 th 3 = gI σ25 th 3 := by rw [eσ28]; exact up2_n _ _ (fun q => absurd q.1 (kO.ne (kth.up (xσ16.trans (xσ17.trans (xσ18.trans (xσ22.trans xσ25))))) mb_2 (by decide)))
  have kp96 : gI σ28 th 5 = gI σ25 th 5 := by rw [eσ28]; exact up2_n _ _ (fun q => absurd q.1 (kO.ne (kth.up (xσ16.trans (xσ17.trans (xσ18.trans (xσ22.trans xσ25))))) mb_2 (by decide)))
  have kp97 : gI σ28 o 3 = gI σ25 o 3 := by rw [eσ28]; exact up2_n _ _ (fun q => absurd q.1 (kO.ne (ko.up (xσ16.trans (xσ17.trans (xσ18.trans (xσ22.trans xσ25))))) mb_2 (by decide)))
  have kp98 : gI σ28 o 6 = gI σ25 o 6 := by rw [eσ28]; exact up2_n _ _ (fun q => absurd q.1 (kO.ne (ko.up (xσ16.trans (xσ17.trans (xσ18.trans (xσ22.trans xσ25))))) mb_2 (by decide)))
  refine ⟨J, (kp92.trans (kp74.trans (kp58.trans (kp43.trans (kp30.trans (kp19.trans h7)))))), fun kk_J_3 => ?_⟩
  refine ⟨by (first | omega | with_reducible assumption | with_reducible exact rng_toInt _ | with_reducible exact rng_wr _ | (unfold rng; omega) | (unfold rng at *; omega) | assumption), ?_⟩
  intro σ30 eσ30
  have xσ30 : Ext σ28 σ30 := by rw [eσ30]; exact fun _ h => ⟨h, rfl, rfl⟩
  have iσ30 : IV σ30 pl gq ci gr nc ot LL N nu := by rw [eσ30]; exact iσ28.wSj (kJ.up (xσ16.trans (xσ17.trans (xσ18.trans (xσ22.trans (xσ25.trans xσ28)))))) (by omega) (Or.inr rfl) (show (0 : Int) ≤ (gI σ28 J 2 + 1) ∧ (gI σ28 J 2 + 1) ≤ 4 from ⟨by omega, by omega⟩)
  have fσ30 : Fx [258, 323, 326, 327, 329, 386, 387, 388, 389, 390, 6464, 8384] gr σ σ30 := fσ28.tr (Sk.fx (by rw [eσ30]; exact Sk.pI (by rw [fcdO (kJ.up (xσ16.trans (xσ17.trans (xσ18.trans (xσ22.trans (xσ25.trans xσ28)))))) (by decide)]; decide)))
  have oxcσ30 : OX o σ σ30 := oxcσ28.tr (by rw [eσ30]; exact OX.pI (kJ.up (xσ16.trans (xσ17.trans (xσ18.trans (xσ22.trans (xσ25.trans xσ28)))))) (Or.inl (by decide))) (xσ16.trans (xσ17.trans (xσ18.trans (xσ22.trans (xσ25.trans xσ28)))))
  have wσ30 : gI σ30 J 2 = (gI σ28 J 2 + 1) := by rw [eσ30]; exact up2_s _ _ _ _
  have kp99 : gI σ30 J 1 = gI σ28 J 1 := by rw [eσ30]; exact up2_n _ _ (fun q => absurd q.2 (by decide))
  have kp100 : gI σ30 J 7 = gI σ28 J 7 := by rw [eσ30]; exact up2_n _ _ (fun q => absurd q.2 (by decide))
  have kp101 : gI σ30 o 4 = gI σ28 o 4 := by rw [eσ30]; exact up2_n _ _ (fun q => absurd q.2 (by decide))
  have kp102 : gI σ30 o 7 = gI σ28 o 7 := by rw [eσ30]; exact up2_n _ _ (fun q => absurd q.2 (by decide))
  have kp103 : gI σ30 o 8 = gI σ28 o 8 := by rw [eσ30]; exact up2_n _ _ (fun q => absurd q.2 (by decide))
  have kp104 : gI σ30 o 9 = gI σ28 o 9 := by rw [eσ30]; exact up2_n _ _ (fun q => absurd q.2 (by decide))
  have kp105 : gP σ30 J 0 = gP σ28 J 0 := by rw [eσ30]
  have kp106 : gP σ30 J 3 = gP σ28 J 3 := by rw [eσ30]
  have kp107 : gP σ30 b (gI σ18 o 7).toNat = gP σ28 b (gI σ18 o 7).toNat := by rw [eσ30]
  have kp108 : gP σ30 th 0 = gP σ28 th 0 := by rw [eσ30]
  have kp109 : gP σ30 th 7 = gP σ28 th 7 := by rw [eσ30]
  have kp110 : gP σ30 th 8 = gP σ28 th 8 := by rw [eσ30]
  have kp111 : gI σ30 th 2 = gI σ28 th 2 := by rw [eσ30]; exact up2_n _ _ (fun q => absurd q.1 (kO.ne (kth.up (xσ16.trans (xσ17.trans (xσ18.trans (xσ22.trans (xσ25.trans xσ28)))))) (kJ.up (xσ16.trans (xσ17.trans (xσ18.trans (xσ22.trans (xσ25.trans xσ28)))))) (by decide)))
  have kp112 : gI σ30 th 3 = gI σ28 th 3 := by rw [eσ30]; exact up2_n _ _ (fun q => absurd q.2 (by decide))
  have kp113 : gI σ30 th 5 = gI σ28 th 5 := by rw [eσ30]; exact up2_n _ _ (fun q => absurd q.2 (by decide))
  have kp114 : gI σ30 o 3 = gI σ28 o 3 := by rw [eσ30]; exact up2_n _ _ (fun q => absurd q.2 (by decide))
  have kp115 : gI σ30 o 6 = gI σ28 o 6 := by rw [eσ30]; exact up2_n _ _ (fun q => absurd q.2 (by decide))
  exact hQ σ30 () iσ30 fσ30 oxcσ30 (⟨by omega, by omega, ⟨by omega, (fun h => absurd h (by omega)), (fun h => absurd h (by omega))⟩, OUTR.mk iσ kJ ko fz (by decide) eσ25 (by have g9 := (kp106.trans (kp89.trans eb_2)); rw [eσ30, eσ28] at g9; exact g9) eσ28 eσ30 cJ r72.1 (by omega)⟩)

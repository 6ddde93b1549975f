set_option maxHeartbeats 1000000 in
theorem i_X6_aggregates {σ : Sg} {pl : Nat} {gq ci gr nc : Nat → Nat} {ot : Nat → Nat → Int} {LL : Nat → List Nat} {N nu : Nat → Nat} {th : Nat} {tx J o q c : Nat} (iσ : IV σ pl gq ci gr nc ot LL N nu) (kth : kO σ th 6) (hX0 : gP σ th 0 = some tx) (kX : kO σ tx 102) (gX : gn σ tx = 1500) (h7 : gP σ th 7 = some J) (kJ : kO σ J 4) (h8 : gP σ th 8 = some o) (ko : kO σ o 5) (hJq : gq J = q) (hq : q ≠ nc 0 ∧ q ≤ 1) (go : gq o = 16 * q + c) (hc : c < 16) (tf : gI σ th 5 ≤ gI σ th 2 ∧ (gI σ th 3 ≠ 0 → gI σ th 5 + 1 ≤ gI σ th 2)) (h5 : nu 5 < 24000) (lp : gI σ J 7 ≤ 2 * gI σ th 5) (f0 : gI σ o 3 = 1 ∧ gI σ o 4 = 0 ∧ 0 ≤ gI σ o 7) {Q : Sg → Unit → Prop} {X : Sg → String → Prop} (hQ : ∀ (σ' : Sg) (nu' : Nat → Nat) (r : Unit), IV σ' pl gq ci gr nc ot LL N nu' → Fx [261, 262, 263, 323, 324, 386, 387, 388, 389, 390, 6464, 8320] gr σ σ' → NC nu nu' → OX o σ σ' → ((gI σ' th 5 ≤ gI σ' th 2 ∧ (gI σ' th 3 ≠ 0 → gI σ' th 5 + 1 ≤ gI σ' th 2)) ∧ gI σ' J 7 ≤ 2 * gI σ' th 5 ∧ gI σ' o 4 ≤ 4) → Q σ' r) (hX : ∀ (σ' : Sg) (LL' : Nat → List Nat) (N' nu' : Nat → Nat) (E : String), IV σ' pl gq ci gr nc ot LL' N' nu' → Fx [261, 262, 263, 323, 324, 386, 387, 388, 389, 390, 6464, 8320] gr σ σ' → NCX nu nu' → (LL' = LL ∧ N' = N ∧ E = "java/lang/IllegalArgumentException" ∧ gI σ' th 6 ≠ 0) → X σ' E) : wp_X6_aggregates th σ Q X := by
  have fσ : Fx [261, 262, 263, 323, 324, 386, 387, 388, 389, 390, 6464, 8320] gr σ σ := Fx.rf
  have oxσ : OX o σ σ := OX.rf
  have q1 := I_6_5 iσ.1 kth
  have q2 := I_6_2 iσ.1 kth
  have q3 := iσ.rg th 3; unfold rng at q3
  have q4 := I_4_7 iσ.1 kJ
  have q5 := I_5_3 iσ.1 ko
  have q6 := I_5_4 iσ.1 ko
  have q7 := I_5_7 iσ.1 ko
  have ncb := iσ.ncb
  have r70 := I_4_7 iσ.1 kJ
  have r71 := I_4_1 iσ.1 kJ
  unfold wp_X6_aggregates
  unfold w_X6_aggregates_0
  have Lp2 : ∀ (fu2 : Nat) (τ2 : Sg) (nut2 : Nat → Nat) (v1 : Int), IV τ2 pl gq ci gr nc ot LL N nut2 → Fx [261, 262, 263, 323, 324, 386, 387, 388, 389, 390, 6464, 8320] gr σ τ2 → Ext σ τ2 → NC nu nut2 → OX o σ τ2 → ((0 ≤ v1 ∧ v1 ≤ 5) ∧ (gI τ2 th 5 ≤ gI τ2 th 2 ∧ (gI τ2 th 3 ≠ 0 → gI τ2 th 5 + 1 ≤ gI τ2 th 2)) ∧ gI τ2 J 7 ≤ 2 * gI τ2 th 5 ∧ 0 ≤ gI τ2 o 7 ∧ gI τ2 o 3 = gI τ2 o 4 + 1 ∧ gI τ2 o 4 ≤ 4) → ((5 - v1).toNat) < fu2 → wl_X6_aggregates_2 th Q X fu2 τ2 v1 := by
    intro fu2
    induction fu2 with
    | zero => intro _ _ _ _ _ _ _ _ _ h9; omega
    | succ fu2 ih2 =>
      intro τ2 nut2 v1 iτ2 fτ2 xτ2 nu_τ2 oxcτ2 hi2 hm2
      have uτ2_0 := nu_τ2 0 (by decide) (by decide)
      have uτ2_1 := nu_τ2 1 (by decide) (by decide)
      have uτ2_2 := nu_τ2 2 (by decide) (by decide)
      have uτ2_5 := nu_τ2 5 (by decide) (by decide)
      have uτ2_15 := nu_τ2 15 (by decide) (by decide)
      have uτ2_16 := nu_τ2 16 (by decide) (by decide)
      unfold wl_X6_aggregates_2
      have kp8 : Kpt (gI τ2 o 7 = gI σ o 7) := (fτ2.O ko (by decide)).1
      have kp9 : gP τ2 th 0 = gP σ th 0 := (fτ2.O kth (by decide)).2.1
      have kp10 : gP τ2 th 7 = gP σ th 7 := (fτ2.O kth (by decide)).2.1
      have kp11 : gP τ2 th 8 = gP σ th 8 := (fτ2.O kth (by decide)).2.1
      have kp12 : Kpt (gI τ2 J 1 = gI σ J 1) := (fτ2.O kJ (by decide)).1
      have kp13 : Kpt (gI τ2 J 2 = gI σ J 2) := (fτ2.O kJ (by decide)).1
      have kp14 : Kpt (gI τ2 o 6 = gI σ o 6) := (fτ2.O ko (by decide)).1
      have kp15 : Kpt (gI τ2 o 8 = gI σ o 8) := (fτ2.O ko (by decide)).1
      have kp16 : Kpt (gI τ2 o 9 = gI σ o 9) := (fτ2.O ko (by decide)).1
      have r3τ2 := I_5_3 iτ2.1 (ko.up xτ2)
      have r4τ2 := I_5_4 iτ2.1 (ko.up xτ2)
      unfold w_X6_aggregates_2
      by_cases hc17 : v1 > 4
      · rw [if_pos hc17]
        unfold w_X6_aggregates_126
        have ho18 : gI τ2 o 7 = gI σ o 7 := kp8
        have ho19 : gI τ2 J 1 = gI σ J 1 := kp12
        have ho20 : gI τ2 J 2 = gI σ J 2 := kp13
        have ho21 : gI τ2 o 6 = gI σ o 6 := kp14
        have ho22 : gI τ2 o 8 = gI σ o 8 := kp15
        have ho23 : gI τ2 o 9 = gI σ o 9 := kp16
        exact hQ τ2 nut2 () iτ2 fτ2 (nu_τ2) oxcτ2 (by omega)
      · rw [if_neg hc17]
        unfold w_X6_aggregates_7
        refine i_X6_newColumn iτ2 (kth.up xτ2) (kp9.trans hX0) (kX.up xτ2) (((xτ2) tx kX.1).2.2.trans gX) (kp11.trans h8) (ko.up xτ2) (by (first | omega | with_reducible assumption | with_reducible exact rng_toInt _ | with_reducible exact rng_wr _ | (unfold rng; omega) | (unfold rng at *; omega) | assumption)) (by (first | omega | with_reducible assumption | with_reducible exact rng_toInt _ | with_reducible exact rng_wr _ | (unfold rng; omega) | (unfold rng at *; omega) | assumption)) (by (first | omega | with_reducible assumption | with_reducible exact rng_toInt _ | with_reducible exact rng_wr _ | (unfold rng; omega) | (unfold rng at *; omega) | assumption)) (by (first | omega | with_reducible assumption | with_reducible exact rng_toInt _ | with_reducible exact rng_wr _ | (unfold rng; omega) | (unfold rng at *; omega) | assumption)) (by (first | omega | with_reducible assumption | with_reducible exact rng_toInt _ | with_reducible exact rng_wr _ | (unfold rng; omega) | (unfold rng at *; omega) | assumption)) (fun σ16 _ iσ16 cσ16 oxσ16 pσ16 => ?_) (fun σx LLx Nx nux E ix cx ux px => hX σx LLx Nx nux E ix (fτ2.tr (cx.mo (by decide))) (nu_τ2.x ux) (by first | exact px | exact ⟨by have := px.1; omega, px.2⟩ | (first | omega | with_reducible assumption | with_reducible exact rng_toInt _ | with_reducible exact rng_wr _ | (unfold rng; omega) | (unfold rng at *; omega) | assumption)))
        intro xσ16
        have fσ16 : Fx [261, 262, 263, 323, 324, 386, 387, 388, 389, 390, 6464, 8320] gr σ σ16 := fτ2.tr (cσ16.mo (by decide))
        have oxcσ16 : OX o σ σ16 := oxcτ2.tr oxσ16 (xτ2)
        have kp24 : gP σ16 th 0 = gP τ2 th 0 := (cσ16.O (kth.up xτ2) (by decide)).2.1
        have kp25 : gP σ16 th 7 = gP τ2 th 7 := (cσ16.O (kth.up xτ2) (by decide)).2.1
        have kp26 : gP σ16 th 8 = gP τ2 th 8 := (cσ16.O (kth.up xτ2) (by decide)).2.1
        have kp27 : Kpt (gI σ16 J 7 = gI τ2 J 7) := (cσ16.O (kJ.up xτ2) (by decide)).1
        have kp28 : Kpt (gI σ16 J 1 = gI σ J 1) := Eq.trans (show gI σ16 J 1 = gI τ2 J 1 from (cσ16.O (kJ.up xτ2) (by decide)).1) kp12
        have kp29 : Kpt (gI σ16 J 2 = gI σ J 2) := Eq.trans (show gI σ16 J 2 = gI τ2 J 2 from (cσ16.O (kJ.up xτ2) (by decide)).1) kp13
        have kp30 : Kpt (gI σ16 o 4 = gI τ2 o 4) := (cσ16.O (ko.up xτ2) (by decide)).1
        have kp31 : Kpt (gI σ16 o 6 = gI σ o 6) := Eq.trans (show gI σ16 o 6 = gI τ2 o 6 from (cσ16.O (ko.up xτ2) (by decide)).1) kp14
        have kp32 : Kpt (gI σ16 o 7 = gI σ o 7) := Eq.trans (show gI σ16 o 7 = gI τ2 o 7 from (cσ16.O (ko.up xτ2) (by decide)).1) kp8
        have kp33 : Kpt (gI σ16 o 8 = gI σ o 8) := Eq.trans (show gI σ16 o 8 = gI τ2 o 8 from (cσ16.O (ko.up xτ2) (by decide)).1) kp15
        have kp34 : Kpt (gI σ16 o 9 = gI σ o 9) := Eq.trans (show gI σ16 o 9 = gI τ2 o 9 from (cσ16.O (ko.up xτ2) (by decide)).1) kp16
        have r5σ16 := I_6_5 iσ16.1 (kth.up (xτ2.trans xσ16))
        refine i_X6_wantSign iσ16 (kth.up (xτ2.trans xσ16)) (kp24.trans (kp9.trans hX0)) (kX.up (xτ2.trans xσ16)) (((xτ2.trans xσ16) tx kX.1).2.2.trans gX) (by (first | omega | with_reducible assumption | with_reducible exact rng_toInt _ | with_reducible exact rng_wr _ | (unfold rng; omega) | (unfold rng at *; omega) | assumption)) (by (first | omega | with_reducible assumption | with_reducible exact rng_toInt _ | with_reducible exact rng_wr _ | (unfold rng; omega) | (unfold rng at *; omega) | assumption)) (fun σ17 _ iσ17 cσ17 pσ17 => ?_) (fun σx LLx Nx nux E ix cx ux px => hX σx LLx Nx nux E ix (fσ16.tr (cx.mo (by decide))) (nu_τ2.x ux) (by first | exact px | exact ⟨by have := px.1; omega, px.2⟩ | (first | omega | with_reducible assumption | with_reducible exact rng_toInt _ | with_reducible exact rng_wr _ | (unfold rng; omega) | (unfold rng at *; omega) | assumption)))
        intro xσ17
        have fσ17 : Fx [261, 262, 263, 323, 324, 386, 387, 388, 389, 390, 6464, 8320] gr σ σ17 := fσ16.tr (cσ17.mo (by decide))
        have oxcσ17 : OX o σ σ17 := oxcσ16.tr (OX.fx cσ17 (by decide) (by decide)) (xτ2.trans xσ16)
        have kp35 : gP σ17 th 0 = gP σ16 th 0 := (cσ17.O (kth.up (xτ2.trans xσ16)) (by decide)).2.1
        have kp36 : gP σ17 th 7 = gP σ16 th 7 := (cσ17.O (kth.up (xτ2.trans xσ16)) (by decide)).2.1
        have kp37 : gP σ17 th 8 = gP σ16 th 8 := (cσ17.O (kth.up (xτ2.trans xσ16)) (by decide)).2.1
        have kp38 : Kpt (gI σ17 J 7 = gI τ2 J 7) := Eq.trans (show gI σ17 J 7 = gI σ16 J 7 from (cσ17.O (kJ.up (xτ2.trans xσ16)) (by decide)).1) kp27
        have kp39 : Kpt (gI σ17 J 1 = gI σ J 1) := Eq.trans (show gI σ17 J 1 = gI σ16 J 1 from (cσ17.O (kJ.up (xτ2.trans xσ16)) (by decide)).1) kp28
        have kp40 : Kpt (gI σ17 J 2 = gI σ J 2) := Eq.trans (show gI σ17 J 2 = gI σ16 J 2 from (cσ17.O (kJ.up (xτ2.trans xσ16)) (by decide)).1) kp29
        have kp41 : Kpt (gI σ17 o 3 = gI σ16 o 3) := (cσ17.O (ko.up (xτ2.trans xσ16)) (by decide)).1
        have kp42 : Kpt (gI σ17 o 4 = gI τ2 o 4) := Eq.trans (show gI σ17 o 4 = gI σ16 o 4 from (cσ17.O (ko.up (xτ2.trans xσ16)) (by decide)).1) kp30
        have kp43 : Kpt (gI σ17 o 6 = gI σ o 6) := Eq.trans (show gI σ17 o 6 = gI σ16 o 6 from (cσ17.O (ko.up (xτ2.trans xσ16)) (by decide)).1) kp31
        have kp44 : Kpt (gI σ17 o 7 = gI σ o 7) := Eq.trans (show gI σ17 o 7 = gI σ16 o 7 from (cσ17.O (ko.up (xτ2.trans xσ16)) (by decide)).1) kp32
        have kp45 : Kpt (gI σ17 o 8 = gI σ o 8) := Eq.trans (show gI σ17 o 8 = gI σ16 o 8 from (cσ17.O (ko.up (xτ2.trans xσ16)) (by decide)).1) kp33
        have kp46 : Kpt (gI σ17 o 9 = gI σ o 9) := Eq.trans (show gI σ17 o 9 = gI σ16 o 9 from (cσ17.O (ko.up (xτ2.trans xσ16)) (by decide)).1) kp34
        have r5σ17 := I_6_5 iσ17.1 (kth.up (xτ2.trans (xσ16.trans xσ17)))
        have q48 := iσ17.rg th 3; unfold rng at q48
        by_cases hc47 : gI σ17 th 3 ≠ 2
        · rw [if_pos hc47]
          unfold w_X6_aggregates_48
          refine i_X6_cannotStand iσ17 (kth.up (xτ2.trans (xσ16.trans xσ17))) (by (first | omega | with_reducible assumption | with_reducible exact rng_toInt _ | with_reducible exact rng_wr _ | (unfold rng; omega) | (unfold rng at *; omega) | assumption)) (fun σ18 _ iσ18 cσ18 pσ18 => ?_) (fun σx LLx Nx nux E ix cx ux px => hX σx LLx Nx nux E ix (fσ17.tr (cx.mo (by decide))) (nu_τ2.x ux) (by first | exact px | exact ⟨by have := px.1; omega, px.2⟩ | (first | omega | with_reducible assumption | with_reducible exact rng_toInt _ | with_reducible exact rng_wr _ | (unfold rng; omega) | (unfold rng at *; omega) | assumption)))
          intro xσ18
          exact pσ18.elim
        · rw [if_neg hc47]
          have hc47q := Classical.not_not.mp hc47
          unfold w_X6_aggregates_26
          by_cases hc49 : gJ σ17 th 4 < 18
          · rw [if_pos hc49]
            unfold w_X6_aggregates_48
            refine i_X6_cannotStand iσ17 (kth.up (xτ2.trans (xσ16.trans xσ17))) (by (first | omega | with_reducible assumption | with_reducible exact rng_toInt _ | with_reducible exact rng_wr _ | (unfold rng; omega) | (unfold rng at *; omega) | assumption)) (fun σ18_1 _ iσ18_1 cσ18_1 pσ18_1 => ?_) (fun σx LLx Nx nux E ix cx ux px => hX σx LLx Nx nux E ix (fσ17.tr (cx.mo (by decide))) (nu_τ2.x ux) (by first | exact px | exact ⟨by have := px.1; omega, px.2⟩ | (first | omega | with_reducible assumption | with_reducible exact rng_toInt _ | with_reducible exact rng_wr _ | (unfold rng; omega) | (unfold rng at *; omega) | assumption)))
            intro xσ18_1
            exact pσ18_1.elim
          · rw [if_neg hc49]
            unfold w_X6_aggregates_37
            by_cases hc50 : gJ σ17 th 4 ≤ 21
            · rw [if_pos hc50]
              unfold w_X6_aggregates_52
              refine ⟨o, (kp37.trans (kp26.trans (kp11.trans h8))), fun kk_o => ?_⟩
              obtain ⟨b, eb, fb⟩ := P_5_2 iσ17.1 (ko.up (xτ2.trans (xσ16.trans xσ17)))
              have mb : kO σ17 b 100 := iσ17.1.kd (ko.up (xτ2.trans (xσ16.trans xσ17))) rfl eb rfl
              refine ⟨b, eb, fun kk_b => ?_⟩
              have ho51 : gI σ17 o 4 = gI τ2 o 4 := kp42
              have q52 := I_5_4 iσ17.1 (ko.up (xτ2.trans (xσ16.trans xσ17)))
              refine ⟨⟨by (first | omega | with_reducible assumption | with_reducible exact rng_toInt _ | with_reducible exact rng_wr _ | (unfold rng; omega) | (unfold rng at *; omega) | assumption), by (first | omega | with_reducible assumption | with_reducible exact rng_toInt _ | with_reducible exact rng_wr _ | (unfold rng; omega) | (unfold rng at *; omega) | assumption)⟩, ?_⟩
              intro σ21 eσ21
              have xσ21 : Ext σ17 σ21 := by rw [eσ21]; exact fun _ h => ⟨h, rfl, rfl⟩
              have iσ21 : IV σ21 pl gq ci gr nc ot LL N nut2 := by rw [eσ21]; exact iσ17.wA0 mb (by (first | omega | with_reducible assumption | with_reducible exact rng_toInt _ | with_reducible exact rng_wr _ | (unfold rng; omega) | (unfold rng at *; omega) | assumption)) (by first | exact rng_wr _ | (first | omega | with_reducible assumption | with_reducible exact rng_toInt _ | with_reducible exact rng_wr _ | (unfold rng; omega) | (unfold rng at *; omega) | assumption))
              have fσ21 : Fx [261, 262, 263, 323, 324, 386, 387, 388, 389, 390, 6464, 8320] gr σ σ21 := fσ17.tr (Sk.fx (by rw [eσ21]; exact Sk.pI (by rw [fcdI mb, show gr b = 0 from by (first | omega | with_reducible assumption | with_reducible exact rng_toInt _ | with_reducible exact rng_wr _ | (unfold rng; omega) | (unfold rng at *; omega) | assumption)]; decide)))
              have oxcσ21 : OX o σ σ21 := oxcσ17.tr (by rw [eσ21]; exact OX.pI mb (Or.inl (by decide))) (xτ2.trans (xσ16.trans xσ17))
              have wσ21 : gI σ21 b (gI σ17 o 4).toNat = (wr ((wr (0 + (gJ σ17 th 4).toInt32.toInt)) - 18)) := by rw [eσ21]; exact up2_s _ _ _ _
              have kp53 : Kpt (gI σ21 o 4 = gI τ2 o 4) := Eq.trans (show gI σ21 o 4 = gI σ17 o 4 from by rw [eσ21]; exact up2_n _ _ (fun q => absurd q.1 (kO.ne (ko.up (xτ2.trans (xσ16.trans xσ17))) mb (by decide)))) kp42
              have kp54 : gI σ21 th 3 = gI σ17 th 3 := by rw [eσ21]; exact up2_n _ _ (fun q => absurd q.1 (kO.ne (kth.up (xτ2.trans (xσ16.trans xσ17))) mb (by decide)))
              have kp55 : gP σ21 o 2 = gP σ17 o 2 := by rw [eσ21]
              have kp56 : gP σ21 th 0 = gP σ17 th 0 := by rw [eσ21]
              have kp57 : gP σ21 th 7 = gP σ17 th 7 := by rw [eσ21]
              have kp58 : gP σ21 th 8 = gP σ17 th 8 := by rw [eσ21]
              have kp59 : gI σ21 th 2 = gI σ17 th 2 := by rw [eσ21]; exact up2_n _ _ (fun q => absurd q.1 (kO.ne (kth.up (xτ2.trans (xσ16.trans xσ17))) mb (by decide)))
              have kp60 : gI σ21 th 5 = gI σ17 th 5 := by rw [eσ21]; exact up2_n _ _ (fun q => absurd q.1 (kO.ne (kth.up (xτ2.trans (xσ16.trans xσ17))) mb (by decide)))
              have kp61 : Kpt (gI σ21 J 7 = gI τ2 J 7) := Eq.trans (show gI σ21 J 7 = gI σ17 J 7 from by rw [eσ21]; exact up2_n _ _ (fun q => absurd q.1 (kO.ne (kJ.up (xτ2.trans (xσ16.trans xσ17))) mb (by decide)))) kp38
              have kp62 : Kpt (gI σ21 J 1 = gI σ J 1) := Eq.trans (show gI σ21 J 1 = gI σ17 J 1 from by rw [eσ21]; exact up2_n _ _ (fun q => absurd q.1 (kO.ne (kJ.up (xτ2.trans (xσ16.trans xσ17))) mb (by decide)))) kp39
              have kp63 : Kpt (gI σ21 J 2 = gI σ J 2) := Eq.trans (show gI σ21 J 2 = gI σ17 J 2 from by rw [eσ21]; exact up2_n _ _ (fun q => absurd q.1 (kO.ne (kJ.up (xτ2.trans (xσ16.trans xσ17))) mb (by decide)))) kp40
              have kp64 : Kpt (gI σ21 o 3 = gI σ16 o 3) := Eq.trans (show gI σ21 o 3 = gI σ17 o 3 from by rw [eσ21]; exact up2_n _ _ (fun q => absurd q.1 (kO.ne (ko.up (xτ2.trans (xσ16.trans xσ17))) mb (by decide)))) kp41
              have kp65 : Kpt (gI σ21 o 6 = gI σ o 6) := Eq.trans (show gI σ21 o 6 = gI σ17 o 6 from by rw [eσ21]; exact up2_n _ _ (fun q => absurd q.1 (kO.ne (ko.up (xτ2.trans (xσ16.trans xσ17))) mb (by decide)))) kp43
              have kp66 : Kpt (gI σ21 o 7 = gI σ o 7) := Eq.trans (show gI σ21 o 7 = gI σ17 o 7 from by rw [eσ21]; exact up2_n _ _ (fun q => absurd q.1 (kO.ne (ko.up (xτ2.trans (xσ16.trans xσ17))) mb (by decide)))) kp44
              have kp67 : Kpt (gI σ21 o 8 = gI σ o 8) := Eq.trans (show gI σ21 o 8 = gI σ17 o 8 from by rw [eσ21]; exact up2_n _ _ (fun q => absurd q.1 (kO.ne (ko.up (xτ2.trans (xσ16.trans xσ17))) mb (by decide)))) kp45
              have kp68 : Kpt (gI σ21 o 9 = gI σ o 9) := Eq.trans (show gI σ21 o 9 = gI σ17 o 9 from by rw [eσ21]; exact up2_n _ _ (fun q => absurd q.1 (kO.ne (ko.up (xτ2.trans (xσ16.trans xσ17))) mb (by decide)))) kp46
              refine i_X6_next iσ21 (kth.up (xτ2.trans (xσ16.trans (xσ17.trans xσ21)))) (kp56.trans (kp35.trans (kp24.trans (kp9.trans hX0)))) (kX.up (xτ2.trans (xσ16.trans (xσ17.trans xσ21)))) (((xτ2.trans (xσ16.trans (xσ17.trans xσ21))) tx kX.1).2.2.trans gX) (by (first | omega | with_reducible assumption | with_reducible exact rng_toInt _ | with_reducible exact rng_wr _ | (unfold rng; omega) | (unfold rng at *; omega) | assumption)) (by (first | omega | with_reducible assumption | with_reducible exact rng_toInt _ | with_reducible exact rng_wr _ | (unfold rng; omega) | (unfold rng at *; omega) | assumption)) (fun σ22 _ iσ22 cσ22 pσ22 => ?_) (fun σx LLx Nx nux E ix cx ux px => hX σx LLx Nx nux E ix (fσ21.tr (cx.mo (by decide))) (nu_τ2.x ux) (by first | exact px | exact ⟨by have := px.1; omega, px.2⟩ | (first | omega | with_reducible assumption | with_reducible exact rng_toInt _ | with_reducible exact rng_wr _ | (unfold rng; omega) | (unfold rng at *; omega) | assumption)))
              intro xσ22
              have fσ22 : Fx [261, 262, 263, 323, 324, 386, 387, 388, 389, 390, 6464, 8320] gr σ σ22 := fσ21.tr (cσ22.mo (by decide))
              have oxcσ22 : OX o σ σ22 := oxcσ21.tr (OX.fx cσ22 (by decide) (by decide)) (xτ2.trans (xσ16.trans (xσ17.trans xσ21)))
              have kp69 : gP σ22 o 2 = gP σ21 o 2 := (cσ22.O (ko.up (xτ2.trans (xσ16.trans (xσ17.trans xσ21)))) (by decide)).2.1
              have kp70 : gP σ22 th 0 = gP σ21 th 0 := (cσ22.O (kth.up (xτ2.trans (xσ16.trans (xσ17.trans xσ21)))) (by decide)).2.1
              have kp71 : gP σ22 th 7 = gP σ21 th 7 := (cσ22.O (kth.up (xτ2.trans (xσ16.trans (xσ17.trans xσ21)))) (by decide)).2.1
              have kp72 : gP σ22 th 8 = gP σ21 th 8 := (cσ22.O (kth.up (xτ2.trans (xσ16.trans (xσ17.trans xσ21)))) (by decide)).2.1
              have kp73 : Kpt (gI σ22 J 7 = gI τ2 J 7) := Eq.trans (show gI σ22 J 7 = gI σ21 J 7 from (cσ22.O (kJ.up (xτ2.trans (xσ16.trans (xσ17.trans xσ21)))) (by decide)).1) kp61
              have kp74 : Kpt (gI σ22 J 1 = gI σ J 1) := Eq.trans (show gI σ22 J 1 = gI σ21 J 1 from (cσ22.O (kJ.up (xτ2.trans (xσ16.trans (xσ17.trans xσ21)))) (by decide)).1) kp62
              have kp75 : Kpt (gI σ22 J 2 = gI σ J 2) := Eq.trans (show gI σ22 J 2 = gI σ21 J 2 from (cσ22.O (kJ.up (xτ2.trans (xσ16.trans (xσ17.trans xσ21)))) (by decide)).1) kp63
              have kp76 : Kpt (gI σ22 o 3 = gI σ16 o 3) := Eq.trans (show gI σ22 o 3 = gI σ21 o 3 from (cσ22.O (ko.up (xτ2.trans (xσ16.trans (xσ17.trans xσ21)))) (by decide)).1) kp64
              have kp77 : Kpt (gI σ22 o 4 = gI τ2 o 4) := Eq.trans (show gI σ22 o 4 = gI σ21 o 4 from (cσ22.O (ko.up (xτ2.trans (xσ16.trans (xσ17.trans xσ21)))) (by decide)).1) kp53
              have kp78 : Kpt (gI σ22 o 6 = gI σ o 6) := Eq.trans (show gI σ22 o 6 = gI σ21 o 6 from (cσ22.O (ko.up (xτ2.trans (xσ16.trans (xσ17.trans xσ21)))) (by decide)).1) kp65
              have kp79 : Kpt (gI σ22 o 7 = gI σ o 7) := Eq.trans (show gI σ22 o 7 = gI σ21 o 7 from (cσ22.O (ko.up (xτ2.trans (xσ16.trans (xσ17.trans xσ21)))) (by decide)).1) kp66
              have kp80 : Kpt (gI σ22 o 8 = gI σ o 8) := Eq.trans (show gI σ22 o 8 = gI σ21 o 8 from (cσ22.O (ko.up (xτ2.trans (xσ16.trans (xσ17.trans xσ21)))) (by decide)).1) kp67
              have kp81 : Kpt (gI σ22 o 9 = gI σ o 9) := Eq.trans (show gI σ22 o 9 = gI σ21 o 9 from (cσ22.O (ko.up (xτ2.trans (xσ16.trans (xσ17.trans xσ21)))) (by decide)).1) kp68
              have r5σ22 := I_6_5 iσ22.1 (kth.up (xτ2.trans (xσ16.trans (xσ17.trans (xσ21.trans xσ22)))))
              have ho82 : gI σ22 o 4 = gI τ2 o 4 := kp77
              refine i_X6_newValue iσ22 (kth.up (xτ2.trans (xσ16.trans (xσ17.trans (xσ21.trans xσ22))))) (kp71.trans (kp57.trans (kp36.trans (kp25.trans (kp10.trans h7))))) (kJ.up (xτ2.trans (xσ16.trans (xσ17.trans (xσ21.trans xσ22))))) (kp72.trans (kp58.trans (kp37.trans (kp26.trans (kp11.trans h8))))) (ko.up (xτ2.trans (xσ16.trans (xσ17.trans (xσ21.trans xσ22))))) (by (first | omega | with_reducible assumption | with_reducible exact rng_toInt _ | with_reducible exact rng_wr _ | (unfold rng; omega) | (unfold rng at *; omega) | assumption)) (by (first | omega | with_reducible assumption | with_reducible exact rng_toInt _ | with_reducible exact rng_wr _ | (unfold rng; omega) | (unfold rng at *; omega) | assumption)) (by (first | omega | with_reducible assumption | with_reducible exact rng_toInt _ | with_reducible exact rng_wr _ | (unfold rng; omega) | (unfold rng at *; omega) | assumption)) (by (first | omega | with_reducible assumption | with_reducible exact rng_toInt _ | with_reducible exact rng_wr _ | (unfold rng; omega) | (unfold rng at *; omega) | assumption)) (fun σ23 _ iσ23 cσ23 oxσ23 pσ23 => ?_)
              intro xσ23
              have fσ23 : Fx [261, 262, 263, 323, 324, 386, 387, 388, 389, 390, 6464, 8320] gr σ σ23 := fσ22.tr (cσ23.mo (by decide))
              have oxcσ23 : OX o σ σ23 := oxcσ22.tr oxσ23 (xτ2.trans (xσ16.trans (xσ17.trans (xσ21.trans xσ22))))
              have kp83 : gP σ23 o 2 = gP σ22 o 2 := (cσ23.O (ko.up (xτ2.trans (xσ16.trans (xσ17.trans (xσ21.trans xσ22))))) (by decide)).2.1
              have kp84 : gP σ23 th 0 = gP σ22 th 0 := (cσ23.O (kth.up (xτ2.trans (xσ16.trans (xσ17.trans (xσ21.trans xσ22))))) (by decide)).2.1
              have kp85 : gP σ23 th 7 = gP σ22 th 7 := (cσ23.O (kth.up (xτ2.trans (xσ16.trans (xσ17.trans (xσ21.trans xσ22))))) (by decide)).2.1
              have kp86 : gP σ23 th 8 = gP σ22 th 8 := (cσ23.O (kth.up (xτ2.trans (xσ16.trans (xσ17.trans (xσ21.trans xσ22))))) (by decide)).2.1
              have kp87 : gI σ23 th 2 = gI σ22 th 2 := (cσ23.O (kth.up (xτ2.trans (xσ16.trans (xσ17.trans (xσ21.trans xσ22))))) (by decide)).1
              have kp88 : gI σ23 th 3 = gI σ22 th 3 := (cσ23.O (kth.up (xτ2.trans (xσ16.trans (xσ17.trans (xσ21.trans xσ22))))) (by decide)).1
              have kp89 : gI σ23 th 5 = gI σ22 th 5 := (cσ23.O (kth.up (xτ2.trans (xσ16.trans (xσ17.trans (xσ21.trans xσ22))))) (by decide)).1
              have kp90 : Kpt (gI σ23 J 7 = gI τ2 J 7) := Eq.trans (show gI σ23 J 7 = gI σ22 J 7 from (cσ23.O (kJ.up (xτ2.trans (xσ16.trans (xσ17.trans (xσ21.trans xσ22))))) (by decide)).1) kp73
              have kp91 : Kpt (gI σ23 J 1 = gI σ J 1) := Eq.trans (show gI σ23 J 1 = gI σ22 J 1 from (cσ23.O (kJ.up (xτ2.trans (xσ16.trans (xσ17.trans (xσ21.trans xσ22))))) (by decide)).1) kp74
              have kp92 : Kpt (gI σ23 J 2 = gI σ J 2) := Eq.trans (show gI σ23 J 2 = gI σ22 J 2 from (cσ23.O (kJ.up (xτ2.trans (xσ16.trans (xσ17.trans (xσ21.trans xσ22))))) (by decide)).1) kp75
              have kp93 : Kpt (gI σ23 o 3 = gI σ16 o 3) := Eq.trans (show gI σ23 o 3 = gI σ22 o 3 from (cσ23.O (ko.up (xτ2.trans (xσ16.trans (xσ17.trans (xσ21.trans xσ22))))) (by decide)).1) kp76
              have kp94 : Kpt (gI σ23 o 6 = gI σ o 6) := Eq.trans (show gI σ23 o 6 = gI σ22 o 6 from (cσ23.O (ko.up (xτ2.trans (xσ16.trans (xσ17.trans (xσ21.trans xσ22))))) (by decide)).1) kp78
              have kp95 : Kpt (gI σ23 o 7 = gI σ o 7) := Eq.trans (show gI σ23 o 7 = gI σ22 o 7 from (cσ23.O (ko.up (xτ2.trans (xσ16.trans (xσ17.trans (xσ21.trans xσ22))))) (by decide)).1) kp79
              have kp96 : Kpt (gI σ23 o 8 = gI σ o 8) := Eq.trans (show gI σ23 o 8 = gI σ22 o 8 from (cσ23.O (ko.up (xτ2.trans (xσ16.trans (xσ17.trans (xσ21.trans xσ22))))) (by decide)).1) kp80
              have kp97 : Kpt (gI σ23 o 9 = gI σ o 9) := Eq.trans (show gI σ23 o 9 = gI σ22 o 9 from (cσ23.O (ko.up (xτ2.trans (xσ16.trans (xσ17.trans (xσ21.trans xσ22))))) (by decide)).1) kp81
              by_cases hc98 : (wr ((wr (0 + (gJ σ17 th 4).toInt32.toInt)) - 18)) = 0
              · rw [if_pos hc98]
                unfold w_X6_aggregates_106
                refine i_X6_isSign iσ23 (kth.up (xτ2.trans (xσ16.trans (xσ17.trans (xσ21.trans (xσ22.trans xσ23)))))) (fun r29 pσ28 => ?_)
                intro xσ28
                by_cases hc99 : r29 ≠ 0
                · rw [if_pos hc99]
                  unfold w_X6_aggregates_116
                  refine i_X6_next iσ23 (kth.up (xτ2.trans (xσ16.trans (xσ17.trans (xσ21.trans (xσ22.trans xσ23)))))) (kp84.trans (kp70.trans (kp56.trans (kp35.trans (kp24.trans (kp9.trans hX0)))))) (kX.up (xτ2.trans (xσ16.trans (xσ17.trans (xσ21.trans (xσ22.trans xσ23)))))) (((xτ2.trans (xσ16.trans (xσ17.trans (xσ21.trans (xσ22.trans xσ23))))) tx kX.1).2.2.trans gX) (by (first | omega | with_reducible assumption | with_reducible exact rng_toInt _ | with_reducible exact rng_wr _ | (unfold rng; omega) | (unfold rng at *; omega) | assumption)) (by (first | omega | with_reducible assumption | with_reducible exact rng_toInt _ | with_reducible exact rng_wr _ | (unfold rng; omega) | (unfold rng at *; omega) | assumption)) (fun σ30 _ iσ30 cσ30 pσ30 => ?_) (fun σx LLx Nx nux E ix cx ux px => hX σx LLx Nx nux E ix (fσ23.tr (cx.mo (by decide))) (nu_τ2.x ux) (by first | exact px | exact ⟨by have := px.1; omega, px.2⟩ | (first | omega | with_reducible assumption | with_reducible exact rng_toInt _ | with_reducible exact rng_wr _ | (unfold rng; omega) | (unfold rng at *; omega) | assumption)))
                  intro xσ30
                  have fσ30 : Fx [261, 262, 263, 323, 324, 386, 387, 388, 389, 390, 6464, 8320] gr σ σ30 := fσ23.tr (cσ30.mo (by decide))
                  have oxcσ30 : OX o σ σ30 := oxcσ23.tr (OX.fx cσ30 (by decide) (by decide)) (xτ2.trans (xσ16.trans (xσ17.trans (xσ21.trans (xσ22.trans xσ23)))))
                  have kp100 : gP σ30 o 2 = gP σ23 o 2 := (cσ30.O (ko.up (xτ2.trans (xσ16.trans (xσ17.trans (xσ21.trans (xσ22.trans xσ23)))))) (by decide)).2.1
                  have kp101 : gP σ30 th 0 = gP σ23 th 0 := (cσ30.O (kth.up (xτ2.trans (xσ16.trans (xσ17.trans (xσ21.trans (xσ22.trans xσ23)))))) (by decide)).2.1
                  have kp102 : gP σ30 th 7 = gP σ23 th 7 := (cσ30.O (kth.up (xτ2.trans (xσ16.trans (xσ17.trans (xσ21.trans (xσ22.trans xσ23)))))) (by decide)).2.1
                  have kp103 : gP σ30 th 8 = gP σ23 th 8 := (cσ30.O (kth.up (xτ2.trans (xσ16.trans (xσ17.trans (xσ21.trans (xσ22.trans xσ23)))))) (by decide)).2.1
                  have kp104 : Kpt (gI σ30 J 7 = gI τ2 J 7) := Eq.trans (show gI σ30 J 7 = gI σ23 J 7 from (cσ30.O (kJ.up (xτ2.trans (xσ16.trans (xσ17.trans (xσ21.trans (xσ22.trans xσ23)))))) (by decide)).1) kp90
                  have kp105 : Kpt (gI σ30 J 1 = gI σ J 1) := Eq.trans (show gI σ30 J 1 = gI σ23 J 1 from (cσ30.O (kJ.up (xτ2.trans (xσ16.trans (xσ17.trans (xσ21.trans (xσ22.trans xσ23)))))) (by decide)).1) kp91
                  have kp106 : Kpt (gI σ30 J 2 = gI σ J 2) := Eq.trans (show gI σ30 J 2 = gI σ23 J 2 from (cσ30.O (kJ.up (xτ2.trans (xσ16.trans (xσ17.trans (xσ21.trans (xσ22.trans xσ23)))))) (by decide)).1) kp92
                  have kp107 : Kpt (gI σ30 o 3 = gI σ16 o 3) := Eq.trans (show gI σ30 o 3 = gI σ23 o 3 from (cσ30.O (ko.up (xτ2.trans (xσ16.trans (xσ17.trans (xσ21.trans (xσ22.trans xσ23)))))) (by decide)).1) kp93
                  have kp108 : Kpt (gI σ30 o 4 = gI σ23 o 4) := (cσ30.O (ko.up (xτ2.trans (xσ16.trans (xσ17.trans (xσ21.trans (xσ22.trans xσ23)))))) (by decide)).1
                  have kp109 : Kpt (gI σ30 o 6 = gI σ o 6) := Eq.trans (show gI σ30 o 6 = gI σ23 o 6 from (cσ30.O (ko.up (xτ2.trans (xσ16.trans (xσ17.trans (xσ21.trans (xσ22.trans xσ23)))))) (by decide)).1) kp94
                  have kp110 : Kpt (gI σ30 o 7 = gI σ o 7) := Eq.trans (show gI σ30 o 7 = gI σ23 o 7 from (cσ30.O (ko.up (xτ2.trans (xσ16.trans (xσ17.trans (xσ21.trans (xσ22.trans xσ23)))))) (by decide)).1) kp95
                  have kp111 : Kpt (gI σ30 o 8 = gI σ o 8) := Eq.trans (show gI σ30 o 8 = gI σ23 o 8 from (cσ30.O (ko.up (xτ2.trans (xσ16.trans (xσ17.trans (xσ21.trans (xσ22.trans xσ23)))))) (by decide)).1) kp96
                  have kp112 : Kpt (gI σ30 o 9 = gI σ o 9) := Eq.trans (show gI σ30 o 9 = gI σ23 o 9 from (cσ30.O (ko.up (xτ2.trans (xσ16.trans (xσ17.trans (xσ21.trans (xσ22.trans xσ23)))))) (by decide)).1) kp97
                  have r5σ30 := I_6_5 iσ30.1 (kth.up (xτ2.trans (xσ16.trans (xσ17.trans (xσ21.trans (xσ22.trans (xσ23.trans xσ30)))))))
                  refine ⟨by (first | omega | with_reducible assumption | with_reducible exact rng_toInt _ | with_reducible exact rng_wr _ | (unfold rng; omega) | (unfold rng at *; omega) | assumption), ?_⟩
                  have ho113 : gI σ30 J 7 = gI τ2 J 7 := kp104
                  have ho114 : gI σ30 J 1 = gI σ J 1 := kp105
                  have ho115 : gI σ30 J 2 = gI σ J 2 := kp106
                  have ho116 : gI σ30 o 3 = gI σ16 o 3 := kp107
                  have ho117 : gI σ30 o 4 = gI σ23 o 4 := kp108
                  have ho118 : gI σ30 o 6 = gI σ o 6 := kp109
                  have ho119 : gI σ30 o 7 = gI σ o 7 := kp110
                  have ho120 : gI σ30 o 8 = gI σ o 8 := kp111
                  have ho121 : gI σ30 o 9 = gI σ o 9 := kp112
                  exact ih2 σ30 nut2 (v1 + 1) iσ30 fσ30 (xτ2.trans (xσ16.trans (xσ17.trans (xσ21.trans (xσ22.trans (xσ23.trans xσ30)))))) nu_τ2 oxcσ30 (by (first | omega | with_reducible assumption | with_reducible exact rng_toInt _ | with_reducible exact rng_wr _ | (unfold rng; omega) | (unfold rng at *; omega) | assumption)) (by (first | omega | with_reducible assumption | with_reducible exact rng_toInt _ | with_reducible exact rng_wr _ | (unfold rng; omega) | (unfold rng at *; omega) | assumption))
                · rw [if_neg hc99]
                  have hc99q := Classical.not_not.mp hc99
                  unfold w_X6_aggregates_115
                  have ho122 : gI σ23 J 7 = gI τ2 J 7 := kp90
                  have ho123 : gI σ23 J 1 = gI σ J 1 := kp91
                  have ho124 : gI σ23 J 2 = gI σ J 2 := kp92
                  have ho125 : gI σ23 o 3 = gI σ16 o 3 := kp93
                  have ho126 : gI σ23 o 6 = gI σ o 6 := kp94
                  have ho127 : gI σ23 o 7 = gI σ o 7 := kp95
                  have ho128 : gI σ23 o 8 = gI σ o 8 := kp96
                  have ho129 : gI σ23 o 9 = gI σ o 9 := kp97
                  exact hQ σ23 nut2 () iσ23 fσ23 (nu_τ2) oxcσ23 (by omega)
              · rw [if_neg hc98]
                unfold w_X6_aggregates_91
                have ho130 : gI σ23 J 7 = gI τ2 J 7 := kp90
                have ho131 : gI σ23 o 7 = gI σ o 7 := kp95
                refine i_X6_value iσ23 (kth.up (xτ2.trans (xσ16.trans (xσ17.trans (xσ21.trans (xσ22.trans xσ23)))))) (kp84.trans (kp70.trans (kp56.trans (kp35.trans (kp24.trans (kp9.trans hX0)))))) (kX.up (xτ2.trans (xσ16.trans (xσ17.trans (xσ21.trans (xσ22.trans xσ23)))))) (((xτ2.trans (xσ16.trans (xσ17.trans (xσ21.trans (xσ22.trans xσ23))))) tx kX.1).2.2.trans gX) (kp85.trans (kp71.trans (kp57.trans (kp36.trans (kp25.trans (kp10.trans h7)))))) (kJ.up (xτ2.trans (xσ16.trans (xσ17.trans (xσ21.trans (xσ22.trans xσ23)))))) (kp86.trans (kp72.trans (kp58.trans (kp37.trans (kp26.trans (kp11.trans h8)))))) (ko.up (xτ2.trans (xσ16.trans (xσ17.trans (xσ21.trans (xσ22.trans xσ23)))))) (by (first | omega | with_reducible assumption | with_reducible exact rng_toInt _ | with_reducible exact rng_wr _ | (unfold rng; omega) | (unfold rng at *; omega) | assumption)) (by (first | omega | with_reducible assumption | with_reducible exact rng_toInt _ | with_reducible exact rng_wr _ | (unfold rng; omega) | (unfold rng at *; omega) | assumption)) (by (first | omega | with_reducible assumption | with_reducible exact rng_toInt _ | with_reducible exact rng_wr _ | (unfold rng; omega) | (unfold rng at *; omega) | assumption)) (by (first | omega | with_reducible assumption | with_reducible exact rng_toInt _ | with_reducible exact rng_wr _ | (unfold rng; omega) | (unfold rng at *; omega) | assumption)) (by (first | omega | with_reducible assumption | with_reducible exact rng_toInt _ | with_reducible exact rng_wr _ | (unfold rng; omega) | (unfold rng at *; omega) | assumption)) (by (first | omega | with_reducible assumption | with_reducible exact rng_toInt _ | with_reducible exact rng_wr _ | (unfold rng; omega) | (unfold rng at *; omega) | assumption)) (by (first | omega | with_reducible assumption | with_reducible exact rng_toInt _ | with_reducible exact rng_wr _ | (unfold rng; omega) | (unfold rng at *; omega) | assumption)) (by (first | omega | with_reducible assumption | with_reducible exact rng_toInt _ | with_reducible exact rng_wr _ | (unfold rng; omega) | (unfold rng at *; omega) | assumption)) (by (first | omega | with_reducible assumption | with_reducible exact rng_toInt _ | with_reducible exact rng_wr _ | (unfold rng; omega) | (unfold rng at *; omega) | assumption)) (fun σ24 nuσ24 _ iσ24 cσ24 uσ24 pσ24 => ?_) (fun σx LLx Nx nux E ix cx ux px => hX σx LLx Nx nux E ix (fσ23.tr (cx.mo (by decide))) (nu_τ2.x ux) (by first | exact px | exact ⟨by have := px.1; omega, px.2⟩ | (first | omega | with_reducible assumption | with_reducible exact rng_toInt _ | with_reducible exact rng_wr _ | (unfold rng; omega) | (unfold rng at *; omega) | assumption)))
                intro xσ24
                have fσ24 : Fx [261, 262, 263, 323, 324, 386, 387, 388, 389, 390, 6464, 8320] gr σ σ24 := fσ23.tr (cσ24.mo (by decide))
                have oxcσ24 : OX o σ σ24 := oxcσ23.tr (OX.fx cσ24 (by decide) (by decide)) (xτ2.trans (xσ16.trans (xσ17.trans (xσ21.trans (xσ22.trans xσ23)))))
                have nu_σ24 : NC nu nuσ24 := nu_τ2.tr uσ24
                have uσ24_0 := uσ24 0 (by decide) (by decide)
                have uσ24_1 := uσ24 1 (by decide) (by decide)
                have uσ24_2 := uσ24 2 (by decide) (by decide)
                have uσ24_5 := uσ24 5 (by decide) (by decide)
                have uσ24_15 := uσ24 15 (by decide) (by decide)
                have uσ24_16 := uσ24 16 (by decide) (by decide)
                have kp132 : gP σ24 o 2 = gP σ23 o 2 := (cσ24.O (ko.up (xτ2.trans (xσ16.trans (xσ17.trans (xσ21.trans (xσ22.trans xσ23)))))) (by decide)).2.1
                have kp133 : gP σ24 th 0 = gP σ23 th 0 := (cσ24.O (kth.up (xτ2.trans (xσ16.trans (xσ17.trans (xσ21.trans (xσ22.trans xσ23)))))) (by decide)).2.1
                have kp134 : gP σ24 th 7 = gP σ23 th 7 := (cσ24.O (kth.up (xτ2.trans (xσ16.trans (xσ17.trans (xσ21.trans (xσ22.trans xσ23)))))) (by decide)).2.1
                have kp135 : gP σ24 th 8 = gP σ23 th 8 := (cσ24.O (kth.up (xτ2.trans (xσ16.trans (xσ17.trans (xσ21.trans (xσ22.trans xσ23)))))) (by decide)).2.1
                have kp136 : Kpt (gI σ24 J 1 = gI σ J 1) := Eq.trans (show gI σ24 J 1 = gI σ23 J 1 from (cσ24.O (kJ.up (xτ2.trans (xσ16.trans (xσ17.trans (xσ21.trans (xσ22.trans xσ23)))))) (by decide)).1) kp91
                have kp137 : Kpt (gI σ24 J 2 = gI σ J 2) := Eq.trans (show gI σ24 J 2 = gI σ23 J 2 from (cσ24.O (kJ.up (xτ2.trans (xσ16.trans (xσ17.trans (xσ21.trans (xσ22.trans xσ23)))))) (by decide)).1) kp92
                have kp138 : Kpt (gI σ24 o 3 = gI σ16 o 3) := Eq.trans (show gI σ24 o 3 = gI σ23 o 3 from (cσ24.O (ko.up (xτ2.trans (xσ16.trans (xσ17.trans (xσ21.trans (xσ22.trans xσ23)))))) (by decide)).1) kp93
                have kp139 : Kpt (gI σ24 o 4 = gI σ23 o 4) := (cσ24.O (ko.up (xτ2.trans (xσ16.trans (xσ17.trans (xσ21.trans (xσ22.trans xσ23)))))) (by decide)).1
                have kp140 : Kpt (gI σ24 o 6 = gI σ o 6) := Eq.trans (show gI σ24 o 6 = gI σ23 o 6 from (cσ24.O (ko.up (xτ2.trans (xσ16.trans (xσ17.trans (xσ21.trans (xσ22.trans xσ23)))))) (by decide)).1) kp94
                have kp141 : Kpt (gI σ24 o 7 = gI σ o 7) := Eq.trans (show gI σ24 o 7 = gI σ23 o 7 from (cσ24.O (ko.up (xτ2.trans (xσ16.trans (xσ17.trans (xσ21.trans (xσ22.trans xσ23)))))) (by decide)).1) kp95
                have kp142 : Kpt (gI σ24 o 8 = gI σ o 8) := Eq.trans (show gI σ24 o 8 = gI σ23 o 8 from (cσ24.O (ko.up (xτ2.trans (xσ16.trans (xσ17.trans (xσ21.trans (xσ22.trans xσ23)))))) (by decide)).1) kp96
                have kp143 : Kpt (gI σ24 o 9 = gI σ o 9) := Eq.trans (show gI σ24 o 9 = gI σ23 o 9 from (cσ24.O (ko.up (xτ2.trans (xσ16.trans (xσ17.trans (xσ21.trans (xσ22.trans xσ23)))))) (by decide)).1) kp97
                have r5σ24 := I_6_5 iσ24.1 (kth.up (xτ2.trans (xσ16.trans (xσ17.trans (xσ21.trans (xσ22.trans (xσ23.trans xσ24)))))))
                refine ⟨J, (kp134.trans (kp85.trans (kp71.trans (kp57.trans (kp36.trans (kp25.trans (kp10.trans h7))))))), fun kk_J => ?_⟩
                refine i_X4_emit iσ24 (kJ.up (xτ2.trans (xσ16.trans (xσ17.trans (xσ21.trans (xσ22.trans (xσ23.trans xσ24))))))) (by (first | omega | with_reducible assumption | with_reducible exact rng_toInt _ | with_reducible exact rng_wr _ | (unfold rng; omega) | (unfold rng at *; omega) | assumption)) (by (first | omega | with_reducible assumption | with_reducible exact rng_toInt _ | with_reducible exact rng_wr _ | (unfold rng; omega) | (unfold rng at *; omega) | assumption)) (by (first | omega | with_reducible assumption | with_reducible exact rng_toInt _ | with_reducible exact rng_wr _ | (unfold rng; omega) | (unfold rng at *; omega) | assumption)) (by (first | omega | with_reducible assumption | with_reducible exact rng_toInt _ | with_reducible exact rng_wr _ | (unfold rng; omega) | (unfold rng at *; omega) | assumption)) (fun σ25 nuσ25 r26 iσ25 cσ25 uσ25 pσ25 => ?_)
                intro xσ25
                have fσ25 : Fx [261, 262, 263, 323, 324, 386, 387, 388, 389, 390, 6464, 8320] gr σ σ25 := fσ24.tr (cσ25.mo (by decide))
                have oxcσ25 : OX o σ σ25 := oxcσ24.tr (OX.fx cσ25 (by decide) (by decide)) (xτ2.trans (xσ16.trans (xσ17.trans (xσ21.trans (xσ22.trans (xσ23.trans xσ24))))))
                have nu_σ25 : NC nu nuσ25 := nu_σ24.tr uσ25
                have uσ25_0 := uσ25 0 (by decide) (by decide)
                have uσ25_1 := uσ25 1 (by decide) (by decide)
                have uσ25_2 := uσ25 2 (by decide) (by decide)
                have uσ25_5 := uσ25 5 (by decide) (by decide)
                have uσ25_15 := uσ25 15 (by decide) (by decide)
                have uσ25_16 := uσ25 16 (by decide) (by decide)
                have kp144 : gP σ25 o 2 = gP σ24 o 2 := (cσ25.O (ko.up (xτ2.trans (xσ16.trans (xσ17.trans (xσ21.trans (xσ22.trans (xσ23.trans xσ24))))))) (by decide)).2.1
                have kp145 : gP σ25 th 0 = gP σ24 th 0 := (cσ25.O (kth.up (xτ2.trans (xσ16.trans (xσ17.trans (xσ21.trans (xσ22.trans (xσ23.trans xσ24))))))) (by decide)).2.1
                have kp146 : gP σ25 th 7 = gP σ24 th 7 := (cσ25.O (kth.up (xτ2.trans (xσ16.trans (xσ17.trans (xσ21.trans (xσ22.trans (xσ23.trans xσ24))))))) (by decide)).2.1
                have kp147 : gP σ25 th 8 = gP σ24 th 8 := (cσ25.O (kth.up (xτ2.trans (xσ16.trans (xσ17.trans (xσ21.trans (xσ22.trans (xσ23.trans xσ24))))))) (by decide)).2.1
                have kp148 : gI σ25 th 2 = gI σ24 th 2 := (cσ25.O (kth.up (xτ2.trans (xσ16.trans (xσ17.trans (xσ21.trans (xσ22.trans (xσ23.trans xσ24))))))) (by decide)).1
                have kp149 : gI σ25 th 3 = gI σ24 th 3 := (cσ25.O (kth.up (xτ2.trans (xσ16.trans (xσ17.trans (xσ21.trans (xσ22.trans (xσ23.trans xσ24))))))) (by decide)).1
                have kp150 : gI σ25 th 5 = gI σ24 th 5 := (cσ25.O (kth.up (xτ2.trans (xσ16.trans (xσ17.trans (xσ21.trans (xσ22.trans (xσ23.trans xσ24))))))) (by decide)).1
                have kp151 : Kpt (gI σ25 J 1 = gI σ J 1) := Eq.trans (show gI σ25 J 1 = gI σ24 J 1 from (cσ25.O (kJ.up (xτ2.trans (xσ16.trans (xσ17.trans (xσ21.trans (xσ22.trans (xσ23.trans xσ24))))))) (by decide)).1) kp136
                have kp152 : Kpt (gI σ25 J 2 = gI σ J 2) := Eq.trans (show gI σ25 J 2 = gI σ24 J 2 from (cσ25.O (kJ.up (xτ2.trans (xσ16.trans (xσ17.trans (xσ21.trans (xσ22.trans (xσ23.trans xσ24))))))) (by decide)).1) kp137
                have kp153 : Kpt (gI σ25 o 3 = gI σ16 o 3) := Eq.trans (show gI σ25 o 3 = gI σ24 o 3 from (cσ25.O (ko.up (xτ2.trans (xσ16.trans (xσ17.trans (xσ21.trans (xσ22.trans (xσ23.trans xσ24))))))) (by decide)).1) kp138
                have kp154 : Kpt (gI σ25 o 4 = gI σ23 o 4) := Eq.trans (show gI σ25 o 4 = gI σ24 o 4 from (cσ25.O (ko.up (xτ2.trans (xσ16.trans (xσ17.trans (xσ21.trans (xσ22.trans (xσ23.trans xσ24))))))) (by decide)).1) kp139
                have kp155 : Kpt (gI σ25 o 6 = gI σ o 6) := Eq.trans (show gI σ25 o 6 = gI σ24 o 6 from (cσ25.O (ko.up (xτ2.trans (xσ16.trans (xσ17.trans (xσ21.trans (xσ22.trans (xσ23.trans xσ24))))))) (by decide)).1) kp140
                have kp156 : Kpt (gI σ25 o 7 = gI σ o 7) := Eq.trans (show gI σ25 o 7 = gI σ24 o 7 from (cσ25.O (ko.up (xτ2.trans (xσ16.trans (xσ17.trans (xσ21.trans (xσ22.trans (xσ23.trans xσ24))))))) (by decide)).1) kp141
                have kp157 : Kpt (gI σ25 o 8 = gI σ o 8) := Eq.trans (show gI σ25 o 8 = gI σ24 o 8 from (cσ25.O (ko.up (xτ2.trans (xσ16.trans (xσ17.trans (xσ21.trans (xσ22.trans (xσ23.trans xσ24))))))) (by decide)).1) kp142
                have kp158 : Kpt (gI σ25 o 9 = gI σ o 9) := Eq.trans (show gI σ25 o 9 = gI σ24 o 9 from (cσ25.O (ko.up (xτ2.trans (xσ16.trans (xσ17.trans (xσ21.trans (xσ22.trans (xσ23.trans xσ24))))))) (by decide)).1) kp143
                unfold w_X6_aggregates_106
                refine i_X6_isSign iσ25 (kth.up (xτ2.trans (xσ16.trans (xσ17.trans (xσ21.trans (xσ22.trans (xσ23.trans (xσ24.trans xσ25)))))))) (fun r29_1 pσ28_1 => ?_)
                intro xσ28_1
                by_cases hc159 : r29_1 ≠ 0
                · rw [if_pos hc159]
                  unfold w_X6_aggregates_116
                  refine i_X6_next iσ25 (kth.up (xτ2.trans (xσ16.trans (xσ17.trans (xσ21.trans (xσ22.trans (xσ23.trans (xσ24.trans xσ25)))))))) (kp145.trans (kp133.trans (kp84.trans (kp70.trans (kp56.trans (kp35.trans (kp24.trans (kp9.trans hX0)))))))) (kX.up (xτ2.trans (xσ16.trans (xσ17.trans (xσ21.trans (xσ22.trans (xσ23.trans (xσ24.trans xσ25)))))))) (((xτ2.trans (xσ16.trans (xσ17.trans (xσ21.trans (xσ22.trans (xσ23.trans (xσ24.trans xσ25))))))) tx kX.1).2.2.trans gX) (by (first | omega | with_reducible assumption | with_reducible exact rng_toInt _ | with_reducible exact rng_wr _ | (unfold rng; omega) | (unfold rng at *; omega) | assumption)) (by (first | omega | with_reducible assumption | with_reducible exact rng_toInt _ | with_reducible exact rng_wr _ | (unfold rng; omega) | (unfold rng at *; omega) | assumption)) (fun σ30_1 _ iσ30_1 cσ30_1 pσ30_1 => ?_) (fun σx LLx Nx nux E ix cx ux px => hX σx LLx Nx nux E ix (fσ25.tr (cx.mo (by decide))) (nu_σ25.x ux) (by first | exact px | exact ⟨by have := px.1; omega, px.2⟩ | (first | omega | with_reducible assumption | with_reducible exact rng_toInt _ | with_reducible exact rng_wr _ | (unfold rng; omega) | (unfold rng at *; omega) | assumption)))
                  intro xσ30_1
                  have fσ30_1 : Fx [261, 262, 263, 323, 324, 386, 387, 388, 389, 390, 6464, 8320] gr σ σ30_1 := fσ25.tr (cσ30_1.mo (by decide))
                  have oxcσ30_1 : OX o σ σ30_1 := oxcσ25.tr (OX.fx cσ30_1 (by decide) (by decide)) (xτ2.trans (xσ16.trans (xσ17.trans (xσ21.trans (xσ22.trans (xσ23.trans (xσ24.trans xσ25)))))))
                  have kp160 : gP σ30_1 o 2 = gP σ25 o 2 := (cσ30_1.O (ko.up (xτ2.trans (xσ16.trans (xσ17.trans (xσ21.trans (xσ22.trans (xσ23.trans (xσ24.trans xσ25)))))))) (by decide)).2.1
                  have kp161 : gP σ30_1 th 0 = gP σ25 th 0 := (cσ30_1.O (kth.up (xτ2.trans (xσ16.trans (xσ17.trans (xσ21.trans (xσ22.trans (xσ23.trans (xσ24.trans xσ25)))))))) (by decide)).2.1
                  have kp162 : gP σ30_1 th 7 = gP σ25 th 7 := (cσ30_1.O (kth.up (xτ2.trans (xσ16.trans (xσ17.trans (xσ21.trans (xσ22.trans (xσ23.trans (xσ24.trans xσ25)))))))) (by decide)).2.1
                  have kp163 : gP σ30_1 th 8 = gP σ25 th 8 := (cσ30_1.O (kth.up (xτ2.trans (xσ16.trans (xσ17.trans (xσ21.trans (xσ22.trans (xσ23.trans (xσ24.trans xσ25)))))))) (by decide)).2.1
                  have kp164 : Kpt (gI σ30_1 J 7 = gI σ25 J 7) := (cσ30_1.O (kJ.up (xτ2.trans (xσ16.trans (xσ17.trans (xσ21.trans (xσ22.trans (xσ23.trans (xσ24.trans xσ25)))))))) (by decide)).1
                  have kp165 : Kpt (gI σ30_1 J 1 = gI σ J 1) := Eq.trans (show gI σ30_1 J 1 = gI σ25 J 1 from (cσ30_1.O (kJ.up (xτ2.trans (xσ16.trans (xσ17.trans (xσ21.trans (xσ22.trans (xσ23.trans (xσ24.trans xσ25)))))))) (by decide)).1) kp151
                  have kp166 : Kpt (gI σ30_1 J 2 = gI σ J 2) := Eq.trans (show gI σ30_1 J 2 = gI σ25 J 2 from (cσ30_1.O (kJ.up (xτ2.trans (xσ16.trans (xσ17.trans (xσ21.trans (xσ22.trans (xσ23.trans (xσ24.trans xσ25)))))))) (by decide)).1) kp152
                  have kp167 : Kpt (gI σ30_1 o 3 = gI σ16 o 3) := Eq.trans (show gI σ30_1 o 3 = gI σ25 o 3 from (cσ30_1.O (ko.up (xτ2.trans (xσ16.trans (xσ17.trans (xσ21.trans (xσ22.trans (xσ23.trans (xσ24.trans xσ25)))))))) (by decide)).1) kp153
                  have kp168 : Kpt (gI σ30_1 o 4 = gI σ23 o 4) := Eq.trans (show gI σ30_1 o 4 = gI σ25 o 4 from (cσ30_1.O (ko.up (xτ2.trans (xσ16.trans (xσ17.trans (xσ21.trans (xσ22.trans (xσ23.trans (xσ24.trans xσ25)))))))) (by decide)).1) kp154
                  have kp169 : Kpt (gI σ30_1 o 6 = gI σ o 6) := Eq.trans (show gI σ30_1 o 6 = gI σ25 o 6 from (cσ30_1.O (ko.up (xτ2.trans (xσ16.trans (xσ17.trans (xσ21.trans (xσ22.trans (xσ23.trans (xσ24.trans xσ25)))))))) (by decide)).1) kp155
                  have kp170 : Kpt (gI σ30_1 o 7 = gI σ o 7) := Eq.trans (show gI σ30_1 o 7 = gI σ25 o 7 from (cσ30_1.O (ko.up (xτ2.trans (xσ16.trans (xσ17.trans (xσ21.trans (xσ22.trans (xσ23.trans (xσ24.trans xσ25)))))))) (by decide)).1) kp156
                  have kp171 : Kpt (gI σ30_1 o 8 = gI σ o 8) := Eq.trans (show gI σ30_1 o 8 = gI σ25 o 8 from (cσ30_1.O (ko.up (xτ2.trans (xσ16.trans (xσ17.trans (xσ21.trans (xσ22.trans (xσ23.trans (xσ24.trans xσ25)))))))) (by decide)).1) kp157
                  have kp172 : Kpt (gI σ30_1 o 9 = gI σ o 9) := Eq.trans (show gI σ30_1 o 9 = gI σ25 o 9 from (cσ30_1.O (ko.up (xτ2.trans (xσ16.trans (xσ17.trans (xσ21.trans (xσ22.trans (xσ23.trans (xσ24.trans xσ25)))))))) (by decide)).1) kp158
                  have r5σ30_1 := I_6_5 iσ30_1.1 (kth.up (xτ2.trans (xσ16.trans (xσ17.trans (xσ21.trans (xσ22.trans (xσ23.trans (xσ24.trans (xσ25.trans xσ30_1)))))))))
                  refine ⟨by (first | omega | with_reducible assumption | with_reducible exact rng_toInt _ | with_reducible exact rng_wr _ | (unfold rng; omega) | (unfold rng at *; omega) | assumption), ?_⟩
                  have ho173 : gI σ30_1 J 7 = gI σ25 J 7 := kp164
                  have ho174 : gI σ30_1 J 1 = gI σ J 1 := kp165
                  have ho175 : gI σ30_1 J 2 = gI σ J 2 := kp166
                  have ho176 : gI σ30_1 o 3 = gI σ16 o 3 := kp167
                  have ho177 : gI σ30_1 o 4 = gI σ23 o 4 := kp168
                  have ho178 : gI σ30_1 o 6 = gI σ o 6 := kp169
                  have ho179 : gI σ30_1 o 7 = gI σ o 7 := kp170
                  have ho180 : gI σ30_1 o 8 = gI σ o 8 := kp171
                  have ho181 : gI σ30_1 o 9 = gI σ o 9 := kp172
                  exact ih2 σ30_1 nuσ25 (v1 + 1) iσ30_1 fσ30_1 (xτ2.trans (xσ16.trans (xσ17.trans (xσ21.trans (xσ22.trans (xσ23.trans (xσ24.trans (xσ25.trans xσ30_1)))))))) nu_σ25 oxcσ30_1 (by (first | omega | with_reducible assumption | with_reducible exact rng_toInt _ | with_reducible exact rng_wr _ | (unfold rng; omega) | (unfold rng at *; omega) | assumption)) (by (first | omega | with_reducible assumption | with_reducible exact rng_toInt _ | with_reducible exact rng_wr _ | (unfold rng; omega) | (unfold rng at *; omega) | assumption))
                · rw [if_neg hc159]
                  have hc159q := Classical.not_not.mp hc159
                  unfold w_X6_aggregates_115
                  have ho182 : gI σ25 J 1 = gI σ J 1 := kp151
                  have ho183 : gI σ25 J 2 = gI σ J 2 := kp152
                  have ho184 : gI σ25 o 3 = gI σ16 o 3 := kp153
                  have ho185 : gI σ25 o 4 = gI σ23 o 4 := kp154
                  have ho186 : gI σ25 o 6 = gI σ o 6 := kp155
                  have ho187 : gI σ25 o 7 = gI σ o 7 := kp156
                  have ho188 : gI σ25 o 8 = gI σ o 8 := kp157
                  have ho189 : gI σ25 o 9 = gI σ o 9 := kp158
                  exact hQ σ25 nuσ25 () iσ25 fσ25 (nu_σ25) oxcσ25 (by omega)
            · rw [if_neg hc50]
              unfold w_X6_aggregates_48
              refine i_X6_cannotStand iσ17 (kth.up (xτ2.trans (xσ16.trans xσ17))) (by (first | omega | with_reducible assumption | with_reducible exact rng_toInt _ | with_reducible exact rng_wr _ | (unfold rng; omega) | (unfold rng at *; omega) | assumption)) (fun σ18_2 _ iσ18_2 cσ18_2 pσ18_2 => ?_) (fun σx LLx Nx nux E ix cx ux px => hX σx LLx Nx nux E ix (fσ17.tr (cx.mo (by decide))) (nu_τ2.x ux) (by first | exact px | exact ⟨by have := px.1; omega, px.2⟩ | (first | omega | with_reducible assumption | with_reducible exact rng_toInt _ | with_reducible exact rng_wr _ | (unfold rng; omega) | (unfold rng at *; omega) | assumption)))
              intro xσ18_2
              exact pσ18_2.elim
  exact ⟨_, Lp2 _ σ nu _ iσ fσ (Ext.rfl' _) NC.rf oxσ (by (first | omega | with_reducible assumption | with_reducible exact rng_toInt _ | with_reducible exact rng_wr _ | (unfold rng; omega) | (unfold rng at *; omega) | assumption)) (Nat.lt_succ_self _)⟩
set_option maxHeartbeats 1000000 in
theorem i_X6_pairText {σ : Sg} {pl : Nat} {gq ci gr nc : Nat → Nat} {ot : Nat → Nat → Int} {LL : Nat → List Nat} {N nu : Nat → Nat} {th : Nat} {v1 : Int} {tx J o q c : Nat} (iσ : IV σ pl gq ci gr nc ot LL N nu) (kth : kO σ th 6) (hX0 : gP σ th 0 = some tx) (kX : kO σ tx 102) (gX : gn σ tx = 1500) (h7 : gP σ th 7 = some J) (kJ : kO σ J 4) (h8 : gP σ th 8 = some o) (ko : kO σ o 5) (hJq : gq J = q) (hq : q ≠ nc 0 ∧ q ≤ 1) (go : gq o = 16 * q + c) (hc : c < 16) (cJ : gI σ J 1 = (c : Int)) (tf : gI σ th 5 ≤ gI σ th 2 ∧ (gI σ th 3 ≠ 0 → gI σ th 5 + 1 ≤ gI σ th 2)) (h5 : nu 5 < 24000) (lp : gI σ J 7 ≤ 2 * gI σ th 5) (f0 : gI σ o 3 = 0 ∧ gI σ o 4 = 0 ∧ gI σ o 7 = -1 ∧ gI σ o 8 = -1) (hk : v1 = 6 ∨ v1 = 7) {Q : Sg → Unit → Prop} {X : Sg → String → Prop} (hQ : ∀ (σ' : Sg) (r : Unit), IV σ' pl gq ci gr nc ot LL N nu → Fx [323, 326, 327, 328, 333, 334, 335, 336, 386, 387, 388, 389, 390, 6464] gr σ σ' → OX o σ σ' → ((gI σ' th 5 ≤ gI σ' th 2 ∧ (gI σ' th 3 ≠ 0 → gI σ' th 5 + 1 ≤ gI σ' th 2)) ∧ gI σ' J 7 ≤ 2 * gI σ' th 5 ∧ OPR σ σ' gq q c o) → Q σ' r) (hX : ∀ (σ' : Sg) (LL' : Nat → List Nat) (N' nu' : Nat → Nat) (E : String), IV σ' pl gq ci gr nc ot LL' N' nu' → Fx [323, 326, 327, 328, 333, 334, 335, 336, 386, 387, 388, 389, 390, 6464] gr σ σ' → NCX nu nu' → (LL' = LL ∧ N' = N ∧ E = "java/lang/IllegalArgumentException" ∧ gI σ' th 6 ≠ 0) → X σ' E) : wp_X6_pairText th v1 σ Q X := by
  have fσ : Fx [323, 326, 327, 328, 333, 334, 335, 336, 386, 387, 388, 389, 390, 6464] gr σ σ := Fx.rf
  have oxσ : OX o σ σ := OX.rf
  have q1 := I_4_1 iσ.1 kJ
  have q2 := I_6_5 iσ.1 kth
  have q3 := I_6_2 iσ.1 kth
  have q4 := iσ.rg th 3; unfold rng at q4
  have q5 := I_4_7 iσ.1 kJ
  have q6 := I_5_3 iσ.1 ko
  have q7 := I_5_4 iσ.1 ko
  have q8 := I_5_7 iσ.1 ko
  have q9 := I_5_8 iσ.1 ko
  have ncb := iσ.ncb
  have r70 := I_4_7 iσ.1 kJ
  have r71 := I_4_1 iσ.1 kJ
  unfold wp_X6_pairText
  unfold w_X6_pairText_0
  refine i_X6_next iσ kth hX0 kX (((Ext.rfl' _) tx kX.1).2.2.trans gX) (by (first | omega | with_reducible assumption | with_reducible exact rng_toInt _ | with_reducible exact rng_wr _ | (unfold rng; omega) | (unfold rng at *; omega) | assumption)) (by (first | omega | with_reducible assumption | with_reducible exact rng_toInt _ | with_reducible exact rng_wr _ | (unfold rng; omega) | (unfold rng at *; omega) | assumption)) (fun σ49 _ iσ49 cσ49 pσ49 => ?_) (fun σx LLx Nx nux E ix cx ux px => hX σx LLx Nx nux E ix (fσ.tr (cx.mo (by decide))) (ux) (by first | exact px | exact ⟨by have := px.1; omega, px.2⟩ | (first | omega | with_reducible assumption | with_reducible exact rng_toInt _ | with_reducible exact rng_wr _ | (unfold rng; omega) | (unfold rng at *; omega) | assumption)))
  intro xσ49
  have fσ49 : Fx [323, 326, 327, 328, 333, 334, 335, 336, 386, 387, 388, 389, 390, 6464] gr σ σ49 := fσ.tr (cσ49.mo (by decide))
  have oxcσ49 : OX o σ σ49 := oxσ.tr (OX.fx cσ49 (by decide) (by decide)) (Ext.rfl' _)
  have kp10 : Kpt (gI σ49 J 1 = gI σ J 1) := (cσ49.O kJ (by decide)).1
  have kp11 : Kpt (gI σ49 J 7 = gI σ J 7) := (cσ49.O kJ (by decide)).1
  have kp12 : Kpt (gI σ49 o 3 = gI σ o 3) := (cσ49.O ko (by decide)).1
  have kp13 : Kpt (gI σ49 o 4 = gI σ o 4) := (cσ49.O ko (by decide)).1
  have kp14 : Kpt (gI σ49 o 7 = gI σ o 7) := (cσ49.O ko (by decide)).1
  have kp15 : Kpt (gI σ49 o 8 = gI σ o 8) := (cσ49.O ko (by decide)).1
  have kp16 : gP σ49 th 0 = gP σ th 0 := (cσ49.O kth (by decide)).2.1
  have kp17 : gP σ49 th 7 = gP σ th 7 := (cσ49.O kth (by decide)).2.1
  have kp18 : gP σ49 th 8 = gP σ th 8 := (cσ49.O kth (by decide)).2.1
  have kp19 : Kpt (gI σ49 J 2 = gI σ J 2) := (cσ49.O kJ (by decide)).1
  have kp20 : Kpt (gI σ49 o 6 = gI σ o 6) := (cσ49.O ko (by decide)).1
  have kp21 : Kpt (gI σ49 o 9 = gI σ o 9) := (cσ49.O ko (by decide)).1
  have r5σ49 := I_6_5 iσ49.1 (kth.up xσ49)
  refine i_X6_firstInput iσ49 (kth.up xσ49) (kp17.trans h7) (kJ.up xσ49) (kp18.trans h8) (ko.up xσ49) (by (first | omega | with_reducible assumption | with_reducible exact rng_toInt _ | with_reducible exact rng_wr _ | (unfold rng; omega) | (unfold rng at *; omega) | assumption)) (by (first | omega | with_reducible assumption | with_reducible exact rng_toInt _ | with_reducible exact rng_wr _ | (unfold rng; omega) | (unfold rng at *; omega) | assumption)) (by (first | omega | with_reducible assumption | with_reducible exact rng_toInt _ | with_reducible exact rng_wr _ | (unfold rng; omega) | (unfold rng at *; omega) | assumption)) (by (first | omega | with_reducible assumption | with_reducible exact rng_toInt _ | with_reducible exact rng_wr _ | (unfold rng; omega) | (unfold rng at *; omega) | assumption)) (by (first | omega | with_reducible assumption | with_reducible exact rng_toInt _ | with_reducible exact rng_wr _ | (unfold rng; omega) | (unfold rng at *; omega) | assumption)) (by (first | omega | with_reducible assumption | with_reducible exact rng_toInt _ | with_reducible exact rng_wr _ | (unfold rng; omega) | (unfold rng at *; omega) | assumption)) (fun σ50 _ iσ50 cσ50 oxσ50 pσ50 => ?_) (fun σx LLx Nx nux E ix cx ux px => hX σx LLx Nx nux E ix (fσ49.tr (cx.mo (by decide))) (ux) (by first | exact px | exact ⟨by have := px.1; omega, px.2⟩ | (first | omega | with_reducible assumption | with_reducible exact rng_toInt _ | with_reducible exact rng_wr _ | (unfold rng; omega) | (unfold rng at *; omega) | assumption)))
  intro xσ50
  have fσ50 : Fx [323, 326, 327, 328, 333, 334, 335, 336, 386, 387, 388, 389, 390, 6464] gr σ σ50 := fσ49.tr (cσ50.mo (by decide))
  have oxcσ50 : OX o σ σ50 := oxcσ49.tr oxσ50 (xσ49)
  have kp22 : gP σ50 th 0 = gP σ49 th 0 := (cσ50.O (kth.up xσ49) (by decide)).2.1
  have kp23 : gP σ50 th 7 = gP σ49 th 7 := (cσ50.O (kth.up xσ49) (by decide)).2.1
  have kp24 : gP σ50 th 8 = gP σ49 th 8 := (cσ50.O (kth.up xσ49) (by decide)).2.1
  have kp25 : gI σ50 th 2 = gI σ49 th 2 := (cσ50.O (kth.up xσ49) (by decide)).1
  have kp26 : gI σ50 th 3 = gI σ49 th 3 := (cσ50.O (kth.up xσ49) (by decide)).1
  have kp27 : gI σ50 th 5 = gI σ49 th 5 := (cσ50.O (kth.up xσ49) (by decide)).1
  have kp28 : Kpt (gI σ50 J 7 = gI σ J 7) := Eq.trans (show gI σ50 J 7 = gI σ49 J 7 from (cσ50.O (kJ.up xσ49) (by decide)).1) kp11
  have kp29 : Kpt (gI σ50 J 1 = gI σ J 1) := Eq.trans (show gI σ50 J 1 = gI σ49 J 1 from (cσ50.O (kJ.up xσ49) (by decide)).1) kp10
  have kp30 : Kpt (gI σ50 J 2 = gI σ J 2) := Eq.trans (show gI σ50 J 2 = gI σ49 J 2 from (cσ50.O (kJ.up xσ49) (by decide)).1) kp19
  have kp31 : Kpt (gI σ50 o 3 = gI σ o 3) := Eq.trans (show gI σ50 o 3 = gI σ49 o 3 from (cσ50.O (ko.up xσ49) (by decide)).1) kp12
  have kp32 : Kpt (gI σ50 o 4 = gI σ o 4) := Eq.trans (show gI σ50 o 4 = gI σ49 o 4 from (cσ50.O (ko.up xσ49) (by decide)).1) kp13
  have kp33 : Kpt (gI σ50 o 8 = gI σ o 8) := Eq.trans (show gI σ50 o 8 = gI σ49 o 8 from (cσ50.O (ko.up xσ49) (by decide)).1) kp15
  have kp34 : Kpt (gI σ50 o 9 = gI σ o 9) := Eq.trans (show gI σ50 o 9 = gI σ49 o 9 from (cσ50.O (ko.up xσ49) (by decide)).1) kp21
  refine i_X6_next iσ50 (kth.up (xσ49.trans xσ50)) (kp22.trans (kp16.trans hX0)) (kX.up (xσ49.trans xσ50)) (((xσ49.trans xσ50) tx kX.1).2.2.trans gX) (by (first | omega | with_reducible assumption | with_reducible exact rng_toInt _ | with_reducible exact rng_wr _ | (unfold rng; omega) | (unfold rng at *; omega) | assumption)) (by (first | omega | with_reducible assumption | with_reducible exact rng_toInt _ | with_reducible exact rng_wr _ | (unfold rng; omega) | (unfold rng at *; omega) | assumption)) (fun σ51 _ iσ51 cσ51 pσ51 => ?_) (fun σx LLx Nx nux E ix cx ux px => hX σx LLx Nx nux E ix (fσ50.tr (cx.mo (by decide))) (ux) (by first | exact px | exact ⟨by have := px.1; omega, px.2⟩ | (first | omega | with_reducible assumption | with_reducible exact rng_toInt _ | with_reducible exact rng_wr _ | (unfold rng; omega) | (unfold rng at *; omega) | assumption)))
  intro xσ51
  have fσ51 : Fx [323, 326, 327, 328, 333, 334, 335, 336, 386, 387, 388, 389, 390, 6464] gr σ σ51 := fσ50.tr (cσ51.mo (by decide))
  have oxcσ51 : OX o σ σ51 := oxcσ50.tr (OX.fx cσ51 (by decide) (by decide)) (xσ49.trans xσ50)
  have kp35 : gP σ51 th 0 = gP σ50 th 0 := (cσ51.O (kth.up (xσ49.trans xσ50)) (by decide)).2.1
  have kp36 : gP σ51 th 7 = gP σ50 th 7 := (cσ51.O (kth.up (xσ49.trans xσ50)) (by decide)).2.1
  have kp37 : gP σ51 th 8 = gP σ50 th 8 := (cσ51.O (kth.up (xσ49.trans xσ50)) (by decide)).2.1
  have kp38 : Kpt (gI σ51 J 7 = gI σ J 7) := Eq.trans (show gI σ51 J 7 = gI σ50 J 7 from (cσ51.O (kJ.up (xσ49.trans xσ50)) (by decide)).1) kp28
  have kp39 : Kpt (gI σ51 J 1 = gI σ J 1) := Eq.trans (show gI σ51 J 1 = gI σ50 J 1 from (cσ51.O (kJ.up (xσ49.trans xσ50)) (by decide)).1) kp29
  have kp40 : Kpt (gI σ51 J 2 = gI σ J 2) := Eq.trans (show gI σ51 J 2 = gI σ50 J 2 from (cσ51.O (kJ.up (xσ49.trans xσ50)) (by decide)).1) kp30
  have kp41 : Kpt (gI σ51 o 3 = gI σ o 3) := Eq.trans (show gI σ51 o 3 = gI σ50 o 3 from (cσ51.O (ko.up (xσ49.trans xσ50)) (by decide)).1) kp31
  have kp42 : Kpt (gI σ51 o 4 = gI σ o 4) := Eq.trans (show gI σ51 o 4 = gI σ50 o 4 from (cσ51.O (ko.up (xσ49.trans xσ50)) (by decide)).1) kp32
  have kp43 : Kpt (gI σ51 o 6 = gI σ50 o 6) := (cσ51.O (ko.up (xσ49.trans xσ50)) (by decide)).1
  have kp44 : Kpt (gI σ51 o 7 = gI σ50 o 7) := (cσ51.O (ko.up (xσ49.trans xσ50)) (by decide)).1
  have kp45 : Kpt (gI σ51 o 8 = gI σ o 8) := Eq.trans (show gI σ51 o 8 = gI σ50 o 8 from (cσ51.O (ko.up (xσ49.trans xσ50)) (by decide)).1) kp33
  have kp46 : Kpt (gI σ51 o 9 = gI σ o 9) := Eq.trans (show gI σ51 o 9 = gI σ50 o 9 from (cσ51.O (ko.up (xσ49.trans xσ50)) (by decide)).1) kp34
  have r5σ51 := I_6_5 iσ51.1 (kth.up (xσ49.trans (xσ50.trans xσ51)))
  refine ⟨J, (kp36.trans (kp23.trans (kp17.trans h7))), fun kk_J => ?_⟩
  refine ⟨o, (kp37.trans (kp24.trans (kp18.trans h8))), fun kk_o => ?_⟩
  obtain ⟨b, eb, fb⟩ := P_4_0 iσ51.1 (kJ.up (xσ49.trans (xσ50.trans xσ51)))
  have mb : kO σ51 b 115 := iσ51.1.kd (kJ.up (xσ49.trans (xσ50.trans xσ51))) rfl eb rfl
  refine ⟨b, eb, fun kk_b => ?_⟩
  have ho47 : gI σ51 o 7 = gI σ50 o 7 := kp44
  have q48 := I_5_7 iσ51.1 (ko.up (xσ49.trans (xσ50.trans xσ51)))
  refine ⟨⟨by (first | omega | with_reducible assumption | with_reducible exact rng_toInt _ | with_reducible exact rng_wr _ | (unfold rng; omega) | (unfold rng at *; omega) | assumption), by (first | omega | with_reducible assumption | with_reducible exact rng_toInt _ | with_reducible exact rng_wr _ | (unfold rng; omega) | (unfold rng at *; omega) | assumption)⟩, ?_⟩
  refine i_X6_input iσ51 (kth.up (xσ49.trans (xσ50.trans xσ51))) (kp36.trans (kp23.trans (kp17.trans h7))) (kJ.up (xσ49.trans (xσ50.trans xσ51))) (by (first | omega | with_reducible assumption | with_reducible exact rng_toInt _ | with_reducible exact rng_wr _ | (unfold rng; omega) | (unfold rng at *; omega) | assumption)) (fun σ55 r56 iσ55 cσ55 pσ55 => ?_) (fun σx LLx Nx nux E ix cx ux px => hX σx LLx Nx nux E ix (fσ51.tr (cx.mo (by decide))) (ux) (by first | exact px | exact ⟨by have := px.1; omega, px.2⟩ | (first | omega | with_reducible assumption | with_reducible exact rng_toInt _ | with_reducible exact rng_wr _ | (unfold rng; omega) | (unfold rng at *; omega) | assumption)))
  intro xσ55
  have fσ55 : Fx [323, 326, 327, 328, 333, 334, 335, 336, 386, 387, 388, 389, 390, 6464] gr σ σ55 := fσ51.tr (cσ55.mo (by decide))
  have oxcσ55 : OX o σ σ55 := oxcσ51.tr (OX.fx cσ55 (by decide) (by decide)) (xσ49.trans (xσ50.trans xσ51))
  have kp49 : Kpt (gI σ55 o 7 = gI σ50 o 7) := Eq.trans (show gI σ55 o 7 = gI σ51 o 7 from (cσ55.O (ko.up (xσ49.trans (xσ50.trans xσ51))) (by decide)).1) kp44
  have kp50 : gP σ55 J 0 = gP σ51 J 0 := (cσ55.O (kJ.up (xσ49.trans (xσ50.trans xσ51))) (by decide)).2.1
  have kp51 : gP σ55 th 0 = gP σ51 th 0 := (cσ55.O (kth.up (xσ49.trans (xσ50.trans xσ51))) (by decide)).2.1
  have kp52 : gP σ55 th 7 = gP σ51 th 7 := (cσ55.O (kth.up (xσ49.trans (xσ50.trans xσ51))) (by decide)).2.1
  have kp53 : gP σ55 th 8 = gP σ51 th 8 := (cσ55.O (kth.up (xσ49.trans (xσ50.trans xσ51))) (by decide)).2.1
  have kp54 : gI σ55 th 2 = gI σ51 th 2 := (cσ55.O (kth.up (xσ49.trans (xσ50.trans xσ51))) (by decide)).1
  have kp55 : gI σ55 th 3 = gI σ51 th 3 := (cσ55.O (kth.up (xσ49.trans (xσ50.trans xσ51))) (by decide)).1
  have kp56 : gI σ55 th 5 = gI σ51 th 5 := (cσ55.O (kth.up (xσ49.trans (xσ50.trans xσ51))) (by decide)).1
  have kp57 : Kpt (gI σ55 J 7 = gI σ J 7) := Eq.trans (show gI σ55 J 7 = gI σ51 J 7 from (cσ55.O (kJ.up (xσ49.trans (xσ50.trans xσ51))) (by decide)).1) kp38
  have kp58 : Kpt (gI σ55 J 1 = gI σ J 1) := Eq.trans (show gI σ55 J 1 = gI σ51 J 1 from (cσ55.O (kJ.up (xσ49.trans (xσ50.trans xσ51))) (by decide)).1) kp39
  have kp59 : Kpt (gI σ55 J 2 = gI σ J 2) := Eq.trans (show gI σ55 J 2 = gI σ51 J 2 from (cσ55.O (kJ.up (xσ49.trans (xσ50.trans xσ51))) (by decide)).1) kp40
  have kp60 : Kpt (gI σ55 o 3 = gI σ o 3) := Eq.trans (show gI σ55 o 3 = gI σ51 o 3 from (cσ55.O (ko.up (xσ49.trans (xσ50.trans xσ51))) (by decide)).1) kp41
  have kp61 : Kpt (gI σ55 o 4 = gI σ o 4) := Eq.trans (show gI σ55 o 4 = gI σ51 o 4 from (cσ55.O (ko.up (xσ49.trans (xσ50.trans xσ51))) (by decide)).1) kp42
  have kp62 : Kpt (gI σ55 o 6 = gI σ50 o 6) := Eq.trans (show gI σ55 o 6 = gI σ51 o 6 from (cσ55.O (ko.up (xσ49.trans (xσ50.trans xσ51))) (by decide)).1) kp43
  have kp63 : Kpt (gI σ55 o 8 = gI σ o 8) := Eq.trans (show gI σ55 o 8 = gI σ51 o 8 from (cσ55.O (ko.up (xσ49.trans (xσ50.trans xσ51))) (by decide)).1) kp45
  have kp64 : Kpt (gI σ55 o 9 = gI σ o 9) := Eq.trans (show gI σ55 o 9 = gI σ51 o 9 from (cσ55.O (ko.up (xσ49.trans (xσ50.trans xσ51))) (by decide)).1) kp46
  intro σ57 eσ57
  have xσ57 : Ext σ55 σ57 := by rw [eσ57]; exact fun _ h => ⟨h, rfl, rfl⟩
  have iσ57 : IV σ57 pl gq ci gr nc ot LL N nu := by rw [eσ57]; exact iσ55.wSp (ko.up (xσ49.trans (xσ50.trans (xσ51.trans xσ55)))) (fun i hi => by omega) (by decide) (show (-1 : Int) ≤ r56 ∧ r56 ≤ 15 from ⟨by omega, by omega⟩)
  have fσ57 : Fx [323, 326, 327, 328, 333, 334, 335, 336, 386, 387, 388, 389, 390, 6464] gr σ σ57 := fσ55.tr (Sk.fx (by rw [eσ57]; exact Sk.pI (by rw [fcdO (ko.up (xσ49.trans (xσ50.trans (xσ51.trans xσ55)))) (by decide)]; decide)))
  have oxcσ57 : OX o σ σ57 := oxcσ55.tr (by rw [eσ57]; exact OX.pI (ko.up (xσ49.trans (xσ50.trans (xσ51.trans xσ55)))) (Or.inr rfl)) (xσ49.trans (xσ50.trans (xσ51.trans xσ55)))
  have wσ57 : gI σ57 o 8 = r56 := by rw [eσ57]; exact up2_s _ _ _ _
  have kp65 : gP σ57 J 0 = gP σ55 J 0 := by rw [eσ57]
  have kp66 : gP σ57 th 0 = gP σ55 th 0 := by rw [eσ57]
  have kp67 : gP σ57 th 7 = gP σ55 th 7 := by rw [eσ57]
  have kp68 : gP σ57 th 8 = gP σ55 th 8 := by rw [eσ57]
  have kp69 : gI σ57 th 2 = gI σ55 th 2 := by rw [eσ57]; exact up2_n _ _ (fun q => absurd q.2 (by decide))
  have kp70 : gI σ57 th 3 = gI σ55 th 3 := by rw [eσ57]; exact up2_n _ _ (fun q => absurd q.2 (by decide))
  have kp71 : gI σ57 th 5 = gI σ55 th 5 := by rw [eσ57]; exact up2_n _ _ (fun q => absurd q.2 (by decide))
  have kp72 : Kpt (gI σ57 J 7 = gI σ J 7) := Eq.trans (show gI σ57 J 7 = gI σ55 J 7 from by rw [eσ57]; exact up2_n _ _ (fun q => absurd q.2 (by decide))) kp57
  have kp73 : Kpt (gI σ57 J 1 = gI σ J 1) := Eq.trans (show gI σ57 J 1 = gI σ55 J 1 from by rw [eσ57]; exact up2_n _ _ (fun q => absurd q.2 (by decide))) kp58
  have kp74 : Kpt (gI σ57 J 2 = gI σ J 2) := Eq.trans (show gI σ57 J 2 = gI σ55 J 2 from by rw [eσ57]; exact up2_n _ _ (fun q => absurd q.2 (by decide))) kp59
  have kp75 : Kpt (gI σ57 o 3 = gI σ o 3) := Eq.trans (show gI σ57 o 3 = gI σ55 o 3 from by rw [eσ57]; exact up2_n _ _ (fun q => absurd q.2 (by decide))) kp60
  have kp76 : Kpt (gI σ57 o 4 = gI σ o 4) := Eq.trans (show gI σ57 o 4 = gI σ55 o 4 from by rw [eσ57]; exact up2_n _ _ (fun q => absurd q.2 (by decide))) kp61
  have kp77 : Kpt (gI σ57 o 6 = gI σ50 o 6) := Eq.trans (show gI σ57 o 6 = gI σ55 o 6 from by rw [eσ57]; exact up2_n _ _ (fun q => absurd q.2 (by decide))) kp62
  have kp78 : Kpt (gI σ57 o 7 = gI σ50 o 7) := Eq.trans (show gI σ57 o 7 = gI σ55 o 7 from by rw [eσ57]; exact up2_n _ _ (fun q => absurd q.2 (by decide))) kp49
  have kp79 : Kpt (gI σ57 o 9 = gI σ o 9) := Eq.trans (show gI σ57 o 9 = gI σ55 o 9 from by rw [eσ57]; exact up2_n _ _ (fun q => absurd q.2 (by decide))) kp64
  refine ⟨J, (kp67.trans (kp52.trans (kp36.trans (kp23.trans (kp17.trans h7))))), fun kk_J_1 => ?_⟩
  refine ⟨o, (kp68.trans (kp53.trans (kp37.trans (kp24.trans (kp18.trans h8))))), fun kk_o_1 => ?_⟩
  refine ⟨b, (kp65.trans (kp50.trans eb)), fun kk_b_1 => ?_⟩
  have q80 := ((xσ55.trans xσ57) b mb.1).2.2
  refine ⟨⟨by (first | omega | with_reducible assumption | with_reducible exact rng_toInt _ | with_reducible exact rng_wr _ | (unfold rng; omega) | (unfold rng at *; omega) | assumption), by (first | omega | with_reducible assumption | with_reducible exact rng_toInt _ | with_reducible exact rng_wr _ | (unfold rng; omega) | (unfold rng at *; omega) | assumption)⟩, ?_⟩
  obtain ⟨b_1, eb_1⟩ := P_115 iσ51.1 mb (k := (gI σ51 o 7).toNat) (by (first | omega | with_reducible assumption | with_reducible exact rng_toInt _ | with_reducible exact rng_wr _ | (unfold rng; omega) | (unfold rng at *; omega) | assumption))
  have fb_1 := T_115 iσ51.1 mb eb_1
  have mb_1 : kO σ51 b_1 5 := iσ51.1.kd mb rfl eb_1 rfl
  refine ⟨b_1, eb_1, fun kk_b_1_1 => ?_⟩
  obtain ⟨b_2, eb_2⟩ := P_115 iσ57.1 (mb.up (xσ55.trans xσ57)) (k := (gI σ57 o 8).toNat) (by (first | omega | with_reducible assumption | with_reducible exact rng_toInt _ | with_reducible exact rng_wr _ | (unfold rng; omega) | (unfold rng at *; omega) | assumption))
  have fb_2 := T_115 iσ57.1 (mb.up (xσ55.trans xσ57)) eb_2
  have mb_2 : kO σ57 b_2 5 := iσ57.1.kd (mb.up (xσ55.trans xσ57)) rfl eb_2 rfl
  refine i_X5_sharesColumnWith iσ57 (mb_1.up (xσ55.trans xσ57)) eb_2 mb_2 (fun r62 pσ61 => ?_)
  intro xσ61
  have ho81 : gI σ57 J 7 = gI σ J 7 := kp72
  have ho82 : gI σ57 J 1 = gI σ J 1 := kp73
  have ho83 : gI σ57 J 2 = gI σ J 2 := kp74
  have ho84 : gI σ57 o 3 = gI σ o 3 := kp75
  have ho85 : gI σ57 o 4 = gI σ o 4 := kp76
  have ho86 : gI σ57 o 6 = gI σ50 o 6 := kp77
  have ho87 : gI σ57 o 7 = gI σ50 o 7 := kp78
  have ho88 : gI σ57 o 9 = gI σ o 9 := kp79
  have wf : ∀ a, kO σ a 5 → gq a = 16 * q + (gI σ57 o 7).toNat → gI σ a 3 = gI σ57 b_1 3 := fun a ka ga => by have e9 := iσ57.unq (ka.up fσ57.1) (mb_1.up (xσ55.trans xσ57)) rfl rfl (by omega); subst e9; exact (oxcσ57 _ ka (fun e => absurd (congrArg gq e) (by omega)) 3).symm
  have r63 := I_5_3 iσ57.1 (mb_1.up (xσ55.trans xσ57))
  by_cases hc89 : r62 = 0
  · rw [if_pos hc89]
    unfold w_X6_pairText_70
    refine ⟨b_1, eb_1, fun kk_b_1_2 => ?_⟩
    refine ⟨b_2, eb_2, fun kk_b_2 => ?_⟩
    have q90 := I_5_3 iσ57.1 (mb_1.up (xσ55.trans xσ57))
    have q91 := I_5_3 iσ57.1 mb_2
    refine ⟨by (first | omega | with_reducible assumption | with_reducible exact rng_toInt _ | with_reducible exact rng_wr _ | (unfold rng; omega) | (unfold rng at *; omega) | assumption), ?_⟩
    by_cases hc92 : (gI σ57 b_1 3 + gI σ57 b_2 3) ≤ 8
    · rw [if_pos hc92]
      unfold w_X6_pairText_90
      refine ⟨o, (kp68.trans (kp53.trans (kp37.trans (kp24.trans (kp18.trans h8))))), fun kk_o_2 => ?_⟩
      refine i_X5_addColumnsOf iσ57 (ko.up (xσ49.trans (xσ50.trans (xσ51.trans (xσ55.trans xσ57))))) eb_1 (mb_1.up (xσ55.trans xσ57)) (by (first | omega | with_reducible assumption | with_reducible exact rng_toInt _ | with_reducible exact rng_wr _ | (unfold rng; omega) | (unfold rng at *; omega) | assumption)) (by (first | omega | with_reducible assumption | with_reducible exact rng_toInt _ | with_reducible exact rng_wr _ | (unfold rng; omega) | (unfold rng at *; omega) | assumption)) (by (first | omega | with_reducible assumption | with_reducible exact rng_toInt _ | with_reducible exact rng_wr _ | (unfold rng; omega) | (unfold rng at *; omega) | assumption)) (fun e => absurd (congrArg gq e) (by omega)) (fun σ68 _ iσ68 cσ68 oxσ68 pσ68 => ?_)
      intro xσ68
      have fσ68 : Fx [323, 326, 327, 328, 333, 334, 335, 336, 386, 387, 388, 389, 390, 6464] gr σ σ68 := fσ57.tr (cσ68.mo (by decide))
      have oxcσ68 : OX o σ σ68 := oxcσ57.tr oxσ68 (xσ49.trans (xσ50.trans (xσ51.trans (xσ55.trans xσ57))))
      have kp93 : Kpt (gI σ68 o 8 = gI σ57 o 8) := (cσ68.O (ko.up (xσ49.trans (xσ50.trans (xσ51.trans (xσ55.trans xσ57))))) (by decide)).1
      have kp94 : gP σ68 J 0 = gP σ57 J 0 := (cσ68.O (kJ.up (xσ49.trans (xσ50.trans (xσ51.trans (xσ55.trans xσ57))))) (by decide)).2.1
      have kp95 : gP σ68 b (gI σ57 o 8).toNat = gP σ57 b (gI σ57 o 8).toNat := (cσ68.A (mb.up (xσ55.trans xσ57)) (by decide)).2.1
      have kp96 : gP σ68 th 0 = gP σ57 th 0 := (cσ68.O (kth.up (xσ49.trans (xσ50.trans (xσ51.trans (xσ55.trans xσ57))))) (by decide)).2.1
      have kp97 : gP σ68 th 7 = gP σ57 th 7 := (cσ68.O (kth.up (xσ49.trans (xσ50.trans (xσ51.trans (xσ55.trans xσ57))))) (by decide)).2.1
      have kp98 : gP σ68 th 8 = gP σ57 th 8 := (cσ68.O (kth.up (xσ49.trans (xσ50.trans (xσ51.trans (xσ55.trans xσ57))))) (by decide)).2.1
      have kp99 : gI σ68 th 2 = gI σ57 th 2 := (cσ68.O (kth.up (xσ49.trans (xσ50.trans (xσ51.trans (xσ55.trans xσ57))))) (by decide)).1
      have kp100 : gI σ68 th 3 = gI σ57 th 3 := (cσ68.O (kth.up (xσ49.trans (xσ50.trans (xσ51.trans (xσ55.trans xσ57))))) (by decide)).1
      have kp101 : gI σ68 th 5 = gI σ57 th 5 := (cσ68.O (kth.up (xσ49.trans (xσ50.trans (xσ51.trans (xσ55.trans xσ57))))) (by decide)).1
      have kp102 : Kpt (gI σ68 J 7 = gI σ J 7) := Eq.trans (show gI σ68 J 7 = gI σ57 J 7 from (cσ68.O (kJ.up (xσ49.trans (xσ50.trans (xσ51.trans (xσ55.trans xσ57))))) (by decide)).1) kp72
      have kp103 : Kpt (gI σ68 J 1 = gI σ J 1) := Eq.trans (show gI σ68 J 1 = gI σ57 J 1 from (cσ68.O (kJ.up (xσ49.trans (xσ50.trans (xσ51.trans (xσ55.trans xσ57))))) (by decide)).1) kp73
      have kp104 : Kpt (gI σ68 J 2 = gI σ J 2) := Eq.trans (show gI σ68 J 2 = gI σ57 J 2 from (cσ68.O (kJ.up (xσ49.trans (xσ50.trans (xσ51.trans (xσ55.trans xσ57))))) (by decide)).1) kp74
      have kp105 : Kpt (gI σ68 o 4 = gI σ o 4) := Eq.trans (show gI σ68 o 4 = gI σ57 o 4 from (cσ68.O (ko.up (xσ49.trans (xσ50.trans (xσ51.trans (xσ55.trans xσ57))))) (by decide)).1) kp76
      have kp106 : Kpt (gI σ68 o 6 = gI σ50 o 6) := Eq.trans (show gI σ68 o 6 = gI σ57 o 6 from (cσ68.O (ko.up (xσ49.trans (xσ50.trans (xσ51.trans (xσ55.trans xσ57))))) (by decide)).1) kp77
      have kp107 : Kpt (gI σ68 o 7 = gI σ50 o 7) := Eq.trans (show gI σ68 o 7 = gI σ57 o 7 from (cσ68.O (ko.up (xσ49.trans (xσ50.trans (xσ51.trans (xσ55.trans xσ57))))) (by decide)).1) kp78
      have kp108 : Kpt (gI σ68 o 9 = gI σ o 9) := Eq.trans (show gI σ68 o 9 = gI σ57 o 9 from (cσ68.O (ko.up (xσ49.trans (xσ50.trans (xσ51.trans (xσ55.trans xσ57))))) (by decide)).1) kp79
      refine ⟨o, (kp98.trans (kp68.trans (kp53.trans (kp37.trans (kp24.trans (kp18.trans h8)))))), fun kk_o_3 => ?_⟩
      refine i_X5_addColumnsOf iσ68 (ko.up (xσ49.trans (xσ50.trans (xσ51.trans (xσ55.trans (xσ57.trans xσ68)))))) eb_2 (mb_2.up xσ68) (by (first | omega | with_reducible assumption | with_reducible exact rng_toInt _ | with_reducible exact rng_wr _ | (unfold rng; omega) | (unfold rng at *; omega) | assumption)) (by (first | omega | with_reducible assumption | with_reducible exact rng_toInt _ | with_reducible exact rng_wr _ | (unfold rng; omega) | (unfold rng at *; omega) | assumption)) (by (first | omega | with_reducible assumption | with_reducible exact rng_toInt _ | with_reducible exact rng_wr _ | (unfold rng; omega) | (unfold rng at *; omega) | assumption)) (fun e => absurd (congrArg gq e) (by omega)) (fun σ70 _ iσ70 cσ70 oxσ70 pσ70 => ?_)
      intro xσ70
      have fσ70 : Fx [323, 326, 327, 328, 333, 334, 335, 336, 386, 387, 388, 389, 390, 6464] gr σ σ70 := fσ68.tr (cσ70.mo (by decide))
      have oxcσ70 : OX o σ σ70 := oxcσ68.tr oxσ70 (xσ49.trans (xσ50.trans (xσ51.trans (xσ55.trans (xσ57.trans xσ68)))))
      have kp109 : gP σ70 J 0 = gP σ68 J 0 := (cσ70.O (kJ.up (xσ49.trans (xσ50.trans (xσ51.trans (xσ55.trans (xσ57.trans xσ68)))))) (by decide)).2.1
      have kp110 : gP σ70 b (gI σ57 o 8).toNat = gP σ68 b (gI σ57 o 8).toNat := (cσ70.A (mb.up (xσ55.trans (xσ57.trans xσ68))) (by decide)).2.1
      have kp111 : gP σ70 th 0 = gP σ68 th 0 := (cσ70.O (kth.up (xσ49.trans (xσ50.trans (xσ51.trans (xσ55.trans (xσ57.trans xσ68)))))) (by decide)).2.1
      have kp112 : gP σ70 th 7 = gP σ68 th 7 := (cσ70.O (kth.up (xσ49.trans (xσ50.trans (xσ51.trans (xσ55.trans (xσ57.trans xσ68)))))) (by decide)).2.1
      have kp113 : gP σ70 th 8 = gP σ68 th 8 := (cσ70.O (kth.up (xσ49.trans (xσ50.trans (xσ51.trans (xσ55.trans (xσ57.trans xσ68)))))) (by decide)).2.1
      have kp114 : gI σ70 th 2 = gI σ68 th 2 := (cσ70.O (kth.up (xσ49.trans (xσ50.trans (xσ51.trans (xσ55.trans (xσ57.trans xσ68)))))) (by decide)).1
      have kp115 : gI σ70 th 3 = gI σ68 th 3 := (cσ70.O (kth.up (xσ49.trans (xσ50.trans (xσ51.trans (xσ55.trans (xσ57.trans xσ68)))))) (by decide)).1
      have kp116 : gI σ70 th 5 = gI σ68 th 5 := (cσ70.O (kth.up (xσ49.trans (xσ50.trans (xσ51.trans (xσ55.trans (xσ57.trans xσ68)))))) (by decide)).1
      have kp117 : Kpt (gI σ70 J 7 = gI σ J 7) := Eq.trans (show gI σ70 J 7 = gI σ68 J 7 from (cσ70.O (kJ.up (xσ49.trans (xσ50.trans (xσ51.trans (xσ55.trans (xσ57.trans xσ68)))))) (by decide)).1) kp102
      have kp118 : Kpt (gI σ70 J 1 = gI σ J 1) := Eq.trans (show gI σ70 J 1 = gI σ68 J 1 from (cσ70.O (kJ.up (xσ49.trans (xσ50.trans (xσ51.trans (xσ55.trans (xσ57.trans xσ68)))))) (by decide)).1) kp103
      have kp119 : Kpt (gI σ70 J 2 = gI σ J 2) := Eq.trans (show gI σ70 J 2 = gI σ68 J 2 from (cσ70.O (kJ.up (xσ49.trans (xσ50.trans (xσ51.trans (xσ55.trans (xσ57.trans xσ68)))))) (by decide)).1) kp104
      have kp120 : Kpt (gI σ70 o 4 = gI σ o 4) := Eq.trans (show gI σ70 o 4 = gI σ68 o 4 from (cσ70.O (ko.up (xσ49.trans (xσ50.trans (xσ51.trans (xσ55.trans (xσ57.trans xσ68)))))) (by decide)).1) kp105
      have kp121 : Kpt (gI σ70 o 6 = gI σ50 o 6) := Eq.trans (show gI σ70 o 6 = gI σ68 o 6 from (cσ70.O (ko.up (xσ49.trans (xσ50.trans (xσ51.trans (xσ55.trans (xσ57.trans xσ68)))))) (by decide)).1) kp106
      have kp122 : Kpt (gI σ70 o 7 = gI σ50 o 7) := Eq.trans (show gI σ70 o 7 = gI σ68 o 7 from (cσ70.O (ko.up (xσ49.trans (xσ50.trans (xσ51.trans (xσ55.trans (xσ57.trans xσ68)))))) (by decide)).1) kp107
      have kp123 : Kpt (gI σ70 o 8 = gI σ57 o 8) := Eq.trans (show gI σ70 o 8 = gI σ68 o 8 from (cσ70.O (ko.up (xσ49.trans (xσ50.trans (xσ51.trans (xσ55.trans (xσ57.trans xσ68)))))) (by decide)).1) kp93
      have kp124 : Kpt (gI σ70 o 9 = gI σ o 9) := Eq.trans (show gI σ70 o 9 = gI σ68 o 9 from (cσ70.O (ko.up (xσ49.trans (xσ50.trans (xσ51.trans (xσ55.trans (xσ57.trans xσ68)))))) (by decide)).1) kp108
      refine i_X6_next iσ70 (kth.up (xσ49.trans (xσ50.trans (xσ51.trans (xσ55.trans (xσ57.trans (xσ68.trans xσ70))))))) (kp111.trans (kp96.trans (kp66.trans (kp51.trans (kp35.trans (kp22.trans (kp16.trans hX0))))))) (kX.up (xσ49.trans (xσ50.trans (xσ51.trans (xσ55.trans (xσ57.trans (xσ68.trans xσ70))))))) (((xσ49.trans (xσ50.trans (xσ51.trans (xσ55.trans (xσ57.trans (xσ68.trans xσ70)))))) tx kX.1).2.2.trans gX) (by (first | omega | with_reducible assumption | with_reducible exact rng_toInt _ | with_reducible exact rng_wr _ | (unfold rng; omega) | (unfold rng at *; omega) | assumption)) (by (first | omega | with_reducible assumption | with_reducible exact rng_toInt _ | with_reducible exact rng_wr _ | (unfold rng; omega) | (unfold rng at *; omega) | assumption)) (fun σ72 _ iσ72 cσ72 pσ72 => ?_) (fun σx LLx Nx nux E ix cx ux px => hX σx LLx Nx nux E ix (fσ70.tr (cx.mo (by decide))) (ux) (by first | exact px | exact ⟨by have := px.1; omega, px.2⟩ | (first | omega | with_reducible assumption | with_reducible exact rng_toInt _ | with_reducible exact rng_wr _ | (unfold rng; omega) | (unfold rng at *; omega) | assumption)))
      intro xσ72
      have fσ72 : Fx [323, 326, 327, 328, 333, 334, 335, 336, 386, 387, 388, 389, 390, 6464] gr σ σ72 := fσ70.tr (cσ72.mo (by decide))
      have oxcσ72 : OX o σ σ72 := oxcσ70.tr (OX.fx cσ72 (by decide) (by decide)) (xσ49.trans (xσ50.trans (xσ51.trans (xσ55.trans (xσ57.trans (xσ68.trans xσ70))))))
      have kp125 : gP σ72 J 0 = gP σ70 J 0 := (cσ72.O (kJ.up (xσ49.trans (xσ50.trans (xσ51.trans (xσ55.trans (xσ57.trans (xσ68.trans xσ70))))))) (by decide)).2.1
      have kp126 : gP σ72 b (gI σ57 o 8).toNat = gP σ70 b (gI σ57 o 8).toNat := (cσ72.A (mb.up (xσ55.trans (xσ57.trans (xσ68.trans xσ70)))) (by decide)).2.1
      have kp127 : gP σ72 th 0 = gP σ70 th 0 := (cσ72.O (kth.up (xσ49.trans (xσ50.trans (xσ51.trans (xσ55.trans (xσ57.trans (xσ68.trans xσ70))))))) (by decide)).2.1
      have kp128 : gP σ72 th 7 = gP σ70 th 7 := (cσ72.O (kth.up (xσ49.trans (xσ50.trans (xσ51.trans (xσ55.trans (xσ57.trans (xσ68.trans xσ70))))))) (by decide)).2.1
      have kp129 : gP σ72 th 8 = gP σ70 th 8 := (cσ72.O (kth.up (xσ49.trans (xσ50.trans (xσ51.trans (xσ55.trans (xσ57.trans (xσ68.trans xσ70))))))) (by decide)).2.1
      have kp130 : Kpt (gI σ72 J 7 = gI σ J 7) := Eq.trans (show gI σ72 J 7 = gI σ70 J 7 from (cσ72.O (kJ.up (xσ49.trans (xσ50.trans (xσ51.trans (xσ55.trans (xσ57.trans (xσ68.trans xσ70))))))) (by decide)).1) kp117
      have kp131 : Kpt (gI σ72 J 1 = gI σ J 1) := Eq.trans (show gI σ72 J 1 = gI σ70 J 1 from (cσ72.O (kJ.up (xσ49.trans (xσ50.trans (xσ51.trans (xσ55.trans (xσ57.trans (xσ68.trans xσ70))))))) (by decide)).1) kp118
      have kp132 : Kpt (gI σ72 J 2 = gI σ J 2) := Eq.trans (show gI σ72 J 2 = gI σ70 J 2 from (cσ72.O (kJ.up (xσ49.trans (xσ50.trans (xσ51.trans (xσ55.trans (xσ57.trans (xσ68.trans xσ70))))))) (by decide)).1) kp119
      have kp133 : Kpt (gI σ72 o 3 = gI σ70 o 3) := (cσ72.O (ko.up (xσ49.trans (xσ50.trans (xσ51.trans (xσ55.trans (xσ57.trans (xσ68.trans xσ70))))))) (by decide)).1
      have kp134 : Kpt (gI σ72 o 4 = gI σ o 4) := Eq.trans (show gI σ72 o 4 = gI σ70 o 4 from (cσ72.O (ko.up (xσ49.trans (xσ50.trans (xσ51.trans (xσ55.trans (xσ57.trans (xσ68.trans xσ70))))))) (by decide)).1) kp120
      have kp135 : Kpt (gI σ72 o 6 = gI σ50 o 6) := Eq.trans (show gI σ72 o 6 = gI σ70 o 6 from (cσ72.O (ko.up (xσ49.trans (xσ50.trans (xσ51.trans (xσ55.trans (xσ57.trans (xσ68.trans xσ70))))))) (by decide)).1) kp121
      have kp136 : Kpt (gI σ72 o 7 = gI σ50 o 7) := Eq.trans (show gI σ72 o 7 = gI σ70 o 7 from (cσ72.O (ko.up (xσ49.trans (xσ50.trans (xσ51.trans (xσ55.trans (xσ57.trans (xσ68.trans xσ70))))))) (by decide)).1) kp122
      have kp137 : Kpt (gI σ72 o 8 = gI σ57 o 8) := Eq.trans (show gI σ72 o 8 = gI σ70 o 8 from (cσ72.O (ko.up (xσ49.trans (xσ50.trans (xσ51.trans (xσ55.trans (xσ57.trans (xσ68.trans xσ70))))))) (by decide)).1) kp123
      have kp138 : Kpt (gI σ72 o 9 = gI σ o 9) := Eq.trans (show gI σ72 o 9 = gI σ70 o 9 from (cσ72.O (ko.up (xσ49.trans (xσ50.trans (xσ51.trans (xσ55.trans (xσ57.trans (xσ68.trans xσ70))))))) (by decide)).1) kp124
      have r5σ72 := I_6_5 iσ72.1 (kth.up (xσ49.trans (xσ50.trans (xσ51.trans (xσ55.trans (xσ57.trans (xσ68.trans (xσ70.trans xσ72))))))))
      refine i_X6_wantWord iσ72 (kth.up (xσ49.trans (xσ50.trans (xσ51.trans (xσ55.trans (xσ57.trans (xσ68.trans (xσ70.trans xσ72)))))))) (kp127.trans (kp111.trans (kp96.trans (kp66.trans (kp51.trans (kp35.trans (kp22.trans (kp16.trans hX0)))))))) (kX.up (xσ49.trans (xσ50.trans (xσ51.trans (xσ55.trans (xσ57.trans (xσ68.trans (xσ70.trans xσ72)))))))) (((xσ49.trans (xσ50.trans (xσ51.trans (xσ55.trans (xσ57.trans (xσ68.trans (xσ70.trans xσ72))))))) tx kX.1).2.2.trans gX) (by (first | omega | with_reducible assumption | with_reducible exact rng_toInt _ | with_reducible exact rng_wr _ | (unfold rng; omega) | (unfold rng at *; omega) | assumption)) (by (first | omega | with_reducible assumption | with_reducible exact rng_toInt _ | with_reducible exact rng_wr _ | (unfold rng; omega) | (unfold rng at *; omega) | assumption)) (fun σ73 _ iσ73 cσ73 pσ73 => ?_) (fun σx LLx Nx nux E ix cx ux px => hX σx LLx Nx nux E ix (fσ72.tr (cx.mo (by decide))) (ux) (by first | exact px | exact ⟨by have := px.1; omega, px.2⟩ | (first | omega | with_reducible assumption | with_reducible exact rng_toInt _ | with_reducible exact rng_wr _ | (unfold rng; omega) | (unfold rng at *; omega) | assumption)))
      intro xσ73
      have fσ73 : Fx [323, 326, 327, 328, 333, 334, 335, 336, 386, 387, 388, 389, 390, 6464] gr σ σ73 := fσ72.tr (cσ73.mo (by decide))
      have oxcσ73 : OX o σ σ73 := oxcσ72.tr (OX.fx cσ73 (by decide) (by decide)) (xσ49.trans (xσ50.trans (xσ51.trans (xσ55.trans (xσ57.trans (xσ68.trans (xσ70.trans xσ72)))))))
      have kp139 : gP σ73 J 0 = gP σ72 J 0 := (cσ73.O (kJ.up (xσ49.trans (xσ50.trans (xσ51.trans (xσ55.trans (xσ57.trans (xσ68.trans (xσ70.trans xσ72)))))))) (by decide)).2.1
      have kp140 : gP σ73 b (gI σ57 o 8).toNat = gP σ72 b (gI σ57 o 8).toNat := (cσ73.A (mb.up (xσ55.trans (xσ57.trans (xσ68.trans (xσ70.trans xσ72))))) (by decide)).2.1
      have kp141 : gP σ73 th 0 = gP σ72 th 0 := (cσ73.O (kth.up (xσ49.trans (xσ50.trans (xσ51.trans (xσ55.trans (xσ57.trans (xσ68.trans (xσ70.trans xσ72)))))))) (by decide)).2.1
      have kp142 : gP σ73 th 7 = gP σ72 th 7 := (cσ73.O (kth.up (xσ49.trans (xσ50.trans (xσ51.trans (xσ55.trans (xσ57.trans (xσ68.trans (xσ70.trans xσ72)))))))) (by decide)).2.1
      have kp143 : gP σ73 th 8 = gP σ72 th 8 := (cσ73.O (kth.up (xσ49.trans (xσ50.trans (xσ51.trans (xσ55.trans (xσ57.trans (xσ68.trans (xσ70.trans xσ72)))))))) (by decide)).2.1
      have kp144 : Kpt (gI σ73 J 7 = gI σ J 7) := Eq.trans (show gI σ73 J 7 = gI σ72 J 7 from (cσ73.O (kJ.up (xσ49.trans (xσ50.trans (xσ51.trans (xσ55.trans (xσ57.trans (xσ68.trans (xσ70.trans xσ72)))))))) (by decide)).1) kp130
      have kp145 : Kpt (gI σ73 J 1 = gI σ J 1) := Eq.trans (show gI σ73 J 1 = gI σ72 J 1 from (cσ73.O (kJ.up (xσ49.trans (xσ50.trans (xσ51.trans (xσ55.trans (xσ57.trans (xσ68.trans (xσ70.trans xσ72)))))))) (by decide)).1) kp131
      have kp146 : Kpt (gI σ73 J 2 = gI σ J 2) := Eq.trans (show gI σ73 J 2 = gI σ72 J 2 from (cσ73.O (kJ.up (xσ49.trans (xσ50.trans (xσ51.trans (xσ55.trans (xσ57.trans (xσ68.trans (xσ70.trans xσ72)))))))) (by decide)).1) kp132
      have kp147 : Kpt (gI σ73 o 3 = gI σ70 o 3) := Eq.trans (show gI σ73 o 3 = gI σ72 o 3 from (cσ73.O (ko.up (xσ49.trans (xσ50.trans (xσ51.trans (xσ55.trans (xσ57.trans (xσ68.trans (xσ70.trans xσ72)))))))) (by decide)).1) kp133
      have kp148 : Kpt (gI σ73 o 4 = gI σ o 4) := Eq.trans (show gI σ73 o 4 = gI σ72 o 4 from (cσ73.O (ko.up (xσ49.trans (xσ50.trans (xσ51.trans (xσ55.trans (xσ57.trans (xσ68.trans (xσ70.trans xσ72)))))))) (by decide)).1) kp134
      have kp149 : Kpt (gI σ73 o 6 = gI σ50 o 6) := Eq.trans (show gI σ73 o 6 = gI σ72 o 6 from (cσ73.O (ko.up (xσ49.trans (xσ50.trans (xσ51.trans (xσ55.trans (xσ57.trans (xσ68.trans (xσ70.trans xσ72)))))))) (by decide)).1) kp135
      have kp150 : Kpt (gI σ73 o 7 = gI σ50 o 7) := Eq.trans (show gI σ73 o 7 = gI σ72 o 7 from (cσ73.O (ko.up (xσ49.trans (xσ50.trans (xσ51.trans (xσ55.trans (xσ57.trans (xσ68.trans (xσ70.trans xσ72)))))))) (by decide)).1) kp136
      have kp151 : Kpt (gI σ73 o 8 = gI σ57 o 8) := Eq.trans (show gI σ73 o 8 = gI σ72 o 8 from (cσ73.O (ko.up (xσ49.trans (xσ50.trans (xσ51.trans (xσ55.trans (xσ57.trans (xσ68.trans (xσ70.trans xσ72)))))))) (by decide)).1) kp137
      have kp152 : Kpt (gI σ73 o 9 = gI σ o 9) := Eq.trans (show gI σ73 o 9 = gI σ72 o 9 from (cσ73.O (ko.up (xσ49.trans (xσ50.trans (xσ51.trans (xσ55.trans (xσ57.trans (xσ68.trans (xσ70.trans xσ72)))))))) (by decide)).1) kp138
      have r5σ73 := I_6_5 iσ73.1 (kth.up (xσ49.trans (xσ50.trans (xσ51.trans (xσ55.trans (xσ57.trans (xσ68.trans (xσ70.trans (xσ72.trans xσ73)))))))))
      refine i_X6_column iσ73 (kth.up (xσ49.trans (xσ50.trans (xσ51.trans (xσ55.trans (xσ57.trans (xσ68.trans (xσ70.trans (xσ72.trans xσ73))))))))) eb_1 (mb_1.up (xσ55.trans (xσ57.trans (xσ68.trans (xσ70.trans (xσ72.trans xσ73)))))) (by (first | omega | with_reducible assumption | with_reducible exact rng_toInt _ | with_reducible exact rng_wr _ | (unfold rng; omega) | (unfold rng at *; omega) | assumption)) (fun σ74 r75 iσ74 cσ74 pσ74 => ?_) (fun σx LLx Nx nux E ix cx ux px => hX σx LLx Nx nux E ix (fσ73.tr (cx.mo (by decide))) (ux) (by first | exact px | exact ⟨by have := px.1; omega, px.2⟩ | (first | omega | with_reducible assumption | with_reducible exact rng_toInt _ | with_reducible exact rng_wr _ | (unfold rng; omega) | (unfold rng at *; omega) | assumption)))
      intro xσ74
      have fσ74 : Fx [323, 326, 327, 328, 333, 334, 335, 336, 386, 387, 388, 389, 390, 6464] gr σ σ74 := fσ73.tr (cσ74.mo (by decide))
      have oxcσ74 : OX o σ σ74 := oxcσ73.tr (OX.fx cσ74 (by decide) (by decide)) (xσ49.trans (xσ50.trans (xσ51.trans (xσ55.trans (xσ57.trans (xσ68.trans (xσ70.trans (xσ72.trans xσ73))))))))
      have kp153 : gP σ74 J 0 = gP σ73 J 0 := (cσ74.O (kJ.up (xσ49.trans (xσ50.trans (xσ51.trans (xσ55.trans (xσ57.trans (xσ68.trans (xσ70.trans (xσ72.trans xσ73))))))))) (by decide)).2.1
      have kp154 : gP σ74 b (gI σ57 o 8).toNat = gP σ73 b (gI σ57 o 8).toNat := (cσ74.A (mb.up (xσ55.trans (xσ57.trans (xσ68.trans (xσ70.trans (xσ72.trans xσ73)))))) (by decide)).2.1
      have kp155 : gP σ74 th 0 = gP σ73 th 0 := (cσ74.O (kth.up (xσ49.trans (xσ50.trans (xσ51.trans (xσ55.trans (xσ57.trans (xσ68.trans (xσ70.trans (xσ72.trans xσ73))))))))) (by decide)).2.1
      have kp156 : gP σ74 th 7 = gP σ73 th 7 := (cσ74.O (kth.up (xσ49.trans (xσ50.trans (xσ51.trans (xσ55.trans (xσ57.trans (xσ68.trans (xσ70.trans (xσ72.trans xσ73))))))))) (by decide)).2.1
      have kp157 : gP σ74 th 8 = gP σ73 th 8 := (cσ74.O (kth.up (xσ49.trans (xσ50.trans (xσ51.trans (xσ55.trans (xσ57.trans (xσ68.trans (xσ70.trans (xσ72.trans xσ73))))))))) (by decide)).2.1
      have kp158 : gI σ74 th 2 = gI σ73 th 2 := (cσ74.O (kth.up (xσ49.trans (xσ50.trans (xσ51.trans (xσ55.trans (xσ57.trans (xσ68.trans (xσ70.trans (xσ72.trans xσ73))))))))) (by decide)).1
      have kp159 : gI σ74 th 3 = gI σ73 th 3 := (cσ74.O (kth.up (xσ49.trans (xσ50.trans (xσ51.trans (xσ55.trans (xσ57.trans (xσ68.trans (xσ70.trans (xσ72.trans xσ73))))))))) (by decide)).1
      have kp160 : gI σ74 th 5 = gI σ73 th 5 := (cσ74.O (kth.up (xσ49.trans (xσ50.trans (xσ51.trans (xσ55.trans (xσ57.trans (xσ68.trans (xσ70.trans (xσ72.trans xσ73))))))))) (by decide)).1
      have kp161 : Kpt (gI σ74 J 7 = gI σ J 7) := Eq.trans (show gI σ74 J 7 = gI σ73 J 7 from (cσ74.O (kJ.up (xσ49.trans (xσ50.trans (xσ51.trans (xσ55.trans (xσ57.trans (xσ68.trans (xσ70.trans (xσ72.trans xσ73))))))))) (by decide)).1) kp144
      have kp162 : Kpt (gI σ74 J 1 = gI σ J 1) := Eq.trans (show gI σ74 J 1 = gI σ73 J 1 from (cσ74.O (kJ.up (xσ49.trans (xσ50.trans (xσ51.trans (xσ55.trans (xσ57.trans (xσ68.trans (xσ70.trans (xσ72.trans xσ73))))))))) (by decide)).1) kp145
      have kp163 : Kpt (gI σ74 J 2 = gI σ J 2) := Eq.trans (show gI σ74 J 2 = gI σ73 J 2 from (cσ74.O (kJ.up (xσ49.trans (xσ50.trans (xσ51.trans (xσ55.trans (xσ57.trans (xσ68.trans (xσ70.trans (xσ72.trans xσ73))))))))) (by decide)).1) kp146
      have kp164 : Kpt (gI σ74 o 3 = gI σ70 o 3) := Eq.trans (show gI σ74 o 3 = gI σ73 o 3 from (cσ74.O (ko.up (xσ49.trans (xσ50.trans (xσ51.trans (xσ55.trans (xσ57.trans (xσ68.trans (xσ70.trans (xσ72.trans xσ73))))))))) (by decide)).1) kp147
      have kp165 : Kpt (gI σ74 o 4 = gI σ o 4) := Eq.trans (show gI σ74 o 4 = gI σ73 o 4 from (cσ74.O (ko.up (xσ49.trans (xσ50.trans (xσ51.trans (xσ55.trans (xσ57.trans (xσ68.trans (xσ70.trans (xσ72.trans xσ73))))))))) (by decide)).1) kp148
      have kp166 : Kpt (gI σ74 o 6 = gI σ50 o 6) := Eq.trans (show gI σ74 o 6 = gI σ73 o 6 from (cσ74.O (ko.up (xσ49.trans (xσ50.trans (xσ51.trans (xσ55.trans (xσ57.trans (xσ68.trans (xσ70.trans (xσ72.trans xσ73))))))))) (by decide)).1) kp149
      have kp167 : Kpt (gI σ74 o 7 = gI σ50 o 7) := Eq.trans (show gI σ74 o 7 = gI σ73 o 7 from (cσ74.O (ko.up (xσ49.trans (xσ50.trans (xσ51.trans (xσ55.trans (xσ57.trans (xσ68.trans (xσ70.trans (xσ72.trans xσ73))))))))) (by decide)).1) kp150
      have kp168 : Kpt (gI σ74 o 8 = gI σ57 o 8) := Eq.trans (show gI σ74 o 8 = gI σ73 o 8 from (cσ74.O (ko.up (xσ49.trans (xσ50.trans (xσ51.trans (xσ55.trans (xσ57.trans (xσ68.trans (xσ70.trans (xσ72.trans xσ73))))))))) (by decide)).1) kp151
      have kp169 : Kpt (gI σ74 o 9 = gI σ o 9) := Eq.trans (show gI σ74 o 9 = gI σ73 o 9 from (cσ74.O (ko.up (xσ49.trans (xσ50.trans (xσ51.trans (xσ55.trans (xσ57.trans (xσ68.trans (xσ70.trans (xσ72.trans xσ73))))))))) (by decide)).1) kp152
      refine ⟨o, (kp143.trans (kp129.trans (kp113.trans (kp98.trans (kp68.trans (kp53.trans (kp37.trans (kp24.trans (kp18.trans h8))))))))), fun kk_o_4 => ?_⟩
      intro σ77 eσ77
      have xσ77 : Ext σ74 σ77 := by rw [eσ77]; exact fun _ h => ⟨h, rfl, rfl⟩
      have iσ77 : IV σ77 pl gq ci gr nc ot LL N nu := by rw [eσ77]; exact iσ74.wSp (ko.up (xσ49.trans (xσ50.trans (xσ51.trans (xσ55.trans (xσ57.trans (xσ68.trans (xσ70.trans (xσ72.trans (xσ73.trans xσ74)))))))))) (fun i hi => by omega) (by decide) (show (0 : Int) ≤ r75 ∧ r75 ≤ 7 from ⟨by omega, by omega⟩)
      have fσ77 : Fx [323, 326, 327, 328, 333, 334, 335, 336, 386, 387, 388, 389, 390, 6464] gr σ σ77 := fσ74.tr (Sk.fx (by rw [eσ77]; exact Sk.pI (by rw [fcdO (ko.up (xσ49.trans (xσ50.trans (xσ51.trans (xσ55.trans (xσ57.trans (xσ68.trans (xσ70.trans (xσ72.trans (xσ73.trans xσ74)))))))))) (by decide)]; decide)))
      have oxcσ77 : OX o σ σ77 := oxcσ74.tr (by rw [eσ77]; exact OX.pI (ko.up (xσ49.trans (xσ50.trans (xσ51.trans (xσ55.trans (xσ57.trans (xσ68.trans (xσ70.trans (xσ72.trans (xσ73.trans xσ74)))))))))) (Or.inr rfl)) (xσ49.trans (xσ50.trans (xσ51.trans (xσ55.trans (xσ57.trans (xσ68.trans (xσ70.trans (xσ72.trans (xσ73.trans xσ74)))))))))
      have wσ77 : gI σ77 o 13 = r75 := by rw [eσ77]; exact up2_s _ _ _ _
      have kp170 : gP σ77 J 0 = gP σ74 J 0 := by rw [eσ77]
      have kp171 : gP σ77 b (gI σ57 o 8).toNat = gP σ74 b (gI σ57 o 8).toNat := by rw [eσ77]
      have kp172 : gP σ77 th 0 = gP σ74 th 0 := by rw [eσ77]
      have kp173 : gP σ77 th 7 = gP σ74 th 7 := by rw [eσ77]
      have kp174 : gP σ77 th 8 = gP σ74 th 8 := by rw [eσ77]
      have kp175 : gI σ77 th 2 = gI σ74 th 2 := by rw [eσ77]; exact up2_n _ _ (fun q => absurd q.2 (by decide))
      have kp176 : gI σ77 th 3 = gI σ74 th 3 := by rw [eσ77]; exact up2_n _ _ (fun q => absurd q.2 (by decide))
      have kp177 : gI σ77 th 5 = gI σ74 th 5 := by rw [eσ77]; exact up2_n _ _ (fun q => absurd q.2 (by decide))
      have kp178 : Kpt (gI σ77 J 7 = gI σ J 7) := Eq.trans (show gI σ77 J 7 = gI σ74 J 7 from by rw [eσ77]; exact up2_n _ _ (fun q => absurd q.2 (by decide))) kp161
      have kp179 : Kpt (gI σ77 J 1 = gI σ J 1) := Eq.trans (show gI σ77 J 1 = gI σ74 J 1 from by rw [eσ77]; exact up2_n _ _ (fun q => absurd q.2 (by decide))) kp162
      have kp180 : Kpt (gI σ77 J 2 = gI σ J 2) := Eq.trans (show gI σ77 J 2 = gI σ74 J 2 from by rw [eσ77]; exact up2_n _ _ (fun q => absurd q.2 (by decide))) kp163
      have kp181 : Kpt (gI σ77 o 3 = gI σ70 o 3) := Eq.trans (show gI σ77 o 3 = gI σ74 o 3 from by rw [eσ77]; exact up2_n _ _ (fun q => absurd q.2 (by decide))) kp164
      have kp182 : Kpt (gI σ77 o 4 = gI σ o 4) := Eq.trans (show gI σ77 o 4 = gI σ74 o 4 from by rw [eσ77]; exact up2_n _ _ (fun q => absurd q.2 (by decide))) kp165
      have kp183 : Kpt (gI σ77 o 6 = gI σ50 o 6) := Eq.trans (show gI σ77 o 6 = gI σ74 o 6 from by rw [eσ77]; exact up2_n _ _ (fun q => absurd q.2 (by decide))) kp166
      have kp184 : Kpt (gI σ77 o 7 = gI σ50 o 7) := Eq.trans (show gI σ77 o 7 = gI σ74 o 7 from by rw [eσ77]; exact up2_n _ _ (fun q => absurd q.2 (by decide))) kp167
      have kp185 : Kpt (gI σ77 o 8 = gI σ57 o 8) := Eq.trans (show gI σ77 o 8 = gI σ74 o 8 from by rw [eσ77]; exact up2_n _ _ (fun q => absurd q.2 (by decide))) kp168
      have kp186 : Kpt (gI σ77 o 9 = gI σ o 9) := Eq.trans (show gI σ77 o 9 = gI σ74 o 9 from by rw [eσ77]; exact up2_n _ _ (fun q => absurd q.2 (by decide))) kp169
      refine i_X6_next iσ77 (kth.up (xσ49.trans (xσ50.trans (xσ51.trans (xσ55.trans (xσ57.trans (xσ68.trans (xσ70.trans (xσ72.trans (xσ73.trans (xσ74.trans xσ77))))))))))) (kp172.trans (kp155.trans (kp141.trans (kp127.trans (kp111.trans (kp96.trans (kp66.trans (kp51.trans (kp35.trans (kp22.trans (kp16.trans hX0))))))))))) (kX.up (xσ49.trans (xσ50.trans (xσ51.trans (xσ55.trans (xσ57.trans (xσ68.trans (xσ70.trans (xσ72.trans (xσ73.trans (xσ74.trans xσ77))))))))))) (((xσ49.trans (xσ50.trans (xσ51.trans (xσ55.trans (xσ57.trans (xσ68.trans (xσ70.trans (xσ72.trans (xσ73.trans (xσ74.trans xσ77)))))))))) tx kX.1).2.2.trans gX) (by (first | omega | with_reducible assumption | with_reducible exact rng_toInt _ | with_reducible exact rng_wr _ | (unfold rng; omega) | (unfold rng at *; omega) | assumption)) (by (first | omega | with_reducible assumption | with_reducible exact rng_toInt _ | with_reducible exact rng_wr _ | (unfold rng; omega) | (unfold rng at *; omega) | assumption)) (fun σ78 _ iσ78 cσ78 pσ78 => ?_) (fun σx LLx Nx nux E ix cx ux px => hX σx LLx Nx nux E ix (fσ77.tr (cx.mo (by decide))) (ux) (by first | exact px | exact ⟨by have := px.1; omega, px.2⟩ | (first | omega | with_reducible assumption | with_reducible exact rng_toInt _ | with_reducible exact rng_wr _ | (unfold rng; omega) | (unfold rng at *; omega) | assumption)))
      intro xσ78
      have fσ78 : Fx [323, 326, 327, 328, 333, 334, 335, 336, 386, 387, 388, 389, 390, 6464] gr σ σ78 := fσ77.tr (cσ78.mo (by decide))
      have oxcσ78 : OX o σ σ78 := oxcσ77.tr (OX.fx cσ78 (by decide) (by decide)) (xσ49.trans (xσ50.trans (xσ51.trans (xσ55.trans (xσ57.trans (xσ68.trans (xσ70.trans (xσ72.trans (xσ73.trans (xσ74.trans xσ77))))))))))
      have kp187 : gI σ78 o 13 = gI σ77 o 13 := (cσ78.O (ko.up (xσ49.trans (xσ50.trans (xσ51.trans (xσ55.trans (xσ57.trans (xσ68.trans (xσ70.trans (xσ72.trans (xσ73.trans (xσ74.trans xσ77))))))))))) (by decide)).1
      have kp188 : gP σ78 J 0 = gP σ77 J 0 := (cσ78.O (kJ.up (xσ49.trans (xσ50.trans (xσ51.trans (xσ55.trans (xσ57.trans (xσ68.trans (xσ70.trans (xσ72.trans (xσ73.trans (xσ74.trans xσ77))))))))))) (by decide)).2.1
      have kp189 : gP σ78 b (gI σ57 o 8).toNat = gP σ77 b (gI σ57 o 8).toNat := (cσ78.A (mb.up (xσ55.trans (xσ57.trans (xσ68.trans (xσ70.trans (xσ72.trans (xσ73.trans (xσ74.trans xσ77)))))))) (by decide)).2.1
      have kp190 : gP σ78 th 0 = gP σ77 th 0 := (cσ78.O (kth.up (xσ49.trans (xσ50.trans (xσ51.trans (xσ55.trans (xσ57.trans (xσ68.trans (xσ70.trans (xσ72.trans (xσ73.trans (xσ74.trans xσ77))))))))))) (by decide)).2.1
      have kp191 : gP σ78 th 7 = gP σ77 th 7 := (cσ78.O (kth.up (xσ49.trans (xσ50.trans (xσ51.trans (xσ55.trans (xσ57.trans (xσ68.trans (xσ70.trans (xσ72.trans (xσ73.trans (xσ74.trans xσ77))))))))))) (by decide)).2.1
      have kp192 : gP σ78 th 8 = gP σ77 th 8 := (cσ78.O (kth.up (xσ49.trans (xσ50.trans (xσ51.trans (xσ55.trans (xσ57.trans (xσ68.trans (xσ70.trans (xσ72.trans (xσ73.trans (xσ74.trans xσ77))))))))))) (by decide)).2.1
      have kp193 : Kpt (gI σ78 J 7 = gI σ J 7) := Eq.trans (show gI σ78 J 7 = gI σ77 J 7 from (cσ78.O (kJ.up (xσ49.trans (xσ50.trans (xσ51.trans (xσ55.trans (xσ57.trans (xσ68.trans (xσ70.trans (xσ72.trans (xσ73.trans (xσ74.trans xσ77))))))))))) (by decide)).1) kp178
      have kp194 : Kpt (gI σ78 J 1 = gI σ J 1) := Eq.trans (show gI σ78 J 1 = gI σ77 J 1 from (cσ78.O (kJ.up (xσ49.trans (xσ50.trans (xσ51.trans (xσ55.trans (xσ57.trans (xσ68.trans (xσ70.trans (xσ72.trans (xσ73.trans (xσ74.trans xσ77))))))))))) (by decide)).1) kp179
      have kp195 : Kpt (gI σ78 J 2 = gI σ J 2) := Eq.trans (show gI σ78 J 2 = gI σ77 J 2 from (cσ78.O (kJ.up (xσ49.trans (xσ50.trans (xσ51.trans (xσ55.trans (xσ57.trans (xσ68.trans (xσ70.trans (xσ72.trans (xσ73.trans (xσ74.trans xσ77))))))))))) (by decide)).1) kp180
      have kp196 : Kpt (gI σ78 o 3 = gI σ70 o 3) := Eq.trans (show gI σ78 o 3 = gI σ77 o 3 from (cσ78.O (ko.up (xσ49.trans (xσ50.trans (xσ51.trans (xσ55.trans (xσ57.trans (xσ68.trans (xσ70.trans (xσ72.trans (xσ73.trans (xσ74.trans xσ77))))))))))) (by decide)).1) kp181
      have kp197 : Kpt (gI σ78 o 4 = gI σ o 4) := Eq.trans (show gI σ78 o 4 = gI σ77 o 4 from (cσ78.O (ko.up (xσ49.trans (xσ50.trans (xσ51.trans (xσ55.trans (xσ57.trans (xσ68.trans (xσ70.trans (xσ72.trans (xσ73.trans (xσ74.trans xσ77))))))))))) (by decide)).1) kp182
      have kp198 : Kpt (gI σ78 o 6 = gI σ50 o 6) := Eq.trans (show gI σ78 o 6 = gI σ77 o 6 from (cσ78.O (ko.up (xσ49.trans (xσ50.trans (xσ51.trans (xσ55.trans (xσ57.trans (xσ68.trans (xσ70.trans (xσ72.trans (xσ73.trans (xσ74.trans xσ77))))))))))) (by decide)).1) kp183
      have kp199 : Kpt (gI σ78 o 7 = gI σ50 o 7) := Eq.trans (show gI σ78 o 7 = gI σ77 o 7 from (cσ78.O (ko.up (xσ49.trans (xσ50.trans (xσ51.trans (xσ55.trans (xσ57.trans (xσ68.trans (xσ70.trans (xσ72.trans (xσ73.trans (xσ74.trans xσ77))))))))))) (by decide)).1) kp184
      have kp200 : Kpt (gI σ78 o 8 = gI σ57 o 8) := Eq.trans (show gI σ78 o 8 = gI σ77 o 8 from (cσ78.O (ko.up (xσ49.trans (xσ50.trans (xσ51.trans (xσ55.trans (xσ57.trans (xσ68.trans (xσ70.trans (xσ72.trans (xσ73.trans (xσ74.trans xσ77))))))))))) (by decide)).1) kp185
      have kp201 : Kpt (gI σ78 o 9 = gI σ o 9) := Eq.trans (show gI σ78 o 9 = gI σ77 o 9 from (cσ78.O (ko.up (xσ49.trans (xσ50.trans (xσ51.trans (xσ55.trans (xσ57.trans (xσ68.trans (xσ70.trans (xσ72.trans (xσ73.trans (xσ74.trans xσ77))))))))))) (by decide)).1) kp186
      have r5σ78 := I_6_5 iσ78.1 (kth.up (xσ49.trans (xσ50.trans (xσ51.trans (xσ55.trans (xσ57.trans (xσ68.trans (xσ70.trans (xσ72.trans (xσ73.trans (xσ74.trans (xσ77.trans xσ78))))))))))))
      refine i_X6_column iσ78 (kth.up (xσ49.trans (xσ50.trans (xσ51.trans (xσ55.trans (xσ57.trans (xσ68.trans (xσ70.trans (xσ72.trans (xσ73.trans (xσ74.trans (xσ77.trans xσ78)))))))))))) eb_2 (mb_2.up (xσ68.trans (xσ70.trans (xσ72.trans (xσ73.trans (xσ74.trans (xσ77.trans xσ78))))))) (by (first | omega | with_reducible assumption | with_reducible exact rng_toInt _ | with_reducible exact rng_wr _ | (unfold rng; omega) | (unfold rng at *; omega) | assumption)) (fun σ79 r80 iσ79 cσ79 pσ79 => ?_) (fun σx LLx Nx nux E ix cx ux px => hX σx LLx Nx nux E ix (fσ78.tr (cx.mo (by decide))) (ux) (by first | exact px | exact ⟨by have := px.1; omega, px.2⟩ | (first | omega | with_reducible assumption | with_reducible exact rng_toInt _ | with_reducible exact rng_wr _ | (unfold rng; omega) | (unfold rng at *; omega) | assumption)))
      intro xσ79
      have fσ79 : Fx [323, 326, 327, 328, 333, 334, 335, 336, 386, 387, 388, 389, 390, 6464] gr σ σ79 := fσ78.tr (cσ79.mo (by decide))
      have oxcσ79 : OX o σ σ79 := oxcσ78.tr (OX.fx cσ79 (by decide) (by decide)) (xσ49.trans (xσ50.trans (xσ51.trans (xσ55.trans (xσ57.trans (xσ68.trans (xσ70.trans (xσ72.trans (xσ73.trans (xσ74.trans (xσ77.trans xσ78)))))))))))
      have kp202 : gI σ79 o 13 = gI σ78 o 13 := (cσ79.O (ko.up (xσ49.trans (xσ50.trans (xσ51.trans (xσ55.trans (xσ57.trans (xσ68.trans (xσ70.trans (xσ72.trans (xσ73.trans (xσ74.trans (xσ77.trans xσ78)))))))))))) (by decide)).1
      have kp203 : gP σ79 J 0 = gP σ78 J 0 := (cσ79.O (kJ.up (xσ49.trans (xσ50.trans (xσ51.trans (xσ55.trans (xσ57.trans (xσ68.trans (xσ70.trans (xσ72.trans (xσ73.trans (xσ74.trans (xσ77.trans xσ78)))))))))))) (by decide)).2.1
      have kp204 : gP σ79 b (gI σ57 o 8).toNat = gP σ78 b (gI σ57 o 8).toNat := (cσ79.A (mb.up (xσ55.trans (xσ57.trans (xσ68.trans (xσ70.trans (xσ72.trans (xσ73.trans (xσ74.trans (xσ77.trans xσ78))))))))) (by decide)).2.1
      have kp205 : gP σ79 th 0 = gP σ78 th 0 := (cσ79.O (kth.up (xσ49.trans (xσ50.trans (xσ51.trans (xσ55.trans (xσ57.trans (xσ68.trans (xσ70.trans (xσ72.trans (xσ73.trans (xσ74.trans (xσ77.trans xσ78)))))))))))) (by decide)).2.1
      have kp206 : gP σ79 th 7 = gP σ78 th 7 := (cσ79.O (kth.up (xσ49.trans (xσ50.trans (xσ51.trans (xσ55.trans (xσ57.trans (xσ68.trans (xσ70.trans (xσ72.trans (xσ73.trans (xσ74.trans (xσ77.trans xσ78)))))))))))) (by decide)).2.1
      have kp207 : gP σ79 th 8 = gP σ78 th 8 := (cσ79.O (kth.up (xσ49.trans (xσ50.trans (xσ51.trans (xσ55.trans (xσ57.trans (xσ68.trans (xσ70.trans (xσ72.trans (xσ73.trans (xσ74.trans (xσ77.trans xσ78)))))))))))) (by decide)).2.1
      have kp208 : gI σ79 th 2 = gI σ78 th 2 := (cσ79.O (kth.up (xσ49.trans (xσ50.trans (xσ51.trans (xσ55.trans (xσ57.trans (xσ68.trans (xσ70.trans (xσ72.trans (xσ73.trans (xσ74.trans (xσ77.trans xσ78)))))))))))) (by decide)).1
      have kp209 : gI σ79 th 3 = gI σ78 th 3 := (cσ79.O (kth.up (xσ49.trans (xσ50.trans (xσ51.trans (xσ55.trans (xσ57.trans (xσ68.trans (xσ70.trans (xσ72.trans (xσ73.trans (xσ74.trans (xσ77.trans xσ78)))))))))))) (by decide)).1
      have kp210 : gI σ79 th 5 = gI σ78 th 5 := (cσ79.O (kth.up (xσ49.trans (xσ50.trans (xσ51.trans (xσ55.trans (xσ57.trans (xσ68.trans (xσ70.trans (xσ72.trans (xσ73.trans (xσ74.trans (xσ77.trans xσ78)))))))))))) (by decide)).1
      have kp211 : Kpt (gI σ79 J 7 = gI σ J 7) := Eq.trans (show gI σ79 J 7 = gI σ78 J 7 from (cσ79.O (kJ.up (xσ49.trans (xσ50.trans (xσ51.trans (xσ55.trans (xσ57.trans (xσ68.trans (xσ70.trans (xσ72.trans (xσ73.trans (xσ74.trans (xσ77.trans xσ78)))))))))))) (by decide)).1) kp193
      have kp212 : Kpt (gI σ79 J 1 = gI σ J 1) := Eq.trans (show gI σ79 J 1 = gI σ78 J 1 from (cσ79.O (kJ.up (xσ49.trans (xσ50.trans (xσ51.trans (xσ55.trans (xσ57.trans (xσ68.trans (xσ70.trans (xσ72.trans (xσ73.trans (xσ74.trans (xσ77.trans xσ78)))))))))))) (by decide)).1) kp194
      have kp213 : Kpt (gI σ79 J 2 = gI σ J 2) := Eq.trans (show gI σ79 J 2 = gI σ78 J 2 from (cσ79.O (kJ.up (xσ49.trans (xσ50.trans (xσ51.trans (xσ55.trans (xσ57.trans (xσ68.trans (xσ70.trans (xσ72.trans (xσ73.trans (xσ74.trans (xσ77.trans xσ78)))))))))))) (by decide)).1) kp195
      have kp214 : Kpt (gI σ79 o 3 = gI σ70 o 3) := Eq.trans (show gI σ79 o 3 = gI σ78 o 3 from (cσ79.O (ko.up (xσ49.trans (xσ50.trans (xσ51.trans (xσ55.trans (xσ57.trans (xσ68.trans (xσ70.trans (xσ72.trans (xσ73.trans (xσ74.trans (xσ77.trans xσ78)))))))))))) (by decide)).1) kp196
      have kp215 : Kpt (gI σ79 o 4 = gI σ o 4) := Eq.trans (show gI σ79 o 4 = gI σ78 o 4 from (cσ79.O (ko.up (xσ49.trans (xσ50.trans (xσ51.trans (xσ55.trans (xσ57.trans (xσ68.trans (xσ70.trans (xσ72.trans (xσ73.trans (xσ74.trans (xσ77.trans xσ78)))))))))))) (by decide)).1) kp197
      have kp216 : Kpt (gI σ79 o 6 = gI σ50 o 6) := Eq.trans (show gI σ79 o 6 = gI σ78 o 6 from (cσ79.O (ko.up (xσ49.trans (xσ50.trans (xσ51.trans (xσ55.trans (xσ57.trans (xσ68.trans (xσ70.trans (xσ72.trans (xσ73.trans (xσ74.trans (xσ77.trans xσ78)))))))))))) (by decide)).1) kp198
      have kp217 : Kpt (gI σ79 o 7 = gI σ50 o 7) := Eq.trans (show gI σ79 o 7 = gI σ78 o 7 from (cσ79.O (ko.up (xσ49.trans (xσ50.trans (xσ51.trans (xσ55.trans (xσ57.trans (xσ68.trans (xσ70.trans (xσ72.trans (xσ73.trans (xσ74.trans (xσ77.trans xσ78)))))))))))) (by decide)).1) kp199
      have kp218 : Kpt (gI σ79 o 8 = gI σ57 o 8) := Eq.trans (show gI σ79 o 8 = gI σ78 o 8 from (cσ79.O (ko.up (xσ49.trans (xσ50.trans (xσ51.trans (xσ55.trans (xσ57.trans (xσ68.trans (xσ70.trans (xσ72.trans (xσ73.trans (xσ74.trans (xσ77.trans xσ78)))))))))))) (by decide)).1) kp200
      have kp219 : Kpt (gI σ79 o 9 = gI σ o 9) := Eq.trans (show gI σ79 o 9 = gI σ78 o 9 from (cσ79.O (ko.up (xσ49.trans (xσ50.trans (xσ51.trans (xσ55.trans (xσ57.trans (xσ68.trans (xσ70.trans (xσ72.trans (xσ73.trans (xσ74.trans (xσ77.trans xσ78)))))))))))) (by decide)).1) kp201
      refine ⟨o, (kp192.trans (kp174.trans (kp157.trans (kp143.trans (kp129.trans (kp113.trans (kp98.trans (kp68.trans (kp53.trans (kp37.trans (kp24.trans (kp18.trans h8)))))))))))), fun kk_o_5 => ?_⟩
      intro σ82 eσ82
      have xσ82 : Ext σ79 σ82 := by rw [eσ82]; exact fun _ h => ⟨h, rfl, rfl⟩
      have iσ82 : IV σ82 pl gq ci gr nc ot LL N nu := by rw [eσ82]; exact iσ79.wSp (ko.up (xσ49.trans (xσ50.trans (xσ51.trans (xσ55.trans (xσ57.trans (xσ68.trans (xσ70.trans (xσ72.trans (xσ73.trans (xσ74.trans (xσ77.trans (xσ78.trans xσ79))))))))))))) (fun i hi => by omega) (by decide) (show (0 : Int) ≤ r80 ∧ r80 ≤ 7 from ⟨by omega, by omega⟩)
      have fσ82 : Fx [323, 326, 327, 328, 333, 334, 335, 336, 386, 387, 388, 389, 390, 6464] gr σ σ82 := fσ79.tr (Sk.fx (by rw [eσ82]; exact Sk.pI (by rw [fcdO (ko.up (xσ49.trans (xσ50.trans (xσ51.trans (xσ55.trans (xσ57.trans (xσ68.trans (xσ70.trans (xσ72.trans (xσ73.trans (xσ74.trans (xσ77.trans (xσ78.trans xσ79))))))))))))) (by decide)]; decide)))
      have oxcσ82 : OX o σ σ82 := oxcσ79.tr (by rw [eσ82]; exact OX.pI (ko.up (xσ49.trans (xσ50.trans (xσ51.trans (xσ55.trans (xσ57.trans (xσ68.trans (xσ70.trans (xσ72.trans (xσ73.trans (xσ74.trans (xσ77.trans (xσ78.trans xσ79))))))))))))) (Or.inr rfl)) (xσ49.trans (xσ50.trans (xσ51.trans (xσ55.trans (xσ57.trans (xσ68.trans (xσ70.trans (xσ72.trans (xσ73.trans (xσ74.trans (xσ77.trans (xσ78.trans xσ79))))))))))))
      have wσ82 : gI σ82 o 14 = r80 := by rw [eσ82]; exact up2_s _ _ _ _
      have kp220 : gI σ82 o 13 = gI σ79 o 13 := by rw [eσ82]; exact up2_n _ _ (fun q => absurd q.2 (by decide))
      have kp221 : gP σ82 J 0 = gP σ79 J 0 := by rw [eσ82]
      have kp222 : gP σ82 b (gI σ57 o 8).toNat = gP σ79 b (gI σ57 o 8).toNat := by rw [eσ82]
      have kp223 : gP σ82 th 0 = gP σ79 th 0 := by rw [eσ82]
      have kp224 : gP σ82 th 7 = gP σ79 th 7 := by rw [eσ82]
      have kp225 : gP σ82 th 8 = gP σ79 th 8 := by rw [eσ82]
      have kp226 : gI σ82 th 2 = gI σ79 th 2 := by rw [eσ82]; exact up2_n _ _ (fun q => absurd q.2 (by decide))
      have kp227 : gI σ82 th 3 = gI σ79 th 3 := by rw [eσ82]; exact up2_n _ _ (fun q => absurd q.2 (by decide))
      have kp228 : gI σ82 th 5 = gI σ79 th 5 := by rw [eσ82]; exact up2_n _ _ (fun q => absurd q.2 (by decide))
      have kp229 : Kpt (gI σ82 J 7 = gI σ J 7) := Eq.trans (show gI σ82 J 7 = gI σ79 J 7 from by rw [eσ82]; exact up2_n _ _ (fun q => absurd q.2 (by decide))) kp211
      have kp230 : Kpt (gI σ82 J 1 = gI σ J 1) := Eq.trans (show gI σ82 J 1 = gI σ79 J 1 from by rw [eσ82]; exact up2_n _ _ (fun q => absurd q.2 (by decide))) kp212
      have kp231 : Kpt (gI σ82 J 2 = gI σ J 2) := Eq.trans (show gI σ82 J 2 = gI σ79 J 2 from by rw [eσ82]; exact up2_n _ _ (fun q => absurd q.2 (by decide))) kp213
      have kp232 : Kpt (gI σ82 o 3 = gI σ70 o 3) := Eq.trans (show gI σ82 o 3 = gI σ79 o 3 from by rw [eσ82]; exact up2_n _ _ (fun q => absurd q.2 (by decide))) kp214
      have kp233 : Kpt (gI σ82 o 4 = gI σ o 4) := Eq.trans (show gI σ82 o 4 = gI σ79 o 4 from by rw [eσ82]; exact up2_n _ _ (fun q => absurd q.2 (by decide))) kp215
      have kp234 : Kpt (gI σ82 o 6 = gI σ50 o 6) := Eq.trans (show gI σ82 o 6 = gI σ79 o 6 from by rw [eσ82]; exact up2_n _ _ (fun q => absurd q.2 (by decide))) kp216
      have kp235 : Kpt (gI σ82 o 7 = gI σ50 o 7) := Eq.trans (show gI σ82 o 7 = gI σ79 o 7 from by rw [eσ82]; exact up2_n _ _ (fun q => absurd q.2 (by decide))) kp217
      have kp236 : Kpt (gI σ82 o 8 = gI σ57 o 8) := Eq.trans (show gI σ82 o 8 = gI σ79 o 8 from by rw [eσ82]; exact up2_n _ _ (fun q => absurd q.2 (by decide))) kp218
      have kp237 : Kpt (gI σ82 o 9 = gI σ o 9) := Eq.trans (show gI σ82 o 9 = gI σ79 o 9 from by rw [eσ82]; exact up2_n _ _ (fun q => absurd q.2 (by decide))) kp219
      refine i_X6_next iσ82 (kth.up (xσ49.trans (xσ50.trans (xσ51.trans (xσ55.trans (xσ57.trans (xσ68.trans (xσ70.trans (xσ72.trans (xσ73.trans (xσ74.trans (xσ77.trans (xσ78.trans (xσ79.trans xσ82)))))))))))))) (kp223.trans (kp205.trans (kp190.trans (kp172.trans (kp155.trans (kp141.trans (kp127.trans (kp111.trans (kp96.trans (kp66.trans (kp51.trans (kp35.trans (kp22.trans (kp16.trans hX0)))))))))))))) (kX.up (xσ49.trans (xσ50.trans (xσ51.trans (xσ55.trans (xσ57.trans (xσ68.trans (xσ70.trans (xσ72.trans (xσ73.trans (xσ74.trans (xσ77.trans (xσ78.trans (xσ79.trans xσ82)))))))))))))) (((xσ49.trans (xσ50.trans (xσ51.trans (xσ55.trans (xσ57.trans (xσ68.trans (xσ70.trans (xσ72.trans (xσ73.trans (xσ74.trans (xσ77.trans (xσ78.trans (xσ79.trans xσ82))))))))))))) tx kX.1).2.2.trans gX) (by (first | omega | with_reducible assumption | with_reducible exact rng_toInt _ | with_reducible exact rng_wr _ | (unfold rng; omega) | (unfold rng at *; omega) | assumption)) (by (first | omega | with_reducible assumption | with_reducible exact rng_toInt _ | with_reducible exact rng_wr _ | (unfold rng; omega) | (unfold rng at *; omega) | assumption)) (fun σ83 _ iσ83 cσ83 pσ83 => ?_) (fun σx LLx Nx nux E ix cx ux px => hX σx LLx Nx nux E ix (fσ82.tr (cx.mo (by decide))) (ux) (by first | exact px | exact ⟨by have := px.1; omega, px.2⟩ | (first | omega | with_reducible assumption | with_reducible exact rng_toInt _ | with_reducible exact rng_wr _ | (unfold rng; omega) | (unfold rng at *; omega) | assumption)))
      intro xσ83
      have fσ83 : Fx [323, 326, 327, 328, 333, 334, 335, 336, 386, 387, 388, 389, 390, 6464] gr σ σ83 := fσ82.tr (cσ83.mo (by decide))
      have oxcσ83 : OX o σ σ83 := oxcσ82.tr (OX.fx cσ83 (by decide) (by decide)) (xσ49.trans (xσ50.trans (xσ51.trans (xσ55.trans (xσ57.trans (xσ68.trans (xσ70.trans (xσ72.trans (xσ73.trans (xσ74.trans (xσ77.trans (xσ78.trans (xσ79.trans xσ82)))))))))))))
      have kp238 : gI σ83 o 13 = gI σ82 o 13 := (cσ83.O (ko.up (xσ49.trans (xσ50.trans (xσ51.trans (xσ55.trans (xσ57.trans (xσ68.trans (xσ70.trans (xσ72.trans (xσ73.trans (xσ74.trans (xσ77.trans (xσ78.trans (xσ79.trans xσ82)))))))))))))) (by decide)).1
      have kp239 : gI σ83 o 14 = gI σ82 o 14 := (cσ83.O (ko.up (xσ49.trans (xσ50.trans (xσ51.trans (xσ55.trans (xσ57.trans (xσ68.trans (xσ70.trans (xσ72.trans (xσ73.trans (xσ74.trans (xσ77.trans (xσ78.trans (xσ79.trans xσ82)))))))))))))) (by decide)).1
      have kp240 : gP σ83 J 0 = gP σ82 J 0 := (cσ83.O (kJ.up (xσ49.trans (xσ50.trans (xσ51.trans (xσ55.trans (xσ57.trans (xσ68.trans (xσ70.trans (xσ72.trans (xσ73.trans (xσ74.trans (xσ77.trans (xσ78.trans (xσ79.trans xσ82)))))))))))))) (by decide)).2.1
      have kp241 : gP σ83 b (gI σ57 o 8).toNat = gP σ82 b (gI σ57 o 8).toNat := (cσ83.A (mb.up (xσ55.trans (xσ57.trans (xσ68.trans (xσ70.trans (xσ72.trans (xσ73.trans (xσ74.trans (xσ77.trans (xσ78.trans (xσ79.trans xσ82))))))))))) (by decide)).2.1
      have kp242 : gP σ83 th 0 = gP σ82 th 0 := (cσ83.O (kth.up (xσ49.trans (xσ50.trans (xσ51.trans (xσ55.trans (xσ57.trans (xσ68.trans (xσ70.trans (xσ72.trans (xσ73.trans (xσ74.trans (xσ77.trans (xσ78.trans (xσ79.trans xσ82)))))))))))))) (by decide)).2.1
      have kp243 : gP σ83 th 7 = gP σ82 th 7 := (cσ83.O (kth.up (xσ49.trans (xσ50.trans (xσ51.trans (xσ55.trans (xσ57.trans (xσ68.trans (xσ70.trans (xσ72.trans (xσ73.trans (xσ74.trans (xσ77.trans (xσ78.trans (xσ79.trans xσ82)))))))))))))) (by decide)).2.1
      have kp244 : gP σ83 th 8 = gP σ82 th 8 := (cσ83.O (kth.up (xσ49.trans (xσ50.trans (xσ51.trans (xσ55.trans (xσ57.trans (xσ68.trans (xσ70.trans (xσ72.trans (xσ73.trans (xσ74.trans (xσ77.trans (xσ78.trans (xσ79.trans xσ82)))))))))))))) (by decide)).2.1
      have kp245 : Kpt (gI σ83 J 7 = gI σ J 7) := Eq.trans (show gI σ83 J 7 = gI σ82 J 7 from (cσ83.O (kJ.up (xσ49.trans (xσ50.trans (xσ51.trans (xσ55.trans (xσ57.trans (xσ68.trans (xσ70.trans (xσ72.trans (xσ73.trans (xσ74.trans (xσ77.trans (xσ78.trans (xσ79.trans xσ82)))))))))))))) (by decide)).1) kp229
      have kp246 : Kpt (gI σ83 J 1 = gI σ J 1) := Eq.trans (show gI σ83 J 1 = gI σ82 J 1 from (cσ83.O (kJ.up (xσ49.trans (xσ50.trans (xσ51.trans (xσ55.trans (xσ57.trans (xσ68.trans (xσ70.trans (xσ72.trans (xσ73.trans (xσ74.trans (xσ77.trans (xσ78.trans (xσ79.trans xσ82)))))))))))))) (by decide)).1) kp230
      have kp247 : Kpt (gI σ83 J 2 = gI σ J 2) := Eq.trans (show gI σ83 J 2 = gI σ82 J 2 from (cσ83.O (kJ.up (xσ49.trans (xσ50.trans (xσ51.trans (xσ55.trans (xσ57.trans (xσ68.trans (xσ70.trans (xσ72.trans (xσ73.trans (xσ74.trans (xσ77.trans (xσ78.trans (xσ79.trans xσ82)))))))))))))) (by decide)).1) kp231
      have kp248 : Kpt (gI σ83 o 3 = gI σ70 o 3) := Eq.trans (show gI σ83 o 3 = gI σ82 o 3 from (cσ83.O (ko.up (xσ49.trans (xσ50.trans (xσ51.trans (xσ55.trans (xσ57.trans (xσ68.trans (xσ70.trans (xσ72.trans (xσ73.trans (xσ74.trans (xσ77.trans (xσ78.trans (xσ79.trans xσ82)))))))))))))) (by decide)).1) kp232
      have kp249 : Kpt (gI σ83 o 4 = gI σ o 4) := Eq.trans (show gI σ83 o 4 = gI σ82 o 4 from (cσ83.O (ko.up (xσ49.trans (xσ50.trans (xσ51.trans (xσ55.trans (xσ57.trans (xσ68.trans (xσ70.trans (xσ72.trans (xσ73.trans (xσ74.trans (xσ77.trans (xσ78.trans (xσ79.trans xσ82)))))))))))))) (by decide)).1) kp233
      have kp250 : Kpt (gI σ83 o 6 = gI σ50 o 6) := Eq.trans (show gI σ83 o 6 = gI σ82 o 6 from (cσ83.O (ko.up (xσ49.trans (xσ50.trans (xσ51.trans (xσ55.trans (xσ57.trans (xσ68.trans (xσ70.trans (xσ72.trans (xσ73.trans (xσ74.trans (xσ77.trans (xσ78.trans (xσ79.trans xσ82)))))))))))))) (by decide)).1) kp234
      have kp251 : Kpt (gI σ83 o 7 = gI σ50 o 7) := Eq.trans (show gI σ83 o 7 = gI σ82 o 7 from (cσ83.O (ko.up (xσ49.trans (xσ50.trans (xσ51.trans (xσ55.trans (xσ57.trans (xσ68.trans (xσ70.trans (xσ72.trans (xσ73.trans (xσ74.trans (xσ77.trans (xσ78.trans (xσ79.trans xσ82)))))))))))))) (by decide)).1) kp235
      have kp252 : Kpt (gI σ83 o 8 = gI σ57 o 8) := Eq.trans (show gI σ83 o 8 = gI σ82 o 8 from (cσ83.O (ko.up (xσ49.trans (xσ50.trans (xσ51.trans (xσ55.trans (xσ57.trans (xσ68.trans (xσ70.trans (xσ72.trans (xσ73.trans (xσ74.trans (xσ77.trans (xσ78.trans (xσ79.trans xσ82)))))))))))))) (by decide)).1) kp236
      have kp253 : Kpt (gI σ83 o 9 = gI σ o 9) := Eq.trans (show gI σ83 o 9 = gI σ82 o 9 from (cσ83.O (ko.up (xσ49.trans (xσ50.trans (xσ51.trans (xσ55.trans (xσ57.trans (xσ68.trans (xσ70.trans (xσ72.trans (xσ73.trans (xσ74.trans (xσ77.trans (xσ78.trans (xσ79.trans xσ82)))))))))))))) (by decide)).1) kp237
      have r5σ83 := I_6_5 iσ83.1 (kth.up (xσ49.trans (xσ50.trans (xσ51.trans (xσ55.trans (xσ57.trans (xσ68.trans (xσ70.trans (xσ72.trans (xσ73.trans (xσ74.trans (xσ77.trans (xσ78.trans (xσ79.trans (xσ82.trans xσ83)))))))))))))))
      by_cases hc254 : v1 ≠ 6
      · rw [if_pos hc254]
        unfold w_X6_pairText_213
        have ho255 : gI σ83 J 7 = gI σ J 7 := kp245
        have ho256 : gI σ83 J 1 = gI σ J 1 := kp246
        have ho257 : gI σ83 J 2 = gI σ J 2 := kp247
        have ho258 : gI σ83 o 3 = gI σ70 o 3 := kp248
        have ho259 : gI σ83 o 4 = gI σ o 4 := kp249
        have ho260 : gI σ83 o 6 = gI σ50 o 6 := kp250
        have ho261 : gI σ83 o 7 = gI σ50 o 7 := kp251
        have ho262 : gI σ83 o 8 = gI σ57 o 8 := kp252
        have ho263 : gI σ83 o 9 = gI σ o 9 := kp253
        exact hQ σ83 () iσ83 fσ83 oxcσ83 (⟨by omega, by omega, ⟨by omega, (fun _ a ka ga => by have w9 := wf a ka (by omega); omega), (fun h => absurd h (by omega))⟩⟩)
      · rw [if_neg hc254]
        have hc254q := Classical.not_not.mp hc254
        unfold w_X6_pairText_154
        refine i_X6_wantWord iσ83 (kth.up (xσ49.trans (xσ50.trans (xσ51.trans (xσ55.trans (xσ57.trans (xσ68.trans (xσ70.trans (xσ72.trans (xσ73.trans (xσ74.trans (xσ77.trans (xσ78.trans (xσ79.trans (xσ82.trans xσ83))))))))))))))) (kp242.trans (kp223.trans (kp205.trans (kp190.trans (kp172.trans (kp155.trans (kp141.trans (kp127.trans (kp111.trans (kp96.trans (kp66.trans (kp51.trans (kp35.trans (kp22.trans (kp16.trans hX0))))))))))))))) (kX.up (xσ49.trans (xσ50.trans (xσ51.trans (xσ55.trans (xσ57.trans (xσ68.trans (xσ70.trans (xσ72.trans (xσ73.trans (xσ74.trans (xσ77.trans (xσ78.trans (xσ79.trans (xσ82.trans xσ83))))))))))))))) (((xσ49.trans (xσ50.trans (xσ51.trans (xσ55.trans (xσ57.trans (xσ68.trans (xσ70.trans (xσ72.trans (xσ73.trans (xσ74.trans (xσ77.trans (xσ78.trans (xσ79.trans (xσ82.trans xσ83)))))))))))))) tx kX.1).2.2.trans gX) (by (first | omega | with_reducible assumption | with_reducible exact rng_toInt _ | with_reducible exact rng_wr _ | (unfold rng; omega) | (unfold rng at *; omega) | assumption)) (by (first | omega | with_reducible assumption | with_reducible exact rng_toInt _ | with_reducible exact rng_wr _ | (unfold rng; omega) | (unfold rng at *; omega) | assumption)) (fun σ84 _ iσ84 cσ84 pσ84 => ?_) (fun σx LLx Nx nux E ix cx ux px => hX σx LLx Nx nux E ix (fσ83.tr (cx.mo (by decide))) (ux) (by first | exact px | exact ⟨by have := px.1; omega, px.2⟩ | (first | omega | with_reducible assumption | with_reducible exact rng_toInt _ | with_reducible exact rng_wr _ | (unfold rng; omega) | (unfold rng at *; omega) | assumption)))
        intro xσ84
        have fσ84 : Fx [323, 326, 327, 328, 333, 334, 335, 336, 386, 387, 388, 389, 390, 6464] gr σ σ84 := fσ83.tr (cσ84.mo (by decide))
        have oxcσ84 : OX o σ σ84 := oxcσ83.tr (OX.fx cσ84 (by decide) (by decide)) (xσ49.trans (xσ50.trans (xσ51.trans (xσ55.trans (xσ57.trans (xσ68.trans (xσ70.trans (xσ72.trans (xσ73.trans (xσ74.trans (xσ77.trans (xσ78.trans (xσ79.trans (xσ82.trans xσ83))))))))))))))
        have kp264 : gI σ84 o 13 = gI σ83 o 13 := (cσ84.O (ko.up (xσ49.trans (xσ50.trans (xσ51.trans (xσ55.trans (xσ57.trans (xσ68.trans (xσ70.trans (xσ72.trans (xσ73.trans (xσ74.trans (xσ77.trans (xσ78.trans (xσ79.trans (xσ82.trans xσ83))))))))))))))) (by decide)).1
        have kp265 : gI σ84 o 14 = gI σ83 o 14 := (cσ84.O (ko.up (xσ49.trans (xσ50.trans (xσ51.trans (xσ55.trans (xσ57.trans (xσ68.trans (xσ70.trans (xσ72.trans (xσ73.trans (xσ74.trans (xσ77.trans (xσ78.trans (xσ79.trans (xσ82.trans xσ83))))))))))))))) (by decide)).1
        have kp266 : gP σ84 J 0 = gP σ83 J 0 := (cσ84.O (kJ.up (xσ49.trans (xσ50.trans (xσ51.trans (xσ55.trans (xσ57.trans (xσ68.trans (xσ70.trans (xσ72.trans (xσ73.trans (xσ74.trans (xσ77.trans (xσ78.trans (xσ79.trans (xσ82.trans xσ83))))))))))))))) (by decide)).2.1
        have kp267 : gP σ84 b (gI σ57 o 8).toNat = gP σ83 b (gI σ57 o 8).toNat := (cσ84.A (mb.up (xσ55.trans (xσ57.trans (xσ68.trans (xσ70.trans (xσ72.trans (xσ73.trans (xσ74.trans (xσ77.trans (xσ78.trans (xσ79.trans (xσ82.trans xσ83)))))))))))) (by decide)).2.1
        have kp268 : gP σ84 th 0 = gP σ83 th 0 := (cσ84.O (kth.up (xσ49.trans (xσ50.trans (xσ51.trans (xσ55.trans (xσ57.trans (xσ68.trans (xσ70.trans (xσ72.trans (xσ73.trans (xσ74.trans (xσ77.trans (xσ78.trans (xσ79.trans (xσ82.trans xσ83))))))))))))))) (by decide)).2.1
        have kp269 : gP σ84 th 7 = gP σ83 th 7 := (cσ84.O (kth.up (xσ49.trans (xσ50.trans (xσ51.trans (xσ55.trans (xσ57.trans (xσ68.trans (xσ70.trans (xσ72.trans (xσ73.trans (xσ74.trans (xσ77.trans (xσ78.trans (xσ79.trans (xσ82.trans xσ83))))))))))))))) (by decide)).2.1
        have kp270 : gP σ84 th 8 = gP σ83 th 8 := (cσ84.O (kth.up (xσ49.trans (xσ50.trans (xσ51.trans (xσ55.trans (xσ57.trans (xσ68.trans (xσ70.trans (xσ72.trans (xσ73.trans (xσ74.trans (xσ77.trans (xσ78.trans (xσ79.trans (xσ82.trans xσ83))))))))))))))) (by decide)).2.1
        have kp271 : Kpt (gI σ84 J 7 = gI σ J 7) := Eq.trans (show gI σ84 J 7 = gI σ83 J 7 from (cσ84.O (kJ.up (xσ49.trans (xσ50.trans (xσ51.trans (xσ55.trans (xσ57.trans (xσ68.trans (xσ70.trans (xσ72.trans (xσ73.trans (xσ74.trans (xσ77.trans (xσ78.trans (xσ79.trans (xσ82.trans xσ83))))))))))))))) (by decide)).1) kp245
        have kp272 : Kpt (gI σ84 J 1 = gI σ J 1) := Eq.trans (show gI σ84 J 1 = gI σ83 J 1 from (cσ84.O (kJ.up (xσ49.trans (xσ50.trans (xσ51.trans (xσ55.trans (xσ57.trans (xσ68.trans (xσ70.trans (xσ72.trans (xσ73.trans (xσ74.trans (xσ77.trans (xσ78.trans (xσ79.trans (xσ82.trans xσ83))))))))))))))) (by decide)).1) kp246
        have kp273 : Kpt (gI σ84 J 2 = gI σ J 2) := Eq.trans (show gI σ84 J 2 = gI σ83 J 2 from (cσ84.O (kJ.up (xσ49.trans (xσ50.trans (xσ51.trans (xσ55.trans (xσ57.trans (xσ68.trans (xσ70.trans (xσ72.trans (xσ73.trans (xσ74.trans (xσ77.trans (xσ78.trans (xσ79.trans (xσ82.trans xσ83))))))))))))))) (by decide)).1) kp247
        have kp274 : Kpt (gI σ84 o 3 = gI σ70 o 3) := Eq.trans (show gI σ84 o 3 = gI σ83 o 3 from (cσ84.O (ko.up (xσ49.trans (xσ50.trans (xσ51.trans (xσ55.trans (xσ57.trans (xσ68.trans (xσ70.trans (xσ72.trans (xσ73.trans (xσ74.trans (xσ77.trans (xσ78.trans (xσ79.trans (xσ82.trans xσ83))))))))))))))) (by decide)).1) kp248
        have kp275 : Kpt (gI σ84 o 4 = gI σ o 4) := Eq.trans (show gI σ84 o 4 = gI σ83 o 4 from (cσ84.O (ko.up (xσ49.trans (xσ50.trans (xσ51.trans (xσ55.trans (xσ57.trans (xσ68.trans (xσ70.trans (xσ72.trans (xσ73.trans (xσ74.trans (xσ77.trans (xσ78.trans (xσ79.trans (xσ82.trans xσ83))))))))))))))) (by decide)).1) kp249
        have kp276 : Kpt (gI σ84 o 6 = gI σ50 o 6) := Eq.trans (show gI σ84 o 6 = gI σ83 o 6 from (cσ84.O (ko.up (xσ49.trans (xσ50.trans (xσ51.trans (xσ55.trans (xσ57.trans (xσ68.trans (xσ70.trans (xσ72.trans (xσ73.trans (xσ74.trans (xσ77.trans (xσ78.trans (xσ79.trans (xσ82.trans xσ83))))))))))))))) (by decide)).1) kp250
        have kp277 : Kpt (gI σ84 o 7 = gI σ50 o 7) := Eq.trans (show gI σ84 o 7 = gI σ83 o 7 from (cσ84.O (ko.up (xσ49.trans (xσ50.trans (xσ51.trans (xσ55.trans (xσ57.trans (xσ68.trans (xσ70.trans (xσ72.trans (xσ73.trans (xσ74.trans (xσ77.trans (xσ78.trans (xσ79.trans (xσ82.trans xσ83))))))))))))))) (by decide)).1) kp251
        have kp278 : Kpt (gI σ84 o 8 = gI σ57 o 8) := Eq.trans (show gI σ84 o 8 = gI σ83 o 8 from (cσ84.O (ko.up (xσ49.trans (xσ50.trans (xσ51.trans (xσ55.trans (xσ57.trans (xσ68.trans (xσ70.trans (xσ72.trans (xσ73.trans (xσ74.trans (xσ77.trans (xσ78.trans (xσ79.trans (xσ82.trans xσ83))))))))))))))) (by decide)).1) kp252
        have kp279 : Kpt (gI σ84 o 9 = gI σ o 9) := Eq.trans (show gI σ84 o 9 = gI σ83 o 9 from (cσ84.O (ko.up (xσ49.trans (xσ50.trans (xσ51.trans (xσ55.trans (xσ57.trans (xσ68.trans (xσ70.trans (xσ72.trans (xσ73.trans (xσ74.trans (xσ77.trans (xσ78.trans (xσ79.trans (xσ82.trans xσ83))))))))))))))) (by decide)).1) kp253
        have r5σ84 := I_6_5 iσ84.1 (kth.up (xσ49.trans (xσ50.trans (xσ51.trans (xσ55.trans (xσ57.trans (xσ68.trans (xσ70.trans (xσ72.trans (xσ73.trans (xσ74.trans (xσ77.trans (xσ78.trans (xσ79.trans (xσ82.trans (xσ83.trans xσ84))))))))))))))))
        refine i_X6_signedNumber iσ84 (kth.up (xσ49.trans (xσ50.trans (xσ51.trans (xσ55.trans (xσ57.trans (xσ68.trans (xσ70.trans (xσ72.trans (xσ73.trans (xσ74.trans (xσ77.trans (xσ78.trans (xσ79.trans (xσ82.trans (xσ83.trans xσ84)))))))))))))))) (kp268.trans (kp242.trans (kp223.trans (kp205.trans (kp190.trans (kp172.trans (kp155.trans (kp141.trans (kp127.trans (kp111.trans (kp96.trans (kp66.trans (kp51.trans (kp35.trans (kp22.trans (kp16.trans hX0)))))))))))))))) (kX.up (xσ49.trans (xσ50.trans (xσ51.trans (xσ55.trans (xσ57.trans (xσ68.trans (xσ70.trans (xσ72.trans (xσ73.trans (xσ74.trans (xσ77.trans (xσ78.trans (xσ79.trans (xσ82.trans (xσ83.trans xσ84)))))))))))))))) (((xσ49.trans (xσ50.trans (xσ51.trans (xσ55.trans (xσ57.trans (xσ68.trans (xσ70.trans (xσ72.trans (xσ73.trans (xσ74.trans (xσ77.trans (xσ78.trans (xσ79.trans (xσ82.trans (xσ83.trans xσ84))))))))))))))) tx kX.1).2.2.trans gX) (by (first | omega | with_reducible assumption | with_reducible exact rng_toInt _ | with_reducible exact rng_wr _ | (unfold rng; omega) | (unfold rng at *; omega) | assumption)) (by (first | omega | with_reducible assumption | with_reducible exact rng_toInt _ | with_reducible exact rng_wr _ | (unfold rng; omega) | (unfold rng at *; omega) | assumption)) (fun σ85 r86 iσ85 cσ85 pσ85 => ?_) (fun σx LLx Nx nux E ix cx ux px => hX σx LLx Nx nux E ix (fσ84.tr (cx.mo (by decide))) (ux) (by first | exact px | exact ⟨by have := px.1; omega, px.2⟩ | (first | omega | with_reducible assumption | with_reducible exact rng_toInt _ | with_reducible exact rng_wr _ | (unfold rng; omega) | (unfold rng at *; omega) | assumption)))
        intro xσ85
        have fσ85 : Fx [323, 326, 327, 328, 333, 334, 335, 336, 386, 387, 388, 389, 390, 6464] gr σ σ85 := fσ84.tr (cσ85.mo (by decide))
        have oxcσ85 : OX o σ σ85 := oxcσ84.tr (OX.fx cσ85 (by decide) (by decide)) (xσ49.trans (xσ50.trans (xσ51.trans (xσ55.trans (xσ57.trans (xσ68.trans (xσ70.trans (xσ72.trans (xσ73.trans (xσ74.trans (xσ77.trans (xσ78.trans (xσ79.trans (xσ82.trans (xσ83.trans xσ84)))))))))))))))
        have kp280 : gI σ85 o 13 = gI σ84 o 13 := (cσ85.O (ko.up (xσ49.trans (xσ50.trans (xσ51.trans (xσ55.trans (xσ57.trans (xσ68.trans (xσ70.trans (xσ72.trans (xσ73.trans (xσ74.trans (xσ77.trans (xσ78.trans (xσ79.trans (xσ82.trans (xσ83.trans xσ84)))))))))))))))) (by decide)).1
        have kp281 : gI σ85 o 14 = gI σ84 o 14 := (cσ85.O (ko.up (xσ49.trans (xσ50.trans (xσ51.trans (xσ55.trans (xσ57.trans (xσ68.trans (xσ70.trans (xσ72.trans (xσ73.trans (xσ74.trans (xσ77.trans (xσ78.trans (xσ79.trans (xσ82.trans (xσ83.trans xσ84)))))))))))))))) (by decide)).1
        have kp282 : gP σ85 J 0 = gP σ84 J 0 := (cσ85.O (kJ.up (xσ49.trans (xσ50.trans (xσ51.trans (xσ55.trans (xσ57.trans (xσ68.trans (xσ70.trans (xσ72.trans (xσ73.trans (xσ74.trans (xσ77.trans (xσ78.trans (xσ79.trans (xσ82.trans (xσ83.trans xσ84)))))))))))))))) (by decide)).2.1
        have kp283 : gP σ85 b (gI σ57 o 8).toNat = gP σ84 b (gI σ57 o 8).toNat := (cσ85.A (mb.up (xσ55.trans (xσ57.trans (xσ68.trans (xσ70.trans (xσ72.trans (xσ73.trans (xσ74.trans (xσ77.trans (xσ78.trans (xσ79.trans (xσ82.trans (xσ83.trans xσ84))))))))))))) (by decide)).2.1
        have kp284 : gP σ85 th 0 = gP σ84 th 0 := (cσ85.O (kth.up (xσ49.trans (xσ50.trans (xσ51.trans (xσ55.trans (xσ57.trans (xσ68.trans (xσ70.trans (xσ72.trans (xσ73.trans (xσ74.trans (xσ77.trans (xσ78.trans (xσ79.trans (xσ82.trans (xσ83.trans xσ84)))))))))))))))) (by decide)).2.1
        have kp285 : gP σ85 th 7 = gP σ84 th 7 := (cσ85.O (kth.up (xσ49.trans (xσ50.trans (xσ51.trans (xσ55.trans (xσ57.trans (xσ68.trans (xσ70.trans (xσ72.trans (xσ73.trans (xσ74.trans (xσ77.trans (xσ78.trans (xσ79.trans (xσ82.trans (xσ83.trans xσ84)))))))))))))))) (by decide)).2.1
        have kp286 : gP σ85 th 8 = gP σ84 th 8 := (cσ85.O (kth.up (xσ49.trans (xσ50.trans (xσ51.trans (xσ55.trans (xσ57.trans (xσ68.trans (xσ70.trans (xσ72.trans (xσ73.trans (xσ74.trans (xσ77.trans (xσ78.trans (xσ79.trans (xσ82.trans (xσ83.trans xσ84)))))))))))))))) (by decide)).2.1
        have kp287 : Kpt (gI σ85 J 7 = gI σ J 7) := Eq.trans (show gI σ85 J 7 = gI σ84 J 7 from (cσ85.O (kJ.up (xσ49.trans (xσ50.trans (xσ51.trans (xσ55.trans (xσ57.trans (xσ68.trans (xσ70.trans (xσ72.trans (xσ73.trans (xσ74.trans (xσ77.trans (xσ78.trans (xσ79.trans (xσ82.trans (xσ83.trans xσ84)))))))))))))))) (by decide)).1) kp271
        have kp288 : Kpt (gI σ85 J 1 = gI σ J 1) := Eq.trans (show gI σ85 J 1 = gI σ84 J 1 from (cσ85.O (kJ.up (xσ49.trans (xσ50.trans (xσ51.trans (xσ55.trans (xσ57.trans (xσ68.trans (xσ70.trans (xσ72.trans (xσ73.trans (xσ74.trans (xσ77.trans (xσ78.trans (xσ79.trans (xσ82.trans (xσ83.trans xσ84)))))))))))))))) (by decide)).1) kp272
        have kp289 : Kpt (gI σ85 J 2 = gI σ J 2) := Eq.trans (show gI σ85 J 2 = gI σ84 J 2 from (cσ85.O (kJ.up (xσ49.trans (xσ50.trans (xσ51.trans (xσ55.trans (xσ57.trans (xσ68.trans (xσ70.trans (xσ72.trans (xσ73.trans (xσ74.trans (xσ77.trans (xσ78.trans (xσ79.trans (xσ82.trans (xσ83.trans xσ84)))))))))))))))) (by decide)).1) kp273
        have kp290 : Kpt (gI σ85 o 3 = gI σ70 o 3) := Eq.trans (show gI σ85 o 3 = gI σ84 o 3 from (cσ85.O (ko.up (xσ49.trans (xσ50.trans (xσ51.trans (xσ55.trans (xσ57.trans (xσ68.trans (xσ70.trans (xσ72.trans (xσ73.trans (xσ74.trans (xσ77.trans (xσ78.trans (xσ79.trans (xσ82.trans (xσ83.trans xσ84)))))))))))))))) (by decide)).1) kp274
        have kp291 : Kpt (gI σ85 o 4 = gI σ o 4) := Eq.trans (show gI σ85 o 4 = gI σ84 o 4 from (cσ85.O (ko.up (xσ49.trans (xσ50.trans (xσ51.trans (xσ55.trans (xσ57.trans (xσ68.trans (xσ70.trans (xσ72.trans (xσ73.trans (xσ74.trans (xσ77.trans (xσ78.trans (xσ79.trans (xσ82.trans (xσ83.trans xσ84)))))))))))))))) (by decide)).1) kp275
        have kp292 : Kpt (gI σ85 o 6 = gI σ50 o 6) := Eq.trans (show gI σ85 o 6 = gI σ84 o 6 from (cσ85.O (ko.up (xσ49.trans (xσ50.trans (xσ51.trans (xσ55.trans (xσ57.trans (xσ68.trans (xσ70.trans (xσ72.trans (xσ73.trans (xσ74.trans (xσ77.trans (xσ78.trans (xσ79.trans (xσ82.trans (xσ83.trans xσ84)))))))))))))))) (by decide)).1) kp276
        have kp293 : Kpt (gI σ85 o 7 = gI σ50 o 7) := Eq.trans (show gI σ85 o 7 = gI σ84 o 7 from (cσ85.O (ko.up (xσ49.trans (xσ50.trans (xσ51.trans (xσ55.trans (xσ57.trans (xσ68.trans (xσ70.trans (xσ72.trans (xσ73.trans (xσ74.trans (xσ77.trans (xσ78.trans (xσ79.trans (xσ82.trans (xσ83.trans xσ84)))))))))))))))) (by decide)).1) kp277
        have kp294 : Kpt (gI σ85 o 8 = gI σ57 o 8) := Eq.trans (show gI σ85 o 8 = gI σ84 o 8 from (cσ85.O (ko.up (xσ49.trans (xσ50.trans (xσ51.trans (xσ55.trans (xσ57.trans (xσ68.trans (xσ70.trans (xσ72.trans (xσ73.trans (xσ74.trans (xσ77.trans (xσ78.trans (xσ79.trans (xσ82.trans (xσ83.trans xσ84)))))))))))))))) (by decide)).1) kp278
        have kp295 : Kpt (gI σ85 o 9 = gI σ o 9) := Eq.trans (show gI σ85 o 9 = gI σ84 o 9 from (cσ85.O (ko.up (xσ49.trans (xσ50.trans (xσ51.trans (xσ55.trans (xσ57.trans (xσ68.trans (xσ70.trans (xσ72.trans (xσ73.trans (xσ74.trans (xσ77.trans (xσ78.trans (xσ79.trans (xσ82.trans (xσ83.trans xσ84)))))))))))))))) (by decide)).1) kp279
        have r5σ85 := I_6_5 iσ85.1 (kth.up (xσ49.trans (xσ50.trans (xσ51.trans (xσ55.trans (xσ57.trans (xσ68.trans (xσ70.trans (xσ72.trans (xσ73.trans (xσ74.trans (xσ77.trans (xσ78.trans (xσ79.trans (xσ82.trans (xσ83.trans (xσ84.trans xσ85)))))))))))))))))
        refine ⟨o, (kp270.trans (kp244.trans (kp225.trans (kp207.trans (kp192.trans (kp174.trans (kp157.trans (kp143.trans (kp129.trans (kp113.trans (kp98.trans (kp68.trans (kp53.trans (kp37.trans (kp24.trans (kp18.trans h8)))))))))))))))), fun kk_o_6 => ?_⟩
        intro σ88 eσ88
        have xσ88 : Ext σ85 σ88 := by rw [eσ88]; exact fun _ h => ⟨h, rfl, rfl⟩
        have iσ88 : IV σ88 pl gq ci gr nc ot LL N nu := by rw [eσ88]; exact iσ85.wSp (ko.up (xσ49.trans (xσ50.trans (xσ51.trans (xσ55.trans (xσ57.trans (xσ68.trans (xσ70.trans (xσ72.trans (xσ73.trans (xσ74.trans (xσ77.trans (xσ78.trans (xσ79.trans (xσ82.trans (xσ83.trans (xσ84.trans xσ85))))))))))))))))) (fun i hi => by omega) (by decide) (show (-1000 : Int) ≤ r86 ∧ r86 ≤ 1000 from ⟨by omega, by omega⟩)
        have fσ88 : Fx [323, 326, 327, 328, 333, 334, 335, 336, 386, 387, 388, 389, 390, 6464] gr σ σ88 := fσ85.tr (Sk.fx (by rw [eσ88]; exact Sk.pI (by rw [fcdO (ko.up (xσ49.trans (xσ50.trans (xσ51.trans (xσ55.trans (xσ57.trans (xσ68.trans (xσ70.trans (xσ72.trans (xσ73.trans (xσ74.trans (xσ77.trans (xσ78.trans (xσ79.trans (xσ82.trans (xσ83.trans (xσ84.trans xσ85))))))))))))))))) (by decide)]; decide)))
        have oxcσ88 : OX o σ σ88 := oxcσ85.tr (by rw [eσ88]; exact OX.pI (ko.up (xσ49.trans (xσ50.trans (xσ51.trans (xσ55.trans (xσ57.trans (xσ68.trans (xσ70.trans (xσ72.trans (xσ73.trans (xσ74.trans (xσ77.trans (xσ78.trans (xσ79.trans (xσ82.trans (xσ83.trans (xσ84.trans xσ85))))))))))))))))) (Or.inr rfl)) (xσ49.trans (xσ50.trans (xσ51.trans (xσ55.trans (xσ57.trans (xσ68.trans (xσ70.trans (xσ72.trans (xσ73.trans (xσ74.trans (xσ77.trans (xσ78.trans (xσ79.trans (xσ82.trans (xσ83.trans (xσ84.trans xσ85))))))))))))))))
        have wσ88 : gI σ88 o 15 = r86 := by rw [eσ88]; exact up2_s _ _ _ _
        have kp296 : gI σ88 o 13 = gI σ85 o 13 := by rw [eσ88]; exact up2_n _ _ (fun q => absurd q.2 (by decide))
        have kp297 : gI σ88 o 14 = gI σ85 o 14 := by rw [eσ88]; exact up2_n _ _ (fun q => absurd q.2 (by decide))
        have kp298 : gP σ88 J 0 = gP σ85 J 0 := by rw [eσ88]
        have kp299 : gP σ88 b (gI σ57 o 8).toNat = gP σ85 b (gI σ57 o 8).toNat := by rw [eσ88]
        have kp300 : gP σ88 th 0 = gP σ85 th 0 := by rw [eσ88]
        have kp301 : gP σ88 th 7 = gP σ85 th 7 := by rw [eσ88]
        have kp302 : gP σ88 th 8 = gP σ85 th 8 := by rw [eσ88]
        have kp303 : gI σ88 th 2 = gI σ85 th 2 := by rw [eσ88]; exact up2_n _ _ (fun q => absurd q.2 (by decide))
        have kp304 : gI σ88 th 3 = gI σ85 th 3 := by rw [eσ88]; exact up2_n _ _ (fun q => absurd q.2 (by decide))
        have kp305 : gI σ88 th 5 = gI σ85 th 5 := by rw [eσ88]; exact up2_n _ _ (fun q => absurd q.2 (by decide))
        have kp306 : Kpt (gI σ88 J 7 = gI σ J 7) := Eq.trans (show gI σ88 J 7 = gI σ85 J 7 from by rw [eσ88]; exact up2_n _ _ (fun q => absurd q.2 (by decide))) kp287
        have kp307 : Kpt (gI σ88 J 1 = gI σ J 1) := Eq.trans (show gI σ88 J 1 = gI σ85 J 1 from by rw [eσ88]; exact up2_n _ _ (fun q => absurd q.2 (by decide))) kp288
        have kp308 : Kpt (gI σ88 J 2 = gI σ J 2) := Eq.trans (show gI σ88 J 2 = gI σ85 J 2 from by rw [eσ88]; exact up2_n _ _ (fun q => absurd q.2 (by decide))) kp289
        have kp309 : Kpt (gI σ88 o 3 = gI σ70 o 3) := Eq.trans (show gI σ88 o 3 = gI σ85 o 3 from by rw [eσ88]; exact up2_n _ _ (fun q => absurd q.2 (by decide))) kp290
        have kp310 : Kpt (gI σ88 o 4 = gI σ o 4) := Eq.trans (show gI σ88 o 4 = gI σ85 o 4 from by rw [eσ88]; exact up2_n _ _ (fun q => absurd q.2 (by decide))) kp291
        have kp311 : Kpt (gI σ88 o 6 = gI σ50 o 6) := Eq.trans (show gI σ88 o 6 = gI σ85 o 6 from by rw [eσ88]; exact up2_n _ _ (fun q => absurd q.2 (by decide))) kp292
        have kp312 : Kpt (gI σ88 o 7 = gI σ50 o 7) := Eq.trans (show gI σ88 o 7 = gI σ85 o 7 from by rw [eσ88]; exact up2_n _ _ (fun q => absurd q.2 (by decide))) kp293
        have kp313 : Kpt (gI σ88 o 8 = gI σ57 o 8) := Eq.trans (show gI σ88 o 8 = gI σ85 o 8 from by rw [eσ88]; exact up2_n _ _ (fun q => absurd q.2 (by decide))) kp294
        have kp314 : Kpt (gI σ88 o 9 = gI σ o 9) := Eq.trans (show gI σ88 o 9 = gI σ85 o 9 from by rw [eσ88]; exact up2_n _ _ (fun q => absurd q.2 (by decide))) kp295
        refine i_X6_next iσ88 (kth.up (xσ49.trans (xσ50.trans (xσ51.trans (xσ55.trans (xσ57.trans (xσ68.trans (xσ70.trans (xσ72.trans (xσ73.trans (xσ74.trans (xσ77.trans (xσ78.trans (xσ79.trans (xσ82.trans (xσ83.trans (xσ84.trans (xσ85.trans xσ88)))))))))))))))))) (kp300.trans (kp284.trans (kp268.trans (kp242.trans (kp223.trans (kp205.trans (kp190.trans (kp172.trans (kp155.trans (kp141.trans (kp127.trans (kp111.trans (kp96.trans (kp66.trans (kp51.trans (kp35.trans (kp22.trans (kp16.trans hX0)))))))))))))))))) (kX.up (xσ49.trans (xσ50.trans (xσ51.trans (xσ55.trans (xσ57.trans (xσ68.trans (xσ70.trans (xσ72.trans (xσ73.trans (xσ74.trans (xσ77.trans (xσ78.trans (xσ79.trans (xσ82.trans (xσ83.trans (xσ84.trans (xσ85.trans xσ88)))))))))))))))))) (((xσ49.trans (xσ50.trans (xσ51.trans (xσ55.trans (xσ57.trans (xσ68.trans (xσ70.trans (xσ72.trans (xσ73.trans (xσ74.trans (xσ77.trans (xσ78.trans (xσ79.trans (xσ82.trans (xσ83.trans (xσ84.trans (xσ85.trans xσ88))))))))))))))))) tx kX.1).2.2.trans gX) (by (first | omega | with_reducible assumption | with_reducible exact rng_toInt _ | with_reducible exact rng_wr _ | (unfold rng; omega) | (unfold rng at *; omega) | assumption)) (by (first | omega | with_reducible assumption | with_reducible exact rng_toInt _ | with_reducible exact rng_wr _ | (unfold rng; omega) | (unfold rng at *; omega) | assumption)) (fun σ89 _ iσ89 cσ89 pσ89 => ?_) (fun σx LLx Nx nux E ix cx ux px => hX σx LLx Nx nux E ix (fσ88.tr (cx.mo (by decide))) (ux) (by first | exact px | exact ⟨by have := px.1; omega, px.2⟩ | (first | omega | with_reducible assumption | with_reducible exact rng_toInt _ | with_reducible exact rng_wr _ | (unfold rng; omega) | (unfold rng at *; omega) | assumption)))
        intro xσ89
        have fσ89 : Fx [323, 326, 327, 328, 333, 334, 335, 336, 386, 387, 388, 389, 390, 6464] gr σ σ89 := fσ88.tr (cσ89.mo (by decide))
        have oxcσ89 : OX o σ σ89 := oxcσ88.tr (OX.fx cσ89 (by decide) (by decide)) (xσ49.trans (xσ50.trans (xσ51.trans (xσ55.trans (xσ57.trans (xσ68.trans (xσ70.trans (xσ72.trans (xσ73.trans (xσ74.trans (xσ77.trans (xσ78.trans (xσ79.trans (xσ82.trans (xσ83.trans (xσ84.trans (xσ85.trans xσ88)))))))))))))))))
        have kp315 : gI σ89 o 13 = gI σ88 o 13 := (cσ89.O (ko.up (xσ49.trans (xσ50.trans (xσ51.trans (xσ55.trans (xσ57.trans (xσ68.trans (xσ70.trans (xσ72.trans (xσ73.trans (xσ74.trans (xσ77.trans (xσ78.trans (xσ79.trans (xσ82.trans (xσ83.trans (xσ84.trans (xσ85.trans xσ88)))))))))))))))))) (by decide)).1
        have kp316 : gI σ89 o 14 = gI σ88 o 14 := (cσ89.O (ko.up (xσ49.trans (xσ50.trans (xσ51.trans (xσ55.trans (xσ57.trans (xσ68.trans (xσ70.trans (xσ72.trans (xσ73.trans (xσ74.trans (xσ77.trans (xσ78.trans (xσ79.trans (xσ82.trans (xσ83.trans (xσ84.trans (xσ85.trans xσ88)))))))))))))))))) (by decide)).1
        have kp317 : gI σ89 o 15 = gI σ88 o 15 := (cσ89.O (ko.up (xσ49.trans (xσ50.trans (xσ51.trans (xσ55.trans (xσ57.trans (xσ68.trans (xσ70.trans (xσ72.trans (xσ73.trans (xσ74.trans (xσ77.trans (xσ78.trans (xσ79.trans (xσ82.trans (xσ83.trans (xσ84.trans (xσ85.trans xσ88)))))))))))))))))) (by decide)).1
        have kp318 : gP σ89 J 0 = gP σ88 J 0 := (cσ89.O (kJ.up (xσ49.trans (xσ50.trans (xσ51.trans (xσ55.trans (xσ57.trans (xσ68.trans (xσ70.trans (xσ72.trans (xσ73.trans (xσ74.trans (xσ77.trans (xσ78.trans (xσ79.trans (xσ82.trans (xσ83.trans (xσ84.trans (xσ85.trans xσ88)))))))))))))))))) (by decide)).2.1
        have kp319 : gP σ89 b (gI σ57 o 8).toNat = gP σ88 b (gI σ57 o 8).toNat := (cσ89.A (mb.up (xσ55.trans (xσ57.trans (xσ68.trans (xσ70.trans (xσ72.trans (xσ73.trans (xσ74.trans (xσ77.trans (xσ78.trans (xσ79.trans (xσ82.trans (xσ83.trans (xσ84.trans (xσ85.trans xσ88))))))))))))))) (by decide)).2.1
        have kp320 : gP σ89 th 0 = gP σ88 th 0 := (cσ89.O (kth.up (xσ49.trans (xσ50.trans (xσ51.trans (xσ55.trans (xσ57.trans (xσ68.trans (xσ70.trans (xσ72.trans (xσ73.trans (xσ74.trans (xσ77.trans (xσ78.trans (xσ79.trans (xσ82.trans (xσ83.trans (xσ84.trans (xσ85.trans xσ88)))))))))))))))))) (by decide)).2.1
        have kp321 : gP σ89 th 7 = gP σ88 th 7 := (cσ89.O (kth.up (xσ49.trans (xσ50.trans (xσ51.trans (xσ55.trans (xσ57.trans (xσ68.trans (xσ70.trans (xσ72.trans (xσ73.trans (xσ74.trans (xσ77.trans (xσ78.trans (xσ79.trans (xσ82.trans (xσ83.trans (xσ84.trans (xσ85.trans xσ88)))))))))))))))))) (by decide)).2.1
        have kp322 : gP σ89 th 8 = gP σ88 th 8 := (cσ89.O (kth.up (xσ49.trans (xσ50.trans (xσ51.trans (xσ55.trans (xσ57.trans (xσ68.trans (xσ70.trans (xσ72.trans (xσ73.trans (xσ74.trans (xσ77.trans (xσ78.trans (xσ79.trans (xσ82.trans (xσ83.trans (xσ84.trans (xσ85.trans xσ88)))))))))))))))))) (by decide)).2.1
        have kp323 : Kpt (gI σ89 J 7 = gI σ J 7) := Eq.trans (show gI σ89 J 7 = gI σ88 J 7 from (cσ89.O (kJ.up (xσ49.trans (xσ50.trans (xσ51.trans (xσ55.trans (xσ57.trans (xσ68.trans (xσ70.trans (xσ72.trans (xσ73.trans (xσ74.trans (xσ77.trans (xσ78.trans (xσ79.trans (xσ82.trans (xσ83.trans (xσ84.trans (xσ85.trans xσ88)))))))))))))))))) (by decide)).1) kp306
        have kp324 : Kpt (gI σ89 J 1 = gI σ J 1) := Eq.trans (show gI σ89 J 1 = gI σ88 J 1 from (cσ89.O (kJ.up (xσ49.trans (xσ50.trans (xσ51.trans (xσ55.trans (xσ57.trans (xσ68.trans (xσ70.trans (xσ72.trans (xσ73.trans (xσ74.trans (xσ77.trans (xσ78.trans (xσ79.trans (xσ82.trans (xσ83.trans (xσ84.trans (xσ85.trans xσ88)))))))))))))))))) (by decide)).1) kp307
        have kp325 : Kpt (gI σ89 J 2 = gI σ J 2) := Eq.trans (show gI σ89 J 2 = gI σ88 J 2 from (cσ89.O (kJ.up (xσ49.trans (xσ50.trans (xσ51.trans (xσ55.trans (xσ57.trans (xσ68.trans (xσ70.trans (xσ72.trans (xσ73.trans (xσ74.trans (xσ77.trans (xσ78.trans (xσ79.trans (xσ82.trans (xσ83.trans (xσ84.trans (xσ85.trans xσ88)))))))))))))))))) (by decide)).1) kp308
        have kp326 : Kpt (gI σ89 o 3 = gI σ70 o 3) := Eq.trans (show gI σ89 o 3 = gI σ88 o 3 from (cσ89.O (ko.up (xσ49.trans (xσ50.trans (xσ51.trans (xσ55.trans (xσ57.trans (xσ68.trans (xσ70.trans (xσ72.trans (xσ73.trans (xσ74.trans (xσ77.trans (xσ78.trans (xσ79.trans (xσ82.trans (xσ83.trans (xσ84.trans (xσ85.trans xσ88)))))))))))))))))) (by decide)).1) kp309
        have kp327 : Kpt (gI σ89 o 4 = gI σ o 4) := Eq.trans (show gI σ89 o 4 = gI σ88 o 4 from (cσ89.O (ko.up (xσ49.trans (xσ50.trans (xσ51.trans (xσ55.trans (xσ57.trans (xσ68.trans (xσ70.trans (xσ72.trans (xσ73.trans (xσ74.trans (xσ77.trans (xσ78.trans (xσ79.trans (xσ82.trans (xσ83.trans (xσ84.trans (xσ85.trans xσ88)))))))))))))))))) (by decide)).1) kp310
        have kp328 : Kpt (gI σ89 o 6 = gI σ50 o 6) := Eq.trans (show gI σ89 o 6 = gI σ88 o 6 from (cσ89.O (ko.up (xσ49.trans (xσ50.trans (xσ51.trans (xσ55.trans (xσ57.trans (xσ68.trans (xσ70.trans (xσ72.trans (xσ73.trans (xσ74.trans (xσ77.trans (xσ78.trans (xσ79.trans (xσ82.trans (xσ83.trans (xσ84.trans (xσ85.trans xσ88)))))))))))))))))) (by decide)).1) kp311
        have kp329 : Kpt (gI σ89 o 7 = gI σ50 o 7) := Eq.trans (show gI σ89 o 7 = gI σ88 o 7 from (cσ89.O (ko.up (xσ49.trans (xσ50.trans (xσ51.trans (xσ55.trans (xσ57.trans (xσ68.trans (xσ70.trans (xσ72.trans (xσ73.trans (xσ74.trans (xσ77.trans (xσ78.trans (xσ79.trans (xσ82.trans (xσ83.trans (xσ84.trans (xσ85.trans xσ88)))))))))))))))))) (by decide)).1) kp312
        have kp330 : Kpt (gI σ89 o 8 = gI σ57 o 8) := Eq.trans (show gI σ89 o 8 = gI σ88 o 8 from (cσ89.O (ko.up (xσ49.trans (xσ50.trans (xσ51.trans (xσ55.trans (xσ57.trans (xσ68.trans (xσ70.trans (xσ72.trans (xσ73.trans (xσ74.trans (xσ77.trans (xσ78.trans (xσ79.trans (xσ82.trans (xσ83.trans (xσ84.trans (xσ85.trans xσ88)))))))))))))))))) (by decide)).1) kp313
        have kp331 : Kpt (gI σ89 o 9 = gI σ o 9) := Eq.trans (show gI σ89 o 9 = gI σ88 o 9 from (cσ89.O (ko.up (xσ49.trans (xσ50.trans (xσ51.trans (xσ55.trans (xσ57.trans (xσ68.trans (xσ70.trans (xσ72.trans (xσ73.trans (xσ74.trans (xσ77.trans (xσ78.trans (xσ79.trans (xσ82.trans (xσ83.trans (xσ84.trans (xσ85.trans xσ88)))))))))))))))))) (by decide)).1) kp314
        have r5σ89 := I_6_5 iσ89.1 (kth.up (xσ49.trans (xσ50.trans (xσ51.trans (xσ55.trans (xσ57.trans (xσ68.trans (xσ70.trans (xσ72.trans (xσ73.trans (xσ74.trans (xσ77.trans (xσ78.trans (xσ79.trans (xσ82.trans (xσ83.trans (xσ84.trans (xσ85.trans (xσ88.trans xσ89)))))))))))))))))))
        refine i_X6_signedNumber iσ89 (kth.up (xσ49.trans (xσ50.trans (xσ51.trans (xσ55.trans (xσ57.trans (xσ68.trans (xσ70.trans (xσ72.trans (xσ73.trans (xσ74.trans (xσ77.trans (xσ78.trans (xσ79.trans (xσ82.trans (xσ83.trans (xσ84.trans (xσ85.trans (xσ88.trans xσ89))))))))))))))))))) (kp320.trans (kp300.trans (kp284.trans (kp268.trans (kp242.trans (kp223.trans (kp205.trans (kp190.trans (kp172.trans (kp155.trans (kp141.trans (kp127.trans (kp111.trans (kp96.trans (kp66.trans (kp51.trans (kp35.trans (kp22.trans (kp16.trans hX0))))))))))))))))))) (kX.up (xσ49.trans (xσ50.trans (xσ51.trans (xσ55.trans (xσ57.trans (xσ68.trans (xσ70.trans (xσ72.trans (xσ73.trans (xσ74.trans (xσ77.trans (xσ78.trans (xσ79.trans (xσ82.trans (xσ83.trans (xσ84.trans (xσ85.trans (xσ88.trans xσ89))))))))))))))))))) (((xσ49.trans (xσ50.trans (xσ51.trans (xσ55.trans (xσ57.trans (xσ68.trans (xσ70.trans (xσ72.trans (xσ73.trans (xσ74.trans (xσ77.trans (xσ78.trans (xσ79.trans (xσ82.trans (xσ83.trans (xσ84.trans (xσ85.trans (xσ88.trans xσ89)))))))))))))))))) tx kX.1).2.2.trans gX) (by (first | omega | with_reducible assumption | with_reducible exact rng_toInt _ | with_reducible exact rng_wr _ | (unfold rng; omega) | (unfold rng at *; omega) | assumption)) (by (first | omega | with_reducible assumption | with_reducible exact rng_toInt _ | with_reducible exact rng_wr _ | (unfold rng; omega) | (unfold rng at *; omega) | assumption)) (fun σ90 r91 iσ90 cσ90 pσ90 => ?_) (fun σx LLx Nx nux E ix cx ux px => hX σx LLx Nx nux E ix (fσ89.tr (cx.mo (by decide))) (ux) (by first | exact px | exact ⟨by have := px.1; omega, px.2⟩ | (first | omega | with_reducible assumption | with_reducible exact rng_toInt _ | with_reducible exact rng_wr _ | (unfold rng; omega) | (unfold rng at *; omega) | assumption)))
        intro xσ90
        have fσ90 : Fx [323, 326, 327, 328, 333, 334, 335, 336, 386, 387, 388, 389, 390, 6464] gr σ σ90 := fσ89.tr (cσ90.mo (by decide))
        have oxcσ90 : OX o σ σ90 := oxcσ89.tr (OX.fx cσ90 (by decide) (by decide)) (xσ49.trans (xσ50.trans (xσ51.trans (xσ55.trans (xσ57.trans (xσ68.trans (xσ70.trans (xσ72.trans (xσ73.trans (xσ74.trans (xσ77.trans (xσ78.trans (xσ79.trans (xσ82.trans (xσ83.trans (xσ84.trans (xσ85.trans (xσ88.trans xσ89))))))))))))))))))
        have kp332 : gI σ90 o 13 = gI σ89 o 13 := (cσ90.O (ko.up (xσ49.trans (xσ50.trans (xσ51.trans (xσ55.trans (xσ57.trans (xσ68.trans (xσ70.trans (xσ72.trans (xσ73.trans (xσ74.trans (xσ77.trans (xσ78.trans (xσ79.trans (xσ82.trans (xσ83.trans (xσ84.trans (xσ85.trans (xσ88.trans xσ89))))))))))))))))))) (by decide)).1
        have kp333 : gI σ90 o 14 = gI σ89 o 14 := (cσ90.O (ko.up (xσ49.trans (xσ50.trans (xσ51.trans (xσ55.trans (xσ57.trans (xσ68.trans (xσ70.trans (xσ72.trans (xσ73.trans (xσ74.trans (xσ77.trans (xσ78.trans (xσ79.trans (xσ82.trans (xσ83.trans (xσ84.trans (xσ85.trans (xσ88.trans xσ89))))))))))))))))))) (by decide)).1
        have kp334 : gI σ90 o 15 = gI σ89 o 15 := (cσ90.O (ko.up (xσ49.trans (xσ50.trans (xσ51.trans (xσ55.trans (xσ57.trans (xσ68.trans (xσ70.trans (xσ72.trans (xσ73.trans (xσ74.trans (xσ77.trans (xσ78.trans (xσ79.trans (xσ82.trans (xσ83.trans (xσ84.trans (xσ85.trans (xσ88.trans xσ89))))))))))))))))))) (by decide)).1
        have kp335 : gP σ90 J 0 = gP σ89 J 0 := (cσ90.O (kJ.up (xσ49.trans (xσ50.trans (xσ51.trans (xσ55.trans (xσ57.trans (xσ68.trans (xσ70.trans (xσ72.trans (xσ73.trans (xσ74.trans (xσ77.trans (xσ78.trans (xσ79.trans (xσ82.trans (xσ83.trans (xσ84.trans (xσ85.trans (xσ88.trans xσ89))))))))))))))))))) (by decide)).2.1
        have kp336 : gP σ90 b (gI σ57 o 8).toNat = gP σ89 b (gI σ57 o 8).toNat := (cσ90.A (mb.up (xσ55.trans (xσ57.trans (xσ68.trans (xσ70.trans (xσ72.trans (xσ73.trans (xσ74.trans (xσ77.trans (xσ78.trans (xσ79.trans (xσ82.trans (xσ83.trans (xσ84.trans (xσ85.trans (xσ88.trans xσ89)))))))))))))))) (by decide)).2.1
        have kp337 : gP σ90 th 0 = gP σ89 th 0 := (cσ90.O (kth.up (xσ49.trans (xσ50.trans (xσ51.trans (xσ55.trans (xσ57.trans (xσ68.trans (xσ70.trans (xσ72.trans (xσ73.trans (xσ74.trans (xσ77.trans (xσ78.trans (xσ79.trans (xσ82.trans (xσ83.trans (xσ84.trans (xσ85.trans (xσ88.trans xσ89))))))))))))))))))) (by decide)).2.1
        have kp338 : gP σ90 th 7 = gP σ89 th 7 := (cσ90.O (kth.up (xσ49.trans (xσ50.trans (xσ51.trans (xσ55.trans (xσ57.trans (xσ68.trans (xσ70.trans (xσ72.trans (xσ73.trans (xσ74.trans (xσ77.trans (xσ78.trans (xσ79.trans (xσ82.trans (xσ83.trans (xσ84.trans (xσ85.trans (xσ88.trans xσ89))))))))))))))))))) (by decide)).2.1
        have kp339 : gP σ90 th 8 = gP σ89 th 8 := (cσ90.O (kth.up (xσ49.trans (xσ50.trans (xσ51.trans (xσ55.trans (xσ57.trans (xσ68.trans (xσ70.trans (xσ72.trans (xσ73.trans (xσ74.trans (xσ77.trans (xσ78.trans (xσ79.trans (xσ82.trans (xσ83.trans (xσ84.trans (xσ85.trans (xσ88.trans xσ89))))))))))))))))))) (by decide)).2.1
        have kp340 : Kpt (gI σ90 J 7 = gI σ J 7) := Eq.trans (show gI σ90 J 7 = gI σ89 J 7 from (cσ90.O (kJ.up (xσ49.trans (xσ50.trans (xσ51.trans (xσ55.trans (xσ57.trans (xσ68.trans (xσ70.trans (xσ72.trans (xσ73.trans (xσ74.trans (xσ77.trans (xσ78.trans (xσ79.trans (xσ82.trans (xσ83.trans (xσ84.trans (xσ85.trans (xσ88.trans xσ89))))))))))))))))))) (by decide)).1) kp323
        have kp341 : Kpt (gI σ90 J 1 = gI σ J 1) := Eq.trans (show gI σ90 J 1 = gI σ89 J 1 from (cσ90.O (kJ.up (xσ49.trans (xσ50.trans (xσ51.trans (xσ55.trans (xσ57.trans (xσ68.trans (xσ70.trans (xσ72.trans (xσ73.trans (xσ74.trans (xσ77.trans (xσ78.trans (xσ79.trans (xσ82.trans (xσ83.trans (xσ84.trans (xσ85.trans (xσ88.trans xσ89))))))))))))))))))) (by decide)).1) kp324
        have kp342 : Kpt (gI σ90 J 2 = gI σ J 2) := Eq.trans (show gI σ90 J 2 = gI σ89 J 2 from (cσ90.O (kJ.up (xσ49.trans (xσ50.trans (xσ51.trans (xσ55.trans (xσ57.trans (xσ68.trans (xσ70.trans (xσ72.trans (xσ73.trans (xσ74.trans (xσ77.trans (xσ78.trans (xσ79.trans (xσ82.trans (xσ83.trans (xσ84.trans (xσ85.trans (xσ88.trans xσ89))))))))))))))))))) (by decide)).1) kp325
        have kp343 : Kpt (gI σ90 o 3 = gI σ70 o 3) := Eq.trans (show gI σ90 o 3 = gI σ89 o 3 from (cσ90.O (ko.up (xσ49.trans (xσ50.trans (xσ51.trans (xσ55.trans (xσ57.trans (xσ68.trans (xσ70.trans (xσ72.trans (xσ73.trans (xσ74.trans (xσ77.trans (xσ78.trans (xσ79.trans (xσ82.trans (xσ83.trans (xσ84.trans (xσ85.trans (xσ88.trans xσ89))))))))))))))))))) (by decide)).1) kp326
        have kp344 : Kpt (gI σ90 o 4 = gI σ o 4) := Eq.trans (show gI σ90 o 4 = gI σ89 o 4 from (cσ90.O (ko.up (xσ49.trans (xσ50.trans (xσ51.trans (xσ55.trans (xσ57.trans (xσ68.trans (xσ70.trans (xσ72.trans (xσ73.trans (xσ74.trans (xσ77.trans (xσ78.trans (xσ79.trans (xσ82.trans (xσ83.trans (xσ84.trans (xσ85.trans (xσ88.trans xσ89))))))))))))))))))) (by decide)).1) kp327
        have kp345 : Kpt (gI σ90 o 6 = gI σ50 o 6) := Eq.trans (show gI σ90 o 6 = gI σ89 o 6 from (cσ90.O (ko.up (xσ49.trans (xσ50.trans (xσ51.trans (xσ55.trans (xσ57.trans (xσ68.trans (xσ70.trans (xσ72.trans (xσ73.trans (xσ74.trans (xσ77.trans (xσ78.trans (xσ79.trans (xσ82.trans (xσ83.trans (xσ84.trans (xσ85.trans (xσ88.trans xσ89))))))))))))))))))) (by decide)).1) kp328
        have kp346 : Kpt (gI σ90 o 7 = gI σ50 o 7) := Eq.trans (show gI σ90 o 7 = gI σ89 o 7 from (cσ90.O (ko.up (xσ49.trans (xσ50.trans (xσ51.trans (xσ55.trans (xσ57.trans (xσ68.trans (xσ70.trans (xσ72.trans (xσ73.trans (xσ74.trans (xσ77.trans (xσ78.trans (xσ79.trans (xσ82.trans (xσ83.trans (xσ84.trans (xσ85.trans (xσ88.trans xσ89))))))))))))))))))) (by decide)).1) kp329
        have kp347 : Kpt (gI σ90 o 8 = gI σ57 o 8) := Eq.trans (show gI σ90 o 8 = gI σ89 o 8 from (cσ90.O (ko.up (xσ49.trans (xσ50.trans (xσ51.trans (xσ55.trans (xσ57.trans (xσ68.trans (xσ70.trans (xσ72.trans (xσ73.trans (xσ74.trans (xσ77.trans (xσ78.trans (xσ79.trans (xσ82.trans (xσ83.trans (xσ84.trans (xσ85.trans (xσ88.trans xσ89))))))))))))))))))) (by decide)).1) kp330
        have kp348 : Kpt (gI σ90 o 9 = gI σ o 9) := Eq.trans (show gI σ90 o 9 = gI σ89 o 9 from (cσ90.O (ko.up (xσ49.trans (xσ50.trans (xσ51.trans (xσ55.trans (xσ57.trans (xσ68.trans (xσ70.trans (xσ72.trans (xσ73.trans (xσ74.trans (xσ77.trans (xσ78.trans (xσ79.trans (xσ82.trans (xσ83.trans (xσ84.trans (xσ85.trans (xσ88.trans xσ89))))))))))))))))))) (by decide)).1) kp331
        have r5σ90 := I_6_5 iσ90.1 (kth.up (xσ49.trans (xσ50.trans (xσ51.trans (xσ55.trans (xσ57.trans (xσ68.trans (xσ70.trans (xσ72.trans (xσ73.trans (xσ74.trans (xσ77.trans (xσ78.trans (xσ79.trans (xσ82.trans (xσ83.trans (xσ84.trans (xσ85.trans (xσ88.trans (xσ89.trans xσ90))))))))))))))))))))
        refine ⟨o, (kp322.trans (kp302.trans (kp286.trans (kp270.trans (kp244.trans (kp225.trans (kp207.trans (kp192.trans (kp174.trans (kp157.trans (kp143.trans (kp129.trans (kp113.trans (kp98.trans (kp68.trans (kp53.trans (kp37.trans (kp24.trans (kp18.trans h8))))))))))))))))))), fun kk_o_7 => ?_⟩
        intro σ93 eσ93
        have xσ93 : Ext σ90 σ93 := by rw [eσ93]; exact fun _ h => ⟨h, rfl, rfl⟩
        have iσ93 : IV σ93 pl gq ci gr nc ot LL N nu := by rw [eσ93]; exact iσ90.wSp (ko.up (xσ49.trans (xσ50.trans (xσ51.trans (xσ55.trans (xσ57.trans (xσ68.trans (xσ70.trans (xσ72.trans (xσ73.trans (xσ74.trans (xσ77.trans (xσ78.trans (xσ79.trans (xσ82.trans (xσ83.trans (xσ84.trans (xσ85.trans (xσ88.trans (xσ89.trans xσ90)))))))))))))))))))) (fun i hi => by omega) (by decide) (show (-1000 : Int) ≤ r91 ∧ r91 ≤ 1000 from ⟨by omega, by omega⟩)
        have fσ93 : Fx [323, 326, 327, 328, 333, 334, 335, 336, 386, 387, 388, 389, 390, 6464] gr σ σ93 := fσ90.tr (Sk.fx (by rw [eσ93]; exact Sk.pI (by rw [fcdO (ko.up (xσ49.trans (xσ50.trans (xσ51.trans (xσ55.trans (xσ57.trans (xσ68.trans (xσ70.trans (xσ72.trans (xσ73.trans (xσ74.trans (xσ77.trans (xσ78.trans (xσ79.trans (xσ82.trans (xσ83.trans (xσ84.trans (xσ85.trans (xσ88.trans (xσ89.trans xσ90)))))))))))))))))))) (by decide)]; decide)))
        have oxcσ93 : OX o σ σ93 := oxcσ90.tr (by rw [eσ93]; exact OX.pI (ko.up (xσ49.trans (xσ50.trans (xσ51.trans (xσ55.trans (xσ57.trans (xσ68.trans (xσ70.trans (xσ72.trans (xσ73.trans (xσ74.trans (xσ77.trans (xσ78.trans (xσ79.trans (xσ82.trans (xσ83.trans (xσ84.trans (xσ85.trans (xσ88.trans (xσ89.trans xσ90)))))))))))))))))))) (Or.inr rfl)) (xσ49.trans (xσ50.trans (xσ51.trans (xσ55.trans (xσ57.trans (xσ68.trans (xσ70.trans (xσ72.trans (xσ73.trans (xσ74.trans (xσ77.trans (xσ78.trans (xσ79.trans (xσ82.trans (xσ83.trans (xσ84.trans (xσ85.trans (xσ88.trans (xσ89.trans xσ90)))))))))))))))))))
        have wσ93 : gI σ93 o 16 = r91 := by rw [eσ93]; exact up2_s _ _ _ _
        have kp349 : gI σ93 o 13 = gI σ90 o 13 := by rw [eσ93]; exact up2_n _ _ (fun q => absurd q.2 (by decide))
        have kp350 : gI σ93 o 14 = gI σ90 o 14 := by rw [eσ93]; exact up2_n _ _ (fun q => absurd q.2 (by decide))
        have kp351 : gI σ93 o 15 = gI σ90 o 15 := by rw [eσ93]; exact up2_n _ _ (fun q => absurd q.2 (by decide))
        have kp352 : gP σ93 J 0 = gP σ90 J 0 := by rw [eσ93]
        have kp353 : gP σ93 b (gI σ57 o 8).toNat = gP σ90 b (gI σ57 o 8).toNat := by rw [eσ93]
        have kp354 : gP σ93 th 0 = gP σ90 th 0 := by rw [eσ93]
        have kp355 : gP σ93 th 7 = gP σ90 th 7 := by rw [eσ93]
        have kp356 : gP σ93 th 8 = gP σ90 th 8 := by rw [eσ93]
        have kp357 : gI σ93 th 2 = gI σ90 th 2 := by rw [eσ93]; exact up2_n _ _ (fun q => absurd q.2 (by decide))
        have kp358 : gI σ93 th 3 = gI σ90 th 3 := by rw [eσ93]; exact up2_n _ _ (fun q => absurd q.2 (by decide))
        have kp359 : gI σ93 th 5 = gI σ90 th 5 := by rw [eσ93]; exact up2_n _ _ (fun q => absurd q.2 (by decide))
        have kp360 : Kpt (gI σ93 J 7 = gI σ J 7) := Eq.trans (show gI σ93 J 7 = gI σ90 J 7 from by rw [eσ93]; exact up2_n _ _ (fun q => absurd q.2 (by decide))) kp340
        have kp361 : Kpt (gI σ93 J 1 = gI σ J 1) := Eq.trans (show gI σ93 J 1 = gI σ90 J 1 from by rw [eσ93]; exact up2_n _ _ (fun q => absurd q.2 (by decide))) kp341
        have kp362 : Kpt (gI σ93 J 2 = gI σ J 2) := Eq.trans (show gI σ93 J 2 = gI σ90 J 2 from by rw [eσ93]; exact up2_n _ _ (fun q => absurd q.2 (by decide))) kp342
        have kp363 : Kpt (gI σ93 o 3 = gI σ70 o 3) := Eq.trans (show gI σ93 o 3 = gI σ90 o 3 from by rw [eσ93]; exact up2_n _ _ (fun q => absurd q.2 (by decide))) kp343
        have kp364 : Kpt (gI σ93 o 4 = gI σ o 4) := Eq.trans (show gI σ93 o 4 = gI σ90 o 4 from by rw [eσ93]; exact up2_n _ _ (fun q => absurd q.2 (by decide))) kp344
        have kp365 : Kpt (gI σ93 o 6 = gI σ50 o 6) := Eq.trans (show gI σ93 o 6 = gI σ90 o 6 from by rw [eσ93]; exact up2_n _ _ (fun q => absurd q.2 (by decide))) kp345
        have kp366 : Kpt (gI σ93 o 7 = gI σ50 o 7) := Eq.trans (show gI σ93 o 7 = gI σ90 o 7 from by rw [eσ93]; exact up2_n _ _ (fun q => absurd q.2 (by decide))) kp346
        have kp367 : Kpt (gI σ93 o 8 = gI σ57 o 8) := Eq.trans (show gI σ93 o 8 = gI σ90 o 8 from by rw [eσ93]; exact up2_n _ _ (fun q => absurd q.2 (by decide))) kp347
        have kp368 : Kpt (gI σ93 o 9 = gI σ o 9) := Eq.trans (show gI σ93 o 9 = gI σ90 o 9 from by rw [eσ93]; exact up2_n _ _ (fun q => absurd q.2 (by decide))) kp348
        refine ⟨o, (kp356.trans (kp339.trans (kp322.trans (kp302.trans (kp286.trans (kp270.trans (kp244.trans (kp225.trans (kp207.trans (kp192.trans (kp174.trans (kp157.trans (kp143.trans (kp129.trans (kp113.trans (kp98.trans (kp68.trans (kp53.trans (kp37.trans (kp24.trans (kp18.trans h8))))))))))))))))))))), fun kk_o_8 => ?_⟩
        by_cases hc369 : gI σ93 o 15 ≤ gI σ93 o 16
        · rw [if_pos hc369]
          unfold w_X6_pairText_209
          refine i_X6_next iσ93 (kth.up (xσ49.trans (xσ50.trans (xσ51.trans (xσ55.trans (xσ57.trans (xσ68.trans (xσ70.trans (xσ72.trans (xσ73.trans (xσ74.trans (xσ77.trans (xσ78.trans (xσ79.trans (xσ82.trans (xσ83.trans (xσ84.trans (xσ85.trans (xσ88.trans (xσ89.trans (xσ90.trans xσ93))))))))))))))))))))) (kp354.trans (kp337.trans (kp320.trans (kp300.trans (kp284.trans (kp268.trans (kp242.trans (kp223.trans (kp205.trans (kp190.trans (kp172.trans (kp155.trans (kp141.trans (kp127.trans (kp111.trans (kp96.trans (kp66.trans (kp51.trans (kp35.trans (kp22.trans (kp16.trans hX0))))))))))))))))))))) (kX.up (xσ49.trans (xσ50.trans (xσ51.trans (xσ55.trans (xσ57.trans (xσ68.trans (xσ70.trans (xσ72.trans (xσ73.trans (xσ74.trans (xσ77.trans (xσ78.trans (xσ79.trans (xσ82.trans (xσ83.trans (xσ84.trans (xσ85.trans (xσ88.trans (xσ89.trans (xσ90.trans xσ93))))))))))))))))))))) (((xσ49.trans (xσ50.trans (xσ51.trans (xσ55.trans (xσ57.trans (xσ68.trans (xσ70.trans (xσ72.trans (xσ73.trans (xσ74.trans (xσ77.trans (xσ78.trans (xσ79.trans (xσ82.trans (xσ83.trans (xσ84.trans (xσ85.trans (xσ88.trans (xσ89.trans (xσ90.trans xσ93)))))))))))))))))))) tx kX.1).2.2.trans gX) (by (first | omega | with_reducible assumption | with_reducible exact rng_toInt _ | with_reducible exact rng_wr _ | (unfold rng; omega) | (unfold rng at *; omega) | assumption)) (by (first | omega | with_reducible assumption | with_reducible exact rng_toInt _ | with_reducible exact rng_wr _ | (unfold rng; omega) | (unfold rng at *; omega) | assumption)) (fun σ96 _ iσ96 cσ96 pσ96 => ?_) (fun σx LLx Nx nux E ix cx ux px => hX σx LLx Nx nux E ix (fσ93.tr (cx.mo (by decide))) (ux) (by first | exact px | exact ⟨by have := px.1; omega, px.2⟩ | (first | omega | with_reducible assumption | with_reducible exact rng_toInt _ | with_reducible exact rng_wr _ | (unfold rng; omega) | (unfold rng at *; omega) | assumption)))
          intro xσ96
          have fσ96 : Fx [323, 326, 327, 328, 333, 334, 335, 336, 386, 387, 388, 389, 390, 6464] gr σ σ96 := fσ93.tr (cσ96.mo (by decide))
          have oxcσ96 : OX o σ σ96 := oxcσ93.tr (OX.fx cσ96 (by decide) (by decide)) (xσ49.trans (xσ50.trans (xσ51.trans (xσ55.trans (xσ57.trans (xσ68.trans (xσ70.trans (xσ72.trans (xσ73.trans (xσ74.trans (xσ77.trans (xσ78.trans (xσ79.trans (xσ82.trans (xσ83.trans (xσ84.trans (xσ85.trans (xσ88.trans (xσ89.trans (xσ90.trans xσ93))))))))))))))))))))
          have kp370 : gI σ96 o 13 = gI σ93 o 13 := (cσ96.O (ko.up (xσ49.trans (xσ50.trans (xσ51.trans (xσ55.trans (xσ57.trans (xσ68.trans (xσ70.trans (xσ72.trans (xσ73.trans (xσ74.trans (xσ77.trans (xσ78.trans (xσ79.trans (xσ82.trans (xσ83.trans (xσ84.trans (xσ85.trans (xσ88.trans (xσ89.trans (xσ90.trans xσ93))))))))))))))))))))) (by decide)).1
          have kp371 : gI σ96 o 14 = gI σ93 o 14 := (cσ96.O (ko.up (xσ49.trans (xσ50.trans (xσ51.trans (xσ55.trans (xσ57.trans (xσ68.trans (xσ70.trans (xσ72.trans (xσ73.trans (xσ74.trans (xσ77.trans (xσ78.trans (xσ79.trans (xσ82.trans (xσ83.trans (xσ84.trans (xσ85.trans (xσ88.trans (xσ89.trans (xσ90.trans xσ93))))))))))))))))))))) (by decide)).1
          have kp372 : gI σ96 o 15 = gI σ93 o 15 := (cσ96.O (ko.up (xσ49.trans (xσ50.trans (xσ51.trans (xσ55.trans (xσ57.trans (xσ68.trans (xσ70.trans (xσ72.trans (xσ73.trans (xσ74.trans (xσ77.trans (xσ78.trans (xσ79.trans (xσ82.trans (xσ83.trans (xσ84.trans (xσ85.trans (xσ88.trans (xσ89.trans (xσ90.trans xσ93))))))))))))))))))))) (by decide)).1
          have kp373 : gI σ96 o 16 = gI σ93 o 16 := (cσ96.O (ko.up (xσ49.trans (xσ50.trans (xσ51.trans (xσ55.trans (xσ57.trans (xσ68.trans (xσ70.trans (xσ72.trans (xσ73.trans (xσ74.trans (xσ77.trans (xσ78.trans (xσ79.trans (xσ82.trans (xσ83.trans (xσ84.trans (xσ85.trans (xσ88.trans (xσ89.trans (xσ90.trans xσ93))))))))))))))))))))) (by decide)).1
          have kp374 : gP σ96 J 0 = gP σ93 J 0 := (cσ96.O (kJ.up (xσ49.trans (xσ50.trans (xσ51.trans (xσ55.trans (xσ57.trans (xσ68.trans (xσ70.trans (xσ72.trans (xσ73.trans (xσ74.trans (xσ77.trans (xσ78.trans (xσ79.trans (xσ82.trans (xσ83.trans (xσ84.trans (xσ85.trans (xσ88.trans (xσ89.trans (xσ90.trans xσ93))))))))))))))))))))) (by decide)).2.1
          have kp375 : gP σ96 b (gI σ57 o 8).toNat = gP σ93 b (gI σ57 o 8).toNat := (cσ96.A (mb.up (xσ55.trans (xσ57.trans (xσ68.trans (xσ70.trans (xσ72.trans (xσ73.trans (xσ74.trans (xσ77.trans (xσ78.trans (xσ79.trans (xσ82.trans (xσ83.trans (xσ84.trans (xσ85.trans (xσ88.trans (xσ89.trans (xσ90.trans xσ93)))))))))))))))))) (by decide)).2.1
          have kp376 : gP σ96 th 0 = gP σ93 th 0 := (cσ96.O (kth.up (xσ49.trans (xσ50.trans (xσ51.trans (xσ55.trans (xσ57.trans (xσ68.trans (xσ70.trans (xσ72.trans (xσ73.trans (xσ74.trans (xσ77.trans (xσ78.trans (xσ79.trans (xσ82.trans (xσ83.trans (xσ84.trans (xσ85.trans (xσ88.trans (xσ89.trans (xσ90.trans xσ93))))))))))))))))))))) (by decide)).2.1
          have kp377 : gP σ96 th 7 = gP σ93 th 7 := (cσ96.O (kth.up (xσ49.trans (xσ50.trans (xσ51.trans (xσ55.trans (xσ57.trans (xσ68.trans (xσ70.trans (xσ72.trans (xσ73.trans (xσ74.trans (xσ77.trans (xσ78.trans (xσ79.trans (xσ82.trans (xσ83.trans (xσ84.trans (xσ85.trans (xσ88.trans (xσ89.trans (xσ90.trans xσ93))))))))))))))))))))) (by decide)).2.1
          have kp378 : gP σ96 th 8 = gP σ93 th 8 := (cσ96.O (kth.up (xσ49.trans (xσ50.trans (xσ51.trans (xσ55.trans (xσ57.trans (xσ68.trans (xσ70.trans (xσ72.trans (xσ73.trans (xσ74.trans (xσ77.trans (xσ78.trans (xσ79.trans (xσ82.trans (xσ83.trans (xσ84.trans (xσ85.trans (xσ88.trans (xσ89.trans (xσ90.trans xσ93))))))))))))))))))))) (by decide)).2.1
          have kp379 : Kpt (gI σ96 J 7 = gI σ J 7) := Eq.trans (show gI σ96 J 7 = gI σ93 J 7 from (cσ96.O (kJ.up (xσ49.trans (xσ50.trans (xσ51.trans (xσ55.trans (xσ57.trans (xσ68.trans (xσ70.trans (xσ72.trans (xσ73.trans (xσ74.trans (xσ77.trans (xσ78.trans (xσ79.trans (xσ82.trans (xσ83.trans (xσ84.trans (xσ85.trans (xσ88.trans (xσ89.trans (xσ90.trans xσ93))))))))))))))))))))) (by decide)).1) kp360
          have kp380 : Kpt (gI σ96 J 1 = gI σ J 1) := Eq.trans (show gI σ96 J 1 = gI σ93 J 1 from (cσ96.O (kJ.up (xσ49.trans (xσ50.trans (xσ51.trans (xσ55.trans (xσ57.trans (xσ68.trans (xσ70.trans (xσ72.trans (xσ73.trans (xσ74.trans (xσ77.trans (xσ78.trans (xσ79.trans (xσ82.trans (xσ83.trans (xσ84.trans (xσ85.trans (xσ88.trans (xσ89.trans (xσ90.trans xσ93))))))))))))))))))))) (by decide)).1) kp361
          have kp381 : Kpt (gI σ96 J 2 = gI σ J 2) := Eq.trans (show gI σ96 J 2 = gI σ93 J 2 from (cσ96.O (kJ.up (xσ49.trans (xσ50.trans (xσ51.trans (xσ55.trans (xσ57.trans (xσ68.trans (xσ70.trans (xσ72.trans (xσ73.trans (xσ74.trans (xσ77.trans (xσ78.trans (xσ79.trans (xσ82.trans (xσ83.trans (xσ84.trans (xσ85.trans (xσ88.trans (xσ89.trans (xσ90.trans xσ93))))))))))))))))))))) (by decide)).1) kp362
          have kp382 : Kpt (gI σ96 o 3 = gI σ70 o 3) := Eq.trans (show gI σ96 o 3 = gI σ93 o 3 from (cσ96.O (ko.up (xσ49.trans (xσ50.trans (xσ51.trans (xσ55.trans (xσ57.trans (xσ68.trans (xσ70.trans (xσ72.trans (xσ73.trans (xσ74.trans (xσ77.trans (xσ78.trans (xσ79.trans (xσ82.trans (xσ83.trans (xσ84.trans (xσ85.trans (xσ88.trans (xσ89.trans (xσ90.trans xσ93))))))))))))))))))))) (by decide)).1) kp363
          have kp383 : Kpt (gI σ96 o 4 = gI σ o 4) := Eq.trans (show gI σ96 o 4 = gI σ93 o 4 from (cσ96.O (ko.up (xσ49.trans (xσ50.trans (xσ51.trans (xσ55.trans (xσ57.trans (xσ68.trans (xσ70.trans (xσ72.trans (xσ73.trans (xσ74.trans (xσ77.trans (xσ78.trans (xσ79.trans (xσ82.trans (xσ83.trans (xσ84.trans (xσ85.trans (xσ88.trans (xσ89.trans (xσ90.trans xσ93))))))))))))))))))))) (by decide)).1) kp364
          have kp384 : Kpt (gI σ96 o 6 = gI σ50 o 6) := Eq.trans (show gI σ96 o 6 = gI σ93 o 6 from (cσ96.O (ko.up (xσ49.trans (xσ50.trans (xσ51.trans (xσ55.trans (xσ57.trans (xσ68.trans (xσ70.trans (xσ72.trans (xσ73.trans (xσ74.trans (xσ77.trans (xσ78.trans (xσ79.trans (xσ82.trans (xσ83.trans (xσ84.trans (xσ85.trans (xσ88.trans (xσ89.trans (xσ90.trans xσ93))))))))))))))))))))) (by decide)).1) kp365
          have kp385 : Kpt (gI σ96 o 7 = gI σ50 o 7) := Eq.trans (show gI σ96 o 7 = gI σ93 o 7 from (cσ96.O (ko.up (xσ49.trans (xσ50.trans (xσ51.trans (xσ55.trans (xσ57.trans (xσ68.trans (xσ70.trans (xσ72.trans (xσ73.trans (xσ74.trans (xσ77.trans (xσ78.trans (xσ79.trans (xσ82.trans (xσ83.trans (xσ84.trans (xσ85.trans (xσ88.trans (xσ89.trans (xσ90.trans xσ93))))))))))))))))))))) (by decide)).1) kp366
          have kp386 : Kpt (gI σ96 o 8 = gI σ57 o 8) := Eq.trans (show gI σ96 o 8 = gI σ93 o 8 from (cσ96.O (ko.up (xσ49.trans (xσ50.trans (xσ51.trans (xσ55.trans (xσ57.trans (xσ68.trans (xσ70.trans (xσ72.trans (xσ73.trans (xσ74.trans (xσ77.trans (xσ78.trans (xσ79.trans (xσ82.trans (xσ83.trans (xσ84.trans (xσ85.trans (xσ88.trans (xσ89.trans (xσ90.trans xσ93))))))))))))))))))))) (by decide)).1) kp367
          have kp387 : Kpt (gI σ96 o 9 = gI σ o 9) := Eq.trans (show gI σ96 o 9 = gI σ93 o 9 from (cσ96.O (ko.up (xσ49.trans (xσ50.trans (xσ51.trans (xσ55.trans (xσ57.trans (xσ68.trans (xσ70.trans (xσ72.trans (xσ73.trans (xσ74.trans (xσ77.trans (xσ78.trans (xσ79.trans (xσ82.trans (xσ83.trans (xσ84.trans (xσ85.trans (xσ88.trans (xσ89.trans (xσ90.trans xσ93))))))))))))))))))))) (by decide)).1) kp368
          have r5σ96 := I_6_5 iσ96.1 (kth.up (xσ49.trans (xσ50.trans (xσ51.trans (xσ55.trans (xσ57.trans (xσ68.trans (xσ70.trans (xσ72.trans (xσ73.trans (xσ74.trans (xσ77.trans (xσ78.trans (xσ79.trans (xσ82.trans (xσ83.trans (xσ84.trans (xσ85.trans (xσ88.trans (xσ89.trans (xσ90.trans (xσ93.trans xσ96))))))))))))))))))))))
          unfold w_X6_pairText_213
          have ho388 : gI σ96 J 7 = gI σ J 7 := kp379
          have ho389 : gI σ96 J 1 = gI σ J 1 := kp380
          have ho390 : gI σ96 J 2 = gI σ J 2 := kp381
          have ho391 : gI σ96 o 3 = gI σ70 o 3 := kp382
          have ho392 : gI σ96 o 4 = gI σ o 4 := kp383
          have ho393 : gI σ96 o 6 = gI σ50 o 6 := kp384
          have ho394 : gI σ96 o 7 = gI σ50 o 7 := kp385
          have ho395 : gI σ96 o 8 = gI σ57 o 8 := kp386
          have ho396 : gI σ96 o 9 = gI σ o 9 := kp387
          exact hQ σ96 () iσ96 fσ96 oxcσ96 (⟨by omega, by omega, ⟨by omega, (fun _ a ka ga => by have w9 := wf a ka (by omega); omega), (fun h => absurd h (by omega))⟩⟩)
        · rw [if_neg hc369]
          unfold w_X6_pairText_203
          refine i_X6_refuse iσ93 (kth.up (xσ49.trans (xσ50.trans (xσ51.trans (xσ55.trans (xσ57.trans (xσ68.trans (xσ70.trans (xσ72.trans (xσ73.trans (xσ74.trans (xσ77.trans (xσ78.trans (xσ79.trans (xσ82.trans (xσ83.trans (xσ84.trans (xσ85.trans (xσ88.trans (xσ89.trans (xσ90.trans xσ93))))))))))))))))))))) (by (first | omega | with_reducible assumption | with_reducible exact rng_toInt _ | with_reducible exact rng_wr _ | (unfold rng; omega) | (unfold rng at *; omega) | assumption)) (by (first | omega | with_reducible assumption | with_reducible exact rng_toInt _ | with_reducible exact rng_wr _ | (unfold rng; omega) | (unfold rng at *; omega) | assumption)) (by (first | omega | with_reducible assumption | with_reducible exact rng_toInt _ | with_reducible exact rng_wr _ | (unfold rng; omega) | (unfold rng at *; omega) | assumption)) (fun σ95 _ iσ95 cσ95 pσ95 => ?_) (fun σx LLx Nx nux E ix cx ux px => hX σx LLx Nx nux E ix (fσ93.tr (cx.mo (by decide))) (ux) (by first | exact px | exact ⟨by have := px.1; omega, px.2⟩ | (first | omega | with_reducible assumption | with_reducible exact rng_toInt _ | with_reducible exact rng_wr _ | (unfold rng; omega) | (unfold rng at *; omega) | assumption)))
          intro xσ95
          exact pσ95.elim
    · rw [if_neg hc92]
      unfold w_X6_pairText_84
      refine i_X6_refuse iσ57 (kth.up (xσ49.trans (xσ50.trans (xσ51.trans (xσ55.trans xσ57))))) (by (first | omega | with_reducible assumption | with_reducible exact rng_toInt _ | with_reducible exact rng_wr _ | (unfold rng; omega) | (unfold rng at *; omega) | assumption)) (by (first | omega | with_reducible assumption | with_reducible exact rng_toInt _ | with_reducible exact rng_wr _ | (unfold rng; omega) | (unfold rng at *; omega) | assumption)) (by (first | omega | with_reducible assumption | with_reducible exact rng_toInt _ | with_reducible exact rng_wr _ | (unfold rng; omega) | (unfold rng at *; omega) | assumption)) (fun σ67 _ iσ67 cσ67 pσ67 => ?_) (fun σx LLx Nx nux E ix cx ux px => hX σx LLx Nx nux E ix (fσ57.tr (cx.mo (by decide))) (ux) (by first | exact px | exact ⟨by have := px.1; omega, px.2⟩ | (first | omega | with_reducible assumption | with_reducible exact rng_toInt _ | with_reducible exact rng_wr _ | (unfold rng; omega) | (unfold rng at *; omega) | assumption)))
      intro xσ67
      exact pσ67.elim
  · rw [if_neg hc89]
    unfold w_X6_pairText_64
    refine i_X6_refuse iσ57 (kth.up (xσ49.trans (xσ50.trans (xσ51.trans (xσ55.trans xσ57))))) (by (first | omega | with_reducible assumption | with_reducible exact rng_toInt _ | with_reducible exact rng_wr _ | (unfold rng; omega) | (unfold rng at *; omega) | assumption)) (by (first | omega | with_reducible assumption | with_reducible exact rng_toInt _ | with_reducible exact rng_wr _ | (unfold rng; omega) | (unfold rng at *; omega) | assumption)) (by (first | omega | with_reducible assumption | with_reducible exact rng_toInt _ | with_reducible exact rng_wr _ | (unfold rng; omega) | (unfold rng at *; omega) | assumption)) (fun σ64 _ iσ64 cσ64 pσ64 => ?_) (fun σx LLx Nx nux E ix cx ux px => hX σx LLx Nx nux E ix (fσ57.tr (cx.mo (by decide))) (ux) (by first | exact px | exact ⟨by have := px.1; omega, px.2⟩ | (first | omega | with_reducible assumption | with_reducible exact rng_toInt _ | with_reducible exact rng_wr _ | (unfold rng; omega) | (unfold rng at *; omega) | assumption)))
    intro xσ64
    exact pσ64.elim
set_option maxHeartbeats 1000000 in
theorem i_X6_matchText {σ : Sg} {pl : Nat} {gq ci gr nc : Nat → Nat} {ot : Nat → Nat → Int} {LL : Nat → List Nat} {N nu : Nat → Nat} {th : Nat} {tx J o q c : Nat} (iσ : IV σ pl gq ci gr nc ot LL N nu) (kth : kO σ th 6) (hX0 : gP σ th 0 = some tx) (kX : kO σ tx 102) (gX : gn σ tx = 1500) (h7 : gP σ th 7 = some J) (kJ : kO σ J 4) (h8 : gP σ th 8 = some o) (ko : kO σ o 5) (hJq : gq J = q) (hq : q ≠ nc 0 ∧ q ≤ 1) (go : gq o = 16 * q + c) (hc : c < 16) (cJ : gI σ J 1 = (c : Int)) (tf : gI σ th 5 ≤ gI σ th 2 ∧ (gI σ th 3 ≠ 0 → gI σ th 5 + 1 ≤ gI σ th 2)) (h5 : nu 5 < 24000) (lp : gI σ J 7 ≤ 2 * gI σ th 5) (f0 : gI σ o 3 = 0 ∧ gI σ o 4 = 0 ∧ gI σ o 7 = -1 ∧ gI σ o 8 = -1) {Q : Sg → Unit → Prop} {X : Sg → String → Prop} (hQ : ∀ (σ' : Sg) (nu' : Nat → Nat) (r : Unit), IV σ' pl gq ci gr nc ot LL N nu' → Fx [261, 262, 263, 323, 324, 326, 327, 333, 336, 386, 387, 388, 389, 390, 6464, 8320] gr σ σ' → NC nu nu' → OX o σ σ' → ((gI σ' th 5 ≤ gI σ' th 2 ∧ (gI σ' th 3 ≠ 0 → gI σ' th 5 + 1 ≤ gI σ' th 2)) ∧ gI σ' J 7 ≤ 2 * gI σ' th 5 ∧ OPR σ σ' gq q c o) → Q σ' r) (hX : ∀ (σ' : Sg) (LL' : Nat → List Nat) (N' nu' : Nat → Nat) (E : String), IV σ' pl gq ci gr nc ot LL' N' nu' → Fx [261, 262, 263, 323, 324, 326, 327, 333, 336, 386, 387, 388, 389, 390, 6464, 8320] gr σ σ' → NCX nu nu' → (LL' = LL ∧ N' = N ∧ E = "java/lang/IllegalArgumentException" ∧ gI σ' th 6 ≠ 0) → X σ' E) : wp_X6_matchText th σ Q X := by
  have fσ : Fx [261, 262, 263, 323, 324, 326, 327, 333, 336, 386, 387, 388, 389, 390, 6464, 8320] gr σ σ := Fx.rf
  have oxσ : OX o σ σ := OX.rf
  have q1 := I_4_1 iσ.1 kJ
  have q2 := I_6_5 iσ.1 kth
  have q3 := I_6_2 iσ.1 kth
  have q4 := iσ.rg th 3; unfold rng at q4
  have q5 := I_4_7 iσ.1 kJ
  have q6 := I_5_3 iσ.1 ko
  have q7 := I_5_4 iσ.1 ko
  have q8 := I_5_7 iσ.1 ko
  have q9 := I_5_8 iσ.1 ko
  have ncb := iσ.ncb
  have r70 := I_4_7 iσ.1 kJ
  have r71 := I_4_1 iσ.1 kJ
  unfold wp_X6_matchText
  unfold w_X6_matchText_0
  refine i_X6_next iσ kth hX0 kX (((Ext.rfl' _) tx kX.1).2.2.trans gX) (by (first | omega | with_reducible assumption | with_reducible exact rng_toInt _ | with_reducible exact rng_wr _ | (unfold rng; omega) | (unfold rng at *; omega) | assumption)) (by (first | omega | with_reducible assumption | with_reducible exact rng_toInt _ | with_reducible exact rng_wr _ | (unfold rng; omega) | (unfold rng at *; omega) | assumption)) (fun σ39 _ iσ39 cσ39 pσ39 => ?_) (fun σx LLx Nx nux E ix cx ux px => hX σx LLx Nx nux E ix (fσ.tr (cx.mo (by decide))) (ux) (by first | exact px | exact ⟨by have := px.1; omega, px.2⟩ | (first | omega | with_reducible assumption | with_reducible exact rng_toInt _ | with_reducible exact rng_wr _ | (unfold rng; omega) | (unfold rng at *; omega) | assumption)))
  intro xσ39
  have fσ39 : Fx [261, 262, 263, 323, 324, 326, 327, 333, 336, 386, 387, 388, 389, 390, 6464, 8320] gr σ σ39 := fσ.tr (cσ39.mo (by decide))
  have oxcσ39 : OX o σ σ39 := oxσ.tr (OX.fx cσ39 (by decide) (by decide)) (Ext.rfl' _)
  have kp10 : Kpt (gI σ39 J 1 = gI σ J 1) := (cσ39.O kJ (by decide)).1
  have kp11 : Kpt (gI σ39 J 7 = gI σ J 7) := (cσ39.O kJ (by decide)).1
  have kp12 : Kpt (gI σ39 o 3 = gI σ o 3) := (cσ39.O ko (by decide)).1
  have kp13 : Kpt (gI σ39 o 4 = gI σ o 4) := (cσ39.O ko (by decide)).1
  have kp14 : Kpt (gI σ39 o 7 = gI σ o 7) := (cσ39.O ko (by decide)).1
  have kp15 : Kpt (gI σ39 o 8 = gI σ o 8) := (cσ39.O ko (by decide)).1
  have kp16 : gP σ39 th 0 = gP σ th 0 := (cσ39.O kth (by decide)).2.1
  have kp17 : gP σ39 th 7 = gP σ th 7 := (cσ39.O kth (by decide)).2.1
  have kp18 : gP σ39 th 8 = gP σ th 8 := (cσ39.O kth (by decide)).2.1
  have kp19 : Kpt (gI σ39 J 2 = gI σ J 2) := (cσ39.O kJ (by decide)).1
  have kp20 : Kpt (gI σ39 o 6 = gI σ o 6) := (cσ39.O ko (by decide)).1
  have kp21 : Kpt (gI σ39 o 9 = gI σ o 9) := (cσ39.O ko (by decide)).1
  have r5σ39 := I_6_5 iσ39.1 (kth.up xσ39)
  refine i_X6_firstInput iσ39 (kth.up xσ39) (kp17.trans h7) (kJ.up xσ39) (kp18.trans h8) (ko.up xσ39) (by (first | omega | with_reducible assumption | with_reducible exact rng_toInt _ | with_reducible exact rng_wr _ | (unfold rng; omega) | (unfold rng at *; omega) | assumption)) (by (first | omega | with_reducible assumption | with_reducible exact rng_toInt _ | with_reducible exact rng_wr _ | (unfold rng; omega) | (unfold rng at *; omega) | assumption)) (by (first | omega | with_reducible assumption | with_reducible exact rng_toInt _ | with_reducible exact rng_wr _ | (unfold rng; omega) | (unfold rng at *; omega) | assumption)) (by (first | omega | with_reducible assumption | with_reducible exact rng_toInt _ | with_reducible exact rng_wr _ | (unfold rng; omega) | (unfold rng at *; omega) | assumption)) (by (first | omega | with_reducible assumption | with_reducible exact rng_toInt _ | with_reducible exact rng_wr _ | (unfold rng; omega) | (unfold rng at *; omega) | assumption)) (by (first | omega | with_reducible assumption | with_reducible exact rng_toInt _ | with_reducible exact rng_wr _ | (unfold rng; omega) | (unfold rng at *; omega) | assumption)) (fun σ40 _ iσ40 cσ40 oxσ40 pσ40 => ?_) (fun σx LLx Nx nux E ix cx ux px => hX σx LLx Nx nux E ix (fσ39.tr (cx.mo (by decide))) (ux) (by first | exact px | exact ⟨by have := px.1; omega, px.2⟩ | (first | omega | with_reducible assumption | with_reducible exact rng_toInt _ | with_reducible exact rng_wr _ | (unfold rng; omega) | (unfold rng at *; omega) | assumption)))
  intro xσ40
  have fσ40 : Fx [261, 262, 263, 323, 324, 326, 327, 333, 336, 386, 387, 388, 389, 390, 6464, 8320] gr σ σ40 := fσ39.tr (cσ40.mo (by decide))
  have oxcσ40 : OX o σ σ40 := oxcσ39.tr oxσ40 (xσ39)
  have kp22 : gP σ40 th 0 = gP σ39 th 0 := (cσ40.O (kth.up xσ39) (by decide)).2.1
  have kp23 : gP σ40 th 7 = gP σ39 th 7 := (cσ40.O (kth.up xσ39) (by decide)).2.1
  have kp24 : gP σ40 th 8 = gP σ39 th 8 := (cσ40.O (kth.up xσ39) (by decide)).2.1
  have kp25 : gI σ40 th 2 = gI σ39 th 2 := (cσ40.O (kth.up xσ39) (by decide)).1
  have kp26 : gI σ40 th 3 = gI σ39 th 3 := (cσ40.O (kth.up xσ39) (by decide)).1
  have kp27 : gI σ40 th 5 = gI σ39 th 5 := (cσ40.O (kth.up xσ39) (by decide)).1
  have kp28 : Kpt (gI σ40 J 7 = gI σ J 7) := Eq.trans (show gI σ40 J 7 = gI σ39 J 7 from (cσ40.O (kJ.up xσ39) (by decide)).1) kp11
  have kp29 : Kpt (gI σ40 J 1 = gI σ J 1) := Eq.trans (show gI σ40 J 1 = gI σ39 J 1 from (cσ40.O (kJ.up xσ39) (by decide)).1) kp10
  have kp30 : Kpt (gI σ40 J 2 = gI σ J 2) := Eq.trans (show gI σ40 J 2 = gI σ39 J 2 from (cσ40.O (kJ.up xσ39) (by decide)).1) kp19
  have kp31 : Kpt (gI σ40 o 3 = gI σ o 3) := Eq.trans (show gI σ40 o 3 = gI σ39 o 3 from (cσ40.O (ko.up xσ39) (by decide)).1) kp12
  have kp32 : Kpt (gI σ40 o 4 = gI σ o 4) := Eq.trans (show gI σ40 o 4 = gI σ39 o 4 from (cσ40.O (ko.up xσ39) (by decide)).1) kp13
  have kp33 : Kpt (gI σ40 o 8 = gI σ o 8) := Eq.trans (show gI σ40 o 8 = gI σ39 o 8 from (cσ40.O (ko.up xσ39) (by decide)).1) kp15
  have kp34 : Kpt (gI σ40 o 9 = gI σ o 9) := Eq.trans (show gI σ40 o 9 = gI σ39 o 9 from (cσ40.O (ko.up xσ39) (by decide)).1) kp21
  refine i_X6_next iσ40 (kth.up (xσ39.trans xσ40)) (kp22.trans (kp16.trans hX0)) (kX.up (xσ39.trans xσ40)) (((xσ39.trans xσ40) tx kX.1).2.2.trans gX) (by (first | omega | with_reducible assumption | with_reducible exact rng_toInt _ | with_reducible exact rng_wr _ | (unfold rng; omega) | (unfold rng at *; omega) | assumption)) (by (first | omega | with_reducible assumption | with_reducible exact rng_toInt _ | with_reducible exact rng_wr _ | (unfold rng; omega) | (unfold rng at *; omega) | assumption)) (fun σ41 _ iσ41 cσ41 pσ41 => ?_) (fun σx LLx Nx nux E ix cx ux px => hX σx LLx Nx nux E ix (fσ40.tr (cx.mo (by decide))) (ux) (by first | exact px | exact ⟨by have := px.1; omega, px.2⟩ | (first | omega | with_reducible assumption | with_reducible exact rng_toInt _ | with_reducible exact rng_wr _ | (unfold rng; omega) | (unfold rng at *; omega) | assumption)))
  intro xσ41
  have fσ41 : Fx [261, 262, 263, 323, 324, 326, 327, 333, 336, 386, 387, 388, 389, 390, 6464, 8320] gr σ σ41 := fσ40.tr (cσ41.mo (by decide))
  have oxcσ41 : OX o σ σ41 := oxcσ40.tr (OX.fx cσ41 (by decide) (by decide)) (xσ39.trans xσ40)
  have kp35 : gP σ41 th 0 = gP σ40 th 0 := (cσ41.O (kth.up (xσ39.trans xσ40)) (by decide)).2.1
  have kp36 : gP σ41 th 7 = gP σ40 th 7 := (cσ41.O (kth.up (xσ39.trans xσ40)) (by decide)).2.1
  have kp37 : gP σ41 th 8 = gP σ40 th 8 := (cσ41.O (kth.up (xσ39.trans xσ40)) (by decide)).2.1
  have kp38 : Kpt (gI σ41 J 7 = gI σ J 7) := Eq.trans (show gI σ41 J 7 = gI σ40 J 7 from (cσ41.O (kJ.up (xσ39.trans xσ40)) (by decide)).1) kp28
  have kp39 : Kpt (gI σ41 J 1 = gI σ J 1) := Eq.trans (show gI σ41 J 1 = gI σ40 J 1 from (cσ41.O (kJ.up (xσ39.trans xσ40)) (by decide)).1) kp29
  have kp40 : Kpt (gI σ41 J 2 = gI σ J 2) := Eq.trans (show gI σ41 J 2 = gI σ40 J 2 from (cσ41.O (kJ.up (xσ39.trans xσ40)) (by decide)).1) kp30
  have kp41 : Kpt (gI σ41 o 3 = gI σ o 3) := Eq.trans (show gI σ41 o 3 = gI σ40 o 3 from (cσ41.O (ko.up (xσ39.trans xσ40)) (by decide)).1) kp31
  have kp42 : Kpt (gI σ41 o 4 = gI σ o 4) := Eq.trans (show gI σ41 o 4 = gI σ40 o 4 from (cσ41.O (ko.up (xσ39.trans xσ40)) (by decide)).1) kp32
  have kp43 : Kpt (gI σ41 o 6 = gI σ40 o 6) := (cσ41.O (ko.up (xσ39.trans xσ40)) (by decide)).1
  have kp44 : Kpt (gI σ41 o 7 = gI σ40 o 7) := (cσ41.O (ko.up (xσ39.trans xσ40)) (by decide)).1
  have kp45 : Kpt (gI σ41 o 8 = gI σ o 8) := Eq.trans (show gI σ41 o 8 = gI σ40 o 8 from (cσ41.O (ko.up (xσ39.trans xσ40)) (by decide)).1) kp33
  have kp46 : Kpt (gI σ41 o 9 = gI σ o 9) := Eq.trans (show gI σ41 o 9 = gI σ40 o 9 from (cσ41.O (ko.up (xσ39.trans xσ40)) (by decide)).1) kp34
  have r5σ41 := I_6_5 iσ41.1 (kth.up (xσ39.trans (xσ40.trans xσ41)))
  refine i_X6_wantWord iσ41 (kth.up (xσ39.trans (xσ40.trans xσ41))) (kp35.trans (kp22.trans (kp16.trans hX0))) (kX.up (xσ39.trans (xσ40.trans xσ41))) (((xσ39.trans (xσ40.trans xσ41)) tx kX.1).2.2.trans gX) (by (first | omega | with_reducible assumption | with_reducible exact rng_toInt _ | with_reducible exact rng_wr _ | (unfold rng; omega) | (unfold rng at *; omega) | assumption)) (by (first | omega | with_reducible assumption | with_reducible exact rng_toInt _ | with_reducible exact rng_wr _ | (unfold rng; omega) | (unfold rng at *; omega) | assumption)) (fun σ42 _ iσ42 cσ42 pσ42 => ?_) (fun σx LLx Nx nux E ix cx ux px => hX σx LLx Nx nux E ix (fσ41.tr (cx.mo (by decide))) (ux) (by first | exact px | exact ⟨by have := px.1; omega, px.2⟩ | (first | omega | with_reducible assumption | with_reducible exact rng_toInt _ | with_reducible exact rng_wr _ | (unfold rng; omega) | (unfold rng at *; omega) | assumption)))
  intro xσ42
  have fσ42 : Fx [261, 262, 263, 323, 324, 326, 327, 333, 336, 386, 387, 388, 389, 390, 6464, 8320] gr σ σ42 := fσ41.tr (cσ42.mo (by decide))
  have oxcσ42 : OX o σ σ42 := oxcσ41.tr (OX.fx cσ42 (by decide) (by decide)) (xσ39.trans (xσ40.trans xσ41))
  have kp47 : gP σ42 th 0 = gP σ41 th 0 := (cσ42.O (kth.up (xσ39.trans (xσ40.trans xσ41))) (by decide)).2.1
  have kp48 : gP σ42 th 7 = gP σ41 th 7 := (cσ42.O (kth.up (xσ39.trans (xσ40.trans xσ41))) (by decide)).2.1
  have kp49 : gP σ42 th 8 = gP σ41 th 8 := (cσ42.O (kth.up (xσ39.trans (xσ40.trans xσ41))) (by decide)).2.1
  have kp50 : Kpt (gI σ42 J 7 = gI σ J 7) := Eq.trans (show gI σ42 J 7 = gI σ41 J 7 from (cσ42.O (kJ.up (xσ39.trans (xσ40.trans xσ41))) (by decide)).1) kp38
  have kp51 : Kpt (gI σ42 J 1 = gI σ J 1) := Eq.trans (show gI σ42 J 1 = gI σ41 J 1 from (cσ42.O (kJ.up (xσ39.trans (xσ40.trans xσ41))) (by decide)).1) kp39
  have kp52 : Kpt (gI σ42 J 2 = gI σ J 2) := Eq.trans (show gI σ42 J 2 = gI σ41 J 2 from (cσ42.O (kJ.up (xσ39.trans (xσ40.trans xσ41))) (by decide)).1) kp40
  have kp53 : Kpt (gI σ42 o 3 = gI σ o 3) := Eq.trans (show gI σ42 o 3 = gI σ41 o 3 from (cσ42.O (ko.up (xσ39.trans (xσ40.trans xσ41))) (by decide)).1) kp41
  have kp54 : Kpt (gI σ42 o 4 = gI σ o 4) := Eq.trans (show gI σ42 o 4 = gI σ41 o 4 from (cσ42.O (ko.up (xσ39.trans (xσ40.trans xσ41))) (by decide)).1) kp42
  have kp55 : Kpt (gI σ42 o 6 = gI σ40 o 6) := Eq.trans (show gI σ42 o 6 = gI σ41 o 6 from (cσ42.O (ko.up (xσ39.trans (xσ40.trans xσ41))) (by decide)).1) kp43
  have kp56 : Kpt (gI σ42 o 7 = gI σ40 o 7) := Eq.trans (show gI σ42 o 7 = gI σ41 o 7 from (cσ42.O (ko.up (xσ39.trans (xσ40.trans xσ41))) (by decide)).1) kp44
  have kp57 : Kpt (gI σ42 o 8 = gI σ o 8) := Eq.trans (show gI σ42 o 8 = gI σ41 o 8 from (cσ42.O (ko.up (xσ39.trans (xσ40.trans xσ41))) (by decide)).1) kp45
  have kp58 : Kpt (gI σ42 o 9 = gI σ o 9) := Eq.trans (show gI σ42 o 9 = gI σ41 o 9 from (cσ42.O (ko.up (xσ39.trans (xσ40.trans xσ41))) (by decide)).1) kp46
  have r5σ42 := I_6_5 iσ42.1 (kth.up (xσ39.trans (xσ40.trans (xσ41.trans xσ42))))
  refine ⟨J, (kp48.trans (kp36.trans (kp23.trans (kp17.trans h7)))), fun kk_J => ?_⟩
  refine ⟨o, (kp49.trans (kp37.trans (kp24.trans (kp18.trans h8)))), fun kk_o => ?_⟩
  obtain ⟨b, eb, fb⟩ := P_4_0 iσ42.1 (kJ.up (xσ39.trans (xσ40.trans (xσ41.trans xσ42))))
  have mb : kO σ42 b 115 := iσ42.1.kd (kJ.up (xσ39.trans (xσ40.trans (xσ41.trans xσ42)))) rfl eb rfl
  refine ⟨b, eb, fun kk_b => ?_⟩
  have ho59 : gI σ42 o 7 = gI σ40 o 7 := kp56
  have q60 := I_5_7 iσ42.1 (ko.up (xσ39.trans (xσ40.trans (xσ41.trans xσ42))))
  refine ⟨⟨by (first | omega | with_reducible assumption | with_reducible exact rng_toInt _ | with_reducible exact rng_wr _ | (unfold rng; omega) | (unfold rng at *; omega) | assumption), by (first | omega | with_reducible assumption | with_reducible exact rng_toInt _ | with_reducible exact rng_wr _ | (unfold rng; omega) | (unfold rng at *; omega) | assumption)⟩, ?_⟩
  obtain ⟨b_1, eb_1⟩ := P_115 iσ42.1 mb (k := (gI σ42 o 7).toNat) (by (first | omega | with_reducible assumption | with_reducible exact rng_toInt _ | with_reducible exact rng_wr _ | (unfold rng; omega) | (unfold rng at *; omega) | assumption))
  have fb_1 := T_115 iσ42.1 mb eb_1
  have mb_1 : kO σ42 b_1 5 := iσ42.1.kd mb rfl eb_1 rfl
  refine i_X6_column iσ42 (kth.up (xσ39.trans (xσ40.trans (xσ41.trans xσ42)))) eb_1 mb_1 (by (first | omega | with_reducible assumption | with_reducible exact rng_toInt _ | with_reducible exact rng_wr _ | (unfold rng; omega) | (unfold rng at *; omega) | assumption)) (fun σ46 r47 iσ46 cσ46 pσ46 => ?_) (fun σx LLx Nx nux E ix cx ux px => hX σx LLx Nx nux E ix (fσ42.tr (cx.mo (by decide))) (ux) (by first | exact px | exact ⟨by have := px.1; omega, px.2⟩ | (first | omega | with_reducible assumption | with_reducible exact rng_toInt _ | with_reducible exact rng_wr _ | (unfold rng; omega) | (unfold rng at *; omega) | assumption)))
  intro xσ46
  have fσ46 : Fx [261, 262, 263, 323, 324, 326, 327, 333, 336, 386, 387, 388, 389, 390, 6464, 8320] gr σ σ46 := fσ42.tr (cσ46.mo (by decide))
  have oxcσ46 : OX o σ σ46 := oxcσ42.tr (OX.fx cσ46 (by decide) (by decide)) (xσ39.trans (xσ40.trans (xσ41.trans xσ42)))
  have kp61 : Kpt (gI σ46 o 7 = gI σ40 o 7) := Eq.trans (show gI σ46 o 7 = gI σ42 o 7 from (cσ46.O (ko.up (xσ39.trans (xσ40.trans (xσ41.trans xσ42)))) (by decide)).1) kp56
  have kp62 : gP σ46 J 0 = gP σ42 J 0 := (cσ46.O (kJ.up (xσ39.trans (xσ40.trans (xσ41.trans xσ42)))) (by decide)).2.1
  have kp63 : gP σ46 b (gI σ42 o 7).toNat = gP σ42 b (gI σ42 o 7).toNat := (cσ46.A mb (by decide)).2.1
  have kp64 : gP σ46 th 0 = gP σ42 th 0 := (cσ46.O (kth.up (xσ39.trans (xσ40.trans (xσ41.trans xσ42)))) (by decide)).2.1
  have kp65 : gP σ46 th 7 = gP σ42 th 7 := (cσ46.O (kth.up (xσ39.trans (xσ40.trans (xσ41.trans xσ42)))) (by decide)).2.1
  have kp66 : gP σ46 th 8 = gP σ42 th 8 := (cσ46.O (kth.up (xσ39.trans (xσ40.trans (xσ41.trans xσ42)))) (by decide)).2.1
  have kp67 : gI σ46 th 2 = gI σ42 th 2 := (cσ46.O (kth.up (xσ39.trans (xσ40.trans (xσ41.trans xσ42)))) (by decide)).1
  have kp68 : gI σ46 th 3 = gI σ42 th 3 := (cσ46.O (kth.up (xσ39.trans (xσ40.trans (xσ41.trans xσ42)))) (by decide)).1
  have kp69 : gI σ46 th 5 = gI σ42 th 5 := (cσ46.O (kth.up (xσ39.trans (xσ40.trans (xσ41.trans xσ42)))) (by decide)).1
  have kp70 : Kpt (gI σ46 J 7 = gI σ J 7) := Eq.trans (show gI σ46 J 7 = gI σ42 J 7 from (cσ46.O (kJ.up (xσ39.trans (xσ40.trans (xσ41.trans xσ42)))) (by decide)).1) kp50
  have kp71 : Kpt (gI σ46 J 1 = gI σ J 1) := Eq.trans (show gI σ46 J 1 = gI σ42 J 1 from (cσ46.O (kJ.up (xσ39.trans (xσ40.trans (xσ41.trans xσ42)))) (by decide)).1) kp51
  have kp72 : Kpt (gI σ46 J 2 = gI σ J 2) := Eq.trans (show gI σ46 J 2 = gI σ42 J 2 from (cσ46.O (kJ.up (xσ39.trans (xσ40.trans (xσ41.trans xσ42)))) (by decide)).1) kp52
  have kp73 : Kpt (gI σ46 o 3 = gI σ o 3) := Eq.trans (show gI σ46 o 3 = gI σ42 o 3 from (cσ46.O (ko.up (xσ39.trans (xσ40.trans (xσ41.trans xσ42)))) (by decide)).1) kp53
  have kp74 : Kpt (gI σ46 o 4 = gI σ o 4) := Eq.trans (show gI σ46 o 4 = gI σ42 o 4 from (cσ46.O (ko.up (xσ39.trans (xσ40.trans (xσ41.trans xσ42)))) (by decide)).1) kp54
  have kp75 : Kpt (gI σ46 o 6 = gI σ40 o 6) := Eq.trans (show gI σ46 o 6 = gI σ42 o 6 from (cσ46.O (ko.up (xσ39.trans (xσ40.trans (xσ41.trans xσ42)))) (by decide)).1) kp55
  have kp76 : Kpt (gI σ46 o 8 = gI σ o 8) := Eq.trans (show gI σ46 o 8 = gI σ42 o 8 from (cσ46.O (ko.up (xσ39.trans (xσ40.trans (xσ41.trans xσ42)))) (by decide)).1) kp57
  have kp77 : Kpt (gI σ46 o 9 = gI σ o 9) := Eq.trans (show gI σ46 o 9 = gI σ42 o 9 from (cσ46.O (ko.up (xσ39.trans (xσ40.trans (xσ41.trans xσ42)))) (by decide)).1) kp58
  intro σ48 eσ48
  have xσ48 : Ext σ46 σ48 := by rw [eσ48]; exact fun _ h => ⟨h, rfl, rfl⟩
  have iσ48 : IV σ48 pl gq ci gr nc ot LL N nu := by rw [eσ48]; exact iσ46.wSp (ko.up (xσ39.trans (xσ40.trans (xσ41.trans (xσ42.trans xσ46))))) (fun i hi => by omega) (by decide) (show (0 : Int) ≤ r47 ∧ r47 ≤ 7 from ⟨by omega, by omega⟩)
  have fσ48 : Fx [261, 262, 263, 323, 324, 326, 327, 333, 336, 386, 387, 388, 389, 390, 6464, 8320] gr σ σ48 := fσ46.tr (Sk.fx (by rw [eσ48]; exact Sk.pI (by rw [fcdO (ko.up (xσ39.trans (xσ40.trans (xσ41.trans (xσ42.trans xσ46))))) (by decide)]; decide)))
  have oxcσ48 : OX o σ σ48 := oxcσ46.tr (by rw [eσ48]; exact OX.pI (ko.up (xσ39.trans (xσ40.trans (xσ41.trans (xσ42.trans xσ46))))) (Or.inr rfl)) (xσ39.trans (xσ40.trans (xσ41.trans (xσ42.trans xσ46))))
  have wσ48 : gI σ48 o 13 = r47 := by rw [eσ48]; exact up2_s _ _ _ _
  have kp78 : gP σ48 J 0 = gP σ46 J 0 := by rw [eσ48]
  have kp79 : gP σ48 b (gI σ42 o 7).toNat = gP σ46 b (gI σ42 o 7).toNat := by rw [eσ48]
  have kp80 : gP σ48 th 0 = gP σ46 th 0 := by rw [eσ48]
  have kp81 : gP σ48 th 7 = gP σ46 th 7 := by rw [eσ48]
  have kp82 : gP σ48 th 8 = gP σ46 th 8 := by rw [eσ48]
  have kp83 : gI σ48 th 2 = gI σ46 th 2 := by rw [eσ48]; exact up2_n _ _ (fun q => absurd q.2 (by decide))
  have kp84 : gI σ48 th 3 = gI σ46 th 3 := by rw [eσ48]; exact up2_n _ _ (fun q => absurd q.2 (by decide))
  have kp85 : gI σ48 th 5 = gI σ46 th 5 := by rw [eσ48]; exact up2_n _ _ (fun q => absurd q.2 (by decide))
  have kp86 : Kpt (gI σ48 J 7 = gI σ J 7) := Eq.trans (show gI σ48 J 7 = gI σ46 J 7 from by rw [eσ48]; exact up2_n _ _ (fun q => absurd q.2 (by decide))) kp70
  have kp87 : Kpt (gI σ48 J 1 = gI σ J 1) := Eq.trans (show gI σ48 J 1 = gI σ46 J 1 from by rw [eσ48]; exact up2_n _ _ (fun q => absurd q.2 (by decide))) kp71
  have kp88 : Kpt (gI σ48 J 2 = gI σ J 2) := Eq.trans (show gI σ48 J 2 = gI σ46 J 2 from by rw [eσ48]; exact up2_n _ _ (fun q => absurd q.2 (by decide))) kp72
  have kp89 : Kpt (gI σ48 o 3 = gI σ o 3) := Eq.trans (show gI σ48 o 3 = gI σ46 o 3 from by rw [eσ48]; exact up2_n _ _ (fun q => absurd q.2 (by decide))) kp73
  have kp90 : Kpt (gI σ48 o 4 = gI σ o 4) := Eq.trans (show gI σ48 o 4 = gI σ46 o 4 from by rw [eσ48]; exact up2_n _ _ (fun q => absurd q.2 (by decide))) kp74
  have kp91 : Kpt (gI σ48 o 6 = gI σ40 o 6) := Eq.trans (show gI σ48 o 6 = gI σ46 o 6 from by rw [eσ48]; exact up2_n _ _ (fun q => absurd q.2 (by decide))) kp75
  have kp92 : Kpt (gI σ48 o 7 = gI σ40 o 7) := Eq.trans (show gI σ48 o 7 = gI σ46 o 7 from by rw [eσ48]; exact up2_n _ _ (fun q => absurd q.2 (by decide))) kp61
  have kp93 : Kpt (gI σ48 o 8 = gI σ o 8) := Eq.trans (show gI σ48 o 8 = gI σ46 o 8 from by rw [eσ48]; exact up2_n _ _ (fun q => absurd q.2 (by decide))) kp76
  have kp94 : Kpt (gI σ48 o 9 = gI σ o 9) := Eq.trans (show gI σ48 o 9 = gI σ46 o 9 from by rw [eσ48]; exact up2_n _ _ (fun q => absurd q.2 (by decide))) kp77
  by_cases hc95 : gJ σ48 th 4 = 1718775661
  · rw [if_pos hc95]
    unfold w_X6_matchText_68
    refine i_X6_refuse iσ48 (kth.up (xσ39.trans (xσ40.trans (xσ41.trans (xσ42.trans (xσ46.trans xσ48)))))) (by (first | omega | with_reducible assumption | with_reducible exact rng_toInt _ | with_reducible exact rng_wr _ | (unfold rng; omega) | (unfold rng at *; omega) | assumption)) (by (first | omega | with_reducible assumption | with_reducible exact rng_toInt _ | with_reducible exact rng_wr _ | (unfold rng; omega) | (unfold rng at *; omega) | assumption)) (by (first | omega | with_reducible assumption | with_reducible exact rng_toInt _ | with_reducible exact rng_wr _ | (unfold rng; omega) | (unfold rng at *; omega) | assumption)) (fun σ49 _ iσ49 cσ49 pσ49 => ?_) (fun σx LLx Nx nux E ix cx ux px => hX σx LLx Nx nux E ix (fσ48.tr (cx.mo (by decide))) (ux) (by first | exact px | exact ⟨by have := px.1; omega, px.2⟩ | (first | omega | with_reducible assumption | with_reducible exact rng_toInt _ | with_reducible exact rng_wr _ | (unfold rng; omega) | (unfold rng at *; omega) | assumption)))
    intro xσ49
    exact pσ49.elim
  · rw [if_neg hc95]
    unfold w_X6_matchText_57
    by_cases hc96 : gJ σ48 th 4 ≠ 29807
    · rw [if_pos hc96]
      unfold w_X6_matchText_74
      refine ⟨o, (kp82.trans (kp66.trans (kp49.trans (kp37.trans (kp24.trans (kp18.trans h8)))))), fun kk_o_1 => ?_⟩
      refine i_X5_addColumn iσ48 (ko.up (xσ39.trans (xσ40.trans (xσ41.trans (xσ42.trans (xσ46.trans xσ48)))))) (by (first | omega | with_reducible assumption | with_reducible exact rng_toInt _ | with_reducible exact rng_wr _ | (unfold rng; omega) | (unfold rng at *; omega) | assumption)) (by (first | omega | with_reducible assumption | with_reducible exact rng_toInt _ | with_reducible exact rng_wr _ | (unfold rng; omega) | (unfold rng at *; omega) | assumption)) (by (first | omega | with_reducible assumption | with_reducible exact rng_toInt _ | with_reducible exact rng_wr _ | (unfold rng; omega) | (unfold rng at *; omega) | assumption)) (fun σ50 _ iσ50 cσ50 oxσ50 pσ50 => ?_)
      intro xσ50
      have fσ50 : Fx [261, 262, 263, 323, 324, 326, 327, 333, 336, 386, 387, 388, 389, 390, 6464, 8320] gr σ σ50 := fσ48.tr (cσ50.mo (by decide))
      have oxcσ50 : OX o σ σ50 := oxcσ48.tr oxσ50 (xσ39.trans (xσ40.trans (xσ41.trans (xσ42.trans (xσ46.trans xσ48)))))
      have kp97 : gI σ50 o 13 = gI σ48 o 13 := (cσ50.O (ko.up (xσ39.trans (xσ40.trans (xσ41.trans (xσ42.trans (xσ46.trans xσ48)))))) (by decide)).1
      have kp98 : gP σ50 J 0 = gP σ48 J 0 := (cσ50.O (kJ.up (xσ39.trans (xσ40.trans (xσ41.trans (xσ42.trans (xσ46.trans xσ48)))))) (by decide)).2.1
      have kp99 : gP σ50 b (gI σ42 o 7).toNat = gP σ48 b (gI σ42 o 7).toNat := (cσ50.A (mb.up (xσ46.trans xσ48)) (by decide)).2.1
      have kp100 : gP σ50 th 0 = gP σ48 th 0 := (cσ50.O (kth.up (xσ39.trans (xσ40.trans (xσ41.trans (xσ42.trans (xσ46.trans xσ48)))))) (by decide)).2.1
      have kp101 : gP σ50 th 7 = gP σ48 th 7 := (cσ50.O (kth.up (xσ39.trans (xσ40.trans (xσ41.trans (xσ42.trans (xσ46.trans xσ48)))))) (by decide)).2.1
      have kp102 : gP σ50 th 8 = gP σ48 th 8 := (cσ50.O (kth.up (xσ39.trans (xσ40.trans (xσ41.trans (xσ42.trans (xσ46.trans xσ48)))))) (by decide)).2.1
      have kp103 : gI σ50 th 2 = gI σ48 th 2 := (cσ50.O (kth.up (xσ39.trans (xσ40.trans (xσ41.trans (xσ42.trans (xσ46.trans xσ48)))))) (by decide)).1
      have kp104 : gI σ50 th 3 = gI σ48 th 3 := (cσ50.O (kth.up (xσ39.trans (xσ40.trans (xσ41.trans (xσ42.trans (xσ46.trans xσ48)))))) (by decide)).1
      have kp105 : gI σ50 th 5 = gI σ48 th 5 := (cσ50.O (kth.up (xσ39.trans (xσ40.trans (xσ41.trans (xσ42.trans (xσ46.trans xσ48)))))) (by decide)).1
      have kp106 : Kpt (gI σ50 J 7 = gI σ J 7) := Eq.trans (show gI σ50 J 7 = gI σ48 J 7 from (cσ50.O (kJ.up (xσ39.trans (xσ40.trans (xσ41.trans (xσ42.trans (xσ46.trans xσ48)))))) (by decide)).1) kp86
      have kp107 : Kpt (gI σ50 J 1 = gI σ J 1) := Eq.trans (show gI σ50 J 1 = gI σ48 J 1 from (cσ50.O (kJ.up (xσ39.trans (xσ40.trans (xσ41.trans (xσ42.trans (xσ46.trans xσ48)))))) (by decide)).1) kp87
      have kp108 : Kpt (gI σ50 J 2 = gI σ J 2) := Eq.trans (show gI σ50 J 2 = gI σ48 J 2 from (cσ50.O (kJ.up (xσ39.trans (xσ40.trans (xσ41.trans (xσ42.trans (xσ46.trans xσ48)))))) (by decide)).1) kp88
      have kp109 : Kpt (gI σ50 o 4 = gI σ o 4) := Eq.trans (show gI σ50 o 4 = gI σ48 o 4 from (cσ50.O (ko.up (xσ39.trans (xσ40.trans (xσ41.trans (xσ42.trans (xσ46.trans xσ48)))))) (by decide)).1) kp90
      have kp110 : Kpt (gI σ50 o 6 = gI σ40 o 6) := Eq.trans (show gI σ50 o 6 = gI σ48 o 6 from (cσ50.O (ko.up (xσ39.trans (xσ40.trans (xσ41.trans (xσ42.trans (xσ46.trans xσ48)))))) (by decide)).1) kp91
      have kp111 : Kpt (gI σ50 o 7 = gI σ40 o 7) := Eq.trans (show gI σ50 o 7 = gI σ48 o 7 from (cσ50.O (ko.up (xσ39.trans (xσ40.trans (xσ41.trans (xσ42.trans (xσ46.trans xσ48)))))) (by decide)).1) kp92
      have kp112 : Kpt (gI σ50 o 8 = gI σ o 8) := Eq.trans (show gI σ50 o 8 = gI σ48 o 8 from (cσ50.O (ko.up (xσ39.trans (xσ40.trans (xσ41.trans (xσ42.trans (xσ46.trans xσ48)))))) (by decide)).1) kp93
      have kp113 : Kpt (gI σ50 o 9 = gI σ o 9) := Eq.trans (show gI σ50 o 9 = gI σ48 o 9 from (cσ50.O (ko.up (xσ39.trans (xσ40.trans (xσ41.trans (xσ42.trans (xσ46.trans xσ48)))))) (by decide)).1) kp94
      refine ⟨o, (kp102.trans (kp82.trans (kp66.trans (kp49.trans (kp37.trans (kp24.trans (kp18.trans h8))))))), fun kk_o_2 => ?_⟩
      refine i_X5_addColumn iσ50 (ko.up (xσ39.trans (xσ40.trans (xσ41.trans (xσ42.trans (xσ46.trans (xσ48.trans xσ50))))))) (by (first | omega | with_reducible assumption | with_reducible exact rng_toInt _ | with_reducible exact rng_wr _ | (unfold rng; omega) | (unfold rng at *; omega) | assumption)) (by (first | omega | with_reducible assumption | with_reducible exact rng_toInt _ | with_reducible exact rng_wr _ | (unfold rng; omega) | (unfold rng at *; omega) | assumption)) (by (first | omega | with_reducible assumption | with_reducible exact rng_toInt _ | with_reducible exact rng_wr _ | (unfold rng; omega) | (unfold rng at *; omega) | assumption)) (fun σ52 _ iσ52 cσ52 oxσ52 pσ52 => ?_)
      intro xσ52
      have fσ52 : Fx [261, 262, 263, 323, 324, 326, 327, 333, 336, 386, 387, 388, 389, 390, 6464, 8320] gr σ σ52 := fσ50.tr (cσ52.mo (by decide))
      have oxcσ52 : OX o σ σ52 := oxcσ50.tr oxσ52 (xσ39.trans (xσ40.trans (xσ41.trans (xσ42.trans (xσ46.trans (xσ48.trans xσ50))))))
      have kp114 : gI σ52 o 13 = gI σ50 o 13 := (cσ52.O (ko.up (xσ39.trans (xσ40.trans (xσ41.trans (xσ42.trans (xσ46.trans (xσ48.trans xσ50))))))) (by decide)).1
      have kp115 : gP σ52 J 0 = gP σ50 J 0 := (cσ52.O (kJ.up (xσ39.trans (xσ40.trans (xσ41.trans (xσ42.trans (xσ46.trans (xσ48.trans xσ50))))))) (by decide)).2.1
      have kp116 : gP σ52 b (gI σ42 o 7).toNat = gP σ50 b (gI σ42 o 7).toNat := (cσ52.A (mb.up (xσ46.trans (xσ48.trans xσ50))) (by decide)).2.1
      have kp117 : gP σ52 th 0 = gP σ50 th 0 := (cσ52.O (kth.up (xσ39.trans (xσ40.trans (xσ41.trans (xσ42.trans (xσ46.trans (xσ48.trans xσ50))))))) (by decide)).2.1
      have kp118 : gP σ52 th 7 = gP σ50 th 7 := (cσ52.O (kth.up (xσ39.trans (xσ40.trans (xσ41.trans (xσ42.trans (xσ46.trans (xσ48.trans xσ50))))))) (by decide)).2.1
      have kp119 : gP σ52 th 8 = gP σ50 th 8 := (cσ52.O (kth.up (xσ39.trans (xσ40.trans (xσ41.trans (xσ42.trans (xσ46.trans (xσ48.trans xσ50))))))) (by decide)).2.1
      have kp120 : gI σ52 th 2 = gI σ50 th 2 := (cσ52.O (kth.up (xσ39.trans (xσ40.trans (xσ41.trans (xσ42.trans (xσ46.trans (xσ48.trans xσ50))))))) (by decide)).1
      have kp121 : gI σ52 th 3 = gI σ50 th 3 := (cσ52.O (kth.up (xσ39.trans (xσ40.trans (xσ41.trans (xσ42.trans (xσ46.trans (xσ48.trans xσ50))))))) (by decide)).1
      have kp122 : gI σ52 th 5 = gI σ50 th 5 := (cσ52.O (kth.up (xσ39.trans (xσ40.trans (xσ41.trans (xσ42.trans (xσ46.trans (xσ48.trans xσ50))))))) (by decide)).1
      have kp123 : Kpt (gI σ52 J 7 = gI σ J 7) := Eq.trans (show gI σ52 J 7 = gI σ50 J 7 from (cσ52.O (kJ.up (xσ39.trans (xσ40.trans (xσ41.trans (xσ42.trans (xσ46.trans (xσ48.trans xσ50))))))) (by decide)).1) kp106
      have kp124 : Kpt (gI σ52 J 1 = gI σ J 1) := Eq.trans (show gI σ52 J 1 = gI σ50 J 1 from (cσ52.O (kJ.up (xσ39.trans (xσ40.trans (xσ41.trans (xσ42.trans (xσ46.trans (xσ48.trans xσ50))))))) (by decide)).1) kp107
      have kp125 : Kpt (gI σ52 J 2 = gI σ J 2) := Eq.trans (show gI σ52 J 2 = gI σ50 J 2 from (cσ52.O (kJ.up (xσ39.trans (xσ40.trans (xσ41.trans (xσ42.trans (xσ46.trans (xσ48.trans xσ50))))))) (by decide)).1) kp108
      have kp126 : Kpt (gI σ52 o 4 = gI σ o 4) := Eq.trans (show gI σ52 o 4 = gI σ50 o 4 from (cσ52.O (ko.up (xσ39.trans (xσ40.trans (xσ41.trans (xσ42.trans (xσ46.trans (xσ48.trans xσ50))))))) (by decide)).1) kp109
      have kp127 : Kpt (gI σ52 o 6 = gI σ40 o 6) := Eq.trans (show gI σ52 o 6 = gI σ50 o 6 from (cσ52.O (ko.up (xσ39.trans (xσ40.trans (xσ41.trans (xσ42.trans (xσ46.trans (xσ48.trans xσ50))))))) (by decide)).1) kp110
      have kp128 : Kpt (gI σ52 o 7 = gI σ40 o 7) := Eq.trans (show gI σ52 o 7 = gI σ50 o 7 from (cσ52.O (ko.up (xσ39.trans (xσ40.trans (xσ41.trans (xσ42.trans (xσ46.trans (xσ48.trans xσ50))))))) (by decide)).1) kp111
      have kp129 : Kpt (gI σ52 o 8 = gI σ o 8) := Eq.trans (show gI σ52 o 8 = gI σ50 o 8 from (cσ52.O (ko.up (xσ39.trans (xσ40.trans (xσ41.trans (xσ42.trans (xσ46.trans (xσ48.trans xσ50))))))) (by decide)).1) kp112
      have kp130 : Kpt (gI σ52 o 9 = gI σ o 9) := Eq.trans (show gI σ52 o 9 = gI σ50 o 9 from (cσ52.O (ko.up (xσ39.trans (xσ40.trans (xσ41.trans (xσ42.trans (xσ46.trans (xσ48.trans xσ50))))))) (by decide)).1) kp113
      refine ⟨o, (kp119.trans (kp102.trans (kp82.trans (kp66.trans (kp49.trans (kp37.trans (kp24.trans (kp18.trans h8)))))))), fun kk_o_3 => ?_⟩
      refine i_X5_addColumn iσ52 (ko.up (xσ39.trans (xσ40.trans (xσ41.trans (xσ42.trans (xσ46.trans (xσ48.trans (xσ50.trans xσ52)))))))) (by (first | omega | with_reducible assumption | with_reducible exact rng_toInt _ | with_reducible exact rng_wr _ | (unfold rng; omega) | (unfold rng at *; omega) | assumption)) (by (first | omega | with_reducible assumption | with_reducible exact rng_toInt _ | with_reducible exact rng_wr _ | (unfold rng; omega) | (unfold rng at *; omega) | assumption)) (by (first | omega | with_reducible assumption | with_reducible exact rng_toInt _ | with_reducible exact rng_wr _ | (unfold rng; omega) | (unfold rng at *; omega) | assumption)) (fun σ54 _ iσ54 cσ54 oxσ54 pσ54 => ?_)
      intro xσ54
      have fσ54 : Fx [261, 262, 263, 323, 324, 326, 327, 333, 336, 386, 387, 388, 389, 390, 6464, 8320] gr σ σ54 := fσ52.tr (cσ54.mo (by decide))
      have oxcσ54 : OX o σ σ54 := oxcσ52.tr oxσ54 (xσ39.trans (xσ40.trans (xσ41.trans (xσ42.trans (xσ46.trans (xσ48.trans (xσ50.trans xσ52)))))))
      have kp131 : gI σ54 o 13 = gI σ52 o 13 := (cσ54.O (ko.up (xσ39.trans (xσ40.trans (xσ41.trans (xσ42.trans (xσ46.trans (xσ48.trans (xσ50.trans xσ52)))))))) (by decide)).1
      have kp132 : gP σ54 J 0 = gP σ52 J 0 := (cσ54.O (kJ.up (xσ39.trans (xσ40.trans (xσ41.trans (xσ42.trans (xσ46.trans (xσ48.trans (xσ50.trans xσ52)))))))) (by decide)).2.1
      have kp133 : gP σ54 b (gI σ42 o 7).toNat = gP σ52 b (gI σ42 o 7).toNat := (cσ54.A (mb.up (xσ46.trans (xσ48.trans (xσ50.trans xσ52)))) (by decide)).2.1
      have kp134 : gP σ54 th 0 = gP σ52 th 0 := (cσ54.O (kth.up (xσ39.trans (xσ40.trans (xσ41.trans (xσ42.trans (xσ46.trans (xσ48.trans (xσ50.trans xσ52)))))))) (by decide)).2.1
      have kp135 : gP σ54 th 7 = gP σ52 th 7 := (cσ54.O (kth.up (xσ39.trans (xσ40.trans (xσ41.trans (xσ42.trans (xσ46.trans (xσ48.trans (xσ50.trans xσ52)))))))) (by decide)).2.1
      have kp136 : gP σ54 th 8 = gP σ52 th 8 := (cσ54.O (kth.up (xσ39.trans (xσ40.trans (xσ41.trans (xσ42.trans (xσ46.trans (xσ48.trans (xσ50.trans xσ52)))))))) (by decide)).2.1
      have kp137 : gI σ54 th 2 = gI σ52 th 2 := (cσ54.O (kth.up (xσ39.trans (xσ40.trans (xσ41.trans (xσ42.trans (xσ46.trans (xσ48.trans (xσ50.trans xσ52)))))))) (by decide)).1
      have kp138 : gI σ54 th 3 = gI σ52 th 3 := (cσ54.O (kth.up (xσ39.trans (xσ40.trans (xσ41.trans (xσ42.trans (xσ46.trans (xσ48.trans (xσ50.trans xσ52)))))))) (by decide)).1
      have kp139 : gI σ54 th 5 = gI σ52 th 5 := (cσ54.O (kth.up (xσ39.trans (xσ40.trans (xσ41.trans (xσ42.trans (xσ46.trans (xσ48.trans (xσ50.trans xσ52)))))))) (by decide)).1
      have kp140 : Kpt (gI σ54 J 7 = gI σ J 7) := Eq.trans (show gI σ54 J 7 = gI σ52 J 7 from (cσ54.O (kJ.up (xσ39.trans (xσ40.trans (xσ41.trans (xσ42.trans (xσ46.trans (xσ48.trans (xσ50.trans xσ52)))))))) (by decide)).1) kp123
      have kp141 : Kpt (gI σ54 J 1 = gI σ J 1) := Eq.trans (show gI σ54 J 1 = gI σ52 J 1 from (cσ54.O (kJ.up (xσ39.trans (xσ40.trans (xσ41.trans (xσ42.trans (xσ46.trans (xσ48.trans (xσ50.trans xσ52)))))))) (by decide)).1) kp124
      have kp142 : Kpt (gI σ54 J 2 = gI σ J 2) := Eq.trans (show gI σ54 J 2 = gI σ52 J 2 from (cσ54.O (kJ.up (xσ39.trans (xσ40.trans (xσ41.trans (xσ42.trans (xσ46.trans (xσ48.trans (xσ50.trans xσ52)))))))) (by decide)).1) kp125
      have kp143 : Kpt (gI σ54 o 4 = gI σ o 4) := Eq.trans (show gI σ54 o 4 = gI σ52 o 4 from (cσ54.O (ko.up (xσ39.trans (xσ40.trans (xσ41.trans (xσ42.trans (xσ46.trans (xσ48.trans (xσ50.trans xσ52)))))))) (by decide)).1) kp126
      have kp144 : Kpt (gI σ54 o 6 = gI σ40 o 6) := Eq.trans (show gI σ54 o 6 = gI σ52 o 6 from (cσ54.O (ko.up (xσ39.trans (xσ40.trans (xσ41.trans (xσ42.trans (xσ46.trans (xσ48.trans (xσ50.trans xσ52)))))))) (by decide)).1) kp127
      have kp145 : Kpt (gI σ54 o 7 = gI σ40 o 7) := Eq.trans (show gI σ54 o 7 = gI σ52 o 7 from (cσ54.O (ko.up (xσ39.trans (xσ40.trans (xσ41.trans (xσ42.trans (xσ46.trans (xσ48.trans (xσ50.trans xσ52)))))))) (by decide)).1) kp128
      have kp146 : Kpt (gI σ54 o 8 = gI σ o 8) := Eq.trans (show gI σ54 o 8 = gI σ52 o 8 from (cσ54.O (ko.up (xσ39.trans (xσ40.trans (xσ41.trans (xσ42.trans (xσ46.trans (xσ48.trans (xσ50.trans xσ52)))))))) (by decide)).1) kp129
      have kp147 : Kpt (gI σ54 o 9 = gI σ o 9) := Eq.trans (show gI σ54 o 9 = gI σ52 o 9 from (cσ54.O (ko.up (xσ39.trans (xσ40.trans (xσ41.trans (xσ42.trans (xσ46.trans (xσ48.trans (xσ50.trans xσ52)))))))) (by decide)).1) kp130
      refine i_X6_next iσ54 (kth.up (xσ39.trans (xσ40.trans (xσ41.trans (xσ42.trans (xσ46.trans (xσ48.trans (xσ50.trans (xσ52.trans xσ54))))))))) (kp134.trans (kp117.trans (kp100.trans (kp80.trans (kp64.trans (kp47.trans (kp35.trans (kp22.trans (kp16.trans hX0))))))))) (kX.up (xσ39.trans (xσ40.trans (xσ41.trans (xσ42.trans (xσ46.trans (xσ48.trans (xσ50.trans (xσ52.trans xσ54))))))))) (((xσ39.trans (xσ40.trans (xσ41.trans (xσ42.trans (xσ46.trans (xσ48.trans (xσ50.trans (xσ52.trans xσ54)))))))) tx kX.1).2.2.trans gX) (by (first | omega | with_reducible assumption | with_reducible exact rng_toInt _ | with_reducible exact rng_wr _ | (unfold rng; omega) | (unfold rng at *; omega) | assumption)) (by (first | omega | with_reducible assumption | with_reducible exact rng_toInt _ | with_reducible exact rng_wr _ | (unfold rng; omega) | (unfold rng at *; omega) | assumption)) (fun σ56 _ iσ56 cσ56 pσ56 => ?_) (fun σx LLx Nx nux E ix cx ux px => hX σx LLx Nx nux E ix (fσ54.tr (cx.mo (by decide))) (ux) (by first | exact px | exact ⟨by have := px.1; omega, px.2⟩ | (first | omega | with_reducible assumption | with_reducible exact rng_toInt _ | with_reducible exact rng_wr _ | (unfold rng; omega) | (unfold rng at *; omega) | assumption)))
      intro xσ56
      have fσ56 : Fx [261, 262, 263, 323, 324, 326, 327, 333, 336, 386, 387, 388, 389, 390, 6464, 8320] gr σ σ56 := fσ54.tr (cσ56.mo (by decide))
      have oxcσ56 : OX o σ σ56 := oxcσ54.tr (OX.fx cσ56 (by decide) (by decide)) (xσ39.trans (xσ40.trans (xσ41.trans (xσ42.trans (xσ46.trans (xσ48.trans (xσ50.trans (xσ52.trans xσ54))))))))
      have kp148 : gI σ56 o 13 = gI σ54 o 13 := (cσ56.O (ko.up (xσ39.trans (xσ40.trans (xσ41.trans (xσ42.trans (xσ46.trans (xσ48.trans (xσ50.trans (xσ52.trans xσ54))))))))) (by decide)).1
      have kp149 : gP σ56 J 0 = gP σ54 J 0 := (cσ56.O (kJ.up (xσ39.trans (xσ40.trans (xσ41.trans (xσ42.trans (xσ46.trans (xσ48.trans (xσ50.trans (xσ52.trans xσ54))))))))) (by decide)).2.1
      have kp150 : gP σ56 b (gI σ42 o 7).toNat = gP σ54 b (gI σ42 o 7).toNat := (cσ56.A (mb.up (xσ46.trans (xσ48.trans (xσ50.trans (xσ52.trans xσ54))))) (by decide)).2.1
      have kp151 : gP σ56 th 0 = gP σ54 th 0 := (cσ56.O (kth.up (xσ39.trans (xσ40.trans (xσ41.trans (xσ42.trans (xσ46.trans (xσ48.trans (xσ50.trans (xσ52.trans xσ54))))))))) (by decide)).2.1
      have kp152 : gP σ56 th 7 = gP σ54 th 7 := (cσ56.O (kth.up (xσ39.trans (xσ40.trans (xσ41.trans (xσ42.trans (xσ46.trans (xσ48.trans (xσ50.trans (xσ52.trans xσ54))))))))) (by decide)).2.1
      have kp153 : gP σ56 th 8 = gP σ54 th 8 := (cσ56.O (kth.up (xσ39.trans (xσ40.trans (xσ41.trans (xσ42.trans (xσ46.trans (xσ48.trans (xσ50.trans (xσ52.trans xσ54))))))))) (by decide)).2.1
      have kp154 : Kpt (gI σ56 J 7 = gI σ J 7) := Eq.trans (show gI σ56 J 7 = gI σ54 J 7 from (cσ56.O (kJ.up (xσ39.trans (xσ40.trans (xσ41.trans (xσ42.trans (xσ46.trans (xσ48.trans (xσ50.trans (xσ52.trans xσ54))))))))) (by decide)).1) kp140
      have kp155 : Kpt (gI σ56 J 1 = gI σ J 1) := Eq.trans (show gI σ56 J 1 = gI σ54 J 1 from (cσ56.O (kJ.up (xσ39.trans (xσ40.trans (xσ41.trans (xσ42.trans (xσ46.trans (xσ48.trans (xσ50.trans (xσ52.trans xσ54))))))))) (by decide)).1) kp141
      have kp156 : Kpt (gI σ56 J 2 = gI σ J 2) := Eq.trans (show gI σ56 J 2 = gI σ54 J 2 from (cσ56.O (kJ.up (xσ39.trans (xσ40.trans (xσ41.trans (xσ42.trans (xσ46.trans (xσ48.trans (xσ50.trans (xσ52.trans xσ54))))))))) (by decide)).1) kp142
      have kp157 : Kpt (gI σ56 o 3 = gI σ54 o 3) := (cσ56.O (ko.up (xσ39.trans (xσ40.trans (xσ41.trans (xσ42.trans (xσ46.trans (xσ48.trans (xσ50.trans (xσ52.trans xσ54))))))))) (by decide)).1
      have kp158 : Kpt (gI σ56 o 4 = gI σ o 4) := Eq.trans (show gI σ56 o 4 = gI σ54 o 4 from (cσ56.O (ko.up (xσ39.trans (xσ40.trans (xσ41.trans (xσ42.trans (xσ46.trans (xσ48.trans (xσ50.trans (xσ52.trans xσ54))))))))) (by decide)).1) kp143
      have kp159 : Kpt (gI σ56 o 6 = gI σ40 o 6) := Eq.trans (show gI σ56 o 6 = gI σ54 o 6 from (cσ56.O (ko.up (xσ39.trans (xσ40.trans (xσ41.trans (xσ42.trans (xσ46.trans (xσ48.trans (xσ50.trans (xσ52.trans xσ54))))))))) (by decide)).1) kp144
      have kp160 : Kpt (gI σ56 o 7 = gI σ40 o 7) := Eq.trans (show gI σ56 o 7 = gI σ54 o 7 from (cσ56.O (ko.up (xσ39.trans (xσ40.trans (xσ41.trans (xσ42.trans (xσ46.trans (xσ48.trans (xσ50.trans (xσ52.trans xσ54))))))))) (by decide)).1) kp145
      have kp161 : Kpt (gI σ56 o 8 = gI σ o 8) := Eq.trans (show gI σ56 o 8 = gI σ54 o 8 from (cσ56.O (ko.up (xσ39.trans (xσ40.trans (xσ41.trans (xσ42.trans (xσ46.trans (xσ48.trans (xσ50.trans (xσ52.trans xσ54))))))))) (by decide)).1) kp146
      have kp162 : Kpt (gI σ56 o 9 = gI σ o 9) := Eq.trans (show gI σ56 o 9 = gI σ54 o 9 from (cσ56.O (ko.up (xσ39.trans (xσ40.trans (xσ41.trans (xσ42.trans (xσ46.trans (xσ48.trans (xσ50.trans (xσ52.trans xσ54))))))))) (by decide)).1) kp147
      have r5σ56 := I_6_5 iσ56.1 (kth.up (xσ39.trans (xσ40.trans (xσ41.trans (xσ42.trans (xσ46.trans (xσ48.trans (xσ50.trans (xσ52.trans (xσ54.trans xσ56))))))))))
      refine i_X6_wantSign iσ56 (kth.up (xσ39.trans (xσ40.trans (xσ41.trans (xσ42.trans (xσ46.trans (xσ48.trans (xσ50.trans (xσ52.trans (xσ54.trans xσ56)))))))))) (kp151.trans (kp134.trans (kp117.trans (kp100.trans (kp80.trans (kp64.trans (kp47.trans (kp35.trans (kp22.trans (kp16.trans hX0)))))))))) (kX.up (xσ39.trans (xσ40.trans (xσ41.trans (xσ42.trans (xσ46.trans (xσ48.trans (xσ50.trans (xσ52.trans (xσ54.trans xσ56)))))))))) (((xσ39.trans (xσ40.trans (xσ41.trans (xσ42.trans (xσ46.trans (xσ48.trans (xσ50.trans (xσ52.trans (xσ54.trans xσ56))))))))) tx kX.1).2.2.trans gX) (by (first | omega | with_reducible assumption | with_reducible exact rng_toInt _ | with_reducible exact rng_wr _ | (unfold rng; omega) | (unfold rng at *; omega) | assumption)) (by (first | omega | with_reducible assumption | with_reducible exact rng_toInt _ | with_reducible exact rng_wr _ | (unfold rng; omega) | (unfold rng at *; omega) | assumption)) (fun σ57 _ iσ57 cσ57 pσ57 => ?_) (fun σx LLx Nx nux E ix cx ux px => hX σx LLx Nx nux E ix (fσ56.tr (cx.mo (by decide))) (ux) (by first | exact px | exact ⟨by have := px.1; omega, px.2⟩ | (first | omega | with_reducible assumption | with_reducible exact rng_toInt _ | with_reducible exact rng_wr _ | (unfold rng; omega) | (unfold rng at *; omega) | assumption)))
      intro xσ57
      have fσ57 : Fx [261, 262, 263, 323, 324, 326, 327, 333, 336, 386, 387, 388, 389, 390, 6464, 8320] gr σ σ57 := fσ56.tr (cσ57.mo (by decide))
      have oxcσ57 : OX o σ σ57 := oxcσ56.tr (OX.fx cσ57 (by decide) (by decide)) (xσ39.trans (xσ40.trans (xσ41.trans (xσ42.trans (xσ46.trans (xσ48.trans (xσ50.trans (xσ52.trans (xσ54.trans xσ56)))))))))
      have kp163 : gI σ57 o 13 = gI σ56 o 13 := (cσ57.O (ko.up (xσ39.trans (xσ40.trans (xσ41.trans (xσ42.trans (xσ46.trans (xσ48.trans (xσ50.trans (xσ52.trans (xσ54.trans xσ56)))))))))) (by decide)).1
      have kp164 : gP σ57 J 0 = gP σ56 J 0 := (cσ57.O (kJ.up (xσ39.trans (xσ40.trans (xσ41.trans (xσ42.trans (xσ46.trans (xσ48.trans (xσ50.trans (xσ52.trans (xσ54.trans xσ56)))))))))) (by decide)).2.1
      have kp165 : gP σ57 b (gI σ42 o 7).toNat = gP σ56 b (gI σ42 o 7).toNat := (cσ57.A (mb.up (xσ46.trans (xσ48.trans (xσ50.trans (xσ52.trans (xσ54.trans xσ56)))))) (by decide)).2.1
      have kp166 : gP σ57 th 0 = gP σ56 th 0 := (cσ57.O (kth.up (xσ39.trans (xσ40.trans (xσ41.trans (xσ42.trans (xσ46.trans (xσ48.trans (xσ50.trans (xσ52.trans (xσ54.trans xσ56)))))))))) (by decide)).2.1
      have kp167 : gP σ57 th 7 = gP σ56 th 7 := (cσ57.O (kth.up (xσ39.trans (xσ40.trans (xσ41.trans (xσ42.trans (xσ46.trans (xσ48.trans (xσ50.trans (xσ52.trans (xσ54.trans xσ56)))))))))) (by decide)).2.1
      have kp168 : gP σ57 th 8 = gP σ56 th 8 := (cσ57.O (kth.up (xσ39.trans (xσ40.trans (xσ41.trans (xσ42.trans (xσ46.trans (xσ48.trans (xσ50.trans (xσ52.trans (xσ54.trans xσ56)))))))))) (by decide)).2.1
      have kp169 : Kpt (gI σ57 J 7 = gI σ J 7) := Eq.trans (show gI σ57 J 7 = gI σ56 J 7 from (cσ57.O (kJ.up (xσ39.trans (xσ40.trans (xσ41.trans (xσ42.trans (xσ46.trans (xσ48.trans (xσ50.trans (xσ52.trans (xσ54.trans xσ56)))))))))) (by decide)).1) kp154
      have kp170 : Kpt (gI σ57 J 1 = gI σ J 1) := Eq.trans (show gI σ57 J 1 = gI σ56 J 1 from (cσ57.O (kJ.up (xσ39.trans (xσ40.trans (xσ41.trans (xσ42.trans (xσ46.trans (xσ48.trans (xσ50.trans (xσ52.trans (xσ54.trans xσ56)))))))))) (by decide)).1) kp155
      have kp171 : Kpt (gI σ57 J 2 = gI σ J 2) := Eq.trans (show gI σ57 J 2 = gI σ56 J 2 from (cσ57.O (kJ.up (xσ39.trans (xσ40.trans (xσ41.trans (xσ42.trans (xσ46.trans (xσ48.trans (xσ50.trans (xσ52.trans (xσ54.trans xσ56)))))))))) (by decide)).1) kp156
      have kp172 : Kpt (gI σ57 o 3 = gI σ54 o 3) := Eq.trans (show gI σ57 o 3 = gI σ56 o 3 from (cσ57.O (ko.up (xσ39.trans (xσ40.trans (xσ41.trans (xσ42.trans (xσ46.trans (xσ48.trans (xσ50.trans (xσ52.trans (xσ54.trans xσ56)))))))))) (by decide)).1) kp157
      have kp173 : Kpt (gI σ57 o 4 = gI σ o 4) := Eq.trans (show gI σ57 o 4 = gI σ56 o 4 from (cσ57.O (ko.up (xσ39.trans (xσ40.trans (xσ41.trans (xσ42.trans (xσ46.trans (xσ48.trans (xσ50.trans (xσ52.trans (xσ54.trans xσ56)))))))))) (by decide)).1) kp158
      have kp174 : Kpt (gI σ57 o 6 = gI σ40 o 6) := Eq.trans (show gI σ57 o 6 = gI σ56 o 6 from (cσ57.O (ko.up (xσ39.trans (xσ40.trans (xσ41.trans (xσ42.trans (xσ46.trans (xσ48.trans (xσ50.trans (xσ52.trans (xσ54.trans xσ56)))))))))) (by decide)).1) kp159
      have kp175 : Kpt (gI σ57 o 7 = gI σ40 o 7) := Eq.trans (show gI σ57 o 7 = gI σ56 o 7 from (cσ57.O (ko.up (xσ39.trans (xσ40.trans (xσ41.trans (xσ42.trans (xσ46.trans (xσ48.trans (xσ50.trans (xσ52.trans (xσ54.trans xσ56)))))))))) (by decide)).1) kp160
      have kp176 : Kpt (gI σ57 o 8 = gI σ o 8) := Eq.trans (show gI σ57 o 8 = gI σ56 o 8 from (cσ57.O (ko.up (xσ39.trans (xσ40.trans (xσ41.trans (xσ42.trans (xσ46.trans (xσ48.trans (xσ50.trans (xσ52.trans (xσ54.trans xσ56)))))))))) (by decide)).1) kp161
      have kp177 : Kpt (gI σ57 o 9 = gI σ o 9) := Eq.trans (show gI σ57 o 9 = gI σ56 o 9 from (cσ57.O (ko.up (xσ39.trans (xσ40.trans (xσ41.trans (xσ42.trans (xσ46.trans (xσ48.trans (xσ50.trans (xσ52.trans (xσ54.trans xσ56)))))))))) (by decide)).1) kp162
      have r5σ57 := I_6_5 iσ57.1 (kth.up (xσ39.trans (xσ40.trans (xσ41.trans (xσ42.trans (xσ46.trans (xσ48.trans (xσ50.trans (xσ52.trans (xσ54.trans (xσ56.trans xσ57)))))))))))
      have Lp117 : ∀ (fu117 : Nat) (τ117 : Sg) (nut117 : Nat → Nat) (v1 : Int), IV τ117 pl gq ci gr nc ot LL N nut117 → Fx [261, 262, 263, 323, 324, 326, 327, 333, 336, 386, 387, 388, 389, 390, 6464, 8320] gr σ τ117 → Ext σ57 τ117 → NC nu nut117 → OX o σ τ117 → ((0 ≤ v1 ∧ v1 ≤ 4) ∧ (gI τ117 th 5 ≤ gI τ117 th 2 ∧ (gI τ117 th 3 ≠ 0 → gI τ117 th 5 + 1 ≤ gI τ117 th 2)) ∧ gI τ117 J 7 ≤ 2 * gI τ117 th 5 ∧ gI τ117 o 6 = 8 ∧ 0 ≤ gI τ117 o 7 ∧ gI τ117 o 7 < (c : Int) ∧ gI τ117 o 8 = -1 ∧ gI τ117 o 4 = v1) → ((4 - v1).toNat) < fu117 → wl_X6_matchText_117 th Q X fu117 τ117 v1 := by
        intro fu117
        induction fu117 with
        | zero => intro _ _ _ _ _ _ _ _ _ h9; omega
        | succ fu117 ih117 =>
          intro τ117 nut117 v1 iτ117 fτ117 xτ117 nu_τ117 oxcτ117 hi117 hm117
          have uτ117_0 := nu_τ117 0 (by decide) (by decide)
          have uτ117_1 := nu_τ117 1 (by decide) (by decide)
          have uτ117_2 := nu_τ117 2 (by decide) (by decide)
          have uτ117_5 := nu_τ117 5 (by decide) (by decide)
          have uτ117_15 := nu_τ117 15 (by decide) (by decide)
          have uτ117_16 := nu_τ117 16 (by decide) (by decide)
          unfold wl_X6_matchText_117
          have kp178 : Kpt (gI τ117 J 1 = gI σ J 1) := (fτ117.O kJ (by decide)).1
          have kp179 : Kpt (gI τ117 o 8 = gI σ o 8) := (fτ117.O ko (by decide)).1
          have kp180 : gP τ117 th 0 = gP σ th 0 := (fτ117.O kth (by decide)).2.1
          have kp181 : gP τ117 th 7 = gP σ th 7 := (fτ117.O kth (by decide)).2.1
          have kp182 : gP τ117 th 8 = gP σ th 8 := (fτ117.O kth (by decide)).2.1
          have kp183 : Kpt (gI τ117 J 2 = gI σ J 2) := (fτ117.O kJ (by decide)).1
          have kp184 : Kpt (gI τ117 o 9 = gI σ o 9) := (fτ117.O ko (by decide)).1
          have kp185 : gP τ117 J 0 = gP σ57 J 0 := (fτ117.O kJ (by decide)).2.1.trans (fσ57.O kJ (by decide)).2.1.symm
          have kp186 : Kpt (gI τ117 J 1 = gI σ J 1) := Eq.trans (show gI τ117 J 1 = gI σ57 J 1 from (fτ117.O kJ (by decide)).1.trans (fσ57.O kJ (by decide)).1.symm) kp170
          have kp187 : Kpt (gI τ117 J 2 = gI σ J 2) := Eq.trans (show gI τ117 J 2 = gI σ57 J 2 from (fτ117.O kJ (by decide)).1.trans (fσ57.O kJ (by decide)).1.symm) kp171
          have kp188 : Kpt (gI τ117 o 8 = gI σ o 8) := Eq.trans (show gI τ117 o 8 = gI σ57 o 8 from (fτ117.O ko (by decide)).1.trans (fσ57.O ko (by decide)).1.symm) kp176
          have kp189 : Kpt (gI τ117 o 9 = gI σ o 9) := Eq.trans (show gI τ117 o 9 = gI σ57 o 9 from (fτ117.O ko (by decide)).1.trans (fσ57.O ko (by decide)).1.symm) kp177
          unfold w_X6_matchText_117
          by_cases hc190 : v1 ≥ 4
          · rw [if_pos hc190]
            unfold w_X6_matchText_197
            refine i_X6_wantWord iτ117 (kth.up (xσ39.trans (xσ40.trans (xσ41.trans (xσ42.trans (xσ46.trans (xσ48.trans (xσ50.trans (xσ52.trans (xσ54.trans (xσ56.trans (xσ57.trans xτ117)))))))))))) (kp180.trans hX0) (kX.up (xσ39.trans (xσ40.trans (xσ41.trans (xσ42.trans (xσ46.trans (xσ48.trans (xσ50.trans (xσ52.trans (xσ54.trans (xσ56.trans (xσ57.trans xτ117)))))))))))) (((xσ39.trans (xσ40.trans (xσ41.trans (xσ42.trans (xσ46.trans (xσ48.trans (xσ50.trans (xσ52.trans (xσ54.trans (xσ56.trans (xσ57.trans xτ117))))))))))) tx kX.1).2.2.trans gX) (by (first | omega | with_reducible assumption | with_reducible exact rng_toInt _ | with_reducible exact rng_wr _ | (unfold rng; omega) | (unfold rng at *; omega) | assumption)) (by (first | omega | with_reducible assumption | with_reducible exact rng_toInt _ | with_reducible exact rng_wr _ | (unfold rng; omega) | (unfold rng at *; omega) | assumption)) (fun σ65 _ iσ65 cσ65 pσ65 => ?_) (fun σx LLx Nx nux E ix cx ux px => hX σx LLx Nx nux E ix (fτ117.tr (cx.mo (by decide))) (nu_τ117.x ux) (by first | exact px | exact ⟨by have := px.1; omega, px.2⟩ | (first | omega | with_reducible assumption | with_reducible exact rng_toInt _ | with_reducible exact rng_wr _ | (unfold rng; omega) | (unfold rng at *; omega) | assumption)))
            intro xσ65
            have fσ65 : Fx [261, 262, 263, 323, 324, 326, 327, 333, 336, 386, 387, 388, 389, 390, 6464, 8320] gr σ σ65 := fτ117.tr (cσ65.mo (by decide))
            have oxcσ65 : OX o σ σ65 := oxcτ117.tr (OX.fx cσ65 (by decide) (by decide)) (xσ39.trans (xσ40.trans (xσ41.trans (xσ42.trans (xσ46.trans (xσ48.trans (xσ50.trans (xσ52.trans (xσ54.trans (xσ56.trans (xσ57.trans xτ117)))))))))))
            have kp191 : gP σ65 J 0 = gP τ117 J 0 := (cσ65.O (kJ.up (xσ39.trans (xσ40.trans (xσ41.trans (xσ42.trans (xσ46.trans (xσ48.trans (xσ50.trans (xσ52.trans (xσ54.trans (xσ56.trans (xσ57.trans xτ117)))))))))))) (by decide)).2.1
            have kp192 : gP σ65 th 0 = gP τ117 th 0 := (cσ65.O (kth.up (xσ39.trans (xσ40.trans (xσ41.trans (xσ42.trans (xσ46.trans (xσ48.trans (xσ50.trans (xσ52.trans (xσ54.trans (xσ56.trans (xσ57.trans xτ117)))))))))))) (by decide)).2.1
            have kp193 : gP σ65 th 7 = gP τ117 th 7 := (cσ65.O (kth.up (xσ39.trans (xσ40.trans (xσ41.trans (xσ42.trans (xσ46.trans (xσ48.trans (xσ50.trans (xσ52.trans (xσ54.trans (xσ56.trans (xσ57.trans xτ117)))))))))))) (by decide)).2.1
            have kp194 : gP σ65 th 8 = gP τ117 th 8 := (cσ65.O (kth.up (xσ39.trans (xσ40.trans (xσ41.trans (xσ42.trans (xσ46.trans (xσ48.trans (xσ50.trans (xσ52.trans (xσ54.trans (xσ56.trans (xσ57.trans xτ117)))))))))))) (by decide)).2.1
            have kp195 : Kpt (gI σ65 J 7 = gI τ117 J 7) := (cσ65.O (kJ.up (xσ39.trans (xσ40.trans (xσ41.trans (xσ42.trans (xσ46.trans (xσ48.trans (xσ50.trans (xσ52.trans (xσ54.trans (xσ56.trans (xσ57.trans xτ117)))))))))))) (by decide)).1
            have kp196 : Kpt (gI σ65 J 1 = gI σ J 1) := Eq.trans (show gI σ65 J 1 = gI τ117 J 1 from (cσ65.O (kJ.up (xσ39.trans (xσ40.trans (xσ41.trans (xσ42.trans (xσ46.trans (xσ48.trans (xσ50.trans (xσ52.trans (xσ54.trans (xσ56.trans (xσ57.trans xτ117)))))))))))) (by decide)).1) kp186
            have kp197 : Kpt (gI σ65 J 2 = gI σ J 2) := Eq.trans (show gI σ65 J 2 = gI τ117 J 2 from (cσ65.O (kJ.up (xσ39.trans (xσ40.trans (xσ41.trans (xσ42.trans (xσ46.trans (xσ48.trans (xσ50.trans (xσ52.trans (xσ54.trans (xσ56.trans (xσ57.trans xτ117)))))))))))) (by decide)).1) kp187
            have kp198 : Kpt (gI σ65 o 3 = gI τ117 o 3) := (cσ65.O (ko.up (xσ39.trans (xσ40.trans (xσ41.trans (xσ42.trans (xσ46.trans (xσ48.trans (xσ50.trans (xσ52.trans (xσ54.trans (xσ56.trans (xσ57.trans xτ117)))))))))))) (by decide)).1
            have kp199 : Kpt (gI σ65 o 4 = gI τ117 o 4) := (cσ65.O (ko.up (xσ39.trans (xσ40.trans (xσ41.trans (xσ42.trans (xσ46.trans (xσ48.trans (xσ50.trans (xσ52.trans (xσ54.trans (xσ56.trans (xσ57.trans xτ117)))))))))))) (by decide)).1
            have kp200 : Kpt (gI σ65 o 6 = gI τ117 o 6) := (cσ65.O (ko.up (xσ39.trans (xσ40.trans (xσ41.trans (xσ42.trans (xσ46.trans (xσ48.trans (xσ50.trans (xσ52.trans (xσ54.trans (xσ56.trans (xσ57.trans xτ117)))))))))))) (by decide)).1
            have kp201 : Kpt (gI σ65 o 7 = gI τ117 o 7) := (cσ65.O (ko.up (xσ39.trans (xσ40.trans (xσ41.trans (xσ42.trans (xσ46.trans (xσ48.trans (xσ50.trans (xσ52.trans (xσ54.trans (xσ56.trans (xσ57.trans xτ117)))))))))))) (by decide)).1
            have kp202 : Kpt (gI σ65 o 8 = gI σ o 8) := Eq.trans (show gI σ65 o 8 = gI τ117 o 8 from (cσ65.O (ko.up (xσ39.trans (xσ40.trans (xσ41.trans (xσ42.trans (xσ46.trans (xσ48.trans (xσ50.trans (xσ52.trans (xσ54.trans (xσ56.trans (xσ57.trans xτ117)))))))))))) (by decide)).1) kp188
            have kp203 : Kpt (gI σ65 o 9 = gI σ o 9) := Eq.trans (show gI σ65 o 9 = gI τ117 o 9 from (cσ65.O (ko.up (xσ39.trans (xσ40.trans (xσ41.trans (xσ42.trans (xσ46.trans (xσ48.trans (xσ50.trans (xσ52.trans (xσ54.trans (xσ56.trans (xσ57.trans xτ117)))))))))))) (by decide)).1) kp189
            have r5σ65 := I_6_5 iσ65.1 (kth.up (xσ39.trans (xσ40.trans (xσ41.trans (xσ42.trans (xσ46.trans (xσ48.trans (xσ50.trans (xσ52.trans (xσ54.trans (xσ56.trans (xσ57.trans (xτ117.trans xσ65)))))))))))))
            refine i_X6_number iσ65 (kth.up (xσ39.trans (xσ40.trans (xσ41.trans (xσ42.trans (xσ46.trans (xσ48.trans (xσ50.trans (xσ52.trans (xσ54.trans (xσ56.trans (xσ57.trans (xτ117.trans xσ65))))))))))))) (by (first | omega | with_reducible assumption | with_reducible exact rng_toInt _ | with_reducible exact rng_wr _ | (unfold rng; omega) | (unfold rng at *; omega) | assumption)) (by (first | omega | with_reducible assumption | with_reducible exact rng_toInt _ | with_reducible exact rng_wr _ | (unfold rng; omega) | (unfold rng at *; omega) | assumption)) (fun σ66 r67 iσ66 cσ66 pσ66 => ?_) (fun σx LLx Nx nux E ix cx ux px => hX σx LLx Nx nux E ix (fσ65.tr (cx.mo (by decide))) (nu_τ117.x ux) (by first | exact px | exact ⟨by have := px.1; omega, px.2⟩ | (first | omega | with_reducible assumption | with_reducible exact rng_toInt _ | with_reducible exact rng_wr _ | (unfold rng; omega) | (unfold rng at *; omega) | assumption)))
            intro xσ66
            have fσ66 : Fx [261, 262, 263, 323, 324, 326, 327, 333, 336, 386, 387, 388, 389, 390, 6464, 8320] gr σ σ66 := fσ65.tr (cσ66.mo (by decide))
            have oxcσ66 : OX o σ σ66 := oxcσ65.tr (OX.fx cσ66 (by decide) (by decide)) (xσ39.trans (xσ40.trans (xσ41.trans (xσ42.trans (xσ46.trans (xσ48.trans (xσ50.trans (xσ52.trans (xσ54.trans (xσ56.trans (xσ57.trans (xτ117.trans xσ65))))))))))))
            have kp204 : gP σ66 J 0 = gP σ65 J 0 := (cσ66.O (kJ.up (xσ39.trans (xσ40.trans (xσ41.trans (xσ42.trans (xσ46.trans (xσ48.trans (xσ50.trans (xσ52.trans (xσ54.trans (xσ56.trans (xσ57.trans (xτ117.trans xσ65))))))))))))) (by decide)).2.1
            have kp205 : gP σ66 th 0 = gP σ65 th 0 := (cσ66.O (kth.up (xσ39.trans (xσ40.trans (xσ41.trans (xσ42.trans (xσ46.trans (xσ48.trans (xσ50.trans (xσ52.trans (xσ54.trans (xσ56.trans (xσ57.trans (xτ117.trans xσ65))))))))))))) (by decide)).2.1
            have kp206 : gP σ66 th 7 = gP σ65 th 7 := (cσ66.O (kth.up (xσ39.trans (xσ40.trans (xσ41.trans (xσ42.trans (xσ46.trans (xσ48.trans (xσ50.trans (xσ52.trans (xσ54.trans (xσ56.trans (xσ57.trans (xτ117.trans xσ65))))))))))))) (by decide)).2.1
            have kp207 : gP σ66 th 8 = gP σ65 th 8 := (cσ66.O (kth.up (xσ39.trans (xσ40.trans (xσ41.trans (xσ42.trans (xσ46.trans (xσ48.trans (xσ50.trans (xσ52.trans (xσ54.trans (xσ56.trans (xσ57.trans (xτ117.trans xσ65))))))))))))) (by decide)).2.1
            have kp208 : gI σ66 th 2 = gI σ65 th 2 := (cσ66.O (kth.up (xσ39.trans (xσ40.trans (xσ41.trans (xσ42.trans (xσ46.trans (xσ48.trans (xσ50.trans (xσ52.trans (xσ54.trans (xσ56.trans (xσ57.trans (xτ117.trans xσ65))))))))))))) (by decide)).1
            have kp209 : gI σ66 th 3 = gI σ65 th 3 := (cσ66.O (kth.up (xσ39.trans (xσ40.trans (xσ41.trans (xσ42.trans (xσ46.trans (xσ48.trans (xσ50.trans (xσ52.trans (xσ54.trans (xσ56.trans (xσ57.trans (xτ117.trans xσ65))))))))))))) (by decide)).1
            have kp210 : gI σ66 th 5 = gI σ65 th 5 := (cσ66.O (kth.up (xσ39.trans (xσ40.trans (xσ41.trans (xσ42.trans (xσ46.trans (xσ48.trans (xσ50.trans (xσ52.trans (xσ54.trans (xσ56.trans (xσ57.trans (xτ117.trans xσ65))))))))))))) (by decide)).1
            have kp211 : Kpt (gI σ66 J 7 = gI τ117 J 7) := Eq.trans (show gI σ66 J 7 = gI σ65 J 7 from (cσ66.O (kJ.up (xσ39.trans (xσ40.trans (xσ41.trans (xσ42.trans (xσ46.trans (xσ48.trans (xσ50.trans (xσ52.trans (xσ54.trans (xσ56.trans (xσ57.trans (xτ117.trans xσ65))))))))))))) (by decide)).1) kp195
            have kp212 : Kpt (gI σ66 J 1 = gI σ J 1) := Eq.trans (show gI σ66 J 1 = gI σ65 J 1 from (cσ66.O (kJ.up (xσ39.trans (xσ40.trans (xσ41.trans (xσ42.trans (xσ46.trans (xσ48.trans (xσ50.trans (xσ52.trans (xσ54.trans (xσ56.trans (xσ57.trans (xτ117.trans xσ65))))))))))))) (by decide)).1) kp196
            have kp213 : Kpt (gI σ66 J 2 = gI σ J 2) := Eq.trans (show gI σ66 J 2 = gI σ65 J 2 from (cσ66.O (kJ.up (xσ39.trans (xσ40.trans (xσ41.trans (xσ42.trans (xσ46.trans (xσ48.trans (xσ50.trans (xσ52.trans (xσ54.trans (xσ56.trans (xσ57.trans (xτ117.trans xσ65))))))))))))) (by decide)).1) kp197
            have kp214 : Kpt (gI σ66 o 3 = gI τ117 o 3) := Eq.trans (show gI σ66 o 3 = gI σ65 o 3 from (cσ66.O (ko.up (xσ39.trans (xσ40.trans (xσ41.trans (xσ42.trans (xσ46.trans (xσ48.trans (xσ50.trans (xσ52.trans (xσ54.trans (xσ56.trans (xσ57.trans (xτ117.trans xσ65))))))))))))) (by decide)).1) kp198
            have kp215 : Kpt (gI σ66 o 4 = gI τ117 o 4) := Eq.trans (show gI σ66 o 4 = gI σ65 o 4 from (cσ66.O (ko.up (xσ39.trans (xσ40.trans (xσ41.trans (xσ42.trans (xσ46.trans (xσ48.trans (xσ50.trans (xσ52.trans (xσ54.trans (xσ56.trans (xσ57.trans (xτ117.trans xσ65))))))))))))) (by decide)).1) kp199
            have kp216 : Kpt (gI σ66 o 6 = gI τ117 o 6) := Eq.trans (show gI σ66 o 6 = gI σ65 o 6 from (cσ66.O (ko.up (xσ39.trans (xσ40.trans (xσ41.trans (xσ42.trans (xσ46.trans (xσ48.trans (xσ50.trans (xσ52.trans (xσ54.trans (xσ56.trans (xσ57.trans (xτ117.trans xσ65))))))))))))) (by decide)).1) kp200
            have kp217 : Kpt (gI σ66 o 7 = gI τ117 o 7) := Eq.trans (show gI σ66 o 7 = gI σ65 o 7 from (cσ66.O (ko.up (xσ39.trans (xσ40.trans (xσ41.trans (xσ42.trans (xσ46.trans (xσ48.trans (xσ50.trans (xσ52.trans (xσ54.trans (xσ56.trans (xσ57.trans (xτ117.trans xσ65))))))))))))) (by decide)).1) kp201
            have kp218 : Kpt (gI σ66 o 8 = gI σ o 8) := Eq.trans (show gI σ66 o 8 = gI σ65 o 8 from (cσ66.O (ko.up (xσ39.trans (xσ40.trans (xσ41.trans (xσ42.trans (xσ46.trans (xσ48.trans (xσ50.trans (xσ52.trans (xσ54.trans (xσ56.trans (xσ57.trans (xτ117.trans xσ65))))))))))))) (by decide)).1) kp202
            have kp219 : Kpt (gI σ66 o 9 = gI σ o 9) := Eq.trans (show gI σ66 o 9 = gI σ65 o 9 from (cσ66.O (ko.up (xσ39.trans (xσ40.trans (xσ41.trans (xσ42.trans (xσ46.trans (xσ48.trans (xσ50.trans (xσ52.trans (xσ54.trans (xσ56.trans (xσ57.trans (xτ117.trans xσ65))))))))))))) (by decide)).1) kp203
            refine ⟨o, (kp194.trans (kp182.trans h8)), fun kk_o_4 => ?_⟩
            intro σ69 eσ69
            have xσ69 : Ext σ66 σ69 := by rw [eσ69]; exact fun _ h => ⟨h, rfl, rfl⟩
            have iσ69 : IV σ69 pl gq ci gr nc ot LL N nut117 := by rw [eσ69]; exact iσ66.wSp (ko.up (xσ39.trans (xσ40.trans (xσ41.trans (xσ42.trans (xσ46.trans (xσ48.trans (xσ50.trans (xσ52.trans (xσ54.trans (xσ56.trans (xσ57.trans (xτ117.trans (xσ65.trans xσ66)))))))))))))) (fun i hi => by omega) (by decide) (show (-1000 : Int) ≤ r67 ∧ r67 ≤ 1000 from ⟨by omega, by omega⟩)
            have fσ69 : Fx [261, 262, 263, 323, 324, 326, 327, 333, 336, 386, 387, 388, 389, 390, 6464, 8320] gr σ σ69 := fσ66.tr (Sk.fx (by rw [eσ69]; exact Sk.pI (by rw [fcdO (ko.up (xσ39.trans (xσ40.trans (xσ41.trans (xσ42.trans (xσ46.trans (xσ48.trans (xσ50.trans (xσ52.trans (xσ54.trans (xσ56.trans (xσ57.trans (xτ117.trans (xσ65.trans xσ66)))))))))))))) (by decide)]; decide)))
            have oxcσ69 : OX o σ σ69 := oxcσ66.tr (by rw [eσ69]; exact OX.pI (ko.up (xσ39.trans (xσ40.trans (xσ41.trans (xσ42.trans (xσ46.trans (xσ48.trans (xσ50.trans (xσ52.trans (xσ54.trans (xσ56.trans (xσ57.trans (xτ117.trans (xσ65.trans xσ66)))))))))))))) (Or.inr rfl)) (xσ39.trans (xσ40.trans (xσ41.trans (xσ42.trans (xσ46.trans (xσ48.trans (xσ50.trans (xσ52.trans (xσ54.trans (xσ56.trans (xσ57.trans (xτ117.trans (xσ65.trans xσ66)))))))))))))
            have wσ69 : gI σ69 o 16 = r67 := by rw [eσ69]; exact up2_s _ _ _ _
            have kp220 : gP σ69 J 0 = gP σ66 J 0 := by rw [eσ69]
            have kp221 : gP σ69 th 0 = gP σ66 th 0 := by rw [eσ69]
            have kp222 : gP σ69 th 7 = gP σ66 th 7 := by rw [eσ69]
            have kp223 : gP σ69 th 8 = gP σ66 th 8 := by rw [eσ69]
            have kp224 : gI σ69 th 2 = gI σ66 th 2 := by rw [eσ69]; exact up2_n _ _ (fun q => absurd q.2 (by decide))
            have kp225 : gI σ69 th 3 = gI σ66 th 3 := by rw [eσ69]; exact up2_n _ _ (fun q => absurd q.2 (by decide))
            have kp226 : gI σ69 th 5 = gI σ66 th 5 := by rw [eσ69]; exact up2_n _ _ (fun q => absurd q.2 (by decide))
            have kp227 : Kpt (gI σ69 J 7 = gI τ117 J 7) := Eq.trans (show gI σ69 J 7 = gI σ66 J 7 from by rw [eσ69]; exact up2_n _ _ (fun q => absurd q.2 (by decide))) kp211
            have kp228 : Kpt (gI σ69 J 1 = gI σ J 1) := Eq.trans (show gI σ69 J 1 = gI σ66 J 1 from by rw [eσ69]; exact up2_n _ _ (fun q => absurd q.2 (by decide))) kp212
            have kp229 : Kpt (gI σ69 J 2 = gI σ J 2) := Eq.trans (show gI σ69 J 2 = gI σ66 J 2 from by rw [eσ69]; exact up2_n _ _ (fun q => absurd q.2 (by decide))) kp213
            have kp230 : Kpt (gI σ69 o 3 = gI τ117 o 3) := Eq.trans (show gI σ69 o 3 = gI σ66 o 3 from by rw [eσ69]; exact up2_n _ _ (fun q => absurd q.2 (by decide))) kp214
            have kp231 : Kpt (gI σ69 o 4 = gI τ117 o 4) := Eq.trans (show gI σ69 o 4 = gI σ66 o 4 from by rw [eσ69]; exact up2_n _ _ (fun q => absurd q.2 (by decide))) kp215
            have kp232 : Kpt (gI σ69 o 6 = gI τ117 o 6) := Eq.trans (show gI σ69 o 6 = gI σ66 o 6 from by rw [eσ69]; exact up2_n _ _ (fun q => absurd q.2 (by decide))) kp216
            have kp233 : Kpt (gI σ69 o 7 = gI τ117 o 7) := Eq.trans (show gI σ69 o 7 = gI σ66 o 7 from by rw [eσ69]; exact up2_n _ _ (fun q => absurd q.2 (by decide))) kp217
            have kp234 : Kpt (gI σ69 o 8 = gI σ o 8) := Eq.trans (show gI σ69 o 8 = gI σ66 o 8 from by rw [eσ69]; exact up2_n _ _ (fun q => absurd q.2 (by decide))) kp218
            have kp235 : Kpt (gI σ69 o 9 = gI σ o 9) := Eq.trans (show gI σ69 o 9 = gI σ66 o 9 from by rw [eσ69]; exact up2_n _ _ (fun q => absurd q.2 (by decide))) kp219
            refine i_X6_next iσ69 (kth.up (xσ39.trans (xσ40.trans (xσ41.trans (xσ42.trans (xσ46.trans (xσ48.trans (xσ50.trans (xσ52.trans (xσ54.trans (xσ56.trans (xσ57.trans (xτ117.trans (xσ65.trans (xσ66.trans xσ69))))))))))))))) (kp221.trans (kp205.trans (kp192.trans (kp180.trans hX0)))) (kX.up (xσ39.trans (xσ40.trans (xσ41.trans (xσ42.trans (xσ46.trans (xσ48.trans (xσ50.trans (xσ52.trans (xσ54.trans (xσ56.trans (xσ57.trans (xτ117.trans (xσ65.trans (xσ66.trans xσ69))))))))))))))) (((xσ39.trans (xσ40.trans (xσ41.trans (xσ42.trans (xσ46.trans (xσ48.trans (xσ50.trans (xσ52.trans (xσ54.trans (xσ56.trans (xσ57.trans (xτ117.trans (xσ65.trans (xσ66.trans xσ69)))))))))))))) tx kX.1).2.2.trans gX) (by (first | omega | with_reducible assumption | with_reducible exact rng_toInt _ | with_reducible exact rng_wr _ | (unfold rng; omega) | (unfold rng at *; omega) | assumption)) (by (first | omega | with_reducible assumption | with_reducible exact rng_toInt _ | with_reducible exact rng_wr _ | (unfold rng; omega) | (unfold rng at *; omega) | assumption)) (fun σ70 _ iσ70 cσ70 pσ70 => ?_) (fun σx LLx Nx nux E ix cx ux px => hX σx LLx Nx nux E ix (fσ69.tr (cx.mo (by decide))) (nu_τ117.x ux) (by first | exact px | exact ⟨by have := px.1; omega, px.2⟩ | (first | omega | with_reducible assumption | with_reducible exact rng_toInt _ | with_reducible exact rng_wr _ | (unfold rng; omega) | (unfold rng at *; omega) | assumption)))
            intro xσ70
            have fσ70 : Fx [261, 262, 263, 323, 324, 326, 327, 333, 336, 386, 387, 388, 389, 390, 6464, 8320] gr σ σ70 := fσ69.tr (cσ70.mo (by decide))
            have oxcσ70 : OX o σ σ70 := oxcσ69.tr (OX.fx cσ70 (by decide) (by decide)) (xσ39.trans (xσ40.trans (xσ41.trans (xσ42.trans (xσ46.trans (xσ48.trans (xσ50.trans (xσ52.trans (xσ54.trans (xσ56.trans (xσ57.trans (xτ117.trans (xσ65.trans (xσ66.trans xσ69))))))))))))))
            have kp236 : gI σ70 o 16 = gI σ69 o 16 := (cσ70.O (ko.up (xσ39.trans (xσ40.trans (xσ41.trans (xσ42.trans (xσ46.trans (xσ48.trans (xσ50.trans (xσ52.trans (xσ54.trans (xσ56.trans (xσ57.trans (xτ117.trans (xσ65.trans (xσ66.trans xσ69))))))))))))))) (by decide)).1
            have kp237 : gP σ70 J 0 = gP σ69 J 0 := (cσ70.O (kJ.up (xσ39.trans (xσ40.trans (xσ41.trans (xσ42.trans (xσ46.trans (xσ48.trans (xσ50.trans (xσ52.trans (xσ54.trans (xσ56.trans (xσ57.trans (xτ117.trans (xσ65.trans (xσ66.trans xσ69))))))))))))))) (by decide)).2.1
            have kp238 : gP σ70 th 0 = gP σ69 th 0 := (cσ70.O (kth.up (xσ39.trans (xσ40.trans (xσ41.trans (xσ42.trans (xσ46.trans (xσ48.trans (xσ50.trans (xσ52.trans (xσ54.trans (xσ56.trans (xσ57.trans (xτ117.trans (xσ65.trans (xσ66.trans xσ69))))))))))))))) (by decide)).2.1
            have kp239 : gP σ70 th 7 = gP σ69 th 7 := (cσ70.O (kth.up (xσ39.trans (xσ40.trans (xσ41.trans (xσ42.trans (xσ46.trans (xσ48.trans (xσ50.trans (xσ52.trans (xσ54.trans (xσ56.trans (xσ57.trans (xτ117.trans (xσ65.trans (xσ66.trans xσ69))))))))))))))) (by decide)).2.1
            have kp240 : gP σ70 th 8 = gP σ69 th 8 := (cσ70.O (kth.up (xσ39.trans (xσ40.trans (xσ41.trans (xσ42.trans (xσ46.trans (xσ48.trans (xσ50.trans (xσ52.trans (xσ54.trans (xσ56.trans (xσ57.trans (xτ117.trans (xσ65.trans (xσ66.trans xσ69))))))))))))))) (by decide)).2.1
            have kp241 : Kpt (gI σ70 J 7 = gI τ117 J 7) := Eq.trans (show gI σ70 J 7 = gI σ69 J 7 from (cσ70.O (kJ.up (xσ39.trans (xσ40.trans (xσ41.trans (xσ42.trans (xσ46.trans (xσ48.trans (xσ50.trans (xσ52.trans (xσ54.trans (xσ56.trans (xσ57.trans (xτ117.trans (xσ65.trans (xσ66.trans xσ69))))))))))))))) (by decide)).1) kp227
            have kp242 : Kpt (gI σ70 J 1 = gI σ J 1) := Eq.trans (show gI σ70 J 1 = gI σ69 J 1 from (cσ70.O (kJ.up (xσ39.trans (xσ40.trans (xσ41.trans (xσ42.trans (xσ46.trans (xσ48.trans (xσ50.trans (xσ52.trans (xσ54.trans (xσ56.trans (xσ57.trans (xτ117.trans (xσ65.trans (xσ66.trans xσ69))))))))))))))) (by decide)).1) kp228
            have kp243 : Kpt (gI σ70 J 2 = gI σ J 2) := Eq.trans (show gI σ70 J 2 = gI σ69 J 2 from (cσ70.O (kJ.up (xσ39.trans (xσ40.trans (xσ41.trans (xσ42.trans (xσ46.trans (xσ48.trans (xσ50.trans (xσ52.trans (xσ54.trans (xσ56.trans (xσ57.trans (xτ117.trans (xσ65.trans (xσ66.trans xσ69))))))))))))))) (by decide)).1) kp229
            have kp244 : Kpt (gI σ70 o 3 = gI τ117 o 3) := Eq.trans (show gI σ70 o 3 = gI σ69 o 3 from (cσ70.O (ko.up (xσ39.trans (xσ40.trans (xσ41.trans (xσ42.trans (xσ46.trans (xσ48.trans (xσ50.trans (xσ52.trans (xσ54.trans (xσ56.trans (xσ57.trans (xτ117.trans (xσ65.trans (xσ66.trans xσ69))))))))))))))) (by decide)).1) kp230
            have kp245 : Kpt (gI σ70 o 4 = gI τ117 o 4) := Eq.trans (show gI σ70 o 4 = gI σ69 o 4 from (cσ70.O (ko.up (xσ39.trans (xσ40.trans (xσ41.trans (xσ42.trans (xσ46.trans (xσ48.trans (xσ50.trans (xσ52.trans (xσ54.trans (xσ56.trans (xσ57.trans (xτ117.trans (xσ65.trans (xσ66.trans xσ69))))))))))))))) (by decide)).1) kp231
            have kp246 : Kpt (gI σ70 o 6 = gI τ117 o 6) := Eq.trans (show gI σ70 o 6 = gI σ69 o 6 from (cσ70.O (ko.up (xσ39.trans (xσ40.trans (xσ41.trans (xσ42.trans (xσ46.trans (xσ48.trans (xσ50.trans (xσ52.trans (xσ54.trans (xσ56.trans (xσ57.trans (xτ117.trans (xσ65.trans (xσ66.trans xσ69))))))))))))))) (by decide)).1) kp232
            have kp247 : Kpt (gI σ70 o 7 = gI τ117 o 7) := Eq.trans (show gI σ70 o 7 = gI σ69 o 7 from (cσ70.O (ko.up (xσ39.trans (xσ40.trans (xσ41.trans (xσ42.trans (xσ46.trans (xσ48.trans (xσ50.trans (xσ52.trans (xσ54.trans (xσ56.trans (xσ57.trans (xτ117.trans (xσ65.trans (xσ66.trans xσ69))))))))))))))) (by decide)).1) kp233
            have kp248 : Kpt (gI σ70 o 8 = gI σ o 8) := Eq.trans (show gI σ70 o 8 = gI σ69 o 8 from (cσ70.O (ko.up (xσ39.trans (xσ40.trans (xσ41.trans (xσ42.trans (xσ46.trans (xσ48.trans (xσ50.trans (xσ52.trans (xσ54.trans (xσ56.trans (xσ57.trans (xτ117.trans (xσ65.trans (xσ66.trans xσ69))))))))))))))) (by decide)).1) kp234
            have kp249 : Kpt (gI σ70 o 9 = gI σ o 9) := Eq.trans (show gI σ70 o 9 = gI σ69 o 9 from (cσ70.O (ko.up (xσ39.trans (xσ40.trans (xσ41.trans (xσ42.trans (xσ46.trans (xσ48.trans (xσ50.trans (xσ52.trans (xσ54.trans (xσ56.trans (xσ57.trans (xτ117.trans (xσ65.trans (xσ66.trans xσ69))))))))))))))) (by decide)).1) kp235
            have r5σ70 := I_6_5 iσ70.1 (kth.up (xσ39.trans (xσ40.trans (xσ41.trans (xσ42.trans (xσ46.trans (xσ48.trans (xσ50.trans (xσ52.trans (xσ54.trans (xσ56.trans (xσ57.trans (xτ117.trans (xσ65.trans (xσ66.trans (xσ69.trans xσ70))))))))))))))))
            have ho250 : gI σ70 J 7 = gI τ117 J 7 := kp241
            have ho251 : gI σ70 J 1 = gI σ J 1 := kp242
            have ho252 : gI σ70 J 2 = gI σ J 2 := kp243
            have ho253 : gI σ70 o 3 = gI τ117 o 3 := kp244
            have ho254 : gI σ70 o 4 = gI τ117 o 4 := kp245
            have ho255 : gI σ70 o 6 = gI τ117 o 6 := kp246
            have ho256 : gI σ70 o 7 = gI τ117 o 7 := kp247
            have ho257 : gI σ70 o 8 = gI σ o 8 := kp248
            have ho258 : gI σ70 o 9 = gI σ o 9 := kp249
            exact hQ σ70 nut117 () iσ70 fσ70 (nu_τ117) oxcσ70 (⟨by omega, by omega, ⟨by omega, (fun h => absurd h (by omega)), (fun h => absurd h (by omega))⟩⟩)
          · rw [if_neg hc190]
            unfold w_X6_matchText_122
            refine i_X6_newValue iτ117 (kth.up (xσ39.trans (xσ40.trans (xσ41.trans (xσ42.trans (xσ46.trans (xσ48.trans (xσ50.trans (xσ52.trans (xσ54.trans (xσ56.trans (xσ57.trans xτ117)))))))))))) (kp181.trans h7) (kJ.up (xσ39.trans (xσ40.trans (xσ41.trans (xσ42.trans (xσ46.trans (xσ48.trans (xσ50.trans (xσ52.trans (xσ54.trans (xσ56.trans (xσ57.trans xτ117)))))))))))) (kp182.trans h8) (ko.up (xσ39.trans (xσ40.trans (xσ41.trans (xσ42.trans (xσ46.trans (xσ48.trans (xσ50.trans (xσ52.trans (xσ54.trans (xσ56.trans (xσ57.trans xτ117)))))))))))) (by (first | omega | with_reducible assumption | with_reducible exact rng_toInt _ | with_reducible exact rng_wr _ | (unfold rng; omega) | (unfold rng at *; omega) | assumption)) (by (first | omega | with_reducible assumption | with_reducible exact rng_toInt _ | with_reducible exact rng_wr _ | (unfold rng; omega) | (unfold rng at *; omega) | assumption)) (by (first | omega | with_reducible assumption | with_reducible exact rng_toInt _ | with_reducible exact rng_wr _ | (unfold rng; omega) | (unfold rng at *; omega) | assumption)) (by (first | omega | with_reducible assumption | with_reducible exact rng_toInt _ | with_reducible exact rng_wr _ | (unfold rng; omega) | (unfold rng at *; omega) | assumption)) (fun σ58 _ iσ58 cσ58 oxσ58 pσ58 => ?_)
            intro xσ58
            have fσ58 : Fx [261, 262, 263, 323, 324, 326, 327, 333, 336, 386, 387, 388, 389, 390, 6464, 8320] gr σ σ58 := fτ117.tr (cσ58.mo (by decide))
            have oxcσ58 : OX o σ σ58 := oxcτ117.tr oxσ58 (xσ39.trans (xσ40.trans (xσ41.trans (xσ42.trans (xσ46.trans (xσ48.trans (xσ50.trans (xσ52.trans (xσ54.trans (xσ56.trans (xσ57.trans xτ117)))))))))))
            have kp259 : gP σ58 J 0 = gP τ117 J 0 := (cσ58.O (kJ.up (xσ39.trans (xσ40.trans (xσ41.trans (xσ42.trans (xσ46.trans (xσ48.trans (xσ50.trans (xσ52.trans (xσ54.trans (xσ56.trans (xσ57.trans xτ117)))))))))))) (by decide)).2.1
            have kp260 : gP σ58 th 0 = gP τ117 th 0 := (cσ58.O (kth.up (xσ39.trans (xσ40.trans (xσ41.trans (xσ42.trans (xσ46.trans (xσ48.trans (xσ50.trans (xσ52.trans (xσ54.trans (xσ56.trans (xσ57.trans xτ117)))))))))))) (by decide)).2.1
            have kp261 : gP σ58 th 7 = gP τ117 th 7 := (cσ58.O (kth.up (xσ39.trans (xσ40.trans (xσ41.trans (xσ42.trans (xσ46.trans (xσ48.trans (xσ50.trans (xσ52.trans (xσ54.trans (xσ56.trans (xσ57.trans xτ117)))))))))))) (by decide)).2.1
            have kp262 : gP σ58 th 8 = gP τ117 th 8 := (cσ58.O (kth.up (xσ39.trans (xσ40.trans (xσ41.trans (xσ42.trans (xσ46.trans (xσ48.trans (xσ50.trans (xσ52.trans (xσ54.trans (xσ56.trans (xσ57.trans xτ117)))))))))))) (by decide)).2.1
            have kp263 : gI σ58 th 2 = gI τ117 th 2 := (cσ58.O (kth.up (xσ39.trans (xσ40.trans (xσ41.trans (xσ42.trans (xσ46.trans (xσ48.trans (xσ50.trans (xσ52.trans (xσ54.trans (xσ56.trans (xσ57.trans xτ117)))))))))))) (by decide)).1
            have kp264 : gI σ58 th 3 = gI τ117 th 3 := (cσ58.O (kth.up (xσ39.trans (xσ40.trans (xσ41.trans (xσ42.trans (xσ46.trans (xσ48.trans (xσ50.trans (xσ52.trans (xσ54.trans (xσ56.trans (xσ57.trans xτ117)))))))))))) (by decide)).1
            have kp265 : gI σ58 th 5 = gI τ117 th 5 := (cσ58.O (kth.up (xσ39.trans (xσ40.trans (xσ41.trans (xσ42.trans (xσ46.trans (xσ48.trans (xσ50.trans (xσ52.trans (xσ54.trans (xσ56.trans (xσ57.trans xτ117)))))))))))) (by decide)).1
            have kp266 : Kpt (gI σ58 J 7 = gI τ117 J 7) := (cσ58.O (kJ.up (xσ39.trans (xσ40.trans (xσ41.trans (xσ42.trans (xσ46.trans (xσ48.trans (xσ50.trans (xσ52.trans (xσ54.trans (xσ56.trans (xσ57.trans xτ117)))))))))))) (by decide)).1
            have kp267 : Kpt (gI σ58 J 1 = gI σ J 1) := Eq.trans (show gI σ58 J 1 = gI τ117 J 1 from (cσ58.O (kJ.up (xσ39.trans (xσ40.trans (xσ41.trans (xσ42.trans (xσ46.trans (xσ48.trans (xσ50.trans (xσ52.trans (xσ54.trans (xσ56.trans (xσ57.trans xτ117)))))))))))) (by decide)).1) kp186
            have kp268 : Kpt (gI σ58 J 2 = gI σ J 2) := Eq.trans (show gI σ58 J 2 = gI τ117 J 2 from (cσ58.O (kJ.up (xσ39.trans (xσ40.trans (xσ41.trans (xσ42.trans (xσ46.trans (xσ48.trans (xσ50.trans (xσ52.trans (xσ54.trans (xσ56.trans (xσ57.trans xτ117)))))))))))) (by decide)).1) kp187
            have kp269 : Kpt (gI σ58 o 3 = gI τ117 o 3) := (cσ58.O (ko.up (xσ39.trans (xσ40.trans (xσ41.trans (xσ42.trans (xσ46.trans (xσ48.trans (xσ50.trans (xσ52.trans (xσ54.trans (xσ56.trans (xσ57.trans xτ117)))))))))))) (by decide)).1
            have kp270 : Kpt (gI σ58 o 6 = gI τ117 o 6) := (cσ58.O (ko.up (xσ39.trans (xσ40.trans (xσ41.trans (xσ42.trans (xσ46.trans (xσ48.trans (xσ50.trans (xσ52.trans (xσ54.trans (xσ56.trans (xσ57.trans xτ117)))))))))))) (by decide)).1
            have kp271 : Kpt (gI σ58 o 7 = gI τ117 o 7) := (cσ58.O (ko.up (xσ39.trans (xσ40.trans (xσ41.trans (xσ42.trans (xσ46.trans (xσ48.trans (xσ50.trans (xσ52.trans (xσ54.trans (xσ56.trans (xσ57.trans xτ117)))))))))))) (by decide)).1
            have kp272 : Kpt (gI σ58 o 8 = gI σ o 8) := Eq.trans (show gI σ58 o 8 = gI τ117 o 8 from (cσ58.O (ko.up (xσ39.trans (xσ40.trans (xσ41.trans (xσ42.trans (xσ46.trans (xσ48.trans (xσ50.trans (xσ52.trans (xσ54.trans (xσ56.trans (xσ57.trans xτ117)))))))))))) (by decide)).1) kp188
            have kp273 : Kpt (gI σ58 o 9 = gI σ o 9) := Eq.trans (show gI σ58 o 9 = gI τ117 o 9 from (cσ58.O (ko.up (xσ39.trans (xσ40.trans (xσ41.trans (xσ42.trans (xσ46.trans (xσ48.trans (xσ50.trans (xσ52.trans (xσ54.trans (xσ56.trans (xσ57.trans xτ117)))))))))))) (by decide)).1) kp189
            have ho274 : gI σ58 J 7 = gI τ117 J 7 := kp266
            have ho275 : gI σ58 o 7 = gI τ117 o 7 := kp271
            refine i_X6_value iσ58 (kth.up (xσ39.trans (xσ40.trans (xσ41.trans (xσ42.trans (xσ46.trans (xσ48.trans (xσ50.trans (xσ52.trans (xσ54.trans (xσ56.trans (xσ57.trans (xτ117.trans xσ58))))))))))))) (kp260.trans (kp180.trans hX0)) (kX.up (xσ39.trans (xσ40.trans (xσ41.trans (xσ42.trans (xσ46.trans (xσ48.trans (xσ50.trans (xσ52.trans (xσ54.trans (xσ56.trans (xσ57.trans (xτ117.trans xσ58))))))))))))) (((xσ39.trans (xσ40.trans (xσ41.trans (xσ42.trans (xσ46.trans (xσ48.trans (xσ50.trans (xσ52.trans (xσ54.trans (xσ56.trans (xσ57.trans (xτ117.trans xσ58)))))))))))) tx kX.1).2.2.trans gX) (kp261.trans (kp181.trans h7)) (kJ.up (xσ39.trans (xσ40.trans (xσ41.trans (xσ42.trans (xσ46.trans (xσ48.trans (xσ50.trans (xσ52.trans (xσ54.trans (xσ56.trans (xσ57.trans (xτ117.trans xσ58))))))))))))) (kp262.trans (kp182.trans h8)) (ko.up (xσ39.trans (xσ40.trans (xσ41.trans (xσ42.trans (xσ46.trans (xσ48.trans (xσ50.trans (xσ52.trans (xσ54.trans (xσ56.trans (xσ57.trans (xτ117.trans xσ58))))))))))))) (by (first | omega | with_reducible assumption | with_reducible exact rng_toInt _ | with_reducible exact rng_wr _ | (unfold rng; omega) | (unfold rng at *; omega) | assumption)) (by (first | omega | with_reducible assumption | with_reducible exact rng_toInt _ | with_reducible exact rng_wr _ | (unfold rng; omega) | (unfold rng at *; omega) | assumption)) (by (first | omega | with_reducible assumption | with_reducible exact rng_toInt _ | with_reducible exact rng_wr _ | (unfold rng; omega) | (unfold rng at *; omega) | assumption)) (by (first | omega | with_reducible assumption | with_reducible exact rng_toInt _ | with_reducible exact rng_wr _ | (unfold rng; omega) | (unfold rng at *; omega) | assumption)) (by (first | omega | with_reducible assumption | with_reducible exact rng_toInt _ | with_reducible exact rng_wr _ | (unfold rng; omega) | (unfold rng at *; omega) | assumption)) (by (first | omega | with_reducible assumption | with_reducible exact rng_toInt _ | with_reducible exact rng_wr _ | (unfold rng; omega) | (unfold rng at *; omega) | assumption)) (by (first | omega | with_reducible assumption | with_reducible exact rng_toInt _ | with_reducible exact rng_wr _ | (unfold rng; omega) | (unfold rng at *; omega) | assumption)) (by (first | omega | with_reducible assumption | with_reducible exact rng_toInt _ | with_reducible exact rng_wr _ | (unfold rng; omega) | (unfold rng at *; omega) | assumption)) (by (first | omega | with_reducible assumption | with_reducible exact rng_toInt _ | with_reducible exact rng_wr _ | (unfold rng; omega) | (unfold rng at *; omega) | assumption)) (fun σ59 nuσ59 _ iσ59 cσ59 uσ59 pσ59 => ?_) (fun σx LLx Nx nux E ix cx ux px => hX σx LLx Nx nux E ix (fσ58.tr (cx.mo (by decide))) (nu_τ117.x ux) (by first | exact px | exact ⟨by have := px.1; omega, px.2⟩ | (first | omega | with_reducible assumption | with_reducible exact rng_toInt _ | with_reducible exact rng_wr _ | (unfold rng; omega) | (unfold rng at *; omega) | assumption)))
            intro xσ59
            have fσ59 : Fx [261, 262, 263, 323, 324, 326, 327, 333, 336, 386, 387, 388, 389, 390, 6464, 8320] gr σ σ59 := fσ58.tr (cσ59.mo (by decide))
            have oxcσ59 : OX o σ σ59 := oxcσ58.tr (OX.fx cσ59 (by decide) (by decide)) (xσ39.trans (xσ40.trans (xσ41.trans (xσ42.trans (xσ46.trans (xσ48.trans (xσ50.trans (xσ52.trans (xσ54.trans (xσ56.trans (xσ57.trans (xτ117.trans xσ58))))))))))))
            have nu_σ59 : NC nu nuσ59 := nu_τ117.tr uσ59
            have uσ59_0 := uσ59 0 (by decide) (by decide)
            have uσ59_1 := uσ59 1 (by decide) (by decide)
            have uσ59_2 := uσ59 2 (by decide) (by decide)
            have uσ59_5 := uσ59 5 (by decide) (by decide)
            have uσ59_15 := uσ59 15 (by decide) (by decide)
            have uσ59_16 := uσ59 16 (by decide) (by decide)
            have kp276 : gP σ59 J 0 = gP σ58 J 0 := (cσ59.O (kJ.up (xσ39.trans (xσ40.trans (xσ41.trans (xσ42.trans (xσ46.trans (xσ48.trans (xσ50.trans (xσ52.trans (xσ54.trans (xσ56.trans (xσ57.trans (xτ117.trans xσ58))))))))))))) (by decide)).2.1
            have kp277 : gP σ59 th 0 = gP σ58 th 0 := (cσ59.O (kth.up (xσ39.trans (xσ40.trans (xσ41.trans (xσ42.trans (xσ46.trans (xσ48.trans (xσ50.trans (xσ52.trans (xσ54.trans (xσ56.trans (xσ57.trans (xτ117.trans xσ58))))))))))))) (by decide)).2.1
            have kp278 : gP σ59 th 7 = gP σ58 th 7 := (cσ59.O (kth.up (xσ39.trans (xσ40.trans (xσ41.trans (xσ42.trans (xσ46.trans (xσ48.trans (xσ50.trans (xσ52.trans (xσ54.trans (xσ56.trans (xσ57.trans (xτ117.trans xσ58))))))))))))) (by decide)).2.1
            have kp279 : gP σ59 th 8 = gP σ58 th 8 := (cσ59.O (kth.up (xσ39.trans (xσ40.trans (xσ41.trans (xσ42.trans (xσ46.trans (xσ48.trans (xσ50.trans (xσ52.trans (xσ54.trans (xσ56.trans (xσ57.trans (xτ117.trans xσ58))))))))))))) (by decide)).2.1
            have kp280 : Kpt (gI σ59 J 1 = gI σ J 1) := Eq.trans (show gI σ59 J 1 = gI σ58 J 1 from (cσ59.O (kJ.up (xσ39.trans (xσ40.trans (xσ41.trans (xσ42.trans (xσ46.trans (xσ48.trans (xσ50.trans (xσ52.trans (xσ54.trans (xσ56.trans (xσ57.trans (xτ117.trans xσ58))))))))))))) (by decide)).1) kp267
            have kp281 : Kpt (gI σ59 J 2 = gI σ J 2) := Eq.trans (show gI σ59 J 2 = gI σ58 J 2 from (cσ59.O (kJ.up (xσ39.trans (xσ40.trans (xσ41.trans (xσ42.trans (xσ46.trans (xσ48.trans (xσ50.trans (xσ52.trans (xσ54.trans (xσ56.trans (xσ57.trans (xτ117.trans xσ58))))))))))))) (by decide)).1) kp268
            have kp282 : Kpt (gI σ59 o 3 = gI τ117 o 3) := Eq.trans (show gI σ59 o 3 = gI σ58 o 3 from (cσ59.O (ko.up (xσ39.trans (xσ40.trans (xσ41.trans (xσ42.trans (xσ46.trans (xσ48.trans (xσ50.trans (xσ52.trans (xσ54.trans (xσ56.trans (xσ57.trans (xτ117.trans xσ58))))))))))))) (by decide)).1) kp269
            have kp283 : Kpt (gI σ59 o 4 = gI σ58 o 4) := (cσ59.O (ko.up (xσ39.trans (xσ40.trans (xσ41.trans (xσ42.trans (xσ46.trans (xσ48.trans (xσ50.trans (xσ52.trans (xσ54.trans (xσ56.trans (xσ57.trans (xτ117.trans xσ58))))))))))))) (by decide)).1
            have kp284 : Kpt (gI σ59 o 6 = gI τ117 o 6) := Eq.trans (show gI σ59 o 6 = gI σ58 o 6 from (cσ59.O (ko.up (xσ39.trans (xσ40.trans (xσ41.trans (xσ42.trans (xσ46.trans (xσ48.trans (xσ50.trans (xσ52.trans (xσ54.trans (xσ56.trans (xσ57.trans (xτ117.trans xσ58))))))))))))) (by decide)).1) kp270
            have kp285 : Kpt (gI σ59 o 7 = gI τ117 o 7) := Eq.trans (show gI σ59 o 7 = gI σ58 o 7 from (cσ59.O (ko.up (xσ39.trans (xσ40.trans (xσ41.trans (xσ42.trans (xσ46.trans (xσ48.trans (xσ50.trans (xσ52.trans (xσ54.trans (xσ56.trans (xσ57.trans (xτ117.trans xσ58))))))))))))) (by decide)).1) kp271
            have kp286 : Kpt (gI σ59 o 8 = gI σ o 8) := Eq.trans (show gI σ59 o 8 = gI σ58 o 8 from (cσ59.O (ko.up (xσ39.trans (xσ40.trans (xσ41.trans (xσ42.trans (xσ46.trans (xσ48.trans (xσ50.trans (xσ52.trans (xσ54.trans (xσ56.trans (xσ57.trans (xτ117.trans xσ58))))))))))))) (by decide)).1) kp272
            have kp287 : Kpt (gI σ59 o 9 = gI σ o 9) := Eq.trans (show gI σ59 o 9 = gI σ58 o 9 from (cσ59.O (ko.up (xσ39.trans (xσ40.trans (xσ41.trans (xσ42.trans (xσ46.trans (xσ48.trans (xσ50.trans (xσ52.trans (xσ54.trans (xσ56.trans (xσ57.trans (xτ117.trans xσ58))))))))))))) (by decide)).1) kp273
            have r5σ59 := I_6_5 iσ59.1 (kth.up (xσ39.trans (xσ40.trans (xσ41.trans (xσ42.trans (xσ46.trans (xσ48.trans (xσ50.trans (xσ52.trans (xσ54.trans (xσ56.trans (xσ57.trans (xτ117.trans (xσ58.trans xσ59))))))))))))))
            refine ⟨J, (kp278.trans (kp261.trans (kp181.trans h7))), fun kk_J_1 => ?_⟩
            refine i_X4_emit iσ59 (kJ.up (xσ39.trans (xσ40.trans (xσ41.trans (xσ42.trans (xσ46.trans (xσ48.trans (xσ50.trans (xσ52.trans (xσ54.trans (xσ56.trans (xσ57.trans (xτ117.trans (xσ58.trans xσ59)))))))))))))) (by (first | omega | with_reducible assumption | with_reducible exact rng_toInt _ | with_reducible exact rng_wr _ | (unfold rng; omega) | (unfold rng at *; omega) | assumption)) (by (first | omega | with_reducible assumption | with_reducible exact rng_toInt _ | with_reducible exact rng_wr _ | (unfold rng; omega) | (unfold rng at *; omega) | assumption)) (by (first | omega | with_reducible assumption | with_reducible exact rng_toInt _ | with_reducible exact rng_wr _ | (unfold rng; omega) | (unfold rng at *; omega) | assumption)) (by (first | omega | with_reducible assumption | with_reducible exact rng_toInt _ | with_reducible exact rng_wr _ | (unfold rng; omega) | (unfold rng at *; omega) | assumption)) (fun σ60 nuσ60 r61 iσ60 cσ60 uσ60 pσ60 => ?_)
            intro xσ60
            have fσ60 : Fx [261, 262, 263, 323, 324, 326, 327, 333, 336, 386, 387, 388, 389, 390, 6464, 8320] gr σ σ60 := fσ59.tr (cσ60.mo (by decide))
            have oxcσ60 : OX o σ σ60 := oxcσ59.tr (OX.fx cσ60 (by decide) (by decide)) (xσ39.trans (xσ40.trans (xσ41.trans (xσ42.trans (xσ46.trans (xσ48.trans (xσ50.trans (xσ52.trans (xσ54.trans (xσ56.trans (xσ57.trans (xτ117.trans (xσ58.trans xσ59)))))))))))))
            have nu_σ60 : NC nu nuσ60 := nu_σ59.tr uσ60
            have uσ60_0 := uσ60 0 (by decide) (by decide)
            have uσ60_1 := uσ60 1 (by decide) (by decide)
            have uσ60_2 := uσ60 2 (by decide) (by decide)
            have uσ60_5 := uσ60 5 (by decide) (by decide)
            have uσ60_15 := uσ60 15 (by decide) (by decide)
            have uσ60_16 := uσ60 16 (by decide) (by decide)
            have kp288 : gP σ60 J 0 = gP σ59 J 0 := (cσ60.O (kJ.up (xσ39.trans (xσ40.trans (xσ41.trans (xσ42.trans (xσ46.trans (xσ48.trans (xσ50.trans (xσ52.trans (xσ54.trans (xσ56.trans (xσ57.trans (xτ117.trans (xσ58.trans xσ59)))))))))))))) (by decide)).2.1
            have kp289 : gP σ60 th 0 = gP σ59 th 0 := (cσ60.O (kth.up (xσ39.trans (xσ40.trans (xσ41.trans (xσ42.trans (xσ46.trans (xσ48.trans (xσ50.trans (xσ52.trans (xσ54.trans (xσ56.trans (xσ57.trans (xτ117.trans (xσ58.trans xσ59)))))))))))))) (by decide)).2.1
            have kp290 : gP σ60 th 7 = gP σ59 th 7 := (cσ60.O (kth.up (xσ39.trans (xσ40.trans (xσ41.trans (xσ42.trans (xσ46.trans (xσ48.trans (xσ50.trans (xσ52.trans (xσ54.trans (xσ56.trans (xσ57.trans (xτ117.trans (xσ58.trans xσ59)))))))))))))) (by decide)).2.1
            have kp291 : gP σ60 th 8 = gP σ59 th 8 := (cσ60.O (kth.up (xσ39.trans (xσ40.trans (xσ41.trans (xσ42.trans (xσ46.trans (xσ48.trans (xσ50.trans (xσ52.trans (xσ54.trans (xσ56.trans (xσ57.trans (xτ117.trans (xσ58.trans xσ59)))))))))))))) (by decide)).2.1
            have kp292 : gI σ60 th 2 = gI σ59 th 2 := (cσ60.O (kth.up (xσ39.trans (xσ40.trans (xσ41.trans (xσ42.trans (xσ46.trans (xσ48.trans (xσ50.trans (xσ52.trans (xσ54.trans (xσ56.trans (xσ57.trans (xτ117.trans (xσ58.trans xσ59)))))))))))))) (by decide)).1
            have kp293 : gI σ60 th 3 = gI σ59 th 3 := (cσ60.O (kth.up (xσ39.trans (xσ40.trans (xσ41.trans (xσ42.trans (xσ46.trans (xσ48.trans (xσ50.trans (xσ52.trans (xσ54.trans (xσ56.trans (xσ57.trans (xτ117.trans (xσ58.trans xσ59)))))))))))))) (by decide)).1
            have kp294 : gI σ60 th 5 = gI σ59 th 5 := (cσ60.O (kth.up (xσ39.trans (xσ40.trans (xσ41.trans (xσ42.trans (xσ46.trans (xσ48.trans (xσ50.trans (xσ52.trans (xσ54.trans (xσ56.trans (xσ57.trans (xτ117.trans (xσ58.trans xσ59)))))))))))))) (by decide)).1
            have kp295 : Kpt (gI σ60 J 1 = gI σ J 1) := Eq.trans (show gI σ60 J 1 = gI σ59 J 1 from (cσ60.O (kJ.up (xσ39.trans (xσ40.trans (xσ41.trans (xσ42.trans (xσ46.trans (xσ48.trans (xσ50.trans (xσ52.trans (xσ54.trans (xσ56.trans (xσ57.trans (xτ117.trans (xσ58.trans xσ59)))))))))))))) (by decide)).1) kp280
            have kp296 : Kpt (gI σ60 J 2 = gI σ J 2) := Eq.trans (show gI σ60 J 2 = gI σ59 J 2 from (cσ60.O (kJ.up (xσ39.trans (xσ40.trans (xσ41.trans (xσ42.trans (xσ46.trans (xσ48.trans (xσ50.trans (xσ52.trans (xσ54.trans (xσ56.trans (xσ57.trans (xτ117.trans (xσ58.trans xσ59)))))))))))))) (by decide)).1) kp281
            have kp297 : Kpt (gI σ60 o 3 = gI τ117 o 3) := Eq.trans (show gI σ60 o 3 = gI σ59 o 3 from (cσ60.O (ko.up (xσ39.trans (xσ40.trans (xσ41.trans (xσ42.trans (xσ46.trans (xσ48.trans (xσ50.trans (xσ52.trans (xσ54.trans (xσ56.trans (xσ57.trans (xτ117.trans (xσ58.trans xσ59)))))))))))))) (by decide)).1) kp282
            have kp298 : Kpt (gI σ60 o 4 = gI σ58 o 4) := Eq.trans (show gI σ60 o 4 = gI σ59 o 4 from (cσ60.O (ko.up (xσ39.trans (xσ40.trans (xσ41.trans (xσ42.trans (xσ46.trans (xσ48.trans (xσ50.trans (xσ52.trans (xσ54.trans (xσ56.trans (xσ57.trans (xτ117.trans (xσ58.trans xσ59)))))))))))))) (by decide)).1) kp283
            have kp299 : Kpt (gI σ60 o 6 = gI τ117 o 6) := Eq.trans (show gI σ60 o 6 = gI σ59 o 6 from (cσ60.O (ko.up (xσ39.trans (xσ40.trans (xσ41.trans (xσ42.trans (xσ46.trans (xσ48.trans (xσ50.trans (xσ52.trans (xσ54.trans (xσ56.trans (xσ57.trans (xτ117.trans (xσ58.trans xσ59)))))))))))))) (by decide)).1) kp284
            have kp300 : Kpt (gI σ60 o 7 = gI τ117 o 7) := Eq.trans (show gI σ60 o 7 = gI σ59 o 7 from (cσ60.O (ko.up (xσ39.trans (xσ40.trans (xσ41.trans (xσ42.trans (xσ46.trans (xσ48.trans (xσ50.trans (xσ52.trans (xσ54.trans (xσ56.trans (xσ57.trans (xτ117.trans (xσ58.trans xσ59)))))))))))))) (by decide)).1) kp285
            have kp301 : Kpt (gI σ60 o 8 = gI σ o 8) := Eq.trans (show gI σ60 o 8 = gI σ59 o 8 from (cσ60.O (ko.up (xσ39.trans (xσ40.trans (xσ41.trans (xσ42.trans (xσ46.trans (xσ48.trans (xσ50.trans (xσ52.trans (xσ54.trans (xσ56.trans (xσ57.trans (xτ117.trans (xσ58.trans xσ59)))))))))))))) (by decide)).1) kp286
            have kp302 : Kpt (gI σ60 o 9 = gI σ o 9) := Eq.trans (show gI σ60 o 9 = gI σ59 o 9 from (cσ60.O (ko.up (xσ39.trans (xσ40.trans (xσ41.trans (xσ42.trans (xσ46.trans (xσ48.trans (xσ50.trans (xσ52.trans (xσ54.trans (xσ56.trans (xσ57.trans (xτ117.trans (xσ58.trans xσ59)))))))))))))) (by decide)).1) kp287
            by_cases hc303 : v1 ≤ 0
            · rw [if_pos hc303]
              unfold w_X6_matchText_157
              refine i_X6_isWord iσ60 (kth.up (xσ39.trans (xσ40.trans (xσ41.trans (xσ42.trans (xσ46.trans (xσ48.trans (xσ50.trans (xσ52.trans (xσ54.trans (xσ56.trans (xσ57.trans (xτ117.trans (xσ58.trans (xσ59.trans xσ60))))))))))))))) (fun r72 pσ71 => ?_)
              intro xσ71
              by_cases hc304 : r72 ≠ 0
              · rw [if_pos hc304]
                unfold w_X6_matchText_170
                refine ⟨o, (kp291.trans (kp279.trans (kp262.trans (kp182.trans h8)))), fun kk_o_5 => ?_⟩
                have ho306 : gI σ60 o 4 = gI σ58 o 4 := kp298
                have q307 := I_5_4 iσ60.1 (ko.up (xσ39.trans (xσ40.trans (xσ41.trans (xσ42.trans (xσ46.trans (xσ48.trans (xσ50.trans (xσ52.trans (xσ54.trans (xσ56.trans (xσ57.trans (xτ117.trans (xσ58.trans (xσ59.trans xσ60)))))))))))))))
                by_cases hc305 : gI σ60 o 4 ≠ 4
                · rw [if_pos hc305]
                  unfold w_X6_matchText_187
                  refine i_X6_next iσ60 (kth.up (xσ39.trans (xσ40.trans (xσ41.trans (xσ42.trans (xσ46.trans (xσ48.trans (xσ50.trans (xσ52.trans (xσ54.trans (xσ56.trans (xσ57.trans (xτ117.trans (xσ58.trans (xσ59.trans xσ60))))))))))))))) (kp289.trans (kp277.trans (kp260.trans (kp180.trans hX0)))) (kX.up (xσ39.trans (xσ40.trans (xσ41.trans (xσ42.trans (xσ46.trans (xσ48.trans (xσ50.trans (xσ52.trans (xσ54.trans (xσ56.trans (xσ57.trans (xτ117.trans (xσ58.trans (xσ59.trans xσ60))))))))))))))) (((xσ39.trans (xσ40.trans (xσ41.trans (xσ42.trans (xσ46.trans (xσ48.trans (xσ50.trans (xσ52.trans (xσ54.trans (xσ56.trans (xσ57.trans (xτ117.trans (xσ58.trans (xσ59.trans xσ60)))))))))))))) tx kX.1).2.2.trans gX) (by (first | omega | with_reducible assumption | with_reducible exact rng_toInt _ | with_reducible exact rng_wr _ | (unfold rng; omega) | (unfold rng at *; omega) | assumption)) (by (first | omega | with_reducible assumption | with_reducible exact rng_toInt _ | with_reducible exact rng_wr _ | (unfold rng; omega) | (unfold rng at *; omega) | assumption)) (fun σ76 _ iσ76 cσ76 pσ76 => ?_) (fun σx LLx Nx nux E ix cx ux px => hX σx LLx Nx nux E ix (fσ60.tr (cx.mo (by decide))) (nu_σ60.x ux) (by first | exact px | exact ⟨by have := px.1; omega, px.2⟩ | (first | omega | with_reducible assumption | with_reducible exact rng_toInt _ | with_reducible exact rng_wr _ | (unfold rng; omega) | (unfold rng at *; omega) | assumption)))
                  intro xσ76
                  have fσ76 : Fx [261, 262, 263, 323, 324, 326, 327, 333, 336, 386, 387, 388, 389, 390, 6464, 8320] gr σ σ76 := fσ60.tr (cσ76.mo (by decide))
                  have oxcσ76 : OX o σ σ76 := oxcσ60.tr (OX.fx cσ76 (by decide) (by decide)) (xσ39.trans (xσ40.trans (xσ41.trans (xσ42.trans (xσ46.trans (xσ48.trans (xσ50.trans (xσ52.trans (xσ54.trans (xσ56.trans (xσ57.trans (xτ117.trans (xσ58.trans (xσ59.trans xσ60))))))))))))))
                  have kp308 : Kpt (gI σ76 o 4 = gI σ58 o 4) := Eq.trans (show gI σ76 o 4 = gI σ60 o 4 from (cσ76.O (ko.up (xσ39.trans (xσ40.trans (xσ41.trans (xσ42.trans (xσ46.trans (xσ48.trans (xσ50.trans (xσ52.trans (xσ54.trans (xσ56.trans (xσ57.trans (xτ117.trans (xσ58.trans (xσ59.trans xσ60))))))))))))))) (by decide)).1) kp298
                  have kp309 : gP σ76 J 0 = gP σ60 J 0 := (cσ76.O (kJ.up (xσ39.trans (xσ40.trans (xσ41.trans (xσ42.trans (xσ46.trans (xσ48.trans (xσ50.trans (xσ52.trans (xσ54.trans (xσ56.trans (xσ57.trans (xτ117.trans (xσ58.trans (xσ59.trans xσ60))))))))))))))) (by decide)).2.1
                  have kp310 : gP σ76 th 0 = gP σ60 th 0 := (cσ76.O (kth.up (xσ39.trans (xσ40.trans (xσ41.trans (xσ42.trans (xσ46.trans (xσ48.trans (xσ50.trans (xσ52.trans (xσ54.trans (xσ56.trans (xσ57.trans (xτ117.trans (xσ58.trans (xσ59.trans xσ60))))))))))))))) (by decide)).2.1
                  have kp311 : gP σ76 th 7 = gP σ60 th 7 := (cσ76.O (kth.up (xσ39.trans (xσ40.trans (xσ41.trans (xσ42.trans (xσ46.trans (xσ48.trans (xσ50.trans (xσ52.trans (xσ54.trans (xσ56.trans (xσ57.trans (xτ117.trans (xσ58.trans (xσ59.trans xσ60))))))))))))))) (by decide)).2.1
                  have kp312 : gP σ76 th 8 = gP σ60 th 8 := (cσ76.O (kth.up (xσ39.trans (xσ40.trans (xσ41.trans (xσ42.trans (xσ46.trans (xσ48.trans (xσ50.trans (xσ52.trans (xσ54.trans (xσ56.trans (xσ57.trans (xτ117.trans (xσ58.trans (xσ59.trans xσ60))))))))))))))) (by decide)).2.1
                  have kp313 : Kpt (gI σ76 J 7 = gI σ60 J 7) := (cσ76.O (kJ.up (xσ39.trans (xσ40.trans (xσ41.trans (xσ42.trans (xσ46.trans (xσ48.trans (xσ50.trans (xσ52.trans (xσ54.trans (xσ56.trans (xσ57.trans (xτ117.trans (xσ58.trans (xσ59.trans xσ60))))))))))))))) (by decide)).1
                  have kp314 : Kpt (gI σ76 J 1 = gI σ J 1) := Eq.trans (show gI σ76 J 1 = gI σ60 J 1 from (cσ76.O (kJ.up (xσ39.trans (xσ40.trans (xσ41.trans (xσ42.trans (xσ46.trans (xσ48.trans (xσ50.trans (xσ52.trans (xσ54.trans (xσ56.trans (xσ57.trans (xτ117.trans (xσ58.trans (xσ59.trans xσ60))))))))))))))) (by decide)).1) kp295
                  have kp315 : Kpt (gI σ76 J 2 = gI σ J 2) := Eq.trans (show gI σ76 J 2 = gI σ60 J 2 from (cσ76.O (kJ.up (xσ39.trans (xσ40.trans (xσ41.trans (xσ42.trans (xσ46.trans (xσ48.trans (xσ50.trans (xσ52.trans (xσ54.trans (xσ56.trans (xσ57.trans (xτ117.trans (xσ58.trans (xσ59.trans xσ60))))))))))))))) (by decide)).1) kp296
                  have kp316 : Kpt (gI σ76 o 3 = gI τ117 o 3) := Eq.trans (show gI σ76 o 3 = gI σ60 o 3 from (cσ76.O (ko.up (xσ39.trans (xσ40.trans (xσ41.trans (xσ42.trans (xσ46.trans (xσ48.trans (xσ50.trans (xσ52.trans (xσ54.trans (xσ56.trans (xσ57.trans (xτ117.trans (xσ58.trans (xσ59.trans xσ60))))))))))))))) (by decide)).1) kp297
                  have kp317 : Kpt (gI σ76 o 6 = gI τ117 o 6) := Eq.trans (show gI σ76 o 6 = gI σ60 o 6 from (cσ76.O (ko.up (xσ39.trans (xσ40.trans (xσ41.trans (xσ42.trans (xσ46.trans (xσ48.trans (xσ50.trans (xσ52.trans (xσ54.trans (xσ56.trans (xσ57.trans (xτ117.trans (xσ58.trans (xσ59.trans xσ60))))))))))))))) (by decide)).1) kp299
                  have kp318 : Kpt (gI σ76 o 7 = gI τ117 o 7) := Eq.trans (show gI σ76 o 7 = gI σ60 o 7 from (cσ76.O (ko.up (xσ39.trans (xσ40.trans (xσ41.trans (xσ42.trans (xσ46.trans (xσ48.trans (xσ50.trans (xσ52.trans (xσ54.trans (xσ56.trans (xσ57.trans (xτ117.trans (xσ58.trans (xσ59.trans xσ60))))))))))))))) (by decide)).1) kp300
                  have kp319 : Kpt (gI σ76 o 8 = gI σ o 8) := Eq.trans (show gI σ76 o 8 = gI σ60 o 8 from (cσ76.O (ko.up (xσ39.trans (xσ40.trans (xσ41.trans (xσ42.trans (xσ46.trans (xσ48.trans (xσ50.trans (xσ52.trans (xσ54.trans (xσ56.trans (xσ57.trans (xτ117.trans (xσ58.trans (xσ59.trans xσ60))))))))))))))) (by decide)).1) kp301
                  have kp320 : Kpt (gI σ76 o 9 = gI σ o 9) := Eq.trans (show gI σ76 o 9 = gI σ60 o 9 from (cσ76.O (ko.up (xσ39.trans (xσ40.trans (xσ41.trans (xσ42.trans (xσ46.trans (xσ48.trans (xσ50.trans (xσ52.trans (xσ54.trans (xσ56.trans (xσ57.trans (xτ117.trans (xσ58.trans (xσ59.trans xσ60))))))))))))))) (by decide)).1) kp302
                  have r5σ76 := I_6_5 iσ76.1 (kth.up (xσ39.trans (xσ40.trans (xσ41.trans (xσ42.trans (xσ46.trans (xσ48.trans (xσ50.trans (xσ52.trans (xσ54.trans (xσ56.trans (xσ57.trans (xτ117.trans (xσ58.trans (xσ59.trans (xσ60.trans xσ76))))))))))))))))
                  refine ⟨by (first | omega | with_reducible assumption | with_reducible exact rng_toInt _ | with_reducible exact rng_wr _ | (unfold rng; omega) | (unfold rng at *; omega) | assumption), ?_⟩
                  have ho321 : gI σ76 o 4 = gI σ58 o 4 := kp308
                  have ho322 : gI σ76 J 7 = gI σ60 J 7 := kp313
                  have ho323 : gI σ76 J 1 = gI σ J 1 := kp314
                  have ho324 : gI σ76 J 2 = gI σ J 2 := kp315
                  have ho325 : gI σ76 o 3 = gI τ117 o 3 := kp316
                  have ho326 : gI σ76 o 6 = gI τ117 o 6 := kp317
                  have ho327 : gI σ76 o 7 = gI τ117 o 7 := kp318
                  have ho328 : gI σ76 o 8 = gI σ o 8 := kp319
                  have ho329 : gI σ76 o 9 = gI σ o 9 := kp320
                  exact ih117 σ76 nuσ60 (v1 + 1) iσ76 fσ76 (xτ117.trans (xσ58.trans (xσ59.trans (xσ60.trans xσ76)))) nu_σ60 oxcσ76 (by (first | omega | with_reducible assumption | with_reducible exact rng_toInt _ | with_reducible exact rng_wr _ | (unfold rng; omega) | (unfold rng at *; omega) | assumption)) (by (first | omega | with_reducible assumption | with_reducible exact rng_toInt _ | with_reducible exact rng_wr _ | (unfold rng; omega) | (unfold rng at *; omega) | assumption))
                · rw [if_neg hc305]
                  have hc305q := Classical.not_not.mp hc305
                  unfold w_X6_matchText_181
                  refine i_X6_refuse iσ60 (kth.up (xσ39.trans (xσ40.trans (xσ41.trans (xσ42.trans (xσ46.trans (xσ48.trans (xσ50.trans (xσ52.trans (xσ54.trans (xσ56.trans (xσ57.trans (xτ117.trans (xσ58.trans (xσ59.trans xσ60))))))))))))))) (by (first | omega | with_reducible assumption | with_reducible exact rng_toInt _ | with_reducible exact rng_wr _ | (unfold rng; omega) | (unfold rng at *; omega) | assumption)) (by (first | omega | with_reducible assumption | with_reducible exact rng_toInt _ | with_reducible exact rng_wr _ | (unfold rng; omega) | (unfold rng at *; omega) | assumption)) (by (first | omega | with_reducible assumption | with_reducible exact rng_toInt _ | with_reducible exact rng_wr _ | (unfold rng; omega) | (unfold rng at *; omega) | assumption)) (fun σ75 _ iσ75 cσ75 pσ75 => ?_) (fun σx LLx Nx nux E ix cx ux px => hX σx LLx Nx nux E ix (fσ60.tr (cx.mo (by decide))) (nu_σ60.x ux) (by first | exact px | exact ⟨by have := px.1; omega, px.2⟩ | (first | omega | with_reducible assumption | with_reducible exact rng_toInt _ | with_reducible exact rng_wr _ | (unfold rng; omega) | (unfold rng at *; omega) | assumption)))
                  intro xσ75
                  exact pσ75.elim
              · rw [if_neg hc304]
                have hc304q := Classical.not_not.mp hc304
                unfold w_X6_matchText_166
                refine i_X6_cannotStand iσ60 (kth.up (xσ39.trans (xσ40.trans (xσ41.trans (xσ42.trans (xσ46.trans (xσ48.trans (xσ50.trans (xσ52.trans (xσ54.trans (xσ56.trans (xσ57.trans (xτ117.trans (xσ58.trans (xσ59.trans xσ60))))))))))))))) (by (first | omega | with_reducible assumption | with_reducible exact rng_toInt _ | with_reducible exact rng_wr _ | (unfold rng; omega) | (unfold rng at *; omega) | assumption)) (fun σ73 _ iσ73 cσ73 pσ73 => ?_) (fun σx LLx Nx nux E ix cx ux px => hX σx LLx Nx nux E ix (fσ60.tr (cx.mo (by decide))) (nu_σ60.x ux) (by first | exact px | exact ⟨by have := px.1; omega, px.2⟩ | (first | omega | with_reducible assumption | with_reducible exact rng_toInt _ | with_reducible exact rng_wr _ | (unfold rng; omega) | (unfold rng at *; omega) | assumption)))
                intro xσ73
                exact pσ73.elim
            · rw [if_neg hc303]
              unfold w_X6_matchText_145
              refine i_X6_isWord iσ60 (kth.up (xσ39.trans (xσ40.trans (xσ41.trans (xσ42.trans (xσ46.trans (xσ48.trans (xσ50.trans (xσ52.trans (xσ54.trans (xσ56.trans (xσ57.trans (xτ117.trans (xσ58.trans (xσ59.trans xσ60))))))))))))))) (fun r64 pσ63 => ?_)
              intro xσ63
              by_cases hc330 : r64 = 0
              · rw [if_pos hc330]
                unfold w_X6_matchText_157
                refine i_X6_isWord iσ60 (kth.up (xσ39.trans (xσ40.trans (xσ41.trans (xσ42.trans (xσ46.trans (xσ48.trans (xσ50.trans (xσ52.trans (xσ54.trans (xσ56.trans (xσ57.trans (xτ117.trans (xσ58.trans (xσ59.trans xσ60))))))))))))))) (fun r72_1 pσ71_1 => ?_)
                intro xσ71_1
                by_cases hc331 : r72_1 ≠ 0
                · rw [if_pos hc331]
                  unfold w_X6_matchText_170
                  refine ⟨o, (kp291.trans (kp279.trans (kp262.trans (kp182.trans h8)))), fun kk_o_6 => ?_⟩
                  have ho333 : gI σ60 o 4 = gI σ58 o 4 := kp298
                  have q334 := I_5_4 iσ60.1 (ko.up (xσ39.trans (xσ40.trans (xσ41.trans (xσ42.trans (xσ46.trans (xσ48.trans (xσ50.trans (xσ52.trans (xσ54.trans (xσ56.trans (xσ57.trans (xτ117.trans (xσ58.trans (xσ59.trans xσ60)))))))))))))))
                  by_cases hc332 : gI σ60 o 4 ≠ 4
                  · rw [if_pos hc332]
                    unfold w_X6_matchText_187
                    refine i_X6_next iσ60 (kth.up (xσ39.trans (xσ40.trans (xσ41.trans (xσ42.trans (xσ46.trans (xσ48.trans (xσ50.trans (xσ52.trans (xσ54.trans (xσ56.trans (xσ57.trans (xτ117.trans (xσ58.trans (xσ59.trans xσ60))))))))))))))) (kp289.trans (kp277.trans (kp260.trans (kp180.trans hX0)))) (kX.up (xσ39.trans (xσ40.trans (xσ41.trans (xσ42.trans (xσ46.trans (xσ48.trans (xσ50.trans (xσ52.trans (xσ54.trans (xσ56.trans (xσ57.trans (xτ117.trans (xσ58.trans (xσ59.trans xσ60))))))))))))))) (((xσ39.trans (xσ40.trans (xσ41.trans (xσ42.trans (xσ46.trans (xσ48.trans (xσ50.trans (xσ52.trans (xσ54.trans (xσ56.trans (xσ57.trans (xτ117.trans (xσ58.trans (xσ59.trans xσ60)))))))))))))) tx kX.1).2.2.trans gX) (by (first | omega | with_reducible assumption | with_reducible exact rng_toInt _ | with_reducible exact rng_wr _ | (unfold rng; omega) | (unfold rng at *; omega) | assumption)) (by (first | omega | with_reducible assumption | with_reducible exact rng_toInt _ | with_reducible exact rng_wr _ | (unfold rng; omega) | (unfold rng at *; omega) | assumption)) (fun σ76_1 _ iσ76_1 cσ76_1 pσ76_1 => ?_) (fun σx LLx Nx nux E ix cx ux px => hX σx LLx Nx nux E ix (fσ60.tr (cx.mo (by decide))) (nu_σ60.x ux) (by first | exact px | exact ⟨by have := px.1; omega, px.2⟩ | (first | omega | with_reducible assumption | with_reducible exact rng_toInt _ | with_reducible exact rng_wr _ | (unfold rng; omega) | (unfold rng at *; omega) | assumption)))
                    intro xσ76_1
                    have fσ76_1 : Fx [261, 262, 263, 323, 324, 326, 327, 333, 336, 386, 387, 388, 389, 390, 6464, 8320] gr σ σ76_1 := fσ60.tr (cσ76_1.mo (by decide))
                    have oxcσ76_1 : OX o σ σ76_1 := oxcσ60.tr (OX.fx cσ76_1 (by decide) (by decide)) (xσ39.trans (xσ40.trans (xσ41.trans (xσ42.trans (xσ46.trans (xσ48.trans (xσ50.trans (xσ52.trans (xσ54.trans (xσ56.trans (xσ57.trans (xτ117.trans (xσ58.trans (xσ59.trans xσ60))))))))))))))
                    have kp335 : Kpt (gI σ76_1 o 4 = gI σ58 o 4) := Eq.trans (show gI σ76_1 o 4 = gI σ60 o 4 from (cσ76_1.O (ko.up (xσ39.trans (xσ40.trans (xσ41.trans (xσ42.trans (xσ46.trans (xσ48.trans (xσ50.trans (xσ52.trans (xσ54.trans (xσ56.trans (xσ57.trans (xτ117.trans (xσ58.trans (xσ59.trans xσ60))))))))))))))) (by decide)).1) kp298
                    have kp336 : gP σ76_1 J 0 = gP σ60 J 0 := (cσ76_1.O (kJ.up (xσ39.trans (xσ40.trans (xσ41.trans (xσ42.trans (xσ46.trans (xσ48.trans (xσ50.trans (xσ52.trans (xσ54.trans (xσ56.trans (xσ57.trans (xτ117.trans (xσ58.trans (xσ59.trans xσ60))))))))))))))) (by decide)).2.1
                    have kp337 : gP σ76_1 th 0 = gP σ60 th 0 := (cσ76_1.O (kth.up (xσ39.trans (xσ40.trans (xσ41.trans (xσ42.trans (xσ46.trans (xσ48.trans (xσ50.trans (xσ52.trans (xσ54.trans (xσ56.trans (xσ57.trans (xτ117.trans (xσ58.trans (xσ59.trans xσ60))))))))))))))) (by decide)).2.1
                    have kp338 : gP σ76_1 th 7 = gP σ60 th 7 := (cσ76_1.O (kth.up (xσ39.trans (xσ40.trans (xσ41.trans (xσ42.trans (xσ46.trans (xσ48.trans (xσ50.trans (xσ52.trans (xσ54.trans (xσ56.trans (xσ57.trans (xτ117.trans (xσ58.trans (xσ59.trans xσ60))))))))))))))) (by decide)).2.1
                    have kp339 : gP σ76_1 th 8 = gP σ60 th 8 := (cσ76_1.O (kth.up (xσ39.trans (xσ40.trans (xσ41.trans (xσ42.trans (xσ46.trans (xσ48.trans (xσ50.trans (xσ52.trans (xσ54.trans (xσ56.trans (xσ57.trans (xτ117.trans (xσ58.trans (xσ59.trans xσ60))))))))))))))) (by decide)).2.1
                    have kp340 : Kpt (gI σ76_1 J 7 = gI σ60 J 7) := (cσ76_1.O (kJ.up (xσ39.trans (xσ40.trans (xσ41.trans (xσ42.trans (xσ46.trans (xσ48.trans (xσ50.trans (xσ52.trans (xσ54.trans (xσ56.trans (xσ57.trans (xτ117.trans (xσ58.trans (xσ59.trans xσ60))))))))))))))) (by decide)).1
                    have kp341 : Kpt (gI σ76_1 J 1 = gI σ J 1) := Eq.trans (show gI σ76_1 J 1 = gI σ60 J 1 from (cσ76_1.O (kJ.up (xσ39.trans (xσ40.trans (xσ41.trans (xσ42.trans (xσ46.trans (xσ48.trans (xσ50.trans (xσ52.trans (xσ54.trans (xσ56.trans (xσ57.trans (xτ117.trans (xσ58.trans (xσ59.trans xσ60))))))))))))))) (by decide)).1) kp295
                    have kp342 : Kpt (gI σ76_1 J 2 = gI σ J 2) := Eq.trans (show gI σ76_1 J 2 = gI σ60 J 2 from (cσ76_1.O (kJ.up (xσ39.trans (xσ40.trans (xσ41.trans (xσ42.trans (xσ46.trans (xσ48.trans (xσ50.trans (xσ52.trans (xσ54.trans (xσ56.trans (xσ57.trans (xτ117.trans (xσ58.trans (xσ59.trans xσ60))))))))))))))) (by decide)).1) kp296
                    have kp343 : Kpt (gI σ76_1 o 3 = gI τ117 o 3) := Eq.trans (show gI σ76_1 o 3 = gI σ60 o 3 from (cσ76_1.O (ko.up (xσ39.trans (xσ40.trans (xσ41.trans (xσ42.trans (xσ46.trans (xσ48.trans (xσ50.trans (xσ52.trans (xσ54.trans (xσ56.trans (xσ57.trans (xτ117.trans (xσ58.trans (xσ59.trans xσ60))))))))))))))) (by decide)).1) kp297
                    have kp344 : Kpt (gI σ76_1 o 6 = gI τ117 o 6) := Eq.trans (show gI σ76_1 o 6 = gI σ60 o 6 from (cσ76_1.O (ko.up (xσ39.trans (xσ40.trans (xσ41.trans (xσ42.trans (xσ46.trans (xσ48.trans (xσ50.trans (xσ52.trans (xσ54.trans (xσ56.trans (xσ57.trans (xτ117.trans (xσ58.trans (xσ59.trans xσ60))))))))))))))) (by decide)).1) kp299
                    have kp345 : Kpt (gI σ76_1 o 7 = gI τ117 o 7) := Eq.trans (show gI σ76_1 o 7 = gI σ60 o 7 from (cσ76_1.O (ko.up (xσ39.trans (xσ40.trans (xσ41.trans (xσ42.trans (xσ46.trans (xσ48.trans (xσ50.trans (xσ52.trans (xσ54.trans (xσ56.trans (xσ57.trans (xτ117.trans (xσ58.trans (xσ59.trans xσ60))))))))))))))) (by decide)).1) kp300
                    have kp346 : Kpt (gI σ76_1 o 8 = gI σ o 8) := Eq.trans (show gI σ76_1 o 8 = gI σ60 o 8 from (cσ76_1.O (ko.up (xσ39.trans (xσ40.trans (xσ41.trans (xσ42.trans (xσ46.trans (xσ48.trans (xσ50.trans (xσ52.trans (xσ54.trans (xσ56.trans (xσ57.trans (xτ117.trans (xσ58.trans (xσ59.trans xσ60))))))))))))))) (by decide)).1) kp301
                    have kp347 : Kpt (gI σ76_1 o 9 = gI σ o 9) := Eq.trans (show gI σ76_1 o 9 = gI σ60 o 9 from (cσ76_1.O (ko.up (xσ39.trans (xσ40.trans (xσ41.trans (xσ42.trans (xσ46.trans (xσ48.trans (xσ50.trans (xσ52.trans (xσ54.trans (xσ56.trans (xσ57.trans (xτ117.trans (xσ58.trans (xσ59.trans xσ60))))))))))))))) (by decide)).1) kp302
                    have r5σ76_1 := I_6_5 iσ76_1.1 (kth.up (xσ39.trans (xσ40.trans (xσ41.trans (xσ42.trans (xσ46.trans (xσ48.trans (xσ50.trans (xσ52.trans (xσ54.trans (xσ56.trans (xσ57.trans (xτ117.trans (xσ58.trans (xσ59.trans (xσ60.trans xσ76_1))))))))))))))))
                    refine ⟨by (first | omega | with_reducible assumption | with_reducible exact rng_toInt _ | with_reducible exact rng_wr _ | (unfold rng; omega) | (unfold rng at *; omega) | assumption), ?_⟩
                    have ho348 : gI σ76_1 o 4 = gI σ58 o 4 := kp335
                    have ho349 : gI σ76_1 J 7 = gI σ60 J 7 := kp340
                    have ho350 : gI σ76_1 J 1 = gI σ J 1 := kp341
                    have ho351 : gI σ76_1 J 2 = gI σ J 2 := kp342
                    have ho352 : gI σ76_1 o 3 = gI τ117 o 3 := kp343
                    have ho353 : gI σ76_1 o 6 = gI τ117 o 6 := kp344
                    have ho354 : gI σ76_1 o 7 = gI τ117 o 7 := kp345
                    have ho355 : gI σ76_1 o 8 = gI σ o 8 := kp346
                    have ho356 : gI σ76_1 o 9 = gI σ o 9 := kp347
                    exact ih117 σ76_1 nuσ60 (v1 + 1) iσ76_1 fσ76_1 (xτ117.trans (xσ58.trans (xσ59.trans (xσ60.trans xσ76_1)))) nu_σ60 oxcσ76_1 (by (first | omega | with_reducible assumption | with_reducible exact rng_toInt _ | with_reducible exact rng_wr _ | (unfold rng; omega) | (unfold rng at *; omega) | assumption)) (by (first | omega | with_reducible assumption | with_reducible exact rng_toInt _ | with_reducible exact rng_wr _ | (unfold rng; omega) | (unfold rng at *; omega) | assumption))
                  · rw [if_neg hc332]
                    have hc332q := Classical.not_not.mp hc332
                    unfold w_X6_matchText_181
                    refine i_X6_refuse iσ60 (kth.up (xσ39.trans (xσ40.trans (xσ41.trans (xσ42.trans (xσ46.trans (xσ48.trans (xσ50.trans (xσ52.trans (xσ54.trans (xσ56.trans (xσ57.trans (xτ117.trans (xσ58.trans (xσ59.trans xσ60))))))))))))))) (by (first | omega | with_reducible assumption | with_reducible exact rng_toInt _ | with_reducible exact rng_wr _ | (unfold rng; omega) | (unfold rng at *; omega) | assumption)) (by (first | omega | with_reducible assumption | with_reducible exact rng_toInt _ | with_reducible exact rng_wr _ | (unfold rng; omega) | (unfold rng at *; omega) | assumption)) (by (first | omega | with_reducible assumption | with_reducible exact rng_toInt _ | with_reducible exact rng_wr _ | (unfold rng; omega) | (unfold rng at *; omega) | assumption)) (fun σ75_1 _ iσ75_1 cσ75_1 pσ75_1 => ?_) (fun σx LLx Nx nux E ix cx ux px => hX σx LLx Nx nux E ix (fσ60.tr (cx.mo (by decide))) (nu_σ60.x ux) (by first | exact px | exact ⟨by have := px.1; omega, px.2⟩ | (first | omega | with_reducible assumption | with_reducible exact rng_toInt _ | with_reducible exact rng_wr _ | (unfold rng; omega) | (unfold rng at *; omega) | assumption)))
                    intro xσ75_1
                    exact pσ75_1.elim
                · rw [if_neg hc331]
                  have hc331q := Classical.not_not.mp hc331
                  unfold w_X6_matchText_166
                  refine i_X6_cannotStand iσ60 (kth.up (xσ39.trans (xσ40.trans (xσ41.trans (xσ42.trans (xσ46.trans (xσ48.trans (xσ50.trans (xσ52.trans (xσ54.trans (xσ56.trans (xσ57.trans (xτ117.trans (xσ58.trans (xσ59.trans xσ60))))))))))))))) (by (first | omega | with_reducible assumption | with_reducible exact rng_toInt _ | with_reducible exact rng_wr _ | (unfold rng; omega) | (unfold rng at *; omega) | assumption)) (fun σ73_1 _ iσ73_1 cσ73_1 pσ73_1 => ?_) (fun σx LLx Nx nux E ix cx ux px => hX σx LLx Nx nux E ix (fσ60.tr (cx.mo (by decide))) (nu_σ60.x ux) (by first | exact px | exact ⟨by have := px.1; omega, px.2⟩ | (first | omega | with_reducible assumption | with_reducible exact rng_toInt _ | with_reducible exact rng_wr _ | (unfold rng; omega) | (unfold rng at *; omega) | assumption)))
                  intro xσ73_1
                  exact pσ73_1.elim
              · rw [if_neg hc330]
                unfold w_X6_matchText_154
                unfold w_X6_matchText_197
                refine i_X6_wantWord iσ60 (kth.up (xσ39.trans (xσ40.trans (xσ41.trans (xσ42.trans (xσ46.trans (xσ48.trans (xσ50.trans (xσ52.trans (xσ54.trans (xσ56.trans (xσ57.trans (xτ117.trans (xσ58.trans (xσ59.trans xσ60))))))))))))))) (kp289.trans (kp277.trans (kp260.trans (kp180.trans hX0)))) (kX.up (xσ39.trans (xσ40.trans (xσ41.trans (xσ42.trans (xσ46.trans (xσ48.trans (xσ50.trans (xσ52.trans (xσ54.trans (xσ56.trans (xσ57.trans (xτ117.trans (xσ58.trans (xσ59.trans xσ60))))))))))))))) (((xσ39.trans (xσ40.trans (xσ41.trans (xσ42.trans (xσ46.trans (xσ48.trans (xσ50.trans (xσ52.trans (xσ54.trans (xσ56.trans (xσ57.trans (xτ117.trans (xσ58.trans (xσ59.trans xσ60)))))))))))))) tx kX.1).2.2.trans gX) (by (first | omega | with_reducible assumption | with_reducible exact rng_toInt _ | with_reducible exact rng_wr _ | (unfold rng; omega) | (unfold rng at *; omega) | assumption)) (by (first | omega | with_reducible assumption | with_reducible exact rng_toInt _ | with_reducible exact rng_wr _ | (unfold rng; omega) | (unfold rng at *; omega) | assumption)) (fun σ65_1 _ iσ65_1 cσ65_1 pσ65_1 => ?_) (fun σx LLx Nx nux E ix cx ux px => hX σx LLx Nx nux E ix (fσ60.tr (cx.mo (by decide))) (nu_σ60.x ux) (by first | exact px | exact ⟨by have := px.1; omega, px.2⟩ | (first | omega | with_reducible assumption | with_reducible exact rng_toInt _ | with_reducible exact rng_wr _ | (unfold rng; omega) | (unfold rng at *; omega) | assumption)))
                intro xσ65_1
                have fσ65_1 : Fx [261, 262, 263, 323, 324, 326, 327, 333, 336, 386, 387, 388, 389, 390, 6464, 8320] gr σ σ65_1 := fσ60.tr (cσ65_1.mo (by decide))
                have oxcσ65_1 : OX o σ σ65_1 := oxcσ60.tr (OX.fx cσ65_1 (by decide) (by decide)) (xσ39.trans (xσ40.trans (xσ41.trans (xσ42.trans (xσ46.trans (xσ48.trans (xσ50.trans (xσ52.trans (xσ54.trans (xσ56.trans (xσ57.trans (xτ117.trans (xσ58.trans (xσ59.trans xσ60))))))))))))))
                have kp357 : gP σ65_1 J 0 = gP σ60 J 0 := (cσ65_1.O (kJ.up (xσ39.trans (xσ40.trans (xσ41.trans (xσ42.trans (xσ46.trans (xσ48.trans (xσ50.trans (xσ52.trans (xσ54.trans (xσ56.trans (xσ57.trans (xτ117.trans (xσ58.trans (xσ59.trans xσ60))))))))))))))) (by decide)).2.1
                have kp358 : gP σ65_1 th 0 = gP σ60 th 0 := (cσ65_1.O (kth.up (xσ39.trans (xσ40.trans (xσ41.trans (xσ42.trans (xσ46.trans (xσ48.trans (xσ50.trans (xσ52.trans (xσ54.trans (xσ56.trans (xσ57.trans (xτ117.trans (xσ58.trans (xσ59.trans xσ60))))))))))))))) (by decide)).2.1
                have kp359 : gP σ65_1 th 7 = gP σ60 th 7 := (cσ65_1.O (kth.up (xσ39.trans (xσ40.trans (xσ41.trans (xσ42.trans (xσ46.trans (xσ48.trans (xσ50.trans (xσ52.trans (xσ54.trans (xσ56.trans (xσ57.trans (xτ117.trans (xσ58.trans (xσ59.trans xσ60))))))))))))))) (by decide)).2.1
                have kp360 : gP σ65_1 th 8 = gP σ60 th 8 := (cσ65_1.O (kth.up (xσ39.trans (xσ40.trans (xσ41.trans (xσ42.trans (xσ46.trans (xσ48.trans (xσ50.trans (xσ52.trans (xσ54.trans (xσ56.trans (xσ57.trans (xτ117.trans (xσ58.trans (xσ59.trans xσ60))))))))))))))) (by decide)).2.1
                have kp361 : Kpt (gI σ65_1 J 7 = gI σ60 J 7) := (cσ65_1.O (kJ.up (xσ39.trans (xσ40.trans (xσ41.trans (xσ42.trans (xσ46.trans (xσ48.trans (xσ50.trans (xσ52.trans (xσ54.trans (xσ56.trans (xσ57.trans (xτ117.trans (xσ58.trans (xσ59.trans xσ60))))))))))))))) (by decide)).1
                have kp362 : Kpt (gI σ65_1 J 1 = gI σ J 1) := Eq.trans (show gI σ65_1 J 1 = gI σ60 J 1 from (cσ65_1.O (kJ.up (xσ39.trans (xσ40.trans (xσ41.trans (xσ42.trans (xσ46.trans (xσ48.trans (xσ50.trans (xσ52.trans (xσ54.trans (xσ56.trans (xσ57.trans (xτ117.trans (xσ58.trans (xσ59.trans xσ60))))))))))))))) (by decide)).1) kp295
                have kp363 : Kpt (gI σ65_1 J 2 = gI σ J 2) := Eq.trans (show gI σ65_1 J 2 = gI σ60 J 2 from (cσ65_1.O (kJ.up (xσ39.trans (xσ40.trans (xσ41.trans (xσ42.trans (xσ46.trans (xσ48.trans (xσ50.trans (xσ52.trans (xσ54.trans (xσ56.trans (xσ57.trans (xτ117.trans (xσ58.trans (xσ59.trans xσ60))))))))))))))) (by decide)).1) kp296
                have kp364 : Kpt (gI σ65_1 o 3 = gI τ117 o 3) := Eq.trans (show gI σ65_1 o 3 = gI σ60 o 3 from (cσ65_1.O (ko.up (xσ39.trans (xσ40.trans (xσ41.trans (xσ42.trans (xσ46.trans (xσ48.trans (xσ50.trans (xσ52.trans (xσ54.trans (xσ56.trans (xσ57.trans (xτ117.trans (xσ58.trans (xσ59.trans xσ60))))))))))))))) (by decide)).1) kp297
                have kp365 : Kpt (gI σ65_1 o 4 = gI σ58 o 4) := Eq.trans (show gI σ65_1 o 4 = gI σ60 o 4 from (cσ65_1.O (ko.up (xσ39.trans (xσ40.trans (xσ41.trans (xσ42.trans (xσ46.trans (xσ48.trans (xσ50.trans (xσ52.trans (xσ54.trans (xσ56.trans (xσ57.trans (xτ117.trans (xσ58.trans (xσ59.trans xσ60))))))))))))))) (by decide)).1) kp298
                have kp366 : Kpt (gI σ65_1 o 6 = gI τ117 o 6) := Eq.trans (show gI σ65_1 o 6 = gI σ60 o 6 from (cσ65_1.O (ko.up (xσ39.trans (xσ40.trans (xσ41.trans (xσ42.trans (xσ46.trans (xσ48.trans (xσ50.trans (xσ52.trans (xσ54.trans (xσ56.trans (xσ57.trans (xτ117.trans (xσ58.trans (xσ59.trans xσ60))))))))))))))) (by decide)).1) kp299
                have kp367 : Kpt (gI σ65_1 o 7 = gI τ117 o 7) := Eq.trans (show gI σ65_1 o 7 = gI σ60 o 7 from (cσ65_1.O (ko.up (xσ39.trans (xσ40.trans (xσ41.trans (xσ42.trans (xσ46.trans (xσ48.trans (xσ50.trans (xσ52.trans (xσ54.trans (xσ56.trans (xσ57.trans (xτ117.trans (xσ58.trans (xσ59.trans xσ60))))))))))))))) (by decide)).1) kp300
                have kp368 : Kpt (gI σ65_1 o 8 = gI σ o 8) := Eq.trans (show gI σ65_1 o 8 = gI σ60 o 8 from (cσ65_1.O (ko.up (xσ39.trans (xσ40.trans (xσ41.trans (xσ42.trans (xσ46.trans (xσ48.trans (xσ50.trans (xσ52.trans (xσ54.trans (xσ56.trans (xσ57.trans (xτ117.trans (xσ58.trans (xσ59.trans xσ60))))))))))))))) (by decide)).1) kp301
                have kp369 : Kpt (gI σ65_1 o 9 = gI σ o 9) := Eq.trans (show gI σ65_1 o 9 = gI σ60 o 9 from (cσ65_1.O (ko.up (xσ39.trans (xσ40.trans (xσ41.trans (xσ42.trans (xσ46.trans (xσ48.trans (xσ50.trans (xσ52.trans (xσ54.trans (xσ56.trans (xσ57.trans (xτ117.trans (xσ58.trans (xσ59.trans xσ60))))))))))))))) (by decide)).1) kp302
                have r5σ65_1 := I_6_5 iσ65_1.1 (kth.up (xσ39.trans (xσ40.trans (xσ41.trans (xσ42.trans (xσ46.trans (xσ48.trans (xσ50.trans (xσ52.trans (xσ54.trans (xσ56.trans (xσ57.trans (xτ117.trans (xσ58.trans (xσ59.trans (xσ60.trans xσ65_1))))))))))))))))
                refine i_X6_number iσ65_1 (kth.up (xσ39.trans (xσ40.trans (xσ41.trans (xσ42.trans (xσ46.trans (xσ48.trans (xσ50.trans (xσ52.trans (xσ54.trans (xσ56.trans (xσ57.trans (xτ117.trans (xσ58.trans (xσ59.trans (xσ60.trans xσ65_1)))))))))))))))) (by (first | omega | with_reducible assumption | with_reducible exact rng_toInt _ | with_reducible exact rng_wr _ | (unfold rng; omega) | (unfold rng at *; omega) | assumption)) (by (first | omega | with_reducible assumption | with_reducible exact rng_toInt _ | with_reducible exact rng_wr _ | (unfold rng; omega) | (unfold rng at *; omega) | assumption)) (fun σ66_1 r67_1 iσ66_1 cσ66_1 pσ66_1 => ?_) (fun σx LLx Nx nux E ix cx ux px => hX σx LLx Nx nux E ix (fσ65_1.tr (cx.mo (by decide))) (nu_σ60.x ux) (by first | exact px | exact ⟨by have := px.1; omega, px.2⟩ | (first | omega | with_reducible assumption | with_reducible exact rng_toInt _ | with_reducible exact rng_wr _ | (unfold rng; omega) | (unfold rng at *; omega) | assumption)))
                intro xσ66_1
                have fσ66_1 : Fx [261, 262, 263, 323, 324, 326, 327, 333, 336, 386, 387, 388, 389, 390, 6464, 8320] gr σ σ66_1 := fσ65_1.tr (cσ66_1.mo (by decide))
                have oxcσ66_1 : OX o σ σ66_1 := oxcσ65_1.tr (OX.fx cσ66_1 (by decide) (by decide)) (xσ39.trans (xσ40.trans (xσ41.trans (xσ42.trans (xσ46.trans (xσ48.trans (xσ50.trans (xσ52.trans (xσ54.trans (xσ56.trans (xσ57.trans (xτ117.trans (xσ58.trans (xσ59.trans (xσ60.trans xσ65_1)))))))))))))))
                have kp370 : gP σ66_1 J 0 = gP σ65_1 J 0 := (cσ66_1.O (kJ.up (xσ39.trans (xσ40.trans (xσ41.trans (xσ42.trans (xσ46.trans (xσ48.trans (xσ50.trans (xσ52.trans (xσ54.trans (xσ56.trans (xσ57.trans (xτ117.trans (xσ58.trans (xσ59.trans (xσ60.trans xσ65_1)))))))))))))))) (by decide)).2.1
                have kp371 : gP σ66_1 th 0 = gP σ65_1 th 0 := (cσ66_1.O (kth.up (xσ39.trans (xσ40.trans (xσ41.trans (xσ42.trans (xσ46.trans (xσ48.trans (xσ50.trans (xσ52.trans (xσ54.trans (xσ56.trans (xσ57.trans (xτ117.trans (xσ58.trans (xσ59.trans (xσ60.trans xσ65_1)))))))))))))))) (by decide)).2.1
                have kp372 : gP σ66_1 th 7 = gP σ65_1 th 7 := (cσ66_1.O (kth.up (xσ39.trans (xσ40.trans (xσ41.trans (xσ42.trans (xσ46.trans (xσ48.trans (xσ50.trans (xσ52.trans (xσ54.trans (xσ56.trans (xσ57.trans (xτ117.trans (xσ58.trans (xσ59.trans (xσ60.trans xσ65_1)))))))))))))))) (by decide)).2.1
                have kp373 : gP σ66_1 th 8 = gP σ65_1 th 8 := (cσ66_1.O (kth.up (xσ39.trans (xσ40.trans (xσ41.trans (xσ42.trans (xσ46.trans (xσ48.trans (xσ50.trans (xσ52.trans (xσ54.trans (xσ56.trans (xσ57.trans (xτ117.trans (xσ58.trans (xσ59.trans (xσ60.trans xσ65_1)))))))))))))))) (by decide)).2.1
                have kp374 : gI σ66_1 th 2 = gI σ65_1 th 2 := (cσ66_1.O (kth.up (xσ39.trans (xσ40.trans (xσ41.trans (xσ42.trans (xσ46.trans (xσ48.trans (xσ50.trans (xσ52.trans (xσ54.trans (xσ56.trans (xσ57.trans (xτ117.trans (xσ58.trans (xσ59.trans (xσ60.trans xσ65_1)))))))))))))))) (by decide)).1
                have kp375 : gI σ66_1 th 3 = gI σ65_1 th 3 := (cσ66_1.O (kth.up (xσ39.trans (xσ40.trans (xσ41.trans (xσ42.trans (xσ46.trans (xσ48.trans (xσ50.trans (xσ52.trans (xσ54.trans (xσ56.trans (xσ57.trans (xτ117.trans (xσ58.trans (xσ59.trans (xσ60.trans xσ65_1)))))))))))))))) (by decide)).1
                have kp376 : gI σ66_1 th 5 = gI σ65_1 th 5 := (cσ66_1.O (kth.up (xσ39.trans (xσ40.trans (xσ41.trans (xσ42.trans (xσ46.trans (xσ48.trans (xσ50.trans (xσ52.trans (xσ54.trans (xσ56.trans (xσ57.trans (xτ117.trans (xσ58.trans (xσ59.trans (xσ60.trans xσ65_1)))))))))))))))) (by decide)).1
                have kp377 : Kpt (gI σ66_1 J 7 = gI σ60 J 7) := Eq.trans (show gI σ66_1 J 7 = gI σ65_1 J 7 from (cσ66_1.O (kJ.up (xσ39.trans (xσ40.trans (xσ41.trans (xσ42.trans (xσ46.trans (xσ48.trans (xσ50.trans (xσ52.trans (xσ54.trans (xσ56.trans (xσ57.trans (xτ117.trans (xσ58.trans (xσ59.trans (xσ60.trans xσ65_1)))))))))))))))) (by decide)).1) kp361
                have kp378 : Kpt (gI σ66_1 J 1 = gI σ J 1) := Eq.trans (show gI σ66_1 J 1 = gI σ65_1 J 1 from (cσ66_1.O (kJ.up (xσ39.trans (xσ40.trans (xσ41.trans (xσ42.trans (xσ46.trans (xσ48.trans (xσ50.trans (xσ52.trans (xσ54.trans (xσ56.trans (xσ57.trans (xτ117.trans (xσ58.trans (xσ59.trans (xσ60.trans xσ65_1)))))))))))))))) (by decide)).1) kp362
                have kp379 : Kpt (gI σ66_1 J 2 = gI σ J 2) := Eq.trans (show gI σ66_1 J 2 = gI σ65_1 J 2 from (cσ66_1.O (kJ.up (xσ39.trans (xσ40.trans (xσ41.trans (xσ42.trans (xσ46.trans (xσ48.trans (xσ50.trans (xσ52.trans (xσ54.trans (xσ56.trans (xσ57.trans (xτ117.trans (xσ58.trans (xσ59.trans (xσ60.trans xσ65_1)))))))))))))))) (by decide)).1) kp363
                have kp380 : Kpt (gI σ66_1 o 3 = gI τ117 o 3) := Eq.trans (show gI σ66_1 o 3 = gI σ65_1 o 3 from (cσ66_1.O (ko.up (xσ39.trans (xσ40.trans (xσ41.trans (xσ42.trans (xσ46.trans (xσ48.trans (xσ50.trans (xσ52.trans (xσ54.trans (xσ56.trans (xσ57.trans (xτ117.trans (xσ58.trans (xσ59.trans (xσ60.trans xσ65_1)))))))))))))))) (by decide)).1) kp364
                have kp381 : Kpt (gI σ66_1 o 4 = gI σ58 o 4) := Eq.trans (show gI σ66_1 o 4 = gI σ65_1 o 4 from (cσ66_1.O (ko.up (xσ39.trans (xσ40.trans (xσ41.trans (xσ42.trans (xσ46.trans (xσ48.trans (xσ50.trans (xσ52.trans (xσ54.trans (xσ56.trans (xσ57.trans (xτ117.trans (xσ58.trans (xσ59.trans (xσ60.trans xσ65_1)))))))))))))))) (by decide)).1) kp365
                have kp382 : Kpt (gI σ66_1 o 6 = gI τ117 o 6) := Eq.trans (show gI σ66_1 o 6 = gI σ65_1 o 6 from (cσ66_1.O (ko.up (xσ39.trans (xσ40.trans (xσ41.trans (xσ42.trans (xσ46.trans (xσ48.trans (xσ50.trans (xσ52.trans (xσ54.trans (xσ56.trans (xσ57.trans (xτ117.trans (xσ58.trans (xσ59.trans (xσ60.trans xσ65_1)))))))))))))))) (by decide)).1) kp366
                have kp383 : Kpt (gI σ66_1 o 7 = gI τ117 o 7) := Eq.trans (show gI σ66_1 o 7 = gI σ65_1 o 7 from (cσ66_1.O (ko.up (xσ39.trans (xσ40.trans (xσ41.trans (xσ42.trans (xσ46.trans (xσ48.trans (xσ50.trans (xσ52.trans (xσ54.trans (xσ56.trans (xσ57.trans (xτ117.trans (xσ58.trans (xσ59.trans (xσ60.trans xσ65_1)))))))))))))))) (by decide)).1) kp367
                have kp384 : Kpt (gI σ66_1 o 8 = gI σ o 8) := Eq.trans (show gI σ66_1 o 8 = gI σ65_1 o 8 from (cσ66_1.O (ko.up (xσ39.trans (xσ40.trans (xσ41.trans (xσ42.trans (xσ46.trans (xσ48.trans (xσ50.trans (xσ52.trans (xσ54.trans (xσ56.trans (xσ57.trans (xτ117.trans (xσ58.trans (xσ59.trans (xσ60.trans xσ65_1)))))))))))))))) (by decide)).1) kp368
                have kp385 : Kpt (gI σ66_1 o 9 = gI σ o 9) := Eq.trans (show gI σ66_1 o 9 = gI σ65_1 o 9 from (cσ66_1.O (ko.up (xσ39.trans (xσ40.trans (xσ41.trans (xσ42.trans (xσ46.trans (xσ48.trans (xσ50.trans (xσ52.trans (xσ54.trans (xσ56.trans (xσ57.trans (xτ117.trans (xσ58.trans (xσ59.trans (xσ60.trans xσ65_1)))))))))))))))) (by decide)).1) kp369
                refine ⟨o, (kp360.trans (kp291.trans (kp279.trans (kp262.trans (kp182.trans h8))))), fun kk_o_7 => ?_⟩
                intro σ69_1 eσ69_1
                have xσ69_1 : Ext σ66_1 σ69_1 := by rw [eσ69_1]; exact fun _ h => ⟨h, rfl, rfl⟩
                have iσ69_1 : IV σ69_1 pl gq ci gr nc ot LL N nuσ60 := by rw [eσ69_1]; exact iσ66_1.wSp (ko.up (xσ39.trans (xσ40.trans (xσ41.trans (xσ42.trans (xσ46.trans (xσ48.trans (xσ50.trans (xσ52.trans (xσ54.trans (xσ56.trans (xσ57.trans (xτ117.trans (xσ58.trans (xσ59.trans (xσ60.trans (xσ65_1.trans xσ66_1))))))))))))))))) (fun i hi => by omega) (by decide) (show (-1000 : Int) ≤ r67_1 ∧ r67_1 ≤ 1000 from ⟨by omega, by omega⟩)
                have fσ69_1 : Fx [261, 262, 263, 323, 324, 326, 327, 333, 336, 386, 387, 388, 389, 390, 6464, 8320] gr σ σ69_1 := fσ66_1.tr (Sk.fx (by rw [eσ69_1]; exact Sk.pI (by rw [fcdO (ko.up (xσ39.trans (xσ40.trans (xσ41.trans (xσ42.trans (xσ46.trans (xσ48.trans (xσ50.trans (xσ52.trans (xσ54.trans (xσ56.trans (xσ57.trans (xτ117.trans (xσ58.trans (xσ59.trans (xσ60.trans (xσ65_1.trans xσ66_1))))))))))))))))) (by decide)]; decide)))
                have oxcσ69_1 : OX o σ σ69_1 := oxcσ66_1.tr (by rw [eσ69_1]; exact OX.pI (ko.up (xσ39.trans (xσ40.trans (xσ41.trans (xσ42.trans (xσ46.trans (xσ48.trans (xσ50.trans (xσ52.trans (xσ54.trans (xσ56.trans (xσ57.trans (xτ117.trans (xσ58.trans (xσ59.trans (xσ60.trans (xσ65_1.trans xσ66_1))))))))))))))))) (Or.inr rfl)) (xσ39.trans (xσ40.trans (xσ41.trans (xσ42.trans (xσ46.trans (xσ48.trans (xσ50.trans (xσ52.trans (xσ54.trans (xσ56.trans (xσ57.trans (xτ117.trans (xσ58.trans (xσ59.trans (xσ60.trans (xσ65_1.trans xσ66_1))))))))))))))))
                have wσ69_1 : gI σ69_1 o 16 = r67_1 := by rw [eσ69_1]; exact up2_s _ _ _ _
                have kp386 : gP σ69_1 J 0 = gP σ66_1 J 0 := by rw [eσ69_1]
                have kp387 : gP σ69_1 th 0 = gP σ66_1 th 0 := by rw [eσ69_1]
                have kp388 : gP σ69_1 th 7 = gP σ66_1 th 7 := by rw [eσ69_1]
                have kp389 : gP σ69_1 th 8 = gP σ66_1 th 8 := by rw [eσ69_1]
                have kp390 : gI σ69_1 th 2 = gI σ66_1 th 2 := by rw [eσ69_1]; exact up2_n _ _ (fun q => absurd q.2 (by decide))
                have kp391 : gI σ69_1 th 3 = gI σ66_1 th 3 := by rw [eσ69_1]; exact up2_n _ _ (fun q => absurd q.2 (by decide))
                have kp392 : gI σ69_1 th 5 = gI σ66_1 th 5 := by rw [eσ69_1]; exact up2_n _ _ (fun q => absurd q.2 (by decide))
                have kp393 : Kpt (gI σ69_1 J 7 = gI σ60 J 7) := Eq.trans (show gI σ69_1 J 7 = gI σ66_1 J 7 from by rw [eσ69_1]; exact up2_n _ _ (fun q => absurd q.2 (by decide))) kp377
                have kp394 : Kpt (gI σ69_1 J 1 = gI σ J 1) := Eq.trans (show gI σ69_1 J 1 = gI σ66_1 J 1 from by rw [eσ69_1]; exact up2_n _ _ (fun q => absurd q.2 (by decide))) kp378
                have kp395 : Kpt (gI σ69_1 J 2 = gI σ J 2) := Eq.trans (show gI σ69_1 J 2 = gI σ66_1 J 2 from by rw [eσ69_1]; exact up2_n _ _ (fun q => absurd q.2 (by decide))) kp379
                have kp396 : Kpt (gI σ69_1 o 3 = gI τ117 o 3) := Eq.trans (show gI σ69_1 o 3 = gI σ66_1 o 3 from by rw [eσ69_1]; exact up2_n _ _ (fun q => absurd q.2 (by decide))) kp380
                have kp397 : Kpt (gI σ69_1 o 4 = gI σ58 o 4) := Eq.trans (show gI σ69_1 o 4 = gI σ66_1 o 4 from by rw [eσ69_1]; exact up2_n _ _ (fun q => absurd q.2 (by decide))) kp381
                have kp398 : Kpt (gI σ69_1 o 6 = gI τ117 o 6) := Eq.trans (show gI σ69_1 o 6 = gI σ66_1 o 6 from by rw [eσ69_1]; exact up2_n _ _ (fun q => absurd q.2 (by decide))) kp382
                have kp399 : Kpt (gI σ69_1 o 7 = gI τ117 o 7) := Eq.trans (show gI σ69_1 o 7 = gI σ66_1 o 7 from by rw [eσ69_1]; exact up2_n _ _ (fun q => absurd q.2 (by decide))) kp383
                have kp400 : Kpt (gI σ69_1 o 8 = gI σ o 8) := Eq.trans (show gI σ69_1 o 8 = gI σ66_1 o 8 from by rw [eσ69_1]; exact up2_n _ _ (fun q => absurd q.2 (by decide))) kp384
                have kp401 : Kpt (gI σ69_1 o 9 = gI σ o 9) := Eq.trans (show gI σ69_1 o 9 = gI σ66_1 o 9 from by rw [eσ69_1]; exact up2_n _ _ (fun q => absurd q.2 (by decide))) kp385
                refine i_X6_next iσ69_1 (kth.up (xσ39.trans (xσ40.trans (xσ41.trans (xσ42.trans (xσ46.trans (xσ48.trans (xσ50.trans (xσ52.trans (xσ54.trans (xσ56.trans (xσ57.trans (xτ117.trans (xσ58.trans (xσ59.trans (xσ60.trans (xσ65_1.trans (xσ66_1.trans xσ69_1)))))))))))))))))) (kp387.trans (kp371.trans (kp358.trans (kp289.trans (kp277.trans (kp260.trans (kp180.trans hX0))))))) (kX.up (xσ39.trans (xσ40.trans (xσ41.trans (xσ42.trans (xσ46.trans (xσ48.trans (xσ50.trans (xσ52.trans (xσ54.trans (xσ56.trans (xσ57.trans (xτ117.trans (xσ58.trans (xσ59.trans (xσ60.trans (xσ65_1.trans (xσ66_1.trans xσ69_1)))))))))))))))))) (((xσ39.trans (xσ40.trans (xσ41.trans (xσ42.trans (xσ46.trans (xσ48.trans (xσ50.trans (xσ52.trans (xσ54.trans (xσ56.trans (xσ57.trans (xτ117.trans (xσ58.trans (xσ59.trans (xσ60.trans (xσ65_1.trans (xσ66_1.trans xσ69_1))))))))))))))))) tx kX.1).2.2.trans gX) (by (first | omega | with_reducible assumption | with_reducible exact rng_toInt _ | with_reducible exact rng_wr _ | (unfold rng; omega) | (unfold rng at *; omega) | assumption)) (by (first | omega | with_reducible assumption | with_reducible exact rng_toInt _ | with_reducible exact rng_wr _ | (unfold rng; omega) | (unfold rng at *; omega) | assumption)) (fun σ70_1 _ iσ70_1 cσ70_1 pσ70_1 => ?_) (fun σx LLx Nx nux E ix cx ux px => hX σx LLx Nx nux E ix (fσ69_1.tr (cx.mo (by decide))) (nu_σ60.x ux) (by first | exact px | exact ⟨by have := px.1; omega, px.2⟩ | (first | omega | with_reducible assumption | with_reducible exact rng_toInt _ | with_reducible exact rng_wr _ | (unfold rng; omega) | (unfold rng at *; omega) | assumption)))
                intro xσ70_1
                have fσ70_1 : Fx [261, 262, 263, 323, 324, 326, 327, 333, 336, 386, 387, 388, 389, 390, 6464, 8320] gr σ σ70_1 := fσ69_1.tr (cσ70_1.mo (by decide))
                have oxcσ70_1 : OX o σ σ70_1 := oxcσ69_1.tr (OX.fx cσ70_1 (by decide) (by decide)) (xσ39.trans (xσ40.trans (xσ41.trans (xσ42.trans (xσ46.trans (xσ48.trans (xσ50.trans (xσ52.trans (xσ54.trans (xσ56.trans (xσ57.trans (xτ117.trans (xσ58.trans (xσ59.trans (xσ60.trans (xσ65_1.trans (xσ66_1.trans xσ69_1)))))))))))))))))
                have kp402 : gI σ70_1 o 16 = gI σ69_1 o 16 := (cσ70_1.O (ko.up (xσ39.trans (xσ40.trans (xσ41.trans (xσ42.trans (xσ46.trans (xσ48.trans (xσ50.trans (xσ52.trans (xσ54.trans (xσ56.trans (xσ57.trans (xτ117.trans (xσ58.trans (xσ59.trans (xσ60.trans (xσ65_1.trans (xσ66_1.trans xσ69_1)))))))))))))))))) (by decide)).1
                have kp403 : gP σ70_1 J 0 = gP σ69_1 J 0 := (cσ70_1.O (kJ.up (xσ39.trans (xσ40.trans (xσ41.trans (xσ42.trans (xσ46.trans (xσ48.trans (xσ50.trans (xσ52.trans (xσ54.trans (xσ56.trans (xσ57.trans (xτ117.trans (xσ58.trans (xσ59.trans (xσ60.trans (xσ65_1.trans (xσ66_1.trans xσ69_1)))))))))))))))))) (by decide)).2.1
                have kp404 : gP σ70_1 th 0 = gP σ69_1 th 0 := (cσ70_1.O (kth.up (xσ39.trans (xσ40.trans (xσ41.trans (xσ42.trans (xσ46.trans (xσ48.trans (xσ50.trans (xσ52.trans (xσ54.trans (xσ56.trans (xσ57.trans (xτ117.trans (xσ58.trans (xσ59.trans (xσ60.trans (xσ65_1.trans (xσ66_1.trans xσ69_1)))))))))))))))))) (by decide)).2.1
                have kp405 : gP σ70_1 th 7 = gP σ69_1 th 7 := (cσ70_1.O (kth.up (xσ39.trans (xσ40.trans (xσ41.trans (xσ42.trans (xσ46.trans (xσ48.trans (xσ50.trans (xσ52.trans (xσ54.trans (xσ56.trans (xσ57.trans (xτ117.trans (xσ58.trans (xσ59.trans (xσ60.trans (xσ65_1.trans (xσ66_1.trans xσ69_1)))))))))))))))))) (by decide)).2.1
                have kp406 : gP σ70_1 th 8 = gP σ69_1 th 8 := (cσ70_1.O (kth.up (xσ39.trans (xσ40.trans (xσ41.trans (xσ42.trans (xσ46.trans (xσ48.trans (xσ50.trans (xσ52.trans (xσ54.trans (xσ56.trans (xσ57.trans (xτ117.trans (xσ58.trans (xσ59.trans (xσ60.trans (xσ65_1.trans (xσ66_1.trans xσ69_1)))))))))))))))))) (by decide)).2.1
                have kp407 : Kpt (gI σ70_1 J 7 = gI σ60 J 7) := Eq.trans (show gI σ70_1 J 7 = gI σ69_1 J 7 from (cσ70_1.O (kJ.up (xσ39.trans (xσ40.trans (xσ41.trans (xσ42.trans (xσ46.trans (xσ48.trans (xσ50.trans (xσ52.trans (xσ54.trans (xσ56.trans (xσ57.trans (xτ117.trans (xσ58.trans (xσ59.trans (xσ60.trans (xσ65_1.trans (xσ66_1.trans xσ69_1)))))))))))))))))) (by decide)).1) kp393
                have kp408 : Kpt (gI σ70_1 J 1 = gI σ J 1) := Eq.trans (show gI σ70_1 J 1 = gI σ69_1 J 1 from (cσ70_1.O (kJ.up (xσ39.trans (xσ40.trans (xσ41.trans (xσ42.trans (xσ46.trans (xσ48.trans (xσ50.trans (xσ52.trans (xσ54.trans (xσ56.trans (xσ57.trans (xτ117.trans (xσ58.trans (xσ59.trans (xσ60.trans (xσ65_1.trans (xσ66_1.trans xσ69_1)))))))))))))))))) (by decide)).1) kp394
                have kp409 : Kpt (gI σ70_1 J 2 = gI σ J 2) := Eq.trans (show gI σ70_1 J 2 = gI σ69_1 J 2 from (cσ70_1.O (kJ.up (xσ39.trans (xσ40.trans (xσ41.trans (xσ42.trans (xσ46.trans (xσ48.trans (xσ50.trans (xσ52.trans (xσ54.trans (xσ56.trans (xσ57.trans (xτ117.trans (xσ58.trans (xσ59.trans (xσ60.trans (xσ65_1.trans (xσ66_1.trans xσ69_1)))))))))))))))))) (by decide)).1) kp395
                have kp410 : Kpt (gI σ70_1 o 3 = gI τ117 o 3) := Eq.trans (show gI σ70_1 o 3 = gI σ69_1 o 3 from (cσ70_1.O (ko.up (xσ39.trans (xσ40.trans (xσ41.trans (xσ42.trans (xσ46.trans (xσ48.trans (xσ50.trans (xσ52.trans (xσ54.trans (xσ56.trans (xσ57.trans (xτ117.trans (xσ58.trans (xσ59.trans (xσ60.trans (xσ65_1.trans (xσ66_1.trans xσ69_1)))))))))))))))))) (by decide)).1) kp396
                have kp411 : Kpt (gI σ70_1 o 4 = gI σ58 o 4) := Eq.trans (show gI σ70_1 o 4 = gI σ69_1 o 4 from (cσ70_1.O (ko.up (xσ39.trans (xσ40.trans (xσ41.trans (xσ42.trans (xσ46.trans (xσ48.trans (xσ50.trans (xσ52.trans (xσ54.trans (xσ56.trans (xσ57.trans (xτ117.trans (xσ58.trans (xσ59.trans (xσ60.trans (xσ65_1.trans (xσ66_1.trans xσ69_1)))))))))))))))))) (by decide)).1) kp397
                have kp412 : Kpt (gI σ70_1 o 6 = gI τ117 o 6) := Eq.trans (show gI σ70_1 o 6 = gI σ69_1 o 6 from (cσ70_1.O (ko.up (xσ39.trans (xσ40.trans (xσ41.trans (xσ42.trans (xσ46.trans (xσ48.trans (xσ50.trans (xσ52.trans (xσ54.trans (xσ56.trans (xσ57.trans (xτ117.trans (xσ58.trans (xσ59.trans (xσ60.trans (xσ65_1.trans (xσ66_1.trans xσ69_1)))))))))))))))))) (by decide)).1) kp398
                have kp413 : Kpt (gI σ70_1 o 7 = gI τ117 o 7) := Eq.trans (show gI σ70_1 o 7 = gI σ69_1 o 7 from (cσ70_1.O (ko.up (xσ39.trans (xσ40.trans (xσ41.trans (xσ42.trans (xσ46.trans (xσ48.trans (xσ50.trans (xσ52.trans (xσ54.trans (xσ56.trans (xσ57.trans (xτ117.trans (xσ58.trans (xσ59.trans (xσ60.trans (xσ65_1.trans (xσ66_1.trans xσ69_1)))))))))))))))))) (by decide)).1) kp399
                have kp414 : Kpt (gI σ70_1 o 8 = gI σ o 8) := Eq.trans (show gI σ70_1 o 8 = gI σ69_1 o 8 from (cσ70_1.O (ko.up (xσ39.trans (xσ40.trans (xσ41.trans (xσ42.trans (xσ46.trans (xσ48.trans (xσ50.trans (xσ52.trans (xσ54.trans (xσ56.trans (xσ57.trans (xτ117.trans (xσ58.trans (xσ59.trans (xσ60.trans (xσ65_1.trans (xσ66_1.trans xσ69_1)))))))))))))))))) (by decide)).1) kp400
                have kp415 : Kpt (gI σ70_1 o 9 = gI σ o 9) := Eq.trans (show gI σ70_1 o 9 = gI σ69_1 o 9 from (cσ70_1.O (ko.up (xσ39.trans (xσ40.trans (xσ41.trans (xσ42.trans (xσ46.trans (xσ48.trans (xσ50.trans (xσ52.trans (xσ54.trans (xσ56.trans (xσ57.trans (xτ117.trans (xσ58.trans (xσ59.trans (xσ60.trans (xσ65_1.trans (xσ66_1.trans xσ69_1)))))))))))))))))) (by decide)).1) kp401
                have r5σ70_1 := I_6_5 iσ70_1.1 (kth.up (xσ39.trans (xσ40.trans (xσ41.trans (xσ42.trans (xσ46.trans (xσ48.trans (xσ50.trans (xσ52.trans (xσ54.trans (xσ56.trans (xσ57.trans (xτ117.trans (xσ58.trans (xσ59.trans (xσ60.trans (xσ65_1.trans (xσ66_1.trans (xσ69_1.trans xσ70_1)))))))))))))))))))
                have ho416 : gI σ70_1 J 7 = gI σ60 J 7 := kp407
                have ho417 : gI σ70_1 J 1 = gI σ J 1 := kp408
                have ho418 : gI σ70_1 J 2 = gI σ J 2 := kp409
                have ho419 : gI σ70_1 o 3 = gI τ117 o 3 := kp410
                have ho420 : gI σ70_1 o 4 = gI σ58 o 4 := kp411
                have ho421 : gI σ70_1 o 6 = gI τ117 o 6 := kp412
                have ho422 : gI σ70_1 o 7 = gI τ117 o 7 := kp413
                have ho423 : gI σ70_1 o 8 = gI σ o 8 := kp414
                have ho424 : gI σ70_1 o 9 = gI σ o 9 := kp415
                exact hQ σ70_1 nuσ60 () iσ70_1 fσ70_1 (nu_σ60) oxcσ70_1 (⟨by omega, by omega, ⟨by omega, (fun h => absurd h (by omega)), (fun h => absurd h (by omega))⟩⟩)
      have ho425 : gI σ57 J 7 = gI σ J 7 := kp169
      have ho426 : gI σ57 J 1 = gI σ J 1 := kp170
      have ho427 : gI σ57 J 2 = gI σ J 2 := kp171
      have ho428 : gI σ57 o 3 = gI σ54 o 3 := kp172
      have ho429 : gI σ57 o 4 = gI σ o 4 := kp173
      have ho430 : gI σ57 o 6 = gI σ40 o 6 := kp174
      have ho431 : gI σ57 o 7 = gI σ40 o 7 := kp175
      have ho432 : gI σ57 o 8 = gI σ o 8 := kp176
      have ho433 : gI σ57 o 9 = gI σ o 9 := kp177
      exact ⟨_, Lp117 _ σ57 nu _ iσ57 fσ57 (Ext.rfl' _) NC.rf oxcσ57 (by (first | omega | with_reducible assumption | with_reducible exact rng_toInt _ | with_reducible exact rng_wr _ | (unfold rng; omega) | (unfold rng at *; omega) | assumption)) (Nat.lt_succ_self _)⟩
    · rw [if_neg hc96]
      have hc96q := Classical.not_not.mp hc96
      unfold w_X6_matchText_68
      refine i_X6_refuse iσ48 (kth.up (xσ39.trans (xσ40.trans (xσ41.trans (xσ42.trans (xσ46.trans xσ48)))))) (by (first | omega | with_reducible assumption | with_reducible exact rng_toInt _ | with_reducible exact rng_wr _ | (unfold rng; omega) | (unfold rng at *; omega) | assumption)) (by (first | omega | with_reducible assumption | with_reducible exact rng_toInt _ | with_reducible exact rng_wr _ | (unfold rng; omega) | (unfold rng at *; omega) | assumption)) (by (first | omega | with_reducible assumption | with_reducible exact rng_toInt _ | with_reducible exact rng_wr _ | (unfold rng; omega) | (unfold rng at *; omega) | assumption)) (fun σ49_1 _ iσ49_1 cσ49_1 pσ49_1 => ?_) (fun σx LLx Nx nux E ix cx ux px => hX σx LLx Nx nux E ix (fσ48.tr (cx.mo (by decide))) (ux) (by first | exact px | exact ⟨by have := px.1; omega, px.2⟩ | (first | omega | with_reducible assumption | with_reducible exact rng_toInt _ | with_reducible exact rng_wr _ | (unfold rng; omega) | (unfold rng at *; omega) | assumption)))
      intro xσ49_1
      exact pσ49_1.elim

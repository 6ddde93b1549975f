set_option maxHeartbeats 4000000 in
theorem i_X6_aggregates {σ : Sg} {pl : Nat} {gq ci gr nc : Nat → Nat} {ot : Nat → Nat → Int} {LL : Nat → List Nat} {N nu : Nat → Nat} {th : Nat} {tx J o q c : Nat} (iσ : IV σ pl gq ci gr nc ot LL N nu) (kth : kO σ th 6) (hX0 : gP σ th 0 = some tx) (kX : kO σ tx 102) (gX : gn σ tx = 1500) (h7 : gP σ th 7 = some J) (kJ : kO σ J 4) (h8 : gP σ th 8 = some o) (ko : kO σ o 5) (hJq : gq J = q) (hq : q ≠ nc 0 ∧ q ≤ 1) (go : gq o = 16 * q + c) (hc : c < 16) (tf : gI σ th 5 ≤ gI σ th 2 ∧ (gI σ th 3 ≠ 0 → gI σ th 5 + 1 ≤ gI σ th 2)) (h5 : nu 5 < 24000) (lp : gI σ J 7 ≤ 2 * gI σ th 5) (f0 : gI σ o 3 = 1 ∧ gI σ o 4 = 0 ∧ 0 ≤ gI σ o 7) {Q : Sg → Unit → Prop} {X : Sg → String → Prop} (hQ : ∀ (σ' : Sg) (nu' : Nat → Nat) (r : Unit), IV σ' pl gq ci gr nc ot LL N nu' → Fx [261, 262, 263, 323, 324, 386, 387, 388, 389, 390, 6464, 8320] gr σ σ' → NC nu nu' → OX o σ σ' → ((gI σ' th 5 ≤ gI σ' th 2 ∧ (gI σ' th 3 ≠ 0 → gI σ' th 5 + 1 ≤ gI σ' th 2)) ∧ gI σ' J 7 ≤ 2 * gI σ' th 5 ∧ gI σ' o 4 ≤ 4) → Q σ' r) (hX : ∀ (σ' : Sg) (LL' : Nat → List Nat) (N' nu' : Nat → Nat) (E : String), IV σ' pl gq ci gr nc ot LL' N' nu' → Fx [261, 262, 263, 323, 324, 386, 387, 388, 389, 390, 6464, 8320] gr σ σ' → NCX nu nu' → (LL' = LL ∧ N' = N ∧ E = "java/lang/IllegalArgumentException" ∧ gI σ' th 6 ≠ 0) → X σ' E) : wp_X6_aggregates th σ Q X := by
  have fσ : Fx [261, 262, 263, 323, 324, 386, 387, 388, 389, 390, 6464, 8320] gr σ σ := Fx.rf
  have oxσ : OX o σ σ := OX.rf
  have q1 := I_6_5 iσ.1 kth
  have q2 := I_6_2 iσ.1 kth
  have q3 := iσ.rg th 3; unfold rng at q3
  have q4 := I_4_7 iσ.1 kJ
  have q5 := I_5_3 iσ.1 ko
  have q6 := I_5_4 iσ.1 ko
  have q7 := I_5_7 iσ.1 ko
  have ncb := iσ.ncb
  have r70 := I_4_7 iσ.1 kJ
  have r71 := I_4_1 iσ.1 kJ
  unfold wp_X6_aggregates
  unfold w_X6_aggregates_0
  have Lp2 : ∀ (fu2 : Nat) (τ2 : Sg) (nut2 : Nat → Nat) (v1 : Int), IV τ2 pl gq ci gr nc ot LL N nut2 → Fx [261, 262, 263, 323, 324, 386, 387, 388, 389, 390, 6464, 8320] gr σ τ2 → Ext σ τ2 → NC nu nut2 → OX o σ τ2 → ((0 ≤ v1 ∧ v1 ≤ 5) ∧ (gI τ2 th 5 ≤ gI τ2 th 2 ∧ (gI τ2 th 3 ≠ 0 → gI τ2 th 5 + 1 ≤ gI τ2 th 2)) ∧ gI τ2 J 7 ≤ 2 * gI τ2 th 5 ∧ 0 ≤ gI τ2 o 7 ∧ gI τ2 o 3 = gI τ2 o 4 + 1 ∧ gI τ2 o 4 ≤ 4) → ((5 - v1).toNat) < fu2 → wl_X6_aggregates_2 th Q X fu2 τ2 v1 := by
    intro fu2
    induction fu2 with
    | zero => intro _ _ _ _ _ _ _ _ _ h9; omega
    | succ fu2 ih2 =>
      intro τ2 nut2 v1 iτ2 fτ2 xτ2 nu_τ2 oxcτ2 hi2 hm2
      have uτ2_5 := nu_τ2 5 (by decide) (by decide)
      unfold wl_X6_aggregates_2
      have kp8 : Kpt (gI τ2 o 7 = gI σ o 7) := (show gI τ2 o 7 = gI σ o 7 from (fτ2.O ko (by decide)).1)
      have kp9 : gP τ2 th 0 = gP σ th 0 := (fτ2.O kth (by decide)).2.1
      have kp10 : gP τ2 th 7 = gP σ th 7 := (fτ2.O kth (by decide)).2.1
      have kp11 : gP τ2 th 8 = gP σ th 8 := (fτ2.O kth (by decide)).2.1
      have kp12 : Kpt (gI τ2 J 1 = gI σ J 1) := (show gI τ2 J 1 = gI σ J 1 from (fτ2.O kJ (by decide)).1)
      have kp13 : Kpt (gI τ2 J 2 = gI σ J 2) := (show gI τ2 J 2 = gI σ J 2 from (fτ2.O kJ (by decide)).1)
      have kp14 : Kpt (gI τ2 o 6 = gI σ o 6) := (show gI τ2 o 6 = gI σ o 6 from (fτ2.O ko (by decide)).1)
      have kp15 : Kpt (gI τ2 o 8 = gI σ o 8) := (show gI τ2 o 8 = gI σ o 8 from (fτ2.O ko (by decide)).1)
      have kp16 : Kpt (gI τ2 o 9 = gI σ o 9) := (show gI τ2 o 9 = gI σ o 9 from (fτ2.O ko (by decide)).1)
      have ho17 : gI τ2 o 7 = gI σ o 7 := kp8
      have ho18 : gI τ2 J 1 = gI σ J 1 := kp12
      have ho19 : gI τ2 J 2 = gI σ J 2 := kp13
      have ho20 : gI τ2 o 6 = gI σ o 6 := kp14
      have ho21 : gI τ2 o 8 = gI σ o 8 := kp15
      have ho22 : gI τ2 o 9 = gI σ o 9 := kp16
      have r3τ2 := I_5_3 iτ2.1 (ko.up xτ2)
      have r4τ2 := I_5_4 iτ2.1 (ko.up xτ2)
      unfold w_X6_aggregates_2
      by_cases hc23 : v1 > 4
      · rw [if_pos hc23]
        unfold w_X6_aggregates_126
        exact hQ τ2 nut2 () iτ2 fτ2 (nu_τ2) oxcτ2 (by omega)
      · rw [if_neg hc23]
        unfold w_X6_aggregates_7
        refine i_X6_newColumn iτ2 (kth.up xτ2) (kp9.trans hX0) (kX.up xτ2) (((xτ2) tx kX.1).2.2.trans gX) (kp11.trans h8) (ko.up xτ2) (by (first | omega | with_reducible assumption | with_reducible exact rng_toInt _ | with_reducible exact rng_wr _ | (unfold rng; omega) | (unfold rng at *; omega) | assumption)) (by (first | omega | with_reducible assumption | with_reducible exact rng_toInt _ | with_reducible exact rng_wr _ | (unfold rng; omega) | (unfold rng at *; omega) | assumption)) (by (first | omega | with_reducible assumption | with_reducible exact rng_toInt _ | with_reducible exact rng_wr _ | (unfold rng; omega) | (unfold rng at *; omega) | assumption)) (by (first | omega | with_reducible assumption | with_reducible exact rng_toInt _ | with_reducible exact rng_wr _ | (unfold rng; omega) | (unfold rng at *; omega) | assumption)) (by (first | omega | with_reducible assumption | with_reducible exact rng_toInt _ | with_reducible exact rng_wr _ | (unfold rng; omega) | (unfold rng at *; omega) | assumption)) (fun σ16 _ iσ16 cσ16 oxσ16 pσ16 => ?_) (fun σx LLx Nx nux E ix cx ux px => hX σx LLx Nx nux E ix (fτ2.tr (cx.mo (by decide))) (nu_τ2.x ux) (by first | exact px | exact ⟨by have := px.1; omega, px.2⟩ | (first | omega | with_reducible assumption | with_reducible exact rng_toInt _ | with_reducible exact rng_wr _ | (unfold rng; omega) | (unfold rng at *; omega) | assumption)))
        intro xσ16
        have fσ16 : Fx [261, 262, 263, 323, 324, 386, 387, 388, 389, 390, 6464, 8320] gr σ σ16 := fτ2.tr (cσ16.mo (by decide))
        have oxcσ16 : OX o σ σ16 := oxcτ2.tr oxσ16 (xτ2)
        have kp24 : gP σ16 th 0 = gP τ2 th 0 := (cσ16.O (kth.up xτ2) (by decide)).2.1
        have kp25 : gP σ16 th 7 = gP τ2 th 7 := (cσ16.O (kth.up xτ2) (by decide)).2.1
        have kp26 : gP σ16 th 8 = gP τ2 th 8 := (cσ16.O (kth.up xτ2) (by decide)).2.1
        have kp27 : Kpt (gI σ16 J 7 = gI τ2 J 7) := (show gI σ16 J 7 = gI τ2 J 7 from (cσ16.O (kJ.up xτ2) (by decide)).1)
        have kp28 : Kpt (gI σ16 J 1 = gI σ J 1) := Eq.trans (show gI σ16 J 1 = gI τ2 J 1 from (cσ16.O (kJ.up xτ2) (by decide)).1) kp12
        have kp29 : Kpt (gI σ16 J 2 = gI σ J 2) := Eq.trans (show gI σ16 J 2 = gI τ2 J 2 from (cσ16.O (kJ.up xτ2) (by decide)).1) kp13
        have kp30 : Kpt (gI σ16 o 4 = gI τ2 o 4) := (show gI σ16 o 4 = gI τ2 o 4 from (cσ16.O (ko.up xτ2) (by decide)).1)
        have kp31 : Kpt (gI σ16 o 6 = gI σ o 6) := Eq.trans (show gI σ16 o 6 = gI τ2 o 6 from (cσ16.O (ko.up xτ2) (by decide)).1) kp14
        have kp32 : Kpt (gI σ16 o 7 = gI σ o 7) := Eq.trans (show gI σ16 o 7 = gI τ2 o 7 from (cσ16.O (ko.up xτ2) (by decide)).1) kp8
        have kp33 : Kpt (gI σ16 o 8 = gI σ o 8) := Eq.trans (show gI σ16 o 8 = gI τ2 o 8 from (cσ16.O (ko.up xτ2) (by decide)).1) kp15
        have kp34 : Kpt (gI σ16 o 9 = gI σ o 9) := Eq.trans (show gI σ16 o 9 = gI τ2 o 9 from (cσ16.O (ko.up xτ2) (by decide)).1) kp16
        have r5σ16 := I_6_5 iσ16.1 (kth.up (xτ2.trans xσ16))
        refine i_X6_wantSign iσ16 (kth.up (xτ2.trans xσ16)) (kp24.trans (kp9.trans hX0)) (kX.up (xτ2.trans xσ16)) (((xτ2.trans xσ16) tx kX.1).2.2.trans gX) (by (first | omega | with_reducible assumption | with_reducible exact rng_toInt _ | with_reducible exact rng_wr _ | (unfold rng; omega) | (unfold rng at *; omega) | assumption)) (by (first | omega | with_reducible assumption | with_reducible exact rng_toInt _ | with_reducible exact rng_wr _ | (unfold rng; omega) | (unfold rng at *; omega) | assumption)) (fun σ17 _ iσ17 cσ17 pσ17 => ?_) (fun σx LLx Nx nux E ix cx ux px => hX σx LLx Nx nux E ix (fσ16.tr (cx.mo (by decide))) (nu_τ2.x ux) (by first | exact px | exact ⟨by have := px.1; omega, px.2⟩ | (first | omega | with_reducible assumption | with_reducible exact rng_toInt _ | with_reducible exact rng_wr _ | (unfold rng; omega) | (unfold rng at *; omega) | assumption)))
        intro xσ17
        have fσ17 : Fx [261, 262, 263, 323, 324, 386, 387, 388, 389, 390, 6464, 8320] gr σ σ17 := fσ16.tr (cσ17.mo (by decide))
        have oxcσ17 : OX o σ σ17 := oxcσ16.tr (OX.fx cσ17 (by decide) (by decide)) (xτ2.trans xσ16)
        have kp35 : gP σ17 th 0 = gP σ16 th 0 := (cσ17.O (kth.up (xτ2.trans xσ16)) (by decide)).2.1
        have kp36 : gP σ17 th 7 = gP σ16 th 7 := (cσ17.O (kth.up (xτ2.trans xσ16)) (by decide)).2.1
        have kp37 : gP σ17 th 8 = gP σ16 th 8 := (cσ17.O (kth.up (xτ2.trans xσ16)) (by decide)).2.1
        have kp38 : Kpt (gI σ17 J 7 = gI τ2 J 7) := Eq.trans (show gI σ17 J 7 = gI σ16 J 7 from (cσ17.O (kJ.up (xτ2.trans xσ16)) (by decide)).1) kp27
        have kp39 : Kpt (gI σ17 J 1 = gI σ J 1) := Eq.trans (show gI σ17 J 1 = gI σ16 J 1 from (cσ17.O (kJ.up (xτ2.trans xσ16)) (by decide)).1) kp28
        have kp40 : Kpt (gI σ17 J 2 = gI σ J 2) := Eq.trans (show gI σ17 J 2 = gI σ16 J 2 from (cσ17.O (kJ.up (xτ2.trans xσ16)) (by decide)).1) kp29
        have kp41 : Kpt (gI σ17 o 3 = gI σ16 o 3) := (show gI σ17 o 3 = gI σ16 o 3 from (cσ17.O (ko.up (xτ2.trans xσ16)) (by decide)).1)
        have kp42 : Kpt (gI σ17 o 4 = gI τ2 o 4) := Eq.trans (show gI σ17 o 4 = gI σ16 o 4 from (cσ17.O (ko.up (xτ2.trans xσ16)) (by decide)).1) kp30
        have kp43 : Kpt (gI σ17 o 6 = gI σ o 6) := Eq.trans (show gI σ17 o 6 = gI σ16 o 6 from (cσ17.O (ko.up (xτ2.trans xσ16)) (by decide)).1) kp31
        have kp44 : Kpt (gI σ17 o 7 = gI σ o 7) := Eq.trans (show gI σ17 o 7 = gI σ16 o 7 from (cσ17.O (ko.up (xτ2.trans xσ16)) (by decide)).1) kp32
        have kp45 : Kpt (gI σ17 o 8 = gI σ o 8) := Eq.trans (show gI σ17 o 8 = gI σ16 o 8 from (cσ17.O (ko.up (xτ2.trans xσ16)) (by decide)).1) kp33
        have kp46 : Kpt (gI σ17 o 9 = gI σ o 9) := Eq.trans (show gI σ17 o 9 = gI σ16 o 9 from (cσ17.O (ko.up (xτ2.trans xσ16)) (by decide)).1) kp34
        have r5σ17 := I_6_5 iσ17.1 (kth.up (xτ2.trans (xσ16.trans xσ17)))
        have ho47 : gI σ17 J 7 = gI τ2 J 7 := kp38
        have cp48 : (gI σ17 th 5 ≤ gI σ17 th 2 ∧ (gI σ17 th 3 ≠ 0 → gI σ17 th 5 + 1 ≤ gI σ17 th 2)) ∧ gI σ17 J 7 ≤ 2 * gI σ17 th 5 ∧ 0 ≤ gI σ17 th 5 := by omega
        clear pσ17 q2 q1
        have q50 := iσ17.rg th 3; unfold rng at q50
        by_cases hc49 : gI σ17 th 3 ≠ 2
        · rw [if_pos hc49]
          unfold w_X6_aggregates_48
          refine i_X6_cannotStand iσ17 (kth.up (xτ2.trans (xσ16.trans xσ17))) (by (first | omega | with_reducible assumption | with_reducible exact rng_toInt _ | with_reducible exact rng_wr _ | (unfold rng; omega) | (unfold rng at *; omega) | assumption)) (fun σ18 _ iσ18 cσ18 pσ18 => ?_) (fun σx LLx Nx nux E ix cx ux px => hX σx LLx Nx nux E ix (fσ17.tr (cx.mo (by decide))) (nu_τ2.x ux) (by first | exact px | exact ⟨by have := px.1; omega, px.2⟩ | (first | omega | with_reducible assumption | with_reducible exact rng_toInt _ | with_reducible exact rng_wr _ | (unfold rng; omega) | (unfold rng at *; omega) | assumption)))
          intro xσ18
          exact pσ18.elim
        · rw [if_neg hc49]
          have hc49q := Classical.not_not.mp hc49
          unfold w_X6_aggregates_26
          by_cases hc51 : gJ σ17 th 4 < 18
          · rw [if_pos hc51]
            unfold w_X6_aggregates_48
            refine i_X6_cannotStand iσ17 (kth.up (xτ2.trans (xσ16.trans xσ17))) (by (first | omega | with_reducible assumption | with_reducible exact rng_toInt _ | with_reducible exact rng_wr _ | (unfold rng; omega) | (unfold rng at *; omega) | assumption)) (fun σ18_1 _ iσ18_1 cσ18_1 pσ18_1 => ?_) (fun σx LLx Nx nux E ix cx ux px => hX σx LLx Nx nux E ix (fσ17.tr (cx.mo (by decide))) (nu_τ2.x ux) (by first | exact px | exact ⟨by have := px.1; omega, px.2⟩ | (first | omega | with_reducible assumption | with_reducible exact rng_toInt _ | with_reducible exact rng_wr _ | (unfold rng; omega) | (unfold rng at *; omega) | assumption)))
            intro xσ18_1
            exact pσ18_1.elim
          · rw [if_neg hc51]
            unfold w_X6_aggregates_37
            by_cases hc52 : gJ σ17 th 4 ≤ 21
            · rw [if_pos hc52]
              unfold w_X6_aggregates_52
              refine ⟨o, (kp37.trans (kp26.trans (kp11.trans h8))), fun kk_o => ?_⟩
              obtain ⟨b, eb, fb⟩ := P_5_2 iσ17.1 (ko.up (xτ2.trans (xσ16.trans xσ17)))
              have mb : kO σ17 b 100 := iσ17.1.kd (ko.up (xτ2.trans (xσ16.trans xσ17))) rfl eb rfl
              refine ⟨b, eb, fun kk_b => ?_⟩
              have ho53 : gI σ17 o 4 = gI τ2 o 4 := kp42
              have q54 := I_5_4 iσ17.1 (ko.up (xτ2.trans (xσ16.trans xσ17)))
              refine ⟨⟨by (first | omega | with_reducible assumption | with_reducible exact rng_toInt _ | with_reducible exact rng_wr _ | (unfold rng; omega) | (unfold rng at *; omega) | assumption), by (first | omega | with_reducible assumption | with_reducible exact rng_toInt _ | with_reducible exact rng_wr _ | (unfold rng; omega) | (unfold rng at *; omega) | assumption)⟩, ?_⟩
              intro σ21 eσ21
              have xσ21 : Ext σ17 σ21 := by rw [eσ21]; exact fun _ h => ⟨h, rfl, rfl⟩
              have iσ21 : IV σ21 pl gq ci gr nc ot LL N nut2 := by rw [eσ21]; exact iσ17.wA0 mb (by (first | omega | with_reducible assumption | with_reducible exact rng_toInt _ | with_reducible exact rng_wr _ | (unfold rng; omega) | (unfold rng at *; omega) | assumption)) (by first | exact rng_wr _ | (first | omega | with_reducible assumption | with_reducible exact rng_toInt _ | with_reducible exact rng_wr _ | (unfold rng; omega) | (unfold rng at *; omega) | assumption))
              have fσ21 : Fx [261, 262, 263, 323, 324, 386, 387, 388, 389, 390, 6464, 8320] gr σ σ21 := fσ17.tr (Sk.fx (by rw [eσ21]; exact Sk.pI (by rw [fcdI mb, show gr b = 0 from by (first | omega | with_reducible assumption | with_reducible exact rng_toInt _ | with_reducible exact rng_wr _ | (unfold rng; omega) | (unfold rng at *; omega) | assumption)]; decide)))
              have oxcσ21 : OX o σ σ21 := oxcσ17.tr (by rw [eσ21]; exact OX.pI mb (Or.inl (by decide))) (xτ2.trans (xσ16.trans xσ17))
              have wσ21 : gI σ21 b (gI σ17 o 4).toNat = (wr ((wr (0 + (gJ σ17 th 4).toInt32.toInt)) - 18)) := by rw [eσ21]; exact up2_s _ _ _ _
              have kp55 : Kpt (gI σ21 o 4 = gI τ2 o 4) := Eq.trans (show gI σ21 o 4 = gI σ17 o 4 from by rw [eσ21]; exact up2_n _ _ (fun q => absurd q.1 (kO.ne (ko.up (xτ2.trans (xσ16.trans xσ17))) mb (by decide)))) kp42
              have kp56 : gI σ21 th 3 = gI σ17 th 3 := by rw [eσ21]; exact up2_n _ _ (fun q => absurd q.1 (kO.ne (kth.up (xτ2.trans (xσ16.trans xσ17))) mb (by decide)))
              have kp57 : gP σ21 o 2 = gP σ17 o 2 := by rw [eσ21]
              have kp58 : gP σ21 th 0 = gP σ17 th 0 := by rw [eσ21]
              have kp59 : gP σ21 th 7 = gP σ17 th 7 := by rw [eσ21]
              have kp60 : gP σ21 th 8 = gP σ17 th 8 := by rw [eσ21]
              have kp61 : gI σ21 th 2 = gI σ17 th 2 := by rw [eσ21]; exact up2_n _ _ (fun q => absurd q.1 (kO.ne (kth.up (xτ2.trans (xσ16.trans xσ17))) mb (by decide)))
              have kp62 : gI σ21 th 5 = gI σ17 th 5 := by rw [eσ21]; exact up2_n _ _ (fun q => absurd q.1 (kO.ne (kth.up (xτ2.trans (xσ16.trans xσ17))) mb (by decide)))
              have kp63 : Kpt (gI σ21 J 7 = gI τ2 J 7) := Eq.trans (show gI σ21 J 7 = gI σ17 J 7 from by rw [eσ21]; exact up2_n _ _ (fun q => absurd q.1 (kO.ne (kJ.up (xτ2.trans (xσ16.trans xσ17))) mb (by decide)))) kp38
              have kp64 : Kpt (gI σ21 J 1 = gI σ J 1) := Eq.trans (show gI σ21 J 1 = gI σ17 J 1 from by rw [eσ21]; exact up2_n _ _ (fun q => absurd q.1 (kO.ne (kJ.up (xτ2.trans (xσ16.trans xσ17))) mb (by decide)))) kp39
              have kp65 : Kpt (gI σ21 J 2 = gI σ J 2) := Eq.trans (show gI σ21 J 2 = gI σ17 J 2 from by rw [eσ21]; exact up2_n _ _ (fun q => absurd q.1 (kO.ne (kJ.up (xτ2.trans (xσ16.trans xσ17))) mb (by decide)))) kp40
              have kp66 : Kpt (gI σ21 o 3 = gI σ16 o 3) := Eq.trans (show gI σ21 o 3 = gI σ17 o 3 from by rw [eσ21]; exact up2_n _ _ (fun q => absurd q.1 (kO.ne (ko.up (xτ2.trans (xσ16.trans xσ17))) mb (by decide)))) kp41
              have kp67 : Kpt (gI σ21 o 6 = gI σ o 6) := Eq.trans (show gI σ21 o 6 = gI σ17 o 6 from by rw [eσ21]; exact up2_n _ _ (fun q => absurd q.1 (kO.ne (ko.up (xτ2.trans (xσ16.trans xσ17))) mb (by decide)))) kp43
              have kp68 : Kpt (gI σ21 o 7 = gI σ o 7) := Eq.trans (show gI σ21 o 7 = gI σ17 o 7 from by rw [eσ21]; exact up2_n _ _ (fun q => absurd q.1 (kO.ne (ko.up (xτ2.trans (xσ16.trans xσ17))) mb (by decide)))) kp44
              have kp69 : Kpt (gI σ21 o 8 = gI σ o 8) := Eq.trans (show gI σ21 o 8 = gI σ17 o 8 from by rw [eσ21]; exact up2_n _ _ (fun q => absurd q.1 (kO.ne (ko.up (xτ2.trans (xσ16.trans xσ17))) mb (by decide)))) kp45
              have kp70 : Kpt (gI σ21 o 9 = gI σ o 9) := Eq.trans (show gI σ21 o 9 = gI σ17 o 9 from by rw [eσ21]; exact up2_n _ _ (fun q => absurd q.1 (kO.ne (ko.up (xτ2.trans (xσ16.trans xσ17))) mb (by decide)))) kp46
              refine i_X6_next iσ21 (kth.up (xτ2.trans (xσ16.trans (xσ17.trans xσ21)))) (kp58.trans (kp35.trans (kp24.trans (kp9.trans hX0)))) (kX.up (xτ2.trans (xσ16.trans (xσ17.trans xσ21)))) (((xτ2.trans (xσ16.trans (xσ17.trans xσ21))) tx kX.1).2.2.trans gX) (by (first | omega | with_reducible assumption | with_reducible exact rng_toInt _ | with_reducible exact rng_wr _ | (unfold rng; omega) | (unfold rng at *; omega) | assumption)) (by (first | omega | with_reducible assumption | with_reducible exact rng_toInt _ | with_reducible exact rng_wr _ | (unfold rng; omega) | (unfold rng at *; omega) | assumption)) (fun σ22 _ iσ22 cσ22 pσ22 => ?_) (fun σx LLx Nx nux E ix cx ux px => hX σx LLx Nx nux E ix (fσ21.tr (cx.mo (by decide))) (nu_τ2.x ux) (by first | exact px | exact ⟨by have := px.1; omega, px.2⟩ | (first | omega | with_reducible assumption | with_reducible exact rng_toInt _ | with_reducible exact rng_wr _ | (unfold rng; omega) | (unfold rng at *; omega) | assumption)))
              intro xσ22
              have fσ22 : Fx [261, 262, 263, 323, 324, 386, 387, 388, 389, 390, 6464, 8320] gr σ σ22 := fσ21.tr (cσ22.mo (by decide))
              have oxcσ22 : OX o σ σ22 := oxcσ21.tr (OX.fx cσ22 (by decide) (by decide)) (xτ2.trans (xσ16.trans (xσ17.trans xσ21)))
              have kp71 : gP σ22 o 2 = gP σ21 o 2 := (cσ22.O (ko.up (xτ2.trans (xσ16.trans (xσ17.trans xσ21)))) (by decide)).2.1
              have kp72 : gP σ22 th 0 = gP σ21 th 0 := (cσ22.O (kth.up (xτ2.trans (xσ16.trans (xσ17.trans xσ21)))) (by decide)).2.1
              have kp73 : gP σ22 th 7 = gP σ21 th 7 := (cσ22.O (kth.up (xτ2.trans (xσ16.trans (xσ17.trans xσ21)))) (by decide)).2.1
              have kp74 : gP σ22 th 8 = gP σ21 th 8 := (cσ22.O (kth.up (xτ2.trans (xσ16.trans (xσ17.trans xσ21)))) (by decide)).2.1
              have kp75 : Kpt (gI σ22 J 7 = gI τ2 J 7) := Eq.trans (show gI σ22 J 7 = gI σ21 J 7 from (cσ22.O (kJ.up (xτ2.trans (xσ16.trans (xσ17.trans xσ21)))) (by decide)).1) kp63
              have kp76 : Kpt (gI σ22 J 1 = gI σ J 1) := Eq.trans (show gI σ22 J 1 = gI σ21 J 1 from (cσ22.O (kJ.up (xτ2.trans (xσ16.trans (xσ17.trans xσ21)))) (by decide)).1) kp64
              have kp77 : Kpt (gI σ22 J 2 = gI σ J 2) := Eq.trans (show gI σ22 J 2 = gI σ21 J 2 from (cσ22.O (kJ.up (xτ2.trans (xσ16.trans (xσ17.trans xσ21)))) (by decide)).1) kp65
              have kp78 : Kpt (gI σ22 o 3 = gI σ16 o 3) := Eq.trans (show gI σ22 o 3 = gI σ21 o 3 from (cσ22.O (ko.up (xτ2.trans (xσ16.trans (xσ17.trans xσ21)))) (by decide)).1) kp66
              have kp79 : Kpt (gI σ22 o 4 = gI τ2 o 4) := Eq.trans (show gI σ22 o 4 = gI σ21 o 4 from (cσ22.O (ko.up (xτ2.trans (xσ16.trans (xσ17.trans xσ21)))) (by decide)).1) kp55
              have kp80 : Kpt (gI σ22 o 6 = gI σ o 6) := Eq.trans (show gI σ22 o 6 = gI σ21 o 6 from (cσ22.O (ko.up (xτ2.trans (xσ16.trans (xσ17.trans xσ21)))) (by decide)).1) kp67
              have kp81 : Kpt (gI σ22 o 7 = gI σ o 7) := Eq.trans (show gI σ22 o 7 = gI σ21 o 7 from (cσ22.O (ko.up (xτ2.trans (xσ16.trans (xσ17.trans xσ21)))) (by decide)).1) kp68
              have kp82 : Kpt (gI σ22 o 8 = gI σ o 8) := Eq.trans (show gI σ22 o 8 = gI σ21 o 8 from (cσ22.O (ko.up (xτ2.trans (xσ16.trans (xσ17.trans xσ21)))) (by decide)).1) kp69
              have kp83 : Kpt (gI σ22 o 9 = gI σ o 9) := Eq.trans (show gI σ22 o 9 = gI σ21 o 9 from (cσ22.O (ko.up (xτ2.trans (xσ16.trans (xσ17.trans xσ21)))) (by decide)).1) kp70
              have r5σ22 := I_6_5 iσ22.1 (kth.up (xτ2.trans (xσ16.trans (xσ17.trans (xσ21.trans xσ22)))))
              have ho84 : gI σ22 J 7 = gI τ2 J 7 := kp75
              have cp85 : (gI σ22 th 5 ≤ gI σ22 th 2 ∧ (gI σ22 th 3 ≠ 0 → gI σ22 th 5 + 1 ≤ gI σ22 th 2)) ∧ gI σ22 J 7 ≤ 2 * gI σ22 th 5 ∧ 0 ≤ gI σ22 th 5 := by omega
              clear pσ22 kp62 kp61 kp56 cp48
              have ho86 : gI σ22 o 4 = gI τ2 o 4 := kp79
              refine i_X6_newValue iσ22 (kth.up (xτ2.trans (xσ16.trans (xσ17.trans (xσ21.trans xσ22))))) (kp73.trans (kp59.trans (kp36.trans (kp25.trans (kp10.trans h7))))) (kJ.up (xτ2.trans (xσ16.trans (xσ17.trans (xσ21.trans xσ22))))) (kp74.trans (kp60.trans (kp37.trans (kp26.trans (kp11.trans h8))))) (ko.up (xτ2.trans (xσ16.trans (xσ17.trans (xσ21.trans xσ22))))) (by (first | omega | with_reducible assumption | with_reducible exact rng_toInt _ | with_reducible exact rng_wr _ | (unfold rng; omega) | (unfold rng at *; omega) | assumption)) (by (first | omega | with_reducible assumption | with_reducible exact rng_toInt _ | with_reducible exact rng_wr _ | (unfold rng; omega) | (unfold rng at *; omega) | assumption)) (by (first | omega | with_reducible assumption | with_reducible exact rng_toInt _ | with_reducible exact rng_wr _ | (unfold rng; omega) | (unfold rng at *; omega) | assumption)) (by (first | omega | with_reducible assumption | with_reducible exact rng_toInt _ | with_reducible exact rng_wr _ | (unfold rng; omega) | (unfold rng at *; omega) | assumption)) (fun σ23 _ iσ23 cσ23 oxσ23 pσ23 => ?_)
              intro xσ23
              have fσ23 : Fx [261, 262, 263, 323, 324, 386, 387, 388, 389, 390, 6464, 8320] gr σ σ23 := fσ22.tr (cσ23.mo (by decide))
              have oxcσ23 : OX o σ σ23 := oxcσ22.tr oxσ23 (xτ2.trans (xσ16.trans (xσ17.trans (xσ21.trans xσ22))))
              have kp87 : gP σ23 o 2 = gP σ22 o 2 := (cσ23.O (ko.up (xτ2.trans (xσ16.trans (xσ17.trans (xσ21.trans xσ22))))) (by decide)).2.1
              have kp88 : gP σ23 th 0 = gP σ22 th 0 := (cσ23.O (kth.up (xτ2.trans (xσ16.trans (xσ17.trans (xσ21.trans xσ22))))) (by decide)).2.1
              have kp89 : gP σ23 th 7 = gP σ22 th 7 := (cσ23.O (kth.up (xτ2.trans (xσ16.trans (xσ17.trans (xσ21.trans xσ22))))) (by decide)).2.1
              have kp90 : gP σ23 th 8 = gP σ22 th 8 := (cσ23.O (kth.up (xτ2.trans (xσ16.trans (xσ17.trans (xσ21.trans xσ22))))) (by decide)).2.1
              have kp91 : gI σ23 th 2 = gI σ22 th 2 := (cσ23.O (kth.up (xτ2.trans (xσ16.trans (xσ17.trans (xσ21.trans xσ22))))) (by decide)).1
              have kp92 : gI σ23 th 3 = gI σ22 th 3 := (cσ23.O (kth.up (xτ2.trans (xσ16.trans (xσ17.trans (xσ21.trans xσ22))))) (by decide)).1
              have kp93 : gI σ23 th 5 = gI σ22 th 5 := (cσ23.O (kth.up (xτ2.trans (xσ16.trans (xσ17.trans (xσ21.trans xσ22))))) (by decide)).1
              have kp94 : Kpt (gI σ23 J 7 = gI τ2 J 7) := Eq.trans (show gI σ23 J 7 = gI σ22 J 7 from (cσ23.O (kJ.up (xτ2.trans (xσ16.trans (xσ17.trans (xσ21.trans xσ22))))) (by decide)).1) kp75
              have kp95 : Kpt (gI σ23 J 1 = gI σ J 1) := Eq.trans (show gI σ23 J 1 = gI σ22 J 1 from (cσ23.O (kJ.up (xτ2.trans (xσ16.trans (xσ17.trans (xσ21.trans xσ22))))) (by decide)).1) kp76
              have kp96 : Kpt (gI σ23 J 2 = gI σ J 2) := Eq.trans (show gI σ23 J 2 = gI σ22 J 2 from (cσ23.O (kJ.up (xτ2.trans (xσ16.trans (xσ17.trans (xσ21.trans xσ22))))) (by decide)).1) kp77
              have kp97 : Kpt (gI σ23 o 3 = gI σ16 o 3) := Eq.trans (show gI σ23 o 3 = gI σ22 o 3 from (cσ23.O (ko.up (xτ2.trans (xσ16.trans (xσ17.trans (xσ21.trans xσ22))))) (by decide)).1) kp78
              have kp98 : Kpt (gI σ23 o 6 = gI σ o 6) := Eq.trans (show gI σ23 o 6 = gI σ22 o 6 from (cσ23.O (ko.up (xτ2.trans (xσ16.trans (xσ17.trans (xσ21.trans xσ22))))) (by decide)).1) kp80
              have kp99 : Kpt (gI σ23 o 7 = gI σ o 7) := Eq.trans (show gI σ23 o 7 = gI σ22 o 7 from (cσ23.O (ko.up (xτ2.trans (xσ16.trans (xσ17.trans (xσ21.trans xσ22))))) (by decide)).1) kp81
              have kp100 : Kpt (gI σ23 o 8 = gI σ o 8) := Eq.trans (show gI σ23 o 8 = gI σ22 o 8 from (cσ23.O (ko.up (xτ2.trans (xσ16.trans (xσ17.trans (xσ21.trans xσ22))))) (by decide)).1) kp82
              have kp101 : Kpt (gI σ23 o 9 = gI σ o 9) := Eq.trans (show gI σ23 o 9 = gI σ22 o 9 from (cσ23.O (ko.up (xτ2.trans (xσ16.trans (xσ17.trans (xσ21.trans xσ22))))) (by decide)).1) kp83
              by_cases hc102 : (wr ((wr (0 + (gJ σ17 th 4).toInt32.toInt)) - 18)) = 0
              · rw [if_pos hc102]
                unfold w_X6_aggregates_106
                refine i_X6_isSign iσ23 (kth.up (xτ2.trans (xσ16.trans (xσ17.trans (xσ21.trans (xσ22.trans xσ23)))))) (fun r29 pσ28 => ?_)
                intro xσ28
                by_cases hc103 : r29 ≠ 0
                · rw [if_pos hc103]
                  unfold w_X6_aggregates_116
                  refine i_X6_next iσ23 (kth.up (xτ2.trans (xσ16.trans (xσ17.trans (xσ21.trans (xσ22.trans xσ23)))))) (kp88.trans (kp72.trans (kp58.trans (kp35.trans (kp24.trans (kp9.trans hX0)))))) (kX.up (xτ2.trans (xσ16.trans (xσ17.trans (xσ21.trans (xσ22.trans xσ23)))))) (((xτ2.trans (xσ16.trans (xσ17.trans (xσ21.trans (xσ22.trans xσ23))))) tx kX.1).2.2.trans gX) (by (first | omega | with_reducible assumption | with_reducible exact rng_toInt _ | with_reducible exact rng_wr _ | (unfold rng; omega) | (unfold rng at *; omega) | assumption)) (by (first | omega | with_reducible assumption | with_reducible exact rng_toInt _ | with_reducible exact rng_wr _ | (unfold rng; omega) | (unfold rng at *; omega) | assumption)) (fun σ30 _ iσ30 cσ30 pσ30 => ?_) (fun σx LLx Nx nux E ix cx ux px => hX σx LLx Nx nux E ix (fσ23.tr (cx.mo (by decide))) (nu_τ2.x ux) (by first | exact px | exact ⟨by have := px.1; omega, px.2⟩ | (first | omega | with_reducible assumption | with_reducible exact rng_toInt _ | with_reducible exact rng_wr _ | (unfold rng; omega) | (unfold rng at *; omega) | assumption)))
                  intro xσ30
                  have fσ30 : Fx [261, 262, 263, 323, 324, 386, 387, 388, 389, 390, 6464, 8320] gr σ σ30 := fσ23.tr (cσ30.mo (by decide))
                  have oxcσ30 : OX o σ σ30 := oxcσ23.tr (OX.fx cσ30 (by decide) (by decide)) (xτ2.trans (xσ16.trans (xσ17.trans (xσ21.trans (xσ22.trans xσ23)))))
                  have kp104 : gP σ30 o 2 = gP σ23 o 2 := (cσ30.O (ko.up (xτ2.trans (xσ16.trans (xσ17.trans (xσ21.trans (xσ22.trans xσ23)))))) (by decide)).2.1
                  have kp105 : gP σ30 th 0 = gP σ23 th 0 := (cσ30.O (kth.up (xτ2.trans (xσ16.trans (xσ17.trans (xσ21.trans (xσ22.trans xσ23)))))) (by decide)).2.1
                  have kp106 : gP σ30 th 7 = gP σ23 th 7 := (cσ30.O (kth.up (xτ2.trans (xσ16.trans (xσ17.trans (xσ21.trans (xσ22.trans xσ23)))))) (by decide)).2.1
                  have kp107 : gP σ30 th 8 = gP σ23 th 8 := (cσ30.O (kth.up (xτ2.trans (xσ16.trans (xσ17.trans (xσ21.trans (xσ22.trans xσ23)))))) (by decide)).2.1
                  have kp108 : Kpt (gI σ30 J 7 = gI τ2 J 7) := Eq.trans (show gI σ30 J 7 = gI σ23 J 7 from (cσ30.O (kJ.up (xτ2.trans (xσ16.trans (xσ17.trans (xσ21.trans (xσ22.trans xσ23)))))) (by decide)).1) kp94
                  have kp109 : Kpt (gI σ30 J 1 = gI σ J 1) := Eq.trans (show gI σ30 J 1 = gI σ23 J 1 from (cσ30.O (kJ.up (xτ2.trans (xσ16.trans (xσ17.trans (xσ21.trans (xσ22.trans xσ23)))))) (by decide)).1) kp95
                  have kp110 : Kpt (gI σ30 J 2 = gI σ J 2) := Eq.trans (show gI σ30 J 2 = gI σ23 J 2 from (cσ30.O (kJ.up (xτ2.trans (xσ16.trans (xσ17.trans (xσ21.trans (xσ22.trans xσ23)))))) (by decide)).1) kp96
                  have kp111 : Kpt (gI σ30 o 3 = gI σ16 o 3) := Eq.trans (show gI σ30 o 3 = gI σ23 o 3 from (cσ30.O (ko.up (xτ2.trans (xσ16.trans (xσ17.trans (xσ21.trans (xσ22.trans xσ23)))))) (by decide)).1) kp97
                  have kp112 : Kpt (gI σ30 o 4 = gI σ23 o 4) := (show gI σ30 o 4 = gI σ23 o 4 from (cσ30.O (ko.up (xτ2.trans (xσ16.trans (xσ17.trans (xσ21.trans (xσ22.trans xσ23)))))) (by decide)).1)
                  have kp113 : Kpt (gI σ30 o 6 = gI σ o 6) := Eq.trans (show gI σ30 o 6 = gI σ23 o 6 from (cσ30.O (ko.up (xτ2.trans (xσ16.trans (xσ17.trans (xσ21.trans (xσ22.trans xσ23)))))) (by decide)).1) kp98
                  have kp114 : Kpt (gI σ30 o 7 = gI σ o 7) := Eq.trans (show gI σ30 o 7 = gI σ23 o 7 from (cσ30.O (ko.up (xτ2.trans (xσ16.trans (xσ17.trans (xσ21.trans (xσ22.trans xσ23)))))) (by decide)).1) kp99
                  have kp115 : Kpt (gI σ30 o 8 = gI σ o 8) := Eq.trans (show gI σ30 o 8 = gI σ23 o 8 from (cσ30.O (ko.up (xτ2.trans (xσ16.trans (xσ17.trans (xσ21.trans (xσ22.trans xσ23)))))) (by decide)).1) kp100
                  have kp116 : Kpt (gI σ30 o 9 = gI σ o 9) := Eq.trans (show gI σ30 o 9 = gI σ23 o 9 from (cσ30.O (ko.up (xτ2.trans (xσ16.trans (xσ17.trans (xσ21.trans (xσ22.trans xσ23)))))) (by decide)).1) kp101
                  have r5σ30 := I_6_5 iσ30.1 (kth.up (xτ2.trans (xσ16.trans (xσ17.trans (xσ21.trans (xσ22.trans (xσ23.trans xσ30)))))))
                  have ho117 : gI σ30 J 7 = gI τ2 J 7 := kp108
                  have cp118 : (gI σ30 th 5 ≤ gI σ30 th 2 ∧ (gI σ30 th 3 ≠ 0 → gI σ30 th 5 + 1 ≤ gI σ30 th 2)) ∧ gI σ30 J 7 ≤ 2 * gI σ30 th 5 ∧ 0 ≤ gI σ30 th 5 := by omega
                  clear pσ30 kp93 kp92 kp91 cp85
                  refine ⟨by (first | omega | with_reducible assumption | with_reducible exact rng_toInt _ | with_reducible exact rng_wr _ | (unfold rng; omega) | (unfold rng at *; omega) | assumption), ?_⟩
                  have ho119 : gI σ30 J 1 = gI σ J 1 := kp109
                  have ho120 : gI σ30 J 2 = gI σ J 2 := kp110
                  have ho121 : gI σ30 o 3 = gI σ16 o 3 := kp111
                  have ho122 : gI σ30 o 4 = gI σ23 o 4 := kp112
                  have ho123 : gI σ30 o 6 = gI σ o 6 := kp113
                  have ho124 : gI σ30 o 7 = gI σ o 7 := kp114
                  have ho125 : gI σ30 o 8 = gI σ o 8 := kp115
                  have ho126 : gI σ30 o 9 = gI σ o 9 := kp116
                  exact ih2 σ30 nut2 (v1 + 1) iσ30 fσ30 (xτ2.trans (xσ16.trans (xσ17.trans (xσ21.trans (xσ22.trans (xσ23.trans xσ30)))))) nu_τ2 oxcσ30 (by (first | omega | with_reducible assumption | with_reducible exact rng_toInt _ | with_reducible exact rng_wr _ | (unfold rng; omega) | (unfold rng at *; omega) | assumption)) (by (first | omega | with_reducible assumption | with_reducible exact rng_toInt _ | with_reducible exact rng_wr _ | (unfold rng; omega) | (unfold rng at *; omega) | assumption))
                · rw [if_neg hc103]
                  have hc103q := Classical.not_not.mp hc103
                  unfold w_X6_aggregates_115
                  have ho127 : gI σ23 J 7 = gI τ2 J 7 := kp94
                  have ho128 : gI σ23 J 1 = gI σ J 1 := kp95
                  have ho129 : gI σ23 J 2 = gI σ J 2 := kp96
                  have ho130 : gI σ23 o 3 = gI σ16 o 3 := kp97
                  have ho131 : gI σ23 o 6 = gI σ o 6 := kp98
                  have ho132 : gI σ23 o 7 = gI σ o 7 := kp99
                  have ho133 : gI σ23 o 8 = gI σ o 8 := kp100
                  have ho134 : gI σ23 o 9 = gI σ o 9 := kp101
                  exact hQ σ23 nut2 () iσ23 fσ23 (nu_τ2) oxcσ23 (by omega)
              · rw [if_neg hc102]
                unfold w_X6_aggregates_91
                have ho135 : gI σ23 J 7 = gI τ2 J 7 := kp94
                have ho136 : gI σ23 o 7 = gI σ o 7 := kp99
                refine i_X6_value iσ23 (kth.up (xτ2.trans (xσ16.trans (xσ17.trans (xσ21.trans (xσ22.trans xσ23)))))) (kp88.trans (kp72.trans (kp58.trans (kp35.trans (kp24.trans (kp9.trans hX0)))))) (kX.up (xτ2.trans (xσ16.trans (xσ17.trans (xσ21.trans (xσ22.trans xσ23)))))) (((xτ2.trans (xσ16.trans (xσ17.trans (xσ21.trans (xσ22.trans xσ23))))) tx kX.1).2.2.trans gX) (kp89.trans (kp73.trans (kp59.trans (kp36.trans (kp25.trans (kp10.trans h7)))))) (kJ.up (xτ2.trans (xσ16.trans (xσ17.trans (xσ21.trans (xσ22.trans xσ23)))))) (kp90.trans (kp74.trans (kp60.trans (kp37.trans (kp26.trans (kp11.trans h8)))))) (ko.up (xτ2.trans (xσ16.trans (xσ17.trans (xσ21.trans (xσ22.trans xσ23)))))) (by (first | omega | with_reducible assumption | with_reducible exact rng_toInt _ | with_reducible exact rng_wr _ | (unfold rng; omega) | (unfold rng at *; omega) | assumption)) (by (first | omega | with_reducible assumption | with_reducible exact rng_toInt _ | with_reducible exact rng_wr _ | (unfold rng; omega) | (unfold rng at *; omega) | assumption)) (by (first | omega | with_reducible assumption | with_reducible exact rng_toInt _ | with_reducible exact rng_wr _ | (unfold rng; omega) | (unfold rng at *; omega) | assumption)) (by (first | omega | with_reducible assumption | with_reducible exact rng_toInt _ | with_reducible exact rng_wr _ | (unfold rng; omega) | (unfold rng at *; omega) | assumption)) (by (first | omega | with_reducible assumption | with_reducible exact rng_toInt _ | with_reducible exact rng_wr _ | (unfold rng; omega) | (unfold rng at *; omega) | assumption)) (by (first | omega | with_reducible assumption | with_reducible exact rng_toInt _ | with_reducible exact rng_wr _ | (unfold rng; omega) | (unfold rng at *; omega) | assumption)) (by (first | omega | with_reducible assumption | with_reducible exact rng_toInt _ | with_reducible exact rng_wr _ | (unfold rng; omega) | (unfold rng at *; omega) | assumption)) (by (first | omega | with_reducible assumption | with_reducible exact rng_toInt _ | with_reducible exact rng_wr _ | (unfold rng; omega) | (unfold rng at *; omega) | assumption)) (by (first | omega | with_reducible assumption | with_reducible exact rng_toInt _ | with_reducible exact rng_wr _ | (unfold rng; omega) | (unfold rng at *; omega) | assumption)) (fun σ24 nuσ24 _ iσ24 cσ24 uσ24 pσ24 => ?_) (fun σx LLx Nx nux E ix cx ux px => hX σx LLx Nx nux E ix (fσ23.tr (cx.mo (by decide))) (nu_τ2.x ux) (by first | exact px | exact ⟨by have := px.1; omega, px.2⟩ | (first | omega | with_reducible assumption | with_reducible exact rng_toInt _ | with_reducible exact rng_wr _ | (unfold rng; omega) | (unfold rng at *; omega) | assumption)))
                intro xσ24
                have fσ24 : Fx [261, 262, 263, 323, 324, 386, 387, 388, 389, 390, 6464, 8320] gr σ σ24 := fσ23.tr (cσ24.mo (by decide))
                have oxcσ24 : OX o σ σ24 := oxcσ23.tr (OX.fx cσ24 (by decide) (by decide)) (xτ2.trans (xσ16.trans (xσ17.trans (xσ21.trans (xσ22.trans xσ23)))))
                have nu_σ24 : NC nu nuσ24 := nu_τ2.tr uσ24
                have uσ24_5 := uσ24 5 (by decide) (by decide)
                have kp137 : gP σ24 o 2 = gP σ23 o 2 := (cσ24.O (ko.up (xτ2.trans (xσ16.trans (xσ17.trans (xσ21.trans (xσ22.trans xσ23)))))) (by decide)).2.1
                have kp138 : gP σ24 th 0 = gP σ23 th 0 := (cσ24.O (kth.up (xτ2.trans (xσ16.trans (xσ17.trans (xσ21.trans (xσ22.trans xσ23)))))) (by decide)).2.1
                have kp139 : gP σ24 th 7 = gP σ23 th 7 := (cσ24.O (kth.up (xτ2.trans (xσ16.trans (xσ17.trans (xσ21.trans (xσ22.trans xσ23)))))) (by decide)).2.1
                have kp140 : gP σ24 th 8 = gP σ23 th 8 := (cσ24.O (kth.up (xτ2.trans (xσ16.trans (xσ17.trans (xσ21.trans (xσ22.trans xσ23)))))) (by decide)).2.1
                have kp141 : Kpt (gI σ24 J 1 = gI σ J 1) := Eq.trans (show gI σ24 J 1 = gI σ23 J 1 from (cσ24.O (kJ.up (xτ2.trans (xσ16.trans (xσ17.trans (xσ21.trans (xσ22.trans xσ23)))))) (by decide)).1) kp95
                have kp142 : Kpt (gI σ24 J 2 = gI σ J 2) := Eq.trans (show gI σ24 J 2 = gI σ23 J 2 from (cσ24.O (kJ.up (xτ2.trans (xσ16.trans (xσ17.trans (xσ21.trans (xσ22.trans xσ23)))))) (by decide)).1) kp96
                have kp143 : Kpt (gI σ24 o 3 = gI σ16 o 3) := Eq.trans (show gI σ24 o 3 = gI σ23 o 3 from (cσ24.O (ko.up (xτ2.trans (xσ16.trans (xσ17.trans (xσ21.trans (xσ22.trans xσ23)))))) (by decide)).1) kp97
                have kp144 : Kpt (gI σ24 o 4 = gI σ23 o 4) := (show gI σ24 o 4 = gI σ23 o 4 from (cσ24.O (ko.up (xτ2.trans (xσ16.trans (xσ17.trans (xσ21.trans (xσ22.trans xσ23)))))) (by decide)).1)
                have kp145 : Kpt (gI σ24 o 6 = gI σ o 6) := Eq.trans (show gI σ24 o 6 = gI σ23 o 6 from (cσ24.O (ko.up (xτ2.trans (xσ16.trans (xσ17.trans (xσ21.trans (xσ22.trans xσ23)))))) (by decide)).1) kp98
                have kp146 : Kpt (gI σ24 o 7 = gI σ o 7) := Eq.trans (show gI σ24 o 7 = gI σ23 o 7 from (cσ24.O (ko.up (xτ2.trans (xσ16.trans (xσ17.trans (xσ21.trans (xσ22.trans xσ23)))))) (by decide)).1) kp99
                have kp147 : Kpt (gI σ24 o 8 = gI σ o 8) := Eq.trans (show gI σ24 o 8 = gI σ23 o 8 from (cσ24.O (ko.up (xτ2.trans (xσ16.trans (xσ17.trans (xσ21.trans (xσ22.trans xσ23)))))) (by decide)).1) kp100
                have kp148 : Kpt (gI σ24 o 9 = gI σ o 9) := Eq.trans (show gI σ24 o 9 = gI σ23 o 9 from (cσ24.O (ko.up (xτ2.trans (xσ16.trans (xσ17.trans (xσ21.trans (xσ22.trans xσ23)))))) (by decide)).1) kp101
                have r5σ24 := I_6_5 iσ24.1 (kth.up (xτ2.trans (xσ16.trans (xσ17.trans (xσ21.trans (xσ22.trans (xσ23.trans xσ24)))))))
                refine ⟨J, (kp139.trans (kp89.trans (kp73.trans (kp59.trans (kp36.trans (kp25.trans (kp10.trans h7))))))), fun kk_J => ?_⟩
                refine i_X4_emit iσ24 (kJ.up (xτ2.trans (xσ16.trans (xσ17.trans (xσ21.trans (xσ22.trans (xσ23.trans xσ24))))))) (by (first | omega | with_reducible assumption | with_reducible exact rng_toInt _ | with_reducible exact rng_wr _ | (unfold rng; omega) | (unfold rng at *; omega) | assumption)) (by (first | omega | with_reducible assumption | with_reducible exact rng_toInt _ | with_reducible exact rng_wr _ | (unfold rng; omega) | (unfold rng at *; omega) | assumption)) (by (first | omega | with_reducible assumption | with_reducible exact rng_toInt _ | with_reducible exact rng_wr _ | (unfold rng; omega) | (unfold rng at *; omega) | assumption)) (by (first | omega | with_reducible assumption | with_reducible exact rng_toInt _ | with_reducible exact rng_wr _ | (unfold rng; omega) | (unfold rng at *; omega) | assumption)) (fun σ25 nuσ25 r26 iσ25 cσ25 uσ25 pσ25 => ?_)
                intro xσ25
                have fσ25 : Fx [261, 262, 263, 323, 324, 386, 387, 388, 389, 390, 6464, 8320] gr σ σ25 := fσ24.tr (cσ25.mo (by decide))
                have oxcσ25 : OX o σ σ25 := oxcσ24.tr (OX.fx cσ25 (by decide) (by decide)) (xτ2.trans (xσ16.trans (xσ17.trans (xσ21.trans (xσ22.trans (xσ23.trans xσ24))))))
                have nu_σ25 : NC nu nuσ25 := nu_σ24.tr uσ25
                have uσ25_5 := uσ25 5 (by decide) (by decide)
                have kp149 : gP σ25 o 2 = gP σ24 o 2 := (cσ25.O (ko.up (xτ2.trans (xσ16.trans (xσ17.trans (xσ21.trans (xσ22.trans (xσ23.trans xσ24))))))) (by decide)).2.1
                have kp150 : gP σ25 th 0 = gP σ24 th 0 := (cσ25.O (kth.up (xτ2.trans (xσ16.trans (xσ17.trans (xσ21.trans (xσ22.trans (xσ23.trans xσ24))))))) (by decide)).2.1
                have kp151 : gP σ25 th 7 = gP σ24 th 7 := (cσ25.O (kth.up (xτ2.trans (xσ16.trans (xσ17.trans (xσ21.trans (xσ22.trans (xσ23.trans xσ24))))))) (by decide)).2.1
                have kp152 : gP σ25 th 8 = gP σ24 th 8 := (cσ25.O (kth.up (xτ2.trans (xσ16.trans (xσ17.trans (xσ21.trans (xσ22.trans (xσ23.trans xσ24))))))) (by decide)).2.1
                have kp153 : gI σ25 th 2 = gI σ24 th 2 := (cσ25.O (kth.up (xτ2.trans (xσ16.trans (xσ17.trans (xσ21.trans (xσ22.trans (xσ23.trans xσ24))))))) (by decide)).1
                have kp154 : gI σ25 th 3 = gI σ24 th 3 := (cσ25.O (kth.up (xτ2.trans (xσ16.trans (xσ17.trans (xσ21.trans (xσ22.trans (xσ23.trans xσ24))))))) (by decide)).1
                have kp155 : gI σ25 th 5 = gI σ24 th 5 := (cσ25.O (kth.up (xτ2.trans (xσ16.trans (xσ17.trans (xσ21.trans (xσ22.trans (xσ23.trans xσ24))))))) (by decide)).1
                have kp156 : Kpt (gI σ25 J 1 = gI σ J 1) := Eq.trans (show gI σ25 J 1 = gI σ24 J 1 from (cσ25.O (kJ.up (xτ2.trans (xσ16.trans (xσ17.trans (xσ21.trans (xσ22.trans (xσ23.trans xσ24))))))) (by decide)).1) kp141
                have kp157 : Kpt (gI σ25 J 2 = gI σ J 2) := Eq.trans (show gI σ25 J 2 = gI σ24 J 2 from (cσ25.O (kJ.up (xτ2.trans (xσ16.trans (xσ17.trans (xσ21.trans (xσ22.trans (xσ23.trans xσ24))))))) (by decide)).1) kp142
                have kp158 : Kpt (gI σ25 o 3 = gI σ16 o 3) := Eq.trans (show gI σ25 o 3 = gI σ24 o 3 from (cσ25.O (ko.up (xτ2.trans (xσ16.trans (xσ17.trans (xσ21.trans (xσ22.trans (xσ23.trans xσ24))))))) (by decide)).1) kp143
                have kp159 : Kpt (gI σ25 o 4 = gI σ23 o 4) := Eq.trans (show gI σ25 o 4 = gI σ24 o 4 from (cσ25.O (ko.up (xτ2.trans (xσ16.trans (xσ17.trans (xσ21.trans (xσ22.trans (xσ23.trans xσ24))))))) (by decide)).1) kp144
                have kp160 : Kpt (gI σ25 o 6 = gI σ o 6) := Eq.trans (show gI σ25 o 6 = gI σ24 o 6 from (cσ25.O (ko.up (xτ2.trans (xσ16.trans (xσ17.trans (xσ21.trans (xσ22.trans (xσ23.trans xσ24))))))) (by decide)).1) kp145
                have kp161 : Kpt (gI σ25 o 7 = gI σ o 7) := Eq.trans (show gI σ25 o 7 = gI σ24 o 7 from (cσ25.O (ko.up (xτ2.trans (xσ16.trans (xσ17.trans (xσ21.trans (xσ22.trans (xσ23.trans xσ24))))))) (by decide)).1) kp146
                have kp162 : Kpt (gI σ25 o 8 = gI σ o 8) := Eq.trans (show gI σ25 o 8 = gI σ24 o 8 from (cσ25.O (ko.up (xτ2.trans (xσ16.trans (xσ17.trans (xσ21.trans (xσ22.trans (xσ23.trans xσ24))))))) (by decide)).1) kp147
                have kp163 : Kpt (gI σ25 o 9 = gI σ o 9) := Eq.trans (show gI σ25 o 9 = gI σ24 o 9 from (cσ25.O (ko.up (xτ2.trans (xσ16.trans (xσ17.trans (xσ21.trans (xσ22.trans (xσ23.trans xσ24))))))) (by decide)).1) kp148
                unfold w_X6_aggregates_106
                refine i_X6_isSign iσ25 (kth.up (xτ2.trans (xσ16.trans (xσ17.trans (xσ21.trans (xσ22.trans (xσ23.trans (xσ24.trans xσ25)))))))) (fun r29_1 pσ28_1 => ?_)
                intro xσ28_1
                by_cases hc164 : r29_1 ≠ 0
                · rw [if_pos hc164]
                  unfold w_X6_aggregates_116
                  refine i_X6_next iσ25 (kth.up (xτ2.trans (xσ16.trans (xσ17.trans (xσ21.trans (xσ22.trans (xσ23.trans (xσ24.trans xσ25)))))))) (kp150.trans (kp138.trans (kp88.trans (kp72.trans (kp58.trans (kp35.trans (kp24.trans (kp9.trans hX0)))))))) (kX.up (xτ2.trans (xσ16.trans (xσ17.trans (xσ21.trans (xσ22.trans (xσ23.trans (xσ24.trans xσ25)))))))) (((xτ2.trans (xσ16.trans (xσ17.trans (xσ21.trans (xσ22.trans (xσ23.trans (xσ24.trans xσ25))))))) tx kX.1).2.2.trans gX) (by (first | omega | with_reducible assumption | with_reducible exact rng_toInt _ | with_reducible exact rng_wr _ | (unfold rng; omega) | (unfold rng at *; omega) | assumption)) (by (first | omega | with_reducible assumption | with_reducible exact rng_toInt _ | with_reducible exact rng_wr _ | (unfold rng; omega) | (unfold rng at *; omega) | assumption)) (fun σ30_1 _ iσ30_1 cσ30_1 pσ30_1 => ?_) (fun σx LLx Nx nux E ix cx ux px => hX σx LLx Nx nux E ix (fσ25.tr (cx.mo (by decide))) (nu_σ25.x ux) (by first | exact px | exact ⟨by have := px.1; omega, px.2⟩ | (first | omega | with_reducible assumption | with_reducible exact rng_toInt _ | with_reducible exact rng_wr _ | (unfold rng; omega) | (unfold rng at *; omega) | assumption)))
                  intro xσ30_1
                  have fσ30_1 : Fx [261, 262, 263, 323, 324, 386, 387, 388, 389, 390, 6464, 8320] gr σ σ30_1 := fσ25.tr (cσ30_1.mo (by decide))
                  have oxcσ30_1 : OX o σ σ30_1 := oxcσ25.tr (OX.fx cσ30_1 (by decide) (by decide)) (xτ2.trans (xσ16.trans (xσ17.trans (xσ21.trans (xσ22.trans (xσ23.trans (xσ24.trans xσ25)))))))
                  have kp165 : gP σ30_1 o 2 = gP σ25 o 2 := (cσ30_1.O (ko.up (xτ2.trans (xσ16.trans (xσ17.trans (xσ21.trans (xσ22.trans (xσ23.trans (xσ24.trans xσ25)))))))) (by decide)).2.1
                  have kp166 : gP σ30_1 th 0 = gP σ25 th 0 := (cσ30_1.O (kth.up (xτ2.trans (xσ16.trans (xσ17.trans (xσ21.trans (xσ22.trans (xσ23.trans (xσ24.trans xσ25)))))))) (by decide)).2.1
                  have kp167 : gP σ30_1 th 7 = gP σ25 th 7 := (cσ30_1.O (kth.up (xτ2.trans (xσ16.trans (xσ17.trans (xσ21.trans (xσ22.trans (xσ23.trans (xσ24.trans xσ25)))))))) (by decide)).2.1
                  have kp168 : gP σ30_1 th 8 = gP σ25 th 8 := (cσ30_1.O (kth.up (xτ2.trans (xσ16.trans (xσ17.trans (xσ21.trans (xσ22.trans (xσ23.trans (xσ24.trans xσ25)))))))) (by decide)).2.1
                  have kp169 : Kpt (gI σ30_1 J 7 = gI σ25 J 7) := (show gI σ30_1 J 7 = gI σ25 J 7 from (cσ30_1.O (kJ.up (xτ2.trans (xσ16.trans (xσ17.trans (xσ21.trans (xσ22.trans (xσ23.trans (xσ24.trans xσ25)))))))) (by decide)).1)
                  have kp170 : Kpt (gI σ30_1 J 1 = gI σ J 1) := Eq.trans (show gI σ30_1 J 1 = gI σ25 J 1 from (cσ30_1.O (kJ.up (xτ2.trans (xσ16.trans (xσ17.trans (xσ21.trans (xσ22.trans (xσ23.trans (xσ24.trans xσ25)))))))) (by decide)).1) kp156
                  have kp171 : Kpt (gI σ30_1 J 2 = gI σ J 2) := Eq.trans (show gI σ30_1 J 2 = gI σ25 J 2 from (cσ30_1.O (kJ.up (xτ2.trans (xσ16.trans (xσ17.trans (xσ21.trans (xσ22.trans (xσ23.trans (xσ24.trans xσ25)))))))) (by decide)).1) kp157
                  have kp172 : Kpt (gI σ30_1 o 3 = gI σ16 o 3) := Eq.trans (show gI σ30_1 o 3 = gI σ25 o 3 from (cσ30_1.O (ko.up (xτ2.trans (xσ16.trans (xσ17.trans (xσ21.trans (xσ22.trans (xσ23.trans (xσ24.trans xσ25)))))))) (by decide)).1) kp158
                  have kp173 : Kpt (gI σ30_1 o 4 = gI σ23 o 4) := Eq.trans (show gI σ30_1 o 4 = gI σ25 o 4 from (cσ30_1.O (ko.up (xτ2.trans (xσ16.trans (xσ17.trans (xσ21.trans (xσ22.trans (xσ23.trans (xσ24.trans xσ25)))))))) (by decide)).1) kp159
                  have kp174 : Kpt (gI σ30_1 o 6 = gI σ o 6) := Eq.trans (show gI σ30_1 o 6 = gI σ25 o 6 from (cσ30_1.O (ko.up (xτ2.trans (xσ16.trans (xσ17.trans (xσ21.trans (xσ22.trans (xσ23.trans (xσ24.trans xσ25)))))))) (by decide)).1) kp160
                  have kp175 : Kpt (gI σ30_1 o 7 = gI σ o 7) := Eq.trans (show gI σ30_1 o 7 = gI σ25 o 7 from (cσ30_1.O (ko.up (xτ2.trans (xσ16.trans (xσ17.trans (xσ21.trans (xσ22.trans (xσ23.trans (xσ24.trans xσ25)))))))) (by decide)).1) kp161
                  have kp176 : Kpt (gI σ30_1 o 8 = gI σ o 8) := Eq.trans (show gI σ30_1 o 8 = gI σ25 o 8 from (cσ30_1.O (ko.up (xτ2.trans (xσ16.trans (xσ17.trans (xσ21.trans (xσ22.trans (xσ23.trans (xσ24.trans xσ25)))))))) (by decide)).1) kp162
                  have kp177 : Kpt (gI σ30_1 o 9 = gI σ o 9) := Eq.trans (show gI σ30_1 o 9 = gI σ25 o 9 from (cσ30_1.O (ko.up (xτ2.trans (xσ16.trans (xσ17.trans (xσ21.trans (xσ22.trans (xσ23.trans (xσ24.trans xσ25)))))))) (by decide)).1) kp163
                  have r5σ30_1 := I_6_5 iσ30_1.1 (kth.up (xτ2.trans (xσ16.trans (xσ17.trans (xσ21.trans (xσ22.trans (xσ23.trans (xσ24.trans (xσ25.trans xσ30_1)))))))))
                  have ho178 : gI σ30_1 J 7 = gI σ25 J 7 := kp169
                  have cp179 : (gI σ30_1 th 5 ≤ gI σ30_1 th 2 ∧ (gI σ30_1 th 3 ≠ 0 → gI σ30_1 th 5 + 1 ≤ gI σ30_1 th 2)) ∧ gI σ30_1 J 7 ≤ 2 * gI σ30_1 th 5 ∧ 0 ≤ gI σ30_1 th 5 := by omega
                  clear pσ30_1 kp155 kp154 kp153 kp93 kp92 kp91 cp85
                  refine ⟨by (first | omega | with_reducible assumption | with_reducible exact rng_toInt _ | with_reducible exact rng_wr _ | (unfold rng; omega) | (unfold rng at *; omega) | assumption), ?_⟩
                  have ho180 : gI σ30_1 J 1 = gI σ J 1 := kp170
                  have ho181 : gI σ30_1 J 2 = gI σ J 2 := kp171
                  have ho182 : gI σ30_1 o 3 = gI σ16 o 3 := kp172
                  have ho183 : gI σ30_1 o 4 = gI σ23 o 4 := kp173
                  have ho184 : gI σ30_1 o 6 = gI σ o 6 := kp174
                  have ho185 : gI σ30_1 o 7 = gI σ o 7 := kp175
                  have ho186 : gI σ30_1 o 8 = gI σ o 8 := kp176
                  have ho187 : gI σ30_1 o 9 = gI σ o 9 := kp177
                  exact ih2 σ30_1 nuσ25 (v1 + 1) iσ30_1 fσ30_1 (xτ2.trans (xσ16.trans (xσ17.trans (xσ21.trans (xσ22.trans (xσ23.trans (xσ24.trans (xσ25.trans xσ30_1)))))))) nu_σ25 oxcσ30_1 (by (first | omega | with_reducible assumption | with_reducible exact rng_toInt _ | with_reducible exact rng_wr _ | (unfold rng; omega) | (unfold rng at *; omega) | assumption)) (by (first | omega | with_reducible assumption | with_reducible exact rng_toInt _ | with_reducible exact rng_wr _ | (unfold rng; omega) | (unfold rng at *; omega) | assumption))
                · rw [if_neg hc164]
                  have hc164q := Classical.not_not.mp hc164
                  unfold w_X6_aggregates_115
                  have ho188 : gI σ25 J 1 = gI σ J 1 := kp156
                  have ho189 : gI σ25 J 2 = gI σ J 2 := kp157
                  have ho190 : gI σ25 o 3 = gI σ16 o 3 := kp158
                  have ho191 : gI σ25 o 4 = gI σ23 o 4 := kp159
                  have ho192 : gI σ25 o 6 = gI σ o 6 := kp160
                  have ho193 : gI σ25 o 7 = gI σ o 7 := kp161
                  have ho194 : gI σ25 o 8 = gI σ o 8 := kp162
                  have ho195 : gI σ25 o 9 = gI σ o 9 := kp163
                  exact hQ σ25 nuσ25 () iσ25 fσ25 (nu_σ25) oxcσ25 (by omega)
            · rw [if_neg hc52]
              unfold w_X6_aggregates_48
              refine i_X6_cannotStand iσ17 (kth.up (xτ2.trans (xσ16.trans xσ17))) (by (first | omega | with_reducible assumption | with_reducible exact rng_toInt _ | with_reducible exact rng_wr _ | (unfold rng; omega) | (unfold rng at *; omega) | assumption)) (fun σ18_2 _ iσ18_2 cσ18_2 pσ18_2 => ?_) (fun σx LLx Nx nux E ix cx ux px => hX σx LLx Nx nux E ix (fσ17.tr (cx.mo (by decide))) (nu_τ2.x ux) (by first | exact px | exact ⟨by have := px.1; omega, px.2⟩ | (first | omega | with_reducible assumption | with_reducible exact rng_toInt _ | with_reducible exact rng_wr _ | (unfold rng; omega) | (unfold rng at *; omega) | assumption)))
              intro xσ18_2
              exact pσ18_2.elim
  exact ⟨_, Lp2 _ σ nu _ iσ fσ (Ext.rfl' _) NC.rf oxσ (by (first | omega | with_reducible assumption | with_reducible exact rng_toInt _ | with_reducible exact rng_wr _ | (unfold rng; omega) | (unfold rng at *; omega) | assumption)) (Nat.lt_succ_self _)⟩

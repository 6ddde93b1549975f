set_option maxHeartbeats 1000000 in
theorem i2_X6_isWord {σ : Sg} {pl : Nat} {gq ci gr nc : Nat → Nat} {ot : Nat → Nat → Int} {LL : Nat → List Nat} {N nu : Nat → Nat} {th : Nat} {v1 : Int} (iσ : IV σ pl gq ci gr nc ot LL N nu) (kth : kO σ th 6) {Q : Sg → Int → Prop} {X : Sg → String → Prop} (hQ : ∀ (r : Int), ((r = 0 ∨ r = 1) ∧ (r = 1 → gI σ th 3 = 2 ∧ gJ σ th 4 = Int64.ofInt v1) ∧ (r = 0 → gI σ th 3 = 2 → gJ σ th 4 ≠ Int64.ofInt v1)) → Q σ r) : wp_X6_isWord th v1 σ Q X := by
  unfold wp_X6_isWord
  unfold w_X6_isWord_0
  have q2 := iσ.rg th 3; unfold rng at q2
  by_cases hc1 : gI σ th 3 ≠ 2
  · rw [if_pos hc1]
    unfold w_X6_isWord_22
    unfold w_X6_isWord_23
    refine ⟨by (first | omega | with_reducible assumption | with_reducible exact rng_toInt _ | with_reducible exact rng_wr _ | (unfold rng; omega) | (unfold rng at *; omega) | assumption), ?_⟩
    exact hQ 0 (by refine ⟨by omega, fun e => ?_, fun e => ?_⟩ <;> first | exact absurd e (by decide) | (intro h3; first | assumption | exact absurd h3 (by assumption)) | exact ⟨by assumption, by assumption⟩)
  · rw [if_neg hc1]
    have hc1q := Classical.not_not.mp hc1
    unfold w_X6_isWord_8
    by_cases hc3 : gJ σ th 4 ≠ (Int64.ofInt v1)
    · rw [if_pos hc3]
      unfold w_X6_isWord_22
      unfold w_X6_isWord_23
      refine ⟨by (first | omega | with_reducible assumption | with_reducible exact rng_toInt _ | with_reducible exact rng_wr _ | (unfold rng; omega) | (unfold rng at *; omega) | assumption), ?_⟩
      exact hQ 0 (by refine ⟨by omega, fun e => ?_, fun e => ?_⟩ <;> first | exact absurd e (by decide) | (intro h3; first | assumption | exact absurd h3 (by assumption)) | exact ⟨by assumption, by assumption⟩)
    · rw [if_neg hc3]
      have hc3q := Classical.not_not.mp hc3
      unfold w_X6_isWord_18
      unfold w_X6_isWord_23
      refine ⟨by (first | omega | with_reducible assumption | with_reducible exact rng_toInt _ | with_reducible exact rng_wr _ | (unfold rng; omega) | (unfold rng at *; omega) | assumption), ?_⟩
      exact hQ 1 (by refine ⟨by omega, fun e => ?_, fun e => ?_⟩ <;> first | exact absurd e (by decide) | (intro h3; first | assumption | exact absurd h3 (by assumption)) | exact ⟨by assumption, by assumption⟩)
set_option maxHeartbeats 4000000 in
theorem i_X6_operatorText {σ : Sg} {pl : Nat} {gq ci gr nc : Nat → Nat} {ot : Nat → Nat → Int} {LL : Nat → List Nat} {N nu : Nat → Nat} {th : Nat} {v1 : Int} {tx J o q c : Nat} (iσ : IV σ pl gq ci gr nc ot LL N nu) (kth : kO σ th 6) (hX0 : gP σ th 0 = some tx) (kX : kO σ tx 102) (gX : gn σ tx = 1500) (h7 : gP σ th 7 = some J) (kJ : kO σ J 4) (h8 : gP σ th 8 = some o) (ko : kO σ o 5) (hJq : gq J = q) (hq : q ≠ nc 0 ∧ q ≤ 1) (go : gq o = 16 * q + c) (hc : c < 16) (cJ : gI σ J 1 = (c : Int)) (tf : gI σ th 5 ≤ gI σ th 2 ∧ (gI σ th 3 ≠ 0 → gI σ th 5 + 1 ≤ gI σ th 2)) (h5 : nu 5 < 24000) (lp : gI σ J 7 ≤ 2 * gI σ th 5) (f0 : gI σ o 3 = 0 ∧ gI σ o 4 = 0 ∧ gI σ o 7 = -1 ∧ gI σ o 8 = -1) (kv : KV σ th) (hv : (v1 = 0 ∨ v1 = 1) ∧ (v1 = 1 → gI σ J 2 ≤ 3)) {Q : Sg → Unit → Prop} {X : Sg → String → Prop} (hQ : ∀ (σ' : Sg) (nu' : Nat → Nat) (r : Unit), IV σ' pl gq ci gr nc ot LL N nu' → Fx [258, 261, 262, 263, 323, 324, 326, 327, 328, 329, 330, 331, 332, 333, 334, 335, 336, 386, 387, 388, 389, 390, 6464, 8320, 8384] gr σ σ' → NC nu nu' → OX o σ σ' → ((gI σ' th 5 ≤ gI σ' th 2 ∧ (gI σ' th 3 ≠ 0 → gI σ' th 5 + 1 ≤ gI σ' th 2)) ∧ gI σ' J 7 ≤ 2 * gI σ' th 5 ∧ OPR σ σ' gq q c o ∧ OUTR σ σ' J o c) → Q σ' r) (hX : ∀ (σ' : Sg) (LL' : Nat → List Nat) (N' nu' : Nat → Nat) (E : String), IV σ' pl gq ci gr nc ot LL' N' nu' → Fx [258, 261, 262, 263, 323, 324, 326, 327, 328, 329, 330, 331, 332, 333, 334, 335, 336, 386, 387, 388, 389, 390, 6464, 8320, 8384] gr σ σ' → NCX nu nu' → (LL' = LL ∧ N' = N ∧ E = "java/lang/IllegalArgumentException" ∧ gI σ' th 6 ≠ 0) → X σ' E) : wp_X6_operatorText th v1 σ Q X := by
  have fσ : Fx [258, 261, 262, 263, 323, 324, 326, 327, 328, 329, 330, 331, 332, 333, 334, 335, 336, 386, 387, 388, 389, 390, 6464, 8320, 8384] gr σ σ := Fx.rf
  have oxσ : OX o σ σ := OX.rf
  have q1 := I_4_1 iσ.1 kJ
  have q2 := I_6_5 iσ.1 kth
  have q3 := I_6_2 iσ.1 kth
  have q4 := iσ.rg th 3; unfold rng at q4
  have q5 := I_4_7 iσ.1 kJ
  have q6 := I_5_3 iσ.1 ko
  have q7 := I_5_4 iσ.1 ko
  have q8 := I_5_7 iσ.1 ko
  have q9 := I_5_8 iσ.1 ko
  have q10 := I_4_2 iσ.1 kJ
  have ncb := iσ.ncb
  have r70 := I_4_7 iσ.1 kJ
  have r71 := I_4_1 iσ.1 kJ
  unfold wp_X6_operatorText
  unfold w_X6_operatorText_0
  by_cases hc11 : gI σ th 3 ≠ 2
  · rw [if_pos hc11]
    unfold w_X6_operatorText_18
    refine i_X6_cannotStand iσ kth (by (first | omega | with_reducible assumption | with_reducible exact rng_toInt _ | with_reducible exact rng_wr _ | (unfold rng; omega) | (unfold rng at *; omega) | assumption)) (fun σ19 _ iσ19 cσ19 pσ19 => ?_) (fun σx LLx Nx nux E ix cx ux px => hX σx LLx Nx nux E ix (fσ.tr (cx.mo (by decide))) (ux) (by first | exact px | exact ⟨by have := px.1; omega, px.2⟩ | (first | omega | with_reducible assumption | with_reducible exact rng_toInt _ | with_reducible exact rng_wr _ | (unfold rng; omega) | (unfold rng at *; omega) | assumption)))
    intro xσ19
    exact pσ19.elim
  · rw [if_neg hc11]
    have hc11q := Classical.not_not.mp hc11
    unfold w_X6_operatorText_8
    refine i2_X6_isWord iσ kth (fun r18 pσ17 => ?_)
    intro xσ17
    by_cases hc12 : r18 = v1
    · rw [if_pos hc12]
      unfold w_X6_operatorText_22
      by_cases hc13 : (gJ σ th 4).toInt32.toInt = 0
      · rw [if_pos hc13]
        unfold w_X6_operatorText_112
        refine i_X6_sourceText iσ kth hX0 kX (((Ext.rfl' _) tx kX.1).2.2.trans gX) h7 kJ h8 ko (by (first | omega | with_reducible assumption | with_reducible exact rng_toInt _ | with_reducible exact rng_wr _ | (unfold rng; omega) | (unfold rng at *; omega) | assumption)) (by (first | omega | with_reducible assumption | with_reducible exact rng_toInt _ | with_reducible exact rng_wr _ | (unfold rng; omega) | (unfold rng at *; omega) | assumption)) (by (first | omega | with_reducible assumption | with_reducible exact rng_toInt _ | with_reducible exact rng_wr _ | (unfold rng; omega) | (unfold rng at *; omega) | assumption)) (by (first | omega | with_reducible assumption | with_reducible exact rng_toInt _ | with_reducible exact rng_wr _ | (unfold rng; omega) | (unfold rng at *; omega) | assumption)) (by (first | omega | with_reducible assumption | with_reducible exact rng_toInt _ | with_reducible exact rng_wr _ | (unfold rng; omega) | (unfold rng at *; omega) | assumption)) (by (first | omega | with_reducible assumption | with_reducible exact rng_toInt _ | with_reducible exact rng_wr _ | (unfold rng; omega) | (unfold rng at *; omega) | assumption)) (by (first | omega | with_reducible assumption | with_reducible exact rng_toInt _ | with_reducible exact rng_wr _ | (unfold rng; omega) | (unfold rng at *; omega) | assumption)) (by (first | omega | with_reducible assumption | with_reducible exact rng_toInt _ | with_reducible exact rng_wr _ | (unfold rng; omega) | (unfold rng at *; omega) | assumption)) (by (first | omega | with_reducible assumption | with_reducible exact rng_toInt _ | with_reducible exact rng_wr _ | (unfold rng; omega) | (unfold rng at *; omega) | assumption)) (fun σ32 _ iσ32 cσ32 oxσ32 pσ32 => ?_) (fun σx LLx Nx nux E ix cx ux px => hX σx LLx Nx nux E ix (fσ.tr (cx.mo (by decide))) (ux) (by first | exact px | exact ⟨by have := px.1; omega, px.2⟩ | (first | omega | with_reducible assumption | with_reducible exact rng_toInt _ | with_reducible exact rng_wr _ | (unfold rng; omega) | (unfold rng at *; omega) | assumption)))
        intro xσ32
        have fσ32 : Fx [258, 261, 262, 263, 323, 324, 326, 327, 328, 329, 330, 331, 332, 333, 334, 335, 336, 386, 387, 388, 389, 390, 6464, 8320, 8384] gr σ σ32 := fσ.tr (cσ32.mo (by decide))
        have oxcσ32 : OX o σ σ32 := oxσ.tr oxσ32 (Ext.rfl' _)
        have kp14 : Kpt (gI σ32 J 1 = gI σ J 1) := (show gI σ32 J 1 = gI σ J 1 from (cσ32.O kJ (by decide)).1)
        have kp15 : Kpt (gI σ32 J 2 = gI σ J 2) := (show gI σ32 J 2 = gI σ J 2 from (cσ32.O kJ (by decide)).1)
        have kp16 : Kpt (gI σ32 J 7 = gI σ J 7) := (show gI σ32 J 7 = gI σ J 7 from (cσ32.O kJ (by decide)).1)
        have kp17 : Kpt (gI σ32 o 4 = gI σ o 4) := (show gI σ32 o 4 = gI σ o 4 from (cσ32.O ko (by decide)).1)
        have kp18 : Kpt (gI σ32 o 7 = gI σ o 7) := (show gI σ32 o 7 = gI σ o 7 from (cσ32.O ko (by decide)).1)
        have kp19 : Kpt (gI σ32 o 8 = gI σ o 8) := (show gI σ32 o 8 = gI σ o 8 from (cσ32.O ko (by decide)).1)
        have kp20 : gP σ32 th 0 = gP σ th 0 := (cσ32.O kth (by decide)).2.1
        have kp21 : gP σ32 th 7 = gP σ th 7 := (cσ32.O kth (by decide)).2.1
        have kp22 : gP σ32 th 8 = gP σ th 8 := (cσ32.O kth (by decide)).2.1
        have tfx := pσ32.1
        have lpx := pσ32.2.1
        have opx := pσ32.2.2
        have oux : OUTR σ σ32 J o c := OUTR.fx cσ32 (by decide) iσ kJ
        unfold w_X6_operatorText_201
        have ho23 : gI σ32 J 1 = gI σ J 1 := kp14
        have ho24 : gI σ32 J 2 = gI σ J 2 := kp15
        have ho25 : gI σ32 J 7 = gI σ J 7 := kp16
        have ho26 : gI σ32 o 4 = gI σ o 4 := kp17
        have ho27 : gI σ32 o 7 = gI σ o 7 := kp18
        have ho28 : gI σ32 o 8 = gI σ o 8 := kp19
        exact hQ σ32 nu () iσ32 fσ32 (NC.rf) oxcσ32 (⟨tfx, lpx, opx, oux⟩)
      · rw [if_neg hc13]
        by_cases hc29 : (gJ σ th 4).toInt32.toInt = 2
        · rw [if_pos hc29]
          unfold w_X6_operatorText_119
          refine i_X6_filterText iσ kth hX0 kX (((Ext.rfl' _) tx kX.1).2.2.trans gX) h7 kJ h8 ko (by (first | omega | with_reducible assumption | with_reducible exact rng_toInt _ | with_reducible exact rng_wr _ | (unfold rng; omega) | (unfold rng at *; omega) | assumption)) (by (first | omega | with_reducible assumption | with_reducible exact rng_toInt _ | with_reducible exact rng_wr _ | (unfold rng; omega) | (unfold rng at *; omega) | assumption)) (by (first | omega | with_reducible assumption | with_reducible exact rng_toInt _ | with_reducible exact rng_wr _ | (unfold rng; omega) | (unfold rng at *; omega) | assumption)) (by (first | omega | with_reducible assumption | with_reducible exact rng_toInt _ | with_reducible exact rng_wr _ | (unfold rng; omega) | (unfold rng at *; omega) | assumption)) (by (first | omega | with_reducible assumption | with_reducible exact rng_toInt _ | with_reducible exact rng_wr _ | (unfold rng; omega) | (unfold rng at *; omega) | assumption)) (by (first | omega | with_reducible assumption | with_reducible exact rng_toInt _ | with_reducible exact rng_wr _ | (unfold rng; omega) | (unfold rng at *; omega) | assumption)) (by (first | omega | with_reducible assumption | with_reducible exact rng_toInt _ | with_reducible exact rng_wr _ | (unfold rng; omega) | (unfold rng at *; omega) | assumption)) (by (first | omega | with_reducible assumption | with_reducible exact rng_toInt _ | with_reducible exact rng_wr _ | (unfold rng; omega) | (unfold rng at *; omega) | assumption)) (by (first | omega | with_reducible assumption | with_reducible exact rng_toInt _ | with_reducible exact rng_wr _ | (unfold rng; omega) | (unfold rng at *; omega) | assumption)) (fun σ31 nuσ31 _ iσ31 cσ31 uσ31 oxσ31 pσ31 => ?_) (fun σx LLx Nx nux E ix cx ux px => hX σx LLx Nx nux E ix (fσ.tr (cx.mo (by decide))) (ux) (by first | exact px | exact ⟨by have := px.1; omega, px.2⟩ | (first | omega | with_reducible assumption | with_reducible exact rng_toInt _ | with_reducible exact rng_wr _ | (unfold rng; omega) | (unfold rng at *; omega) | assumption)))
          intro xσ31
          have fσ31 : Fx [258, 261, 262, 263, 323, 324, 326, 327, 328, 329, 330, 331, 332, 333, 334, 335, 336, 386, 387, 388, 389, 390, 6464, 8320, 8384] gr σ σ31 := fσ.tr (cσ31.mo (by decide))
          have oxcσ31 : OX o σ σ31 := oxσ.tr oxσ31 (Ext.rfl' _)
          have nu_σ31 : NC nu nuσ31 := uσ31
          have uσ31_5 := uσ31 5 (by decide) (by decide)
          have kp30 : Kpt (gI σ31 J 1 = gI σ J 1) := (show gI σ31 J 1 = gI σ J 1 from (cσ31.O kJ (by decide)).1)
          have kp31 : Kpt (gI σ31 J 2 = gI σ J 2) := (show gI σ31 J 2 = gI σ J 2 from (cσ31.O kJ (by decide)).1)
          have kp32 : Kpt (gI σ31 o 8 = gI σ o 8) := (show gI σ31 o 8 = gI σ o 8 from (cσ31.O ko (by decide)).1)
          have kp33 : gP σ31 th 0 = gP σ th 0 := (cσ31.O kth (by decide)).2.1
          have kp34 : gP σ31 th 7 = gP σ th 7 := (cσ31.O kth (by decide)).2.1
          have kp35 : gP σ31 th 8 = gP σ th 8 := (cσ31.O kth (by decide)).2.1
          have kp36 : Kpt (gI σ31 o 9 = gI σ o 9) := (show gI σ31 o 9 = gI σ o 9 from (cσ31.O ko (by decide)).1)
          have tfx := pσ31.1
          have lpx := pσ31.2.1
          have opx := pσ31.2.2
          have oux : OUTR σ σ31 J o c := OUTR.fx cσ31 (by decide) iσ kJ
          unfold w_X6_operatorText_201
          have ho37 : gI σ31 J 1 = gI σ J 1 := kp30
          have ho38 : gI σ31 J 2 = gI σ J 2 := kp31
          have ho39 : gI σ31 o 8 = gI σ o 8 := kp32
          have ho40 : gI σ31 o 9 = gI σ o 9 := kp36
          exact hQ σ31 nuσ31 () iσ31 fσ31 (nu_σ31) oxcσ31 (⟨tfx, lpx, opx, oux⟩)
        · rw [if_neg hc29]
          by_cases hc41 : (gJ σ th 4).toInt32.toInt = 3
          · rw [if_pos hc41]
            unfold w_X6_operatorText_126
            refine i_X6_mapText iσ kth hX0 kX (((Ext.rfl' _) tx kX.1).2.2.trans gX) h7 kJ h8 ko (by (first | omega | with_reducible assumption | with_reducible exact rng_toInt _ | with_reducible exact rng_wr _ | (unfold rng; omega) | (unfold rng at *; omega) | assumption)) (by (first | omega | with_reducible assumption | with_reducible exact rng_toInt _ | with_reducible exact rng_wr _ | (unfold rng; omega) | (unfold rng at *; omega) | assumption)) (by (first | omega | with_reducible assumption | with_reducible exact rng_toInt _ | with_reducible exact rng_wr _ | (unfold rng; omega) | (unfold rng at *; omega) | assumption)) (by (first | omega | with_reducible assumption | with_reducible exact rng_toInt _ | with_reducible exact rng_wr _ | (unfold rng; omega) | (unfold rng at *; omega) | assumption)) (by (first | omega | with_reducible assumption | with_reducible exact rng_toInt _ | with_reducible exact rng_wr _ | (unfold rng; omega) | (unfold rng at *; omega) | assumption)) (by (first | omega | with_reducible assumption | with_reducible exact rng_toInt _ | with_reducible exact rng_wr _ | (unfold rng; omega) | (unfold rng at *; omega) | assumption)) (by (first | omega | with_reducible assumption | with_reducible exact rng_toInt _ | with_reducible exact rng_wr _ | (unfold rng; omega) | (unfold rng at *; omega) | assumption)) (by (first | omega | with_reducible assumption | with_reducible exact rng_toInt _ | with_reducible exact rng_wr _ | (unfold rng; omega) | (unfold rng at *; omega) | assumption)) (by (first | omega | with_reducible assumption | with_reducible exact rng_toInt _ | with_reducible exact rng_wr _ | (unfold rng; omega) | (unfold rng at *; omega) | assumption)) (fun σ30 nuσ30 _ iσ30 cσ30 uσ30 oxσ30 pσ30 => ?_) (fun σx LLx Nx nux E ix cx ux px => hX σx LLx Nx nux E ix (fσ.tr (cx.mo (by decide))) (ux) (by first | exact px | exact ⟨by have := px.1; omega, px.2⟩ | (first | omega | with_reducible assumption | with_reducible exact rng_toInt _ | with_reducible exact rng_wr _ | (unfold rng; omega) | (unfold rng at *; omega) | assumption)))
            intro xσ30
            have fσ30 : Fx [258, 261, 262, 263, 323, 324, 326, 327, 328, 329, 330, 331, 332, 333, 334, 335, 336, 386, 387, 388, 389, 390, 6464, 8320, 8384] gr σ σ30 := fσ.tr (cσ30.mo (by decide))
            have oxcσ30 : OX o σ σ30 := oxσ.tr oxσ30 (Ext.rfl' _)
            have nu_σ30 : NC nu nuσ30 := uσ30
            have uσ30_5 := uσ30 5 (by decide) (by decide)
            have kp42 : Kpt (gI σ30 J 1 = gI σ J 1) := (show gI σ30 J 1 = gI σ J 1 from (cσ30.O kJ (by decide)).1)
            have kp43 : Kpt (gI σ30 J 2 = gI σ J 2) := (show gI σ30 J 2 = gI σ J 2 from (cσ30.O kJ (by decide)).1)
            have kp44 : Kpt (gI σ30 o 8 = gI σ o 8) := (show gI σ30 o 8 = gI σ o 8 from (cσ30.O ko (by decide)).1)
            have kp45 : gP σ30 th 0 = gP σ th 0 := (cσ30.O kth (by decide)).2.1
            have kp46 : gP σ30 th 7 = gP σ th 7 := (cσ30.O kth (by decide)).2.1
            have kp47 : gP σ30 th 8 = gP σ th 8 := (cσ30.O kth (by decide)).2.1
            have kp48 : Kpt (gI σ30 o 9 = gI σ o 9) := (show gI σ30 o 9 = gI σ o 9 from (cσ30.O ko (by decide)).1)
            have tfx := pσ30.1
            have lpx := pσ30.2.1
            have opx := pσ30.2.2
            have oux : OUTR σ σ30 J o c := OUTR.fx cσ30 (by decide) iσ kJ
            unfold w_X6_operatorText_201
            have ho49 : gI σ30 J 1 = gI σ J 1 := kp42
            have ho50 : gI σ30 J 2 = gI σ J 2 := kp43
            have ho51 : gI σ30 o 8 = gI σ o 8 := kp44
            have ho52 : gI σ30 o 9 = gI σ o 9 := kp48
            exact hQ σ30 nuσ30 () iσ30 fσ30 (nu_σ30) oxcσ30 (⟨tfx, lpx, opx, oux⟩)
          · rw [if_neg hc41]
            by_cases hc53 : (gJ σ th 4).toInt32.toInt = 4
            · rw [if_pos hc53]
              unfold w_X6_operatorText_133
              refine i_X6_unionText iσ kth hX0 kX (((Ext.rfl' _) tx kX.1).2.2.trans gX) h7 kJ h8 ko (by (first | omega | with_reducible assumption | with_reducible exact rng_toInt _ | with_reducible exact rng_wr _ | (unfold rng; omega) | (unfold rng at *; omega) | assumption)) (by (first | omega | with_reducible assumption | with_reducible exact rng_toInt _ | with_reducible exact rng_wr _ | (unfold rng; omega) | (unfold rng at *; omega) | assumption)) (by (first | omega | with_reducible assumption | with_reducible exact rng_toInt _ | with_reducible exact rng_wr _ | (unfold rng; omega) | (unfold rng at *; omega) | assumption)) (by (first | omega | with_reducible assumption | with_reducible exact rng_toInt _ | with_reducible exact rng_wr _ | (unfold rng; omega) | (unfold rng at *; omega) | assumption)) (by (first | omega | with_reducible assumption | with_reducible exact rng_toInt _ | with_reducible exact rng_wr _ | (unfold rng; omega) | (unfold rng at *; omega) | assumption)) (by (first | omega | with_reducible assumption | with_reducible exact rng_toInt _ | with_reducible exact rng_wr _ | (unfold rng; omega) | (unfold rng at *; omega) | assumption)) (by (first | omega | with_reducible assumption | with_reducible exact rng_toInt _ | with_reducible exact rng_wr _ | (unfold rng; omega) | (unfold rng at *; omega) | assumption)) (by (first | omega | with_reducible assumption | with_reducible exact rng_toInt _ | with_reducible exact rng_wr _ | (unfold rng; omega) | (unfold rng at *; omega) | assumption)) (by (first | omega | with_reducible assumption | with_reducible exact rng_toInt _ | with_reducible exact rng_wr _ | (unfold rng; omega) | (unfold rng at *; omega) | assumption)) (fun σ29 _ iσ29 cσ29 oxσ29 pσ29 => ?_) (fun σx LLx Nx nux E ix cx ux px => hX σx LLx Nx nux E ix (fσ.tr (cx.mo (by decide))) (ux) (by first | exact px | exact ⟨by have := px.1; omega, px.2⟩ | (first | omega | with_reducible assumption | with_reducible exact rng_toInt _ | with_reducible exact rng_wr _ | (unfold rng; omega) | (unfold rng at *; omega) | assumption)))
              intro xσ29
              have fσ29 : Fx [258, 261, 262, 263, 323, 324, 326, 327, 328, 329, 330, 331, 332, 333, 334, 335, 336, 386, 387, 388, 389, 390, 6464, 8320, 8384] gr σ σ29 := fσ.tr (cσ29.mo (by decide))
              have oxcσ29 : OX o σ σ29 := oxσ.tr oxσ29 (Ext.rfl' _)
              have kp54 : Kpt (gI σ29 J 1 = gI σ J 1) := (show gI σ29 J 1 = gI σ J 1 from (cσ29.O kJ (by decide)).1)
              have kp55 : Kpt (gI σ29 J 2 = gI σ J 2) := (show gI σ29 J 2 = gI σ J 2 from (cσ29.O kJ (by decide)).1)
              have kp56 : Kpt (gI σ29 J 7 = gI σ J 7) := (show gI σ29 J 7 = gI σ J 7 from (cσ29.O kJ (by decide)).1)
              have kp57 : Kpt (gI σ29 o 4 = gI σ o 4) := (show gI σ29 o 4 = gI σ o 4 from (cσ29.O ko (by decide)).1)
              have kp58 : gP σ29 th 0 = gP σ th 0 := (cσ29.O kth (by decide)).2.1
              have kp59 : gP σ29 th 7 = gP σ th 7 := (cσ29.O kth (by decide)).2.1
              have kp60 : gP σ29 th 8 = gP σ th 8 := (cσ29.O kth (by decide)).2.1
              have kp61 : Kpt (gI σ29 o 9 = gI σ o 9) := (show gI σ29 o 9 = gI σ o 9 from (cσ29.O ko (by decide)).1)
              have tfx := pσ29.1
              have lpx := pσ29.2.1
              have opx := pσ29.2.2
              have oux : OUTR σ σ29 J o c := OUTR.fx cσ29 (by decide) iσ kJ
              unfold w_X6_operatorText_201
              have ho62 : gI σ29 J 1 = gI σ J 1 := kp54
              have ho63 : gI σ29 J 2 = gI σ J 2 := kp55
              have ho64 : gI σ29 J 7 = gI σ J 7 := kp56
              have ho65 : gI σ29 o 4 = gI σ o 4 := kp57
              have ho66 : gI σ29 o 9 = gI σ o 9 := kp61
              exact hQ σ29 nu () iσ29 fσ29 (NC.rf) oxcσ29 (⟨tfx, lpx, opx, oux⟩)
            · rw [if_neg hc53]
              by_cases hc67 : (gJ σ th 4).toInt32.toInt = 5
              · rw [if_pos hc67]
                unfold w_X6_operatorText_140
                refine i_X6_foldText iσ kth hX0 kX (((Ext.rfl' _) tx kX.1).2.2.trans gX) h7 kJ h8 ko (by (first | omega | with_reducible assumption | with_reducible exact rng_toInt _ | with_reducible exact rng_wr _ | (unfold rng; omega) | (unfold rng at *; omega) | assumption)) (by (first | omega | with_reducible assumption | with_reducible exact rng_toInt _ | with_reducible exact rng_wr _ | (unfold rng; omega) | (unfold rng at *; omega) | assumption)) (by (first | omega | with_reducible assumption | with_reducible exact rng_toInt _ | with_reducible exact rng_wr _ | (unfold rng; omega) | (unfold rng at *; omega) | assumption)) (by (first | omega | with_reducible assumption | with_reducible exact rng_toInt _ | with_reducible exact rng_wr _ | (unfold rng; omega) | (unfold rng at *; omega) | assumption)) (by (first | omega | with_reducible assumption | with_reducible exact rng_toInt _ | with_reducible exact rng_wr _ | (unfold rng; omega) | (unfold rng at *; omega) | assumption)) (by (first | omega | with_reducible assumption | with_reducible exact rng_toInt _ | with_reducible exact rng_wr _ | (unfold rng; omega) | (unfold rng at *; omega) | assumption)) (by (first | omega | with_reducible assumption | with_reducible exact rng_toInt _ | with_reducible exact rng_wr _ | (unfold rng; omega) | (unfold rng at *; omega) | assumption)) (by (first | omega | with_reducible assumption | with_reducible exact rng_toInt _ | with_reducible exact rng_wr _ | (unfold rng; omega) | (unfold rng at *; omega) | assumption)) (by (first | omega | with_reducible assumption | with_reducible exact rng_toInt _ | with_reducible exact rng_wr _ | (unfold rng; omega) | (unfold rng at *; omega) | assumption)) (fun σ27 _ iσ27 cσ27 oxσ27 pσ27 => ?_) (fun σx LLx Nx nux E ix cx ux px => hX σx LLx Nx nux E ix (fσ.tr (cx.mo (by decide))) (ux) (by first | exact px | exact ⟨by have := px.1; omega, px.2⟩ | (first | omega | with_reducible assumption | with_reducible exact rng_toInt _ | with_reducible exact rng_wr _ | (unfold rng; omega) | (unfold rng at *; omega) | assumption)))
                intro xσ27
                have fσ27 : Fx [258, 261, 262, 263, 323, 324, 326, 327, 328, 329, 330, 331, 332, 333, 334, 335, 336, 386, 387, 388, 389, 390, 6464, 8320, 8384] gr σ σ27 := fσ.tr (cσ27.mo (by decide))
                have oxcσ27 : OX o σ σ27 := oxσ.tr oxσ27 (Ext.rfl' _)
                have kp68 : Kpt (gI σ27 J 1 = gI σ J 1) := (show gI σ27 J 1 = gI σ J 1 from (cσ27.O kJ (by decide)).1)
                have kp69 : Kpt (gI σ27 J 2 = gI σ J 2) := (show gI σ27 J 2 = gI σ J 2 from (cσ27.O kJ (by decide)).1)
                have kp70 : Kpt (gI σ27 J 7 = gI σ J 7) := (show gI σ27 J 7 = gI σ J 7 from (cσ27.O kJ (by decide)).1)
                have kp71 : Kpt (gI σ27 o 4 = gI σ o 4) := (show gI σ27 o 4 = gI σ o 4 from (cσ27.O ko (by decide)).1)
                have kp72 : Kpt (gI σ27 o 8 = gI σ o 8) := (show gI σ27 o 8 = gI σ o 8 from (cσ27.O ko (by decide)).1)
                have kp73 : gP σ27 th 0 = gP σ th 0 := (cσ27.O kth (by decide)).2.1
                have kp74 : gP σ27 th 7 = gP σ th 7 := (cσ27.O kth (by decide)).2.1
                have kp75 : gP σ27 th 8 = gP σ th 8 := (cσ27.O kth (by decide)).2.1
                have kp76 : Kpt (gI σ27 o 9 = gI σ o 9) := (show gI σ27 o 9 = gI σ o 9 from (cσ27.O ko (by decide)).1)
                have ho77 : gI σ27 J 7 = gI σ J 7 := kp70
                have ho78 : gI σ27 o 4 = gI σ o 4 := kp71
                refine i_X6_aggregates iσ27 (kth.up xσ27) (kp73.trans hX0) (kX.up xσ27) (((xσ27) tx kX.1).2.2.trans gX) (kp74.trans h7) (kJ.up xσ27) (kp75.trans h8) (ko.up xσ27) (by (first | omega | with_reducible assumption | with_reducible exact rng_toInt _ | with_reducible exact rng_wr _ | (unfold rng; omega) | (unfold rng at *; omega) | assumption)) (by (first | omega | with_reducible assumption | with_reducible exact rng_toInt _ | with_reducible exact rng_wr _ | (unfold rng; omega) | (unfold rng at *; omega) | assumption)) (by (first | omega | with_reducible assumption | with_reducible exact rng_toInt _ | with_reducible exact rng_wr _ | (unfold rng; omega) | (unfold rng at *; omega) | assumption)) (by (first | omega | with_reducible assumption | with_reducible exact rng_toInt _ | with_reducible exact rng_wr _ | (unfold rng; omega) | (unfold rng at *; omega) | assumption)) (by (first | omega | with_reducible assumption | with_reducible exact rng_toInt _ | with_reducible exact rng_wr _ | (unfold rng; omega) | (unfold rng at *; omega) | assumption)) (by (first | omega | with_reducible assumption | with_reducible exact rng_toInt _ | with_reducible exact rng_wr _ | (unfold rng; omega) | (unfold rng at *; omega) | assumption)) (by (first | omega | with_reducible assumption | with_reducible exact rng_toInt _ | with_reducible exact rng_wr _ | (unfold rng; omega) | (unfold rng at *; omega) | assumption)) (by (first | omega | with_reducible assumption | with_reducible exact rng_toInt _ | with_reducible exact rng_wr _ | (unfold rng; omega) | (unfold rng at *; omega) | assumption)) (fun σ28 nuσ28 _ iσ28 cσ28 uσ28 oxσ28 pσ28 => ?_) (fun σx LLx Nx nux E ix cx ux px => hX σx LLx Nx nux E ix (fσ27.tr (cx.mo (by decide))) (ux) (by first | exact px | exact ⟨by have := px.1; omega, px.2⟩ | (first | omega | with_reducible assumption | with_reducible exact rng_toInt _ | with_reducible exact rng_wr _ | (unfold rng; omega) | (unfold rng at *; omega) | assumption)))
                intro xσ28
                have fσ28 : Fx [258, 261, 262, 263, 323, 324, 326, 327, 328, 329, 330, 331, 332, 333, 334, 335, 336, 386, 387, 388, 389, 390, 6464, 8320, 8384] gr σ σ28 := fσ27.tr (cσ28.mo (by decide))
                have oxcσ28 : OX o σ σ28 := oxcσ27.tr oxσ28 (xσ27)
                have nu_σ28 : NC nu nuσ28 := uσ28
                have uσ28_5 := uσ28 5 (by decide) (by decide)
                have kp79 : gP σ28 th 0 = gP σ27 th 0 := (cσ28.O (kth.up xσ27) (by decide)).2.1
                have kp80 : gP σ28 th 7 = gP σ27 th 7 := (cσ28.O (kth.up xσ27) (by decide)).2.1
                have kp81 : gP σ28 th 8 = gP σ27 th 8 := (cσ28.O (kth.up xσ27) (by decide)).2.1
                have kp82 : Kpt (gI σ28 J 1 = gI σ J 1) := Eq.trans (show gI σ28 J 1 = gI σ27 J 1 from (cσ28.O (kJ.up xσ27) (by decide)).1) kp68
                have kp83 : Kpt (gI σ28 J 2 = gI σ J 2) := Eq.trans (show gI σ28 J 2 = gI σ27 J 2 from (cσ28.O (kJ.up xσ27) (by decide)).1) kp69
                have kp84 : Kpt (gI σ28 o 6 = gI σ27 o 6) := (show gI σ28 o 6 = gI σ27 o 6 from (cσ28.O (ko.up xσ27) (by decide)).1)
                have kp85 : Kpt (gI σ28 o 7 = gI σ27 o 7) := (show gI σ28 o 7 = gI σ27 o 7 from (cσ28.O (ko.up xσ27) (by decide)).1)
                have kp86 : Kpt (gI σ28 o 8 = gI σ o 8) := Eq.trans (show gI σ28 o 8 = gI σ27 o 8 from (cσ28.O (ko.up xσ27) (by decide)).1) kp72
                have kp87 : Kpt (gI σ28 o 9 = gI σ o 9) := Eq.trans (show gI σ28 o 9 = gI σ27 o 9 from (cσ28.O (ko.up xσ27) (by decide)).1) kp76
                have tfx := pσ28.1
                have lpx := pσ28.2.1
                have ho88 : gI σ28 J 1 = gI σ J 1 := kp82
                have ho89 : gI σ28 J 2 = gI σ J 2 := kp83
                have ho90 : gI σ28 o 6 = gI σ27 o 6 := kp84
                have ho91 : gI σ28 o 7 = gI σ27 o 7 := kp85
                have ho92 : gI σ28 o 8 = gI σ o 8 := kp86
                have ho93 : gI σ28 o 9 = gI σ o 9 := kp87
                have opx : OPR σ σ28 gq q c o := ⟨by omega, (fun h => absurd h (by omega)), (fun h => absurd h (by omega))⟩
                have fz : Fx [261, 262, 263, 323, 324, 326, 327, 331, 332, 333, 386, 387, 388, 389, 390, 6464, 8320] gr σ σ28 := (cσ27.mo (by decide)).tr (cσ28.mo (by decide))
                have oux : OUTR σ σ28 J o c := OUTR.fx fz (by decide) iσ kJ
                unfold w_X6_operatorText_201
                exact hQ σ28 nuσ28 () iσ28 fσ28 (nu_σ28) oxcσ28 (⟨tfx, lpx, opx, oux⟩)
              · rw [if_neg hc67]
                by_cases hc94 : (gJ σ th 4).toInt32.toInt = 10
                · rw [if_pos hc94]
                  unfold w_X6_operatorText_151
                  refine i_X6_pairText iσ kth hX0 kX (((Ext.rfl' _) tx kX.1).2.2.trans gX) h7 kJ h8 ko (by (first | omega | with_reducible assumption | with_reducible exact rng_toInt _ | with_reducible exact rng_wr _ | (unfold rng; omega) | (unfold rng at *; omega) | assumption)) (by (first | omega | with_reducible assumption | with_reducible exact rng_toInt _ | with_reducible exact rng_wr _ | (unfold rng; omega) | (unfold rng at *; omega) | assumption)) (by (first | omega | with_reducible assumption | with_reducible exact rng_toInt _ | with_reducible exact rng_wr _ | (unfold rng; omega) | (unfold rng at *; omega) | assumption)) (by (first | omega | with_reducible assumption | with_reducible exact rng_toInt _ | with_reducible exact rng_wr _ | (unfold rng; omega) | (unfold rng at *; omega) | assumption)) (by (first | omega | with_reducible assumption | with_reducible exact rng_toInt _ | with_reducible exact rng_wr _ | (unfold rng; omega) | (unfold rng at *; omega) | assumption)) (by (first | omega | with_reducible assumption | with_reducible exact rng_toInt _ | with_reducible exact rng_wr _ | (unfold rng; omega) | (unfold rng at *; omega) | assumption)) (by (first | omega | with_reducible assumption | with_reducible exact rng_toInt _ | with_reducible exact rng_wr _ | (unfold rng; omega) | (unfold rng at *; omega) | assumption)) (by (first | omega | with_reducible assumption | with_reducible exact rng_toInt _ | with_reducible exact rng_wr _ | (unfold rng; omega) | (unfold rng at *; omega) | assumption)) (by (first | omega | with_reducible assumption | with_reducible exact rng_toInt _ | with_reducible exact rng_wr _ | (unfold rng; omega) | (unfold rng at *; omega) | assumption)) (by (first | omega | with_reducible assumption | with_reducible exact rng_toInt _ | with_reducible exact rng_wr _ | (unfold rng; omega) | (unfold rng at *; omega) | assumption)) (fun σ26 _ iσ26 cσ26 oxσ26 pσ26 => ?_) (fun σx LLx Nx nux E ix cx ux px => hX σx LLx Nx nux E ix (fσ.tr (cx.mo (by decide))) (ux) (by first | exact px | exact ⟨by have := px.1; omega, px.2⟩ | (first | omega | with_reducible assumption | with_reducible exact rng_toInt _ | with_reducible exact rng_wr _ | (unfold rng; omega) | (unfold rng at *; omega) | assumption)))
                  intro xσ26
                  have fσ26 : Fx [258, 261, 262, 263, 323, 324, 326, 327, 328, 329, 330, 331, 332, 333, 334, 335, 336, 386, 387, 388, 389, 390, 6464, 8320, 8384] gr σ σ26 := fσ.tr (cσ26.mo (by decide))
                  have oxcσ26 : OX o σ σ26 := oxσ.tr oxσ26 (Ext.rfl' _)
                  have kp95 : Kpt (gI σ26 J 1 = gI σ J 1) := (show gI σ26 J 1 = gI σ J 1 from (cσ26.O kJ (by decide)).1)
                  have kp96 : Kpt (gI σ26 J 2 = gI σ J 2) := (show gI σ26 J 2 = gI σ J 2 from (cσ26.O kJ (by decide)).1)
                  have kp97 : Kpt (gI σ26 J 7 = gI σ J 7) := (show gI σ26 J 7 = gI σ J 7 from (cσ26.O kJ (by decide)).1)
                  have kp98 : Kpt (gI σ26 o 4 = gI σ o 4) := (show gI σ26 o 4 = gI σ o 4 from (cσ26.O ko (by decide)).1)
                  have kp99 : gP σ26 th 0 = gP σ th 0 := (cσ26.O kth (by decide)).2.1
                  have kp100 : gP σ26 th 7 = gP σ th 7 := (cσ26.O kth (by decide)).2.1
                  have kp101 : gP σ26 th 8 = gP σ th 8 := (cσ26.O kth (by decide)).2.1
                  have kp102 : Kpt (gI σ26 o 9 = gI σ o 9) := (show gI σ26 o 9 = gI σ o 9 from (cσ26.O ko (by decide)).1)
                  have tfx := pσ26.1
                  have lpx := pσ26.2.1
                  have opx := pσ26.2.2
                  have oux : OUTR σ σ26 J o c := OUTR.fx cσ26 (by decide) iσ kJ
                  unfold w_X6_operatorText_201
                  have ho103 : gI σ26 J 1 = gI σ J 1 := kp95
                  have ho104 : gI σ26 J 2 = gI σ J 2 := kp96
                  have ho105 : gI σ26 J 7 = gI σ J 7 := kp97
                  have ho106 : gI σ26 o 4 = gI σ o 4 := kp98
                  have ho107 : gI σ26 o 9 = gI σ o 9 := kp102
                  exact hQ σ26 nu () iσ26 fσ26 (NC.rf) oxcσ26 (⟨tfx, lpx, opx, oux⟩)
                · rw [if_neg hc94]
                  by_cases hc108 : (gJ σ th 4).toInt32.toInt = 12
                  · rw [if_pos hc108]
                    unfold w_X6_operatorText_160
                    refine i_X6_pairText iσ kth hX0 kX (((Ext.rfl' _) tx kX.1).2.2.trans gX) h7 kJ h8 ko (by (first | omega | with_reducible assumption | with_reducible exact rng_toInt _ | with_reducible exact rng_wr _ | (unfold rng; omega) | (unfold rng at *; omega) | assumption)) (by (first | omega | with_reducible assumption | with_reducible exact rng_toInt _ | with_reducible exact rng_wr _ | (unfold rng; omega) | (unfold rng at *; omega) | assumption)) (by (first | omega | with_reducible assumption | with_reducible exact rng_toInt _ | with_reducible exact rng_wr _ | (unfold rng; omega) | (unfold rng at *; omega) | assumption)) (by (first | omega | with_reducible assumption | with_reducible exact rng_toInt _ | with_reducible exact rng_wr _ | (unfold rng; omega) | (unfold rng at *; omega) | assumption)) (by (first | omega | with_reducible assumption | with_reducible exact rng_toInt _ | with_reducible exact rng_wr _ | (unfold rng; omega) | (unfold rng at *; omega) | assumption)) (by (first | omega | with_reducible assumption | with_reducible exact rng_toInt _ | with_reducible exact rng_wr _ | (unfold rng; omega) | (unfold rng at *; omega) | assumption)) (by (first | omega | with_reducible assumption | with_reducible exact rng_toInt _ | with_reducible exact rng_wr _ | (unfold rng; omega) | (unfold rng at *; omega) | assumption)) (by (first | omega | with_reducible assumption | with_reducible exact rng_toInt _ | with_reducible exact rng_wr _ | (unfold rng; omega) | (unfold rng at *; omega) | assumption)) (by (first | omega | with_reducible assumption | with_reducible exact rng_toInt _ | with_reducible exact rng_wr _ | (unfold rng; omega) | (unfold rng at *; omega) | assumption)) (by (first | omega | with_reducible assumption | with_reducible exact rng_toInt _ | with_reducible exact rng_wr _ | (unfold rng; omega) | (unfold rng at *; omega) | assumption)) (fun σ25 _ iσ25 cσ25 oxσ25 pσ25 => ?_) (fun σx LLx Nx nux E ix cx ux px => hX σx LLx Nx nux E ix (fσ.tr (cx.mo (by decide))) (ux) (by first | exact px | exact ⟨by have := px.1; omega, px.2⟩ | (first | omega | with_reducible assumption | with_reducible exact rng_toInt _ | with_reducible exact rng_wr _ | (unfold rng; omega) | (unfold rng at *; omega) | assumption)))
                    intro xσ25
                    have fσ25 : Fx [258, 261, 262, 263, 323, 324, 326, 327, 328, 329, 330, 331, 332, 333, 334, 335, 336, 386, 387, 388, 389, 390, 6464, 8320, 8384] gr σ σ25 := fσ.tr (cσ25.mo (by decide))
                    have oxcσ25 : OX o σ σ25 := oxσ.tr oxσ25 (Ext.rfl' _)
                    have kp109 : Kpt (gI σ25 J 1 = gI σ J 1) := (show gI σ25 J 1 = gI σ J 1 from (cσ25.O kJ (by decide)).1)
                    have kp110 : Kpt (gI σ25 J 2 = gI σ J 2) := (show gI σ25 J 2 = gI σ J 2 from (cσ25.O kJ (by decide)).1)
                    have kp111 : Kpt (gI σ25 J 7 = gI σ J 7) := (show gI σ25 J 7 = gI σ J 7 from (cσ25.O kJ (by decide)).1)
                    have kp112 : Kpt (gI σ25 o 4 = gI σ o 4) := (show gI σ25 o 4 = gI σ o 4 from (cσ25.O ko (by decide)).1)
                    have kp113 : gP σ25 th 0 = gP σ th 0 := (cσ25.O kth (by decide)).2.1
                    have kp114 : gP σ25 th 7 = gP σ th 7 := (cσ25.O kth (by decide)).2.1
                    have kp115 : gP σ25 th 8 = gP σ th 8 := (cσ25.O kth (by decide)).2.1
                    have kp116 : Kpt (gI σ25 o 9 = gI σ o 9) := (show gI σ25 o 9 = gI σ o 9 from (cσ25.O ko (by decide)).1)
                    have tfx := pσ25.1
                    have lpx := pσ25.2.1
                    have opx := pσ25.2.2
                    have oux : OUTR σ σ25 J o c := OUTR.fx cσ25 (by decide) iσ kJ
                    unfold w_X6_operatorText_201
                    have ho117 : gI σ25 J 1 = gI σ J 1 := kp109
                    have ho118 : gI σ25 J 2 = gI σ J 2 := kp110
                    have ho119 : gI σ25 J 7 = gI σ J 7 := kp111
                    have ho120 : gI σ25 o 4 = gI σ o 4 := kp112
                    have ho121 : gI σ25 o 9 = gI σ o 9 := kp116
                    exact hQ σ25 nu () iσ25 fσ25 (NC.rf) oxcσ25 (⟨tfx, lpx, opx, oux⟩)
                  · rw [if_neg hc108]
                    by_cases hc122 : (gJ σ th 4).toInt32.toInt = 13
                    · rw [if_pos hc122]
                      unfold w_X6_operatorText_169
                      refine i_X6_matchText iσ kth hX0 kX (((Ext.rfl' _) tx kX.1).2.2.trans gX) h7 kJ h8 ko (by (first | omega | with_reducible assumption | with_reducible exact rng_toInt _ | with_reducible exact rng_wr _ | (unfold rng; omega) | (unfold rng at *; omega) | assumption)) (by (first | omega | with_reducible assumption | with_reducible exact rng_toInt _ | with_reducible exact rng_wr _ | (unfold rng; omega) | (unfold rng at *; omega) | assumption)) (by (first | omega | with_reducible assumption | with_reducible exact rng_toInt _ | with_reducible exact rng_wr _ | (unfold rng; omega) | (unfold rng at *; omega) | assumption)) (by (first | omega | with_reducible assumption | with_reducible exact rng_toInt _ | with_reducible exact rng_wr _ | (unfold rng; omega) | (unfold rng at *; omega) | assumption)) (by (first | omega | with_reducible assumption | with_reducible exact rng_toInt _ | with_reducible exact rng_wr _ | (unfold rng; omega) | (unfold rng at *; omega) | assumption)) (by (first | omega | with_reducible assumption | with_reducible exact rng_toInt _ | with_reducible exact rng_wr _ | (unfold rng; omega) | (unfold rng at *; omega) | assumption)) (by (first | omega | with_reducible assumption | with_reducible exact rng_toInt _ | with_reducible exact rng_wr _ | (unfold rng; omega) | (unfold rng at *; omega) | assumption)) (by (first | omega | with_reducible assumption | with_reducible exact rng_toInt _ | with_reducible exact rng_wr _ | (unfold rng; omega) | (unfold rng at *; omega) | assumption)) (by (first | omega | with_reducible assumption | with_reducible exact rng_toInt _ | with_reducible exact rng_wr _ | (unfold rng; omega) | (unfold rng at *; omega) | assumption)) (fun σ24 nuσ24 _ iσ24 cσ24 uσ24 oxσ24 pσ24 => ?_) (fun σx LLx Nx nux E ix cx ux px => hX σx LLx Nx nux E ix (fσ.tr (cx.mo (by decide))) (ux) (by first | exact px | exact ⟨by have := px.1; omega, px.2⟩ | (first | omega | with_reducible assumption | with_reducible exact rng_toInt _ | with_reducible exact rng_wr _ | (unfold rng; omega) | (unfold rng at *; omega) | assumption)))
                      intro xσ24
                      have fσ24 : Fx [258, 261, 262, 263, 323, 324, 326, 327, 328, 329, 330, 331, 332, 333, 334, 335, 336, 386, 387, 388, 389, 390, 6464, 8320, 8384] gr σ σ24 := fσ.tr (cσ24.mo (by decide))
                      have oxcσ24 : OX o σ σ24 := oxσ.tr oxσ24 (Ext.rfl' _)
                      have nu_σ24 : NC nu nuσ24 := uσ24
                      have uσ24_5 := uσ24 5 (by decide) (by decide)
                      have kp123 : Kpt (gI σ24 J 1 = gI σ J 1) := (show gI σ24 J 1 = gI σ J 1 from (cσ24.O kJ (by decide)).1)
                      have kp124 : Kpt (gI σ24 J 2 = gI σ J 2) := (show gI σ24 J 2 = gI σ J 2 from (cσ24.O kJ (by decide)).1)
                      have kp125 : Kpt (gI σ24 o 8 = gI σ o 8) := (show gI σ24 o 8 = gI σ o 8 from (cσ24.O ko (by decide)).1)
                      have kp126 : gP σ24 th 0 = gP σ th 0 := (cσ24.O kth (by decide)).2.1
                      have kp127 : gP σ24 th 7 = gP σ th 7 := (cσ24.O kth (by decide)).2.1
                      have kp128 : gP σ24 th 8 = gP σ th 8 := (cσ24.O kth (by decide)).2.1
                      have kp129 : Kpt (gI σ24 o 9 = gI σ o 9) := (show gI σ24 o 9 = gI σ o 9 from (cσ24.O ko (by decide)).1)
                      have tfx := pσ24.1
                      have lpx := pσ24.2.1
                      have opx := pσ24.2.2
                      have oux : OUTR σ σ24 J o c := OUTR.fx cσ24 (by decide) iσ kJ
                      unfold w_X6_operatorText_201
                      have ho130 : gI σ24 J 1 = gI σ J 1 := kp123
                      have ho131 : gI σ24 J 2 = gI σ J 2 := kp124
                      have ho132 : gI σ24 o 8 = gI σ o 8 := kp125
                      have ho133 : gI σ24 o 9 = gI σ o 9 := kp129
                      exact hQ σ24 nuσ24 () iσ24 fσ24 (nu_σ24) oxcσ24 (⟨tfx, lpx, opx, oux⟩)
                    · rw [if_neg hc122]
                      by_cases hc134 : (gJ σ th 4).toInt32.toInt = 15
                      · rw [if_pos hc134]
                        unfold w_X6_operatorText_176
                        refine i_X6_uniqueText iσ kth hX0 kX (((Ext.rfl' _) tx kX.1).2.2.trans gX) h7 kJ h8 ko (by (first | omega | with_reducible assumption | with_reducible exact rng_toInt _ | with_reducible exact rng_wr _ | (unfold rng; omega) | (unfold rng at *; omega) | assumption)) (by (first | omega | with_reducible assumption | with_reducible exact rng_toInt _ | with_reducible exact rng_wr _ | (unfold rng; omega) | (unfold rng at *; omega) | assumption)) (by (first | omega | with_reducible assumption | with_reducible exact rng_toInt _ | with_reducible exact rng_wr _ | (unfold rng; omega) | (unfold rng at *; omega) | assumption)) (by (first | omega | with_reducible assumption | with_reducible exact rng_toInt _ | with_reducible exact rng_wr _ | (unfold rng; omega) | (unfold rng at *; omega) | assumption)) (by (first | omega | with_reducible assumption | with_reducible exact rng_toInt _ | with_reducible exact rng_wr _ | (unfold rng; omega) | (unfold rng at *; omega) | assumption)) (by (first | omega | with_reducible assumption | with_reducible exact rng_toInt _ | with_reducible exact rng_wr _ | (unfold rng; omega) | (unfold rng at *; omega) | assumption)) (by (first | omega | with_reducible assumption | with_reducible exact rng_toInt _ | with_reducible exact rng_wr _ | (unfold rng; omega) | (unfold rng at *; omega) | assumption)) (by (first | omega | with_reducible assumption | with_reducible exact rng_toInt _ | with_reducible exact rng_wr _ | (unfold rng; omega) | (unfold rng at *; omega) | assumption)) (by (first | omega | with_reducible assumption | with_reducible exact rng_toInt _ | with_reducible exact rng_wr _ | (unfold rng; omega) | (unfold rng at *; omega) | assumption)) (fun σ23 _ iσ23 cσ23 oxσ23 pσ23 => ?_) (fun σx LLx Nx nux E ix cx ux px => hX σx LLx Nx nux E ix (fσ.tr (cx.mo (by decide))) (ux) (by first | exact px | exact ⟨by have := px.1; omega, px.2⟩ | (first | omega | with_reducible assumption | with_reducible exact rng_toInt _ | with_reducible exact rng_wr _ | (unfold rng; omega) | (unfold rng at *; omega) | assumption)))
                        intro xσ23
                        have fσ23 : Fx [258, 261, 262, 263, 323, 324, 326, 327, 328, 329, 330, 331, 332, 333, 334, 335, 336, 386, 387, 388, 389, 390, 6464, 8320, 8384] gr σ σ23 := fσ.tr (cσ23.mo (by decide))
                        have oxcσ23 : OX o σ σ23 := oxσ.tr oxσ23 (Ext.rfl' _)
                        have kp135 : Kpt (gI σ23 J 1 = gI σ J 1) := (show gI σ23 J 1 = gI σ J 1 from (cσ23.O kJ (by decide)).1)
                        have kp136 : Kpt (gI σ23 J 2 = gI σ J 2) := (show gI σ23 J 2 = gI σ J 2 from (cσ23.O kJ (by decide)).1)
                        have kp137 : Kpt (gI σ23 J 7 = gI σ J 7) := (show gI σ23 J 7 = gI σ J 7 from (cσ23.O kJ (by decide)).1)
                        have kp138 : Kpt (gI σ23 o 4 = gI σ o 4) := (show gI σ23 o 4 = gI σ o 4 from (cσ23.O ko (by decide)).1)
                        have kp139 : Kpt (gI σ23 o 8 = gI σ o 8) := (show gI σ23 o 8 = gI σ o 8 from (cσ23.O ko (by decide)).1)
                        have kp140 : gP σ23 th 0 = gP σ th 0 := (cσ23.O kth (by decide)).2.1
                        have kp141 : gP σ23 th 7 = gP σ th 7 := (cσ23.O kth (by decide)).2.1
                        have kp142 : gP σ23 th 8 = gP σ th 8 := (cσ23.O kth (by decide)).2.1
                        have kp143 : Kpt (gI σ23 o 9 = gI σ o 9) := (show gI σ23 o 9 = gI σ o 9 from (cσ23.O ko (by decide)).1)
                        have tfx := pσ23.1
                        have lpx := pσ23.2.1
                        have opx := pσ23.2.2
                        have oux : OUTR σ σ23 J o c := OUTR.fx cσ23 (by decide) iσ kJ
                        unfold w_X6_operatorText_201
                        have ho144 : gI σ23 J 1 = gI σ J 1 := kp135
                        have ho145 : gI σ23 J 2 = gI σ J 2 := kp136
                        have ho146 : gI σ23 J 7 = gI σ J 7 := kp137
                        have ho147 : gI σ23 o 4 = gI σ o 4 := kp138
                        have ho148 : gI σ23 o 8 = gI σ o 8 := kp139
                        have ho149 : gI σ23 o 9 = gI σ o 9 := kp143
                        exact hQ σ23 nu () iσ23 fσ23 (NC.rf) oxcσ23 (⟨tfx, lpx, opx, oux⟩)
                      · rw [if_neg hc134]
                        by_cases hc150 : (gJ σ th 4).toInt32.toInt = 16
                        · rw [if_pos hc150]
                          unfold w_X6_operatorText_183
                          refine i_X6_topText iσ kth hX0 kX (((Ext.rfl' _) tx kX.1).2.2.trans gX) h7 kJ h8 ko (by (first | omega | with_reducible assumption | with_reducible exact rng_toInt _ | with_reducible exact rng_wr _ | (unfold rng; omega) | (unfold rng at *; omega) | assumption)) (by (first | omega | with_reducible assumption | with_reducible exact rng_toInt _ | with_reducible exact rng_wr _ | (unfold rng; omega) | (unfold rng at *; omega) | assumption)) (by (first | omega | with_reducible assumption | with_reducible exact rng_toInt _ | with_reducible exact rng_wr _ | (unfold rng; omega) | (unfold rng at *; omega) | assumption)) (by (first | omega | with_reducible assumption | with_reducible exact rng_toInt _ | with_reducible exact rng_wr _ | (unfold rng; omega) | (unfold rng at *; omega) | assumption)) (by (first | omega | with_reducible assumption | with_reducible exact rng_toInt _ | with_reducible exact rng_wr _ | (unfold rng; omega) | (unfold rng at *; omega) | assumption)) (by (first | omega | with_reducible assumption | with_reducible exact rng_toInt _ | with_reducible exact rng_wr _ | (unfold rng; omega) | (unfold rng at *; omega) | assumption)) (by (first | omega | with_reducible assumption | with_reducible exact rng_toInt _ | with_reducible exact rng_wr _ | (unfold rng; omega) | (unfold rng at *; omega) | assumption)) (by (first | omega | with_reducible assumption | with_reducible exact rng_toInt _ | with_reducible exact rng_wr _ | (unfold rng; omega) | (unfold rng at *; omega) | assumption)) (by (first | omega | with_reducible assumption | with_reducible exact rng_toInt _ | with_reducible exact rng_wr _ | (unfold rng; omega) | (unfold rng at *; omega) | assumption)) (fun σ22 _ iσ22 cσ22 oxσ22 pσ22 => ?_) (fun σx LLx Nx nux E ix cx ux px => hX σx LLx Nx nux E ix (fσ.tr (cx.mo (by decide))) (ux) (by first | exact px | exact ⟨by have := px.1; omega, px.2⟩ | (first | omega | with_reducible assumption | with_reducible exact rng_toInt _ | with_reducible exact rng_wr _ | (unfold rng; omega) | (unfold rng at *; omega) | assumption)))
                          intro xσ22
                          have fσ22 : Fx [258, 261, 262, 263, 323, 324, 326, 327, 328, 329, 330, 331, 332, 333, 334, 335, 336, 386, 387, 388, 389, 390, 6464, 8320, 8384] gr σ σ22 := fσ.tr (cσ22.mo (by decide))
                          have oxcσ22 : OX o σ σ22 := oxσ.tr oxσ22 (Ext.rfl' _)
                          have kp151 : Kpt (gI σ22 J 1 = gI σ J 1) := (show gI σ22 J 1 = gI σ J 1 from (cσ22.O kJ (by decide)).1)
                          have kp152 : Kpt (gI σ22 J 2 = gI σ J 2) := (show gI σ22 J 2 = gI σ J 2 from (cσ22.O kJ (by decide)).1)
                          have kp153 : Kpt (gI σ22 J 7 = gI σ J 7) := (show gI σ22 J 7 = gI σ J 7 from (cσ22.O kJ (by decide)).1)
                          have kp154 : Kpt (gI σ22 o 4 = gI σ o 4) := (show gI σ22 o 4 = gI σ o 4 from (cσ22.O ko (by decide)).1)
                          have kp155 : Kpt (gI σ22 o 8 = gI σ o 8) := (show gI σ22 o 8 = gI σ o 8 from (cσ22.O ko (by decide)).1)
                          have kp156 : gP σ22 th 0 = gP σ th 0 := (cσ22.O kth (by decide)).2.1
                          have kp157 : gP σ22 th 7 = gP σ th 7 := (cσ22.O kth (by decide)).2.1
                          have kp158 : gP σ22 th 8 = gP σ th 8 := (cσ22.O kth (by decide)).2.1
                          have tfx := pσ22.1
                          have lpx := pσ22.2.1
                          have opx := pσ22.2.2
                          have oux : OUTR σ σ22 J o c := OUTR.fx cσ22 (by decide) iσ kJ
                          unfold w_X6_operatorText_201
                          have ho159 : gI σ22 J 1 = gI σ J 1 := kp151
                          have ho160 : gI σ22 J 2 = gI σ J 2 := kp152
                          have ho161 : gI σ22 J 7 = gI σ J 7 := kp153
                          have ho162 : gI σ22 o 4 = gI σ o 4 := kp154
                          have ho163 : gI σ22 o 8 = gI σ o 8 := kp155
                          exact hQ σ22 nu () iσ22 fσ22 (NC.rf) oxcσ22 (⟨tfx, lpx, opx, oux⟩)
                        · rw [if_neg hc150]
                          by_cases hc164 : (gJ σ th 4).toInt32.toInt = 17
                          · rw [if_pos hc164]
                            unfold w_X6_operatorText_190
                            refine i_X6_outputText iσ kth hX0 kX (((Ext.rfl' _) tx kX.1).2.2.trans gX) h7 kJ h8 ko (by (first | omega | with_reducible assumption | with_reducible exact rng_toInt _ | with_reducible exact rng_wr _ | (unfold rng; omega) | (unfold rng at *; omega) | assumption)) (by (first | omega | with_reducible assumption | with_reducible exact rng_toInt _ | with_reducible exact rng_wr _ | (unfold rng; omega) | (unfold rng at *; omega) | assumption)) (by (first | omega | with_reducible assumption | with_reducible exact rng_toInt _ | with_reducible exact rng_wr _ | (unfold rng; omega) | (unfold rng at *; omega) | assumption)) (by (first | omega | with_reducible assumption | with_reducible exact rng_toInt _ | with_reducible exact rng_wr _ | (unfold rng; omega) | (unfold rng at *; omega) | assumption)) (by (first | omega | with_reducible assumption | with_reducible exact rng_toInt _ | with_reducible exact rng_wr _ | (unfold rng; omega) | (unfold rng at *; omega) | assumption)) (by (first | omega | with_reducible assumption | with_reducible exact rng_toInt _ | with_reducible exact rng_wr _ | (unfold rng; omega) | (unfold rng at *; omega) | assumption)) (by (first | omega | with_reducible assumption | with_reducible exact rng_toInt _ | with_reducible exact rng_wr _ | (unfold rng; omega) | (unfold rng at *; omega) | assumption)) (by (first | omega | with_reducible assumption | with_reducible exact rng_toInt _ | with_reducible exact rng_wr _ | (unfold rng; omega) | (unfold rng at *; omega) | assumption)) (by (first | omega | with_reducible assumption | with_reducible exact rng_toInt _ | with_reducible exact rng_wr _ | (unfold rng; omega) | (unfold rng at *; omega) | assumption)) (hv.2 (by have z9 := pσ17; have y9 := kv17 (kv (by omega)) (by assumption); rcases z9.1 with e9 | e9; (exact absurd y9 (z9.2.2 e9 (by omega))); omega)) (fun σ21 _ iσ21 cσ21 oxσ21 pσ21 => ?_) (fun σx LLx Nx nux E ix cx ux px => hX σx LLx Nx nux E ix (fσ.tr (cx.mo (by decide))) (ux) (by first | exact px | exact ⟨by have := px.1; omega, px.2⟩ | (first | omega | with_reducible assumption | with_reducible exact rng_toInt _ | with_reducible exact rng_wr _ | (unfold rng; omega) | (unfold rng at *; omega) | assumption)))
                            intro xσ21
                            have fσ21 : Fx [258, 261, 262, 263, 323, 324, 326, 327, 328, 329, 330, 331, 332, 333, 334, 335, 336, 386, 387, 388, 389, 390, 6464, 8320, 8384] gr σ σ21 := fσ.tr (cσ21.mo (by decide))
                            have oxcσ21 : OX o σ σ21 := oxσ.tr oxσ21 (Ext.rfl' _)
                            have kp165 : Kpt (gI σ21 J 1 = gI σ J 1) := (show gI σ21 J 1 = gI σ J 1 from (cσ21.O kJ (by decide)).1)
                            have kp166 : Kpt (gI σ21 J 7 = gI σ J 7) := (show gI σ21 J 7 = gI σ J 7 from (cσ21.O kJ (by decide)).1)
                            have kp167 : Kpt (gI σ21 o 4 = gI σ o 4) := (show gI σ21 o 4 = gI σ o 4 from (cσ21.O ko (by decide)).1)
                            have kp168 : Kpt (gI σ21 o 8 = gI σ o 8) := (show gI σ21 o 8 = gI σ o 8 from (cσ21.O ko (by decide)).1)
                            have kp169 : gP σ21 th 0 = gP σ th 0 := (cσ21.O kth (by decide)).2.1
                            have kp170 : gP σ21 th 7 = gP σ th 7 := (cσ21.O kth (by decide)).2.1
                            have kp171 : gP σ21 th 8 = gP σ th 8 := (cσ21.O kth (by decide)).2.1
                            have tfx := pσ21.1
                            have lpx := pσ21.2.1
                            have opx := pσ21.2.2.1
                            have oux := pσ21.2.2.2
                            unfold w_X6_operatorText_201
                            have ho172 : gI σ21 J 1 = gI σ J 1 := kp165
                            have ho173 : gI σ21 J 7 = gI σ J 7 := kp166
                            have ho174 : gI σ21 o 4 = gI σ o 4 := kp167
                            have ho175 : gI σ21 o 8 = gI σ o 8 := kp168
                            exact hQ σ21 nu () iσ21 fσ21 (NC.rf) oxcσ21 (⟨tfx, lpx, opx, oux⟩)
                          · rw [if_neg hc164]
                            unfold w_X6_operatorText_197
                            refine i_X6_cannotStand iσ kth (by (first | omega | with_reducible assumption | with_reducible exact rng_toInt _ | with_reducible exact rng_wr _ | (unfold rng; omega) | (unfold rng at *; omega) | assumption)) (fun σ20 _ iσ20 cσ20 pσ20 => ?_) (fun σx LLx Nx nux E ix cx ux px => hX σx LLx Nx nux E ix (fσ.tr (cx.mo (by decide))) (ux) (by first | exact px | exact ⟨by have := px.1; omega, px.2⟩ | (first | omega | with_reducible assumption | with_reducible exact rng_toInt _ | with_reducible exact rng_wr _ | (unfold rng; omega) | (unfold rng at *; omega) | assumption)))
                            intro xσ20
                            exact pσ20.elim
    · rw [if_neg hc12]
      unfold w_X6_operatorText_18
      refine i_X6_cannotStand iσ kth (by (first | omega | with_reducible assumption | with_reducible exact rng_toInt _ | with_reducible exact rng_wr _ | (unfold rng; omega) | (unfold rng at *; omega) | assumption)) (fun σ19_1 _ iσ19_1 cσ19_1 pσ19_1 => ?_) (fun σx LLx Nx nux E ix cx ux px => hX σx LLx Nx nux E ix (fσ.tr (cx.mo (by decide))) (ux) (by first | exact px | exact ⟨by have := px.1; omega, px.2⟩ | (first | omega | with_reducible assumption | with_reducible exact rng_toInt _ | with_reducible exact rng_wr _ | (unfold rng; omega) | (unfold rng at *; omega) | assumption)))
      intro xσ19_1
      exact pσ19_1.elim
set_option maxHeartbeats 1000000 in
theorem i_X6_statementHead {σ : Sg} {pl : Nat} {gq ci gr nc : Nat → Nat} {ot : Nat → Nat → Int} {LL : Nat → List Nat} {N nu : Nat → Nat} {th : Nat} {tx J o q c : Nat} (iσ : IV σ pl gq ci gr nc ot LL N nu) (kth : kO σ th 6) (hX0 : gP σ th 0 = some tx) (kX : kO σ tx 102) (gX : gn σ tx = 1500) (h7 : gP σ th 7 = some J) (kJ : kO σ J 4) (hJq : gq J = q) (hq : q ≠ nc 0 ∧ q ≤ 1) (cJ : gI σ J 1 = (c : Int)) (tf : gI σ th 5 ≤ gI σ th 2 ∧ (gI σ th 3 ≠ 0 → gI σ th 5 + 1 ≤ gI σ th 2)) (h5 : nu 5 < 24000) (lp : gI σ J 7 ≤ 2 * gI σ th 5) (kv : KV σ th) (ho : c < 16 → kO σ o 5 ∧ gq o = 16 * q + c ∧ ∃ ar, gP σ J 0 = some ar ∧ gP σ ar c = some o) {Q : Sg → Int → Prop} {X : Sg → String → Prop} (hQ : ∀ (σ' : Sg) (r : Int), IV σ' pl gq ci gr nc ot LL N nu → Fx [323, 324, 325, 326, 327, 328, 329, 330, 331, 332, 333, 334, 335, 336, 386, 387, 388, 389, 390, 392] gr σ σ' → OX o σ σ' → ((r = 0 ∨ r = 1) ∧ (c < 16 ∧ gP σ' th 8 = some o) ∧ KV σ' th ∧ (gI σ' th 5 ≤ gI σ' th 2 ∧ (gI σ' th 3 ≠ 0 → gI σ' th 5 + 1 ≤ gI σ' th 2)) ∧ gI σ' J 7 ≤ 2 * gI σ' th 5 ∧ (gI σ' o 3 = 0 ∧ gI σ' o 4 = 0 ∧ gI σ' o 7 = -1 ∧ gI σ' o 8 = -1) ∧ (r = 1 → gI σ' J 2 ≤ 3)) → Q σ' r) (hX : ∀ (σ' : Sg) (LL' : Nat → List Nat) (N' nu' : Nat → Nat) (E : String), IV σ' pl gq ci gr nc ot LL' N' nu' → Fx [323, 324, 325, 326, 327, 328, 329, 330, 331, 332, 333, 334, 335, 336, 386, 387, 388, 389, 390, 392] gr σ σ' → NCX nu nu' → (LL' = LL ∧ N' = N ∧ E = "java/lang/IllegalArgumentException" ∧ gI σ' th 6 ≠ 0) → X σ' E) : wp_X6_statementHead th σ Q X := by
  have fσ : Fx [323, 324, 325, 326, 327, 328, 329, 330, 331, 332, 333, 334, 335, 336, 386, 387, 388, 389, 390, 392] gr σ σ := Fx.rf
  have oxσ : OX o σ σ := OX.rf
  have q1 := I_4_1 iσ.1 kJ
  have q2 := I_6_5 iσ.1 kth
  have q3 := I_6_2 iσ.1 kth
  have q4 := iσ.rg th 3; unfold rng at q4
  have q5 := I_4_7 iσ.1 kJ
  have ncb := iσ.ncb
  have r71 := I_4_1 iσ.1 kJ
  have r72 := I_4_2 iσ.1 kJ
  unfold wp_X6_statementHead
  unfold w_X6_statementHead_0
  refine i2_X6_isWord iσ kth (fun r22 pσ21 => ?_)
  intro xσ21
  by_cases hc6 : r22 ≠ 0
  · rw [if_pos hc6]
    unfold w_X6_statementHead_23
    rw [if_pos hc6]
    unfold w_X6_statementHead_48
    by_cases hc8 : r22 = 0
    · rw [if_pos hc8]
      unfold w_X6_statementHead_69
      refine ⟨J, h7, fun kk_J => ?_⟩
      by_cases hc9 : gI σ J 1 ≠ 16
      · rw [if_pos hc9]
        unfold w_X6_statementHead_87
        have hc : c < 16 := by omega
        obtain ⟨ko, go, ar, ear, eo⟩ := ho hc
        have kar : kO σ ar 115 := iσ.1.kd kJ rfl ear rfl
        have far := T_4_0 iσ.1 kJ ear
        have eo9 : gP σ ar (gI σ J 1).toNat = some o := by rw [cJ, Int.toNat_natCast]; exact eo
        refine ⟨J, h7, fun kk_J_1 => ?_⟩
        refine ⟨ar, ear, fun kk_ar => ?_⟩
        refine ⟨⟨by (first | omega | with_reducible assumption | with_reducible exact rng_toInt _ | with_reducible exact rng_wr _ | (unfold rng; omega) | (unfold rng at *; omega) | assumption), by (first | omega | with_reducible assumption | with_reducible exact rng_toInt _ | with_reducible exact rng_wr _ | (unfold rng; omega) | (unfold rng at *; omega) | assumption)⟩, ?_⟩
        intro σ34 eσ34
        have xσ34 : Ext σ σ34 := by rw [eσ34]; exact fun _ h => ⟨h, rfl, rfl⟩
        have iσ34 : IV σ34 pl gq ci gr nc ot LL N nu := by rw [eσ34]; exact iσ.wP kth (by decide) (by intro q; exact absurd q (by simp [lbN])) (by intro _ _; trivial) (by intro q; exact absurd q (by decide))
        have fσ34 : Fx [323, 324, 325, 326, 327, 328, 329, 330, 331, 332, 333, 334, 335, 336, 386, 387, 388, 389, 390, 392] gr σ σ34 := fσ.tr (Sk.fx (by rw [eσ34]; exact Sk.pP (by rw [fcdO kth (by decide)]; decide)))
        have oxcσ34 : OX o σ σ34 := oxσ.tr (by rw [eσ34]; exact OX.pP) (Ext.rfl' _)
        have wσ34 : gP σ34 th 8 = (gP σ ar (gI σ J 1).toNat) := by rw [eσ34]; exact up2_s _ _ _ _
        have kp10 : Kpt (gI σ34 J 1 = gI σ J 1) := (show gI σ34 J 1 = gI σ J 1 from by rw [eσ34])
        have kp11 : Kpt (gI σ34 J 7 = gI σ J 7) := (show gI σ34 J 7 = gI σ J 7 from by rw [eσ34])
        have kp12 : gI σ34 th 2 = gI σ th 2 := by rw [eσ34]
        have kp13 : gI σ34 th 3 = gI σ th 3 := by rw [eσ34]
        have kp14 : gI σ34 th 5 = gI σ th 5 := by rw [eσ34]
        have kp15 : gP σ34 J 0 = gP σ J 0 := by rw [eσ34]; exact up2_n _ _ (fun q => absurd q.2 (by decide))
        have kp16 : gP σ34 ar (gI σ J 1).toNat = gP σ ar (gI σ J 1).toNat := by rw [eσ34]; exact up2_n _ _ (fun q => absurd q.1 (kO.ne kar kth (by decide)))
        have kp17 : gP σ34 th 0 = gP σ th 0 := by rw [eσ34]; exact up2_n _ _ (fun q => absurd q.2 (by decide))
        have kp18 : gP σ34 th 7 = gP σ th 7 := by rw [eσ34]; exact up2_n _ _ (fun q => absurd q.2 (by decide))
        have kp19 : Kpt (gI σ34 J 2 = gI σ J 2) := (show gI σ34 J 2 = gI σ J 2 from by rw [eσ34])
        have kp20 : Kpt (gI σ34 o 3 = gI σ o 3) := (show gI σ34 o 3 = gI σ o 3 from by rw [eσ34])
        have kp21 : Kpt (gI σ34 o 4 = gI σ o 4) := (show gI σ34 o 4 = gI σ o 4 from by rw [eσ34])
        have kp22 : Kpt (gI σ34 o 6 = gI σ o 6) := (show gI σ34 o 6 = gI σ o 6 from by rw [eσ34])
        have kp23 : Kpt (gI σ34 o 7 = gI σ o 7) := (show gI σ34 o 7 = gI σ o 7 from by rw [eσ34])
        have kp24 : Kpt (gI σ34 o 8 = gI σ o 8) := (show gI σ34 o 8 = gI σ o 8 from by rw [eσ34])
        have kp25 : Kpt (gI σ34 o 9 = gI σ o 9) := (show gI σ34 o 9 = gI σ o 9 from by rw [eσ34])
        refine ⟨o, (wσ34.trans eo9), fun kk_o => ?_⟩
        refine i_X5_forget iσ34 (ko.up xσ34) (by (first | omega | with_reducible assumption | with_reducible exact rng_toInt _ | with_reducible exact rng_wr _ | (unfold rng; omega) | (unfold rng at *; omega) | assumption)) (by (first | omega | with_reducible assumption | with_reducible exact rng_toInt _ | with_reducible exact rng_wr _ | (unfold rng; omega) | (unfold rng at *; omega) | assumption)) (by (first | omega | with_reducible assumption | with_reducible exact rng_toInt _ | with_reducible exact rng_wr _ | (unfold rng; omega) | (unfold rng at *; omega) | assumption)) (fun σ35 _ iσ35 cσ35 oxσ35 pσ35 => ?_)
        intro xσ35
        have fσ35 : Fx [323, 324, 325, 326, 327, 328, 329, 330, 331, 332, 333, 334, 335, 336, 386, 387, 388, 389, 390, 392] gr σ σ35 := fσ34.tr (cσ35.mo (by decide))
        have oxcσ35 : OX o σ σ35 := oxcσ34.tr oxσ35 (xσ34)
        have kp26 : gI σ35 th 2 = gI σ34 th 2 := (cσ35.O (kth.up xσ34) (by decide)).1
        have kp27 : gI σ35 th 3 = gI σ34 th 3 := (cσ35.O (kth.up xσ34) (by decide)).1
        have kp28 : gI σ35 th 5 = gI σ34 th 5 := (cσ35.O (kth.up xσ34) (by decide)).1
        have kp29 : gI σ35 th 8 = gI σ34 th 8 := (cσ35.O (kth.up xσ34) (by decide)).1
        have kp30 : gP σ35 J 0 = gP σ34 J 0 := (cσ35.O (kJ.up xσ34) (by decide)).2.1
        have kp31 : gP σ35 ar (gI σ J 1).toNat = gP σ34 ar (gI σ J 1).toNat := (cσ35.A (kar.up xσ34) (by decide)).2.1
        have kp32 : gP σ35 th 0 = gP σ34 th 0 := (cσ35.O (kth.up xσ34) (by decide)).2.1
        have kp33 : gP σ35 th 7 = gP σ34 th 7 := (cσ35.O (kth.up xσ34) (by decide)).2.1
        have kp34 : gP σ35 th 8 = gP σ34 th 8 := (cσ35.O (kth.up xσ34) (by decide)).2.1
        have kp35 : Kpt (gI σ35 J 7 = gI σ J 7) := Eq.trans (show gI σ35 J 7 = gI σ34 J 7 from (cσ35.O (kJ.up xσ34) (by decide)).1) kp11
        have kp36 : Kpt (gI σ35 J 1 = gI σ J 1) := Eq.trans (show gI σ35 J 1 = gI σ34 J 1 from (cσ35.O (kJ.up xσ34) (by decide)).1) kp10
        have kp37 : Kpt (gI σ35 J 2 = gI σ J 2) := Eq.trans (show gI σ35 J 2 = gI σ34 J 2 from (cσ35.O (kJ.up xσ34) (by decide)).1) kp19
        have kvs : KV σ35 th := kv.mov (((cσ35.O (kth.up xσ34) (by decide)).1).trans (by rw [eσ34])) (((cσ35.O (kth.up xσ34) (by decide)).2.2).trans (by rw [eσ34]))
        have p8 : gP σ35 th 8 = some o := (kp34.trans (wσ34.trans eo9))
        rw [if_pos hc6]
        unfold w_X6_statementHead_138
        have ho39 : gI σ35 J 7 = gI σ J 7 := kp35
        have ho40 : gI σ35 J 1 = gI σ J 1 := kp36
        have ho41 : gI σ35 J 2 = gI σ J 2 := kp37
        refine ⟨by (first | omega | with_reducible assumption | with_reducible exact rng_toInt _ | with_reducible exact rng_wr _ | (unfold rng; omega) | (unfold rng at *; omega) | assumption), ?_⟩
        exact hQ σ35 r22 iσ35 fσ35 oxcσ35 (⟨by omega, ⟨hc, p8⟩, kvs, by omega, by omega, by omega, fun _ => by omega⟩)
      · rw [if_neg hc9]
        have hc9q := Classical.not_not.mp hc9
        unfold w_X6_statementHead_81
        refine i_X6_refuse iσ kth (by (first | omega | with_reducible assumption | with_reducible exact rng_toInt _ | with_reducible exact rng_wr _ | (unfold rng; omega) | (unfold rng at *; omega) | assumption)) (by (first | omega | with_reducible assumption | with_reducible exact rng_toInt _ | with_reducible exact rng_wr _ | (unfold rng; omega) | (unfold rng at *; omega) | assumption)) (by (first | omega | with_reducible assumption | with_reducible exact rng_toInt _ | with_reducible exact rng_wr _ | (unfold rng; omega) | (unfold rng at *; omega) | assumption)) (fun σ31 _ iσ31 cσ31 pσ31 => ?_) (fun σx LLx Nx nux E ix cx ux px => hX σx LLx Nx nux E ix (fσ.tr (cx.mo (by decide))) (ux) (by first | exact px | exact ⟨by have := px.1; omega, px.2⟩ | (first | omega | with_reducible assumption | with_reducible exact rng_toInt _ | with_reducible exact rng_wr _ | (unfold rng; omega) | (unfold rng at *; omega) | assumption)))
        intro xσ31
        exact pσ31.elim
    · rw [if_neg hc8]
      unfold w_X6_statementHead_52
      refine ⟨J, h7, fun kk_J_2 => ?_⟩
      have q43 := I_4_2 iσ.1 kJ
      by_cases hc42 : gI σ J 2 ≠ 4
      · rw [if_pos hc42]
        unfold w_X6_statementHead_69
        refine ⟨J, h7, fun kk_J_3 => ?_⟩
        by_cases hc44 : gI σ J 1 ≠ 16
        · rw [if_pos hc44]
          unfold w_X6_statementHead_87
          have hc : c < 16 := by omega
          obtain ⟨ko, go, ar, ear, eo⟩ := ho hc
          have kar : kO σ ar 115 := iσ.1.kd kJ rfl ear rfl
          have far := T_4_0 iσ.1 kJ ear
          have eo9 : gP σ ar (gI σ J 1).toNat = some o := by rw [cJ, Int.toNat_natCast]; exact eo
          refine ⟨J, h7, fun kk_J_4 => ?_⟩
          refine ⟨ar, ear, fun kk_ar_1 => ?_⟩
          refine ⟨⟨by (first | omega | with_reducible assumption | with_reducible exact rng_toInt _ | with_reducible exact rng_wr _ | (unfold rng; omega) | (unfold rng at *; omega) | assumption), by (first | omega | with_reducible assumption | with_reducible exact rng_toInt _ | with_reducible exact rng_wr _ | (unfold rng; omega) | (unfold rng at *; omega) | assumption)⟩, ?_⟩
          intro σ34_1 eσ34_1
          have xσ34_1 : Ext σ σ34_1 := by rw [eσ34_1]; exact fun _ h => ⟨h, rfl, rfl⟩
          have iσ34_1 : IV σ34_1 pl gq ci gr nc ot LL N nu := by rw [eσ34_1]; exact iσ.wP kth (by decide) (by intro q; exact absurd q (by simp [lbN])) (by intro _ _; trivial) (by intro q; exact absurd q (by decide))
          have fσ34_1 : Fx [323, 324, 325, 326, 327, 328, 329, 330, 331, 332, 333, 334, 335, 336, 386, 387, 388, 389, 390, 392] gr σ σ34_1 := fσ.tr (Sk.fx (by rw [eσ34_1]; exact Sk.pP (by rw [fcdO kth (by decide)]; decide)))
          have oxcσ34_1 : OX o σ σ34_1 := oxσ.tr (by rw [eσ34_1]; exact OX.pP) (Ext.rfl' _)
          have wσ34_1 : gP σ34_1 th 8 = (gP σ ar (gI σ J 1).toNat) := by rw [eσ34_1]; exact up2_s _ _ _ _
          have kp45 : Kpt (gI σ34_1 J 1 = gI σ J 1) := (show gI σ34_1 J 1 = gI σ J 1 from by rw [eσ34_1])
          have kp46 : Kpt (gI σ34_1 J 2 = gI σ J 2) := (show gI σ34_1 J 2 = gI σ J 2 from by rw [eσ34_1])
          have kp47 : Kpt (gI σ34_1 J 7 = gI σ J 7) := (show gI σ34_1 J 7 = gI σ J 7 from by rw [eσ34_1])
          have kp48 : gI σ34_1 th 2 = gI σ th 2 := by rw [eσ34_1]
          have kp49 : gI σ34_1 th 3 = gI σ th 3 := by rw [eσ34_1]
          have kp50 : gI σ34_1 th 5 = gI σ th 5 := by rw [eσ34_1]
          have kp51 : gP σ34_1 J 0 = gP σ J 0 := by rw [eσ34_1]; exact up2_n _ _ (fun q => absurd q.2 (by decide))
          have kp52 : gP σ34_1 ar (gI σ J 1).toNat = gP σ ar (gI σ J 1).toNat := by rw [eσ34_1]; exact up2_n _ _ (fun q => absurd q.1 (kO.ne kar kth (by decide)))
          have kp53 : gP σ34_1 th 0 = gP σ th 0 := by rw [eσ34_1]; exact up2_n _ _ (fun q => absurd q.2 (by decide))
          have kp54 : gP σ34_1 th 7 = gP σ th 7 := by rw [eσ34_1]; exact up2_n _ _ (fun q => absurd q.2 (by decide))
          have kp55 : Kpt (gI σ34_1 o 3 = gI σ o 3) := (show gI σ34_1 o 3 = gI σ o 3 from by rw [eσ34_1])
          have kp56 : Kpt (gI σ34_1 o 4 = gI σ o 4) := (show gI σ34_1 o 4 = gI σ o 4 from by rw [eσ34_1])
          have kp57 : Kpt (gI σ34_1 o 6 = gI σ o 6) := (show gI σ34_1 o 6 = gI σ o 6 from by rw [eσ34_1])
          have kp58 : Kpt (gI σ34_1 o 7 = gI σ o 7) := (show gI σ34_1 o 7 = gI σ o 7 from by rw [eσ34_1])
          have kp59 : Kpt (gI σ34_1 o 8 = gI σ o 8) := (show gI σ34_1 o 8 = gI σ o 8 from by rw [eσ34_1])
          have kp60 : Kpt (gI σ34_1 o 9 = gI σ o 9) := (show gI σ34_1 o 9 = gI σ o 9 from by rw [eσ34_1])
          refine ⟨o, (wσ34_1.trans eo9), fun kk_o_1 => ?_⟩
          refine i_X5_forget iσ34_1 (ko.up xσ34_1) (by (first | omega | with_reducible assumption | with_reducible exact rng_toInt _ | with_reducible exact rng_wr _ | (unfold rng; omega) | (unfold rng at *; omega) | assumption)) (by (first | omega | with_reducible assumption | with_reducible exact rng_toInt _ | with_reducible exact rng_wr _ | (unfold rng; omega) | (unfold rng at *; omega) | assumption)) (by (first | omega | with_reducible assumption | with_reducible exact rng_toInt _ | with_reducible exact rng_wr _ | (unfold rng; omega) | (unfold rng at *; omega) | assumption)) (fun σ35_1 _ iσ35_1 cσ35_1 oxσ35_1 pσ35_1 => ?_)
          intro xσ35_1
          have fσ35_1 : Fx [323, 324, 325, 326, 327, 328, 329, 330, 331, 332, 333, 334, 335, 336, 386, 387, 388, 389, 390, 392] gr σ σ35_1 := fσ34_1.tr (cσ35_1.mo (by decide))
          have oxcσ35_1 : OX o σ σ35_1 := oxcσ34_1.tr oxσ35_1 (xσ34_1)
          have kp61 : gI σ35_1 th 2 = gI σ34_1 th 2 := (cσ35_1.O (kth.up xσ34_1) (by decide)).1
          have kp62 : gI σ35_1 th 3 = gI σ34_1 th 3 := (cσ35_1.O (kth.up xσ34_1) (by decide)).1
          have kp63 : gI σ35_1 th 5 = gI σ34_1 th 5 := (cσ35_1.O (kth.up xσ34_1) (by decide)).1
          have kp64 : gI σ35_1 th 8 = gI σ34_1 th 8 := (cσ35_1.O (kth.up xσ34_1) (by decide)).1
          have kp65 : gP σ35_1 J 0 = gP σ34_1 J 0 := (cσ35_1.O (kJ.up xσ34_1) (by decide)).2.1
          have kp66 : gP σ35_1 ar (gI σ J 1).toNat = gP σ34_1 ar (gI σ J 1).toNat := (cσ35_1.A (kar.up xσ34_1) (by decide)).2.1
          have kp67 : gP σ35_1 th 0 = gP σ34_1 th 0 := (cσ35_1.O (kth.up xσ34_1) (by decide)).2.1
          have kp68 : gP σ35_1 th 7 = gP σ34_1 th 7 := (cσ35_1.O (kth.up xσ34_1) (by decide)).2.1
          have kp69 : gP σ35_1 th 8 = gP σ34_1 th 8 := (cσ35_1.O (kth.up xσ34_1) (by decide)).2.1
          have kp70 : Kpt (gI σ35_1 J 7 = gI σ J 7) := Eq.trans (show gI σ35_1 J 7 = gI σ34_1 J 7 from (cσ35_1.O (kJ.up xσ34_1) (by decide)).1) kp47
          have kp71 : Kpt (gI σ35_1 J 1 = gI σ J 1) := Eq.trans (show gI σ35_1 J 1 = gI σ34_1 J 1 from (cσ35_1.O (kJ.up xσ34_1) (by decide)).1) kp45
          have kp72 : Kpt (gI σ35_1 J 2 = gI σ J 2) := Eq.trans (show gI σ35_1 J 2 = gI σ34_1 J 2 from (cσ35_1.O (kJ.up xσ34_1) (by decide)).1) kp46
          have kvs : KV σ35_1 th := kv.mov (((cσ35_1.O (kth.up xσ34_1) (by decide)).1).trans (by rw [eσ34_1])) (((cσ35_1.O (kth.up xσ34_1) (by decide)).2.2).trans (by rw [eσ34_1]))
          have p8 : gP σ35_1 th 8 = some o := (kp69.trans (wσ34_1.trans eo9))
          rw [if_pos hc6]
          unfold w_X6_statementHead_138
          have ho74 : gI σ35_1 J 7 = gI σ J 7 := kp70
          have ho75 : gI σ35_1 J 1 = gI σ J 1 := kp71
          have ho76 : gI σ35_1 J 2 = gI σ J 2 := kp72
          refine ⟨by (first | omega | with_reducible assumption | with_reducible exact rng_toInt _ | with_reducible exact rng_wr _ | (unfold rng; omega) | (unfold rng at *; omega) | assumption), ?_⟩
          exact hQ σ35_1 r22 iσ35_1 fσ35_1 oxcσ35_1 (⟨by omega, ⟨hc, p8⟩, kvs, by omega, by omega, by omega, fun _ => by omega⟩)
        · rw [if_neg hc44]
          have hc44q := Classical.not_not.mp hc44
          unfold w_X6_statementHead_81
          refine i_X6_refuse iσ kth (by (first | omega | with_reducible assumption | with_reducible exact rng_toInt _ | with_reducible exact rng_wr _ | (unfold rng; omega) | (unfold rng at *; omega) | assumption)) (by (first | omega | with_reducible assumption | with_reducible exact rng_toInt _ | with_reducible exact rng_wr _ | (unfold rng; omega) | (unfold rng at *; omega) | assumption)) (by (first | omega | with_reducible assumption | with_reducible exact rng_toInt _ | with_reducible exact rng_wr _ | (unfold rng; omega) | (unfold rng at *; omega) | assumption)) (fun σ31_1 _ iσ31_1 cσ31_1 pσ31_1 => ?_) (fun σx LLx Nx nux E ix cx ux px => hX σx LLx Nx nux E ix (fσ.tr (cx.mo (by decide))) (ux) (by first | exact px | exact ⟨by have := px.1; omega, px.2⟩ | (first | omega | with_reducible assumption | with_reducible exact rng_toInt _ | with_reducible exact rng_wr _ | (unfold rng; omega) | (unfold rng at *; omega) | assumption)))
          intro xσ31_1
          exact pσ31_1.elim
      · rw [if_neg hc42]
        have hc42q := Classical.not_not.mp hc42
        unfold w_X6_statementHead_63
        refine i_X6_refuse iσ kth (by (first | omega | with_reducible assumption | with_reducible exact rng_toInt _ | with_reducible exact rng_wr _ | (unfold rng; omega) | (unfold rng at *; omega) | assumption)) (by (first | omega | with_reducible assumption | with_reducible exact rng_toInt _ | with_reducible exact rng_wr _ | (unfold rng; omega) | (unfold rng at *; omega) | assumption)) (by (first | omega | with_reducible assumption | with_reducible exact rng_toInt _ | with_reducible exact rng_wr _ | (unfold rng; omega) | (unfold rng at *; omega) | assumption)) (fun σ29 _ iσ29 cσ29 pσ29 => ?_) (fun σx LLx Nx nux E ix cx ux px => hX σx LLx Nx nux E ix (fσ.tr (cx.mo (by decide))) (ux) (by first | exact px | exact ⟨by have := px.1; omega, px.2⟩ | (first | omega | with_reducible assumption | with_reducible exact rng_toInt _ | with_reducible exact rng_wr _ | (unfold rng; omega) | (unfold rng at *; omega) | assumption)))
        intro xσ29
        exact pσ29.elim
  · rw [if_neg hc6]
    have hc6q := Classical.not_not.mp hc6
    unfold w_X6_statementHead_11
    by_cases hc77 : gI σ th 3 = 1
    · rw [if_pos hc77]
      unfold w_X6_statementHead_23
      rw [if_neg hc6]
      unfold w_X6_statementHead_27
      refine ⟨J, h7, fun kk_J_5 => ?_⟩
      refine i_X4_find iσ kJ (fun r25 pσ24 => ?_)
      intro xσ24
      by_cases hc79 : r25 = (-1)
      · rw [if_pos hc79]
        unfold w_X6_statementHead_48
        by_cases hc80 : r22 = 0
        · rw [if_pos hc80]
          unfold w_X6_statementHead_69
          refine ⟨J, h7, fun kk_J_6 => ?_⟩
          by_cases hc81 : gI σ J 1 ≠ 16
          · rw [if_pos hc81]
            unfold w_X6_statementHead_87
            have hc : c < 16 := by omega
            obtain ⟨ko, go, ar, ear, eo⟩ := ho hc
            have kar : kO σ ar 115 := iσ.1.kd kJ rfl ear rfl
            have far := T_4_0 iσ.1 kJ ear
            have eo9 : gP σ ar (gI σ J 1).toNat = some o := by rw [cJ, Int.toNat_natCast]; exact eo
            refine ⟨J, h7, fun kk_J_7 => ?_⟩
            refine ⟨ar, ear, fun kk_ar_2 => ?_⟩
            refine ⟨⟨by (first | omega | with_reducible assumption | with_reducible exact rng_toInt _ | with_reducible exact rng_wr _ | (unfold rng; omega) | (unfold rng at *; omega) | assumption), by (first | omega | with_reducible assumption | with_reducible exact rng_toInt _ | with_reducible exact rng_wr _ | (unfold rng; omega) | (unfold rng at *; omega) | assumption)⟩, ?_⟩
            intro σ34_2 eσ34_2
            have xσ34_2 : Ext σ σ34_2 := by rw [eσ34_2]; exact fun _ h => ⟨h, rfl, rfl⟩
            have iσ34_2 : IV σ34_2 pl gq ci gr nc ot LL N nu := by rw [eσ34_2]; exact iσ.wP kth (by decide) (by intro q; exact absurd q (by simp [lbN])) (by intro _ _; trivial) (by intro q; exact absurd q (by decide))
            have fσ34_2 : Fx [323, 324, 325, 326, 327, 328, 329, 330, 331, 332, 333, 334, 335, 336, 386, 387, 388, 389, 390, 392] gr σ σ34_2 := fσ.tr (Sk.fx (by rw [eσ34_2]; exact Sk.pP (by rw [fcdO kth (by decide)]; decide)))
            have oxcσ34_2 : OX o σ σ34_2 := oxσ.tr (by rw [eσ34_2]; exact OX.pP) (Ext.rfl' _)
            have wσ34_2 : gP σ34_2 th 8 = (gP σ ar (gI σ J 1).toNat) := by rw [eσ34_2]; exact up2_s _ _ _ _
            have kp82 : Kpt (gI σ34_2 J 1 = gI σ J 1) := (show gI σ34_2 J 1 = gI σ J 1 from by rw [eσ34_2])
            have kp83 : Kpt (gI σ34_2 J 7 = gI σ J 7) := (show gI σ34_2 J 7 = gI σ J 7 from by rw [eσ34_2])
            have kp84 : gI σ34_2 th 2 = gI σ th 2 := by rw [eσ34_2]
            have kp85 : gI σ34_2 th 3 = gI σ th 3 := by rw [eσ34_2]
            have kp86 : gI σ34_2 th 5 = gI σ th 5 := by rw [eσ34_2]
            have kp87 : gP σ34_2 J 0 = gP σ J 0 := by rw [eσ34_2]; exact up2_n _ _ (fun q => absurd q.2 (by decide))
            have kp88 : gP σ34_2 ar (gI σ J 1).toNat = gP σ ar (gI σ J 1).toNat := by rw [eσ34_2]; exact up2_n _ _ (fun q => absurd q.1 (kO.ne kar kth (by decide)))
            have kp89 : gP σ34_2 th 0 = gP σ th 0 := by rw [eσ34_2]; exact up2_n _ _ (fun q => absurd q.2 (by decide))
            have kp90 : gP σ34_2 th 7 = gP σ th 7 := by rw [eσ34_2]; exact up2_n _ _ (fun q => absurd q.2 (by decide))
            have kp91 : Kpt (gI σ34_2 J 2 = gI σ J 2) := (show gI σ34_2 J 2 = gI σ J 2 from by rw [eσ34_2])
            have kp92 : Kpt (gI σ34_2 o 3 = gI σ o 3) := (show gI σ34_2 o 3 = gI σ o 3 from by rw [eσ34_2])
            have kp93 : Kpt (gI σ34_2 o 4 = gI σ o 4) := (show gI σ34_2 o 4 = gI σ o 4 from by rw [eσ34_2])
            have kp94 : Kpt (gI σ34_2 o 6 = gI σ o 6) := (show gI σ34_2 o 6 = gI σ o 6 from by rw [eσ34_2])
            have kp95 : Kpt (gI σ34_2 o 7 = gI σ o 7) := (show gI σ34_2 o 7 = gI σ o 7 from by rw [eσ34_2])
            have kp96 : Kpt (gI σ34_2 o 8 = gI σ o 8) := (show gI σ34_2 o 8 = gI σ o 8 from by rw [eσ34_2])
            have kp97 : Kpt (gI σ34_2 o 9 = gI σ o 9) := (show gI σ34_2 o 9 = gI σ o 9 from by rw [eσ34_2])
            refine ⟨o, (wσ34_2.trans eo9), fun kk_o_2 => ?_⟩
            refine i_X5_forget iσ34_2 (ko.up xσ34_2) (by (first | omega | with_reducible assumption | with_reducible exact rng_toInt _ | with_reducible exact rng_wr _ | (unfold rng; omega) | (unfold rng at *; omega) | assumption)) (by (first | omega | with_reducible assumption | with_reducible exact rng_toInt _ | with_reducible exact rng_wr _ | (unfold rng; omega) | (unfold rng at *; omega) | assumption)) (by (first | omega | with_reducible assumption | with_reducible exact rng_toInt _ | with_reducible exact rng_wr _ | (unfold rng; omega) | (unfold rng at *; omega) | assumption)) (fun σ35_2 _ iσ35_2 cσ35_2 oxσ35_2 pσ35_2 => ?_)
            intro xσ35_2
            have fσ35_2 : Fx [323, 324, 325, 326, 327, 328, 329, 330, 331, 332, 333, 334, 335, 336, 386, 387, 388, 389, 390, 392] gr σ σ35_2 := fσ34_2.tr (cσ35_2.mo (by decide))
            have oxcσ35_2 : OX o σ σ35_2 := oxcσ34_2.tr oxσ35_2 (xσ34_2)
            have kp98 : gI σ35_2 th 2 = gI σ34_2 th 2 := (cσ35_2.O (kth.up xσ34_2) (by decide)).1
            have kp99 : gI σ35_2 th 3 = gI σ34_2 th 3 := (cσ35_2.O (kth.up xσ34_2) (by decide)).1
            have kp100 : gI σ35_2 th 5 = gI σ34_2 th 5 := (cσ35_2.O (kth.up xσ34_2) (by decide)).1
            have kp101 : gI σ35_2 th 8 = gI σ34_2 th 8 := (cσ35_2.O (kth.up xσ34_2) (by decide)).1
            have kp102 : gP σ35_2 J 0 = gP σ34_2 J 0 := (cσ35_2.O (kJ.up xσ34_2) (by decide)).2.1
            have kp103 : gP σ35_2 ar (gI σ J 1).toNat = gP σ34_2 ar (gI σ J 1).toNat := (cσ35_2.A (kar.up xσ34_2) (by decide)).2.1
            have kp104 : gP σ35_2 th 0 = gP σ34_2 th 0 := (cσ35_2.O (kth.up xσ34_2) (by decide)).2.1
            have kp105 : gP σ35_2 th 7 = gP σ34_2 th 7 := (cσ35_2.O (kth.up xσ34_2) (by decide)).2.1
            have kp106 : gP σ35_2 th 8 = gP σ34_2 th 8 := (cσ35_2.O (kth.up xσ34_2) (by decide)).2.1
            have kp107 : Kpt (gI σ35_2 J 7 = gI σ J 7) := Eq.trans (show gI σ35_2 J 7 = gI σ34_2 J 7 from (cσ35_2.O (kJ.up xσ34_2) (by decide)).1) kp83
            have kp108 : Kpt (gI σ35_2 J 1 = gI σ J 1) := Eq.trans (show gI σ35_2 J 1 = gI σ34_2 J 1 from (cσ35_2.O (kJ.up xσ34_2) (by decide)).1) kp82
            have kp109 : Kpt (gI σ35_2 J 2 = gI σ J 2) := Eq.trans (show gI σ35_2 J 2 = gI σ34_2 J 2 from (cσ35_2.O (kJ.up xσ34_2) (by decide)).1) kp91
            have kvs : KV σ35_2 th := kv.mov (((cσ35_2.O (kth.up xσ34_2) (by decide)).1).trans (by rw [eσ34_2])) (((cσ35_2.O (kth.up xσ34_2) (by decide)).2.2).trans (by rw [eσ34_2]))
            have p8 : gP σ35_2 th 8 = some o := (kp106.trans (wσ34_2.trans eo9))
            rw [if_neg hc6]
            unfold w_X6_statementHead_117
            refine ⟨o, (kp106.trans (wσ34_2.trans eo9)), fun kk_o_3 => ?_⟩
            intro σ38 eσ38
            have xσ38 : Ext σ35_2 σ38 := by rw [eσ38]; exact fun _ h => ⟨h, rfl, rfl⟩
            have iσ38 : IV σ38 pl gq ci gr nc ot LL N nu := by rw [eσ38]; exact iσ35_2.wJ (ko.up (xσ34_2.trans xσ35_2)) (by decide)
            have fσ38 : Fx [323, 324, 325, 326, 327, 328, 329, 330, 331, 332, 333, 334, 335, 336, 386, 387, 388, 389, 390, 392] gr σ σ38 := fσ35_2.tr (Sk.fx (by rw [eσ38]; exact Sk.pJ (by rw [fcdO (ko.up (xσ34_2.trans xσ35_2)) (by decide)]; decide)))
            have oxcσ38 : OX o σ σ38 := oxcσ35_2.tr (by rw [eσ38]; exact OX.pJ) (xσ34_2.trans xσ35_2)
            have kp111 : gI σ38 th 2 = gI σ35_2 th 2 := by rw [eσ38]
            have kp112 : gI σ38 th 3 = gI σ35_2 th 3 := by rw [eσ38]
            have kp113 : gI σ38 th 5 = gI σ35_2 th 5 := by rw [eσ38]
            have kp114 : gI σ38 th 8 = gI σ35_2 th 8 := by rw [eσ38]
            have kp115 : gP σ38 J 0 = gP σ35_2 J 0 := by rw [eσ38]
            have kp116 : gP σ38 ar (gI σ J 1).toNat = gP σ35_2 ar (gI σ J 1).toNat := by rw [eσ38]
            have kp117 : gP σ38 th 0 = gP σ35_2 th 0 := by rw [eσ38]
            have kp118 : gP σ38 th 7 = gP σ35_2 th 7 := by rw [eσ38]
            have kp119 : gP σ38 th 8 = gP σ35_2 th 8 := by rw [eσ38]
            have kp120 : Kpt (gI σ38 J 7 = gI σ J 7) := Eq.trans (show gI σ38 J 7 = gI σ35_2 J 7 from by rw [eσ38]) kp107
            have kp121 : Kpt (gI σ38 J 1 = gI σ J 1) := Eq.trans (show gI σ38 J 1 = gI σ35_2 J 1 from by rw [eσ38]) kp108
            have kp122 : Kpt (gI σ38 J 2 = gI σ J 2) := Eq.trans (show gI σ38 J 2 = gI σ35_2 J 2 from by rw [eσ38]) kp109
            have kp123 : Kpt (gI σ38 o 3 = gI σ35_2 o 3) := (show gI σ38 o 3 = gI σ35_2 o 3 from by rw [eσ38])
            have kp124 : Kpt (gI σ38 o 4 = gI σ35_2 o 4) := (show gI σ38 o 4 = gI σ35_2 o 4 from by rw [eσ38])
            have kp125 : Kpt (gI σ38 o 6 = gI σ35_2 o 6) := (show gI σ38 o 6 = gI σ35_2 o 6 from by rw [eσ38])
            have kp126 : Kpt (gI σ38 o 7 = gI σ35_2 o 7) := (show gI σ38 o 7 = gI σ35_2 o 7 from by rw [eσ38])
            have kp127 : Kpt (gI σ38 o 8 = gI σ35_2 o 8) := (show gI σ38 o 8 = gI σ35_2 o 8 from by rw [eσ38])
            have kp128 : Kpt (gI σ38 o 9 = gI σ35_2 o 9) := (show gI σ38 o 9 = gI σ35_2 o 9 from by rw [eσ38])
            refine i_X6_next iσ38 (kth.up (xσ34_2.trans (xσ35_2.trans xσ38))) (kp117.trans (kp104.trans (kp89.trans hX0))) (kX.up (xσ34_2.trans (xσ35_2.trans xσ38))) (((xσ34_2.trans (xσ35_2.trans xσ38)) tx kX.1).2.2.trans gX) (by (first | omega | with_reducible assumption | with_reducible exact rng_toInt _ | with_reducible exact rng_wr _ | (unfold rng; omega) | (unfold rng at *; omega) | assumption)) (by (first | omega | with_reducible assumption | with_reducible exact rng_toInt _ | with_reducible exact rng_wr _ | (unfold rng; omega) | (unfold rng at *; omega) | assumption)) (fun σ39 _ iσ39 cσ39 pσ39 => ?_) (fun σx LLx Nx nux E ix cx ux px => hX σx LLx Nx nux E ix (fσ38.tr (cx.mo (by decide))) (ux) (by first | exact px | exact ⟨by have := px.1; omega, px.2⟩ | (first | omega | with_reducible assumption | with_reducible exact rng_toInt _ | with_reducible exact rng_wr _ | (unfold rng; omega) | (unfold rng at *; omega) | assumption)))
            intro xσ39
            have fσ39 : Fx [323, 324, 325, 326, 327, 328, 329, 330, 331, 332, 333, 334, 335, 336, 386, 387, 388, 389, 390, 392] gr σ σ39 := fσ38.tr (cσ39.mo (by decide))
            have oxcσ39 : OX o σ σ39 := oxcσ38.tr (OX.fx cσ39 (by decide) (by decide)) (xσ34_2.trans (xσ35_2.trans xσ38))
            have kp129 : gI σ39 th 8 = gI σ38 th 8 := (cσ39.O (kth.up (xσ34_2.trans (xσ35_2.trans xσ38))) (by decide)).1
            have kp130 : gP σ39 J 0 = gP σ38 J 0 := (cσ39.O (kJ.up (xσ34_2.trans (xσ35_2.trans xσ38))) (by decide)).2.1
            have kp131 : gP σ39 ar (gI σ J 1).toNat = gP σ38 ar (gI σ J 1).toNat := (cσ39.A (kar.up (xσ34_2.trans (xσ35_2.trans xσ38))) (by decide)).2.1
            have kp132 : gP σ39 th 0 = gP σ38 th 0 := (cσ39.O (kth.up (xσ34_2.trans (xσ35_2.trans xσ38))) (by decide)).2.1
            have kp133 : gP σ39 th 7 = gP σ38 th 7 := (cσ39.O (kth.up (xσ34_2.trans (xσ35_2.trans xσ38))) (by decide)).2.1
            have kp134 : gP σ39 th 8 = gP σ38 th 8 := (cσ39.O (kth.up (xσ34_2.trans (xσ35_2.trans xσ38))) (by decide)).2.1
            have kp135 : Kpt (gI σ39 J 7 = gI σ J 7) := Eq.trans (show gI σ39 J 7 = gI σ38 J 7 from (cσ39.O (kJ.up (xσ34_2.trans (xσ35_2.trans xσ38))) (by decide)).1) kp120
            have kp136 : Kpt (gI σ39 J 1 = gI σ J 1) := Eq.trans (show gI σ39 J 1 = gI σ38 J 1 from (cσ39.O (kJ.up (xσ34_2.trans (xσ35_2.trans xσ38))) (by decide)).1) kp121
            have kp137 : Kpt (gI σ39 J 2 = gI σ J 2) := Eq.trans (show gI σ39 J 2 = gI σ38 J 2 from (cσ39.O (kJ.up (xσ34_2.trans (xσ35_2.trans xσ38))) (by decide)).1) kp122
            have kp138 : Kpt (gI σ39 o 3 = gI σ35_2 o 3) := Eq.trans (show gI σ39 o 3 = gI σ38 o 3 from (cσ39.O (ko.up (xσ34_2.trans (xσ35_2.trans xσ38))) (by decide)).1) kp123
            have kp139 : Kpt (gI σ39 o 4 = gI σ35_2 o 4) := Eq.trans (show gI σ39 o 4 = gI σ38 o 4 from (cσ39.O (ko.up (xσ34_2.trans (xσ35_2.trans xσ38))) (by decide)).1) kp124
            have kp140 : Kpt (gI σ39 o 6 = gI σ35_2 o 6) := Eq.trans (show gI σ39 o 6 = gI σ38 o 6 from (cσ39.O (ko.up (xσ34_2.trans (xσ35_2.trans xσ38))) (by decide)).1) kp125
            have kp141 : Kpt (gI σ39 o 7 = gI σ35_2 o 7) := Eq.trans (show gI σ39 o 7 = gI σ38 o 7 from (cσ39.O (ko.up (xσ34_2.trans (xσ35_2.trans xσ38))) (by decide)).1) kp126
            have kp142 : Kpt (gI σ39 o 8 = gI σ35_2 o 8) := Eq.trans (show gI σ39 o 8 = gI σ38 o 8 from (cσ39.O (ko.up (xσ34_2.trans (xσ35_2.trans xσ38))) (by decide)).1) kp127
            have kp143 : Kpt (gI σ39 o 9 = gI σ35_2 o 9) := Eq.trans (show gI σ39 o 9 = gI σ38 o 9 from (cσ39.O (ko.up (xσ34_2.trans (xσ35_2.trans xσ38))) (by decide)).1) kp128
            have r5σ39 := I_6_5 iσ39.1 (kth.up (xσ34_2.trans (xσ35_2.trans (xσ38.trans xσ39))))
            refine i_X6_wantSign iσ39 (kth.up (xσ34_2.trans (xσ35_2.trans (xσ38.trans xσ39)))) (kp132.trans (kp117.trans (kp104.trans (kp89.trans hX0)))) (kX.up (xσ34_2.trans (xσ35_2.trans (xσ38.trans xσ39)))) (((xσ34_2.trans (xσ35_2.trans (xσ38.trans xσ39))) tx kX.1).2.2.trans gX) (by (first | omega | with_reducible assumption | with_reducible exact rng_toInt _ | with_reducible exact rng_wr _ | (unfold rng; omega) | (unfold rng at *; omega) | assumption)) (by (first | omega | with_reducible assumption | with_reducible exact rng_toInt _ | with_reducible exact rng_wr _ | (unfold rng; omega) | (unfold rng at *; omega) | assumption)) (fun σ40 _ iσ40 cσ40 pσ40 => ?_) (fun σx LLx Nx nux E ix cx ux px => hX σx LLx Nx nux E ix (fσ39.tr (cx.mo (by decide))) (ux) (by first | exact px | exact ⟨by have := px.1; omega, px.2⟩ | (first | omega | with_reducible assumption | with_reducible exact rng_toInt _ | with_reducible exact rng_wr _ | (unfold rng; omega) | (unfold rng at *; omega) | assumption)))
            intro xσ40
            have fσ40 : Fx [323, 324, 325, 326, 327, 328, 329, 330, 331, 332, 333, 334, 335, 336, 386, 387, 388, 389, 390, 392] gr σ σ40 := fσ39.tr (cσ40.mo (by decide))
            have oxcσ40 : OX o σ σ40 := oxcσ39.tr (OX.fx cσ40 (by decide) (by decide)) (xσ34_2.trans (xσ35_2.trans (xσ38.trans xσ39)))
            have kp144 : gI σ40 th 8 = gI σ39 th 8 := (cσ40.O (kth.up (xσ34_2.trans (xσ35_2.trans (xσ38.trans xσ39)))) (by decide)).1
            have kp145 : gP σ40 J 0 = gP σ39 J 0 := (cσ40.O (kJ.up (xσ34_2.trans (xσ35_2.trans (xσ38.trans xσ39)))) (by decide)).2.1
            have kp146 : gP σ40 ar (gI σ J 1).toNat = gP σ39 ar (gI σ J 1).toNat := (cσ40.A (kar.up (xσ34_2.trans (xσ35_2.trans (xσ38.trans xσ39)))) (by decide)).2.1
            have kp147 : gP σ40 th 0 = gP σ39 th 0 := (cσ40.O (kth.up (xσ34_2.trans (xσ35_2.trans (xσ38.trans xσ39)))) (by decide)).2.1
            have kp148 : gP σ40 th 7 = gP σ39 th 7 := (cσ40.O (kth.up (xσ34_2.trans (xσ35_2.trans (xσ38.trans xσ39)))) (by decide)).2.1
            have kp149 : gP σ40 th 8 = gP σ39 th 8 := (cσ40.O (kth.up (xσ34_2.trans (xσ35_2.trans (xσ38.trans xσ39)))) (by decide)).2.1
            have kp150 : Kpt (gI σ40 J 7 = gI σ J 7) := Eq.trans (show gI σ40 J 7 = gI σ39 J 7 from (cσ40.O (kJ.up (xσ34_2.trans (xσ35_2.trans (xσ38.trans xσ39)))) (by decide)).1) kp135
            have kp151 : Kpt (gI σ40 J 1 = gI σ J 1) := Eq.trans (show gI σ40 J 1 = gI σ39 J 1 from (cσ40.O (kJ.up (xσ34_2.trans (xσ35_2.trans (xσ38.trans xσ39)))) (by decide)).1) kp136
            have kp152 : Kpt (gI σ40 J 2 = gI σ J 2) := Eq.trans (show gI σ40 J 2 = gI σ39 J 2 from (cσ40.O (kJ.up (xσ34_2.trans (xσ35_2.trans (xσ38.trans xσ39)))) (by decide)).1) kp137
            have kp153 : Kpt (gI σ40 o 3 = gI σ35_2 o 3) := Eq.trans (show gI σ40 o 3 = gI σ39 o 3 from (cσ40.O (ko.up (xσ34_2.trans (xσ35_2.trans (xσ38.trans xσ39)))) (by decide)).1) kp138
            have kp154 : Kpt (gI σ40 o 4 = gI σ35_2 o 4) := Eq.trans (show gI σ40 o 4 = gI σ39 o 4 from (cσ40.O (ko.up (xσ34_2.trans (xσ35_2.trans (xσ38.trans xσ39)))) (by decide)).1) kp139
            have kp155 : Kpt (gI σ40 o 6 = gI σ35_2 o 6) := Eq.trans (show gI σ40 o 6 = gI σ39 o 6 from (cσ40.O (ko.up (xσ34_2.trans (xσ35_2.trans (xσ38.trans xσ39)))) (by decide)).1) kp140
            have kp156 : Kpt (gI σ40 o 7 = gI σ35_2 o 7) := Eq.trans (show gI σ40 o 7 = gI σ39 o 7 from (cσ40.O (ko.up (xσ34_2.trans (xσ35_2.trans (xσ38.trans xσ39)))) (by decide)).1) kp141
            have kp157 : Kpt (gI σ40 o 8 = gI σ35_2 o 8) := Eq.trans (show gI σ40 o 8 = gI σ39 o 8 from (cσ40.O (ko.up (xσ34_2.trans (xσ35_2.trans (xσ38.trans xσ39)))) (by decide)).1) kp142
            have kp158 : Kpt (gI σ40 o 9 = gI σ35_2 o 9) := Eq.trans (show gI σ40 o 9 = gI σ39 o 9 from (cσ40.O (ko.up (xσ34_2.trans (xσ35_2.trans (xσ38.trans xσ39)))) (by decide)).1) kp143
            have kvs := pσ40.1
            have p8 : gP σ40 th 8 = some o := (kp149.trans (kp134.trans (kp119.trans (kp106.trans (wσ34_2.trans eo9)))))
            unfold w_X6_statementHead_138
            have ho159 : gI σ40 J 7 = gI σ J 7 := kp150
            have ho160 : gI σ40 J 1 = gI σ J 1 := kp151
            have ho161 : gI σ40 J 2 = gI σ J 2 := kp152
            have ho162 : gI σ40 o 3 = gI σ35_2 o 3 := kp153
            have ho163 : gI σ40 o 4 = gI σ35_2 o 4 := kp154
            have ho164 : gI σ40 o 6 = gI σ35_2 o 6 := kp155
            have ho165 : gI σ40 o 7 = gI σ35_2 o 7 := kp156
            have ho166 : gI σ40 o 8 = gI σ35_2 o 8 := kp157
            have ho167 : gI σ40 o 9 = gI σ35_2 o 9 := kp158
            refine ⟨by (first | omega | with_reducible assumption | with_reducible exact rng_toInt _ | with_reducible exact rng_wr _ | (unfold rng; omega) | (unfold rng at *; omega) | assumption), ?_⟩
            exact hQ σ40 r22 iσ40 fσ40 oxcσ40 (⟨by omega, ⟨hc, p8⟩, kvs, by omega, by omega, by omega, fun _ => by omega⟩)
          · rw [if_neg hc81]
            have hc81q := Classical.not_not.mp hc81
            unfold w_X6_statementHead_81
            refine i_X6_refuse iσ kth (by (first | omega | with_reducible assumption | with_reducible exact rng_toInt _ | with_reducible exact rng_wr _ | (unfold rng; omega) | (unfold rng at *; omega) | assumption)) (by (first | omega | with_reducible assumption | with_reducible exact rng_toInt _ | with_reducible exact rng_wr _ | (unfold rng; omega) | (unfold rng at *; omega) | assumption)) (by (first | omega | with_reducible assumption | with_reducible exact rng_toInt _ | with_reducible exact rng_wr _ | (unfold rng; omega) | (unfold rng at *; omega) | assumption)) (fun σ31_2 _ iσ31_2 cσ31_2 pσ31_2 => ?_) (fun σx LLx Nx nux E ix cx ux px => hX σx LLx Nx nux E ix (fσ.tr (cx.mo (by decide))) (ux) (by first | exact px | exact ⟨by have := px.1; omega, px.2⟩ | (first | omega | with_reducible assumption | with_reducible exact rng_toInt _ | with_reducible exact rng_wr _ | (unfold rng; omega) | (unfold rng at *; omega) | assumption)))
            intro xσ31_2
            exact pσ31_2.elim
        · rw [if_neg hc80]
          unfold w_X6_statementHead_52
          refine ⟨J, h7, fun kk_J_8 => ?_⟩
          have q169 := I_4_2 iσ.1 kJ
          by_cases hc168 : gI σ J 2 ≠ 4
          · rw [if_pos hc168]
            unfold w_X6_statementHead_69
            refine ⟨J, h7, fun kk_J_9 => ?_⟩
            by_cases hc170 : gI σ J 1 ≠ 16
            · rw [if_pos hc170]
              unfold w_X6_statementHead_87
              have hc : c < 16 := by omega
              obtain ⟨ko, go, ar, ear, eo⟩ := ho hc
              have kar : kO σ ar 115 := iσ.1.kd kJ rfl ear rfl
              have far := T_4_0 iσ.1 kJ ear
              have eo9 : gP σ ar (gI σ J 1).toNat = some o := by rw [cJ, Int.toNat_natCast]; exact eo
              refine ⟨J, h7, fun kk_J_10 => ?_⟩
              refine ⟨ar, ear, fun kk_ar_3 => ?_⟩
              refine ⟨⟨by (first | omega | with_reducible assumption | with_reducible exact rng_toInt _ | with_reducible exact rng_wr _ | (unfold rng; omega) | (unfold rng at *; omega) | assumption), by (first | omega | with_reducible assumption | with_reducible exact rng_toInt _ | with_reducible exact rng_wr _ | (unfold rng; omega) | (unfold rng at *; omega) | assumption)⟩, ?_⟩
              intro σ34_3 eσ34_3
              have xσ34_3 : Ext σ σ34_3 := by rw [eσ34_3]; exact fun _ h => ⟨h, rfl, rfl⟩
              have iσ34_3 : IV σ34_3 pl gq ci gr nc ot LL N nu := by rw [eσ34_3]; exact iσ.wP kth (by decide) (by intro q; exact absurd q (by simp [lbN])) (by intro _ _; trivial) (by intro q; exact absurd q (by decide))
              have fσ34_3 : Fx [323, 324, 325, 326, 327, 328, 329, 330, 331, 332, 333, 334, 335, 336, 386, 387, 388, 389, 390, 392] gr σ σ34_3 := fσ.tr (Sk.fx (by rw [eσ34_3]; exact Sk.pP (by rw [fcdO kth (by decide)]; decide)))
              have oxcσ34_3 : OX o σ σ34_3 := oxσ.tr (by rw [eσ34_3]; exact OX.pP) (Ext.rfl' _)
              have wσ34_3 : gP σ34_3 th 8 = (gP σ ar (gI σ J 1).toNat) := by rw [eσ34_3]; exact up2_s _ _ _ _
              have kp171 : Kpt (gI σ34_3 J 1 = gI σ J 1) := (show gI σ34_3 J 1 = gI σ J 1 from by rw [eσ34_3])
              have kp172 : Kpt (gI σ34_3 J 2 = gI σ J 2) := (show gI σ34_3 J 2 = gI σ J 2 from by rw [eσ34_3])
              have kp173 : Kpt (gI σ34_3 J 7 = gI σ J 7) := (show gI σ34_3 J 7 = gI σ J 7 from by rw [eσ34_3])
              have kp174 : gI σ34_3 th 2 = gI σ th 2 := by rw [eσ34_3]
              have kp175 : gI σ34_3 th 3 = gI σ th 3 := by rw [eσ34_3]
              have kp176 : gI σ34_3 th 5 = gI σ th 5 := by rw [eσ34_3]
              have kp177 : gP σ34_3 J 0 = gP σ J 0 := by rw [eσ34_3]; exact up2_n _ _ (fun q => absurd q.2 (by decide))
              have kp178 : gP σ34_3 ar (gI σ J 1).toNat = gP σ ar (gI σ J 1).toNat := by rw [eσ34_3]; exact up2_n _ _ (fun q => absurd q.1 (kO.ne kar kth (by decide)))
              have kp179 : gP σ34_3 th 0 = gP σ th 0 := by rw [eσ34_3]; exact up2_n _ _ (fun q => absurd q.2 (by decide))
              have kp180 : gP σ34_3 th 7 = gP σ th 7 := by rw [eσ34_3]; exact up2_n _ _ (fun q => absurd q.2 (by decide))
              have kp181 : Kpt (gI σ34_3 o 3 = gI σ o 3) := (show gI σ34_3 o 3 = gI σ o 3 from by rw [eσ34_3])
              have kp182 : Kpt (gI σ34_3 o 4 = gI σ o 4) := (show gI σ34_3 o 4 = gI σ o 4 from by rw [eσ34_3])
              have kp183 : Kpt (gI σ34_3 o 6 = gI σ o 6) := (show gI σ34_3 o 6 = gI σ o 6 from by rw [eσ34_3])
              have kp184 : Kpt (gI σ34_3 o 7 = gI σ o 7) := (show gI σ34_3 o 7 = gI σ o 7 from by rw [eσ34_3])
              have kp185 : Kpt (gI σ34_3 o 8 = gI σ o 8) := (show gI σ34_3 o 8 = gI σ o 8 from by rw [eσ34_3])
              have kp186 : Kpt (gI σ34_3 o 9 = gI σ o 9) := (show gI σ34_3 o 9 = gI σ o 9 from by rw [eσ34_3])
              refine ⟨o, (wσ34_3.trans eo9), fun kk_o_4 => ?_⟩
              refine i_X5_forget iσ34_3 (ko.up xσ34_3) (by (first | omega | with_reducible assumption | with_reducible exact rng_toInt _ | with_reducible exact rng_wr _ | (unfold rng; omega) | (unfold rng at *; omega) | assumption)) (by (first | omega | with_reducible assumption | with_reducible exact rng_toInt _ | with_reducible exact rng_wr _ | (unfold rng; omega) | (unfold rng at *; omega) | assumption)) (by (first | omega | with_reducible assumption | with_reducible exact rng_toInt _ | with_reducible exact rng_wr _ | (unfold rng; omega) | (unfold rng at *; omega) | assumption)) (fun σ35_3 _ iσ35_3 cσ35_3 oxσ35_3 pσ35_3 => ?_)
              intro xσ35_3
              have fσ35_3 : Fx [323, 324, 325, 326, 327, 328, 329, 330, 331, 332, 333, 334, 335, 336, 386, 387, 388, 389, 390, 392] gr σ σ35_3 := fσ34_3.tr (cσ35_3.mo (by decide))
              have oxcσ35_3 : OX o σ σ35_3 := oxcσ34_3.tr oxσ35_3 (xσ34_3)
              have kp187 : gI σ35_3 th 2 = gI σ34_3 th 2 := (cσ35_3.O (kth.up xσ34_3) (by decide)).1
              have kp188 : gI σ35_3 th 3 = gI σ34_3 th 3 := (cσ35_3.O (kth.up xσ34_3) (by decide)).1
              have kp189 : gI σ35_3 th 5 = gI σ34_3 th 5 := (cσ35_3.O (kth.up xσ34_3) (by decide)).1
              have kp190 : gI σ35_3 th 8 = gI σ34_3 th 8 := (cσ35_3.O (kth.up xσ34_3) (by decide)).1
              have kp191 : gP σ35_3 J 0 = gP σ34_3 J 0 := (cσ35_3.O (kJ.up xσ34_3) (by decide)).2.1
              have kp192 : gP σ35_3 ar (gI σ J 1).toNat = gP σ34_3 ar (gI σ J 1).toNat := (cσ35_3.A (kar.up xσ34_3) (by decide)).2.1
              have kp193 : gP σ35_3 th 0 = gP σ34_3 th 0 := (cσ35_3.O (kth.up xσ34_3) (by decide)).2.1
              have kp194 : gP σ35_3 th 7 = gP σ34_3 th 7 := (cσ35_3.O (kth.up xσ34_3) (by decide)).2.1
              have kp195 : gP σ35_3 th 8 = gP σ34_3 th 8 := (cσ35_3.O (kth.up xσ34_3) (by decide)).2.1
              have kp196 : Kpt (gI σ35_3 J 7 = gI σ J 7) := Eq.trans (show gI σ35_3 J 7 = gI σ34_3 J 7 from (cσ35_3.O (kJ.up xσ34_3) (by decide)).1) kp173
              have kp197 : Kpt (gI σ35_3 J 1 = gI σ J 1) := Eq.trans (show gI σ35_3 J 1 = gI σ34_3 J 1 from (cσ35_3.O (kJ.up xσ34_3) (by decide)).1) kp171
              have kp198 : Kpt (gI σ35_3 J 2 = gI σ J 2) := Eq.trans (show gI σ35_3 J 2 = gI σ34_3 J 2 from (cσ35_3.O (kJ.up xσ34_3) (by decide)).1) kp172
              have kvs : KV σ35_3 th := kv.mov (((cσ35_3.O (kth.up xσ34_3) (by decide)).1).trans (by rw [eσ34_3])) (((cσ35_3.O (kth.up xσ34_3) (by decide)).2.2).trans (by rw [eσ34_3]))
              have p8 : gP σ35_3 th 8 = some o := (kp195.trans (wσ34_3.trans eo9))
              rw [if_neg hc6]
              unfold w_X6_statementHead_117
              refine ⟨o, (kp195.trans (wσ34_3.trans eo9)), fun kk_o_5 => ?_⟩
              intro σ38_1 eσ38_1
              have xσ38_1 : Ext σ35_3 σ38_1 := by rw [eσ38_1]; exact fun _ h => ⟨h, rfl, rfl⟩
              have iσ38_1 : IV σ38_1 pl gq ci gr nc ot LL N nu := by rw [eσ38_1]; exact iσ35_3.wJ (ko.up (xσ34_3.trans xσ35_3)) (by decide)
              have fσ38_1 : Fx [323, 324, 325, 326, 327, 328, 329, 330, 331, 332, 333, 334, 335, 336, 386, 387, 388, 389, 390, 392] gr σ σ38_1 := fσ35_3.tr (Sk.fx (by rw [eσ38_1]; exact Sk.pJ (by rw [fcdO (ko.up (xσ34_3.trans xσ35_3)) (by decide)]; decide)))
              have oxcσ38_1 : OX o σ σ38_1 := oxcσ35_3.tr (by rw [eσ38_1]; exact OX.pJ) (xσ34_3.trans xσ35_3)
              have kp200 : gI σ38_1 th 2 = gI σ35_3 th 2 := by rw [eσ38_1]
              have kp201 : gI σ38_1 th 3 = gI σ35_3 th 3 := by rw [eσ38_1]
              have kp202 : gI σ38_1 th 5 = gI σ35_3 th 5 := by rw [eσ38_1]
              have kp203 : gI σ38_1 th 8 = gI σ35_3 th 8 := by rw [eσ38_1]
              have kp204 : gP σ38_1 J 0 = gP σ35_3 J 0 := by rw [eσ38_1]
              have kp205 : gP σ38_1 ar (gI σ J 1).toNat = gP σ35_3 ar (gI σ J 1).toNat := by rw [eσ38_1]
              have kp206 : gP σ38_1 th 0 = gP σ35_3 th 0 := by rw [eσ38_1]
              have kp207 : gP σ38_1 th 7 = gP σ35_3 th 7 := by rw [eσ38_1]
              have kp208 : gP σ38_1 th 8 = gP σ35_3 th 8 := by rw [eσ38_1]
              have kp209 : Kpt (gI σ38_1 J 7 = gI σ J 7) := Eq.trans (show gI σ38_1 J 7 = gI σ35_3 J 7 from by rw [eσ38_1]) kp196
              have kp210 : Kpt (gI σ38_1 J 1 = gI σ J 1) := Eq.trans (show gI σ38_1 J 1 = gI σ35_3 J 1 from by rw [eσ38_1]) kp197
              have kp211 : Kpt (gI σ38_1 J 2 = gI σ J 2) := Eq.trans (show gI σ38_1 J 2 = gI σ35_3 J 2 from by rw [eσ38_1]) kp198
              have kp212 : Kpt (gI σ38_1 o 3 = gI σ35_3 o 3) := (show gI σ38_1 o 3 = gI σ35_3 o 3 from by rw [eσ38_1])
              have kp213 : Kpt (gI σ38_1 o 4 = gI σ35_3 o 4) := (show gI σ38_1 o 4 = gI σ35_3 o 4 from by rw [eσ38_1])
              have kp214 : Kpt (gI σ38_1 o 6 = gI σ35_3 o 6) := (show gI σ38_1 o 6 = gI σ35_3 o 6 from by rw [eσ38_1])
              have kp215 : Kpt (gI σ38_1 o 7 = gI σ35_3 o 7) := (show gI σ38_1 o 7 = gI σ35_3 o 7 from by rw [eσ38_1])
              have kp216 : Kpt (gI σ38_1 o 8 = gI σ35_3 o 8) := (show gI σ38_1 o 8 = gI σ35_3 o 8 from by rw [eσ38_1])
              have kp217 : Kpt (gI σ38_1 o 9 = gI σ35_3 o 9) := (show gI σ38_1 o 9 = gI σ35_3 o 9 from by rw [eσ38_1])
              refine i_X6_next iσ38_1 (kth.up (xσ34_3.trans (xσ35_3.trans xσ38_1))) (kp206.trans (kp193.trans (kp179.trans hX0))) (kX.up (xσ34_3.trans (xσ35_3.trans xσ38_1))) (((xσ34_3.trans (xσ35_3.trans xσ38_1)) tx kX.1).2.2.trans gX) (by (first | omega | with_reducible assumption | with_reducible exact rng_toInt _ | with_reducible exact rng_wr _ | (unfold rng; omega) | (unfold rng at *; omega) | assumption)) (by (first | omega | with_reducible assumption | with_reducible exact rng_toInt _ | with_reducible exact rng_wr _ | (unfold rng; omega) | (unfold rng at *; omega) | assumption)) (fun σ39_1 _ iσ39_1 cσ39_1 pσ39_1 => ?_) (fun σx LLx Nx nux E ix cx ux px => hX σx LLx Nx nux E ix (fσ38_1.tr (cx.mo (by decide))) (ux) (by first | exact px | exact ⟨by have := px.1; omega, px.2⟩ | (first | omega | with_reducible assumption | with_reducible exact rng_toInt _ | with_reducible exact rng_wr _ | (unfold rng; omega) | (unfold rng at *; omega) | assumption)))
              intro xσ39_1
              have fσ39_1 : Fx [323, 324, 325, 326, 327, 328, 329, 330, 331, 332, 333, 334, 335, 336, 386, 387, 388, 389, 390, 392] gr σ σ39_1 := fσ38_1.tr (cσ39_1.mo (by decide))
              have oxcσ39_1 : OX o σ σ39_1 := oxcσ38_1.tr (OX.fx cσ39_1 (by decide) (by decide)) (xσ34_3.trans (xσ35_3.trans xσ38_1))
              have kp218 : gI σ39_1 th 8 = gI σ38_1 th 8 := (cσ39_1.O (kth.up (xσ34_3.trans (xσ35_3.trans xσ38_1))) (by decide)).1
              have kp219 : gP σ39_1 J 0 = gP σ38_1 J 0 := (cσ39_1.O (kJ.up (xσ34_3.trans (xσ35_3.trans xσ38_1))) (by decide)).2.1
              have kp220 : gP σ39_1 ar (gI σ J 1).toNat = gP σ38_1 ar (gI σ J 1).toNat := (cσ39_1.A (kar.up (xσ34_3.trans (xσ35_3.trans xσ38_1))) (by decide)).2.1
              have kp221 : gP σ39_1 th 0 = gP σ38_1 th 0 := (cσ39_1.O (kth.up (xσ34_3.trans (xσ35_3.trans xσ38_1))) (by decide)).2.1
              have kp222 : gP σ39_1 th 7 = gP σ38_1 th 7 := (cσ39_1.O (kth.up (xσ34_3.trans (xσ35_3.trans xσ38_1))) (by decide)).2.1
              have kp223 : gP σ39_1 th 8 = gP σ38_1 th 8 := (cσ39_1.O (kth.up (xσ34_3.trans (xσ35_3.trans xσ38_1))) (by decide)).2.1
              have kp224 : Kpt (gI σ39_1 J 7 = gI σ J 7) := Eq.trans (show gI σ39_1 J 7 = gI σ38_1 J 7 from (cσ39_1.O (kJ.up (xσ34_3.trans (xσ35_3.trans xσ38_1))) (by decide)).1) kp209
              have kp225 : Kpt (gI σ39_1 J 1 = gI σ J 1) := Eq.trans (show gI σ39_1 J 1 = gI σ38_1 J 1 from (cσ39_1.O (kJ.up (xσ34_3.trans (xσ35_3.trans xσ38_1))) (by decide)).1) kp210
              have kp226 : Kpt (gI σ39_1 J 2 = gI σ J 2) := Eq.trans (show gI σ39_1 J 2 = gI σ38_1 J 2 from (cσ39_1.O (kJ.up (xσ34_3.trans (xσ35_3.trans xσ38_1))) (by decide)).1) kp211
              have kp227 : Kpt (gI σ39_1 o 3 = gI σ35_3 o 3) := Eq.trans (show gI σ39_1 o 3 = gI σ38_1 o 3 from (cσ39_1.O (ko.up (xσ34_3.trans (xσ35_3.trans xσ38_1))) (by decide)).1) kp212
              have kp228 : Kpt (gI σ39_1 o 4 = gI σ35_3 o 4) := Eq.trans (show gI σ39_1 o 4 = gI σ38_1 o 4 from (cσ39_1.O (ko.up (xσ34_3.trans (xσ35_3.trans xσ38_1))) (by decide)).1) kp213
              have kp229 : Kpt (gI σ39_1 o 6 = gI σ35_3 o 6) := Eq.trans (show gI σ39_1 o 6 = gI σ38_1 o 6 from (cσ39_1.O (ko.up (xσ34_3.trans (xσ35_3.trans xσ38_1))) (by decide)).1) kp214
              have kp230 : Kpt (gI σ39_1 o 7 = gI σ35_3 o 7) := Eq.trans (show gI σ39_1 o 7 = gI σ38_1 o 7 from (cσ39_1.O (ko.up (xσ34_3.trans (xσ35_3.trans xσ38_1))) (by decide)).1) kp215
              have kp231 : Kpt (gI σ39_1 o 8 = gI σ35_3 o 8) := Eq.trans (show gI σ39_1 o 8 = gI σ38_1 o 8 from (cσ39_1.O (ko.up (xσ34_3.trans (xσ35_3.trans xσ38_1))) (by decide)).1) kp216
              have kp232 : Kpt (gI σ39_1 o 9 = gI σ35_3 o 9) := Eq.trans (show gI σ39_1 o 9 = gI σ38_1 o 9 from (cσ39_1.O (ko.up (xσ34_3.trans (xσ35_3.trans xσ38_1))) (by decide)).1) kp217
              have r5σ39_1 := I_6_5 iσ39_1.1 (kth.up (xσ34_3.trans (xσ35_3.trans (xσ38_1.trans xσ39_1))))
              refine i_X6_wantSign iσ39_1 (kth.up (xσ34_3.trans (xσ35_3.trans (xσ38_1.trans xσ39_1)))) (kp221.trans (kp206.trans (kp193.trans (kp179.trans hX0)))) (kX.up (xσ34_3.trans (xσ35_3.trans (xσ38_1.trans xσ39_1)))) (((xσ34_3.trans (xσ35_3.trans (xσ38_1.trans xσ39_1))) tx kX.1).2.2.trans gX) (by (first | omega | with_reducible assumption | with_reducible exact rng_toInt _ | with_reducible exact rng_wr _ | (unfold rng; omega) | (unfold rng at *; omega) | assumption)) (by (first | omega | with_reducible assumption | with_reducible exact rng_toInt _ | with_reducible exact rng_wr _ | (unfold rng; omega) | (unfold rng at *; omega) | assumption)) (fun σ40_1 _ iσ40_1 cσ40_1 pσ40_1 => ?_) (fun σx LLx Nx nux E ix cx ux px => hX σx LLx Nx nux E ix (fσ39_1.tr (cx.mo (by decide))) (ux) (by first | exact px | exact ⟨by have := px.1; omega, px.2⟩ | (first | omega | with_reducible assumption | with_reducible exact rng_toInt _ | with_reducible exact rng_wr _ | (unfold rng; omega) | (unfold rng at *; omega) | assumption)))
              intro xσ40_1
              have fσ40_1 : Fx [323, 324, 325, 326, 327, 328, 329, 330, 331, 332, 333, 334, 335, 336, 386, 387, 388, 389, 390, 392] gr σ σ40_1 := fσ39_1.tr (cσ40_1.mo (by decide))
              have oxcσ40_1 : OX o σ σ40_1 := oxcσ39_1.tr (OX.fx cσ40_1 (by decide) (by decide)) (xσ34_3.trans (xσ35_3.trans (xσ38_1.trans xσ39_1)))
              have kp233 : gI σ40_1 th 8 = gI σ39_1 th 8 := (cσ40_1.O (kth.up (xσ34_3.trans (xσ35_3.trans (xσ38_1.trans xσ39_1)))) (by decide)).1
              have kp234 : gP σ40_1 J 0 = gP σ39_1 J 0 := (cσ40_1.O (kJ.up (xσ34_3.trans (xσ35_3.trans (xσ38_1.trans xσ39_1)))) (by decide)).2.1
              have kp235 : gP σ40_1 ar (gI σ J 1).toNat = gP σ39_1 ar (gI σ J 1).toNat := (cσ40_1.A (kar.up (xσ34_3.trans (xσ35_3.trans (xσ38_1.trans xσ39_1)))) (by decide)).2.1
              have kp236 : gP σ40_1 th 0 = gP σ39_1 th 0 := (cσ40_1.O (kth.up (xσ34_3.trans (xσ35_3.trans (xσ38_1.trans xσ39_1)))) (by decide)).2.1
              have kp237 : gP σ40_1 th 7 = gP σ39_1 th 7 := (cσ40_1.O (kth.up (xσ34_3.trans (xσ35_3.trans (xσ38_1.trans xσ39_1)))) (by decide)).2.1
              have kp238 : gP σ40_1 th 8 = gP σ39_1 th 8 := (cσ40_1.O (kth.up (xσ34_3.trans (xσ35_3.trans (xσ38_1.trans xσ39_1)))) (by decide)).2.1
              have kp239 : Kpt (gI σ40_1 J 7 = gI σ J 7) := Eq.trans (show gI σ40_1 J 7 = gI σ39_1 J 7 from (cσ40_1.O (kJ.up (xσ34_3.trans (xσ35_3.trans (xσ38_1.trans xσ39_1)))) (by decide)).1) kp224
              have kp240 : Kpt (gI σ40_1 J 1 = gI σ J 1) := Eq.trans (show gI σ40_1 J 1 = gI σ39_1 J 1 from (cσ40_1.O (kJ.up (xσ34_3.trans (xσ35_3.trans (xσ38_1.trans xσ39_1)))) (by decide)).1) kp225
              have kp241 : Kpt (gI σ40_1 J 2 = gI σ J 2) := Eq.trans (show gI σ40_1 J 2 = gI σ39_1 J 2 from (cσ40_1.O (kJ.up (xσ34_3.trans (xσ35_3.trans (xσ38_1.trans xσ39_1)))) (by decide)).1) kp226
              have kp242 : Kpt (gI σ40_1 o 3 = gI σ35_3 o 3) := Eq.trans (show gI σ40_1 o 3 = gI σ39_1 o 3 from (cσ40_1.O (ko.up (xσ34_3.trans (xσ35_3.trans (xσ38_1.trans xσ39_1)))) (by decide)).1) kp227
              have kp243 : Kpt (gI σ40_1 o 4 = gI σ35_3 o 4) := Eq.trans (show gI σ40_1 o 4 = gI σ39_1 o 4 from (cσ40_1.O (ko.up (xσ34_3.trans (xσ35_3.trans (xσ38_1.trans xσ39_1)))) (by decide)).1) kp228
              have kp244 : Kpt (gI σ40_1 o 6 = gI σ35_3 o 6) := Eq.trans (show gI σ40_1 o 6 = gI σ39_1 o 6 from (cσ40_1.O (ko.up (xσ34_3.trans (xσ35_3.trans (xσ38_1.trans xσ39_1)))) (by decide)).1) kp229
              have kp245 : Kpt (gI σ40_1 o 7 = gI σ35_3 o 7) := Eq.trans (show gI σ40_1 o 7 = gI σ39_1 o 7 from (cσ40_1.O (ko.up (xσ34_3.trans (xσ35_3.trans (xσ38_1.trans xσ39_1)))) (by decide)).1) kp230
              have kp246 : Kpt (gI σ40_1 o 8 = gI σ35_3 o 8) := Eq.trans (show gI σ40_1 o 8 = gI σ39_1 o 8 from (cσ40_1.O (ko.up (xσ34_3.trans (xσ35_3.trans (xσ38_1.trans xσ39_1)))) (by decide)).1) kp231
              have kp247 : Kpt (gI σ40_1 o 9 = gI σ35_3 o 9) := Eq.trans (show gI σ40_1 o 9 = gI σ39_1 o 9 from (cσ40_1.O (ko.up (xσ34_3.trans (xσ35_3.trans (xσ38_1.trans xσ39_1)))) (by decide)).1) kp232
              have kvs := pσ40_1.1
              have p8 : gP σ40_1 th 8 = some o := (kp238.trans (kp223.trans (kp208.trans (kp195.trans (wσ34_3.trans eo9)))))
              unfold w_X6_statementHead_138
              have ho248 : gI σ40_1 J 7 = gI σ J 7 := kp239
              have ho249 : gI σ40_1 J 1 = gI σ J 1 := kp240
              have ho250 : gI σ40_1 J 2 = gI σ J 2 := kp241
              have ho251 : gI σ40_1 o 3 = gI σ35_3 o 3 := kp242
              have ho252 : gI σ40_1 o 4 = gI σ35_3 o 4 := kp243
              have ho253 : gI σ40_1 o 6 = gI σ35_3 o 6 := kp244
              have ho254 : gI σ40_1 o 7 = gI σ35_3 o 7 := kp245
              have ho255 : gI σ40_1 o 8 = gI σ35_3 o 8 := kp246
              have ho256 : gI σ40_1 o 9 = gI σ35_3 o 9 := kp247
              refine ⟨by (first | omega | with_reducible assumption | with_reducible exact rng_toInt _ | with_reducible exact rng_wr _ | (unfold rng; omega) | (unfold rng at *; omega) | assumption), ?_⟩
              exact hQ σ40_1 r22 iσ40_1 fσ40_1 oxcσ40_1 (⟨by omega, ⟨hc, p8⟩, kvs, by omega, by omega, by omega, fun _ => by omega⟩)
            · rw [if_neg hc170]
              have hc170q := Classical.not_not.mp hc170
              unfold w_X6_statementHead_81
              refine i_X6_refuse iσ kth (by (first | omega | with_reducible assumption | with_reducible exact rng_toInt _ | with_reducible exact rng_wr _ | (unfold rng; omega) | (unfold rng at *; omega) | assumption)) (by (first | omega | with_reducible assumption | with_reducible exact rng_toInt _ | with_reducible exact rng_wr _ | (unfold rng; omega) | (unfold rng at *; omega) | assumption)) (by (first | omega | with_reducible assumption | with_reducible exact rng_toInt _ | with_reducible exact rng_wr _ | (unfold rng; omega) | (unfold rng at *; omega) | assumption)) (fun σ31_3 _ iσ31_3 cσ31_3 pσ31_3 => ?_) (fun σx LLx Nx nux E ix cx ux px => hX σx LLx Nx nux E ix (fσ.tr (cx.mo (by decide))) (ux) (by first | exact px | exact ⟨by have := px.1; omega, px.2⟩ | (first | omega | with_reducible assumption | with_reducible exact rng_toInt _ | with_reducible exact rng_wr _ | (unfold rng; omega) | (unfold rng at *; omega) | assumption)))
              intro xσ31_3
              exact pσ31_3.elim
          · rw [if_neg hc168]
            have hc168q := Classical.not_not.mp hc168
            unfold w_X6_statementHead_63
            refine i_X6_refuse iσ kth (by (first | omega | with_reducible assumption | with_reducible exact rng_toInt _ | with_reducible exact rng_wr _ | (unfold rng; omega) | (unfold rng at *; omega) | assumption)) (by (first | omega | with_reducible assumption | with_reducible exact rng_toInt _ | with_reducible exact rng_wr _ | (unfold rng; omega) | (unfold rng at *; omega) | assumption)) (by (first | omega | with_reducible assumption | with_reducible exact rng_toInt _ | with_reducible exact rng_wr _ | (unfold rng; omega) | (unfold rng at *; omega) | assumption)) (fun σ29_1 _ iσ29_1 cσ29_1 pσ29_1 => ?_) (fun σx LLx Nx nux E ix cx ux px => hX σx LLx Nx nux E ix (fσ.tr (cx.mo (by decide))) (ux) (by first | exact px | exact ⟨by have := px.1; omega, px.2⟩ | (first | omega | with_reducible assumption | with_reducible exact rng_toInt _ | with_reducible exact rng_wr _ | (unfold rng; omega) | (unfold rng at *; omega) | assumption)))
            intro xσ29_1
            exact pσ29_1.elim
      · rw [if_neg hc79]
        unfold w_X6_statementHead_42
        refine i_X6_refuse iσ kth (by (first | omega | with_reducible assumption | with_reducible exact rng_toInt _ | with_reducible exact rng_wr _ | (unfold rng; omega) | (unfold rng at *; omega) | assumption)) (by (first | omega | with_reducible assumption | with_reducible exact rng_toInt _ | with_reducible exact rng_wr _ | (unfold rng; omega) | (unfold rng at *; omega) | assumption)) (by (first | omega | with_reducible assumption | with_reducible exact rng_toInt _ | with_reducible exact rng_wr _ | (unfold rng; omega) | (unfold rng at *; omega) | assumption)) (fun σ27 _ iσ27 cσ27 pσ27 => ?_) (fun σx LLx Nx nux E ix cx ux px => hX σx LLx Nx nux E ix (fσ.tr (cx.mo (by decide))) (ux) (by first | exact px | exact ⟨by have := px.1; omega, px.2⟩ | (first | omega | with_reducible assumption | with_reducible exact rng_toInt _ | with_reducible exact rng_wr _ | (unfold rng; omega) | (unfold rng at *; omega) | assumption)))
        intro xσ27
        exact pσ27.elim
    · rw [if_neg hc77]
      unfold w_X6_statementHead_19
      refine i_X6_cannotStand iσ kth (by (first | omega | with_reducible assumption | with_reducible exact rng_toInt _ | with_reducible exact rng_wr _ | (unfold rng; omega) | (unfold rng at *; omega) | assumption)) (fun σ23 _ iσ23 cσ23 pσ23 => ?_) (fun σx LLx Nx nux E ix cx ux px => hX σx LLx Nx nux E ix (fσ.tr (cx.mo (by decide))) (ux) (by first | exact px | exact ⟨by have := px.1; omega, px.2⟩ | (first | omega | with_reducible assumption | with_reducible exact rng_toInt _ | with_reducible exact rng_wr _ | (unfold rng; omega) | (unfold rng at *; omega) | assumption)))
      intro xσ23
      exact pσ23.elim
set_option maxHeartbeats 1000000 in
theorem i_X4_forget {σ : Sg} {pl : Nat} {gq ci gr nc : Nat → Nat} {ot : Nat → Nat → Int} {LL : Nat → List Nat} {N nu : Nat → Nat} {th : Nat} {q : Nat} (iσ : IV σ pl gq ci gr nc ot LL N nu) (kth : kO σ th 4) (gth : gq th = q) (hq : q ≠ nc 0 ∧ q ≤ 1) {Q : Sg → Unit → Prop} {X : Sg → String → Prop} (hQ : ∀ (σ' : Sg) (r : Unit), IV σ' pl gq ci gr nc ot LL N nu → Fx [257, 258, 263, 6592, 8320, 8448] gr σ σ' → (gI σ' th 1 = 0 ∧ gI σ' th 2 = 0 ∧ gI σ' th 7 = 0) → Q σ' r) : wp_X4_forget th σ Q X := by
  have fσ : Fx [257, 258, 263, 6592, 8320, 8448] gr σ σ := Fx.rf
  unfold wp_X4_forget
  unfold w_X4_forget_0
  intro σ8 eσ8
  have xσ8 : Ext σ σ8 := by rw [eσ8]; exact fun _ h => ⟨h, rfl, rfl⟩
  have iσ8 : IV σ8 pl gq ci gr nc ot LL N nu := by rw [eσ8]; exact iσ.wSj kth (by omega) (Or.inl rfl) (show (0 : Int) ≤ 0 ∧ 0 ≤ 16 from ⟨by omega, by omega⟩)
  have fσ8 : Fx [257, 258, 263, 6592, 8320, 8448] gr σ σ8 := fσ.tr (Sk.fx (by rw [eσ8]; exact Sk.pI (by rw [fcdO kth (by decide)]; decide)))
  have wσ8 : gI σ8 th 1 = 0 := by rw [eσ8]; exact up2_s _ _ _ _
  have kp1 : gI σ8 th 2 = gI σ th 2 := by rw [eσ8]; exact up2_n _ _ (fun q => absurd q.2 (by decide))
  have kp2 : gI σ8 th 7 = gI σ th 7 := by rw [eσ8]; exact up2_n _ _ (fun q => absurd q.2 (by decide))
  intro σ9 eσ9
  have xσ9 : Ext σ8 σ9 := by rw [eσ9]; exact fun _ h => ⟨h, rfl, rfl⟩
  have iσ9 : IV σ9 pl gq ci gr nc ot LL N nu := by rw [eσ9]; exact iσ8.wSj (kth.up xσ8) (by omega) (Or.inr rfl) (show (0 : Int) ≤ 0 ∧ 0 ≤ 4 from ⟨by omega, by omega⟩)
  have fσ9 : Fx [257, 258, 263, 6592, 8320, 8448] gr σ σ9 := fσ8.tr (Sk.fx (by rw [eσ9]; exact Sk.pI (by rw [fcdO (kth.up xσ8) (by decide)]; decide)))
  have wσ9 : gI σ9 th 2 = 0 := by rw [eσ9]; exact up2_s _ _ _ _
  have kp3 : gI σ9 th 1 = gI σ8 th 1 := by rw [eσ9]; exact up2_n _ _ (fun q => absurd q.2 (by decide))
  have kp4 : gI σ9 th 7 = gI σ8 th 7 := by rw [eσ9]; exact up2_n _ _ (fun q => absurd q.2 (by decide))
  intro σ10 eσ10
  have xσ10 : Ext σ9 σ10 := by rw [eσ10]; exact fun _ h => ⟨h, rfl, rfl⟩
  have iσ10 : IV σ10 pl gq ci gr nc ot LL N nu := by rw [eσ10]; exact iσ9.wS7 (kth.up (xσ8.trans xσ9)) ⟨by omega, by omega⟩ (fun c _ => by omega)
  have fσ10 : Fx [257, 258, 263, 6592, 8320, 8448] gr σ σ10 := fσ9.tr (Sk.fx (by rw [eσ10]; exact Sk.pI (by rw [fcdO (kth.up (xσ8.trans xσ9)) (by decide)]; decide)))
  have wσ10 : gI σ10 th 7 = 0 := by rw [eσ10]; exact up2_s _ _ _ _
  have kp5 : gI σ10 th 1 = gI σ9 th 1 := by rw [eσ10]; exact up2_n _ _ (fun q => absurd q.2 (by decide))
  have kp6 : gI σ10 th 2 = gI σ9 th 2 := by rw [eσ10]; exact up2_n _ _ (fun q => absurd q.2 (by decide))
  obtain ⟨b, eb, fb⟩ := P_4_4 iσ10.1 (kth.up (xσ8.trans (xσ9.trans xσ10)))
  have mb : kO σ10 b 100 := iσ10.1.kd (kth.up (xσ8.trans (xσ9.trans xσ10))) rfl eb rfl
  refine i_J7_fill_53178 iσ10 eb mb (by (first | omega | with_reducible assumption | with_reducible exact rng_toInt _ | with_reducible exact rng_wr _ | (unfold rng; omega) | (unfold rng at *; omega) | assumption)) (by (first | omega | with_reducible assumption | with_reducible exact rng_toInt _ | with_reducible exact rng_wr _ | (unfold rng; omega) | (unfold rng at *; omega) | assumption)) (fun σ11 _ iσ11 cσ11 pσ11 => ?_)
  intro xσ11
  have fσ11 : Fx [257, 258, 263, 6592, 8320, 8448] gr σ σ11 := fσ10.tr (cσ11.mo (by decide))
  have kp7 : gI σ11 th 1 = gI σ10 th 1 := (cσ11.O (kth.up (xσ8.trans (xσ9.trans xσ10))) (by decide)).1
  have kp8 : gI σ11 th 2 = gI σ10 th 2 := (cσ11.O (kth.up (xσ8.trans (xσ9.trans xσ10))) (by decide)).1
  have kp9 : gI σ11 th 7 = gI σ10 th 7 := (cσ11.O (kth.up (xσ8.trans (xσ9.trans xσ10))) (by decide)).1
  have kp10 : gP σ11 th 4 = gP σ10 th 4 := (cσ11.O (kth.up (xσ8.trans (xσ9.trans xσ10))) (by decide)).2.1
  obtain ⟨b_1, eb_1, fb_1⟩ := P_4_12 iσ11.1 (kth.up (xσ8.trans (xσ9.trans (xσ10.trans xσ11))))
  have mb_1 : kO σ11 b_1 100 := iσ11.1.kd (kth.up (xσ8.trans (xσ9.trans (xσ10.trans xσ11)))) rfl eb_1 rfl
  refine i2_J7_fill_53178 iσ11 eb_1 mb_1 (by (first | omega | with_reducible assumption | with_reducible exact rng_toInt _ | with_reducible exact rng_wr _ | (unfold rng; omega) | (unfold rng at *; omega) | assumption)) (by (first | omega | with_reducible assumption | with_reducible exact rng_toInt _ | with_reducible exact rng_wr _ | (unfold rng; omega) | (unfold rng at *; omega) | assumption)) (fun σ12 _ iσ12 cσ12 pσ12 => ?_)
  intro xσ12
  have fσ12 : Fx [257, 258, 263, 6592, 8320, 8448] gr σ σ12 := fσ11.tr (cσ12.mo (by decide))
  have kp11 : gI σ12 th 1 = gI σ11 th 1 := (cσ12.O (kth.up (xσ8.trans (xσ9.trans (xσ10.trans xσ11)))) (by decide)).1
  have kp12 : gI σ12 th 2 = gI σ11 th 2 := (cσ12.O (kth.up (xσ8.trans (xσ9.trans (xσ10.trans xσ11)))) (by decide)).1
  have kp13 : gI σ12 th 7 = gI σ11 th 7 := (cσ12.O (kth.up (xσ8.trans (xσ9.trans (xσ10.trans xσ11)))) (by decide)).1
  have kp14 : gP σ12 th 12 = gP σ11 th 12 := (cσ12.O (kth.up (xσ8.trans (xσ9.trans (xσ10.trans xσ11)))) (by decide)).2.1
  have kp15 : gP σ12 th 4 = gP σ11 th 4 := (cσ12.O (kth.up (xσ8.trans (xσ9.trans (xσ10.trans xσ11)))) (by decide)).2.1
  have Lp33 : ∀ (fu33 : Nat) (τ33 : Sg) (v1 : Int), IV τ33 pl gq ci gr nc ot LL N nu → Fx [257, 258, 263, 6592, 8320, 8448] gr σ τ33 → Ext σ12 τ33 → ((0 ≤ v1 ∧ v1 ≤ 4) ∧ gI τ33 th 1 = 0 ∧ gI τ33 th 2 = 0 ∧ gI τ33 th 7 = 0) → ((4 - v1).toNat) < fu33 → wl_X4_forget_33 th Q X fu33 τ33 v1 := by
    intro fu33
    induction fu33 with
    | zero => intro _ _ _ _ _ _ h9; omega
    | succ fu33 ih33 =>
      intro τ33 v1 iτ33 fτ33 xτ33 hi33 hm33
      unfold wl_X4_forget_33
      have kp16 : gP τ33 th 12 = gP σ12 th 12 := (fτ33.O kth (by decide)).2.1.trans (fσ12.O kth (by decide)).2.1.symm
      have kp17 : gP τ33 th 4 = gP σ12 th 4 := (fτ33.O kth (by decide)).2.1.trans (fσ12.O kth (by decide)).2.1.symm
      unfold w_X4_forget_33
      by_cases hc18 : v1 ≥ 4
      · rw [if_pos hc18]
        unfold w_X4_forget_51
        exact hQ τ33 () iτ33 fτ33 (by (first | omega | with_reducible assumption | with_reducible exact rng_toInt _ | with_reducible exact rng_wr _ | (unfold rng; omega) | (unfold rng at *; omega) | assumption))
      · rw [if_neg hc18]
        unfold w_X4_forget_38
        obtain ⟨b_2, eb_2, fb_2⟩ := P_4_13 iτ33.1 (kth.up (xσ8.trans (xσ9.trans (xσ10.trans (xσ11.trans (xσ12.trans xτ33))))))
        have mb_2 : kO τ33 b_2 103 := iτ33.1.kd (kth.up (xσ8.trans (xσ9.trans (xσ10.trans (xσ11.trans (xσ12.trans xτ33)))))) rfl eb_2 rfl
        refine ⟨b_2, eb_2, fun kk_b_2 => ?_⟩
        refine ⟨⟨by (first | omega | with_reducible assumption | with_reducible exact rng_toInt _ | with_reducible exact rng_wr _ | (unfold rng; omega) | (unfold rng at *; omega) | assumption), by (first | omega | with_reducible assumption | with_reducible exact rng_toInt _ | with_reducible exact rng_wr _ | (unfold rng; omega) | (unfold rng at *; omega) | assumption)⟩, ?_⟩
        intro σ14 eσ14
        have xσ14 : Ext τ33 σ14 := by rw [eσ14]; exact fun _ h => ⟨h, rfl, rfl⟩
        have iσ14 : IV σ14 pl gq ci gr nc ot LL N nu := by rw [eσ14]; exact iτ33.wB mb_2 (by decide) (by first | exact rng_nB _ | exact rng_nZ _ | (first | omega | with_reducible assumption | with_reducible exact rng_toInt _ | with_reducible exact rng_wr _ | (unfold rng; omega) | (unfold rng at *; omega) | assumption))
        have fσ14 : Fx [257, 258, 263, 6592, 8320, 8448] gr σ σ14 := fτ33.tr (Sk.fx (by rw [eσ14]; exact Sk.pI (by rw [fcdA mb_2 (by decide)]; decide)))
        have wσ14 : gI σ14 b_2 v1.toNat = (nZ 0) := by rw [eσ14]; exact up2_s _ _ _ _
        have kp19 : gP σ14 th 12 = gP τ33 th 12 := by rw [eσ14]
        have kp20 : gP σ14 th 13 = gP τ33 th 13 := by rw [eσ14]
        have kp21 : gP σ14 th 4 = gP τ33 th 4 := by rw [eσ14]
        have kp22 : gI σ14 th 1 = gI τ33 th 1 := by rw [eσ14]; exact up2_n _ _ (fun q => absurd q.1 (kO.ne (kth.up (xσ8.trans (xσ9.trans (xσ10.trans (xσ11.trans (xσ12.trans xτ33)))))) mb_2 (by decide)))
        have kp23 : gI σ14 th 2 = gI τ33 th 2 := by rw [eσ14]; exact up2_n _ _ (fun q => absurd q.1 (kO.ne (kth.up (xσ8.trans (xσ9.trans (xσ10.trans (xσ11.trans (xσ12.trans xτ33)))))) mb_2 (by decide)))
        have kp24 : gI σ14 th 7 = gI τ33 th 7 := by rw [eσ14]; exact up2_n _ _ (fun q => absurd q.1 (kO.ne (kth.up (xσ8.trans (xσ9.trans (xσ10.trans (xσ11.trans (xσ12.trans xτ33)))))) mb_2 (by decide)))
        refine ⟨by (first | omega | with_reducible assumption | with_reducible exact rng_toInt _ | with_reducible exact rng_wr _ | (unfold rng; omega) | (unfold rng at *; omega) | assumption), ?_⟩
        exact ih33 σ14 (v1 + 1) iσ14 fσ14 (xτ33.trans xσ14) (by (first | omega | with_reducible assumption | with_reducible exact rng_toInt _ | with_reducible exact rng_wr _ | (unfold rng; omega) | (unfold rng at *; omega) | assumption)) (by (first | omega | with_reducible assumption | with_reducible exact rng_toInt _ | with_reducible exact rng_wr _ | (unfold rng; omega) | (unfold rng at *; omega) | assumption))
  exact ⟨_, Lp33 _ σ12 _ iσ12 fσ12 (Ext.rfl' _) (by (first | omega | with_reducible assumption | with_reducible exact rng_toInt _ | with_reducible exact rng_wr _ | (unfold rng; omega) | (unfold rng at *; omega) | assumption)) (Nat.lt_succ_self _)⟩

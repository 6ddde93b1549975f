set_option maxHeartbeats 4000000 in
theorem i_X6_outputText {σ : Sg} {pl : Nat} {gq ci gr nc : Nat → Nat} {ot : Nat → Nat → Int} {LL : Nat → List Nat} {N nu : Nat → Nat} {th : Nat} {tx J o q c : Nat} (iσ : IV σ pl gq ci gr nc ot LL N nu) (kth : kO σ th 6) (hX0 : gP σ th 0 = some tx) (kX : kO σ tx 102) (gX : gn σ tx = 1500) (h7 : gP σ th 7 = some J) (kJ : kO σ J 4) (h8 : gP σ th 8 = some o) (ko : kO σ o 5) (hJq : gq J = q) (hq : q ≠ nc 0 ∧ q ≤ 1) (go : gq o = 16 * q + c) (hc : c < 16) (cJ : gI σ J 1 = (c : Int)) (tf : gI σ th 5 ≤ gI σ th 2 ∧ (gI σ th 3 ≠ 0 → gI σ th 5 + 1 ≤ gI σ th 2)) (h5 : nu 5 < 24000) (lp : gI σ J 7 ≤ 2 * gI σ th 5) (f0 : gI σ o 3 = 0 ∧ gI σ o 4 = 0 ∧ gI σ o 7 = -1 ∧ gI σ o 8 = -1) (h2 : gI σ J 2 ≤ 3) {Q : Sg → Unit → Prop} {X : Sg → String → Prop} (hQ : ∀ (σ' : Sg) (r : Unit), IV σ' pl gq ci gr nc ot LL N nu → Fx [258, 323, 326, 327, 329, 386, 387, 388, 389, 390, 6464, 8384] gr σ σ' → OX o σ σ' → ((gI σ' th 5 ≤ gI σ' th 2 ∧ (gI σ' th 3 ≠ 0 → gI σ' th 5 + 1 ≤ gI σ' th 2)) ∧ gI σ' J 7 ≤ 2 * gI σ' th 5 ∧ OPR σ σ' gq q c o ∧ OUTR σ σ' J o c) → Q σ' r) (hX : ∀ (σ' : Sg) (LL' : Nat → List Nat) (N' nu' : Nat → Nat) (E : String), IV σ' pl gq ci gr nc ot LL' N' nu' → Fx [258, 323, 326, 327, 329, 386, 387, 388, 389, 390, 6464, 8384] gr σ σ' → NCX nu nu' → (LL' = LL ∧ N' = N ∧ E = "java/lang/IllegalArgumentException" ∧ gI σ' th 6 ≠ 0) → X σ' E) : wp_X6_outputText th σ Q X := by
  have fσ : Fx [258, 323, 326, 327, 329, 386, 387, 388, 389, 390, 6464, 8384] gr σ σ := Fx.rf
  have oxσ : OX o σ σ := OX.rf
  have q1 := I_4_1 iσ.1 kJ
  have q2 := I_6_5 iσ.1 kth
  have q3 := I_6_2 iσ.1 kth
  have q4 := iσ.rg th 3; unfold rng at q4
  have q5 := I_4_7 iσ.1 kJ
  have q6 := I_5_3 iσ.1 ko
  have q7 := I_5_4 iσ.1 ko
  have q8 := I_5_7 iσ.1 ko
  have q9 := I_5_8 iσ.1 ko
  have q10 := I_4_2 iσ.1 kJ
  have ncb := iσ.ncb
  have r70 := I_4_7 iσ.1 kJ
  have r71 := I_4_1 iσ.1 kJ
  unfold wp_X6_outputText
  unfold w_X6_outputText_0
  refine i_X6_next iσ kth hX0 kX (((Ext.rfl' _) tx kX.1).2.2.trans gX) (by (first | omega | with_reducible assumption | with_reducible exact rng_toInt _ | with_reducible exact rng_wr _ | (unfold rng; omega) | (unfold rng at *; omega) | assumption)) (by (first | omega | with_reducible assumption | with_reducible exact rng_toInt _ | with_reducible exact rng_wr _ | (unfold rng; omega) | (unfold rng at *; omega) | assumption)) (fun σ16 _ iσ16 cσ16 pσ16 => ?_) (fun σx LLx Nx nux E ix cx ux px => hX σx LLx Nx nux E ix (fσ.tr (cx.mo (by decide))) (ux) (by first | exact px | exact ⟨by have := px.1; omega, px.2⟩ | (first | omega | with_reducible assumption | with_reducible exact rng_toInt _ | with_reducible exact rng_wr _ | (unfold rng; omega) | (unfold rng at *; omega) | assumption)))
  intro xσ16
  have fσ16 : Fx [258, 323, 326, 327, 329, 386, 387, 388, 389, 390, 6464, 8384] gr σ σ16 := fσ.tr (cσ16.mo (by decide))
  have oxcσ16 : OX o σ σ16 := oxσ.tr (OX.fx cσ16 (by decide) (by decide)) (Ext.rfl' _)
  have kp11 : Kpt (gI σ16 J 1 = gI σ J 1) := (show gI σ16 J 1 = gI σ J 1 from (cσ16.O kJ (by decide)).1)
  have kp12 : Kpt (gI σ16 J 2 = gI σ J 2) := (show gI σ16 J 2 = gI σ J 2 from (cσ16.O kJ (by decide)).1)
  have kp13 : Kpt (gI σ16 J 7 = gI σ J 7) := (show gI σ16 J 7 = gI σ J 7 from (cσ16.O kJ (by decide)).1)
  have kp14 : Kpt (gI σ16 o 3 = gI σ o 3) := (show gI σ16 o 3 = gI σ o 3 from (cσ16.O ko (by decide)).1)
  have kp15 : Kpt (gI σ16 o 4 = gI σ o 4) := (show gI σ16 o 4 = gI σ o 4 from (cσ16.O ko (by decide)).1)
  have kp16 : Kpt (gI σ16 o 7 = gI σ o 7) := (show gI σ16 o 7 = gI σ o 7 from (cσ16.O ko (by decide)).1)
  have kp17 : Kpt (gI σ16 o 8 = gI σ o 8) := (show gI σ16 o 8 = gI σ o 8 from (cσ16.O ko (by decide)).1)
  have kp18 : gP σ16 th 0 = gP σ th 0 := (cσ16.O kth (by decide)).2.1
  have kp19 : gP σ16 th 7 = gP σ th 7 := (cσ16.O kth (by decide)).2.1
  have kp20 : gP σ16 th 8 = gP σ th 8 := (cσ16.O kth (by decide)).2.1
  have kp21 : Kpt (gI σ16 o 6 = gI σ o 6) := (show gI σ16 o 6 = gI σ o 6 from (cσ16.O ko (by decide)).1)
  have kp22 : Kpt (gI σ16 o 9 = gI σ o 9) := (show gI σ16 o 9 = gI σ o 9 from (cσ16.O ko (by decide)).1)
  have r5σ16 := I_6_5 iσ16.1 (kth.up xσ16)
  have ho23 : gI σ16 J 7 = gI σ J 7 := kp13
  have cp24 : (gI σ16 th 5 ≤ gI σ16 th 2 ∧ (gI σ16 th 3 ≠ 0 → gI σ16 th 5 + 1 ≤ gI σ16 th 2)) ∧ gI σ16 J 7 ≤ 2 * gI σ16 th 5 ∧ 0 ≤ gI σ16 th 5 := by omega
  clear pσ16 q3 q2
  have ho25 : gI σ16 J 1 = gI σ J 1 := kp11
  refine i_X6_firstInput iσ16 (kth.up xσ16) (kp19.trans h7) (kJ.up xσ16) (kp20.trans h8) (ko.up xσ16) (by (first | omega | with_reducible assumption | with_reducible exact rng_toInt _ | with_reducible exact rng_wr _ | (unfold rng; omega) | (unfold rng at *; omega) | assumption)) (by (first | omega | with_reducible assumption | with_reducible exact rng_toInt _ | with_reducible exact rng_wr _ | (unfold rng; omega) | (unfold rng at *; omega) | assumption)) (by (first | omega | with_reducible assumption | with_reducible exact rng_toInt _ | with_reducible exact rng_wr _ | (unfold rng; omega) | (unfold rng at *; omega) | assumption)) (by (first | omega | with_reducible assumption | with_reducible exact rng_toInt _ | with_reducible exact rng_wr _ | (unfold rng; omega) | (unfold rng at *; omega) | assumption)) (by (first | omega | with_reducible assumption | with_reducible exact rng_toInt _ | with_reducible exact rng_wr _ | (unfold rng; omega) | (unfold rng at *; omega) | assumption)) (by (first | omega | with_reducible assumption | with_reducible exact rng_toInt _ | with_reducible exact rng_wr _ | (unfold rng; omega) | (unfold rng at *; omega) | assumption)) (fun σ17 _ iσ17 cσ17 oxσ17 pσ17 => ?_) (fun σx LLx Nx nux E ix cx ux px => hX σx LLx Nx nux E ix (fσ16.tr (cx.mo (by decide))) (ux) (by first | exact px | exact ⟨by have := px.1; omega, px.2⟩ | (first | omega | with_reducible assumption | with_reducible exact rng_toInt _ | with_reducible exact rng_wr _ | (unfold rng; omega) | (unfold rng at *; omega) | assumption)))
  intro xσ17
  have fσ17 : Fx [258, 323, 326, 327, 329, 386, 387, 388, 389, 390, 6464, 8384] gr σ σ17 := fσ16.tr (cσ17.mo (by decide))
  have oxcσ17 : OX o σ σ17 := oxcσ16.tr oxσ17 (xσ16)
  have kp26 : gP σ17 th 0 = gP σ16 th 0 := (cσ17.O (kth.up xσ16) (by decide)).2.1
  have kp27 : gP σ17 th 7 = gP σ16 th 7 := (cσ17.O (kth.up xσ16) (by decide)).2.1
  have kp28 : gP σ17 th 8 = gP σ16 th 8 := (cσ17.O (kth.up xσ16) (by decide)).2.1
  have kp29 : gI σ17 th 2 = gI σ16 th 2 := (cσ17.O (kth.up xσ16) (by decide)).1
  have kp30 : gI σ17 th 3 = gI σ16 th 3 := (cσ17.O (kth.up xσ16) (by decide)).1
  have kp31 : gI σ17 th 5 = gI σ16 th 5 := (cσ17.O (kth.up xσ16) (by decide)).1
  have kp32 : Kpt (gI σ17 J 7 = gI σ J 7) := Eq.trans (show gI σ17 J 7 = gI σ16 J 7 from (cσ17.O (kJ.up xσ16) (by decide)).1) kp13
  have kp33 : Kpt (gI σ17 J 1 = gI σ J 1) := Eq.trans (show gI σ17 J 1 = gI σ16 J 1 from (cσ17.O (kJ.up xσ16) (by decide)).1) kp11
  have kp34 : Kpt (gI σ17 J 2 = gI σ J 2) := Eq.trans (show gI σ17 J 2 = gI σ16 J 2 from (cσ17.O (kJ.up xσ16) (by decide)).1) kp12
  have kp35 : Kpt (gI σ17 o 3 = gI σ o 3) := Eq.trans (show gI σ17 o 3 = gI σ16 o 3 from (cσ17.O (ko.up xσ16) (by decide)).1) kp14
  have kp36 : Kpt (gI σ17 o 4 = gI σ o 4) := Eq.trans (show gI σ17 o 4 = gI σ16 o 4 from (cσ17.O (ko.up xσ16) (by decide)).1) kp15
  have kp37 : Kpt (gI σ17 o 8 = gI σ o 8) := Eq.trans (show gI σ17 o 8 = gI σ16 o 8 from (cσ17.O (ko.up xσ16) (by decide)).1) kp17
  have kp38 : Kpt (gI σ17 o 9 = gI σ o 9) := Eq.trans (show gI σ17 o 9 = gI σ16 o 9 from (cσ17.O (ko.up xσ16) (by decide)).1) kp22
  refine i_X6_next iσ17 (kth.up (xσ16.trans xσ17)) (kp26.trans (kp18.trans hX0)) (kX.up (xσ16.trans xσ17)) (((xσ16.trans xσ17) tx kX.1).2.2.trans gX) (by (first | omega | with_reducible assumption | with_reducible exact rng_toInt _ | with_reducible exact rng_wr _ | (unfold rng; omega) | (unfold rng at *; omega) | assumption)) (by (first | omega | with_reducible assumption | with_reducible exact rng_toInt _ | with_reducible exact rng_wr _ | (unfold rng; omega) | (unfold rng at *; omega) | assumption)) (fun σ18 _ iσ18 cσ18 pσ18 => ?_) (fun σx LLx Nx nux E ix cx ux px => hX σx LLx Nx nux E ix (fσ17.tr (cx.mo (by decide))) (ux) (by first | exact px | exact ⟨by have := px.1; omega, px.2⟩ | (first | omega | with_reducible assumption | with_reducible exact rng_toInt _ | with_reducible exact rng_wr _ | (unfold rng; omega) | (unfold rng at *; omega) | assumption)))
  intro xσ18
  have fσ18 : Fx [258, 323, 326, 327, 329, 386, 387, 388, 389, 390, 6464, 8384] gr σ σ18 := fσ17.tr (cσ18.mo (by decide))
  have oxcσ18 : OX o σ σ18 := oxcσ17.tr (OX.fx cσ18 (by decide) (by decide)) (xσ16.trans xσ17)
  have kp39 : gP σ18 th 0 = gP σ17 th 0 := (cσ18.O (kth.up (xσ16.trans xσ17)) (by decide)).2.1
  have kp40 : gP σ18 th 7 = gP σ17 th 7 := (cσ18.O (kth.up (xσ16.trans xσ17)) (by decide)).2.1
  have kp41 : gP σ18 th 8 = gP σ17 th 8 := (cσ18.O (kth.up (xσ16.trans xσ17)) (by decide)).2.1
  have kp42 : Kpt (gI σ18 J 7 = gI σ J 7) := Eq.trans (show gI σ18 J 7 = gI σ17 J 7 from (cσ18.O (kJ.up (xσ16.trans xσ17)) (by decide)).1) kp32
  have kp43 : Kpt (gI σ18 J 1 = gI σ J 1) := Eq.trans (show gI σ18 J 1 = gI σ17 J 1 from (cσ18.O (kJ.up (xσ16.trans xσ17)) (by decide)).1) kp33
  have kp44 : Kpt (gI σ18 J 2 = gI σ J 2) := Eq.trans (show gI σ18 J 2 = gI σ17 J 2 from (cσ18.O (kJ.up (xσ16.trans xσ17)) (by decide)).1) kp34
  have kp45 : Kpt (gI σ18 o 3 = gI σ o 3) := Eq.trans (show gI σ18 o 3 = gI σ17 o 3 from (cσ18.O (ko.up (xσ16.trans xσ17)) (by decide)).1) kp35
  have kp46 : Kpt (gI σ18 o 4 = gI σ o 4) := Eq.trans (show gI σ18 o 4 = gI σ17 o 4 from (cσ18.O (ko.up (xσ16.trans xσ17)) (by decide)).1) kp36
  have kp47 : Kpt (gI σ18 o 6 = gI σ17 o 6) := (show gI σ18 o 6 = gI σ17 o 6 from (cσ18.O (ko.up (xσ16.trans xσ17)) (by decide)).1)
  have kp48 : Kpt (gI σ18 o 7 = gI σ17 o 7) := (show gI σ18 o 7 = gI σ17 o 7 from (cσ18.O (ko.up (xσ16.trans xσ17)) (by decide)).1)
  have kp49 : Kpt (gI σ18 o 8 = gI σ o 8) := Eq.trans (show gI σ18 o 8 = gI σ17 o 8 from (cσ18.O (ko.up (xσ16.trans xσ17)) (by decide)).1) kp37
  have kp50 : Kpt (gI σ18 o 9 = gI σ o 9) := Eq.trans (show gI σ18 o 9 = gI σ17 o 9 from (cσ18.O (ko.up (xσ16.trans xσ17)) (by decide)).1) kp38
  have r5σ18 := I_6_5 iσ18.1 (kth.up (xσ16.trans (xσ17.trans xσ18)))
  have ho51 : gI σ18 J 7 = gI σ J 7 := kp42
  have cp52 : (gI σ18 th 5 ≤ gI σ18 th 2 ∧ (gI σ18 th 3 ≠ 0 → gI σ18 th 5 + 1 ≤ gI σ18 th 2)) ∧ gI σ18 J 7 ≤ 2 * gI σ18 th 5 ∧ 0 ≤ gI σ18 th 5 := by omega
  clear pσ18 kp31 kp30 kp29 cp24
  refine ⟨J, (kp40.trans (kp27.trans (kp19.trans h7))), fun kk_J => ?_⟩
  refine ⟨o, (kp41.trans (kp28.trans (kp20.trans h8))), fun kk_o => ?_⟩
  obtain ⟨b, eb, fb⟩ := P_4_0 iσ18.1 (kJ.up (xσ16.trans (xσ17.trans xσ18)))
  have mb : kO σ18 b 115 := iσ18.1.kd (kJ.up (xσ16.trans (xσ17.trans xσ18))) rfl eb rfl
  refine ⟨b, eb, fun kk_b => ?_⟩
  have ho53 : gI σ18 o 7 = gI σ17 o 7 := kp48
  have q54 := I_5_7 iσ18.1 (ko.up (xσ16.trans (xσ17.trans xσ18)))
  refine ⟨⟨by (first | omega | with_reducible assumption | with_reducible exact rng_toInt _ | with_reducible exact rng_wr _ | (unfold rng; omega) | (unfold rng at *; omega) | assumption), by (first | omega | with_reducible assumption | with_reducible exact rng_toInt _ | with_reducible exact rng_wr _ | (unfold rng; omega) | (unfold rng at *; omega) | assumption)⟩, ?_⟩
  have ho55 : gI σ18 J 1 = gI σ J 1 := kp43
  have ho56 : gI σ18 J 2 = gI σ J 2 := kp44
  have ho57 : gI σ18 o 3 = gI σ o 3 := kp45
  have ho58 : gI σ18 o 4 = gI σ o 4 := kp46
  have ho59 : gI σ18 o 6 = gI σ17 o 6 := kp47
  have ho60 : gI σ18 o 8 = gI σ o 8 := kp49
  have ho61 : gI σ18 o 9 = gI σ o 9 := kp50
  obtain ⟨b_1, eb_1⟩ := P_115 iσ18.1 mb (k := (gI σ18 o 7).toNat) (by (first | omega | with_reducible assumption | with_reducible exact rng_toInt _ | with_reducible exact rng_wr _ | (unfold rng; omega) | (unfold rng at *; omega) | assumption))
  have fb_1 := T_115 iσ18.1 mb eb_1
  have mb_1 : kO σ18 b_1 5 := iσ18.1.kd mb rfl eb_1 rfl
  refine i_X5_addColumnsOf iσ18 (ko.up (xσ16.trans (xσ17.trans xσ18))) eb_1 mb_1 (by (first | omega | with_reducible assumption | with_reducible exact rng_toInt _ | with_reducible exact rng_wr _ | (unfold rng; omega) | (unfold rng at *; omega) | assumption)) (by (first | omega | with_reducible assumption | with_reducible exact rng_toInt _ | with_reducible exact rng_wr _ | (unfold rng; omega) | (unfold rng at *; omega) | assumption)) (by (first | omega | with_reducible assumption | with_reducible exact rng_toInt _ | with_reducible exact rng_wr _ | (unfold rng; omega) | (unfold rng at *; omega) | assumption)) (fun e => absurd (congrArg gq e) (by omega)) (fun σ22 _ iσ22 cσ22 oxσ22 pσ22 => ?_)
  intro xσ22
  have fσ22 : Fx [258, 323, 326, 327, 329, 386, 387, 388, 389, 390, 6464, 8384] gr σ σ22 := fσ18.tr (cσ22.mo (by decide))
  have oxcσ22 : OX o σ σ22 := oxcσ18.tr oxσ22 (xσ16.trans (xσ17.trans xσ18))
  have kp62 : Kpt (gI σ22 o 7 = gI σ17 o 7) := Eq.trans (show gI σ22 o 7 = gI σ18 o 7 from (cσ22.O (ko.up (xσ16.trans (xσ17.trans xσ18))) (by decide)).1) kp48
  have kp63 : gP σ22 J 0 = gP σ18 J 0 := (cσ22.O (kJ.up (xσ16.trans (xσ17.trans xσ18))) (by decide)).2.1
  have kp64 : gP σ22 b (gI σ18 o 7).toNat = gP σ18 b (gI σ18 o 7).toNat := (cσ22.A mb (by decide)).2.1
  have kp65 : gP σ22 th 0 = gP σ18 th 0 := (cσ22.O (kth.up (xσ16.trans (xσ17.trans xσ18))) (by decide)).2.1
  have kp66 : gP σ22 th 7 = gP σ18 th 7 := (cσ22.O (kth.up (xσ16.trans (xσ17.trans xσ18))) (by decide)).2.1
  have kp67 : gP σ22 th 8 = gP σ18 th 8 := (cσ22.O (kth.up (xσ16.trans (xσ17.trans xσ18))) (by decide)).2.1
  have kp68 : gI σ22 th 2 = gI σ18 th 2 := (cσ22.O (kth.up (xσ16.trans (xσ17.trans xσ18))) (by decide)).1
  have kp69 : gI σ22 th 3 = gI σ18 th 3 := (cσ22.O (kth.up (xσ16.trans (xσ17.trans xσ18))) (by decide)).1
  have kp70 : gI σ22 th 5 = gI σ18 th 5 := (cσ22.O (kth.up (xσ16.trans (xσ17.trans xσ18))) (by decide)).1
  have kp71 : Kpt (gI σ22 J 7 = gI σ J 7) := Eq.trans (show gI σ22 J 7 = gI σ18 J 7 from (cσ22.O (kJ.up (xσ16.trans (xσ17.trans xσ18))) (by decide)).1) kp42
  have kp72 : Kpt (gI σ22 J 1 = gI σ J 1) := Eq.trans (show gI σ22 J 1 = gI σ18 J 1 from (cσ22.O (kJ.up (xσ16.trans (xσ17.trans xσ18))) (by decide)).1) kp43
  have kp73 : Kpt (gI σ22 J 2 = gI σ J 2) := Eq.trans (show gI σ22 J 2 = gI σ18 J 2 from (cσ22.O (kJ.up (xσ16.trans (xσ17.trans xσ18))) (by decide)).1) kp44
  have kp74 : Kpt (gI σ22 o 4 = gI σ o 4) := Eq.trans (show gI σ22 o 4 = gI σ18 o 4 from (cσ22.O (ko.up (xσ16.trans (xσ17.trans xσ18))) (by decide)).1) kp46
  have kp75 : Kpt (gI σ22 o 6 = gI σ17 o 6) := Eq.trans (show gI σ22 o 6 = gI σ18 o 6 from (cσ22.O (ko.up (xσ16.trans (xσ17.trans xσ18))) (by decide)).1) kp47
  have kp76 : Kpt (gI σ22 o 8 = gI σ o 8) := Eq.trans (show gI σ22 o 8 = gI σ18 o 8 from (cσ22.O (ko.up (xσ16.trans (xσ17.trans xσ18))) (by decide)).1) kp49
  have kp77 : Kpt (gI σ22 o 9 = gI σ o 9) := Eq.trans (show gI σ22 o 9 = gI σ18 o 9 from (cσ22.O (ko.up (xσ16.trans (xσ17.trans xσ18))) (by decide)).1) kp50
  have fz : Fx [323, 326, 327, 386, 387, 388, 389, 390, 6464] gr σ σ22 := (((cσ16.mo (by decide)).tr (cσ17.mo (by decide))).tr (cσ18.mo (by decide))).tr (cσ22.mo (by decide))
  have r72 := I_4_2 iσ.1 kJ
  refine ⟨J, (kp66.trans (kp40.trans (kp27.trans (kp19.trans h7)))), fun kk_J_1 => ?_⟩
  refine ⟨o, (kp67.trans (kp41.trans (kp28.trans (kp20.trans h8)))), fun kk_o_1 => ?_⟩
  intro σ25 eσ25
  have xσ25 : Ext σ22 σ25 := by rw [eσ25]; exact fun _ h => ⟨h, rfl, rfl⟩
  have ho78 : gI σ22 J 2 = gI σ J 2 := kp73
  have q79 := I_4_2 iσ22.1 (kJ.up (xσ16.trans (xσ17.trans (xσ18.trans xσ22))))
  have iσ25 : IV σ25 pl gq ci gr nc ot LL N nu := by rw [eσ25]; exact iσ22.wSp (ko.up (xσ16.trans (xσ17.trans (xσ18.trans xσ22)))) (fun i hi => by omega) (by decide) (show (0 : Int) ≤ (gI σ22 J 2) ∧ (gI σ22 J 2) ≤ 9 from ⟨by omega, by omega⟩)
  have fσ25 : Fx [258, 323, 326, 327, 329, 386, 387, 388, 389, 390, 6464, 8384] gr σ σ25 := fσ22.tr (Sk.fx (by rw [eσ25]; exact Sk.pI (by rw [fcdO (ko.up (xσ16.trans (xσ17.trans (xσ18.trans xσ22)))) (by decide)]; decide)))
  have oxcσ25 : OX o σ σ25 := oxcσ22.tr (by rw [eσ25]; exact OX.pI (ko.up (xσ16.trans (xσ17.trans (xσ18.trans xσ22)))) (Or.inr rfl)) (xσ16.trans (xσ17.trans (xσ18.trans xσ22)))
  have wσ25 : gI σ25 o 9 = (gI σ22 J 2) := by rw [eσ25]; exact up2_s _ _ _ _
  have kp80 : Kpt (gI σ25 J 2 = gI σ J 2) := Eq.trans (show gI σ25 J 2 = gI σ22 J 2 from by rw [eσ25]; exact up2_n _ _ (fun q => absurd q.2 (by decide))) kp73
  have kp81 : gP σ25 J 0 = gP σ22 J 0 := by rw [eσ25]
  have kp82 : gP σ25 b (gI σ18 o 7).toNat = gP σ22 b (gI σ18 o 7).toNat := by rw [eσ25]
  have kp83 : gP σ25 th 0 = gP σ22 th 0 := by rw [eσ25]
  have kp84 : gP σ25 th 7 = gP σ22 th 7 := by rw [eσ25]
  have kp85 : gP σ25 th 8 = gP σ22 th 8 := by rw [eσ25]
  have kp86 : gI σ25 th 2 = gI σ22 th 2 := by rw [eσ25]; exact up2_n _ _ (fun q => absurd q.2 (by decide))
  have kp87 : gI σ25 th 3 = gI σ22 th 3 := by rw [eσ25]; exact up2_n _ _ (fun q => absurd q.2 (by decide))
  have kp88 : gI σ25 th 5 = gI σ22 th 5 := by rw [eσ25]; exact up2_n _ _ (fun q => absurd q.2 (by decide))
  have kp89 : Kpt (gI σ25 J 7 = gI σ J 7) := Eq.trans (show gI σ25 J 7 = gI σ22 J 7 from by rw [eσ25]; exact up2_n _ _ (fun q => absurd q.2 (by decide))) kp71
  have kp90 : Kpt (gI σ25 J 1 = gI σ J 1) := Eq.trans (show gI σ25 J 1 = gI σ22 J 1 from by rw [eσ25]; exact up2_n _ _ (fun q => absurd q.2 (by decide))) kp72
  have kp91 : Kpt (gI σ25 o 3 = gI σ22 o 3) := (show gI σ25 o 3 = gI σ22 o 3 from by rw [eσ25]; exact up2_n _ _ (fun q => absurd q.2 (by decide)))
  have kp92 : Kpt (gI σ25 o 4 = gI σ o 4) := Eq.trans (show gI σ25 o 4 = gI σ22 o 4 from by rw [eσ25]; exact up2_n _ _ (fun q => absurd q.2 (by decide))) kp74
  have kp93 : Kpt (gI σ25 o 6 = gI σ17 o 6) := Eq.trans (show gI σ25 o 6 = gI σ22 o 6 from by rw [eσ25]; exact up2_n _ _ (fun q => absurd q.2 (by decide))) kp75
  have kp94 : Kpt (gI σ25 o 7 = gI σ17 o 7) := Eq.trans (show gI σ25 o 7 = gI σ22 o 7 from by rw [eσ25]; exact up2_n _ _ (fun q => absurd q.2 (by decide))) kp62
  have kp95 : Kpt (gI σ25 o 8 = gI σ o 8) := Eq.trans (show gI σ25 o 8 = gI σ22 o 8 from by rw [eσ25]; exact up2_n _ _ (fun q => absurd q.2 (by decide))) kp76
  refine ⟨J, (kp84.trans (kp66.trans (kp40.trans (kp27.trans (kp19.trans h7))))), fun kk_J_2 => ?_⟩
  obtain ⟨b_2, eb_2, fb_2⟩ := P_4_3 iσ25.1 (kJ.up (xσ16.trans (xσ17.trans (xσ18.trans (xσ22.trans xσ25)))))
  have mb_2 : kO σ25 b_2 100 := iσ25.1.kd (kJ.up (xσ16.trans (xσ17.trans (xσ18.trans (xσ22.trans xσ25))))) rfl eb_2 rfl
  refine ⟨b_2, eb_2, fun kk_b_2 => ?_⟩
  have ho96 : gI σ25 J 2 = gI σ J 2 := kp80
  have q97 := I_4_2 iσ25.1 (kJ.up (xσ16.trans (xσ17.trans (xσ18.trans (xσ22.trans xσ25)))))
  refine ⟨⟨by (first | omega | with_reducible assumption | with_reducible exact rng_toInt _ | with_reducible exact rng_wr _ | (unfold rng; omega) | (unfold rng at *; omega) | assumption), by (first | omega | with_reducible assumption | with_reducible exact rng_toInt _ | with_reducible exact rng_wr _ | (unfold rng; omega) | (unfold rng at *; omega) | assumption)⟩, ?_⟩
  intro σ28 eσ28
  have xσ28 : Ext σ25 σ28 := by rw [eσ28]; exact fun _ h => ⟨h, rfl, rfl⟩
  have ho98 : gI σ25 J 1 = gI σ J 1 := kp90
  have q99 := I_4_1 iσ25.1 (kJ.up (xσ16.trans (xσ17.trans (xσ18.trans (xσ22.trans xσ25)))))
  have iσ28 : IV σ28 pl gq ci gr nc ot LL N nu := by rw [eσ28]; exact iσ25.wSo (kJ.up (xσ16.trans (xσ17.trans (xσ18.trans (xσ22.trans xσ25))))) (by omega) eb_2 ⟨by omega, by omega⟩
  have fσ28 : Fx [258, 323, 326, 327, 329, 386, 387, 388, 389, 390, 6464, 8384] gr σ σ28 := fσ25.tr (Sk.fx (by rw [eσ28]; exact Sk.pI (by rw [fcdI mb_2, show gr b_2 = 1 from by (first | omega | with_reducible assumption | with_reducible exact rng_toInt _ | with_reducible exact rng_wr _ | (unfold rng; omega) | (unfold rng at *; omega) | assumption)]; decide)))
  have oxcσ28 : OX o σ σ28 := oxcσ25.tr (by rw [eσ28]; exact OX.pI mb_2 (Or.inl (by decide))) (xσ16.trans (xσ17.trans (xσ18.trans (xσ22.trans xσ25))))
  have wσ28 : gI σ28 b_2 (gI σ25 J 2).toNat = (gI σ25 J 1) := by rw [eσ28]; exact up2_s _ _ _ _
  have kp100 : Kpt (gI σ28 J 1 = gI σ J 1) := Eq.trans (show gI σ28 J 1 = gI σ25 J 1 from by rw [eσ28]; exact up2_n _ _ (fun q => absurd q.1 (kO.ne (kJ.up (xσ16.trans (xσ17.trans (xσ18.trans (xσ22.trans xσ25))))) mb_2 (by decide)))) kp90
  have kp101 : Kpt (gI σ28 J 2 = gI σ J 2) := Eq.trans (show gI σ28 J 2 = gI σ25 J 2 from by rw [eσ28]; exact up2_n _ _ (fun q => absurd q.1 (kO.ne (kJ.up (xσ16.trans (xσ17.trans (xσ18.trans (xσ22.trans xσ25))))) mb_2 (by decide)))) kp80
  have kp102 : Kpt (gI σ28 o 9 = gI σ25 o 9) := (show gI σ28 o 9 = gI σ25 o 9 from by rw [eσ28]; exact up2_n _ _ (fun q => absurd q.1 (kO.ne (ko.up (xσ16.trans (xσ17.trans (xσ18.trans (xσ22.trans xσ25))))) mb_2 (by decide))))
  have kp103 : gP σ28 J 0 = gP σ25 J 0 := by rw [eσ28]
  have kp104 : gP σ28 J 3 = gP σ25 J 3 := by rw [eσ28]
  have kp105 : gP σ28 b (gI σ18 o 7).toNat = gP σ25 b (gI σ18 o 7).toNat := by rw [eσ28]
  have kp106 : gP σ28 th 0 = gP σ25 th 0 := by rw [eσ28]
  have kp107 : gP σ28 th 7 = gP σ25 th 7 := by rw [eσ28]
  have kp108 : gP σ28 th 8 = gP σ25 th 8 := by rw [eσ28]
  have kp109 : gI σ28 th 2 = gI σ25 th 2 := by rw [eσ28]; exact up2_n _ _ (fun q => absurd q.1 (kO.ne (kth.up (xσ16.trans (xσ17.trans (xσ18.trans (xσ22.trans xσ25))))) mb_2 (by decide)))
  have kp110 : gI σ28 th 3 = gI σ25 th 3 := by rw [eσ28]; exact up2_n _ _ (fun q => absurd q.1 (kO.ne (kth.up (xσ16.trans (xσ17.trans (xσ18.trans (xσ22.trans xσ25))))) mb_2 (by decide)))
  have kp111 : gI σ28 th 5 = gI σ25 th 5 := by rw [eσ28]; exact up2_n _ _ (fun q => absurd q.1 (kO.ne (kth.up (xσ16.trans (xσ17.trans (xσ18.trans (xσ22.trans xσ25))))) mb_2 (by decide)))
  have kp112 : Kpt (gI σ28 J 7 = gI σ J 7) := Eq.trans (show gI σ28 J 7 = gI σ25 J 7 from by rw [eσ28]; exact up2_n _ _ (fun q => absurd q.1 (kO.ne (kJ.up (xσ16.trans (xσ17.trans (xσ18.trans (xσ22.trans xσ25))))) mb_2 (by decide)))) kp89
  have kp113 : Kpt (gI σ28 o 3 = gI σ22 o 3) := Eq.trans (show gI σ28 o 3 = gI σ25 o 3 from by rw [eσ28]; exact up2_n _ _ (fun q => absurd q.1 (kO.ne (ko.up (xσ16.trans (xσ17.trans (xσ18.trans (xσ22.trans xσ25))))) mb_2 (by decide)))) kp91
  have kp114 : Kpt (gI σ28 o 4 = gI σ o 4) := Eq.trans (show gI σ28 o 4 = gI σ25 o 4 from by rw [eσ28]; exact up2_n _ _ (fun q => absurd q.1 (kO.ne (ko.up (xσ16.trans (xσ17.trans (xσ18.trans (xσ22.trans xσ25))))) mb_2 (by decide)))) kp92
  have kp115 : Kpt (gI σ28 o 6 = gI σ17 o 6) := Eq.trans (show gI σ28 o 6 = gI σ25 o 6 from by rw [eσ28]; exact up2_n _ _ (fun q => absurd q.1 (kO.ne (ko.up (xσ16.trans (xσ17.trans (xσ18.trans (xσ22.trans xσ25))))) mb_2 (by decide)))) kp93
  have kp116 : Kpt (gI σ28 o 7 = gI σ17 o 7) := Eq.trans (show gI σ28 o 7 = gI σ25 o 7 from by rw [eσ28]; exact up2_n _ _ (fun q => absurd q.1 (kO.ne (ko.up (xσ16.trans (xσ17.trans (xσ18.trans (xσ22.trans xσ25))))) mb_2 (by decide)))) kp94
  have kp117 : Kpt (gI σ28 o 8 = gI σ o 8) := Eq.trans (show gI σ28 o 8 = gI σ25 o 8 from by rw [eσ28]; exact up2_n _ _ (fun q => absurd q.1 (kO.ne (ko.up (xσ16.trans (xσ17.trans (xσ18.trans (xσ22.trans xσ25))))) mb_2 (by decide)))) kp95
  refine ⟨J, (kp107.trans (kp84.trans (kp66.trans (kp40.trans (kp27.trans (kp19.trans h7)))))), fun kk_J_3 => ?_⟩
  have ho118 : gI σ28 J 2 = gI σ J 2 := kp101
  have q119 := I_4_2 iσ28.1 (kJ.up (xσ16.trans (xσ17.trans (xσ18.trans (xσ22.trans (xσ25.trans xσ28))))))
  refine ⟨by (first | omega | with_reducible assumption | with_reducible exact rng_toInt _ | with_reducible exact rng_wr _ | (unfold rng; omega) | (unfold rng at *; omega) | assumption), ?_⟩
  intro σ30 eσ30
  have xσ30 : Ext σ28 σ30 := by rw [eσ30]; exact fun _ h => ⟨h, rfl, rfl⟩
  have iσ30 : IV σ30 pl gq ci gr nc ot LL N nu := by rw [eσ30]; exact iσ28.wSj (kJ.up (xσ16.trans (xσ17.trans (xσ18.trans (xσ22.trans (xσ25.trans xσ28)))))) (by omega) (Or.inr rfl) (show (0 : Int) ≤ (gI σ28 J 2 + 1) ∧ (gI σ28 J 2 + 1) ≤ 4 from ⟨by omega, by omega⟩)
  have fσ30 : Fx [258, 323, 326, 327, 329, 386, 387, 388, 389, 390, 6464, 8384] gr σ σ30 := fσ28.tr (Sk.fx (by rw [eσ30]; exact Sk.pI (by rw [fcdO (kJ.up (xσ16.trans (xσ17.trans (xσ18.trans (xσ22.trans (xσ25.trans xσ28)))))) (by decide)]; decide)))
  have oxcσ30 : OX o σ σ30 := oxcσ28.tr (by rw [eσ30]; exact OX.pI (kJ.up (xσ16.trans (xσ17.trans (xσ18.trans (xσ22.trans (xσ25.trans xσ28)))))) (Or.inl (by decide))) (xσ16.trans (xσ17.trans (xσ18.trans (xσ22.trans (xσ25.trans xσ28)))))
  have wσ30 : gI σ30 J 2 = (gI σ28 J 2 + 1) := by rw [eσ30]; exact up2_s _ _ _ _
  have kp120 : gP σ30 J 0 = gP σ28 J 0 := by rw [eσ30]
  have kp121 : gP σ30 J 3 = gP σ28 J 3 := by rw [eσ30]
  have kp122 : gP σ30 b (gI σ18 o 7).toNat = gP σ28 b (gI σ18 o 7).toNat := by rw [eσ30]
  have kp123 : gP σ30 th 0 = gP σ28 th 0 := by rw [eσ30]
  have kp124 : gP σ30 th 7 = gP σ28 th 7 := by rw [eσ30]
  have kp125 : gP σ30 th 8 = gP σ28 th 8 := by rw [eσ30]
  have kp126 : gI σ30 th 2 = gI σ28 th 2 := by rw [eσ30]; exact up2_n _ _ (fun q => absurd q.1 (kO.ne (kth.up (xσ16.trans (xσ17.trans (xσ18.trans (xσ22.trans (xσ25.trans xσ28)))))) (kJ.up (xσ16.trans (xσ17.trans (xσ18.trans (xσ22.trans (xσ25.trans xσ28)))))) (by decide)))
  have kp127 : gI σ30 th 3 = gI σ28 th 3 := by rw [eσ30]; exact up2_n _ _ (fun q => absurd q.2 (by decide))
  have kp128 : gI σ30 th 5 = gI σ28 th 5 := by rw [eσ30]; exact up2_n _ _ (fun q => absurd q.2 (by decide))
  have kp129 : Kpt (gI σ30 J 7 = gI σ J 7) := Eq.trans (show gI σ30 J 7 = gI σ28 J 7 from by rw [eσ30]; exact up2_n _ _ (fun q => absurd q.2 (by decide))) kp112
  have kp130 : Kpt (gI σ30 J 1 = gI σ J 1) := Eq.trans (show gI σ30 J 1 = gI σ28 J 1 from by rw [eσ30]; exact up2_n _ _ (fun q => absurd q.2 (by decide))) kp100
  have kp131 : Kpt (gI σ30 o 3 = gI σ22 o 3) := Eq.trans (show gI σ30 o 3 = gI σ28 o 3 from by rw [eσ30]; exact up2_n _ _ (fun q => absurd q.2 (by decide))) kp113
  have kp132 : Kpt (gI σ30 o 4 = gI σ o 4) := Eq.trans (show gI σ30 o 4 = gI σ28 o 4 from by rw [eσ30]; exact up2_n _ _ (fun q => absurd q.2 (by decide))) kp114
  have kp133 : Kpt (gI σ30 o 6 = gI σ17 o 6) := Eq.trans (show gI σ30 o 6 = gI σ28 o 6 from by rw [eσ30]; exact up2_n _ _ (fun q => absurd q.2 (by decide))) kp115
  have kp134 : Kpt (gI σ30 o 7 = gI σ17 o 7) := Eq.trans (show gI σ30 o 7 = gI σ28 o 7 from by rw [eσ30]; exact up2_n _ _ (fun q => absurd q.2 (by decide))) kp116
  have kp135 : Kpt (gI σ30 o 8 = gI σ o 8) := Eq.trans (show gI σ30 o 8 = gI σ28 o 8 from by rw [eσ30]; exact up2_n _ _ (fun q => absurd q.2 (by decide))) kp117
  have kp136 : Kpt (gI σ30 o 9 = gI σ25 o 9) := Eq.trans (show gI σ30 o 9 = gI σ28 o 9 from by rw [eσ30]; exact up2_n _ _ (fun q => absurd q.2 (by decide))) kp102
  have ho137 : gI σ30 J 7 = gI σ J 7 := kp129
  have ho138 : gI σ30 J 1 = gI σ J 1 := kp130
  have ho139 : gI σ30 o 3 = gI σ22 o 3 := kp131
  have ho140 : gI σ30 o 4 = gI σ o 4 := kp132
  have ho141 : gI σ30 o 6 = gI σ17 o 6 := kp133
  have ho142 : gI σ30 o 7 = gI σ17 o 7 := kp134
  have ho143 : gI σ30 o 8 = gI σ o 8 := kp135
  have ho144 : gI σ30 o 9 = gI σ25 o 9 := kp136
  exact hQ σ30 () iσ30 fσ30 oxcσ30 (⟨by omega, by omega, ⟨by omega, (fun h => absurd h (by omega)), (fun h => absurd h (by omega))⟩, OUTR.mk iσ kJ ko fz (by decide) eσ25 (by have g9 := (kp121.trans (kp104.trans eb_2)); rw [eσ30, eσ28] at g9; exact g9) eσ28 eσ30 cJ r72.1 (by omega)⟩)

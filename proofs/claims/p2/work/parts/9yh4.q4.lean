set_option maxHeartbeats 4000000 in
theorem i_X6_uniqueText {σ : Sg} {pl : Nat} {gq ci gr nc : Nat → Nat} {ot : Nat → Nat → Int} {LL : Nat → List Nat} {N nu : Nat → Nat} {th : Nat} {tx J o q c : Nat} (iσ : IV σ pl gq ci gr nc ot LL N nu) (kth : kO σ th 6) (hX0 : gP σ th 0 = some tx) (kX : kO σ tx 102) (gX : gn σ tx = 1500) (h7 : gP σ th 7 = some J) (kJ : kO σ J 4) (h8 : gP σ th 8 = some o) (ko : kO σ o 5) (hJq : gq J = q) (hq : q ≠ nc 0 ∧ q ≤ 1) (go : gq o = 16 * q + c) (hc : c < 16) (cJ : gI σ J 1 = (c : Int)) (tf : gI σ th 5 ≤ gI σ th 2 ∧ (gI σ th 3 ≠ 0 → gI σ th 5 + 1 ≤ gI σ th 2)) (h5 : nu 5 < 24000) (lp : gI σ J 7 ≤ 2 * gI σ th 5) (f0 : gI σ o 3 = 0 ∧ gI σ o 4 = 0 ∧ gI σ o 7 = -1 ∧ gI σ o 8 = -1) {Q : Sg → Unit → Prop} {X : Sg → String → Prop} (hQ : ∀ (σ' : Sg) (r : Unit), IV σ' pl gq ci gr nc ot LL N nu → Fx [323, 326, 327, 333, 336, 386, 387, 388, 389, 390, 6464] gr σ σ' → OX o σ σ' → ((gI σ' th 5 ≤ gI σ' th 2 ∧ (gI σ' th 3 ≠ 0 → gI σ' th 5 + 1 ≤ gI σ' th 2)) ∧ gI σ' J 7 ≤ 2 * gI σ' th 5 ∧ OPR σ σ' gq q c o) → Q σ' r) (hX : ∀ (σ' : Sg) (LL' : Nat → List Nat) (N' nu' : Nat → Nat) (E : String), IV σ' pl gq ci gr nc ot LL' N' nu' → Fx [323, 326, 327, 333, 336, 386, 387, 388, 389, 390, 6464] gr σ σ' → NCX nu nu' → (LL' = LL ∧ N' = N ∧ E = "java/lang/IllegalArgumentException" ∧ gI σ' th 6 ≠ 0) → X σ' E) : wp_X6_uniqueText th σ Q X := by
  have fσ : Fx [323, 326, 327, 333, 336, 386, 387, 388, 389, 390, 6464] gr σ σ := Fx.rf
  have oxσ : OX o σ σ := OX.rf
  have q1 := I_4_1 iσ.1 kJ
  have q2 := I_6_5 iσ.1 kth
  have q3 := I_6_2 iσ.1 kth
  have q4 := iσ.rg th 3; unfold rng at q4
  have q5 := I_4_7 iσ.1 kJ
  have q6 := I_5_3 iσ.1 ko
  have q7 := I_5_4 iσ.1 ko
  have q8 := I_5_7 iσ.1 ko
  have q9 := I_5_8 iσ.1 ko
  have ncb := iσ.ncb
  have r70 := I_4_7 iσ.1 kJ
  have r71 := I_4_1 iσ.1 kJ
  unfold wp_X6_uniqueText
  unfold w_X6_uniqueText_0
  refine i_X6_next iσ kth hX0 kX (((Ext.rfl' _) tx kX.1).2.2.trans gX) (by (first | omega | with_reducible assumption | with_reducible exact rng_toInt _ | with_reducible exact rng_wr _ | (unfold rng; omega) | (unfold rng at *; omega) | assumption)) (by (first | omega | with_reducible assumption | with_reducible exact rng_toInt _ | with_reducible exact rng_wr _ | (unfold rng; omega) | (unfold rng at *; omega) | assumption)) (fun σ20 _ iσ20 cσ20 pσ20 => ?_) (fun σx LLx Nx nux E ix cx ux px => hX σx LLx Nx nux E ix (fσ.tr (cx.mo (by decide))) (ux) (by first | exact px | exact ⟨by have := px.1; omega, px.2⟩ | (first | omega | with_reducible assumption | with_reducible exact rng_toInt _ | with_reducible exact rng_wr _ | (unfold rng; omega) | (unfold rng at *; omega) | assumption)))
  intro xσ20
  have fσ20 : Fx [323, 326, 327, 333, 336, 386, 387, 388, 389, 390, 6464] gr σ σ20 := fσ.tr (cσ20.mo (by decide))
  have oxcσ20 : OX o σ σ20 := oxσ.tr (OX.fx cσ20 (by decide) (by decide)) (Ext.rfl' _)
  have kp10 : Kpt (gI σ20 J 1 = gI σ J 1) := (show gI σ20 J 1 = gI σ J 1 from (cσ20.O kJ (by decide)).1)
  have kp11 : Kpt (gI σ20 J 7 = gI σ J 7) := (show gI σ20 J 7 = gI σ J 7 from (cσ20.O kJ (by decide)).1)
  have kp12 : Kpt (gI σ20 o 3 = gI σ o 3) := (show gI σ20 o 3 = gI σ o 3 from (cσ20.O ko (by decide)).1)
  have kp13 : Kpt (gI σ20 o 4 = gI σ o 4) := (show gI σ20 o 4 = gI σ o 4 from (cσ20.O ko (by decide)).1)
  have kp14 : Kpt (gI σ20 o 7 = gI σ o 7) := (show gI σ20 o 7 = gI σ o 7 from (cσ20.O ko (by decide)).1)
  have kp15 : Kpt (gI σ20 o 8 = gI σ o 8) := (show gI σ20 o 8 = gI σ o 8 from (cσ20.O ko (by decide)).1)
  have kp16 : gP σ20 th 0 = gP σ th 0 := (cσ20.O kth (by decide)).2.1
  have kp17 : gP σ20 th 7 = gP σ th 7 := (cσ20.O kth (by decide)).2.1
  have kp18 : gP σ20 th 8 = gP σ th 8 := (cσ20.O kth (by decide)).2.1
  have kp19 : Kpt (gI σ20 J 2 = gI σ J 2) := (show gI σ20 J 2 = gI σ J 2 from (cσ20.O kJ (by decide)).1)
  have kp20 : Kpt (gI σ20 o 6 = gI σ o 6) := (show gI σ20 o 6 = gI σ o 6 from (cσ20.O ko (by decide)).1)
  have kp21 : Kpt (gI σ20 o 9 = gI σ o 9) := (show gI σ20 o 9 = gI σ o 9 from (cσ20.O ko (by decide)).1)
  have r5σ20 := I_6_5 iσ20.1 (kth.up xσ20)
  have ho22 : gI σ20 J 7 = gI σ J 7 := kp11
  have cp23 : (gI σ20 th 5 ≤ gI σ20 th 2 ∧ (gI σ20 th 3 ≠ 0 → gI σ20 th 5 + 1 ≤ gI σ20 th 2)) ∧ gI σ20 J 7 ≤ 2 * gI σ20 th 5 ∧ 0 ≤ gI σ20 th 5 := by omega
  clear pσ20 q3 q2
  have ho24 : gI σ20 J 1 = gI σ J 1 := kp10
  refine i_X6_firstInput iσ20 (kth.up xσ20) (kp17.trans h7) (kJ.up xσ20) (kp18.trans h8) (ko.up xσ20) (by (first | omega | with_reducible assumption | with_reducible exact rng_toInt _ | with_reducible exact rng_wr _ | (unfold rng; omega) | (unfold rng at *; omega) | assumption)) (by (first | omega | with_reducible assumption | with_reducible exact rng_toInt _ | with_reducible exact rng_wr _ | (unfold rng; omega) | (unfold rng at *; omega) | assumption)) (by (first | omega | with_reducible assumption | with_reducible exact rng_toInt _ | with_reducible exact rng_wr _ | (unfold rng; omega) | (unfold rng at *; omega) | assumption)) (by (first | omega | with_reducible assumption | with_reducible exact rng_toInt _ | with_reducible exact rng_wr _ | (unfold rng; omega) | (unfold rng at *; omega) | assumption)) (by (first | omega | with_reducible assumption | with_reducible exact rng_toInt _ | with_reducible exact rng_wr _ | (unfold rng; omega) | (unfold rng at *; omega) | assumption)) (by (first | omega | with_reducible assumption | with_reducible exact rng_toInt _ | with_reducible exact rng_wr _ | (unfold rng; omega) | (unfold rng at *; omega) | assumption)) (fun σ21 _ iσ21 cσ21 oxσ21 pσ21 => ?_) (fun σx LLx Nx nux E ix cx ux px => hX σx LLx Nx nux E ix (fσ20.tr (cx.mo (by decide))) (ux) (by first | exact px | exact ⟨by have := px.1; omega, px.2⟩ | (first | omega | with_reducible assumption | with_reducible exact rng_toInt _ | with_reducible exact rng_wr _ | (unfold rng; omega) | (unfold rng at *; omega) | assumption)))
  intro xσ21
  have fσ21 : Fx [323, 326, 327, 333, 336, 386, 387, 388, 389, 390, 6464] gr σ σ21 := fσ20.tr (cσ21.mo (by decide))
  have oxcσ21 : OX o σ σ21 := oxcσ20.tr oxσ21 (xσ20)
  have kp25 : gP σ21 th 0 = gP σ20 th 0 := (cσ21.O (kth.up xσ20) (by decide)).2.1
  have kp26 : gP σ21 th 7 = gP σ20 th 7 := (cσ21.O (kth.up xσ20) (by decide)).2.1
  have kp27 : gP σ21 th 8 = gP σ20 th 8 := (cσ21.O (kth.up xσ20) (by decide)).2.1
  have kp28 : gI σ21 th 2 = gI σ20 th 2 := (cσ21.O (kth.up xσ20) (by decide)).1
  have kp29 : gI σ21 th 3 = gI σ20 th 3 := (cσ21.O (kth.up xσ20) (by decide)).1
  have kp30 : gI σ21 th 5 = gI σ20 th 5 := (cσ21.O (kth.up xσ20) (by decide)).1
  have kp31 : Kpt (gI σ21 J 7 = gI σ J 7) := Eq.trans (show gI σ21 J 7 = gI σ20 J 7 from (cσ21.O (kJ.up xσ20) (by decide)).1) kp11
  have kp32 : Kpt (gI σ21 J 1 = gI σ J 1) := Eq.trans (show gI σ21 J 1 = gI σ20 J 1 from (cσ21.O (kJ.up xσ20) (by decide)).1) kp10
  have kp33 : Kpt (gI σ21 J 2 = gI σ J 2) := Eq.trans (show gI σ21 J 2 = gI σ20 J 2 from (cσ21.O (kJ.up xσ20) (by decide)).1) kp19
  have kp34 : Kpt (gI σ21 o 3 = gI σ o 3) := Eq.trans (show gI σ21 o 3 = gI σ20 o 3 from (cσ21.O (ko.up xσ20) (by decide)).1) kp12
  have kp35 : Kpt (gI σ21 o 4 = gI σ o 4) := Eq.trans (show gI σ21 o 4 = gI σ20 o 4 from (cσ21.O (ko.up xσ20) (by decide)).1) kp13
  have kp36 : Kpt (gI σ21 o 8 = gI σ o 8) := Eq.trans (show gI σ21 o 8 = gI σ20 o 8 from (cσ21.O (ko.up xσ20) (by decide)).1) kp15
  have kp37 : Kpt (gI σ21 o 9 = gI σ o 9) := Eq.trans (show gI σ21 o 9 = gI σ20 o 9 from (cσ21.O (ko.up xσ20) (by decide)).1) kp21
  refine i_X6_next iσ21 (kth.up (xσ20.trans xσ21)) (kp25.trans (kp16.trans hX0)) (kX.up (xσ20.trans xσ21)) (((xσ20.trans xσ21) tx kX.1).2.2.trans gX) (by (first | omega | with_reducible assumption | with_reducible exact rng_toInt _ | with_reducible exact rng_wr _ | (unfold rng; omega) | (unfold rng at *; omega) | assumption)) (by (first | omega | with_reducible assumption | with_reducible exact rng_toInt _ | with_reducible exact rng_wr _ | (unfold rng; omega) | (unfold rng at *; omega) | assumption)) (fun σ22 _ iσ22 cσ22 pσ22 => ?_) (fun σx LLx Nx nux E ix cx ux px => hX σx LLx Nx nux E ix (fσ21.tr (cx.mo (by decide))) (ux) (by first | exact px | exact ⟨by have := px.1; omega, px.2⟩ | (first | omega | with_reducible assumption | with_reducible exact rng_toInt _ | with_reducible exact rng_wr _ | (unfold rng; omega) | (unfold rng at *; omega) | assumption)))
  intro xσ22
  have fσ22 : Fx [323, 326, 327, 333, 336, 386, 387, 388, 389, 390, 6464] gr σ σ22 := fσ21.tr (cσ22.mo (by decide))
  have oxcσ22 : OX o σ σ22 := oxcσ21.tr (OX.fx cσ22 (by decide) (by decide)) (xσ20.trans xσ21)
  have kp38 : gP σ22 th 0 = gP σ21 th 0 := (cσ22.O (kth.up (xσ20.trans xσ21)) (by decide)).2.1
  have kp39 : gP σ22 th 7 = gP σ21 th 7 := (cσ22.O (kth.up (xσ20.trans xσ21)) (by decide)).2.1
  have kp40 : gP σ22 th 8 = gP σ21 th 8 := (cσ22.O (kth.up (xσ20.trans xσ21)) (by decide)).2.1
  have kp41 : Kpt (gI σ22 J 7 = gI σ J 7) := Eq.trans (show gI σ22 J 7 = gI σ21 J 7 from (cσ22.O (kJ.up (xσ20.trans xσ21)) (by decide)).1) kp31
  have kp42 : Kpt (gI σ22 J 1 = gI σ J 1) := Eq.trans (show gI σ22 J 1 = gI σ21 J 1 from (cσ22.O (kJ.up (xσ20.trans xσ21)) (by decide)).1) kp32
  have kp43 : Kpt (gI σ22 J 2 = gI σ J 2) := Eq.trans (show gI σ22 J 2 = gI σ21 J 2 from (cσ22.O (kJ.up (xσ20.trans xσ21)) (by decide)).1) kp33
  have kp44 : Kpt (gI σ22 o 3 = gI σ o 3) := Eq.trans (show gI σ22 o 3 = gI σ21 o 3 from (cσ22.O (ko.up (xσ20.trans xσ21)) (by decide)).1) kp34
  have kp45 : Kpt (gI σ22 o 4 = gI σ o 4) := Eq.trans (show gI σ22 o 4 = gI σ21 o 4 from (cσ22.O (ko.up (xσ20.trans xσ21)) (by decide)).1) kp35
  have kp46 : Kpt (gI σ22 o 6 = gI σ21 o 6) := (show gI σ22 o 6 = gI σ21 o 6 from (cσ22.O (ko.up (xσ20.trans xσ21)) (by decide)).1)
  have kp47 : Kpt (gI σ22 o 7 = gI σ21 o 7) := (show gI σ22 o 7 = gI σ21 o 7 from (cσ22.O (ko.up (xσ20.trans xσ21)) (by decide)).1)
  have kp48 : Kpt (gI σ22 o 8 = gI σ o 8) := Eq.trans (show gI σ22 o 8 = gI σ21 o 8 from (cσ22.O (ko.up (xσ20.trans xσ21)) (by decide)).1) kp36
  have kp49 : Kpt (gI σ22 o 9 = gI σ o 9) := Eq.trans (show gI σ22 o 9 = gI σ21 o 9 from (cσ22.O (ko.up (xσ20.trans xσ21)) (by decide)).1) kp37
  have r5σ22 := I_6_5 iσ22.1 (kth.up (xσ20.trans (xσ21.trans xσ22)))
  have ho50 : gI σ22 J 7 = gI σ J 7 := kp41
  have cp51 : (gI σ22 th 5 ≤ gI σ22 th 2 ∧ (gI σ22 th 3 ≠ 0 → gI σ22 th 5 + 1 ≤ gI σ22 th 2)) ∧ gI σ22 J 7 ≤ 2 * gI σ22 th 5 ∧ 0 ≤ gI σ22 th 5 := by omega
  clear pσ22 kp30 kp29 kp28 cp23
  refine ⟨J, (kp39.trans (kp26.trans (kp17.trans h7))), fun kk_J => ?_⟩
  refine ⟨o, (kp40.trans (kp27.trans (kp18.trans h8))), fun kk_o => ?_⟩
  obtain ⟨b, eb, fb⟩ := P_4_0 iσ22.1 (kJ.up (xσ20.trans (xσ21.trans xσ22)))
  have mb : kO σ22 b 115 := iσ22.1.kd (kJ.up (xσ20.trans (xσ21.trans xσ22))) rfl eb rfl
  refine ⟨b, eb, fun kk_b => ?_⟩
  have ho52 : gI σ22 o 7 = gI σ21 o 7 := kp47
  have q53 := I_5_7 iσ22.1 (ko.up (xσ20.trans (xσ21.trans xσ22)))
  refine ⟨⟨by (first | omega | with_reducible assumption | with_reducible exact rng_toInt _ | with_reducible exact rng_wr _ | (unfold rng; omega) | (unfold rng at *; omega) | assumption), by (first | omega | with_reducible assumption | with_reducible exact rng_toInt _ | with_reducible exact rng_wr _ | (unfold rng; omega) | (unfold rng at *; omega) | assumption)⟩, ?_⟩
  have ho54 : gI σ22 J 1 = gI σ J 1 := kp42
  have ho55 : gI σ22 J 2 = gI σ J 2 := kp43
  have ho56 : gI σ22 o 3 = gI σ o 3 := kp44
  have ho57 : gI σ22 o 4 = gI σ o 4 := kp45
  have ho58 : gI σ22 o 6 = gI σ21 o 6 := kp46
  have ho59 : gI σ22 o 8 = gI σ o 8 := kp48
  have ho60 : gI σ22 o 9 = gI σ o 9 := kp49
  obtain ⟨b_1, eb_1⟩ := P_115 iσ22.1 mb (k := (gI σ22 o 7).toNat) (by (first | omega | with_reducible assumption | with_reducible exact rng_toInt _ | with_reducible exact rng_wr _ | (unfold rng; omega) | (unfold rng at *; omega) | assumption))
  have fb_1 := T_115 iσ22.1 mb eb_1
  have mb_1 : kO σ22 b_1 5 := iσ22.1.kd mb rfl eb_1 rfl
  refine i_X5_addColumnsOf iσ22 (ko.up (xσ20.trans (xσ21.trans xσ22))) eb_1 mb_1 (by (first | omega | with_reducible assumption | with_reducible exact rng_toInt _ | with_reducible exact rng_wr _ | (unfold rng; omega) | (unfold rng at *; omega) | assumption)) (by (first | omega | with_reducible assumption | with_reducible exact rng_toInt _ | with_reducible exact rng_wr _ | (unfold rng; omega) | (unfold rng at *; omega) | assumption)) (by (first | omega | with_reducible assumption | with_reducible exact rng_toInt _ | with_reducible exact rng_wr _ | (unfold rng; omega) | (unfold rng at *; omega) | assumption)) (fun e => absurd (congrArg gq e) (by omega)) (fun σ26 _ iσ26 cσ26 oxσ26 pσ26 => ?_)
  intro xσ26
  have fσ26 : Fx [323, 326, 327, 333, 336, 386, 387, 388, 389, 390, 6464] gr σ σ26 := fσ22.tr (cσ26.mo (by decide))
  have oxcσ26 : OX o σ σ26 := oxcσ22.tr oxσ26 (xσ20.trans (xσ21.trans xσ22))
  have kp61 : Kpt (gI σ26 o 7 = gI σ21 o 7) := Eq.trans (show gI σ26 o 7 = gI σ22 o 7 from (cσ26.O (ko.up (xσ20.trans (xσ21.trans xσ22))) (by decide)).1) kp47
  have kp62 : gP σ26 J 0 = gP σ22 J 0 := (cσ26.O (kJ.up (xσ20.trans (xσ21.trans xσ22))) (by decide)).2.1
  have kp63 : gP σ26 b (gI σ22 o 7).toNat = gP σ22 b (gI σ22 o 7).toNat := (cσ26.A mb (by decide)).2.1
  have kp64 : gP σ26 th 0 = gP σ22 th 0 := (cσ26.O (kth.up (xσ20.trans (xσ21.trans xσ22))) (by decide)).2.1
  have kp65 : gP σ26 th 7 = gP σ22 th 7 := (cσ26.O (kth.up (xσ20.trans (xσ21.trans xσ22))) (by decide)).2.1
  have kp66 : gP σ26 th 8 = gP σ22 th 8 := (cσ26.O (kth.up (xσ20.trans (xσ21.trans xσ22))) (by decide)).2.1
  have kp67 : gI σ26 th 2 = gI σ22 th 2 := (cσ26.O (kth.up (xσ20.trans (xσ21.trans xσ22))) (by decide)).1
  have kp68 : gI σ26 th 3 = gI σ22 th 3 := (cσ26.O (kth.up (xσ20.trans (xσ21.trans xσ22))) (by decide)).1
  have kp69 : gI σ26 th 5 = gI σ22 th 5 := (cσ26.O (kth.up (xσ20.trans (xσ21.trans xσ22))) (by decide)).1
  have kp70 : Kpt (gI σ26 J 7 = gI σ J 7) := Eq.trans (show gI σ26 J 7 = gI σ22 J 7 from (cσ26.O (kJ.up (xσ20.trans (xσ21.trans xσ22))) (by decide)).1) kp41
  have kp71 : Kpt (gI σ26 J 1 = gI σ J 1) := Eq.trans (show gI σ26 J 1 = gI σ22 J 1 from (cσ26.O (kJ.up (xσ20.trans (xσ21.trans xσ22))) (by decide)).1) kp42
  have kp72 : Kpt (gI σ26 J 2 = gI σ J 2) := Eq.trans (show gI σ26 J 2 = gI σ22 J 2 from (cσ26.O (kJ.up (xσ20.trans (xσ21.trans xσ22))) (by decide)).1) kp43
  have kp73 : Kpt (gI σ26 o 4 = gI σ o 4) := Eq.trans (show gI σ26 o 4 = gI σ22 o 4 from (cσ26.O (ko.up (xσ20.trans (xσ21.trans xσ22))) (by decide)).1) kp45
  have kp74 : Kpt (gI σ26 o 6 = gI σ21 o 6) := Eq.trans (show gI σ26 o 6 = gI σ22 o 6 from (cσ26.O (ko.up (xσ20.trans (xσ21.trans xσ22))) (by decide)).1) kp46
  have kp75 : Kpt (gI σ26 o 8 = gI σ o 8) := Eq.trans (show gI σ26 o 8 = gI σ22 o 8 from (cσ26.O (ko.up (xσ20.trans (xσ21.trans xσ22))) (by decide)).1) kp48
  have kp76 : Kpt (gI σ26 o 9 = gI σ o 9) := Eq.trans (show gI σ26 o 9 = gI σ22 o 9 from (cσ26.O (ko.up (xσ20.trans (xσ21.trans xσ22))) (by decide)).1) kp49
  refine i_X6_wantWord iσ26 (kth.up (xσ20.trans (xσ21.trans (xσ22.trans xσ26)))) (kp64.trans (kp38.trans (kp25.trans (kp16.trans hX0)))) (kX.up (xσ20.trans (xσ21.trans (xσ22.trans xσ26)))) (((xσ20.trans (xσ21.trans (xσ22.trans xσ26))) tx kX.1).2.2.trans gX) (by (first | omega | with_reducible assumption | with_reducible exact rng_toInt _ | with_reducible exact rng_wr _ | (unfold rng; omega) | (unfold rng at *; omega) | assumption)) (by (first | omega | with_reducible assumption | with_reducible exact rng_toInt _ | with_reducible exact rng_wr _ | (unfold rng; omega) | (unfold rng at *; omega) | assumption)) (fun σ27 _ iσ27 cσ27 pσ27 => ?_) (fun σx LLx Nx nux E ix cx ux px => hX σx LLx Nx nux E ix (fσ26.tr (cx.mo (by decide))) (ux) (by first | exact px | exact ⟨by have := px.1; omega, px.2⟩ | (first | omega | with_reducible assumption | with_reducible exact rng_toInt _ | with_reducible exact rng_wr _ | (unfold rng; omega) | (unfold rng at *; omega) | assumption)))
  intro xσ27
  have fσ27 : Fx [323, 326, 327, 333, 336, 386, 387, 388, 389, 390, 6464] gr σ σ27 := fσ26.tr (cσ27.mo (by decide))
  have oxcσ27 : OX o σ σ27 := oxcσ26.tr (OX.fx cσ27 (by decide) (by decide)) (xσ20.trans (xσ21.trans (xσ22.trans xσ26)))
  have kp77 : gP σ27 J 0 = gP σ26 J 0 := (cσ27.O (kJ.up (xσ20.trans (xσ21.trans (xσ22.trans xσ26)))) (by decide)).2.1
  have kp78 : gP σ27 b (gI σ22 o 7).toNat = gP σ26 b (gI σ22 o 7).toNat := (cσ27.A (mb.up xσ26) (by decide)).2.1
  have kp79 : gP σ27 th 0 = gP σ26 th 0 := (cσ27.O (kth.up (xσ20.trans (xσ21.trans (xσ22.trans xσ26)))) (by decide)).2.1
  have kp80 : gP σ27 th 7 = gP σ26 th 7 := (cσ27.O (kth.up (xσ20.trans (xσ21.trans (xσ22.trans xσ26)))) (by decide)).2.1
  have kp81 : gP σ27 th 8 = gP σ26 th 8 := (cσ27.O (kth.up (xσ20.trans (xσ21.trans (xσ22.trans xσ26)))) (by decide)).2.1
  have kp82 : Kpt (gI σ27 J 7 = gI σ J 7) := Eq.trans (show gI σ27 J 7 = gI σ26 J 7 from (cσ27.O (kJ.up (xσ20.trans (xσ21.trans (xσ22.trans xσ26)))) (by decide)).1) kp70
  have kp83 : Kpt (gI σ27 J 1 = gI σ J 1) := Eq.trans (show gI σ27 J 1 = gI σ26 J 1 from (cσ27.O (kJ.up (xσ20.trans (xσ21.trans (xσ22.trans xσ26)))) (by decide)).1) kp71
  have kp84 : Kpt (gI σ27 J 2 = gI σ J 2) := Eq.trans (show gI σ27 J 2 = gI σ26 J 2 from (cσ27.O (kJ.up (xσ20.trans (xσ21.trans (xσ22.trans xσ26)))) (by decide)).1) kp72
  have kp85 : Kpt (gI σ27 o 3 = gI σ26 o 3) := (show gI σ27 o 3 = gI σ26 o 3 from (cσ27.O (ko.up (xσ20.trans (xσ21.trans (xσ22.trans xσ26)))) (by decide)).1)
  have kp86 : Kpt (gI σ27 o 4 = gI σ o 4) := Eq.trans (show gI σ27 o 4 = gI σ26 o 4 from (cσ27.O (ko.up (xσ20.trans (xσ21.trans (xσ22.trans xσ26)))) (by decide)).1) kp73
  have kp87 : Kpt (gI σ27 o 6 = gI σ21 o 6) := Eq.trans (show gI σ27 o 6 = gI σ26 o 6 from (cσ27.O (ko.up (xσ20.trans (xσ21.trans (xσ22.trans xσ26)))) (by decide)).1) kp74
  have kp88 : Kpt (gI σ27 o 7 = gI σ21 o 7) := Eq.trans (show gI σ27 o 7 = gI σ26 o 7 from (cσ27.O (ko.up (xσ20.trans (xσ21.trans (xσ22.trans xσ26)))) (by decide)).1) kp61
  have kp89 : Kpt (gI σ27 o 8 = gI σ o 8) := Eq.trans (show gI σ27 o 8 = gI σ26 o 8 from (cσ27.O (ko.up (xσ20.trans (xσ21.trans (xσ22.trans xσ26)))) (by decide)).1) kp75
  have kp90 : Kpt (gI σ27 o 9 = gI σ o 9) := Eq.trans (show gI σ27 o 9 = gI σ26 o 9 from (cσ27.O (ko.up (xσ20.trans (xσ21.trans (xσ22.trans xσ26)))) (by decide)).1) kp76
  have r5σ27 := I_6_5 iσ27.1 (kth.up (xσ20.trans (xσ21.trans (xσ22.trans (xσ26.trans xσ27)))))
  have ho91 : gI σ27 J 7 = gI σ J 7 := kp82
  have cp92 : (gI σ27 th 5 ≤ gI σ27 th 2 ∧ (gI σ27 th 3 ≠ 0 → gI σ27 th 5 + 1 ≤ gI σ27 th 2)) ∧ gI σ27 J 7 ≤ 2 * gI σ27 th 5 ∧ 0 ≤ gI σ27 th 5 := by omega
  clear pσ27 kp69 kp68 kp67 cp51
  have ho93 : gI σ27 o 3 = gI σ26 o 3 := kp85
  refine i_X6_column iσ27 (kth.up (xσ20.trans (xσ21.trans (xσ22.trans (xσ26.trans xσ27))))) (kp81.trans (kp66.trans (kp40.trans (kp27.trans (kp18.trans h8))))) (ko.up (xσ20.trans (xσ21.trans (xσ22.trans (xσ26.trans xσ27))))) (by (first | omega | with_reducible assumption | with_reducible exact rng_toInt _ | with_reducible exact rng_wr _ | (unfold rng; omega) | (unfold rng at *; omega) | assumption)) (fun σ28 r29 iσ28 cσ28 pσ28 => ?_) (fun σx LLx Nx nux E ix cx ux px => hX σx LLx Nx nux E ix (fσ27.tr (cx.mo (by decide))) (ux) (by first | exact px | exact ⟨by have := px.1; omega, px.2⟩ | (first | omega | with_reducible assumption | with_reducible exact rng_toInt _ | with_reducible exact rng_wr _ | (unfold rng; omega) | (unfold rng at *; omega) | assumption)))
  intro xσ28
  have fσ28 : Fx [323, 326, 327, 333, 336, 386, 387, 388, 389, 390, 6464] gr σ σ28 := fσ27.tr (cσ28.mo (by decide))
  have oxcσ28 : OX o σ σ28 := oxcσ27.tr (OX.fx cσ28 (by decide) (by decide)) (xσ20.trans (xσ21.trans (xσ22.trans (xσ26.trans xσ27))))
  have kp94 : gP σ28 J 0 = gP σ27 J 0 := (cσ28.O (kJ.up (xσ20.trans (xσ21.trans (xσ22.trans (xσ26.trans xσ27))))) (by decide)).2.1
  have kp95 : gP σ28 b (gI σ22 o 7).toNat = gP σ27 b (gI σ22 o 7).toNat := (cσ28.A (mb.up (xσ26.trans xσ27)) (by decide)).2.1
  have kp96 : gP σ28 th 0 = gP σ27 th 0 := (cσ28.O (kth.up (xσ20.trans (xσ21.trans (xσ22.trans (xσ26.trans xσ27))))) (by decide)).2.1
  have kp97 : gP σ28 th 7 = gP σ27 th 7 := (cσ28.O (kth.up (xσ20.trans (xσ21.trans (xσ22.trans (xσ26.trans xσ27))))) (by decide)).2.1
  have kp98 : gP σ28 th 8 = gP σ27 th 8 := (cσ28.O (kth.up (xσ20.trans (xσ21.trans (xσ22.trans (xσ26.trans xσ27))))) (by decide)).2.1
  have kp99 : gI σ28 th 2 = gI σ27 th 2 := (cσ28.O (kth.up (xσ20.trans (xσ21.trans (xσ22.trans (xσ26.trans xσ27))))) (by decide)).1
  have kp100 : gI σ28 th 3 = gI σ27 th 3 := (cσ28.O (kth.up (xσ20.trans (xσ21.trans (xσ22.trans (xσ26.trans xσ27))))) (by decide)).1
  have kp101 : gI σ28 th 5 = gI σ27 th 5 := (cσ28.O (kth.up (xσ20.trans (xσ21.trans (xσ22.trans (xσ26.trans xσ27))))) (by decide)).1
  have kp102 : Kpt (gI σ28 J 7 = gI σ J 7) := Eq.trans (show gI σ28 J 7 = gI σ27 J 7 from (cσ28.O (kJ.up (xσ20.trans (xσ21.trans (xσ22.trans (xσ26.trans xσ27))))) (by decide)).1) kp82
  have kp103 : Kpt (gI σ28 J 1 = gI σ J 1) := Eq.trans (show gI σ28 J 1 = gI σ27 J 1 from (cσ28.O (kJ.up (xσ20.trans (xσ21.trans (xσ22.trans (xσ26.trans xσ27))))) (by decide)).1) kp83
  have kp104 : Kpt (gI σ28 J 2 = gI σ J 2) := Eq.trans (show gI σ28 J 2 = gI σ27 J 2 from (cσ28.O (kJ.up (xσ20.trans (xσ21.trans (xσ22.trans (xσ26.trans xσ27))))) (by decide)).1) kp84
  have kp105 : Kpt (gI σ28 o 3 = gI σ26 o 3) := Eq.trans (show gI σ28 o 3 = gI σ27 o 3 from (cσ28.O (ko.up (xσ20.trans (xσ21.trans (xσ22.trans (xσ26.trans xσ27))))) (by decide)).1) kp85
  have kp106 : Kpt (gI σ28 o 4 = gI σ o 4) := Eq.trans (show gI σ28 o 4 = gI σ27 o 4 from (cσ28.O (ko.up (xσ20.trans (xσ21.trans (xσ22.trans (xσ26.trans xσ27))))) (by decide)).1) kp86
  have kp107 : Kpt (gI σ28 o 6 = gI σ21 o 6) := Eq.trans (show gI σ28 o 6 = gI σ27 o 6 from (cσ28.O (ko.up (xσ20.trans (xσ21.trans (xσ22.trans (xσ26.trans xσ27))))) (by decide)).1) kp87
  have kp108 : Kpt (gI σ28 o 7 = gI σ21 o 7) := Eq.trans (show gI σ28 o 7 = gI σ27 o 7 from (cσ28.O (ko.up (xσ20.trans (xσ21.trans (xσ22.trans (xσ26.trans xσ27))))) (by decide)).1) kp88
  have kp109 : Kpt (gI σ28 o 8 = gI σ o 8) := Eq.trans (show gI σ28 o 8 = gI σ27 o 8 from (cσ28.O (ko.up (xσ20.trans (xσ21.trans (xσ22.trans (xσ26.trans xσ27))))) (by decide)).1) kp89
  have kp110 : Kpt (gI σ28 o 9 = gI σ o 9) := Eq.trans (show gI σ28 o 9 = gI σ27 o 9 from (cσ28.O (ko.up (xσ20.trans (xσ21.trans (xσ22.trans (xσ26.trans xσ27))))) (by decide)).1) kp90
  refine ⟨o, (kp81.trans (kp66.trans (kp40.trans (kp27.trans (kp18.trans h8))))), fun kk_o_1 => ?_⟩
  intro σ31 eσ31
  have xσ31 : Ext σ28 σ31 := by rw [eσ31]; exact fun _ h => ⟨h, rfl, rfl⟩
  have iσ31 : IV σ31 pl gq ci gr nc ot LL N nu := by rw [eσ31]; exact iσ28.wSp (ko.up (xσ20.trans (xσ21.trans (xσ22.trans (xσ26.trans (xσ27.trans xσ28)))))) (fun i hi => by omega) (by decide) (show (0 : Int) ≤ r29 ∧ r29 ≤ 7 from ⟨by omega, by omega⟩)
  have fσ31 : Fx [323, 326, 327, 333, 336, 386, 387, 388, 389, 390, 6464] gr σ σ31 := fσ28.tr (Sk.fx (by rw [eσ31]; exact Sk.pI (by rw [fcdO (ko.up (xσ20.trans (xσ21.trans (xσ22.trans (xσ26.trans (xσ27.trans xσ28)))))) (by decide)]; decide)))
  have oxcσ31 : OX o σ σ31 := oxcσ28.tr (by rw [eσ31]; exact OX.pI (ko.up (xσ20.trans (xσ21.trans (xσ22.trans (xσ26.trans (xσ27.trans xσ28)))))) (Or.inr rfl)) (xσ20.trans (xσ21.trans (xσ22.trans (xσ26.trans (xσ27.trans xσ28)))))
  have wσ31 : gI σ31 o 13 = r29 := by rw [eσ31]; exact up2_s _ _ _ _
  have kp111 : gP σ31 J 0 = gP σ28 J 0 := by rw [eσ31]
  have kp112 : gP σ31 b (gI σ22 o 7).toNat = gP σ28 b (gI σ22 o 7).toNat := by rw [eσ31]
  have kp113 : gP σ31 th 0 = gP σ28 th 0 := by rw [eσ31]
  have kp114 : gP σ31 th 7 = gP σ28 th 7 := by rw [eσ31]
  have kp115 : gP σ31 th 8 = gP σ28 th 8 := by rw [eσ31]
  have kp116 : gI σ31 th 2 = gI σ28 th 2 := by rw [eσ31]; exact up2_n _ _ (fun q => absurd q.2 (by decide))
  have kp117 : gI σ31 th 3 = gI σ28 th 3 := by rw [eσ31]; exact up2_n _ _ (fun q => absurd q.2 (by decide))
  have kp118 : gI σ31 th 5 = gI σ28 th 5 := by rw [eσ31]; exact up2_n _ _ (fun q => absurd q.2 (by decide))
  have kp119 : Kpt (gI σ31 J 7 = gI σ J 7) := Eq.trans (show gI σ31 J 7 = gI σ28 J 7 from by rw [eσ31]; exact up2_n _ _ (fun q => absurd q.2 (by decide))) kp102
  have kp120 : Kpt (gI σ31 J 1 = gI σ J 1) := Eq.trans (show gI σ31 J 1 = gI σ28 J 1 from by rw [eσ31]; exact up2_n _ _ (fun q => absurd q.2 (by decide))) kp103
  have kp121 : Kpt (gI σ31 J 2 = gI σ J 2) := Eq.trans (show gI σ31 J 2 = gI σ28 J 2 from by rw [eσ31]; exact up2_n _ _ (fun q => absurd q.2 (by decide))) kp104
  have kp122 : Kpt (gI σ31 o 3 = gI σ26 o 3) := Eq.trans (show gI σ31 o 3 = gI σ28 o 3 from by rw [eσ31]; exact up2_n _ _ (fun q => absurd q.2 (by decide))) kp105
  have kp123 : Kpt (gI σ31 o 4 = gI σ o 4) := Eq.trans (show gI σ31 o 4 = gI σ28 o 4 from by rw [eσ31]; exact up2_n _ _ (fun q => absurd q.2 (by decide))) kp106
  have kp124 : Kpt (gI σ31 o 6 = gI σ21 o 6) := Eq.trans (show gI σ31 o 6 = gI σ28 o 6 from by rw [eσ31]; exact up2_n _ _ (fun q => absurd q.2 (by decide))) kp107
  have kp125 : Kpt (gI σ31 o 7 = gI σ21 o 7) := Eq.trans (show gI σ31 o 7 = gI σ28 o 7 from by rw [eσ31]; exact up2_n _ _ (fun q => absurd q.2 (by decide))) kp108
  have kp126 : Kpt (gI σ31 o 8 = gI σ o 8) := Eq.trans (show gI σ31 o 8 = gI σ28 o 8 from by rw [eσ31]; exact up2_n _ _ (fun q => absurd q.2 (by decide))) kp109
  have kp127 : Kpt (gI σ31 o 9 = gI σ o 9) := Eq.trans (show gI σ31 o 9 = gI σ28 o 9 from by rw [eσ31]; exact up2_n _ _ (fun q => absurd q.2 (by decide))) kp110
  refine i_X6_next iσ31 (kth.up (xσ20.trans (xσ21.trans (xσ22.trans (xσ26.trans (xσ27.trans (xσ28.trans xσ31))))))) (kp113.trans (kp96.trans (kp79.trans (kp64.trans (kp38.trans (kp25.trans (kp16.trans hX0))))))) (kX.up (xσ20.trans (xσ21.trans (xσ22.trans (xσ26.trans (xσ27.trans (xσ28.trans xσ31))))))) (((xσ20.trans (xσ21.trans (xσ22.trans (xσ26.trans (xσ27.trans (xσ28.trans xσ31)))))) tx kX.1).2.2.trans gX) (by (first | omega | with_reducible assumption | with_reducible exact rng_toInt _ | with_reducible exact rng_wr _ | (unfold rng; omega) | (unfold rng at *; omega) | assumption)) (by (first | omega | with_reducible assumption | with_reducible exact rng_toInt _ | with_reducible exact rng_wr _ | (unfold rng; omega) | (unfold rng at *; omega) | assumption)) (fun σ32 _ iσ32 cσ32 pσ32 => ?_) (fun σx LLx Nx nux E ix cx ux px => hX σx LLx Nx nux E ix (fσ31.tr (cx.mo (by decide))) (ux) (by first | exact px | exact ⟨by have := px.1; omega, px.2⟩ | (first | omega | with_reducible assumption | with_reducible exact rng_toInt _ | with_reducible exact rng_wr _ | (unfold rng; omega) | (unfold rng at *; omega) | assumption)))
  intro xσ32
  have fσ32 : Fx [323, 326, 327, 333, 336, 386, 387, 388, 389, 390, 6464] gr σ σ32 := fσ31.tr (cσ32.mo (by decide))
  have oxcσ32 : OX o σ σ32 := oxcσ31.tr (OX.fx cσ32 (by decide) (by decide)) (xσ20.trans (xσ21.trans (xσ22.trans (xσ26.trans (xσ27.trans (xσ28.trans xσ31))))))
  have kp128 : gI σ32 o 13 = gI σ31 o 13 := (cσ32.O (ko.up (xσ20.trans (xσ21.trans (xσ22.trans (xσ26.trans (xσ27.trans (xσ28.trans xσ31))))))) (by decide)).1
  have kp129 : gP σ32 J 0 = gP σ31 J 0 := (cσ32.O (kJ.up (xσ20.trans (xσ21.trans (xσ22.trans (xσ26.trans (xσ27.trans (xσ28.trans xσ31))))))) (by decide)).2.1
  have kp130 : gP σ32 b (gI σ22 o 7).toNat = gP σ31 b (gI σ22 o 7).toNat := (cσ32.A (mb.up (xσ26.trans (xσ27.trans (xσ28.trans xσ31)))) (by decide)).2.1
  have kp131 : gP σ32 th 0 = gP σ31 th 0 := (cσ32.O (kth.up (xσ20.trans (xσ21.trans (xσ22.trans (xσ26.trans (xσ27.trans (xσ28.trans xσ31))))))) (by decide)).2.1
  have kp132 : gP σ32 th 7 = gP σ31 th 7 := (cσ32.O (kth.up (xσ20.trans (xσ21.trans (xσ22.trans (xσ26.trans (xσ27.trans (xσ28.trans xσ31))))))) (by decide)).2.1
  have kp133 : gP σ32 th 8 = gP σ31 th 8 := (cσ32.O (kth.up (xσ20.trans (xσ21.trans (xσ22.trans (xσ26.trans (xσ27.trans (xσ28.trans xσ31))))))) (by decide)).2.1
  have kp134 : Kpt (gI σ32 J 7 = gI σ J 7) := Eq.trans (show gI σ32 J 7 = gI σ31 J 7 from (cσ32.O (kJ.up (xσ20.trans (xσ21.trans (xσ22.trans (xσ26.trans (xσ27.trans (xσ28.trans xσ31))))))) (by decide)).1) kp119
  have kp135 : Kpt (gI σ32 J 1 = gI σ J 1) := Eq.trans (show gI σ32 J 1 = gI σ31 J 1 from (cσ32.O (kJ.up (xσ20.trans (xσ21.trans (xσ22.trans (xσ26.trans (xσ27.trans (xσ28.trans xσ31))))))) (by decide)).1) kp120
  have kp136 : Kpt (gI σ32 J 2 = gI σ J 2) := Eq.trans (show gI σ32 J 2 = gI σ31 J 2 from (cσ32.O (kJ.up (xσ20.trans (xσ21.trans (xσ22.trans (xσ26.trans (xσ27.trans (xσ28.trans xσ31))))))) (by decide)).1) kp121
  have kp137 : Kpt (gI σ32 o 3 = gI σ26 o 3) := Eq.trans (show gI σ32 o 3 = gI σ31 o 3 from (cσ32.O (ko.up (xσ20.trans (xσ21.trans (xσ22.trans (xσ26.trans (xσ27.trans (xσ28.trans xσ31))))))) (by decide)).1) kp122
  have kp138 : Kpt (gI σ32 o 4 = gI σ o 4) := Eq.trans (show gI σ32 o 4 = gI σ31 o 4 from (cσ32.O (ko.up (xσ20.trans (xσ21.trans (xσ22.trans (xσ26.trans (xσ27.trans (xσ28.trans xσ31))))))) (by decide)).1) kp123
  have kp139 : Kpt (gI σ32 o 6 = gI σ21 o 6) := Eq.trans (show gI σ32 o 6 = gI σ31 o 6 from (cσ32.O (ko.up (xσ20.trans (xσ21.trans (xσ22.trans (xσ26.trans (xσ27.trans (xσ28.trans xσ31))))))) (by decide)).1) kp124
  have kp140 : Kpt (gI σ32 o 7 = gI σ21 o 7) := Eq.trans (show gI σ32 o 7 = gI σ31 o 7 from (cσ32.O (ko.up (xσ20.trans (xσ21.trans (xσ22.trans (xσ26.trans (xσ27.trans (xσ28.trans xσ31))))))) (by decide)).1) kp125
  have kp141 : Kpt (gI σ32 o 8 = gI σ o 8) := Eq.trans (show gI σ32 o 8 = gI σ31 o 8 from (cσ32.O (ko.up (xσ20.trans (xσ21.trans (xσ22.trans (xσ26.trans (xσ27.trans (xσ28.trans xσ31))))))) (by decide)).1) kp126
  have kp142 : Kpt (gI σ32 o 9 = gI σ o 9) := Eq.trans (show gI σ32 o 9 = gI σ31 o 9 from (cσ32.O (ko.up (xσ20.trans (xσ21.trans (xσ22.trans (xσ26.trans (xσ27.trans (xσ28.trans xσ31))))))) (by decide)).1) kp127
  have r5σ32 := I_6_5 iσ32.1 (kth.up (xσ20.trans (xσ21.trans (xσ22.trans (xσ26.trans (xσ27.trans (xσ28.trans (xσ31.trans xσ32))))))))
  have ho143 : gI σ32 J 7 = gI σ J 7 := kp134
  have cp144 : (gI σ32 th 5 ≤ gI σ32 th 2 ∧ (gI σ32 th 3 ≠ 0 → gI σ32 th 5 + 1 ≤ gI σ32 th 2)) ∧ gI σ32 J 7 ≤ 2 * gI σ32 th 5 ∧ 0 ≤ gI σ32 th 5 := by omega
  clear pσ32 kp118 kp117 kp116 kp101 kp100 kp99 cp92
  refine i_X6_wantWord iσ32 (kth.up (xσ20.trans (xσ21.trans (xσ22.trans (xσ26.trans (xσ27.trans (xσ28.trans (xσ31.trans xσ32)))))))) (kp131.trans (kp113.trans (kp96.trans (kp79.trans (kp64.trans (kp38.trans (kp25.trans (kp16.trans hX0)))))))) (kX.up (xσ20.trans (xσ21.trans (xσ22.trans (xσ26.trans (xσ27.trans (xσ28.trans (xσ31.trans xσ32)))))))) (((xσ20.trans (xσ21.trans (xσ22.trans (xσ26.trans (xσ27.trans (xσ28.trans (xσ31.trans xσ32))))))) tx kX.1).2.2.trans gX) (by (first | omega | with_reducible assumption | with_reducible exact rng_toInt _ | with_reducible exact rng_wr _ | (unfold rng; omega) | (unfold rng at *; omega) | assumption)) (by (first | omega | with_reducible assumption | with_reducible exact rng_toInt _ | with_reducible exact rng_wr _ | (unfold rng; omega) | (unfold rng at *; omega) | assumption)) (fun σ33 _ iσ33 cσ33 pσ33 => ?_) (fun σx LLx Nx nux E ix cx ux px => hX σx LLx Nx nux E ix (fσ32.tr (cx.mo (by decide))) (ux) (by first | exact px | exact ⟨by have := px.1; omega, px.2⟩ | (first | omega | with_reducible assumption | with_reducible exact rng_toInt _ | with_reducible exact rng_wr _ | (unfold rng; omega) | (unfold rng at *; omega) | assumption)))
  intro xσ33
  have fσ33 : Fx [323, 326, 327, 333, 336, 386, 387, 388, 389, 390, 6464] gr σ σ33 := fσ32.tr (cσ33.mo (by decide))
  have oxcσ33 : OX o σ σ33 := oxcσ32.tr (OX.fx cσ33 (by decide) (by decide)) (xσ20.trans (xσ21.trans (xσ22.trans (xσ26.trans (xσ27.trans (xσ28.trans (xσ31.trans xσ32)))))))
  have kp145 : gI σ33 o 13 = gI σ32 o 13 := (cσ33.O (ko.up (xσ20.trans (xσ21.trans (xσ22.trans (xσ26.trans (xσ27.trans (xσ28.trans (xσ31.trans xσ32)))))))) (by decide)).1
  have kp146 : gP σ33 J 0 = gP σ32 J 0 := (cσ33.O (kJ.up (xσ20.trans (xσ21.trans (xσ22.trans (xσ26.trans (xσ27.trans (xσ28.trans (xσ31.trans xσ32)))))))) (by decide)).2.1
  have kp147 : gP σ33 b (gI σ22 o 7).toNat = gP σ32 b (gI σ22 o 7).toNat := (cσ33.A (mb.up (xσ26.trans (xσ27.trans (xσ28.trans (xσ31.trans xσ32))))) (by decide)).2.1
  have kp148 : gP σ33 th 0 = gP σ32 th 0 := (cσ33.O (kth.up (xσ20.trans (xσ21.trans (xσ22.trans (xσ26.trans (xσ27.trans (xσ28.trans (xσ31.trans xσ32)))))))) (by decide)).2.1
  have kp149 : gP σ33 th 7 = gP σ32 th 7 := (cσ33.O (kth.up (xσ20.trans (xσ21.trans (xσ22.trans (xσ26.trans (xσ27.trans (xσ28.trans (xσ31.trans xσ32)))))))) (by decide)).2.1
  have kp150 : gP σ33 th 8 = gP σ32 th 8 := (cσ33.O (kth.up (xσ20.trans (xσ21.trans (xσ22.trans (xσ26.trans (xσ27.trans (xσ28.trans (xσ31.trans xσ32)))))))) (by decide)).2.1
  have kp151 : Kpt (gI σ33 J 7 = gI σ J 7) := Eq.trans (show gI σ33 J 7 = gI σ32 J 7 from (cσ33.O (kJ.up (xσ20.trans (xσ21.trans (xσ22.trans (xσ26.trans (xσ27.trans (xσ28.trans (xσ31.trans xσ32)))))))) (by decide)).1) kp134
  have kp152 : Kpt (gI σ33 J 1 = gI σ J 1) := Eq.trans (show gI σ33 J 1 = gI σ32 J 1 from (cσ33.O (kJ.up (xσ20.trans (xσ21.trans (xσ22.trans (xσ26.trans (xσ27.trans (xσ28.trans (xσ31.trans xσ32)))))))) (by decide)).1) kp135
  have kp153 : Kpt (gI σ33 J 2 = gI σ J 2) := Eq.trans (show gI σ33 J 2 = gI σ32 J 2 from (cσ33.O (kJ.up (xσ20.trans (xσ21.trans (xσ22.trans (xσ26.trans (xσ27.trans (xσ28.trans (xσ31.trans xσ32)))))))) (by decide)).1) kp136
  have kp154 : Kpt (gI σ33 o 3 = gI σ26 o 3) := Eq.trans (show gI σ33 o 3 = gI σ32 o 3 from (cσ33.O (ko.up (xσ20.trans (xσ21.trans (xσ22.trans (xσ26.trans (xσ27.trans (xσ28.trans (xσ31.trans xσ32)))))))) (by decide)).1) kp137
  have kp155 : Kpt (gI σ33 o 4 = gI σ o 4) := Eq.trans (show gI σ33 o 4 = gI σ32 o 4 from (cσ33.O (ko.up (xσ20.trans (xσ21.trans (xσ22.trans (xσ26.trans (xσ27.trans (xσ28.trans (xσ31.trans xσ32)))))))) (by decide)).1) kp138
  have kp156 : Kpt (gI σ33 o 6 = gI σ21 o 6) := Eq.trans (show gI σ33 o 6 = gI σ32 o 6 from (cσ33.O (ko.up (xσ20.trans (xσ21.trans (xσ22.trans (xσ26.trans (xσ27.trans (xσ28.trans (xσ31.trans xσ32)))))))) (by decide)).1) kp139
  have kp157 : Kpt (gI σ33 o 7 = gI σ21 o 7) := Eq.trans (show gI σ33 o 7 = gI σ32 o 7 from (cσ33.O (ko.up (xσ20.trans (xσ21.trans (xσ22.trans (xσ26.trans (xσ27.trans (xσ28.trans (xσ31.trans xσ32)))))))) (by decide)).1) kp140
  have kp158 : Kpt (gI σ33 o 8 = gI σ o 8) := Eq.trans (show gI σ33 o 8 = gI σ32 o 8 from (cσ33.O (ko.up (xσ20.trans (xσ21.trans (xσ22.trans (xσ26.trans (xσ27.trans (xσ28.trans (xσ31.trans xσ32)))))))) (by decide)).1) kp141
  have kp159 : Kpt (gI σ33 o 9 = gI σ o 9) := Eq.trans (show gI σ33 o 9 = gI σ32 o 9 from (cσ33.O (ko.up (xσ20.trans (xσ21.trans (xσ22.trans (xσ26.trans (xσ27.trans (xσ28.trans (xσ31.trans xσ32)))))))) (by decide)).1) kp142
  have r5σ33 := I_6_5 iσ33.1 (kth.up (xσ20.trans (xσ21.trans (xσ22.trans (xσ26.trans (xσ27.trans (xσ28.trans (xσ31.trans (xσ32.trans xσ33)))))))))
  have ho160 : gI σ33 J 7 = gI σ J 7 := kp151
  have cp161 : (gI σ33 th 5 ≤ gI σ33 th 2 ∧ (gI σ33 th 3 ≠ 0 → gI σ33 th 5 + 1 ≤ gI σ33 th 2)) ∧ gI σ33 J 7 ≤ 2 * gI σ33 th 5 ∧ 0 ≤ gI σ33 th 5 := by omega
  clear pσ33 cp144
  refine i_X6_number iσ33 (kth.up (xσ20.trans (xσ21.trans (xσ22.trans (xσ26.trans (xσ27.trans (xσ28.trans (xσ31.trans (xσ32.trans xσ33))))))))) (by (first | omega | with_reducible assumption | with_reducible exact rng_toInt _ | with_reducible exact rng_wr _ | (unfold rng; omega) | (unfold rng at *; omega) | assumption)) (by (first | omega | with_reducible assumption | with_reducible exact rng_toInt _ | with_reducible exact rng_wr _ | (unfold rng; omega) | (unfold rng at *; omega) | assumption)) (fun σ34 r35 iσ34 cσ34 pσ34 => ?_) (fun σx LLx Nx nux E ix cx ux px => hX σx LLx Nx nux E ix (fσ33.tr (cx.mo (by decide))) (ux) (by first | exact px | exact ⟨by have := px.1; omega, px.2⟩ | (first | omega | with_reducible assumption | with_reducible exact rng_toInt _ | with_reducible exact rng_wr _ | (unfold rng; omega) | (unfold rng at *; omega) | assumption)))
  intro xσ34
  have fσ34 : Fx [323, 326, 327, 333, 336, 386, 387, 388, 389, 390, 6464] gr σ σ34 := fσ33.tr (cσ34.mo (by decide))
  have oxcσ34 : OX o σ σ34 := oxcσ33.tr (OX.fx cσ34 (by decide) (by decide)) (xσ20.trans (xσ21.trans (xσ22.trans (xσ26.trans (xσ27.trans (xσ28.trans (xσ31.trans (xσ32.trans xσ33))))))))
  have kp162 : gI σ34 o 13 = gI σ33 o 13 := (cσ34.O (ko.up (xσ20.trans (xσ21.trans (xσ22.trans (xσ26.trans (xσ27.trans (xσ28.trans (xσ31.trans (xσ32.trans xσ33))))))))) (by decide)).1
  have kp163 : gP σ34 J 0 = gP σ33 J 0 := (cσ34.O (kJ.up (xσ20.trans (xσ21.trans (xσ22.trans (xσ26.trans (xσ27.trans (xσ28.trans (xσ31.trans (xσ32.trans xσ33))))))))) (by decide)).2.1
  have kp164 : gP σ34 b (gI σ22 o 7).toNat = gP σ33 b (gI σ22 o 7).toNat := (cσ34.A (mb.up (xσ26.trans (xσ27.trans (xσ28.trans (xσ31.trans (xσ32.trans xσ33)))))) (by decide)).2.1
  have kp165 : gP σ34 th 0 = gP σ33 th 0 := (cσ34.O (kth.up (xσ20.trans (xσ21.trans (xσ22.trans (xσ26.trans (xσ27.trans (xσ28.trans (xσ31.trans (xσ32.trans xσ33))))))))) (by decide)).2.1
  have kp166 : gP σ34 th 7 = gP σ33 th 7 := (cσ34.O (kth.up (xσ20.trans (xσ21.trans (xσ22.trans (xσ26.trans (xσ27.trans (xσ28.trans (xσ31.trans (xσ32.trans xσ33))))))))) (by decide)).2.1
  have kp167 : gP σ34 th 8 = gP σ33 th 8 := (cσ34.O (kth.up (xσ20.trans (xσ21.trans (xσ22.trans (xσ26.trans (xσ27.trans (xσ28.trans (xσ31.trans (xσ32.trans xσ33))))))))) (by decide)).2.1
  have kp168 : gI σ34 th 2 = gI σ33 th 2 := (cσ34.O (kth.up (xσ20.trans (xσ21.trans (xσ22.trans (xσ26.trans (xσ27.trans (xσ28.trans (xσ31.trans (xσ32.trans xσ33))))))))) (by decide)).1
  have kp169 : gI σ34 th 3 = gI σ33 th 3 := (cσ34.O (kth.up (xσ20.trans (xσ21.trans (xσ22.trans (xσ26.trans (xσ27.trans (xσ28.trans (xσ31.trans (xσ32.trans xσ33))))))))) (by decide)).1
  have kp170 : gI σ34 th 5 = gI σ33 th 5 := (cσ34.O (kth.up (xσ20.trans (xσ21.trans (xσ22.trans (xσ26.trans (xσ27.trans (xσ28.trans (xσ31.trans (xσ32.trans xσ33))))))))) (by decide)).1
  have kp171 : Kpt (gI σ34 J 7 = gI σ J 7) := Eq.trans (show gI σ34 J 7 = gI σ33 J 7 from (cσ34.O (kJ.up (xσ20.trans (xσ21.trans (xσ22.trans (xσ26.trans (xσ27.trans (xσ28.trans (xσ31.trans (xσ32.trans xσ33))))))))) (by decide)).1) kp151
  have kp172 : Kpt (gI σ34 J 1 = gI σ J 1) := Eq.trans (show gI σ34 J 1 = gI σ33 J 1 from (cσ34.O (kJ.up (xσ20.trans (xσ21.trans (xσ22.trans (xσ26.trans (xσ27.trans (xσ28.trans (xσ31.trans (xσ32.trans xσ33))))))))) (by decide)).1) kp152
  have kp173 : Kpt (gI σ34 J 2 = gI σ J 2) := Eq.trans (show gI σ34 J 2 = gI σ33 J 2 from (cσ34.O (kJ.up (xσ20.trans (xσ21.trans (xσ22.trans (xσ26.trans (xσ27.trans (xσ28.trans (xσ31.trans (xσ32.trans xσ33))))))))) (by decide)).1) kp153
  have kp174 : Kpt (gI σ34 o 3 = gI σ26 o 3) := Eq.trans (show gI σ34 o 3 = gI σ33 o 3 from (cσ34.O (ko.up (xσ20.trans (xσ21.trans (xσ22.trans (xσ26.trans (xσ27.trans (xσ28.trans (xσ31.trans (xσ32.trans xσ33))))))))) (by decide)).1) kp154
  have kp175 : Kpt (gI σ34 o 4 = gI σ o 4) := Eq.trans (show gI σ34 o 4 = gI σ33 o 4 from (cσ34.O (ko.up (xσ20.trans (xσ21.trans (xσ22.trans (xσ26.trans (xσ27.trans (xσ28.trans (xσ31.trans (xσ32.trans xσ33))))))))) (by decide)).1) kp155
  have kp176 : Kpt (gI σ34 o 6 = gI σ21 o 6) := Eq.trans (show gI σ34 o 6 = gI σ33 o 6 from (cσ34.O (ko.up (xσ20.trans (xσ21.trans (xσ22.trans (xσ26.trans (xσ27.trans (xσ28.trans (xσ31.trans (xσ32.trans xσ33))))))))) (by decide)).1) kp156
  have kp177 : Kpt (gI σ34 o 7 = gI σ21 o 7) := Eq.trans (show gI σ34 o 7 = gI σ33 o 7 from (cσ34.O (ko.up (xσ20.trans (xσ21.trans (xσ22.trans (xσ26.trans (xσ27.trans (xσ28.trans (xσ31.trans (xσ32.trans xσ33))))))))) (by decide)).1) kp157
  have kp178 : Kpt (gI σ34 o 8 = gI σ o 8) := Eq.trans (show gI σ34 o 8 = gI σ33 o 8 from (cσ34.O (ko.up (xσ20.trans (xσ21.trans (xσ22.trans (xσ26.trans (xσ27.trans (xσ28.trans (xσ31.trans (xσ32.trans xσ33))))))))) (by decide)).1) kp158
  have kp179 : Kpt (gI σ34 o 9 = gI σ o 9) := Eq.trans (show gI σ34 o 9 = gI σ33 o 9 from (cσ34.O (ko.up (xσ20.trans (xσ21.trans (xσ22.trans (xσ26.trans (xσ27.trans (xσ28.trans (xσ31.trans (xσ32.trans xσ33))))))))) (by decide)).1) kp159
  refine ⟨o, (kp150.trans (kp133.trans (kp115.trans (kp98.trans (kp81.trans (kp66.trans (kp40.trans (kp27.trans (kp18.trans h8))))))))), fun kk_o_2 => ?_⟩
  intro σ37 eσ37
  have xσ37 : Ext σ34 σ37 := by rw [eσ37]; exact fun _ h => ⟨h, rfl, rfl⟩
  have iσ37 : IV σ37 pl gq ci gr nc ot LL N nu := by rw [eσ37]; exact iσ34.wSp (ko.up (xσ20.trans (xσ21.trans (xσ22.trans (xσ26.trans (xσ27.trans (xσ28.trans (xσ31.trans (xσ32.trans (xσ33.trans xσ34)))))))))) (fun i hi => by omega) (by decide) (show (-1000 : Int) ≤ r35 ∧ r35 ≤ 1000 from ⟨by omega, by omega⟩)
  have fσ37 : Fx [323, 326, 327, 333, 336, 386, 387, 388, 389, 390, 6464] gr σ σ37 := fσ34.tr (Sk.fx (by rw [eσ37]; exact Sk.pI (by rw [fcdO (ko.up (xσ20.trans (xσ21.trans (xσ22.trans (xσ26.trans (xσ27.trans (xσ28.trans (xσ31.trans (xσ32.trans (xσ33.trans xσ34)))))))))) (by decide)]; decide)))
  have oxcσ37 : OX o σ σ37 := oxcσ34.tr (by rw [eσ37]; exact OX.pI (ko.up (xσ20.trans (xσ21.trans (xσ22.trans (xσ26.trans (xσ27.trans (xσ28.trans (xσ31.trans (xσ32.trans (xσ33.trans xσ34)))))))))) (Or.inr rfl)) (xσ20.trans (xσ21.trans (xσ22.trans (xσ26.trans (xσ27.trans (xσ28.trans (xσ31.trans (xσ32.trans (xσ33.trans xσ34)))))))))
  have wσ37 : gI σ37 o 16 = r35 := by rw [eσ37]; exact up2_s _ _ _ _
  have kp180 : gI σ37 o 13 = gI σ34 o 13 := by rw [eσ37]; exact up2_n _ _ (fun q => absurd q.2 (by decide))
  have kp181 : gP σ37 J 0 = gP σ34 J 0 := by rw [eσ37]
  have kp182 : gP σ37 b (gI σ22 o 7).toNat = gP σ34 b (gI σ22 o 7).toNat := by rw [eσ37]
  have kp183 : gP σ37 th 0 = gP σ34 th 0 := by rw [eσ37]
  have kp184 : gP σ37 th 7 = gP σ34 th 7 := by rw [eσ37]
  have kp185 : gP σ37 th 8 = gP σ34 th 8 := by rw [eσ37]
  have kp186 : gI σ37 th 2 = gI σ34 th 2 := by rw [eσ37]; exact up2_n _ _ (fun q => absurd q.2 (by decide))
  have kp187 : gI σ37 th 3 = gI σ34 th 3 := by rw [eσ37]; exact up2_n _ _ (fun q => absurd q.2 (by decide))
  have kp188 : gI σ37 th 5 = gI σ34 th 5 := by rw [eσ37]; exact up2_n _ _ (fun q => absurd q.2 (by decide))
  have kp189 : Kpt (gI σ37 J 7 = gI σ J 7) := Eq.trans (show gI σ37 J 7 = gI σ34 J 7 from by rw [eσ37]; exact up2_n _ _ (fun q => absurd q.2 (by decide))) kp171
  have kp190 : Kpt (gI σ37 J 1 = gI σ J 1) := Eq.trans (show gI σ37 J 1 = gI σ34 J 1 from by rw [eσ37]; exact up2_n _ _ (fun q => absurd q.2 (by decide))) kp172
  have kp191 : Kpt (gI σ37 J 2 = gI σ J 2) := Eq.trans (show gI σ37 J 2 = gI σ34 J 2 from by rw [eσ37]; exact up2_n _ _ (fun q => absurd q.2 (by decide))) kp173
  have kp192 : Kpt (gI σ37 o 3 = gI σ26 o 3) := Eq.trans (show gI σ37 o 3 = gI σ34 o 3 from by rw [eσ37]; exact up2_n _ _ (fun q => absurd q.2 (by decide))) kp174
  have kp193 : Kpt (gI σ37 o 4 = gI σ o 4) := Eq.trans (show gI σ37 o 4 = gI σ34 o 4 from by rw [eσ37]; exact up2_n _ _ (fun q => absurd q.2 (by decide))) kp175
  have kp194 : Kpt (gI σ37 o 6 = gI σ21 o 6) := Eq.trans (show gI σ37 o 6 = gI σ34 o 6 from by rw [eσ37]; exact up2_n _ _ (fun q => absurd q.2 (by decide))) kp176
  have kp195 : Kpt (gI σ37 o 7 = gI σ21 o 7) := Eq.trans (show gI σ37 o 7 = gI σ34 o 7 from by rw [eσ37]; exact up2_n _ _ (fun q => absurd q.2 (by decide))) kp177
  have kp196 : Kpt (gI σ37 o 8 = gI σ o 8) := Eq.trans (show gI σ37 o 8 = gI σ34 o 8 from by rw [eσ37]; exact up2_n _ _ (fun q => absurd q.2 (by decide))) kp178
  have kp197 : Kpt (gI σ37 o 9 = gI σ o 9) := Eq.trans (show gI σ37 o 9 = gI σ34 o 9 from by rw [eσ37]; exact up2_n _ _ (fun q => absurd q.2 (by decide))) kp179
  refine i_X6_next iσ37 (kth.up (xσ20.trans (xσ21.trans (xσ22.trans (xσ26.trans (xσ27.trans (xσ28.trans (xσ31.trans (xσ32.trans (xσ33.trans (xσ34.trans xσ37))))))))))) (kp183.trans (kp165.trans (kp148.trans (kp131.trans (kp113.trans (kp96.trans (kp79.trans (kp64.trans (kp38.trans (kp25.trans (kp16.trans hX0))))))))))) (kX.up (xσ20.trans (xσ21.trans (xσ22.trans (xσ26.trans (xσ27.trans (xσ28.trans (xσ31.trans (xσ32.trans (xσ33.trans (xσ34.trans xσ37))))))))))) (((xσ20.trans (xσ21.trans (xσ22.trans (xσ26.trans (xσ27.trans (xσ28.trans (xσ31.trans (xσ32.trans (xσ33.trans (xσ34.trans xσ37)))))))))) tx kX.1).2.2.trans gX) (by (first | omega | with_reducible assumption | with_reducible exact rng_toInt _ | with_reducible exact rng_wr _ | (unfold rng; omega) | (unfold rng at *; omega) | assumption)) (by (first | omega | with_reducible assumption | with_reducible exact rng_toInt _ | with_reducible exact rng_wr _ | (unfold rng; omega) | (unfold rng at *; omega) | assumption)) (fun σ38 _ iσ38 cσ38 pσ38 => ?_) (fun σx LLx Nx nux E ix cx ux px => hX σx LLx Nx nux E ix (fσ37.tr (cx.mo (by decide))) (ux) (by first | exact px | exact ⟨by have := px.1; omega, px.2⟩ | (first | omega | with_reducible assumption | with_reducible exact rng_toInt _ | with_reducible exact rng_wr _ | (unfold rng; omega) | (unfold rng at *; omega) | assumption)))
  intro xσ38
  have fσ38 : Fx [323, 326, 327, 333, 336, 386, 387, 388, 389, 390, 6464] gr σ σ38 := fσ37.tr (cσ38.mo (by decide))
  have oxcσ38 : OX o σ σ38 := oxcσ37.tr (OX.fx cσ38 (by decide) (by decide)) (xσ20.trans (xσ21.trans (xσ22.trans (xσ26.trans (xσ27.trans (xσ28.trans (xσ31.trans (xσ32.trans (xσ33.trans (xσ34.trans xσ37))))))))))
  have kp198 : gI σ38 o 13 = gI σ37 o 13 := (cσ38.O (ko.up (xσ20.trans (xσ21.trans (xσ22.trans (xσ26.trans (xσ27.trans (xσ28.trans (xσ31.trans (xσ32.trans (xσ33.trans (xσ34.trans xσ37))))))))))) (by decide)).1
  have kp199 : gI σ38 o 16 = gI σ37 o 16 := (cσ38.O (ko.up (xσ20.trans (xσ21.trans (xσ22.trans (xσ26.trans (xσ27.trans (xσ28.trans (xσ31.trans (xσ32.trans (xσ33.trans (xσ34.trans xσ37))))))))))) (by decide)).1
  have kp200 : gP σ38 J 0 = gP σ37 J 0 := (cσ38.O (kJ.up (xσ20.trans (xσ21.trans (xσ22.trans (xσ26.trans (xσ27.trans (xσ28.trans (xσ31.trans (xσ32.trans (xσ33.trans (xσ34.trans xσ37))))))))))) (by decide)).2.1
  have kp201 : gP σ38 b (gI σ22 o 7).toNat = gP σ37 b (gI σ22 o 7).toNat := (cσ38.A (mb.up (xσ26.trans (xσ27.trans (xσ28.trans (xσ31.trans (xσ32.trans (xσ33.trans (xσ34.trans xσ37)))))))) (by decide)).2.1
  have kp202 : gP σ38 th 0 = gP σ37 th 0 := (cσ38.O (kth.up (xσ20.trans (xσ21.trans (xσ22.trans (xσ26.trans (xσ27.trans (xσ28.trans (xσ31.trans (xσ32.trans (xσ33.trans (xσ34.trans xσ37))))))))))) (by decide)).2.1
  have kp203 : gP σ38 th 7 = gP σ37 th 7 := (cσ38.O (kth.up (xσ20.trans (xσ21.trans (xσ22.trans (xσ26.trans (xσ27.trans (xσ28.trans (xσ31.trans (xσ32.trans (xσ33.trans (xσ34.trans xσ37))))))))))) (by decide)).2.1
  have kp204 : gP σ38 th 8 = gP σ37 th 8 := (cσ38.O (kth.up (xσ20.trans (xσ21.trans (xσ22.trans (xσ26.trans (xσ27.trans (xσ28.trans (xσ31.trans (xσ32.trans (xσ33.trans (xσ34.trans xσ37))))))))))) (by decide)).2.1
  have kp205 : Kpt (gI σ38 J 7 = gI σ J 7) := Eq.trans (show gI σ38 J 7 = gI σ37 J 7 from (cσ38.O (kJ.up (xσ20.trans (xσ21.trans (xσ22.trans (xσ26.trans (xσ27.trans (xσ28.trans (xσ31.trans (xσ32.trans (xσ33.trans (xσ34.trans xσ37))))))))))) (by decide)).1) kp189
  have kp206 : Kpt (gI σ38 J 1 = gI σ J 1) := Eq.trans (show gI σ38 J 1 = gI σ37 J 1 from (cσ38.O (kJ.up (xσ20.trans (xσ21.trans (xσ22.trans (xσ26.trans (xσ27.trans (xσ28.trans (xσ31.trans (xσ32.trans (xσ33.trans (xσ34.trans xσ37))))))))))) (by decide)).1) kp190
  have kp207 : Kpt (gI σ38 J 2 = gI σ J 2) := Eq.trans (show gI σ38 J 2 = gI σ37 J 2 from (cσ38.O (kJ.up (xσ20.trans (xσ21.trans (xσ22.trans (xσ26.trans (xσ27.trans (xσ28.trans (xσ31.trans (xσ32.trans (xσ33.trans (xσ34.trans xσ37))))))))))) (by decide)).1) kp191
  have kp208 : Kpt (gI σ38 o 3 = gI σ26 o 3) := Eq.trans (show gI σ38 o 3 = gI σ37 o 3 from (cσ38.O (ko.up (xσ20.trans (xσ21.trans (xσ22.trans (xσ26.trans (xσ27.trans (xσ28.trans (xσ31.trans (xσ32.trans (xσ33.trans (xσ34.trans xσ37))))))))))) (by decide)).1) kp192
  have kp209 : Kpt (gI σ38 o 4 = gI σ o 4) := Eq.trans (show gI σ38 o 4 = gI σ37 o 4 from (cσ38.O (ko.up (xσ20.trans (xσ21.trans (xσ22.trans (xσ26.trans (xσ27.trans (xσ28.trans (xσ31.trans (xσ32.trans (xσ33.trans (xσ34.trans xσ37))))))))))) (by decide)).1) kp193
  have kp210 : Kpt (gI σ38 o 6 = gI σ21 o 6) := Eq.trans (show gI σ38 o 6 = gI σ37 o 6 from (cσ38.O (ko.up (xσ20.trans (xσ21.trans (xσ22.trans (xσ26.trans (xσ27.trans (xσ28.trans (xσ31.trans (xσ32.trans (xσ33.trans (xσ34.trans xσ37))))))))))) (by decide)).1) kp194
  have kp211 : Kpt (gI σ38 o 7 = gI σ21 o 7) := Eq.trans (show gI σ38 o 7 = gI σ37 o 7 from (cσ38.O (ko.up (xσ20.trans (xσ21.trans (xσ22.trans (xσ26.trans (xσ27.trans (xσ28.trans (xσ31.trans (xσ32.trans (xσ33.trans (xσ34.trans xσ37))))))))))) (by decide)).1) kp195
  have kp212 : Kpt (gI σ38 o 8 = gI σ o 8) := Eq.trans (show gI σ38 o 8 = gI σ37 o 8 from (cσ38.O (ko.up (xσ20.trans (xσ21.trans (xσ22.trans (xσ26.trans (xσ27.trans (xσ28.trans (xσ31.trans (xσ32.trans (xσ33.trans (xσ34.trans xσ37))))))))))) (by decide)).1) kp196
  have kp213 : Kpt (gI σ38 o 9 = gI σ o 9) := Eq.trans (show gI σ38 o 9 = gI σ37 o 9 from (cσ38.O (ko.up (xσ20.trans (xσ21.trans (xσ22.trans (xσ26.trans (xσ27.trans (xσ28.trans (xσ31.trans (xσ32.trans (xσ33.trans (xσ34.trans xσ37))))))))))) (by decide)).1) kp197
  have r5σ38 := I_6_5 iσ38.1 (kth.up (xσ20.trans (xσ21.trans (xσ22.trans (xσ26.trans (xσ27.trans (xσ28.trans (xσ31.trans (xσ32.trans (xσ33.trans (xσ34.trans (xσ37.trans xσ38))))))))))))
  have ho214 : gI σ38 J 7 = gI σ J 7 := kp205
  have cp215 : (gI σ38 th 5 ≤ gI σ38 th 2 ∧ (gI σ38 th 3 ≠ 0 → gI σ38 th 5 + 1 ≤ gI σ38 th 2)) ∧ gI σ38 J 7 ≤ 2 * gI σ38 th 5 ∧ 0 ≤ gI σ38 th 5 := by omega
  clear pσ38 kp188 kp187 kp186 kp170 kp169 kp168 cp161
  have ho216 : gI σ38 J 1 = gI σ J 1 := kp206
  have ho217 : gI σ38 J 2 = gI σ J 2 := kp207
  have ho218 : gI σ38 o 3 = gI σ26 o 3 := kp208
  have ho219 : gI σ38 o 4 = gI σ o 4 := kp209
  have ho220 : gI σ38 o 6 = gI σ21 o 6 := kp210
  have ho221 : gI σ38 o 7 = gI σ21 o 7 := kp211
  have ho222 : gI σ38 o 8 = gI σ o 8 := kp212
  have ho223 : gI σ38 o 9 = gI σ o 9 := kp213
  exact hQ σ38 () iσ38 fσ38 oxcσ38 (⟨by omega, by omega, ⟨by omega, (fun h => absurd h (by omega)), (fun h => absurd h (by omega))⟩⟩)

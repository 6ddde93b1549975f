set_option maxHeartbeats 1000000 in
theorem i_X6_uniqueText {σ : Sg} {pl : Nat} {gq ci gr nc : Nat → Nat} {ot : Nat → Nat → Int} {LL : Nat → List Nat} {N nu : Nat → Nat} {th : Nat} {tx J o q c : Nat} (iσ : IV σ pl gq ci gr nc ot LL N nu) (kth : kO σ th 6) (hX0 : gP σ th 0 = some tx) (kX : kO σ tx 102) (gX : gn σ tx = 1500) (h7 : gP σ th 7 = some J) (kJ : kO σ J 4) (h8 : gP σ th 8 = some o) (ko : kO σ o 5) (hJq : gq J = q) (hq : q ≠ nc 0 ∧ q ≤ 1) (go : gq o = 16 * q + c) (hc : c < 16) (cJ : gI σ J 1 = (c : Int)) (tf : gI σ th 5 ≤ gI σ th 2 ∧ (gI σ th 3 ≠ 0 → gI σ th 5 + 1 ≤ gI σ th 2)) (h5 : nu 5 < 24000) (lp : gI σ J 7 ≤ 2 * gI σ th 5) (f0 : gI σ o 3 = 0 ∧ gI σ o 4 = 0 ∧ gI σ o 7 = -1 ∧ gI σ o 8 = -1) {Q : Sg → Unit → Prop} {X : Sg → String → Prop} (hQ : ∀ (σ' : Sg) (r : Unit), IV σ' pl gq ci gr nc ot LL N nu → Fx [323, 326, 327, 333, 336, 386, 387, 388, 389, 390, 6464] gr σ σ' → OX o σ σ' → ((gI σ' th 5 ≤ gI σ' th 2 ∧ (gI σ' th 3 ≠ 0 → gI σ' th 5 + 1 ≤ gI σ' th 2)) ∧ gI σ' J 7 ≤ 2 * gI σ' th 5 ∧ OPR σ σ' gq q c o) → Q σ' r) (hX : ∀ (σ' : Sg) (LL' : Nat → List Nat) (N' nu' : Nat → Nat) (E : String), IV σ' pl gq ci gr nc ot LL' N' nu' → Fx [323, 326, 327, 333, 336, 386, 387, 388, 389, 390, 6464] gr σ σ' → NCX nu nu' → (LL' = LL ∧ N' = N ∧ E = "java/lang/IllegalArgumentException" ∧ gI σ' th 6 ≠ 0) → X σ' E) : wp_X6_uniqueText th σ Q X := by
  have fσ : Fx [323, 326, 327, 333, 336, 386, 387, 388, 389, 390, 6464] gr σ σ := Fx.rf
  have oxσ : OX o σ σ := OX.rf
  have q1 := I_4_1 iσ.1 kJ
  have q2 := I_6_5 iσ.1 kth
  have q3 := I_6_2 iσ.1 kth
  have q4 := iσ.rg th 3; unfold rng at q4
  have q5 := I_4_7 iσ.1 kJ
  have q6 := I_5_3 iσ.1 ko
  have q7 := I_5_4 iσ.1 ko
  have q8 := I_5_7 iσ.1 ko
  have q9 := I_5_8 iσ.1 ko
  have ncb := iσ.ncb
  have r70 := I_4_7 iσ.1 kJ
  have r71 := I_4_1 iσ.1 kJ
  unfold wp_X6_uniqueText
  unfold w_X6_uniqueText_0
  refine i_X6_next iσ kth hX0 kX (((Ext.rfl' _) tx kX.1).2.2.trans gX) (by (first | omega | with_reducible assumption | with_reducible exact rng_toInt _ | with_reducible exact rng_wr _ | (unfold rng; omega) | (unfold rng at *; omega) | assumption)) (by (first | omega | with_reducible assumption | with_reducible exact rng_toInt _ | with_reducible exact rng_wr _ | (unfold rng; omega) | (unfold rng at *; omega) | assumption)) (fun σ20 _ iσ20 cσ20 pσ20 => ?_) (fun σx LLx Nx nux E ix cx ux px => hX σx LLx Nx nux E ix (fσ.tr (cx.mo (by decide))) (ux) (by first | exact px | exact ⟨by have := px.1; omega, px.2⟩ | (first | omega | with_reducible assumption | with_reducible exact rng_toInt _ | with_reducible exact rng_wr _ | (unfold rng; omega) | (unfold rng at *; omega) | assumption)))
  intro xσ20
  have fσ20 : Fx [323, 326, 327, 333, 336, 386, 387, 388, 389, 390, 6464] gr σ σ20 := fσ.tr (cσ20.mo (by decide))
  have oxcσ20 : OX o σ σ20 := oxσ.tr (OX.fx cσ20 (by decide) (by decide)) (Ext.rfl' _)
  have kp10 : Kpt (gI σ20 J 1 = gI σ J 1) := (cσ20.O kJ (by decide)).1
  have kp11 : Kpt (gI σ20 J 7 = gI σ J 7) := (cσ20.O kJ (by decide)).1
  have kp12 : Kpt (gI σ20 o 3 = gI σ o 3) := (cσ20.O ko (by decide)).1
  have kp13 : Kpt (gI σ20 o 4 = gI σ o 4) := (cσ20.O ko (by decide)).1
  have kp14 : Kpt (gI σ20 o 7 = gI σ o 7) := (cσ20.O ko (by decide)).1
  have kp15 : Kpt (gI σ20 o 8 = gI σ o 8) := (cσ20.O ko (by decide)).1
  have kp16 : gP σ20 th 0 = gP σ th 0 := (cσ20.O kth (by decide)).2.1
  have kp17 : gP σ20 th 7 = gP σ th 7 := (cσ20.O kth (by decide)).2.1
  have kp18 : gP σ20 th 8 = gP σ th 8 := (cσ20.O kth (by decide)).2.1
  have kp19 : Kpt (gI σ20 J 2 = gI σ J 2) := (cσ20.O kJ (by decide)).1
  have kp20 : Kpt (gI σ20 o 6 = gI σ o 6) := (cσ20.O ko (by decide)).1
  have kp21 : Kpt (gI σ20 o 9 = gI σ o 9) := (cσ20.O ko (by decide)).1
  have r5σ20 := I_6_5 iσ20.1 (kth.up xσ20)
  refine i_X6_firstInput iσ20 (kth.up xσ20) (kp17.trans h7) (kJ.up xσ20) (kp18.trans h8) (ko.up xσ20) (by (first | omega | with_reducible assumption | with_reducible exact rng_toInt _ | with_reducible exact rng_wr _ | (unfold rng; omega) | (unfold rng at *; omega) | assumption)) (by (first | omega | with_reducible assumption | with_reducible exact rng_toInt _ | with_reducible exact rng_wr _ | (unfold rng; omega) | (unfold rng at *; omega) | assumption)) (by (first | omega | with_reducible assumption | with_reducible exact rng_toInt _ | with_reducible exact rng_wr _ | (unfold rng; omega) | (unfold rng at *; omega) | assumption)) (by (first | omega | with_reducible assumption | with_reducible exact rng_toInt _ | with_reducible exact rng_wr _ | (unfold rng; omega) | (unfold rng at *; omega) | assumption)) (by (first | omega | with_reducible assumption | with_reducible exact rng_toInt _ | with_reducible exact rng_wr _ | (unfold rng; omega) | (unfold rng at *; omega) | assumption)) (by (first | omega | with_reducible assumption | with_reducible exact rng_toInt _ | with_reducible exact rng_wr _ | (unfold rng; omega) | (unfold rng at *; omega) | assumption)) (fun σ21 _ iσ21 cσ21 oxσ21 pσ21 => ?_) (fun σx LLx Nx nux E ix cx ux px => hX σx LLx Nx nux E ix (fσ20.tr (cx.mo (by decide))) (ux) (by first | exact px | exact ⟨by have := px.1; omega, px.2⟩ | (first | omega | with_reducible assumption | with_reducible exact rng_toInt _ | with_reducible exact rng_wr _ | (unfold rng; omega) | (unfold rng at *; omega) | assumption)))
  intro xσ21
  have fσ21 : Fx [323, 326, 327, 333, 336, 386, 387, 388, 389, 390, 6464] gr σ σ21 := fσ20.tr (cσ21.mo (by decide))
  have oxcσ21 : OX o σ σ21 := oxcσ20.tr oxσ21 (xσ20)
  have kp22 : gP σ21 th 0 = gP σ20 th 0 := (cσ21.O (kth.up xσ20) (by decide)).2.1
  have kp23 : gP σ21 th 7 = gP σ20 th 7 := (cσ21.O (kth.up xσ20) (by decide)).2.1
  have kp24 : gP σ21 th 8 = gP σ20 th 8 := (cσ21.O (kth.up xσ20) (by decide)).2.1
  have kp25 : gI σ21 th 2 = gI σ20 th 2 := (cσ21.O (kth.up xσ20) (by decide)).1
  have kp26 : gI σ21 th 3 = gI σ20 th 3 := (cσ21.O (kth.up xσ20) (by decide)).1
  have kp27 : gI σ21 th 5 = gI σ20 th 5 := (cσ21.O (kth.up xσ20) (by decide)).1
  have kp28 : Kpt (gI σ21 J 7 = gI σ J 7) := Eq.trans (show gI σ21 J 7 = gI σ20 J 7 from (cσ21.O (kJ.up xσ20) (by decide)).1) kp11
  have kp29 : Kpt (gI σ21 J 1 = gI σ J 1) := Eq.trans (show gI σ21 J 1 = gI σ20 J 1 from (cσ21.O (kJ.up xσ20) (by decide)).1) kp10
  have kp30 : Kpt (gI σ21 J 2 = gI σ J 2) := Eq.trans (show gI σ21 J 2 = gI σ20 J 2 from (cσ21.O (kJ.up xσ20) (by decide)).1) kp19
  have kp31 : Kpt (gI σ21 o 3 = gI σ o 3) := Eq.trans (show gI σ21 o 3 = gI σ20 o 3 from (cσ21.O (ko.up xσ20) (by decide)).1) kp12
  have kp32 : Kpt (gI σ21 o 4 = gI σ o 4) := Eq.trans (show gI σ21 o 4 = gI σ20 o 4 from (cσ21.O (ko.up xσ20) (by decide)).1) kp13
  have kp33 : Kpt (gI σ21 o 8 = gI σ o 8) := Eq.trans (show gI σ21 o 8 = gI σ20 o 8 from (cσ21.O (ko.up xσ20) (by decide)).1) kp15
  have kp34 : Kpt (gI σ21 o 9 = gI σ o 9) := Eq.trans (show gI σ21 o 9 = gI σ20 o 9 from (cσ21.O (ko.up xσ20) (by decide)).1) kp21
  refine i_X6_next iσ21 (kth.up (xσ20.trans xσ21)) (kp22.trans (kp16.trans hX0)) (kX.up (xσ20.trans xσ21)) (((xσ20.trans xσ21) tx kX.1).2.2.trans gX) (by (first | omega | with_reducible assumption | with_reducible exact rng_toInt _ | with_reducible exact rng_wr _ | (unfold rng; omega) | (unfold rng at *; omega) | assumption)) (by (first | omega | with_reducible assumption | with_reducible exact rng_toInt _ | with_reducible exact rng_wr _ | (unfold rng; omega) | (unfold rng at *; omega) | assumption)) (fun σ22 _ iσ22 cσ22 pσ22 => ?_) (fun σx LLx Nx nux E ix cx ux px => hX σx LLx Nx nux E ix (fσ21.tr (cx.mo (by decide))) (ux) (by first | exact px | exact ⟨by have := px.1; omega, px.2⟩ | (first | omega | with_reducible assumption | with_reducible exact rng_toInt _ | with_reducible exact rng_wr _ | (unfold rng; omega) | (unfold rng at *; omega) | assumption)))
  intro xσ22
  have fσ22 : Fx [323, 326, 327, 333, 336, 386, 387, 388, 389, 390, 6464] gr σ σ22 := fσ21.tr (cσ22.mo (by decide))
  have oxcσ22 : OX o σ σ22 := oxcσ21.tr (OX.fx cσ22 (by decide) (by decide)) (xσ20.trans xσ21)
  have kp35 : gP σ22 th 0 = gP σ21 th 0 := (cσ22.O (kth.up (xσ20.trans xσ21)) (by decide)).2.1
  have kp36 : gP σ22 th 7 = gP σ21 th 7 := (cσ22.O (kth.up (xσ20.trans xσ21)) (by decide)).2.1
  have kp37 : gP σ22 th 8 = gP σ21 th 8 := (cσ22.O (kth.up (xσ20.trans xσ21)) (by decide)).2.1
  have kp38 : Kpt (gI σ22 J 7 = gI σ J 7) := Eq.trans (show gI σ22 J 7 = gI σ21 J 7 from (cσ22.O (kJ.up (xσ20.trans xσ21)) (by decide)).1) kp28
  have kp39 : Kpt (gI σ22 J 1 = gI σ J 1) := Eq.trans (show gI σ22 J 1 = gI σ21 J 1 from (cσ22.O (kJ.up (xσ20.trans xσ21)) (by decide)).1) kp29
  have kp40 : Kpt (gI σ22 J 2 = gI σ J 2) := Eq.trans (show gI σ22 J 2 = gI σ21 J 2 from (cσ22.O (kJ.up (xσ20.trans xσ21)) (by decide)).1) kp30
  have kp41 : Kpt (gI σ22 o 3 = gI σ o 3) := Eq.trans (show gI σ22 o 3 = gI σ21 o 3 from (cσ22.O (ko.up (xσ20.trans xσ21)) (by decide)).1) kp31
  have kp42 : Kpt (gI σ22 o 4 = gI σ o 4) := Eq.trans (show gI σ22 o 4 = gI σ21 o 4 from (cσ22.O (ko.up (xσ20.trans xσ21)) (by decide)).1) kp32
  have kp43 : Kpt (gI σ22 o 6 = gI σ21 o 6) := (cσ22.O (ko.up (xσ20.trans xσ21)) (by decide)).1
  have kp44 : Kpt (gI σ22 o 7 = gI σ21 o 7) := (cσ22.O (ko.up (xσ20.trans xσ21)) (by decide)).1
  have kp45 : Kpt (gI σ22 o 8 = gI σ o 8) := Eq.trans (show gI σ22 o 8 = gI σ21 o 8 from (cσ22.O (ko.up (xσ20.trans xσ21)) (by decide)).1) kp33
  have kp46 : Kpt (gI σ22 o 9 = gI σ o 9) := Eq.trans (show gI σ22 o 9 = gI σ21 o 9 from (cσ22.O (ko.up (xσ20.trans xσ21)) (by decide)).1) kp34
  have r5σ22 := I_6_5 iσ22.1 (kth.up (xσ20.trans (xσ21.trans xσ22)))
  refine ⟨J, (kp36.trans (kp23.trans (kp17.trans h7))), fun kk_J => ?_⟩
  refine ⟨o, (kp37.trans (kp24.trans (kp18.trans h8))), fun kk_o => ?_⟩
  obtain ⟨b, eb, fb⟩ := P_4_0 iσ22.1 (kJ.up (xσ20.trans (xσ21.trans xσ22)))
  have mb : kO σ22 b 115 := iσ22.1.kd (kJ.up (xσ20.trans (xσ21.trans xσ22))) rfl eb rfl
  refine ⟨b, eb, fun kk_b => ?_⟩
  have ho47 : gI σ22 o 7 = gI σ21 o 7 := kp44
  have q48 := I_5_7 iσ22.1 (ko.up (xσ20.trans (xσ21.trans xσ22)))
  refine ⟨⟨by (first | omega | with_reducible assumption | with_reducible exact rng_toInt _ | with_reducible exact rng_wr _ | (unfold rng; omega) | (unfold rng at *; omega) | assumption), by (first | omega | with_reducible assumption | with_reducible exact rng_toInt _ | with_reducible exact rng_wr _ | (unfold rng; omega) | (unfold rng at *; omega) | assumption)⟩, ?_⟩
  obtain ⟨b_1, eb_1⟩ := P_115 iσ22.1 mb (k := (gI σ22 o 7).toNat) (by (first | omega | with_reducible assumption | with_reducible exact rng_toInt _ | with_reducible exact rng_wr _ | (unfold rng; omega) | (unfold rng at *; omega) | assumption))
  have fb_1 := T_115 iσ22.1 mb eb_1
  have mb_1 : kO σ22 b_1 5 := iσ22.1.kd mb rfl eb_1 rfl
  refine i_X5_addColumnsOf iσ22 (ko.up (xσ20.trans (xσ21.trans xσ22))) eb_1 mb_1 (by (first | omega | with_reducible assumption | with_reducible exact rng_toInt _ | with_reducible exact rng_wr _ | (unfold rng; omega) | (unfold rng at *; omega) | assumption)) (by (first | omega | with_reducible assumption | with_reducible exact rng_toInt _ | with_reducible exact rng_wr _ | (unfold rng; omega) | (unfold rng at *; omega) | assumption)) (by (first | omega | with_reducible assumption | with_reducible exact rng_toInt _ | with_reducible exact rng_wr _ | (unfold rng; omega) | (unfold rng at *; omega) | assumption)) (fun e => absurd (congrArg gq e) (by omega)) (fun σ26 _ iσ26 cσ26 oxσ26 pσ26 => ?_)
  intro xσ26
  have fσ26 : Fx [323, 326, 327, 333, 336, 386, 387, 388, 389, 390, 6464] gr σ σ26 := fσ22.tr (cσ26.mo (by decide))
  have oxcσ26 : OX o σ σ26 := oxcσ22.tr oxσ26 (xσ20.trans (xσ21.trans xσ22))
  have kp49 : Kpt (gI σ26 o 7 = gI σ21 o 7) := Eq.trans (show gI σ26 o 7 = gI σ22 o 7 from (cσ26.O (ko.up (xσ20.trans (xσ21.trans xσ22))) (by decide)).1) kp44
  have kp50 : gP σ26 J 0 = gP σ22 J 0 := (cσ26.O (kJ.up (xσ20.trans (xσ21.trans xσ22))) (by decide)).2.1
  have kp51 : gP σ26 b (gI σ22 o 7).toNat = gP σ22 b (gI σ22 o 7).toNat := (cσ26.A mb (by decide)).2.1
  have kp52 : gP σ26 th 0 = gP σ22 th 0 := (cσ26.O (kth.up (xσ20.trans (xσ21.trans xσ22))) (by decide)).2.1
  have kp53 : gP σ26 th 7 = gP σ22 th 7 := (cσ26.O (kth.up (xσ20.trans (xσ21.trans xσ22))) (by decide)).2.1
  have kp54 : gP σ26 th 8 = gP σ22 th 8 := (cσ26.O (kth.up (xσ20.trans (xσ21.trans xσ22))) (by decide)).2.1
  have kp55 : gI σ26 th 2 = gI σ22 th 2 := (cσ26.O (kth.up (xσ20.trans (xσ21.trans xσ22))) (by decide)).1
  have kp56 : gI σ26 th 3 = gI σ22 th 3 := (cσ26.O (kth.up (xσ20.trans (xσ21.trans xσ22))) (by decide)).1
  have kp57 : gI σ26 th 5 = gI σ22 th 5 := (cσ26.O (kth.up (xσ20.trans (xσ21.trans xσ22))) (by decide)).1
  have kp58 : Kpt (gI σ26 J 7 = gI σ J 7) := Eq.trans (show gI σ26 J 7 = gI σ22 J 7 from (cσ26.O (kJ.up (xσ20.trans (xσ21.trans xσ22))) (by decide)).1) kp38
  have kp59 : Kpt (gI σ26 J 1 = gI σ J 1) := Eq.trans (show gI σ26 J 1 = gI σ22 J 1 from (cσ26.O (kJ.up (xσ20.trans (xσ21.trans xσ22))) (by decide)).1) kp39
  have kp60 : Kpt (gI σ26 J 2 = gI σ J 2) := Eq.trans (show gI σ26 J 2 = gI σ22 J 2 from (cσ26.O (kJ.up (xσ20.trans (xσ21.trans xσ22))) (by decide)).1) kp40
  have kp61 : Kpt (gI σ26 o 4 = gI σ o 4) := Eq.trans (show gI σ26 o 4 = gI σ22 o 4 from (cσ26.O (ko.up (xσ20.trans (xσ21.trans xσ22))) (by decide)).1) kp42
  have kp62 : Kpt (gI σ26 o 6 = gI σ21 o 6) := Eq.trans (show gI σ26 o 6 = gI σ22 o 6 from (cσ26.O (ko.up (xσ20.trans (xσ21.trans xσ22))) (by decide)).1) kp43
  have kp63 : Kpt (gI σ26 o 8 = gI σ o 8) := Eq.trans (show gI σ26 o 8 = gI σ22 o 8 from (cσ26.O (ko.up (xσ20.trans (xσ21.trans xσ22))) (by decide)).1) kp45
  have kp64 : Kpt (gI σ26 o 9 = gI σ o 9) := Eq.trans (show gI σ26 o 9 = gI σ22 o 9 from (cσ26.O (ko.up (xσ20.trans (xσ21.trans xσ22))) (by decide)).1) kp46
  refine i_X6_wantWord iσ26 (kth.up (xσ20.trans (xσ21.trans (xσ22.trans xσ26)))) (kp52.trans (kp35.trans (kp22.trans (kp16.trans hX0)))) (kX.up (xσ20.trans (xσ21.trans (xσ22.trans xσ26)))) (((xσ20.trans (xσ21.trans (xσ22.trans xσ26))) tx kX.1).2.2.trans gX) (by (first | omega | with_reducible assumption | with_reducible exact rng_toInt _ | with_reducible exact rng_wr _ | (unfold rng; omega) | (unfold rng at *; omega) | assumption)) (by (first | omega | with_reducible assumption | with_reducible exact rng_toInt _ | with_reducible exact rng_wr _ | (unfold rng; omega) | (unfold rng at *; omega) | assumption)) (fun σ27 _ iσ27 cσ27 pσ27 => ?_) (fun σx LLx Nx nux E ix cx ux px => hX σx LLx Nx nux E ix (fσ26.tr (cx.mo (by decide))) (ux) (by first | exact px | exact ⟨by have := px.1; omega, px.2⟩ | (first | omega | with_reducible assumption | with_reducible exact rng_toInt _ | with_reducible exact rng_wr _ | (unfold rng; omega) | (unfold rng at *; omega) | assumption)))
  intro xσ27
  have fσ27 : Fx [323, 326, 327, 333, 336, 386, 387, 388, 389, 390, 6464] gr σ σ27 := fσ26.tr (cσ27.mo (by decide))
  have oxcσ27 : OX o σ σ27 := oxcσ26.tr (OX.fx cσ27 (by decide) (by decide)) (xσ20.trans (xσ21.trans (xσ22.trans xσ26)))
  have kp65 : gP σ27 J 0 = gP σ26 J 0 := (cσ27.O (kJ.up (xσ20.trans (xσ21.trans (xσ22.trans xσ26)))) (by decide)).2.1
  have kp66 : gP σ27 b (gI σ22 o 7).toNat = gP σ26 b (gI σ22 o 7).toNat := (cσ27.A (mb.up xσ26) (by decide)).2.1
  have kp67 : gP σ27 th 0 = gP σ26 th 0 := (cσ27.O (kth.up (xσ20.trans (xσ21.trans (xσ22.trans xσ26)))) (by decide)).2.1
  have kp68 : gP σ27 th 7 = gP σ26 th 7 := (cσ27.O (kth.up (xσ20.trans (xσ21.trans (xσ22.trans xσ26)))) (by decide)).2.1
  have kp69 : gP σ27 th 8 = gP σ26 th 8 := (cσ27.O (kth.up (xσ20.trans (xσ21.trans (xσ22.trans xσ26)))) (by decide)).2.1
  have kp70 : Kpt (gI σ27 J 7 = gI σ J 7) := Eq.trans (show gI σ27 J 7 = gI σ26 J 7 from (cσ27.O (kJ.up (xσ20.trans (xσ21.trans (xσ22.trans xσ26)))) (by decide)).1) kp58
  have kp71 : Kpt (gI σ27 J 1 = gI σ J 1) := Eq.trans (show gI σ27 J 1 = gI σ26 J 1 from (cσ27.O (kJ.up (xσ20.trans (xσ21.trans (xσ22.trans xσ26)))) (by decide)).1) kp59
  have kp72 : Kpt (gI σ27 J 2 = gI σ J 2) := Eq.trans (show gI σ27 J 2 = gI σ26 J 2 from (cσ27.O (kJ.up (xσ20.trans (xσ21.trans (xσ22.trans xσ26)))) (by decide)).1) kp60
  have kp73 : Kpt (gI σ27 o 3 = gI σ26 o 3) := (cσ27.O (ko.up (xσ20.trans (xσ21.trans (xσ22.trans xσ26)))) (by decide)).1
  have kp74 : Kpt (gI σ27 o 4 = gI σ o 4) := Eq.trans (show gI σ27 o 4 = gI σ26 o 4 from (cσ27.O (ko.up (xσ20.trans (xσ21.trans (xσ22.trans xσ26)))) (by decide)).1) kp61
  have kp75 : Kpt (gI σ27 o 6 = gI σ21 o 6) := Eq.trans (show gI σ27 o 6 = gI σ26 o 6 from (cσ27.O (ko.up (xσ20.trans (xσ21.trans (xσ22.trans xσ26)))) (by decide)).1) kp62
  have kp76 : Kpt (gI σ27 o 7 = gI σ21 o 7) := Eq.trans (show gI σ27 o 7 = gI σ26 o 7 from (cσ27.O (ko.up (xσ20.trans (xσ21.trans (xσ22.trans xσ26)))) (by decide)).1) kp49
  have kp77 : Kpt (gI σ27 o 8 = gI σ o 8) := Eq.trans (show gI σ27 o 8 = gI σ26 o 8 from (cσ27.O (ko.up (xσ20.trans (xσ21.trans (xσ22.trans xσ26)))) (by decide)).1) kp63
  have kp78 : Kpt (gI σ27 o 9 = gI σ o 9) := Eq.trans (show gI σ27 o 9 = gI σ26 o 9 from (cσ27.O (ko.up (xσ20.trans (xσ21.trans (xσ22.trans xσ26)))) (by decide)).1) kp64
  have r5σ27 := I_6_5 iσ27.1 (kth.up (xσ20.trans (xσ21.trans (xσ22.trans (xσ26.trans xσ27)))))
  refine i_X6_column iσ27 (kth.up (xσ20.trans (xσ21.trans (xσ22.trans (xσ26.trans xσ27))))) (kp69.trans (kp54.trans (kp37.trans (kp24.trans (kp18.trans h8))))) (ko.up (xσ20.trans (xσ21.trans (xσ22.trans (xσ26.trans xσ27))))) (by (first | omega | with_reducible assumption | with_reducible exact rng_toInt _ | with_reducible exact rng_wr _ | (unfold rng; omega) | (unfold rng at *; omega) | assumption)) (fun σ28 r29 iσ28 cσ28 pσ28 => ?_) (fun σx LLx Nx nux E ix cx ux px => hX σx LLx Nx nux E ix (fσ27.tr (cx.mo (by decide))) (ux) (by first | exact px | exact ⟨by have := px.1; omega, px.2⟩ | (first | omega | with_reducible assumption | with_reducible exact rng_toInt _ | with_reducible exact rng_wr _ | (unfold rng; omega) | (unfold rng at *; omega) | assumption)))
  intro xσ28
  have fσ28 : Fx [323, 326, 327, 333, 336, 386, 387, 388, 389, 390, 6464] gr σ σ28 := fσ27.tr (cσ28.mo (by decide))
  have oxcσ28 : OX o σ σ28 := oxcσ27.tr (OX.fx cσ28 (by decide) (by decide)) (xσ20.trans (xσ21.trans (xσ22.trans (xσ26.trans xσ27))))
  have kp79 : gP σ28 J 0 = gP σ27 J 0 := (cσ28.O (kJ.up (xσ20.trans (xσ21.trans (xσ22.trans (xσ26.trans xσ27))))) (by decide)).2.1
  have kp80 : gP σ28 b (gI σ22 o 7).toNat = gP σ27 b (gI σ22 o 7).toNat := (cσ28.A (mb.up (xσ26.trans xσ27)) (by decide)).2.1
  have kp81 : gP σ28 th 0 = gP σ27 th 0 := (cσ28.O (kth.up (xσ20.trans (xσ21.trans (xσ22.trans (xσ26.trans xσ27))))) (by decide)).2.1
  have kp82 : gP σ28 th 7 = gP σ27 th 7 := (cσ28.O (kth.up (xσ20.trans (xσ21.trans (xσ22.trans (xσ26.trans xσ27))))) (by decide)).2.1
  have kp83 : gP σ28 th 8 = gP σ27 th 8 := (cσ28.O (kth.up (xσ20.trans (xσ21.trans (xσ22.trans (xσ26.trans xσ27))))) (by decide)).2.1
  have kp84 : gI σ28 th 2 = gI σ27 th 2 := (cσ28.O (kth.up (xσ20.trans (xσ21.trans (xσ22.trans (xσ26.trans xσ27))))) (by decide)).1
  have kp85 : gI σ28 th 3 = gI σ27 th 3 := (cσ28.O (kth.up (xσ20.trans (xσ21.trans (xσ22.trans (xσ26.trans xσ27))))) (by decide)).1
  have kp86 : gI σ28 th 5 = gI σ27 th 5 := (cσ28.O (kth.up (xσ20.trans (xσ21.trans (xσ22.trans (xσ26.trans xσ27))))) (by decide)).1
  have kp87 : Kpt (gI σ28 J 7 = gI σ J 7) := Eq.trans (show gI σ28 J 7 = gI σ27 J 7 from (cσ28.O (kJ.up (xσ20.trans (xσ21.trans (xσ22.trans (xσ26.trans xσ27))))) (by decide)).1) kp70
  have kp88 : Kpt (gI σ28 J 1 = gI σ J 1) := Eq.trans (show gI σ28 J 1 = gI σ27 J 1 from (cσ28.O (kJ.up (xσ20.trans (xσ21.trans (xσ22.trans (xσ26.trans xσ27))))) (by decide)).1) kp71
  have kp89 : Kpt (gI σ28 J 2 = gI σ J 2) := Eq.trans (show gI σ28 J 2 = gI σ27 J 2 from (cσ28.O (kJ.up (xσ20.trans (xσ21.trans (xσ22.trans (xσ26.trans xσ27))))) (by decide)).1) kp72
  have kp90 : Kpt (gI σ28 o 3 = gI σ26 o 3) := Eq.trans (show gI σ28 o 3 = gI σ27 o 3 from (cσ28.O (ko.up (xσ20.trans (xσ21.trans (xσ22.trans (xσ26.trans xσ27))))) (by decide)).1) kp73
  have kp91 : Kpt (gI σ28 o 4 = gI σ o 4) := Eq.trans (show gI σ28 o 4 = gI σ27 o 4 from (cσ28.O (ko.up (xσ20.trans (xσ21.trans (xσ22.trans (xσ26.trans xσ27))))) (by decide)).1) kp74
  have kp92 : Kpt (gI σ28 o 6 = gI σ21 o 6) := Eq.trans (show gI σ28 o 6 = gI σ27 o 6 from (cσ28.O (ko.up (xσ20.trans (xσ21.trans (xσ22.trans (xσ26.trans xσ27))))) (by decide)).1) kp75
  have kp93 : Kpt (gI σ28 o 7 = gI σ21 o 7) := Eq.trans (show gI σ28 o 7 = gI σ27 o 7 from (cσ28.O (ko.up (xσ20.trans (xσ21.trans (xσ22.trans (xσ26.trans xσ27))))) (by decide)).1) kp76
  have kp94 : Kpt (gI σ28 o 8 = gI σ o 8) := Eq.trans (show gI σ28 o 8 = gI σ27 o 8 from (cσ28.O (ko.up (xσ20.trans (xσ21.trans (xσ22.trans (xσ26.trans xσ27))))) (by decide)).1) kp77
  have kp95 : Kpt (gI σ28 o 9 = gI σ o 9) := Eq.trans (show gI σ28 o 9 = gI σ27 o 9 from (cσ28.O (ko.up (xσ20.trans (xσ21.trans (xσ22.trans (xσ26.trans xσ27))))) (by decide)).1) kp78
  refine ⟨o, (kp69.trans (kp54.trans (kp37.trans (kp24.trans (kp18.trans h8))))), fun kk_o_1 => ?_⟩
  intro σ31 eσ31
  have xσ31 : Ext σ28 σ31 := by rw [eσ31]; exact fun _ h => ⟨h, rfl, rfl⟩
  have iσ31 : IV σ31 pl gq ci gr nc ot LL N nu := by rw [eσ31]; exact iσ28.wSp (ko.up (xσ20.trans (xσ21.trans (xσ22.trans (xσ26.trans (xσ27.trans xσ28)))))) (fun i hi => by omega) (by decide) (show (0 : Int) ≤ r29 ∧ r29 ≤ 7 from ⟨by omega, by omega⟩)
  have fσ31 : Fx [323, 326, 327, 333, 336, 386, 387, 388, 389, 390, 6464] gr σ σ31 := fσ28.tr (Sk.fx (by rw [eσ31]; exact Sk.pI (by rw [fcdO (ko.up (xσ20.trans (xσ21.trans (xσ22.trans (xσ26.trans (xσ27.trans xσ28)))))) (by decide)]; decide)))
  have oxcσ31 : OX o σ σ31 := oxcσ28.tr (by rw [eσ31]; exact OX.pI (ko.up (xσ20.trans (xσ21.trans (xσ22.trans (xσ26.trans (xσ27.trans xσ28)))))) (Or.inr rfl)) (xσ20.trans (xσ21.trans (xσ22.trans (xσ26.trans (xσ27.trans xσ28)))))
  have wσ31 : gI σ31 o 13 = r29 := by rw [eσ31]; exact up2_s _ _ _ _
  have kp96 : gP σ31 J 0 = gP σ28 J 0 := by rw [eσ31]
  have kp97 : gP σ31 b (gI σ22 o 7).toNat = gP σ28 b (gI σ22 o 7).toNat := by rw [eσ31]
  have kp98 : gP σ31 th 0 = gP σ28 th 0 := by rw [eσ31]
  have kp99 : gP σ31 th 7 = gP σ28 th 7 := by rw [eσ31]
  have kp100 : gP σ31 th 8 = gP σ28 th 8 := by rw [eσ31]
  have kp101 : gI σ31 th 2 = gI σ28 th 2 := by rw [eσ31]; exact up2_n _ _ (fun q => absurd q.2 (by decide))
  have kp102 : gI σ31 th 3 = gI σ28 th 3 := by rw [eσ31]; exact up2_n _ _ (fun q => absurd q.2 (by decide))
  have kp103 : gI σ31 th 5 = gI σ28 th 5 := by rw [eσ31]; exact up2_n _ _ (fun q => absurd q.2 (by decide))
  have kp104 : Kpt (gI σ31 J 7 = gI σ J 7) := Eq.trans (show gI σ31 J 7 = gI σ28 J 7 from by rw [eσ31]; exact up2_n _ _ (fun q => absurd q.2 (by decide))) kp87
  have kp105 : Kpt (gI σ31 J 1 = gI σ J 1) := Eq.trans (show gI σ31 J 1 = gI σ28 J 1 from by rw [eσ31]; exact up2_n _ _ (fun q => absurd q.2 (by decide))) kp88
  have kp106 : Kpt (gI σ31 J 2 = gI σ J 2) := Eq.trans (show gI σ31 J 2 = gI σ28 J 2 from by rw [eσ31]; exact up2_n _ _ (fun q => absurd q.2 (by decide))) kp89
  have kp107 : Kpt (gI σ31 o 3 = gI σ26 o 3) := Eq.trans (show gI σ31 o 3 = gI σ28 o 3 from by rw [eσ31]; exact up2_n _ _ (fun q => absurd q.2 (by decide))) kp90
  have kp108 : Kpt (gI σ31 o 4 = gI σ o 4) := Eq.trans (show gI σ31 o 4 = gI σ28 o 4 from by rw [eσ31]; exact up2_n _ _ (fun q => absurd q.2 (by decide))) kp91
  have kp109 : Kpt (gI σ31 o 6 = gI σ21 o 6) := Eq.trans (show gI σ31 o 6 = gI σ28 o 6 from by rw [eσ31]; exact up2_n _ _ (fun q => absurd q.2 (by decide))) kp92
  have kp110 : Kpt (gI σ31 o 7 = gI σ21 o 7) := Eq.trans (show gI σ31 o 7 = gI σ28 o 7 from by rw [eσ31]; exact up2_n _ _ (fun q => absurd q.2 (by decide))) kp93
  have kp111 : Kpt (gI σ31 o 8 = gI σ o 8) := Eq.trans (show gI σ31 o 8 = gI σ28 o 8 from by rw [eσ31]; exact up2_n _ _ (fun q => absurd q.2 (by decide))) kp94
  have kp112 : Kpt (gI σ31 o 9 = gI σ o 9) := Eq.trans (show gI σ31 o 9 = gI σ28 o 9 from by rw [eσ31]; exact up2_n _ _ (fun q => absurd q.2 (by decide))) kp95
  refine i_X6_next iσ31 (kth.up (xσ20.trans (xσ21.trans (xσ22.trans (xσ26.trans (xσ27.trans (xσ28.trans xσ31))))))) (kp98.trans (kp81.trans (kp67.trans (kp52.trans (kp35.trans (kp22.trans (kp16.trans hX0))))))) (kX.up (xσ20.trans (xσ21.trans (xσ22.trans (xσ26.trans (xσ27.trans (xσ28.trans xσ31))))))) (((xσ20.trans (xσ21.trans (xσ22.trans (xσ26.trans (xσ27.trans (xσ28.trans xσ31)))))) tx kX.1).2.2.trans gX) (by (first | omega | with_reducible assumption | with_reducible exact rng_toInt _ | with_reducible exact rng_wr _ | (unfold rng; omega) | (unfold rng at *; omega) | assumption)) (by (first | omega | with_reducible assumption | with_reducible exact rng_toInt _ | with_reducible exact rng_wr _ | (unfold rng; omega) | (unfold rng at *; omega) | assumption)) (fun σ32 _ iσ32 cσ32 pσ32 => ?_) (fun σx LLx Nx nux E ix cx ux px => hX σx LLx Nx nux E ix (fσ31.tr (cx.mo (by decide))) (ux) (by first | exact px | exact ⟨by have := px.1; omega, px.2⟩ | (first | omega | with_reducible assumption | with_reducible exact rng_toInt _ | with_reducible exact rng_wr _ | (unfold rng; omega) | (unfold rng at *; omega) | assumption)))
  intro xσ32
  have fσ32 : Fx [323, 326, 327, 333, 336, 386, 387, 388, 389, 390, 6464] gr σ σ32 := fσ31.tr (cσ32.mo (by decide))
  have oxcσ32 : OX o σ σ32 := oxcσ31.tr (OX.fx cσ32 (by decide) (by decide)) (xσ20.trans (xσ21.trans (xσ22.trans (xσ26.trans (xσ27.trans (xσ28.trans xσ31))))))
  have kp113 : gI σ32 o 13 = gI σ31 o 13 := (cσ32.O (ko.up (xσ20.trans (xσ21.trans (xσ22.trans (xσ26.trans (xσ27.trans (xσ28.trans xσ31))))))) (by decide)).1
  have kp114 : gP σ32 J 0 = gP σ31 J 0 := (cσ32.O (kJ.up (xσ20.trans (xσ21.trans (xσ22.trans (xσ26.trans (xσ27.trans (xσ28.trans xσ31))))))) (by decide)).2.1
  have kp115 : gP σ32 b (gI σ22 o 7).toNat = gP σ31 b (gI σ22 o 7).toNat := (cσ32.A (mb.up (xσ26.trans (xσ27.trans (xσ28.trans xσ31)))) (by decide)).2.1
  have kp116 : gP σ32 th 0 = gP σ31 th 0 := (cσ32.O (kth.up (xσ20.trans (xσ21.trans (xσ22.trans (xσ26.trans (xσ27.trans (xσ28.trans xσ31))))))) (by decide)).2.1
  have kp117 : gP σ32 th 7 = gP σ31 th 7 := (cσ32.O (kth.up (xσ20.trans (xσ21.trans (xσ22.trans (xσ26.trans (xσ27.trans (xσ28.trans xσ31))))))) (by decide)).2.1
  have kp118 : gP σ32 th 8 = gP σ31 th 8 := (cσ32.O (kth.up (xσ20.trans (xσ21.trans (xσ22.trans (xσ26.trans (xσ27.trans (xσ28.trans xσ31))))))) (by decide)).2.1
  have kp119 : Kpt (gI σ32 J 7 = gI σ J 7) := Eq.trans (show gI σ32 J 7 = gI σ31 J 7 from (cσ32.O (kJ.up (xσ20.trans (xσ21.trans (xσ22.trans (xσ26.trans (xσ27.trans (xσ28.trans xσ31))))))) (by decide)).1) kp104
  have kp120 : Kpt (gI σ32 J 1 = gI σ J 1) := Eq.trans (show gI σ32 J 1 = gI σ31 J 1 from (cσ32.O (kJ.up (xσ20.trans (xσ21.trans (xσ22.trans (xσ26.trans (xσ27.trans (xσ28.trans xσ31))))))) (by decide)).1) kp105
  have kp121 : Kpt (gI σ32 J 2 = gI σ J 2) := Eq.trans (show gI σ32 J 2 = gI σ31 J 2 from (cσ32.O (kJ.up (xσ20.trans (xσ21.trans (xσ22.trans (xσ26.trans (xσ27.trans (xσ28.trans xσ31))))))) (by decide)).1) kp106
  have kp122 : Kpt (gI σ32 o 3 = gI σ26 o 3) := Eq.trans (show gI σ32 o 3 = gI σ31 o 3 from (cσ32.O (ko.up (xσ20.trans (xσ21.trans (xσ22.trans (xσ26.trans (xσ27.trans (xσ28.trans xσ31))))))) (by decide)).1) kp107
  have kp123 : Kpt (gI σ32 o 4 = gI σ o 4) := Eq.trans (show gI σ32 o 4 = gI σ31 o 4 from (cσ32.O (ko.up (xσ20.trans (xσ21.trans (xσ22.trans (xσ26.trans (xσ27.trans (xσ28.trans xσ31))))))) (by decide)).1) kp108
  have kp124 : Kpt (gI σ32 o 6 = gI σ21 o 6) := Eq.trans (show gI σ32 o 6 = gI σ31 o 6 from (cσ32.O (ko.up (xσ20.trans (xσ21.trans (xσ22.trans (xσ26.trans (xσ27.trans (xσ28.trans xσ31))))))) (by decide)).1) kp109
  have kp125 : Kpt (gI σ32 o 7 = gI σ21 o 7) := Eq.trans (show gI σ32 o 7 = gI σ31 o 7 from (cσ32.O (ko.up (xσ20.trans (xσ21.trans (xσ22.trans (xσ26.trans (xσ27.trans (xσ28.trans xσ31))))))) (by decide)).1) kp110
  have kp126 : Kpt (gI σ32 o 8 = gI σ o 8) := Eq.trans (show gI σ32 o 8 = gI σ31 o 8 from (cσ32.O (ko.up (xσ20.trans (xσ21.trans (xσ22.trans (xσ26.trans (xσ27.trans (xσ28.trans xσ31))))))) (by decide)).1) kp111
  have kp127 : Kpt (gI σ32 o 9 = gI σ o 9) := Eq.trans (show gI σ32 o 9 = gI σ31 o 9 from (cσ32.O (ko.up (xσ20.trans (xσ21.trans (xσ22.trans (xσ26.trans (xσ27.trans (xσ28.trans xσ31))))))) (by decide)).1) kp112
  have r5σ32 := I_6_5 iσ32.1 (kth.up (xσ20.trans (xσ21.trans (xσ22.trans (xσ26.trans (xσ27.trans (xσ28.trans (xσ31.trans xσ32))))))))
  refine i_X6_wantWord iσ32 (kth.up (xσ20.trans (xσ21.trans (xσ22.trans (xσ26.trans (xσ27.trans (xσ28.trans (xσ31.trans xσ32)))))))) (kp116.trans (kp98.trans (kp81.trans (kp67.trans (kp52.trans (kp35.trans (kp22.trans (kp16.trans hX0)))))))) (kX.up (xσ20.trans (xσ21.trans (xσ22.trans (xσ26.trans (xσ27.trans (xσ28.trans (xσ31.trans xσ32)))))))) (((xσ20.trans (xσ21.trans (xσ22.trans (xσ26.trans (xσ27.trans (xσ28.trans (xσ31.trans xσ32))))))) tx kX.1).2.2.trans gX) (by (first | omega | with_reducible assumption | with_reducible exact rng_toInt _ | with_reducible exact rng_wr _ | (unfold rng; omega) | (unfold rng at *; omega) | assumption)) (by (first | omega | with_reducible assumption | with_reducible exact rng_toInt _ | with_reducible exact rng_wr _ | (unfold rng; omega) | (unfold rng at *; omega) | assumption)) (fun σ33 _ iσ33 cσ33 pσ33 => ?_) (fun σx LLx Nx nux E ix cx ux px => hX σx LLx Nx nux E ix (fσ32.tr (cx.mo (by decide))) (ux) (by first | exact px | exact ⟨by have := px.1; omega, px.2⟩ | (first | omega | with_reducible assumption | with_reducible exact rng_toInt _ | with_reducible exact rng_wr _ | (unfold rng; omega) | (unfold rng at *; omega) | assumption)))
  intro xσ33
  have fσ33 : Fx [323, 326, 327, 333, 336, 386, 387, 388, 389, 390, 6464] gr σ σ33 := fσ32.tr (cσ33.mo (by decide))
  have oxcσ33 : OX o σ σ33 := oxcσ32.tr (OX.fx cσ33 (by decide) (by decide)) (xσ20.trans (xσ21.trans (xσ22.trans (xσ26.trans (xσ27.trans (xσ28.trans (xσ31.trans xσ32)))))))
  have kp128 : gI σ33 o 13 = gI σ32 o 13 := (cσ33.O (ko.up (xσ20.trans (xσ21.trans (xσ22.trans (xσ26.trans (xσ27.trans (xσ28.trans (xσ31.trans xσ32)))))))) (by decide)).1
  have kp129 : gP σ33 J 0 = gP σ32 J 0 := (cσ33.O (kJ.up (xσ20.trans (xσ21.trans (xσ22.trans (xσ26.trans (xσ27.trans (xσ28.trans (xσ31.trans xσ32)))))))) (by decide)).2.1
  have kp130 : gP σ33 b (gI σ22 o 7).toNat = gP σ32 b (gI σ22 o 7).toNat := (cσ33.A (mb.up (xσ26.trans (xσ27.trans (xσ28.trans (xσ31.trans xσ32))))) (by decide)).2.1
  have kp131 : gP σ33 th 0 = gP σ32 th 0 := (cσ33.O (kth.up (xσ20.trans (xσ21.trans (xσ22.trans (xσ26.trans (xσ27.trans (xσ28.trans (xσ31.trans xσ32)))))))) (by decide)).2.1
  have kp132 : gP σ33 th 7 = gP σ32 th 7 := (cσ33.O (kth.up (xσ20.trans (xσ21.trans (xσ22.trans (xσ26.trans (xσ27.trans (xσ28.trans (xσ31.trans xσ32)))))))) (by decide)).2.1
  have kp133 : gP σ33 th 8 = gP σ32 th 8 := (cσ33.O (kth.up (xσ20.trans (xσ21.trans (xσ22.trans (xσ26.trans (xσ27.trans (xσ28.trans (xσ31.trans xσ32)))))))) (by decide)).2.1
  have kp134 : Kpt (gI σ33 J 7 = gI σ J 7) := Eq.trans (show gI σ33 J 7 = gI σ32 J 7 from (cσ33.O (kJ.up (xσ20.trans (xσ21.trans (xσ22.trans (xσ26.trans (xσ27.trans (xσ28.trans (xσ31.trans xσ32)))))))) (by decide)).1) kp119
  have kp135 : Kpt (gI σ33 J 1 = gI σ J 1) := Eq.trans (show gI σ33 J 1 = gI σ32 J 1 from (cσ33.O (kJ.up (xσ20.trans (xσ21.trans (xσ22.trans (xσ26.trans (xσ27.trans (xσ28.trans (xσ31.trans xσ32)))))))) (by decide)).1) kp120
  have kp136 : Kpt (gI σ33 J 2 = gI σ J 2) := Eq.trans (show gI σ33 J 2 = gI σ32 J 2 from (cσ33.O (kJ.up (xσ20.trans (xσ21.trans (xσ22.trans (xσ26.trans (xσ27.trans (xσ28.trans (xσ31.trans xσ32)))))))) (by decide)).1) kp121
  have kp137 : Kpt (gI σ33 o 3 = gI σ26 o 3) := Eq.trans (show gI σ33 o 3 = gI σ32 o 3 from (cσ33.O (ko.up (xσ20.trans (xσ21.trans (xσ22.trans (xσ26.trans (xσ27.trans (xσ28.trans (xσ31.trans xσ32)))))))) (by decide)).1) kp122
  have kp138 : Kpt (gI σ33 o 4 = gI σ o 4) := Eq.trans (show gI σ33 o 4 = gI σ32 o 4 from (cσ33.O (ko.up (xσ20.trans (xσ21.trans (xσ22.trans (xσ26.trans (xσ27.trans (xσ28.trans (xσ31.trans xσ32)))))))) (by decide)).1) kp123
  have kp139 : Kpt (gI σ33 o 6 = gI σ21 o 6) := Eq.trans (show gI σ33 o 6 = gI σ32 o 6 from (cσ33.O (ko.up (xσ20.trans (xσ21.trans (xσ22.trans (xσ26.trans (xσ27.trans (xσ28.trans (xσ31.trans xσ32)))))))) (by decide)).1) kp124
  have kp140 : Kpt (gI σ33 o 7 = gI σ21 o 7) := Eq.trans (show gI σ33 o 7 = gI σ32 o 7 from (cσ33.O (ko.up (xσ20.trans (xσ21.trans (xσ22.trans (xσ26.trans (xσ27.trans (xσ28.trans (xσ31.trans xσ32)))))))) (by decide)).1) kp125
  have kp141 : Kpt (gI σ33 o 8 = gI σ o 8) := Eq.trans (show gI σ33 o 8 = gI σ32 o 8 from (cσ33.O (ko.up (xσ20.trans (xσ21.trans (xσ22.trans (xσ26.trans (xσ27.trans (xσ28.trans (xσ31.trans xσ32)))))))) (by decide)).1) kp126
  have kp142 : Kpt (gI σ33 o 9 = gI σ o 9) := Eq.trans (show gI σ33 o 9 = gI σ32 o 9 from (cσ33.O (ko.up (xσ20.trans (xσ21.trans (xσ22.trans (xσ26.trans (xσ27.trans (xσ28.trans (xσ31.trans xσ32)))))))) (by decide)).1) kp127
  have r5σ33 := I_6_5 iσ33.1 (kth.up (xσ20.trans (xσ21.trans (xσ22.trans (xσ26.trans (xσ27.trans (xσ28.trans (xσ31.trans (xσ32.trans xσ33)))))))))
  refine i_X6_number iσ33 (kth.up (xσ20.trans (xσ21.trans (xσ22.trans (xσ26.trans (xσ27.trans (xσ28.trans (xσ31.trans (xσ32.trans xσ33))))))))) (by (first | omega | with_reducible assumption | with_reducible exact rng_toInt _ | with_reducible exact rng_wr _ | (unfold rng; omega) | (unfold rng at *; omega) | assumption)) (by (first | omega | with_reducible assumption | with_reducible exact rng_toInt _ | with_reducible exact rng_wr _ | (unfold rng; omega) | (unfold rng at *; omega) | assumption)) (fun σ34 r35 iσ34 cσ34 pσ34 => ?_) (fun σx LLx Nx nux E ix cx ux px => hX σx LLx Nx nux E ix (fσ33.tr (cx.mo (by decide))) (ux) (by first | exact px | exact ⟨by have := px.1; omega, px.2⟩ | (first | omega | with_reducible assumption | with_reducible exact rng_toInt _ | with_reducible exact rng_wr _ | (unfold rng; omega) | (unfold rng at *; omega) | assumption)))
  intro xσ34
  have fσ34 : Fx [323, 326, 327, 333, 336, 386, 387, 388, 389, 390, 6464] gr σ σ34 := fσ33.tr (cσ34.mo (by decide))
  have oxcσ34 : OX o σ σ34 := oxcσ33.tr (OX.fx cσ34 (by decide) (by decide)) (xσ20.trans (xσ21.trans (xσ22.trans (xσ26.trans (xσ27.trans (xσ28.trans (xσ31.trans (xσ32.trans xσ33))))))))
  have kp143 : gI σ34 o 13 = gI σ33 o 13 := (cσ34.O (ko.up (xσ20.trans (xσ21.trans (xσ22.trans (xσ26.trans (xσ27.trans (xσ28.trans (xσ31.trans (xσ32.trans xσ33))))))))) (by decide)).1
  have kp144 : gP σ34 J 0 = gP σ33 J 0 := (cσ34.O (kJ.up (xσ20.trans (xσ21.trans (xσ22.trans (xσ26.trans (xσ27.trans (xσ28.trans (xσ31.trans (xσ32.trans xσ33))))))))) (by decide)).2.1
  have kp145 : gP σ34 b (gI σ22 o 7).toNat = gP σ33 b (gI σ22 o 7).toNat := (cσ34.A (mb.up (xσ26.trans (xσ27.trans (xσ28.trans (xσ31.trans (xσ32.trans xσ33)))))) (by decide)).2.1
  have kp146 : gP σ34 th 0 = gP σ33 th 0 := (cσ34.O (kth.up (xσ20.trans (xσ21.trans (xσ22.trans (xσ26.trans (xσ27.trans (xσ28.trans (xσ31.trans (xσ32.trans xσ33))))))))) (by decide)).2.1
  have kp147 : gP σ34 th 7 = gP σ33 th 7 := (cσ34.O (kth.up (xσ20.trans (xσ21.trans (xσ22.trans (xσ26.trans (xσ27.trans (xσ28.trans (xσ31.trans (xσ32.trans xσ33))))))))) (by decide)).2.1
  have kp148 : gP σ34 th 8 = gP σ33 th 8 := (cσ34.O (kth.up (xσ20.trans (xσ21.trans (xσ22.trans (xσ26.trans (xσ27.trans (xσ28.trans (xσ31.trans (xσ32.trans xσ33))))))))) (by decide)).2.1
  have kp149 : gI σ34 th 2 = gI σ33 th 2 := (cσ34.O (kth.up (xσ20.trans (xσ21.trans (xσ22.trans (xσ26.trans (xσ27.trans (xσ28.trans (xσ31.trans (xσ32.trans xσ33))))))))) (by decide)).1
  have kp150 : gI σ34 th 3 = gI σ33 th 3 := (cσ34.O (kth.up (xσ20.trans (xσ21.trans (xσ22.trans (xσ26.trans (xσ27.trans (xσ28.trans (xσ31.trans (xσ32.trans xσ33))))))))) (by decide)).1
  have kp151 : gI σ34 th 5 = gI σ33 th 5 := (cσ34.O (kth.up (xσ20.trans (xσ21.trans (xσ22.trans (xσ26.trans (xσ27.trans (xσ28.trans (xσ31.trans (xσ32.trans xσ33))))))))) (by decide)).1
  have kp152 : Kpt (gI σ34 J 7 = gI σ J 7) := Eq.trans (show gI σ34 J 7 = gI σ33 J 7 from (cσ34.O (kJ.up (xσ20.trans (xσ21.trans (xσ22.trans (xσ26.trans (xσ27.trans (xσ28.trans (xσ31.trans (xσ32.trans xσ33))))))))) (by decide)).1) kp134
  have kp153 : Kpt (gI σ34 J 1 = gI σ J 1) := Eq.trans (show gI σ34 J 1 = gI σ33 J 1 from (cσ34.O (kJ.up (xσ20.trans (xσ21.trans (xσ22.trans (xσ26.trans (xσ27.trans (xσ28.trans (xσ31.trans (xσ32.trans xσ33))))))))) (by decide)).1) kp135
  have kp154 : Kpt (gI σ34 J 2 = gI σ J 2) := Eq.trans (show gI σ34 J 2 = gI σ33 J 2 from (cσ34.O (kJ.up (xσ20.trans (xσ21.trans (xσ22.trans (xσ26.trans (xσ27.trans (xσ28.trans (xσ31.trans (xσ32.trans xσ33))))))))) (by decide)).1) kp136
  have kp155 : Kpt (gI σ34 o 3 = gI σ26 o 3) := Eq.trans (show gI σ34 o 3 = gI σ33 o 3 from (cσ34.O (ko.up (xσ20.trans (xσ21.trans (xσ22.trans (xσ26.trans (xσ27.trans (xσ28.trans (xσ31.trans (xσ32.trans xσ33))))))))) (by decide)).1) kp137
  have kp156 : Kpt (gI σ34 o 4 = gI σ o 4) := Eq.trans (show gI σ34 o 4 = gI σ33 o 4 from (cσ34.O (ko.up (xσ20.trans (xσ21.trans (xσ22.trans (xσ26.trans (xσ27.trans (xσ28.trans (xσ31.trans (xσ32.trans xσ33))))))))) (by decide)).1) kp138
  have kp157 : Kpt (gI σ34 o 6 = gI σ21 o 6) := Eq.trans (show gI σ34 o 6 = gI σ33 o 6 from (cσ34.O (ko.up (xσ20.trans (xσ21.trans (xσ22.trans (xσ26.trans (xσ27.trans (xσ28.trans (xσ31.trans (xσ32.trans xσ33))))))))) (by decide)).1) kp139
  have kp158 : Kpt (gI σ34 o 7 = gI σ21 o 7) := Eq.trans (show gI σ34 o 7 = gI σ33 o 7 from (cσ34.O (ko.up (xσ20.trans (xσ21.trans (xσ22.trans (xσ26.trans (xσ27.trans (xσ28.trans (xσ31.trans (xσ32.trans xσ33))))))))) (by decide)).1) kp140
  have kp159 : Kpt (gI σ34 o 8 = gI σ o 8) := Eq.trans (show gI σ34 o 8 = gI σ33 o 8 from (cσ34.O (ko.up (xσ20.trans (xσ21.trans (xσ22.trans (xσ26.trans (xσ27.trans (xσ28.trans (xσ31.trans (xσ32.trans xσ33))))))))) (by decide)).1) kp141
  have kp160 : Kpt (gI σ34 o 9 = gI σ o 9) := Eq.trans (show gI σ34 o 9 = gI σ33 o 9 from (cσ34.O (ko.up (xσ20.trans (xσ21.trans (xσ22.trans (xσ26.trans (xσ27.trans (xσ28.trans (xσ31.trans (xσ32.trans xσ33))))))))) (by decide)).1) kp142
  refine ⟨o, (kp133.trans (kp118.trans (kp100.trans (kp83.trans (kp69.trans (kp54.trans (kp37.trans (kp24.trans (kp18.trans h8))))))))), fun kk_o_2 => ?_⟩
  intro σ37 eσ37
  have xσ37 : Ext σ34 σ37 := by rw [eσ37]; exact fun _ h => ⟨h, rfl, rfl⟩
  have iσ37 : IV σ37 pl gq ci gr nc ot LL N nu := by rw [eσ37]; exact iσ34.wSp (ko.up (xσ20.trans (xσ21.trans (xσ22.trans (xσ26.trans (xσ27.trans (xσ28.trans (xσ31.trans (xσ32.trans (xσ33.trans xσ34)))))))))) (fun i hi => by omega) (by decide) (show (-1000 : Int) ≤ r35 ∧ r35 ≤ 1000 from ⟨by omega, by omega⟩)
  have fσ37 : Fx [323, 326, 327, 333, 336, 386, 387, 388, 389, 390, 6464] gr σ σ37 := fσ34.tr (Sk.fx (by rw [eσ37]; exact Sk.pI (by rw [fcdO (ko.up (xσ20.trans (xσ21.trans (xσ22.trans (xσ26.trans (xσ27.trans (xσ28.trans (xσ31.trans (xσ32.trans (xσ33.trans xσ34)))))))))) (by decide)]; decide)))
  have oxcσ37 : OX o σ σ37 := oxcσ34.tr (by rw [eσ37]; exact OX.pI (ko.up (xσ20.trans (xσ21.trans (xσ22.trans (xσ26.trans (xσ27.trans (xσ28.trans (xσ31.trans (xσ32.trans (xσ33.trans xσ34)))))))))) (Or.inr rfl)) (xσ20.trans (xσ21.trans (xσ22.trans (xσ26.trans (xσ27.trans (xσ28.trans (xσ31.trans (xσ32.trans (xσ33.trans xσ34)))))))))
  have wσ37 : gI σ37 o 16 = r35 := by rw [eσ37]; exact up2_s _ _ _ _
  have kp161 : gI σ37 o 13 = gI σ34 o 13 := by rw [eσ37]; exact up2_n _ _ (fun q => absurd q.2 (by decide))
  have kp162 : gP σ37 J 0 = gP σ34 J 0 := by rw [eσ37]
  have kp163 : gP σ37 b (gI σ22 o 7).toNat = gP σ34 b (gI σ22 o 7).toNat := by rw [eσ37]
  have kp164 : gP σ37 th 0 = gP σ34 th 0 := by rw [eσ37]
  have kp165 : gP σ37 th 7 = gP σ34 th 7 := by rw [eσ37]
  have kp166 : gP σ37 th 8 = gP σ34 th 8 := by rw [eσ37]
  have kp167 : gI σ37 th 2 = gI σ34 th 2 := by rw [eσ37]; exact up2_n _ _ (fun q => absurd q.2 (by decide))
  have kp168 : gI σ37 th 3 = gI σ34 th 3 := by rw [eσ37]; exact up2_n _ _ (fun q => absurd q.2 (by decide))
  have kp169 : gI σ37 th 5 = gI σ34 th 5 := by rw [eσ37]; exact up2_n _ _ (fun q => absurd q.2 (by decide))
  have kp170 : Kpt (gI σ37 J 7 = gI σ J 7) := Eq.trans (show gI σ37 J 7 = gI σ34 J 7 from by rw [eσ37]; exact up2_n _ _ (fun q => absurd q.2 (by decide))) kp152
  have kp171 : Kpt (gI σ37 J 1 = gI σ J 1) := Eq.trans (show gI σ37 J 1 = gI σ34 J 1 from by rw [eσ37]; exact up2_n _ _ (fun q => absurd q.2 (by decide))) kp153
  have kp172 : Kpt (gI σ37 J 2 = gI σ J 2) := Eq.trans (show gI σ37 J 2 = gI σ34 J 2 from by rw [eσ37]; exact up2_n _ _ (fun q => absurd q.2 (by decide))) kp154
  have kp173 : Kpt (gI σ37 o 3 = gI σ26 o 3) := Eq.trans (show gI σ37 o 3 = gI σ34 o 3 from by rw [eσ37]; exact up2_n _ _ (fun q => absurd q.2 (by decide))) kp155
  have kp174 : Kpt (gI σ37 o 4 = gI σ o 4) := Eq.trans (show gI σ37 o 4 = gI σ34 o 4 from by rw [eσ37]; exact up2_n _ _ (fun q => absurd q.2 (by decide))) kp156
  have kp175 : Kpt (gI σ37 o 6 = gI σ21 o 6) := Eq.trans (show gI σ37 o 6 = gI σ34 o 6 from by rw [eσ37]; exact up2_n _ _ (fun q => absurd q.2 (by decide))) kp157
  have kp176 : Kpt (gI σ37 o 7 = gI σ21 o 7) := Eq.trans (show gI σ37 o 7 = gI σ34 o 7 from by rw [eσ37]; exact up2_n _ _ (fun q => absurd q.2 (by decide))) kp158
  have kp177 : Kpt (gI σ37 o 8 = gI σ o 8) := Eq.trans (show gI σ37 o 8 = gI σ34 o 8 from by rw [eσ37]; exact up2_n _ _ (fun q => absurd q.2 (by decide))) kp159
  have kp178 : Kpt (gI σ37 o 9 = gI σ o 9) := Eq.trans (show gI σ37 o 9 = gI σ34 o 9 from by rw [eσ37]; exact up2_n _ _ (fun q => absurd q.2 (by decide))) kp160
  refine i_X6_next iσ37 (kth.up (xσ20.trans (xσ21.trans (xσ22.trans (xσ26.trans (xσ27.trans (xσ28.trans (xσ31.trans (xσ32.trans (xσ33.trans (xσ34.trans xσ37))))))))))) (kp164.trans (kp146.trans (kp131.trans (kp116.trans (kp98.trans (kp81.trans (kp67.trans (kp52.trans (kp35.trans (kp22.trans (kp16.trans hX0))))))))))) (kX.up (xσ20.trans (xσ21.trans (xσ22.trans (xσ26.trans (xσ27.trans (xσ28.trans (xσ31.trans (xσ32.trans (xσ33.trans (xσ34.trans xσ37))))))))))) (((xσ20.trans (xσ21.trans (xσ22.trans (xσ26.trans (xσ27.trans (xσ28.trans (xσ31.trans (xσ32.trans (xσ33.trans (xσ34.trans xσ37)))))))))) tx kX.1).2.2.trans gX) (by (first | omega | with_reducible assumption | with_reducible exact rng_toInt _ | with_reducible exact rng_wr _ | (unfold rng; omega) | (unfold rng at *; omega) | assumption)) (by (first | omega | with_reducible assumption | with_reducible exact rng_toInt _ | with_reducible exact rng_wr _ | (unfold rng; omega) | (unfold rng at *; omega) | assumption)) (fun σ38 _ iσ38 cσ38 pσ38 => ?_) (fun σx LLx Nx nux E ix cx ux px => hX σx LLx Nx nux E ix (fσ37.tr (cx.mo (by decide))) (ux) (by first | exact px | exact ⟨by have := px.1; omega, px.2⟩ | (first | omega | with_reducible assumption | with_reducible exact rng_toInt _ | with_reducible exact rng_wr _ | (unfold rng; omega) | (unfold rng at *; omega) | assumption)))
  intro xσ38
  have fσ38 : Fx [323, 326, 327, 333, 336, 386, 387, 388, 389, 390, 6464] gr σ σ38 := fσ37.tr (cσ38.mo (by decide))
  have oxcσ38 : OX o σ σ38 := oxcσ37.tr (OX.fx cσ38 (by decide) (by decide)) (xσ20.trans (xσ21.trans (xσ22.trans (xσ26.trans (xσ27.trans (xσ28.trans (xσ31.trans (xσ32.trans (xσ33.trans (xσ34.trans xσ37))))))))))
  have kp179 : gI σ38 o 13 = gI σ37 o 13 := (cσ38.O (ko.up (xσ20.trans (xσ21.trans (xσ22.trans (xσ26.trans (xσ27.trans (xσ28.trans (xσ31.trans (xσ32.trans (xσ33.trans (xσ34.trans xσ37))))))))))) (by decide)).1
  have kp180 : gI σ38 o 16 = gI σ37 o 16 := (cσ38.O (ko.up (xσ20.trans (xσ21.trans (xσ22.trans (xσ26.trans (xσ27.trans (xσ28.trans (xσ31.trans (xσ32.trans (xσ33.trans (xσ34.trans xσ37))))))))))) (by decide)).1
  have kp181 : gP σ38 J 0 = gP σ37 J 0 := (cσ38.O (kJ.up (xσ20.trans (xσ21.trans (xσ22.trans (xσ26.trans (xσ27.trans (xσ28.trans (xσ31.trans (xσ32.trans (xσ33.trans (xσ34.trans xσ37))))))))))) (by decide)).2.1
  have kp182 : gP σ38 b (gI σ22 o 7).toNat = gP σ37 b (gI σ22 o 7).toNat := (cσ38.A (mb.up (xσ26.trans (xσ27.trans (xσ28.trans (xσ31.trans (xσ32.trans (xσ33.trans (xσ34.trans xσ37)))))))) (by decide)).2.1
  have kp183 : gP σ38 th 0 = gP σ37 th 0 := (cσ38.O (kth.up (xσ20.trans (xσ21.trans (xσ22.trans (xσ26.trans (xσ27.trans (xσ28.trans (xσ31.trans (xσ32.trans (xσ33.trans (xσ34.trans xσ37))))))))))) (by decide)).2.1
  have kp184 : gP σ38 th 7 = gP σ37 th 7 := (cσ38.O (kth.up (xσ20.trans (xσ21.trans (xσ22.trans (xσ26.trans (xσ27.trans (xσ28.trans (xσ31.trans (xσ32.trans (xσ33.trans (xσ34.trans xσ37))))))))))) (by decide)).2.1
  have kp185 : gP σ38 th 8 = gP σ37 th 8 := (cσ38.O (kth.up (xσ20.trans (xσ21.trans (xσ22.trans (xσ26.trans (xσ27.trans (xσ28.trans (xσ31.trans (xσ32.trans (xσ33.trans (xσ34.trans xσ37))))))))))) (by decide)).2.1
  have kp186 : Kpt (gI σ38 J 7 = gI σ J 7) := Eq.trans (show gI σ38 J 7 = gI σ37 J 7 from (cσ38.O (kJ.up (xσ20.trans (xσ21.trans (xσ22.trans (xσ26.trans (xσ27.trans (xσ28.trans (xσ31.trans (xσ32.trans (xσ33.trans (xσ34.trans xσ37))))))))))) (by decide)).1) kp170
  have kp187 : Kpt (gI σ38 J 1 = gI σ J 1) := Eq.trans (show gI σ38 J 1 = gI σ37 J 1 from (cσ38.O (kJ.up (xσ20.trans (xσ21.trans (xσ22.trans (xσ26.trans (xσ27.trans (xσ28.trans (xσ31.trans (xσ32.trans (xσ33.trans (xσ34.trans xσ37))))))))))) (by decide)).1) kp171
  have kp188 : Kpt (gI σ38 J 2 = gI σ J 2) := Eq.trans (show gI σ38 J 2 = gI σ37 J 2 from (cσ38.O (kJ.up (xσ20.trans (xσ21.trans (xσ22.trans (xσ26.trans (xσ27.trans (xσ28.trans (xσ31.trans (xσ32.trans (xσ33.trans (xσ34.trans xσ37))))))))))) (by decide)).1) kp172
  have kp189 : Kpt (gI σ38 o 3 = gI σ26 o 3) := Eq.trans (show gI σ38 o 3 = gI σ37 o 3 from (cσ38.O (ko.up (xσ20.trans (xσ21.trans (xσ22.trans (xσ26.trans (xσ27.trans (xσ28.trans (xσ31.trans (xσ32.trans (xσ33.trans (xσ34.trans xσ37))))))))))) (by decide)).1) kp173
  have kp190 : Kpt (gI σ38 o 4 = gI σ o 4) := Eq.trans (show gI σ38 o 4 = gI σ37 o 4 from (cσ38.O (ko.up (xσ20.trans (xσ21.trans (xσ22.trans (xσ26.trans (xσ27.trans (xσ28.trans (xσ31.trans (xσ32.trans (xσ33.trans (xσ34.trans xσ37))))))))))) (by decide)).1) kp174
  have kp191 : Kpt (gI σ38 o 6 = gI σ21 o 6) := Eq.trans (show gI σ38 o 6 = gI σ37 o 6 from (cσ38.O (ko.up (xσ20.trans (xσ21.trans (xσ22.trans (xσ26.trans (xσ27.trans (xσ28.trans (xσ31.trans (xσ32.trans (xσ33.trans (xσ34.trans xσ37))))))))))) (by decide)).1) kp175
  have kp192 : Kpt (gI σ38 o 7 = gI σ21 o 7) := Eq.trans (show gI σ38 o 7 = gI σ37 o 7 from (cσ38.O (ko.up (xσ20.trans (xσ21.trans (xσ22.trans (xσ26.trans (xσ27.trans (xσ28.trans (xσ31.trans (xσ32.trans (xσ33.trans (xσ34.trans xσ37))))))))))) (by decide)).1) kp176
  have kp193 : Kpt (gI σ38 o 8 = gI σ o 8) := Eq.trans (show gI σ38 o 8 = gI σ37 o 8 from (cσ38.O (ko.up (xσ20.trans (xσ21.trans (xσ22.trans (xσ26.trans (xσ27.trans (xσ28.trans (xσ31.trans (xσ32.trans (xσ33.trans (xσ34.trans xσ37))))))))))) (by decide)).1) kp177
  have kp194 : Kpt (gI σ38 o 9 = gI σ o 9) := Eq.trans (show gI σ38 o 9 = gI σ37 o 9 from (cσ38.O (ko.up (xσ20.trans (xσ21.trans (xσ22.trans (xσ26.trans (xσ27.trans (xσ28.trans (xσ31.trans (xσ32.trans (xσ33.trans (xσ34.trans xσ37))))))))))) (by decide)).1) kp178
  have r5σ38 := I_6_5 iσ38.1 (kth.up (xσ20.trans (xσ21.trans (xσ22.trans (xσ26.trans (xσ27.trans (xσ28.trans (xσ31.trans (xσ32.trans (xσ33.trans (xσ34.trans (xσ37.trans xσ38))))))))))))
  have ho195 : gI σ38 J 7 = gI σ J 7 := kp186
  have ho196 : gI σ38 J 1 = gI σ J 1 := kp187
  have ho197 : gI σ38 J 2 = gI σ J 2 := kp188
  have ho198 : gI σ38 o 3 = gI σ26 o 3 := kp189
  have ho199 : gI σ38 o 4 = gI σ o 4 := kp190
  have ho200 : gI σ38 o 6 = gI σ21 o 6 := kp191
  have ho201 : gI σ38 o 7 = gI σ21 o 7 := kp192
  have ho202 : gI σ38 o 8 = gI σ o 8 := kp193
  have ho203 : gI σ38 o 9 = gI σ o 9 := kp194
  exact hQ σ38 () iσ38 fσ38 oxcσ38 (⟨by omega, by omega, ⟨by omega, (fun h => absurd h (by omega)), (fun h => absurd h (by omega))⟩⟩)
set_option maxHeartbeats 1000000 in
theorem i_X6_topText {σ : Sg} {pl : Nat} {gq ci gr nc : Nat → Nat} {ot : Nat → Nat → Int} {LL : Nat → List Nat} {N nu : Nat → Nat} {th : Nat} {tx J o q c : Nat} (iσ : IV σ pl gq ci gr nc ot LL N nu) (kth : kO σ th 6) (hX0 : gP σ th 0 = some tx) (kX : kO σ tx 102) (gX : gn σ tx = 1500) (h7 : gP σ th 7 = some J) (kJ : kO σ J 4) (h8 : gP σ th 8 = some o) (ko : kO σ o 5) (hJq : gq J = q) (hq : q ≠ nc 0 ∧ q ≤ 1) (go : gq o = 16 * q + c) (hc : c < 16) (cJ : gI σ J 1 = (c : Int)) (tf : gI σ th 5 ≤ gI σ th 2 ∧ (gI σ th 3 ≠ 0 → gI σ th 5 + 1 ≤ gI σ th 2)) (h5 : nu 5 < 24000) (lp : gI σ J 7 ≤ 2 * gI σ th 5) (f0 : gI σ o 3 = 0 ∧ gI σ o 4 = 0 ∧ gI σ o 7 = -1 ∧ gI σ o 8 = -1) {Q : Sg → Unit → Prop} {X : Sg → String → Prop} (hQ : ∀ (σ' : Sg) (r : Unit), IV σ' pl gq ci gr nc ot LL N nu → Fx [323, 326, 327, 329, 331, 333, 386, 387, 388, 389, 390, 6464] gr σ σ' → OX o σ σ' → ((gI σ' th 5 ≤ gI σ' th 2 ∧ (gI σ' th 3 ≠ 0 → gI σ' th 5 + 1 ≤ gI σ' th 2)) ∧ gI σ' J 7 ≤ 2 * gI σ' th 5 ∧ OPR σ σ' gq q c o) → Q σ' r) (hX : ∀ (σ' : Sg) (LL' : Nat → List Nat) (N' nu' : Nat → Nat) (E : String), IV σ' pl gq ci gr nc ot LL' N' nu' → Fx [323, 326, 327, 329, 331, 333, 386, 387, 388, 389, 390, 6464] gr σ σ' → NCX nu nu' → (LL' = LL ∧ N' = N ∧ E = "java/lang/IllegalArgumentException" ∧ gI σ' th 6 ≠ 0) → X σ' E) : wp_X6_topText th σ Q X := by
  have fσ : Fx [323, 326, 327, 329, 331, 333, 386, 387, 388, 389, 390, 6464] gr σ σ := Fx.rf
  have oxσ : OX o σ σ := OX.rf
  have q1 := I_4_1 iσ.1 kJ
  have q2 := I_6_5 iσ.1 kth
  have q3 := I_6_2 iσ.1 kth
  have q4 := iσ.rg th 3; unfold rng at q4
  have q5 := I_4_7 iσ.1 kJ
  have q6 := I_5_3 iσ.1 ko
  have q7 := I_5_4 iσ.1 ko
  have q8 := I_5_7 iσ.1 ko
  have q9 := I_5_8 iσ.1 ko
  have ncb := iσ.ncb
  have r70 := I_4_7 iσ.1 kJ
  have r71 := I_4_1 iσ.1 kJ
  unfold wp_X6_topText
  unfold w_X6_topText_0
  refine i_X6_next iσ kth hX0 kX (((Ext.rfl' _) tx kX.1).2.2.trans gX) (by (first | omega | with_reducible assumption | with_reducible exact rng_toInt _ | with_reducible exact rng_wr _ | (unfold rng; omega) | (unfold rng at *; omega) | assumption)) (by (first | omega | with_reducible assumption | with_reducible exact rng_toInt _ | with_reducible exact rng_wr _ | (unfold rng; omega) | (unfold rng at *; omega) | assumption)) (fun σ34 _ iσ34 cσ34 pσ34 => ?_) (fun σx LLx Nx nux E ix cx ux px => hX σx LLx Nx nux E ix (fσ.tr (cx.mo (by decide))) (ux) (by first | exact px | exact ⟨by have := px.1; omega, px.2⟩ | (first | omega | with_reducible assumption | with_reducible exact rng_toInt _ | with_reducible exact rng_wr _ | (unfold rng; omega) | (unfold rng at *; omega) | assumption)))
  intro xσ34
  have fσ34 : Fx [323, 326, 327, 329, 331, 333, 386, 387, 388, 389, 390, 6464] gr σ σ34 := fσ.tr (cσ34.mo (by decide))
  have oxcσ34 : OX o σ σ34 := oxσ.tr (OX.fx cσ34 (by decide) (by decide)) (Ext.rfl' _)
  have kp10 : Kpt (gI σ34 J 1 = gI σ J 1) := (cσ34.O kJ (by decide)).1
  have kp11 : Kpt (gI σ34 J 7 = gI σ J 7) := (cσ34.O kJ (by decide)).1
  have kp12 : Kpt (gI σ34 o 3 = gI σ o 3) := (cσ34.O ko (by decide)).1
  have kp13 : Kpt (gI σ34 o 4 = gI σ o 4) := (cσ34.O ko (by decide)).1
  have kp14 : Kpt (gI σ34 o 7 = gI σ o 7) := (cσ34.O ko (by decide)).1
  have kp15 : Kpt (gI σ34 o 8 = gI σ o 8) := (cσ34.O ko (by decide)).1
  have kp16 : gP σ34 th 0 = gP σ th 0 := (cσ34.O kth (by decide)).2.1
  have kp17 : gP σ34 th 7 = gP σ th 7 := (cσ34.O kth (by decide)).2.1
  have kp18 : gP σ34 th 8 = gP σ th 8 := (cσ34.O kth (by decide)).2.1
  have kp19 : Kpt (gI σ34 J 2 = gI σ J 2) := (cσ34.O kJ (by decide)).1
  have kp20 : Kpt (gI σ34 o 6 = gI σ o 6) := (cσ34.O ko (by decide)).1
  have kp21 : Kpt (gI σ34 o 9 = gI σ o 9) := (cσ34.O ko (by decide)).1
  have r5σ34 := I_6_5 iσ34.1 (kth.up xσ34)
  refine i_X6_number iσ34 (kth.up xσ34) (by (first | omega | with_reducible assumption | with_reducible exact rng_toInt _ | with_reducible exact rng_wr _ | (unfold rng; omega) | (unfold rng at *; omega) | assumption)) (by (first | omega | with_reducible assumption | with_reducible exact rng_toInt _ | with_reducible exact rng_wr _ | (unfold rng; omega) | (unfold rng at *; omega) | assumption)) (fun σ35 r36 iσ35 cσ35 pσ35 => ?_) (fun σx LLx Nx nux E ix cx ux px => hX σx LLx Nx nux E ix (fσ34.tr (cx.mo (by decide))) (ux) (by first | exact px | exact ⟨by have := px.1; omega, px.2⟩ | (first | omega | with_reducible assumption | with_reducible exact rng_toInt _ | with_reducible exact rng_wr _ | (unfold rng; omega) | (unfold rng at *; omega) | assumption)))
  intro xσ35
  have fσ35 : Fx [323, 326, 327, 329, 331, 333, 386, 387, 388, 389, 390, 6464] gr σ σ35 := fσ34.tr (cσ35.mo (by decide))
  have oxcσ35 : OX o σ σ35 := oxcσ34.tr (OX.fx cσ35 (by decide) (by decide)) (xσ34)
  have kp22 : gP σ35 th 0 = gP σ34 th 0 := (cσ35.O (kth.up xσ34) (by decide)).2.1
  have kp23 : gP σ35 th 7 = gP σ34 th 7 := (cσ35.O (kth.up xσ34) (by decide)).2.1
  have kp24 : gP σ35 th 8 = gP σ34 th 8 := (cσ35.O (kth.up xσ34) (by decide)).2.1
  have kp25 : gI σ35 th 2 = gI σ34 th 2 := (cσ35.O (kth.up xσ34) (by decide)).1
  have kp26 : gI σ35 th 3 = gI σ34 th 3 := (cσ35.O (kth.up xσ34) (by decide)).1
  have kp27 : gI σ35 th 5 = gI σ34 th 5 := (cσ35.O (kth.up xσ34) (by decide)).1
  have kp28 : Kpt (gI σ35 J 7 = gI σ J 7) := Eq.trans (show gI σ35 J 7 = gI σ34 J 7 from (cσ35.O (kJ.up xσ34) (by decide)).1) kp11
  have kp29 : Kpt (gI σ35 J 1 = gI σ J 1) := Eq.trans (show gI σ35 J 1 = gI σ34 J 1 from (cσ35.O (kJ.up xσ34) (by decide)).1) kp10
  have kp30 : Kpt (gI σ35 J 2 = gI σ J 2) := Eq.trans (show gI σ35 J 2 = gI σ34 J 2 from (cσ35.O (kJ.up xσ34) (by decide)).1) kp19
  have kp31 : Kpt (gI σ35 o 3 = gI σ o 3) := Eq.trans (show gI σ35 o 3 = gI σ34 o 3 from (cσ35.O (ko.up xσ34) (by decide)).1) kp12
  have kp32 : Kpt (gI σ35 o 4 = gI σ o 4) := Eq.trans (show gI σ35 o 4 = gI σ34 o 4 from (cσ35.O (ko.up xσ34) (by decide)).1) kp13
  have kp33 : Kpt (gI σ35 o 6 = gI σ o 6) := Eq.trans (show gI σ35 o 6 = gI σ34 o 6 from (cσ35.O (ko.up xσ34) (by decide)).1) kp20
  have kp34 : Kpt (gI σ35 o 7 = gI σ o 7) := Eq.trans (show gI σ35 o 7 = gI σ34 o 7 from (cσ35.O (ko.up xσ34) (by decide)).1) kp14
  have kp35 : Kpt (gI σ35 o 8 = gI σ o 8) := Eq.trans (show gI σ35 o 8 = gI σ34 o 8 from (cσ35.O (ko.up xσ34) (by decide)).1) kp15
  have kp36 : Kpt (gI σ35 o 9 = gI σ o 9) := Eq.trans (show gI σ35 o 9 = gI σ34 o 9 from (cσ35.O (ko.up xσ34) (by decide)).1) kp21
  refine ⟨o, (kp18.trans h8), fun kk_o => ?_⟩
  intro σ38 eσ38
  have xσ38 : Ext σ35 σ38 := by rw [eσ38]; exact fun _ h => ⟨h, rfl, rfl⟩
  have iσ38 : IV σ38 pl gq ci gr nc ot LL N nu := by rw [eσ38]; exact iσ35.wSp (ko.up (xσ34.trans xσ35)) (fun i hi => by omega) (by decide) (show (0 : Int) ≤ r36 ∧ r36 ≤ 9 from ⟨by omega, by omega⟩)
  have fσ38 : Fx [323, 326, 327, 329, 331, 333, 386, 387, 388, 389, 390, 6464] gr σ σ38 := fσ35.tr (Sk.fx (by rw [eσ38]; exact Sk.pI (by rw [fcdO (ko.up (xσ34.trans xσ35)) (by decide)]; decide)))
  have oxcσ38 : OX o σ σ38 := oxcσ35.tr (by rw [eσ38]; exact OX.pI (ko.up (xσ34.trans xσ35)) (Or.inr rfl)) (xσ34.trans xσ35)
  have wσ38 : gI σ38 o 9 = r36 := by rw [eσ38]; exact up2_s _ _ _ _
  have kp37 : gP σ38 th 0 = gP σ35 th 0 := by rw [eσ38]
  have kp38 : gP σ38 th 7 = gP σ35 th 7 := by rw [eσ38]
  have kp39 : gP σ38 th 8 = gP σ35 th 8 := by rw [eσ38]
  have kp40 : gI σ38 th 2 = gI σ35 th 2 := by rw [eσ38]; exact up2_n _ _ (fun q => absurd q.2 (by decide))
  have kp41 : gI σ38 th 3 = gI σ35 th 3 := by rw [eσ38]; exact up2_n _ _ (fun q => absurd q.2 (by decide))
  have kp42 : gI σ38 th 5 = gI σ35 th 5 := by rw [eσ38]; exact up2_n _ _ (fun q => absurd q.2 (by decide))
  have kp43 : Kpt (gI σ38 J 7 = gI σ J 7) := Eq.trans (show gI σ38 J 7 = gI σ35 J 7 from by rw [eσ38]; exact up2_n _ _ (fun q => absurd q.2 (by decide))) kp28
  have kp44 : Kpt (gI σ38 J 1 = gI σ J 1) := Eq.trans (show gI σ38 J 1 = gI σ35 J 1 from by rw [eσ38]; exact up2_n _ _ (fun q => absurd q.2 (by decide))) kp29
  have kp45 : Kpt (gI σ38 J 2 = gI σ J 2) := Eq.trans (show gI σ38 J 2 = gI σ35 J 2 from by rw [eσ38]; exact up2_n _ _ (fun q => absurd q.2 (by decide))) kp30
  have kp46 : Kpt (gI σ38 o 3 = gI σ o 3) := Eq.trans (show gI σ38 o 3 = gI σ35 o 3 from by rw [eσ38]; exact up2_n _ _ (fun q => absurd q.2 (by decide))) kp31
  have kp47 : Kpt (gI σ38 o 4 = gI σ o 4) := Eq.trans (show gI σ38 o 4 = gI σ35 o 4 from by rw [eσ38]; exact up2_n _ _ (fun q => absurd q.2 (by decide))) kp32
  have kp48 : Kpt (gI σ38 o 6 = gI σ o 6) := Eq.trans (show gI σ38 o 6 = gI σ35 o 6 from by rw [eσ38]; exact up2_n _ _ (fun q => absurd q.2 (by decide))) kp33
  have kp49 : Kpt (gI σ38 o 7 = gI σ o 7) := Eq.trans (show gI σ38 o 7 = gI σ35 o 7 from by rw [eσ38]; exact up2_n _ _ (fun q => absurd q.2 (by decide))) kp34
  have kp50 : Kpt (gI σ38 o 8 = gI σ o 8) := Eq.trans (show gI σ38 o 8 = gI σ35 o 8 from by rw [eσ38]; exact up2_n _ _ (fun q => absurd q.2 (by decide))) kp35
  refine i_X6_next iσ38 (kth.up (xσ34.trans (xσ35.trans xσ38))) (kp37.trans (kp22.trans (kp16.trans hX0))) (kX.up (xσ34.trans (xσ35.trans xσ38))) (((xσ34.trans (xσ35.trans xσ38)) tx kX.1).2.2.trans gX) (by (first | omega | with_reducible assumption | with_reducible exact rng_toInt _ | with_reducible exact rng_wr _ | (unfold rng; omega) | (unfold rng at *; omega) | assumption)) (by (first | omega | with_reducible assumption | with_reducible exact rng_toInt _ | with_reducible exact rng_wr _ | (unfold rng; omega) | (unfold rng at *; omega) | assumption)) (fun σ39 _ iσ39 cσ39 pσ39 => ?_) (fun σx LLx Nx nux E ix cx ux px => hX σx LLx Nx nux E ix (fσ38.tr (cx.mo (by decide))) (ux) (by first | exact px | exact ⟨by have := px.1; omega, px.2⟩ | (first | omega | with_reducible assumption | with_reducible exact rng_toInt _ | with_reducible exact rng_wr _ | (unfold rng; omega) | (unfold rng at *; omega) | assumption)))
  intro xσ39
  have fσ39 : Fx [323, 326, 327, 329, 331, 333, 386, 387, 388, 389, 390, 6464] gr σ σ39 := fσ38.tr (cσ39.mo (by decide))
  have oxcσ39 : OX o σ σ39 := oxcσ38.tr (OX.fx cσ39 (by decide) (by decide)) (xσ34.trans (xσ35.trans xσ38))
  have kp51 : Kpt (gI σ39 o 9 = gI σ38 o 9) := (cσ39.O (ko.up (xσ34.trans (xσ35.trans xσ38))) (by decide)).1
  have kp52 : gP σ39 th 0 = gP σ38 th 0 := (cσ39.O (kth.up (xσ34.trans (xσ35.trans xσ38))) (by decide)).2.1
  have kp53 : gP σ39 th 7 = gP σ38 th 7 := (cσ39.O (kth.up (xσ34.trans (xσ35.trans xσ38))) (by decide)).2.1
  have kp54 : gP σ39 th 8 = gP σ38 th 8 := (cσ39.O (kth.up (xσ34.trans (xσ35.trans xσ38))) (by decide)).2.1
  have kp55 : Kpt (gI σ39 J 7 = gI σ J 7) := Eq.trans (show gI σ39 J 7 = gI σ38 J 7 from (cσ39.O (kJ.up (xσ34.trans (xσ35.trans xσ38))) (by decide)).1) kp43
  have kp56 : Kpt (gI σ39 J 1 = gI σ J 1) := Eq.trans (show gI σ39 J 1 = gI σ38 J 1 from (cσ39.O (kJ.up (xσ34.trans (xσ35.trans xσ38))) (by decide)).1) kp44
  have kp57 : Kpt (gI σ39 J 2 = gI σ J 2) := Eq.trans (show gI σ39 J 2 = gI σ38 J 2 from (cσ39.O (kJ.up (xσ34.trans (xσ35.trans xσ38))) (by decide)).1) kp45
  have kp58 : Kpt (gI σ39 o 3 = gI σ o 3) := Eq.trans (show gI σ39 o 3 = gI σ38 o 3 from (cσ39.O (ko.up (xσ34.trans (xσ35.trans xσ38))) (by decide)).1) kp46
  have kp59 : Kpt (gI σ39 o 4 = gI σ o 4) := Eq.trans (show gI σ39 o 4 = gI σ38 o 4 from (cσ39.O (ko.up (xσ34.trans (xσ35.trans xσ38))) (by decide)).1) kp47
  have kp60 : Kpt (gI σ39 o 6 = gI σ o 6) := Eq.trans (show gI σ39 o 6 = gI σ38 o 6 from (cσ39.O (ko.up (xσ34.trans (xσ35.trans xσ38))) (by decide)).1) kp48
  have kp61 : Kpt (gI σ39 o 7 = gI σ o 7) := Eq.trans (show gI σ39 o 7 = gI σ38 o 7 from (cσ39.O (ko.up (xσ34.trans (xσ35.trans xσ38))) (by decide)).1) kp49
  have kp62 : Kpt (gI σ39 o 8 = gI σ o 8) := Eq.trans (show gI σ39 o 8 = gI σ38 o 8 from (cσ39.O (ko.up (xσ34.trans (xσ35.trans xσ38))) (by decide)).1) kp50
  have r5σ39 := I_6_5 iσ39.1 (kth.up (xσ34.trans (xσ35.trans (xσ38.trans xσ39))))
  refine i_X6_firstInput iσ39 (kth.up (xσ34.trans (xσ35.trans (xσ38.trans xσ39)))) (kp53.trans (kp38.trans (kp23.trans (kp17.trans h7)))) (kJ.up (xσ34.trans (xσ35.trans (xσ38.trans xσ39)))) (kp54.trans (kp39.trans (kp24.trans (kp18.trans h8)))) (ko.up (xσ34.trans (xσ35.trans (xσ38.trans xσ39)))) (by (first | omega | with_reducible assumption | with_reducible exact rng_toInt _ | with_reducible exact rng_wr _ | (unfold rng; omega) | (unfold rng at *; omega) | assumption)) (by (first | omega | with_reducible assumption | with_reducible exact rng_toInt _ | with_reducible exact rng_wr _ | (unfold rng; omega) | (unfold rng at *; omega) | assumption)) (by (first | omega | with_reducible assumption | with_reducible exact rng_toInt _ | with_reducible exact rng_wr _ | (unfold rng; omega) | (unfold rng at *; omega) | assumption)) (by (first | omega | with_reducible assumption | with_reducible exact rng_toInt _ | with_reducible exact rng_wr _ | (unfold rng; omega) | (unfold rng at *; omega) | assumption)) (by (first | omega | with_reducible assumption | with_reducible exact rng_toInt _ | with_reducible exact rng_wr _ | (unfold rng; omega) | (unfold rng at *; omega) | assumption)) (by (first | omega | with_reducible assumption | with_reducible exact rng_toInt _ | with_reducible exact rng_wr _ | (unfold rng; omega) | (unfold rng at *; omega) | assumption)) (fun σ40 _ iσ40 cσ40 oxσ40 pσ40 => ?_) (fun σx LLx Nx nux E ix cx ux px => hX σx LLx Nx nux E ix (fσ39.tr (cx.mo (by decide))) (ux) (by first | exact px | exact ⟨by have := px.1; omega, px.2⟩ | (first | omega | with_reducible assumption | with_reducible exact rng_toInt _ | with_reducible exact rng_wr _ | (unfold rng; omega) | (unfold rng at *; omega) | assumption)))
  intro xσ40
  have fσ40 : Fx [323, 326, 327, 329, 331, 333, 386, 387, 388, 389, 390, 6464] gr σ σ40 := fσ39.tr (cσ40.mo (by decide))
  have oxcσ40 : OX o σ σ40 := oxcσ39.tr oxσ40 (xσ34.trans (xσ35.trans (xσ38.trans xσ39)))
  have kp63 : gP σ40 th 0 = gP σ39 th 0 := (cσ40.O (kth.up (xσ34.trans (xσ35.trans (xσ38.trans xσ39)))) (by decide)).2.1
  have kp64 : gP σ40 th 7 = gP σ39 th 7 := (cσ40.O (kth.up (xσ34.trans (xσ35.trans (xσ38.trans xσ39)))) (by decide)).2.1
  have kp65 : gP σ40 th 8 = gP σ39 th 8 := (cσ40.O (kth.up (xσ34.trans (xσ35.trans (xσ38.trans xσ39)))) (by decide)).2.1
  have kp66 : gI σ40 th 2 = gI σ39 th 2 := (cσ40.O (kth.up (xσ34.trans (xσ35.trans (xσ38.trans xσ39)))) (by decide)).1
  have kp67 : gI σ40 th 3 = gI σ39 th 3 := (cσ40.O (kth.up (xσ34.trans (xσ35.trans (xσ38.trans xσ39)))) (by decide)).1
  have kp68 : gI σ40 th 5 = gI σ39 th 5 := (cσ40.O (kth.up (xσ34.trans (xσ35.trans (xσ38.trans xσ39)))) (by decide)).1
  have kp69 : Kpt (gI σ40 J 7 = gI σ J 7) := Eq.trans (show gI σ40 J 7 = gI σ39 J 7 from (cσ40.O (kJ.up (xσ34.trans (xσ35.trans (xσ38.trans xσ39)))) (by decide)).1) kp55
  have kp70 : Kpt (gI σ40 J 1 = gI σ J 1) := Eq.trans (show gI σ40 J 1 = gI σ39 J 1 from (cσ40.O (kJ.up (xσ34.trans (xσ35.trans (xσ38.trans xσ39)))) (by decide)).1) kp56
  have kp71 : Kpt (gI σ40 J 2 = gI σ J 2) := Eq.trans (show gI σ40 J 2 = gI σ39 J 2 from (cσ40.O (kJ.up (xσ34.trans (xσ35.trans (xσ38.trans xσ39)))) (by decide)).1) kp57
  have kp72 : Kpt (gI σ40 o 3 = gI σ o 3) := Eq.trans (show gI σ40 o 3 = gI σ39 o 3 from (cσ40.O (ko.up (xσ34.trans (xσ35.trans (xσ38.trans xσ39)))) (by decide)).1) kp58
  have kp73 : Kpt (gI σ40 o 4 = gI σ o 4) := Eq.trans (show gI σ40 o 4 = gI σ39 o 4 from (cσ40.O (ko.up (xσ34.trans (xσ35.trans (xσ38.trans xσ39)))) (by decide)).1) kp59
  have kp74 : Kpt (gI σ40 o 8 = gI σ o 8) := Eq.trans (show gI σ40 o 8 = gI σ39 o 8 from (cσ40.O (ko.up (xσ34.trans (xσ35.trans (xσ38.trans xσ39)))) (by decide)).1) kp62
  have kp75 : Kpt (gI σ40 o 9 = gI σ38 o 9) := Eq.trans (show gI σ40 o 9 = gI σ39 o 9 from (cσ40.O (ko.up (xσ34.trans (xσ35.trans (xσ38.trans xσ39)))) (by decide)).1) kp51
  refine ⟨J, (kp64.trans (kp53.trans (kp38.trans (kp23.trans (kp17.trans h7))))), fun kk_J => ?_⟩
  refine ⟨o, (kp65.trans (kp54.trans (kp39.trans (kp24.trans (kp18.trans h8))))), fun kk_o_1 => ?_⟩
  obtain ⟨b, eb, fb⟩ := P_4_0 iσ40.1 (kJ.up (xσ34.trans (xσ35.trans (xσ38.trans (xσ39.trans xσ40)))))
  have mb : kO σ40 b 115 := iσ40.1.kd (kJ.up (xσ34.trans (xσ35.trans (xσ38.trans (xσ39.trans xσ40))))) rfl eb rfl
  refine ⟨b, eb, fun kk_b => ?_⟩
  have q76 := I_5_7 iσ40.1 (ko.up (xσ34.trans (xσ35.trans (xσ38.trans (xσ39.trans xσ40)))))
  refine ⟨⟨by (first | omega | with_reducible assumption | with_reducible exact rng_toInt _ | with_reducible exact rng_wr _ | (unfold rng; omega) | (unfold rng at *; omega) | assumption), by (first | omega | with_reducible assumption | with_reducible exact rng_toInt _ | with_reducible exact rng_wr _ | (unfold rng; omega) | (unfold rng at *; omega) | assumption)⟩, ?_⟩
  obtain ⟨b_1, eb_1⟩ := P_115 iσ40.1 mb (k := (gI σ40 o 7).toNat) (by (first | omega | with_reducible assumption | with_reducible exact rng_toInt _ | with_reducible exact rng_wr _ | (unfold rng; omega) | (unfold rng at *; omega) | assumption))
  have fb_1 := T_115 iσ40.1 mb eb_1
  have mb_1 : kO σ40 b_1 5 := iσ40.1.kd mb rfl eb_1 rfl
  refine ⟨b_1, eb_1, fun kk_b_1 => ?_⟩
  refine i_X5_find iσ40 mb_1 (fun r45 pσ44 => ?_)
  intro xσ44
  have ho77 : gI σ40 J 7 = gI σ J 7 := kp69
  have ho78 : gI σ40 J 1 = gI σ J 1 := kp70
  have ho79 : gI σ40 J 2 = gI σ J 2 := kp71
  have ho80 : gI σ40 o 3 = gI σ o 3 := kp72
  have ho81 : gI σ40 o 4 = gI σ o 4 := kp73
  have ho82 : gI σ40 o 8 = gI σ o 8 := kp74
  have ho83 : gI σ40 o 9 = gI σ38 o 9 := kp75
  have wf : ∀ a, kO σ a 5 → gq a = 16 * q + (gI σ40 o 7).toNat → gI σ a 3 = gI σ40 b_1 3 := fun a ka ga => by have e9 := iσ40.unq (ka.up fσ40.1) mb_1 rfl rfl (by omega); subst e9; exact (oxcσ40 _ ka (fun e => absurd (congrArg gq e) (by omega)) 3).symm
  have r46 := I_5_3 iσ40.1 mb_1
  by_cases hc84 : r45 = (-1)
  · rw [if_pos hc84]
    unfold w_X6_topText_61
    refine ⟨b_1, eb_1, fun kk_b_1_1 => ?_⟩
    have q86 := I_5_3 iσ40.1 mb_1
    by_cases hc85 : gI σ40 b_1 3 ≠ 8
    · rw [if_pos hc85]
      unfold w_X6_topText_76
      refine ⟨o, (kp65.trans (kp54.trans (kp39.trans (kp24.trans (kp18.trans h8))))), fun kk_o_2 => ?_⟩
      refine i_X5_addColumnsOf iσ40 (ko.up (xσ34.trans (xσ35.trans (xσ38.trans (xσ39.trans xσ40))))) eb_1 mb_1 (by (first | omega | with_reducible assumption | with_reducible exact rng_toInt _ | with_reducible exact rng_wr _ | (unfold rng; omega) | (unfold rng at *; omega) | assumption)) (by (first | omega | with_reducible assumption | with_reducible exact rng_toInt _ | with_reducible exact rng_wr _ | (unfold rng; omega) | (unfold rng at *; omega) | assumption)) (by (first | omega | with_reducible assumption | with_reducible exact rng_toInt _ | with_reducible exact rng_wr _ | (unfold rng; omega) | (unfold rng at *; omega) | assumption)) (fun e => absurd (congrArg gq e) (by omega)) (fun σ50 _ iσ50 cσ50 oxσ50 pσ50 => ?_)
      intro xσ50
      have fσ50 : Fx [323, 326, 327, 329, 331, 333, 386, 387, 388, 389, 390, 6464] gr σ σ50 := fσ40.tr (cσ50.mo (by decide))
      have oxcσ50 : OX o σ σ50 := oxcσ40.tr oxσ50 (xσ34.trans (xσ35.trans (xσ38.trans (xσ39.trans xσ40))))
      have kp87 : Kpt (gI σ50 o 7 = gI σ40 o 7) := (cσ50.O (ko.up (xσ34.trans (xσ35.trans (xσ38.trans (xσ39.trans xσ40))))) (by decide)).1
      have kp88 : gP σ50 J 0 = gP σ40 J 0 := (cσ50.O (kJ.up (xσ34.trans (xσ35.trans (xσ38.trans (xσ39.trans xσ40))))) (by decide)).2.1
      have kp89 : gP σ50 b (gI σ40 o 7).toNat = gP σ40 b (gI σ40 o 7).toNat := (cσ50.A mb (by decide)).2.1
      have kp90 : gP σ50 th 0 = gP σ40 th 0 := (cσ50.O (kth.up (xσ34.trans (xσ35.trans (xσ38.trans (xσ39.trans xσ40))))) (by decide)).2.1
      have kp91 : gP σ50 th 7 = gP σ40 th 7 := (cσ50.O (kth.up (xσ34.trans (xσ35.trans (xσ38.trans (xσ39.trans xσ40))))) (by decide)).2.1
      have kp92 : gP σ50 th 8 = gP σ40 th 8 := (cσ50.O (kth.up (xσ34.trans (xσ35.trans (xσ38.trans (xσ39.trans xσ40))))) (by decide)).2.1
      have kp93 : gI σ50 th 2 = gI σ40 th 2 := (cσ50.O (kth.up (xσ34.trans (xσ35.trans (xσ38.trans (xσ39.trans xσ40))))) (by decide)).1
      have kp94 : gI σ50 th 3 = gI σ40 th 3 := (cσ50.O (kth.up (xσ34.trans (xσ35.trans (xσ38.trans (xσ39.trans xσ40))))) (by decide)).1
      have kp95 : gI σ50 th 5 = gI σ40 th 5 := (cσ50.O (kth.up (xσ34.trans (xσ35.trans (xσ38.trans (xσ39.trans xσ40))))) (by decide)).1
      have kp96 : Kpt (gI σ50 J 7 = gI σ J 7) := Eq.trans (show gI σ50 J 7 = gI σ40 J 7 from (cσ50.O (kJ.up (xσ34.trans (xσ35.trans (xσ38.trans (xσ39.trans xσ40))))) (by decide)).1) kp69
      have kp97 : Kpt (gI σ50 J 1 = gI σ J 1) := Eq.trans (show gI σ50 J 1 = gI σ40 J 1 from (cσ50.O (kJ.up (xσ34.trans (xσ35.trans (xσ38.trans (xσ39.trans xσ40))))) (by decide)).1) kp70
      have kp98 : Kpt (gI σ50 J 2 = gI σ J 2) := Eq.trans (show gI σ50 J 2 = gI σ40 J 2 from (cσ50.O (kJ.up (xσ34.trans (xσ35.trans (xσ38.trans (xσ39.trans xσ40))))) (by decide)).1) kp71
      have kp99 : Kpt (gI σ50 o 4 = gI σ o 4) := Eq.trans (show gI σ50 o 4 = gI σ40 o 4 from (cσ50.O (ko.up (xσ34.trans (xσ35.trans (xσ38.trans (xσ39.trans xσ40))))) (by decide)).1) kp73
      have kp100 : Kpt (gI σ50 o 6 = gI σ40 o 6) := (cσ50.O (ko.up (xσ34.trans (xσ35.trans (xσ38.trans (xσ39.trans xσ40))))) (by decide)).1
      have kp101 : Kpt (gI σ50 o 8 = gI σ o 8) := Eq.trans (show gI σ50 o 8 = gI σ40 o 8 from (cσ50.O (ko.up (xσ34.trans (xσ35.trans (xσ38.trans (xσ39.trans xσ40))))) (by decide)).1) kp74
      have kp102 : Kpt (gI σ50 o 9 = gI σ38 o 9) := Eq.trans (show gI σ50 o 9 = gI σ40 o 9 from (cσ50.O (ko.up (xσ34.trans (xσ35.trans (xσ38.trans (xσ39.trans xσ40))))) (by decide)).1) kp75
      refine ⟨o, (kp92.trans (kp65.trans (kp54.trans (kp39.trans (kp24.trans (kp18.trans h8)))))), fun kk_o_3 => ?_⟩
      refine i_X5_addColumn iσ50 (ko.up (xσ34.trans (xσ35.trans (xσ38.trans (xσ39.trans (xσ40.trans xσ50)))))) (by (first | omega | with_reducible assumption | with_reducible exact rng_toInt _ | with_reducible exact rng_wr _ | (unfold rng; omega) | (unfold rng at *; omega) | assumption)) (by (first | omega | with_reducible assumption | with_reducible exact rng_toInt _ | with_reducible exact rng_wr _ | (unfold rng; omega) | (unfold rng at *; omega) | assumption)) (by (first | omega | with_reducible assumption | with_reducible exact rng_toInt _ | with_reducible exact rng_wr _ | (unfold rng; omega) | (unfold rng at *; omega) | assumption)) (fun σ52 _ iσ52 cσ52 oxσ52 pσ52 => ?_)
      intro xσ52
      have fσ52 : Fx [323, 326, 327, 329, 331, 333, 386, 387, 388, 389, 390, 6464] gr σ σ52 := fσ50.tr (cσ52.mo (by decide))
      have oxcσ52 : OX o σ σ52 := oxcσ50.tr oxσ52 (xσ34.trans (xσ35.trans (xσ38.trans (xσ39.trans (xσ40.trans xσ50)))))
      have kp103 : gP σ52 J 0 = gP σ50 J 0 := (cσ52.O (kJ.up (xσ34.trans (xσ35.trans (xσ38.trans (xσ39.trans (xσ40.trans xσ50)))))) (by decide)).2.1
      have kp104 : gP σ52 b (gI σ40 o 7).toNat = gP σ50 b (gI σ40 o 7).toNat := (cσ52.A (mb.up xσ50) (by decide)).2.1
      have kp105 : gP σ52 th 0 = gP σ50 th 0 := (cσ52.O (kth.up (xσ34.trans (xσ35.trans (xσ38.trans (xσ39.trans (xσ40.trans xσ50)))))) (by decide)).2.1
      have kp106 : gP σ52 th 7 = gP σ50 th 7 := (cσ52.O (kth.up (xσ34.trans (xσ35.trans (xσ38.trans (xσ39.trans (xσ40.trans xσ50)))))) (by decide)).2.1
      have kp107 : gP σ52 th 8 = gP σ50 th 8 := (cσ52.O (kth.up (xσ34.trans (xσ35.trans (xσ38.trans (xσ39.trans (xσ40.trans xσ50)))))) (by decide)).2.1
      have kp108 : gI σ52 th 2 = gI σ50 th 2 := (cσ52.O (kth.up (xσ34.trans (xσ35.trans (xσ38.trans (xσ39.trans (xσ40.trans xσ50)))))) (by decide)).1
      have kp109 : gI σ52 th 3 = gI σ50 th 3 := (cσ52.O (kth.up (xσ34.trans (xσ35.trans (xσ38.trans (xσ39.trans (xσ40.trans xσ50)))))) (by decide)).1
      have kp110 : gI σ52 th 5 = gI σ50 th 5 := (cσ52.O (kth.up (xσ34.trans (xσ35.trans (xσ38.trans (xσ39.trans (xσ40.trans xσ50)))))) (by decide)).1
      have kp111 : Kpt (gI σ52 J 7 = gI σ J 7) := Eq.trans (show gI σ52 J 7 = gI σ50 J 7 from (cσ52.O (kJ.up (xσ34.trans (xσ35.trans (xσ38.trans (xσ39.trans (xσ40.trans xσ50)))))) (by decide)).1) kp96
      have kp112 : Kpt (gI σ52 J 1 = gI σ J 1) := Eq.trans (show gI σ52 J 1 = gI σ50 J 1 from (cσ52.O (kJ.up (xσ34.trans (xσ35.trans (xσ38.trans (xσ39.trans (xσ40.trans xσ50)))))) (by decide)).1) kp97
      have kp113 : Kpt (gI σ52 J 2 = gI σ J 2) := Eq.trans (show gI σ52 J 2 = gI σ50 J 2 from (cσ52.O (kJ.up (xσ34.trans (xσ35.trans (xσ38.trans (xσ39.trans (xσ40.trans xσ50)))))) (by decide)).1) kp98
      have kp114 : Kpt (gI σ52 o 4 = gI σ o 4) := Eq.trans (show gI σ52 o 4 = gI σ50 o 4 from (cσ52.O (ko.up (xσ34.trans (xσ35.trans (xσ38.trans (xσ39.trans (xσ40.trans xσ50)))))) (by decide)).1) kp99
      have kp115 : Kpt (gI σ52 o 6 = gI σ40 o 6) := Eq.trans (show gI σ52 o 6 = gI σ50 o 6 from (cσ52.O (ko.up (xσ34.trans (xσ35.trans (xσ38.trans (xσ39.trans (xσ40.trans xσ50)))))) (by decide)).1) kp100
      have kp116 : Kpt (gI σ52 o 7 = gI σ40 o 7) := Eq.trans (show gI σ52 o 7 = gI σ50 o 7 from (cσ52.O (ko.up (xσ34.trans (xσ35.trans (xσ38.trans (xσ39.trans (xσ40.trans xσ50)))))) (by decide)).1) kp87
      have kp117 : Kpt (gI σ52 o 8 = gI σ o 8) := Eq.trans (show gI σ52 o 8 = gI σ50 o 8 from (cσ52.O (ko.up (xσ34.trans (xσ35.trans (xσ38.trans (xσ39.trans (xσ40.trans xσ50)))))) (by decide)).1) kp101
      have kp118 : Kpt (gI σ52 o 9 = gI σ38 o 9) := Eq.trans (show gI σ52 o 9 = gI σ50 o 9 from (cσ52.O (ko.up (xσ34.trans (xσ35.trans (xσ38.trans (xσ39.trans (xσ40.trans xσ50)))))) (by decide)).1) kp102
      refine i_X6_next iσ52 (kth.up (xσ34.trans (xσ35.trans (xσ38.trans (xσ39.trans (xσ40.trans (xσ50.trans xσ52))))))) (kp105.trans (kp90.trans (kp63.trans (kp52.trans (kp37.trans (kp22.trans (kp16.trans hX0))))))) (kX.up (xσ34.trans (xσ35.trans (xσ38.trans (xσ39.trans (xσ40.trans (xσ50.trans xσ52))))))) (((xσ34.trans (xσ35.trans (xσ38.trans (xσ39.trans (xσ40.trans (xσ50.trans xσ52)))))) tx kX.1).2.2.trans gX) (by (first | omega | with_reducible assumption | with_reducible exact rng_toInt _ | with_reducible exact rng_wr _ | (unfold rng; omega) | (unfold rng at *; omega) | assumption)) (by (first | omega | with_reducible assumption | with_reducible exact rng_toInt _ | with_reducible exact rng_wr _ | (unfold rng; omega) | (unfold rng at *; omega) | assumption)) (fun σ54 _ iσ54 cσ54 pσ54 => ?_) (fun σx LLx Nx nux E ix cx ux px => hX σx LLx Nx nux E ix (fσ52.tr (cx.mo (by decide))) (ux) (by first | exact px | exact ⟨by have := px.1; omega, px.2⟩ | (first | omega | with_reducible assumption | with_reducible exact rng_toInt _ | with_reducible exact rng_wr _ | (unfold rng; omega) | (unfold rng at *; omega) | assumption)))
      intro xσ54
      have fσ54 : Fx [323, 326, 327, 329, 331, 333, 386, 387, 388, 389, 390, 6464] gr σ σ54 := fσ52.tr (cσ54.mo (by decide))
      have oxcσ54 : OX o σ σ54 := oxcσ52.tr (OX.fx cσ54 (by decide) (by decide)) (xσ34.trans (xσ35.trans (xσ38.trans (xσ39.trans (xσ40.trans (xσ50.trans xσ52))))))
      have kp119 : gP σ54 J 0 = gP σ52 J 0 := (cσ54.O (kJ.up (xσ34.trans (xσ35.trans (xσ38.trans (xσ39.trans (xσ40.trans (xσ50.trans xσ52))))))) (by decide)).2.1
      have kp120 : gP σ54 b (gI σ40 o 7).toNat = gP σ52 b (gI σ40 o 7).toNat := (cσ54.A (mb.up (xσ50.trans xσ52)) (by decide)).2.1
      have kp121 : gP σ54 th 0 = gP σ52 th 0 := (cσ54.O (kth.up (xσ34.trans (xσ35.trans (xσ38.trans (xσ39.trans (xσ40.trans (xσ50.trans xσ52))))))) (by decide)).2.1
      have kp122 : gP σ54 th 7 = gP σ52 th 7 := (cσ54.O (kth.up (xσ34.trans (xσ35.trans (xσ38.trans (xσ39.trans (xσ40.trans (xσ50.trans xσ52))))))) (by decide)).2.1
      have kp123 : gP σ54 th 8 = gP σ52 th 8 := (cσ54.O (kth.up (xσ34.trans (xσ35.trans (xσ38.trans (xσ39.trans (xσ40.trans (xσ50.trans xσ52))))))) (by decide)).2.1
      have kp124 : Kpt (gI σ54 J 7 = gI σ J 7) := Eq.trans (show gI σ54 J 7 = gI σ52 J 7 from (cσ54.O (kJ.up (xσ34.trans (xσ35.trans (xσ38.trans (xσ39.trans (xσ40.trans (xσ50.trans xσ52))))))) (by decide)).1) kp111
      have kp125 : Kpt (gI σ54 J 1 = gI σ J 1) := Eq.trans (show gI σ54 J 1 = gI σ52 J 1 from (cσ54.O (kJ.up (xσ34.trans (xσ35.trans (xσ38.trans (xσ39.trans (xσ40.trans (xσ50.trans xσ52))))))) (by decide)).1) kp112
      have kp126 : Kpt (gI σ54 J 2 = gI σ J 2) := Eq.trans (show gI σ54 J 2 = gI σ52 J 2 from (cσ54.O (kJ.up (xσ34.trans (xσ35.trans (xσ38.trans (xσ39.trans (xσ40.trans (xσ50.trans xσ52))))))) (by decide)).1) kp113
      have kp127 : Kpt (gI σ54 o 3 = gI σ52 o 3) := (cσ54.O (ko.up (xσ34.trans (xσ35.trans (xσ38.trans (xσ39.trans (xσ40.trans (xσ50.trans xσ52))))))) (by decide)).1
      have kp128 : Kpt (gI σ54 o 4 = gI σ o 4) := Eq.trans (show gI σ54 o 4 = gI σ52 o 4 from (cσ54.O (ko.up (xσ34.trans (xσ35.trans (xσ38.trans (xσ39.trans (xσ40.trans (xσ50.trans xσ52))))))) (by decide)).1) kp114
      have kp129 : Kpt (gI σ54 o 6 = gI σ40 o 6) := Eq.trans (show gI σ54 o 6 = gI σ52 o 6 from (cσ54.O (ko.up (xσ34.trans (xσ35.trans (xσ38.trans (xσ39.trans (xσ40.trans (xσ50.trans xσ52))))))) (by decide)).1) kp115
      have kp130 : Kpt (gI σ54 o 7 = gI σ40 o 7) := Eq.trans (show gI σ54 o 7 = gI σ52 o 7 from (cσ54.O (ko.up (xσ34.trans (xσ35.trans (xσ38.trans (xσ39.trans (xσ40.trans (xσ50.trans xσ52))))))) (by decide)).1) kp116
      have kp131 : Kpt (gI σ54 o 8 = gI σ o 8) := Eq.trans (show gI σ54 o 8 = gI σ52 o 8 from (cσ54.O (ko.up (xσ34.trans (xσ35.trans (xσ38.trans (xσ39.trans (xσ40.trans (xσ50.trans xσ52))))))) (by decide)).1) kp117
      have kp132 : Kpt (gI σ54 o 9 = gI σ38 o 9) := Eq.trans (show gI σ54 o 9 = gI σ52 o 9 from (cσ54.O (ko.up (xσ34.trans (xσ35.trans (xσ38.trans (xσ39.trans (xσ40.trans (xσ50.trans xσ52))))))) (by decide)).1) kp118
      have r5σ54 := I_6_5 iσ54.1 (kth.up (xσ34.trans (xσ35.trans (xσ38.trans (xσ39.trans (xσ40.trans (xσ50.trans (xσ52.trans xσ54))))))))
      refine i_X6_wantWord iσ54 (kth.up (xσ34.trans (xσ35.trans (xσ38.trans (xσ39.trans (xσ40.trans (xσ50.trans (xσ52.trans xσ54)))))))) (kp121.trans (kp105.trans (kp90.trans (kp63.trans (kp52.trans (kp37.trans (kp22.trans (kp16.trans hX0)))))))) (kX.up (xσ34.trans (xσ35.trans (xσ38.trans (xσ39.trans (xσ40.trans (xσ50.trans (xσ52.trans xσ54)))))))) (((xσ34.trans (xσ35.trans (xσ38.trans (xσ39.trans (xσ40.trans (xσ50.trans (xσ52.trans xσ54))))))) tx kX.1).2.2.trans gX) (by (first | omega | with_reducible assumption | with_reducible exact rng_toInt _ | with_reducible exact rng_wr _ | (unfold rng; omega) | (unfold rng at *; omega) | assumption)) (by (first | omega | with_reducible assumption | with_reducible exact rng_toInt _ | with_reducible exact rng_wr _ | (unfold rng; omega) | (unfold rng at *; omega) | assumption)) (fun σ55 _ iσ55 cσ55 pσ55 => ?_) (fun σx LLx Nx nux E ix cx ux px => hX σx LLx Nx nux E ix (fσ54.tr (cx.mo (by decide))) (ux) (by first | exact px | exact ⟨by have := px.1; omega, px.2⟩ | (first | omega | with_reducible assumption | with_reducible exact rng_toInt _ | with_reducible exact rng_wr _ | (unfold rng; omega) | (unfold rng at *; omega) | assumption)))
      intro xσ55
      have fσ55 : Fx [323, 326, 327, 329, 331, 333, 386, 387, 388, 389, 390, 6464] gr σ σ55 := fσ54.tr (cσ55.mo (by decide))
      have oxcσ55 : OX o σ σ55 := oxcσ54.tr (OX.fx cσ55 (by decide) (by decide)) (xσ34.trans (xσ35.trans (xσ38.trans (xσ39.trans (xσ40.trans (xσ50.trans (xσ52.trans xσ54)))))))
      have kp133 : gP σ55 J 0 = gP σ54 J 0 := (cσ55.O (kJ.up (xσ34.trans (xσ35.trans (xσ38.trans (xσ39.trans (xσ40.trans (xσ50.trans (xσ52.trans xσ54)))))))) (by decide)).2.1
      have kp134 : gP σ55 b (gI σ40 o 7).toNat = gP σ54 b (gI σ40 o 7).toNat := (cσ55.A (mb.up (xσ50.trans (xσ52.trans xσ54))) (by decide)).2.1
      have kp135 : gP σ55 th 0 = gP σ54 th 0 := (cσ55.O (kth.up (xσ34.trans (xσ35.trans (xσ38.trans (xσ39.trans (xσ40.trans (xσ50.trans (xσ52.trans xσ54)))))))) (by decide)).2.1
      have kp136 : gP σ55 th 7 = gP σ54 th 7 := (cσ55.O (kth.up (xσ34.trans (xσ35.trans (xσ38.trans (xσ39.trans (xσ40.trans (xσ50.trans (xσ52.trans xσ54)))))))) (by decide)).2.1
      have kp137 : gP σ55 th 8 = gP σ54 th 8 := (cσ55.O (kth.up (xσ34.trans (xσ35.trans (xσ38.trans (xσ39.trans (xσ40.trans (xσ50.trans (xσ52.trans xσ54)))))))) (by decide)).2.1
      have kp138 : Kpt (gI σ55 J 7 = gI σ J 7) := Eq.trans (show gI σ55 J 7 = gI σ54 J 7 from (cσ55.O (kJ.up (xσ34.trans (xσ35.trans (xσ38.trans (xσ39.trans (xσ40.trans (xσ50.trans (xσ52.trans xσ54)))))))) (by decide)).1) kp124
      have kp139 : Kpt (gI σ55 J 1 = gI σ J 1) := Eq.trans (show gI σ55 J 1 = gI σ54 J 1 from (cσ55.O (kJ.up (xσ34.trans (xσ35.trans (xσ38.trans (xσ39.trans (xσ40.trans (xσ50.trans (xσ52.trans xσ54)))))))) (by decide)).1) kp125
      have kp140 : Kpt (gI σ55 J 2 = gI σ J 2) := Eq.trans (show gI σ55 J 2 = gI σ54 J 2 from (cσ55.O (kJ.up (xσ34.trans (xσ35.trans (xσ38.trans (xσ39.trans (xσ40.trans (xσ50.trans (xσ52.trans xσ54)))))))) (by decide)).1) kp126
      have kp141 : Kpt (gI σ55 o 3 = gI σ52 o 3) := Eq.trans (show gI σ55 o 3 = gI σ54 o 3 from (cσ55.O (ko.up (xσ34.trans (xσ35.trans (xσ38.trans (xσ39.trans (xσ40.trans (xσ50.trans (xσ52.trans xσ54)))))))) (by decide)).1) kp127
      have kp142 : Kpt (gI σ55 o 4 = gI σ o 4) := Eq.trans (show gI σ55 o 4 = gI σ54 o 4 from (cσ55.O (ko.up (xσ34.trans (xσ35.trans (xσ38.trans (xσ39.trans (xσ40.trans (xσ50.trans (xσ52.trans xσ54)))))))) (by decide)).1) kp128
      have kp143 : Kpt (gI σ55 o 6 = gI σ40 o 6) := Eq.trans (show gI σ55 o 6 = gI σ54 o 6 from (cσ55.O (ko.up (xσ34.trans (xσ35.trans (xσ38.trans (xσ39.trans (xσ40.trans (xσ50.trans (xσ52.trans xσ54)))))))) (by decide)).1) kp129
      have kp144 : Kpt (gI σ55 o 7 = gI σ40 o 7) := Eq.trans (show gI σ55 o 7 = gI σ54 o 7 from (cσ55.O (ko.up (xσ34.trans (xσ35.trans (xσ38.trans (xσ39.trans (xσ40.trans (xσ50.trans (xσ52.trans xσ54)))))))) (by decide)).1) kp130
      have kp145 : Kpt (gI σ55 o 8 = gI σ o 8) := Eq.trans (show gI σ55 o 8 = gI σ54 o 8 from (cσ55.O (ko.up (xσ34.trans (xσ35.trans (xσ38.trans (xσ39.trans (xσ40.trans (xσ50.trans (xσ52.trans xσ54)))))))) (by decide)).1) kp131
      have kp146 : Kpt (gI σ55 o 9 = gI σ38 o 9) := Eq.trans (show gI σ55 o 9 = gI σ54 o 9 from (cσ55.O (ko.up (xσ34.trans (xσ35.trans (xσ38.trans (xσ39.trans (xσ40.trans (xσ50.trans (xσ52.trans xσ54)))))))) (by decide)).1) kp132
      have r5σ55 := I_6_5 iσ55.1 (kth.up (xσ34.trans (xσ35.trans (xσ38.trans (xσ39.trans (xσ40.trans (xσ50.trans (xσ52.trans (xσ54.trans xσ55)))))))))
      refine i_X6_column iσ55 (kth.up (xσ34.trans (xσ35.trans (xσ38.trans (xσ39.trans (xσ40.trans (xσ50.trans (xσ52.trans (xσ54.trans xσ55))))))))) eb_1 (mb_1.up (xσ50.trans (xσ52.trans (xσ54.trans xσ55)))) (by (first | omega | with_reducible assumption | with_reducible exact rng_toInt _ | with_reducible exact rng_wr _ | (unfold rng; omega) | (unfold rng at *; omega) | assumption)) (fun σ56 r57 iσ56 cσ56 pσ56 => ?_) (fun σx LLx Nx nux E ix cx ux px => hX σx LLx Nx nux E ix (fσ55.tr (cx.mo (by decide))) (ux) (by first | exact px | exact ⟨by have := px.1; omega, px.2⟩ | (first | omega | with_reducible assumption | with_reducible exact rng_toInt _ | with_reducible exact rng_wr _ | (unfold rng; omega) | (unfold rng at *; omega) | assumption)))
      intro xσ56
      have fσ56 : Fx [323, 326, 327, 329, 331, 333, 386, 387, 388, 389, 390, 6464] gr σ σ56 := fσ55.tr (cσ56.mo (by decide))
      have oxcσ56 : OX o σ σ56 := oxcσ55.tr (OX.fx cσ56 (by decide) (by decide)) (xσ34.trans (xσ35.trans (xσ38.trans (xσ39.trans (xσ40.trans (xσ50.trans (xσ52.trans (xσ54.trans xσ55))))))))
      have kp147 : gP σ56 J 0 = gP σ55 J 0 := (cσ56.O (kJ.up (xσ34.trans (xσ35.trans (xσ38.trans (xσ39.trans (xσ40.trans (xσ50.trans (xσ52.trans (xσ54.trans xσ55))))))))) (by decide)).2.1
      have kp148 : gP σ56 b (gI σ40 o 7).toNat = gP σ55 b (gI σ40 o 7).toNat := (cσ56.A (mb.up (xσ50.trans (xσ52.trans (xσ54.trans xσ55)))) (by decide)).2.1
      have kp149 : gP σ56 th 0 = gP σ55 th 0 := (cσ56.O (kth.up (xσ34.trans (xσ35.trans (xσ38.trans (xσ39.trans (xσ40.trans (xσ50.trans (xσ52.trans (xσ54.trans xσ55))))))))) (by decide)).2.1
      have kp150 : gP σ56 th 7 = gP σ55 th 7 := (cσ56.O (kth.up (xσ34.trans (xσ35.trans (xσ38.trans (xσ39.trans (xσ40.trans (xσ50.trans (xσ52.trans (xσ54.trans xσ55))))))))) (by decide)).2.1
      have kp151 : gP σ56 th 8 = gP σ55 th 8 := (cσ56.O (kth.up (xσ34.trans (xσ35.trans (xσ38.trans (xσ39.trans (xσ40.trans (xσ50.trans (xσ52.trans (xσ54.trans xσ55))))))))) (by decide)).2.1
      have kp152 : gI σ56 th 2 = gI σ55 th 2 := (cσ56.O (kth.up (xσ34.trans (xσ35.trans (xσ38.trans (xσ39.trans (xσ40.trans (xσ50.trans (xσ52.trans (xσ54.trans xσ55))))))))) (by decide)).1
      have kp153 : gI σ56 th 3 = gI σ55 th 3 := (cσ56.O (kth.up (xσ34.trans (xσ35.trans (xσ38.trans (xσ39.trans (xσ40.trans (xσ50.trans (xσ52.trans (xσ54.trans xσ55))))))))) (by decide)).1
      have kp154 : gI σ56 th 5 = gI σ55 th 5 := (cσ56.O (kth.up (xσ34.trans (xσ35.trans (xσ38.trans (xσ39.trans (xσ40.trans (xσ50.trans (xσ52.trans (xσ54.trans xσ55))))))))) (by decide)).1
      have kp155 : Kpt (gI σ56 J 7 = gI σ J 7) := Eq.trans (show gI σ56 J 7 = gI σ55 J 7 from (cσ56.O (kJ.up (xσ34.trans (xσ35.trans (xσ38.trans (xσ39.trans (xσ40.trans (xσ50.trans (xσ52.trans (xσ54.trans xσ55))))))))) (by decide)).1) kp138
      have kp156 : Kpt (gI σ56 J 1 = gI σ J 1) := Eq.trans (show gI σ56 J 1 = gI σ55 J 1 from (cσ56.O (kJ.up (xσ34.trans (xσ35.trans (xσ38.trans (xσ39.trans (xσ40.trans (xσ50.trans (xσ52.trans (xσ54.trans xσ55))))))))) (by decide)).1) kp139
      have kp157 : Kpt (gI σ56 J 2 = gI σ J 2) := Eq.trans (show gI σ56 J 2 = gI σ55 J 2 from (cσ56.O (kJ.up (xσ34.trans (xσ35.trans (xσ38.trans (xσ39.trans (xσ40.trans (xσ50.trans (xσ52.trans (xσ54.trans xσ55))))))))) (by decide)).1) kp140
      have kp158 : Kpt (gI σ56 o 3 = gI σ52 o 3) := Eq.trans (show gI σ56 o 3 = gI σ55 o 3 from (cσ56.O (ko.up (xσ34.trans (xσ35.trans (xσ38.trans (xσ39.trans (xσ40.trans (xσ50.trans (xσ52.trans (xσ54.trans xσ55))))))))) (by decide)).1) kp141
      have kp159 : Kpt (gI σ56 o 4 = gI σ o 4) := Eq.trans (show gI σ56 o 4 = gI σ55 o 4 from (cσ56.O (ko.up (xσ34.trans (xσ35.trans (xσ38.trans (xσ39.trans (xσ40.trans (xσ50.trans (xσ52.trans (xσ54.trans xσ55))))))))) (by decide)).1) kp142
      have kp160 : Kpt (gI σ56 o 6 = gI σ40 o 6) := Eq.trans (show gI σ56 o 6 = gI σ55 o 6 from (cσ56.O (ko.up (xσ34.trans (xσ35.trans (xσ38.trans (xσ39.trans (xσ40.trans (xσ50.trans (xσ52.trans (xσ54.trans xσ55))))))))) (by decide)).1) kp143
      have kp161 : Kpt (gI σ56 o 7 = gI σ40 o 7) := Eq.trans (show gI σ56 o 7 = gI σ55 o 7 from (cσ56.O (ko.up (xσ34.trans (xσ35.trans (xσ38.trans (xσ39.trans (xσ40.trans (xσ50.trans (xσ52.trans (xσ54.trans xσ55))))))))) (by decide)).1) kp144
      have kp162 : Kpt (gI σ56 o 8 = gI σ o 8) := Eq.trans (show gI σ56 o 8 = gI σ55 o 8 from (cσ56.O (ko.up (xσ34.trans (xσ35.trans (xσ38.trans (xσ39.trans (xσ40.trans (xσ50.trans (xσ52.trans (xσ54.trans xσ55))))))))) (by decide)).1) kp145
      have kp163 : Kpt (gI σ56 o 9 = gI σ38 o 9) := Eq.trans (show gI σ56 o 9 = gI σ55 o 9 from (cσ56.O (ko.up (xσ34.trans (xσ35.trans (xσ38.trans (xσ39.trans (xσ40.trans (xσ50.trans (xσ52.trans (xσ54.trans xσ55))))))))) (by decide)).1) kp146
      refine ⟨o, (kp137.trans (kp123.trans (kp107.trans (kp92.trans (kp65.trans (kp54.trans (kp39.trans (kp24.trans (kp18.trans h8))))))))), fun kk_o_4 => ?_⟩
      intro σ59 eσ59
      have xσ59 : Ext σ56 σ59 := by rw [eσ59]; exact fun _ h => ⟨h, rfl, rfl⟩
      have iσ59 : IV σ59 pl gq ci gr nc ot LL N nu := by rw [eσ59]; exact iσ56.wSp (ko.up (xσ34.trans (xσ35.trans (xσ38.trans (xσ39.trans (xσ40.trans (xσ50.trans (xσ52.trans (xσ54.trans (xσ55.trans xσ56)))))))))) (fun i hi => by omega) (by decide) (show (0 : Int) ≤ r57 ∧ r57 ≤ 7 from ⟨by omega, by omega⟩)
      have fσ59 : Fx [323, 326, 327, 329, 331, 333, 386, 387, 388, 389, 390, 6464] gr σ σ59 := fσ56.tr (Sk.fx (by rw [eσ59]; exact Sk.pI (by rw [fcdO (ko.up (xσ34.trans (xσ35.trans (xσ38.trans (xσ39.trans (xσ40.trans (xσ50.trans (xσ52.trans (xσ54.trans (xσ55.trans xσ56)))))))))) (by decide)]; decide)))
      have oxcσ59 : OX o σ σ59 := oxcσ56.tr (by rw [eσ59]; exact OX.pI (ko.up (xσ34.trans (xσ35.trans (xσ38.trans (xσ39.trans (xσ40.trans (xσ50.trans (xσ52.trans (xσ54.trans (xσ55.trans xσ56)))))))))) (Or.inr rfl)) (xσ34.trans (xσ35.trans (xσ38.trans (xσ39.trans (xσ40.trans (xσ50.trans (xσ52.trans (xσ54.trans (xσ55.trans xσ56)))))))))
      have wσ59 : gI σ59 o 13 = r57 := by rw [eσ59]; exact up2_s _ _ _ _
      have kp164 : gP σ59 J 0 = gP σ56 J 0 := by rw [eσ59]
      have kp165 : gP σ59 b (gI σ40 o 7).toNat = gP σ56 b (gI σ40 o 7).toNat := by rw [eσ59]
      have kp166 : gP σ59 th 0 = gP σ56 th 0 := by rw [eσ59]
      have kp167 : gP σ59 th 7 = gP σ56 th 7 := by rw [eσ59]
      have kp168 : gP σ59 th 8 = gP σ56 th 8 := by rw [eσ59]
      have kp169 : gI σ59 th 2 = gI σ56 th 2 := by rw [eσ59]; exact up2_n _ _ (fun q => absurd q.2 (by decide))
      have kp170 : gI σ59 th 3 = gI σ56 th 3 := by rw [eσ59]; exact up2_n _ _ (fun q => absurd q.2 (by decide))
      have kp171 : gI σ59 th 5 = gI σ56 th 5 := by rw [eσ59]; exact up2_n _ _ (fun q => absurd q.2 (by decide))
      have kp172 : Kpt (gI σ59 J 7 = gI σ J 7) := Eq.trans (show gI σ59 J 7 = gI σ56 J 7 from by rw [eσ59]; exact up2_n _ _ (fun q => absurd q.2 (by decide))) kp155
      have kp173 : Kpt (gI σ59 J 1 = gI σ J 1) := Eq.trans (show gI σ59 J 1 = gI σ56 J 1 from by rw [eσ59]; exact up2_n _ _ (fun q => absurd q.2 (by decide))) kp156
      have kp174 : Kpt (gI σ59 J 2 = gI σ J 2) := Eq.trans (show gI σ59 J 2 = gI σ56 J 2 from by rw [eσ59]; exact up2_n _ _ (fun q => absurd q.2 (by decide))) kp157
      have kp175 : Kpt (gI σ59 o 3 = gI σ52 o 3) := Eq.trans (show gI σ59 o 3 = gI σ56 o 3 from by rw [eσ59]; exact up2_n _ _ (fun q => absurd q.2 (by decide))) kp158
      have kp176 : Kpt (gI σ59 o 4 = gI σ o 4) := Eq.trans (show gI σ59 o 4 = gI σ56 o 4 from by rw [eσ59]; exact up2_n _ _ (fun q => absurd q.2 (by decide))) kp159
      have kp177 : Kpt (gI σ59 o 6 = gI σ40 o 6) := Eq.trans (show gI σ59 o 6 = gI σ56 o 6 from by rw [eσ59]; exact up2_n _ _ (fun q => absurd q.2 (by decide))) kp160
      have kp178 : Kpt (gI σ59 o 7 = gI σ40 o 7) := Eq.trans (show gI σ59 o 7 = gI σ56 o 7 from by rw [eσ59]; exact up2_n _ _ (fun q => absurd q.2 (by decide))) kp161
      have kp179 : Kpt (gI σ59 o 8 = gI σ o 8) := Eq.trans (show gI σ59 o 8 = gI σ56 o 8 from by rw [eσ59]; exact up2_n _ _ (fun q => absurd q.2 (by decide))) kp162
      have kp180 : Kpt (gI σ59 o 9 = gI σ38 o 9) := Eq.trans (show gI σ59 o 9 = gI σ56 o 9 from by rw [eσ59]; exact up2_n _ _ (fun q => absurd q.2 (by decide))) kp163
      refine i_X6_next iσ59 (kth.up (xσ34.trans (xσ35.trans (xσ38.trans (xσ39.trans (xσ40.trans (xσ50.trans (xσ52.trans (xσ54.trans (xσ55.trans (xσ56.trans xσ59))))))))))) (kp166.trans (kp149.trans (kp135.trans (kp121.trans (kp105.trans (kp90.trans (kp63.trans (kp52.trans (kp37.trans (kp22.trans (kp16.trans hX0))))))))))) (kX.up (xσ34.trans (xσ35.trans (xσ38.trans (xσ39.trans (xσ40.trans (xσ50.trans (xσ52.trans (xσ54.trans (xσ55.trans (xσ56.trans xσ59))))))))))) (((xσ34.trans (xσ35.trans (xσ38.trans (xσ39.trans (xσ40.trans (xσ50.trans (xσ52.trans (xσ54.trans (xσ55.trans (xσ56.trans xσ59)))))))))) tx kX.1).2.2.trans gX) (by (first | omega | with_reducible assumption | with_reducible exact rng_toInt _ | with_reducible exact rng_wr _ | (unfold rng; omega) | (unfold rng at *; omega) | assumption)) (by (first | omega | with_reducible assumption | with_reducible exact rng_toInt _ | with_reducible exact rng_wr _ | (unfold rng; omega) | (unfold rng at *; omega) | assumption)) (fun σ60 _ iσ60 cσ60 pσ60 => ?_) (fun σx LLx Nx nux E ix cx ux px => hX σx LLx Nx nux E ix (fσ59.tr (cx.mo (by decide))) (ux) (by first | exact px | exact ⟨by have := px.1; omega, px.2⟩ | (first | omega | with_reducible assumption | with_reducible exact rng_toInt _ | with_reducible exact rng_wr _ | (unfold rng; omega) | (unfold rng at *; omega) | assumption)))
      intro xσ60
      have fσ60 : Fx [323, 326, 327, 329, 331, 333, 386, 387, 388, 389, 390, 6464] gr σ σ60 := fσ59.tr (cσ60.mo (by decide))
      have oxcσ60 : OX o σ σ60 := oxcσ59.tr (OX.fx cσ60 (by decide) (by decide)) (xσ34.trans (xσ35.trans (xσ38.trans (xσ39.trans (xσ40.trans (xσ50.trans (xσ52.trans (xσ54.trans (xσ55.trans (xσ56.trans xσ59))))))))))
      have kp181 : gI σ60 o 13 = gI σ59 o 13 := (cσ60.O (ko.up (xσ34.trans (xσ35.trans (xσ38.trans (xσ39.trans (xσ40.trans (xσ50.trans (xσ52.trans (xσ54.trans (xσ55.trans (xσ56.trans xσ59))))))))))) (by decide)).1
      have kp182 : gP σ60 J 0 = gP σ59 J 0 := (cσ60.O (kJ.up (xσ34.trans (xσ35.trans (xσ38.trans (xσ39.trans (xσ40.trans (xσ50.trans (xσ52.trans (xσ54.trans (xσ55.trans (xσ56.trans xσ59))))))))))) (by decide)).2.1
      have kp183 : gP σ60 b (gI σ40 o 7).toNat = gP σ59 b (gI σ40 o 7).toNat := (cσ60.A (mb.up (xσ50.trans (xσ52.trans (xσ54.trans (xσ55.trans (xσ56.trans xσ59)))))) (by decide)).2.1
      have kp184 : gP σ60 th 0 = gP σ59 th 0 := (cσ60.O (kth.up (xσ34.trans (xσ35.trans (xσ38.trans (xσ39.trans (xσ40.trans (xσ50.trans (xσ52.trans (xσ54.trans (xσ55.trans (xσ56.trans xσ59))))))))))) (by decide)).2.1
      have kp185 : gP σ60 th 7 = gP σ59 th 7 := (cσ60.O (kth.up (xσ34.trans (xσ35.trans (xσ38.trans (xσ39.trans (xσ40.trans (xσ50.trans (xσ52.trans (xσ54.trans (xσ55.trans (xσ56.trans xσ59))))))))))) (by decide)).2.1
      have kp186 : gP σ60 th 8 = gP σ59 th 8 := (cσ60.O (kth.up (xσ34.trans (xσ35.trans (xσ38.trans (xσ39.trans (xσ40.trans (xσ50.trans (xσ52.trans (xσ54.trans (xσ55.trans (xσ56.trans xσ59))))))))))) (by decide)).2.1
      have kp187 : Kpt (gI σ60 J 7 = gI σ J 7) := Eq.trans (show gI σ60 J 7 = gI σ59 J 7 from (cσ60.O (kJ.up (xσ34.trans (xσ35.trans (xσ38.trans (xσ39.trans (xσ40.trans (xσ50.trans (xσ52.trans (xσ54.trans (xσ55.trans (xσ56.trans xσ59))))))))))) (by decide)).1) kp172
      have kp188 : Kpt (gI σ60 J 1 = gI σ J 1) := Eq.trans (show gI σ60 J 1 = gI σ59 J 1 from (cσ60.O (kJ.up (xσ34.trans (xσ35.trans (xσ38.trans (xσ39.trans (xσ40.trans (xσ50.trans (xσ52.trans (xσ54.trans (xσ55.trans (xσ56.trans xσ59))))))))))) (by decide)).1) kp173
      have kp189 : Kpt (gI σ60 J 2 = gI σ J 2) := Eq.trans (show gI σ60 J 2 = gI σ59 J 2 from (cσ60.O (kJ.up (xσ34.trans (xσ35.trans (xσ38.trans (xσ39.trans (xσ40.trans (xσ50.trans (xσ52.trans (xσ54.trans (xσ55.trans (xσ56.trans xσ59))))))))))) (by decide)).1) kp174
      have kp190 : Kpt (gI σ60 o 3 = gI σ52 o 3) := Eq.trans (show gI σ60 o 3 = gI σ59 o 3 from (cσ60.O (ko.up (xσ34.trans (xσ35.trans (xσ38.trans (xσ39.trans (xσ40.trans (xσ50.trans (xσ52.trans (xσ54.trans (xσ55.trans (xσ56.trans xσ59))))))))))) (by decide)).1) kp175
      have kp191 : Kpt (gI σ60 o 4 = gI σ o 4) := Eq.trans (show gI σ60 o 4 = gI σ59 o 4 from (cσ60.O (ko.up (xσ34.trans (xσ35.trans (xσ38.trans (xσ39.trans (xσ40.trans (xσ50.trans (xσ52.trans (xσ54.trans (xσ55.trans (xσ56.trans xσ59))))))))))) (by decide)).1) kp176
      have kp192 : Kpt (gI σ60 o 6 = gI σ40 o 6) := Eq.trans (show gI σ60 o 6 = gI σ59 o 6 from (cσ60.O (ko.up (xσ34.trans (xσ35.trans (xσ38.trans (xσ39.trans (xσ40.trans (xσ50.trans (xσ52.trans (xσ54.trans (xσ55.trans (xσ56.trans xσ59))))))))))) (by decide)).1) kp177
      have kp193 : Kpt (gI σ60 o 7 = gI σ40 o 7) := Eq.trans (show gI σ60 o 7 = gI σ59 o 7 from (cσ60.O (ko.up (xσ34.trans (xσ35.trans (xσ38.trans (xσ39.trans (xσ40.trans (xσ50.trans (xσ52.trans (xσ54.trans (xσ55.trans (xσ56.trans xσ59))))))))))) (by decide)).1) kp178
      have kp194 : Kpt (gI σ60 o 8 = gI σ o 8) := Eq.trans (show gI σ60 o 8 = gI σ59 o 8 from (cσ60.O (ko.up (xσ34.trans (xσ35.trans (xσ38.trans (xσ39.trans (xσ40.trans (xσ50.trans (xσ52.trans (xσ54.trans (xσ55.trans (xσ56.trans xσ59))))))))))) (by decide)).1) kp179
      have kp195 : Kpt (gI σ60 o 9 = gI σ38 o 9) := Eq.trans (show gI σ60 o 9 = gI σ59 o 9 from (cσ60.O (ko.up (xσ34.trans (xσ35.trans (xσ38.trans (xσ39.trans (xσ40.trans (xσ50.trans (xσ52.trans (xσ54.trans (xσ55.trans (xσ56.trans xσ59))))))))))) (by decide)).1) kp180
      have r5σ60 := I_6_5 iσ60.1 (kth.up (xσ34.trans (xσ35.trans (xσ38.trans (xσ39.trans (xσ40.trans (xσ50.trans (xσ52.trans (xσ54.trans (xσ55.trans (xσ56.trans (xσ59.trans xσ60))))))))))))
      refine i_X6_wantWord iσ60 (kth.up (xσ34.trans (xσ35.trans (xσ38.trans (xσ39.trans (xσ40.trans (xσ50.trans (xσ52.trans (xσ54.trans (xσ55.trans (xσ56.trans (xσ59.trans xσ60)))))))))))) (kp184.trans (kp166.trans (kp149.trans (kp135.trans (kp121.trans (kp105.trans (kp90.trans (kp63.trans (kp52.trans (kp37.trans (kp22.trans (kp16.trans hX0)))))))))))) (kX.up (xσ34.trans (xσ35.trans (xσ38.trans (xσ39.trans (xσ40.trans (xσ50.trans (xσ52.trans (xσ54.trans (xσ55.trans (xσ56.trans (xσ59.trans xσ60)))))))))))) (((xσ34.trans (xσ35.trans (xσ38.trans (xσ39.trans (xσ40.trans (xσ50.trans (xσ52.trans (xσ54.trans (xσ55.trans (xσ56.trans (xσ59.trans xσ60))))))))))) tx kX.1).2.2.trans gX) (by (first | omega | with_reducible assumption | with_reducible exact rng_toInt _ | with_reducible exact rng_wr _ | (unfold rng; omega) | (unfold rng at *; omega) | assumption)) (by (first | omega | with_reducible assumption | with_reducible exact rng_toInt _ | with_reducible exact rng_wr _ | (unfold rng; omega) | (unfold rng at *; omega) | assumption)) (fun σ61 _ iσ61 cσ61 pσ61 => ?_) (fun σx LLx Nx nux E ix cx ux px => hX σx LLx Nx nux E ix (fσ60.tr (cx.mo (by decide))) (ux) (by first | exact px | exact ⟨by have := px.1; omega, px.2⟩ | (first | omega | with_reducible assumption | with_reducible exact rng_toInt _ | with_reducible exact rng_wr _ | (unfold rng; omega) | (unfold rng at *; omega) | assumption)))
      intro xσ61
      have fσ61 : Fx [323, 326, 327, 329, 331, 333, 386, 387, 388, 389, 390, 6464] gr σ σ61 := fσ60.tr (cσ61.mo (by decide))
      have oxcσ61 : OX o σ σ61 := oxcσ60.tr (OX.fx cσ61 (by decide) (by decide)) (xσ34.trans (xσ35.trans (xσ38.trans (xσ39.trans (xσ40.trans (xσ50.trans (xσ52.trans (xσ54.trans (xσ55.trans (xσ56.trans (xσ59.trans xσ60)))))))))))
      have kp196 : gI σ61 o 13 = gI σ60 o 13 := (cσ61.O (ko.up (xσ34.trans (xσ35.trans (xσ38.trans (xσ39.trans (xσ40.trans (xσ50.trans (xσ52.trans (xσ54.trans (xσ55.trans (xσ56.trans (xσ59.trans xσ60)))))))))))) (by decide)).1
      have kp197 : gP σ61 J 0 = gP σ60 J 0 := (cσ61.O (kJ.up (xσ34.trans (xσ35.trans (xσ38.trans (xσ39.trans (xσ40.trans (xσ50.trans (xσ52.trans (xσ54.trans (xσ55.trans (xσ56.trans (xσ59.trans xσ60)))))))))))) (by decide)).2.1
      have kp198 : gP σ61 b (gI σ40 o 7).toNat = gP σ60 b (gI σ40 o 7).toNat := (cσ61.A (mb.up (xσ50.trans (xσ52.trans (xσ54.trans (xσ55.trans (xσ56.trans (xσ59.trans xσ60))))))) (by decide)).2.1
      have kp199 : gP σ61 th 0 = gP σ60 th 0 := (cσ61.O (kth.up (xσ34.trans (xσ35.trans (xσ38.trans (xσ39.trans (xσ40.trans (xσ50.trans (xσ52.trans (xσ54.trans (xσ55.trans (xσ56.trans (xσ59.trans xσ60)))))))))))) (by decide)).2.1
      have kp200 : gP σ61 th 7 = gP σ60 th 7 := (cσ61.O (kth.up (xσ34.trans (xσ35.trans (xσ38.trans (xσ39.trans (xσ40.trans (xσ50.trans (xσ52.trans (xσ54.trans (xσ55.trans (xσ56.trans (xσ59.trans xσ60)))))))))))) (by decide)).2.1
      have kp201 : gP σ61 th 8 = gP σ60 th 8 := (cσ61.O (kth.up (xσ34.trans (xσ35.trans (xσ38.trans (xσ39.trans (xσ40.trans (xσ50.trans (xσ52.trans (xσ54.trans (xσ55.trans (xσ56.trans (xσ59.trans xσ60)))))))))))) (by decide)).2.1
      have kp202 : Kpt (gI σ61 J 7 = gI σ J 7) := Eq.trans (show gI σ61 J 7 = gI σ60 J 7 from (cσ61.O (kJ.up (xσ34.trans (xσ35.trans (xσ38.trans (xσ39.trans (xσ40.trans (xσ50.trans (xσ52.trans (xσ54.trans (xσ55.trans (xσ56.trans (xσ59.trans xσ60)))))))))))) (by decide)).1) kp187
      have kp203 : Kpt (gI σ61 J 1 = gI σ J 1) := Eq.trans (show gI σ61 J 1 = gI σ60 J 1 from (cσ61.O (kJ.up (xσ34.trans (xσ35.trans (xσ38.trans (xσ39.trans (xσ40.trans (xσ50.trans (xσ52.trans (xσ54.trans (xσ55.trans (xσ56.trans (xσ59.trans xσ60)))))))))))) (by decide)).1) kp188
      have kp204 : Kpt (gI σ61 J 2 = gI σ J 2) := Eq.trans (show gI σ61 J 2 = gI σ60 J 2 from (cσ61.O (kJ.up (xσ34.trans (xσ35.trans (xσ38.trans (xσ39.trans (xσ40.trans (xσ50.trans (xσ52.trans (xσ54.trans (xσ55.trans (xσ56.trans (xσ59.trans xσ60)))))))))))) (by decide)).1) kp189
      have kp205 : Kpt (gI σ61 o 3 = gI σ52 o 3) := Eq.trans (show gI σ61 o 3 = gI σ60 o 3 from (cσ61.O (ko.up (xσ34.trans (xσ35.trans (xσ38.trans (xσ39.trans (xσ40.trans (xσ50.trans (xσ52.trans (xσ54.trans (xσ55.trans (xσ56.trans (xσ59.trans xσ60)))))))))))) (by decide)).1) kp190
      have kp206 : Kpt (gI σ61 o 4 = gI σ o 4) := Eq.trans (show gI σ61 o 4 = gI σ60 o 4 from (cσ61.O (ko.up (xσ34.trans (xσ35.trans (xσ38.trans (xσ39.trans (xσ40.trans (xσ50.trans (xσ52.trans (xσ54.trans (xσ55.trans (xσ56.trans (xσ59.trans xσ60)))))))))))) (by decide)).1) kp191
      have kp207 : Kpt (gI σ61 o 6 = gI σ40 o 6) := Eq.trans (show gI σ61 o 6 = gI σ60 o 6 from (cσ61.O (ko.up (xσ34.trans (xσ35.trans (xσ38.trans (xσ39.trans (xσ40.trans (xσ50.trans (xσ52.trans (xσ54.trans (xσ55.trans (xσ56.trans (xσ59.trans xσ60)))))))))))) (by decide)).1) kp192
      have kp208 : Kpt (gI σ61 o 7 = gI σ40 o 7) := Eq.trans (show gI σ61 o 7 = gI σ60 o 7 from (cσ61.O (ko.up (xσ34.trans (xσ35.trans (xσ38.trans (xσ39.trans (xσ40.trans (xσ50.trans (xσ52.trans (xσ54.trans (xσ55.trans (xσ56.trans (xσ59.trans xσ60)))))))))))) (by decide)).1) kp193
      have kp209 : Kpt (gI σ61 o 8 = gI σ o 8) := Eq.trans (show gI σ61 o 8 = gI σ60 o 8 from (cσ61.O (ko.up (xσ34.trans (xσ35.trans (xσ38.trans (xσ39.trans (xσ40.trans (xσ50.trans (xσ52.trans (xσ54.trans (xσ55.trans (xσ56.trans (xσ59.trans xσ60)))))))))))) (by decide)).1) kp194
      have kp210 : Kpt (gI σ61 o 9 = gI σ38 o 9) := Eq.trans (show gI σ61 o 9 = gI σ60 o 9 from (cσ61.O (ko.up (xσ34.trans (xσ35.trans (xσ38.trans (xσ39.trans (xσ40.trans (xσ50.trans (xσ52.trans (xσ54.trans (xσ55.trans (xσ56.trans (xσ59.trans xσ60)))))))))))) (by decide)).1) kp195
      have r5σ61 := I_6_5 iσ61.1 (kth.up (xσ34.trans (xσ35.trans (xσ38.trans (xσ39.trans (xσ40.trans (xσ50.trans (xσ52.trans (xσ54.trans (xσ55.trans (xσ56.trans (xσ59.trans (xσ60.trans xσ61)))))))))))))
      refine i_X6_number iσ61 (kth.up (xσ34.trans (xσ35.trans (xσ38.trans (xσ39.trans (xσ40.trans (xσ50.trans (xσ52.trans (xσ54.trans (xσ55.trans (xσ56.trans (xσ59.trans (xσ60.trans xσ61))))))))))))) (by (first | omega | with_reducible assumption | with_reducible exact rng_toInt _ | with_reducible exact rng_wr _ | (unfold rng; omega) | (unfold rng at *; omega) | assumption)) (by (first | omega | with_reducible assumption | with_reducible exact rng_toInt _ | with_reducible exact rng_wr _ | (unfold rng; omega) | (unfold rng at *; omega) | assumption)) (fun σ62 r63 iσ62 cσ62 pσ62 => ?_) (fun σx LLx Nx nux E ix cx ux px => hX σx LLx Nx nux E ix (fσ61.tr (cx.mo (by decide))) (ux) (by first | exact px | exact ⟨by have := px.1; omega, px.2⟩ | (first | omega | with_reducible assumption | with_reducible exact rng_toInt _ | with_reducible exact rng_wr _ | (unfold rng; omega) | (unfold rng at *; omega) | assumption)))
      intro xσ62
      have fσ62 : Fx [323, 326, 327, 329, 331, 333, 386, 387, 388, 389, 390, 6464] gr σ σ62 := fσ61.tr (cσ62.mo (by decide))
      have oxcσ62 : OX o σ σ62 := oxcσ61.tr (OX.fx cσ62 (by decide) (by decide)) (xσ34.trans (xσ35.trans (xσ38.trans (xσ39.trans (xσ40.trans (xσ50.trans (xσ52.trans (xσ54.trans (xσ55.trans (xσ56.trans (xσ59.trans (xσ60.trans xσ61))))))))))))
      have kp211 : gI σ62 o 13 = gI σ61 o 13 := (cσ62.O (ko.up (xσ34.trans (xσ35.trans (xσ38.trans (xσ39.trans (xσ40.trans (xσ50.trans (xσ52.trans (xσ54.trans (xσ55.trans (xσ56.trans (xσ59.trans (xσ60.trans xσ61))))))))))))) (by decide)).1
      have kp212 : gP σ62 J 0 = gP σ61 J 0 := (cσ62.O (kJ.up (xσ34.trans (xσ35.trans (xσ38.trans (xσ39.trans (xσ40.trans (xσ50.trans (xσ52.trans (xσ54.trans (xσ55.trans (xσ56.trans (xσ59.trans (xσ60.trans xσ61))))))))))))) (by decide)).2.1
      have kp213 : gP σ62 b (gI σ40 o 7).toNat = gP σ61 b (gI σ40 o 7).toNat := (cσ62.A (mb.up (xσ50.trans (xσ52.trans (xσ54.trans (xσ55.trans (xσ56.trans (xσ59.trans (xσ60.trans xσ61)))))))) (by decide)).2.1
      have kp214 : gP σ62 th 0 = gP σ61 th 0 := (cσ62.O (kth.up (xσ34.trans (xσ35.trans (xσ38.trans (xσ39.trans (xσ40.trans (xσ50.trans (xσ52.trans (xσ54.trans (xσ55.trans (xσ56.trans (xσ59.trans (xσ60.trans xσ61))))))))))))) (by decide)).2.1
      have kp215 : gP σ62 th 7 = gP σ61 th 7 := (cσ62.O (kth.up (xσ34.trans (xσ35.trans (xσ38.trans (xσ39.trans (xσ40.trans (xσ50.trans (xσ52.trans (xσ54.trans (xσ55.trans (xσ56.trans (xσ59.trans (xσ60.trans xσ61))))))))))))) (by decide)).2.1
      have kp216 : gP σ62 th 8 = gP σ61 th 8 := (cσ62.O (kth.up (xσ34.trans (xσ35.trans (xσ38.trans (xσ39.trans (xσ40.trans (xσ50.trans (xσ52.trans (xσ54.trans (xσ55.trans (xσ56.trans (xσ59.trans (xσ60.trans xσ61))))))))))))) (by decide)).2.1
      have kp217 : gI σ62 th 2 = gI σ61 th 2 := (cσ62.O (kth.up (xσ34.trans (xσ35.trans (xσ38.trans (xσ39.trans (xσ40.trans (xσ50.trans (xσ52.trans (xσ54.trans (xσ55.trans (xσ56.trans (xσ59.trans (xσ60.trans xσ61))))))))))))) (by decide)).1
      have kp218 : gI σ62 th 3 = gI σ61 th 3 := (cσ62.O (kth.up (xσ34.trans (xσ35.trans (xσ38.trans (xσ39.trans (xσ40.trans (xσ50.trans (xσ52.trans (xσ54.trans (xσ55.trans (xσ56.trans (xσ59.trans (xσ60.trans xσ61))))))))))))) (by decide)).1
      have kp219 : gI σ62 th 5 = gI σ61 th 5 := (cσ62.O (kth.up (xσ34.trans (xσ35.trans (xσ38.trans (xσ39.trans (xσ40.trans (xσ50.trans (xσ52.trans (xσ54.trans (xσ55.trans (xσ56.trans (xσ59.trans (xσ60.trans xσ61))))))))))))) (by decide)).1
      have kp220 : Kpt (gI σ62 J 7 = gI σ J 7) := Eq.trans (show gI σ62 J 7 = gI σ61 J 7 from (cσ62.O (kJ.up (xσ34.trans (xσ35.trans (xσ38.trans (xσ39.trans (xσ40.trans (xσ50.trans (xσ52.trans (xσ54.trans (xσ55.trans (xσ56.trans (xσ59.trans (xσ60.trans xσ61))))))))))))) (by decide)).1) kp202
      have kp221 : Kpt (gI σ62 J 1 = gI σ J 1) := Eq.trans (show gI σ62 J 1 = gI σ61 J 1 from (cσ62.O (kJ.up (xσ34.trans (xσ35.trans (xσ38.trans (xσ39.trans (xσ40.trans (xσ50.trans (xσ52.trans (xσ54.trans (xσ55.trans (xσ56.trans (xσ59.trans (xσ60.trans xσ61))))))))))))) (by decide)).1) kp203
      have kp222 : Kpt (gI σ62 J 2 = gI σ J 2) := Eq.trans (show gI σ62 J 2 = gI σ61 J 2 from (cσ62.O (kJ.up (xσ34.trans (xσ35.trans (xσ38.trans (xσ39.trans (xσ40.trans (xσ50.trans (xσ52.trans (xσ54.trans (xσ55.trans (xσ56.trans (xσ59.trans (xσ60.trans xσ61))))))))))))) (by decide)).1) kp204
      have kp223 : Kpt (gI σ62 o 3 = gI σ52 o 3) := Eq.trans (show gI σ62 o 3 = gI σ61 o 3 from (cσ62.O (ko.up (xσ34.trans (xσ35.trans (xσ38.trans (xσ39.trans (xσ40.trans (xσ50.trans (xσ52.trans (xσ54.trans (xσ55.trans (xσ56.trans (xσ59.trans (xσ60.trans xσ61))))))))))))) (by decide)).1) kp205
      have kp224 : Kpt (gI σ62 o 4 = gI σ o 4) := Eq.trans (show gI σ62 o 4 = gI σ61 o 4 from (cσ62.O (ko.up (xσ34.trans (xσ35.trans (xσ38.trans (xσ39.trans (xσ40.trans (xσ50.trans (xσ52.trans (xσ54.trans (xσ55.trans (xσ56.trans (xσ59.trans (xσ60.trans xσ61))))))))))))) (by decide)).1) kp206
      have kp225 : Kpt (gI σ62 o 6 = gI σ40 o 6) := Eq.trans (show gI σ62 o 6 = gI σ61 o 6 from (cσ62.O (ko.up (xσ34.trans (xσ35.trans (xσ38.trans (xσ39.trans (xσ40.trans (xσ50.trans (xσ52.trans (xσ54.trans (xσ55.trans (xσ56.trans (xσ59.trans (xσ60.trans xσ61))))))))))))) (by decide)).1) kp207
      have kp226 : Kpt (gI σ62 o 7 = gI σ40 o 7) := Eq.trans (show gI σ62 o 7 = gI σ61 o 7 from (cσ62.O (ko.up (xσ34.trans (xσ35.trans (xσ38.trans (xσ39.trans (xσ40.trans (xσ50.trans (xσ52.trans (xσ54.trans (xσ55.trans (xσ56.trans (xσ59.trans (xσ60.trans xσ61))))))))))))) (by decide)).1) kp208
      have kp227 : Kpt (gI σ62 o 8 = gI σ o 8) := Eq.trans (show gI σ62 o 8 = gI σ61 o 8 from (cσ62.O (ko.up (xσ34.trans (xσ35.trans (xσ38.trans (xσ39.trans (xσ40.trans (xσ50.trans (xσ52.trans (xσ54.trans (xσ55.trans (xσ56.trans (xσ59.trans (xσ60.trans xσ61))))))))))))) (by decide)).1) kp209
      have kp228 : Kpt (gI σ62 o 9 = gI σ38 o 9) := Eq.trans (show gI σ62 o 9 = gI σ61 o 9 from (cσ62.O (ko.up (xσ34.trans (xσ35.trans (xσ38.trans (xσ39.trans (xσ40.trans (xσ50.trans (xσ52.trans (xσ54.trans (xσ55.trans (xσ56.trans (xσ59.trans (xσ60.trans xσ61))))))))))))) (by decide)).1) kp210
      refine ⟨o, (kp201.trans (kp186.trans (kp168.trans (kp151.trans (kp137.trans (kp123.trans (kp107.trans (kp92.trans (kp65.trans (kp54.trans (kp39.trans (kp24.trans (kp18.trans h8))))))))))))), fun kk_o_5 => ?_⟩
      intro σ65 eσ65
      have xσ65 : Ext σ62 σ65 := by rw [eσ65]; exact fun _ h => ⟨h, rfl, rfl⟩
      have iσ65 : IV σ65 pl gq ci gr nc ot LL N nu := by rw [eσ65]; exact iσ62.wSp (ko.up (xσ34.trans (xσ35.trans (xσ38.trans (xσ39.trans (xσ40.trans (xσ50.trans (xσ52.trans (xσ54.trans (xσ55.trans (xσ56.trans (xσ59.trans (xσ60.trans (xσ61.trans xσ62)))))))))))))) (fun i hi => by omega) (by decide) (show (1 : Int) ≤ r63 ∧ r63 ≤ 1000 from ⟨by omega, by omega⟩)
      have fσ65 : Fx [323, 326, 327, 329, 331, 333, 386, 387, 388, 389, 390, 6464] gr σ σ65 := fσ62.tr (Sk.fx (by rw [eσ65]; exact Sk.pI (by rw [fcdO (ko.up (xσ34.trans (xσ35.trans (xσ38.trans (xσ39.trans (xσ40.trans (xσ50.trans (xσ52.trans (xσ54.trans (xσ55.trans (xσ56.trans (xσ59.trans (xσ60.trans (xσ61.trans xσ62)))))))))))))) (by decide)]; decide)))
      have oxcσ65 : OX o σ σ65 := oxcσ62.tr (by rw [eσ65]; exact OX.pI (ko.up (xσ34.trans (xσ35.trans (xσ38.trans (xσ39.trans (xσ40.trans (xσ50.trans (xσ52.trans (xσ54.trans (xσ55.trans (xσ56.trans (xσ59.trans (xσ60.trans (xσ61.trans xσ62)))))))))))))) (Or.inr rfl)) (xσ34.trans (xσ35.trans (xσ38.trans (xσ39.trans (xσ40.trans (xσ50.trans (xσ52.trans (xσ54.trans (xσ55.trans (xσ56.trans (xσ59.trans (xσ60.trans (xσ61.trans xσ62)))))))))))))
      have wσ65 : gI σ65 o 11 = r63 := by rw [eσ65]; exact up2_s _ _ _ _
      have kp229 : gI σ65 o 13 = gI σ62 o 13 := by rw [eσ65]; exact up2_n _ _ (fun q => absurd q.2 (by decide))
      have kp230 : gP σ65 J 0 = gP σ62 J 0 := by rw [eσ65]
      have kp231 : gP σ65 b (gI σ40 o 7).toNat = gP σ62 b (gI σ40 o 7).toNat := by rw [eσ65]
      have kp232 : gP σ65 th 0 = gP σ62 th 0 := by rw [eσ65]
      have kp233 : gP σ65 th 7 = gP σ62 th 7 := by rw [eσ65]
      have kp234 : gP σ65 th 8 = gP σ62 th 8 := by rw [eσ65]
      have kp235 : gI σ65 th 2 = gI σ62 th 2 := by rw [eσ65]; exact up2_n _ _ (fun q => absurd q.2 (by decide))
      have kp236 : gI σ65 th 3 = gI σ62 th 3 := by rw [eσ65]; exact up2_n _ _ (fun q => absurd q.2 (by decide))
      have kp237 : gI σ65 th 5 = gI σ62 th 5 := by rw [eσ65]; exact up2_n _ _ (fun q => absurd q.2 (by decide))
      have kp238 : Kpt (gI σ65 J 7 = gI σ J 7) := Eq.trans (show gI σ65 J 7 = gI σ62 J 7 from by rw [eσ65]; exact up2_n _ _ (fun q => absurd q.2 (by decide))) kp220
      have kp239 : Kpt (gI σ65 J 1 = gI σ J 1) := Eq.trans (show gI σ65 J 1 = gI σ62 J 1 from by rw [eσ65]; exact up2_n _ _ (fun q => absurd q.2 (by decide))) kp221
      have kp240 : Kpt (gI σ65 J 2 = gI σ J 2) := Eq.trans (show gI σ65 J 2 = gI σ62 J 2 from by rw [eσ65]; exact up2_n _ _ (fun q => absurd q.2 (by decide))) kp222
      have kp241 : Kpt (gI σ65 o 3 = gI σ52 o 3) := Eq.trans (show gI σ65 o 3 = gI σ62 o 3 from by rw [eσ65]; exact up2_n _ _ (fun q => absurd q.2 (by decide))) kp223
      have kp242 : Kpt (gI σ65 o 4 = gI σ o 4) := Eq.trans (show gI σ65 o 4 = gI σ62 o 4 from by rw [eσ65]; exact up2_n _ _ (fun q => absurd q.2 (by decide))) kp224
      have kp243 : Kpt (gI σ65 o 6 = gI σ40 o 6) := Eq.trans (show gI σ65 o 6 = gI σ62 o 6 from by rw [eσ65]; exact up2_n _ _ (fun q => absurd q.2 (by decide))) kp225
      have kp244 : Kpt (gI σ65 o 7 = gI σ40 o 7) := Eq.trans (show gI σ65 o 7 = gI σ62 o 7 from by rw [eσ65]; exact up2_n _ _ (fun q => absurd q.2 (by decide))) kp226
      have kp245 : Kpt (gI σ65 o 8 = gI σ o 8) := Eq.trans (show gI σ65 o 8 = gI σ62 o 8 from by rw [eσ65]; exact up2_n _ _ (fun q => absurd q.2 (by decide))) kp227
      have kp246 : Kpt (gI σ65 o 9 = gI σ38 o 9) := Eq.trans (show gI σ65 o 9 = gI σ62 o 9 from by rw [eσ65]; exact up2_n _ _ (fun q => absurd q.2 (by decide))) kp228
      refine i_X6_next iσ65 (kth.up (xσ34.trans (xσ35.trans (xσ38.trans (xσ39.trans (xσ40.trans (xσ50.trans (xσ52.trans (xσ54.trans (xσ55.trans (xσ56.trans (xσ59.trans (xσ60.trans (xσ61.trans (xσ62.trans xσ65))))))))))))))) (kp232.trans (kp214.trans (kp199.trans (kp184.trans (kp166.trans (kp149.trans (kp135.trans (kp121.trans (kp105.trans (kp90.trans (kp63.trans (kp52.trans (kp37.trans (kp22.trans (kp16.trans hX0))))))))))))))) (kX.up (xσ34.trans (xσ35.trans (xσ38.trans (xσ39.trans (xσ40.trans (xσ50.trans (xσ52.trans (xσ54.trans (xσ55.trans (xσ56.trans (xσ59.trans (xσ60.trans (xσ61.trans (xσ62.trans xσ65))))))))))))))) (((xσ34.trans (xσ35.trans (xσ38.trans (xσ39.trans (xσ40.trans (xσ50.trans (xσ52.trans (xσ54.trans (xσ55.trans (xσ56.trans (xσ59.trans (xσ60.trans (xσ61.trans (xσ62.trans xσ65)))))))))))))) tx kX.1).2.2.trans gX) (by (first | omega | with_reducible assumption | with_reducible exact rng_toInt _ | with_reducible exact rng_wr _ | (unfold rng; omega) | (unfold rng at *; omega) | assumption)) (by (first | omega | with_reducible assumption | with_reducible exact rng_toInt _ | with_reducible exact rng_wr _ | (unfold rng; omega) | (unfold rng at *; omega) | assumption)) (fun σ66 _ iσ66 cσ66 pσ66 => ?_) (fun σx LLx Nx nux E ix cx ux px => hX σx LLx Nx nux E ix (fσ65.tr (cx.mo (by decide))) (ux) (by first | exact px | exact ⟨by have := px.1; omega, px.2⟩ | (first | omega | with_reducible assumption | with_reducible exact rng_toInt _ | with_reducible exact rng_wr _ | (unfold rng; omega) | (unfold rng at *; omega) | assumption)))
      intro xσ66
      have fσ66 : Fx [323, 326, 327, 329, 331, 333, 386, 387, 388, 389, 390, 6464] gr σ σ66 := fσ65.tr (cσ66.mo (by decide))
      have oxcσ66 : OX o σ σ66 := oxcσ65.tr (OX.fx cσ66 (by decide) (by decide)) (xσ34.trans (xσ35.trans (xσ38.trans (xσ39.trans (xσ40.trans (xσ50.trans (xσ52.trans (xσ54.trans (xσ55.trans (xσ56.trans (xσ59.trans (xσ60.trans (xσ61.trans (xσ62.trans xσ65))))))))))))))
      have kp247 : gI σ66 o 11 = gI σ65 o 11 := (cσ66.O (ko.up (xσ34.trans (xσ35.trans (xσ38.trans (xσ39.trans (xσ40.trans (xσ50.trans (xσ52.trans (xσ54.trans (xσ55.trans (xσ56.trans (xσ59.trans (xσ60.trans (xσ61.trans (xσ62.trans xσ65))))))))))))))) (by decide)).1
      have kp248 : gI σ66 o 13 = gI σ65 o 13 := (cσ66.O (ko.up (xσ34.trans (xσ35.trans (xσ38.trans (xσ39.trans (xσ40.trans (xσ50.trans (xσ52.trans (xσ54.trans (xσ55.trans (xσ56.trans (xσ59.trans (xσ60.trans (xσ61.trans (xσ62.trans xσ65))))))))))))))) (by decide)).1
      have kp249 : gP σ66 J 0 = gP σ65 J 0 := (cσ66.O (kJ.up (xσ34.trans (xσ35.trans (xσ38.trans (xσ39.trans (xσ40.trans (xσ50.trans (xσ52.trans (xσ54.trans (xσ55.trans (xσ56.trans (xσ59.trans (xσ60.trans (xσ61.trans (xσ62.trans xσ65))))))))))))))) (by decide)).2.1
      have kp250 : gP σ66 b (gI σ40 o 7).toNat = gP σ65 b (gI σ40 o 7).toNat := (cσ66.A (mb.up (xσ50.trans (xσ52.trans (xσ54.trans (xσ55.trans (xσ56.trans (xσ59.trans (xσ60.trans (xσ61.trans (xσ62.trans xσ65)))))))))) (by decide)).2.1
      have kp251 : gP σ66 th 0 = gP σ65 th 0 := (cσ66.O (kth.up (xσ34.trans (xσ35.trans (xσ38.trans (xσ39.trans (xσ40.trans (xσ50.trans (xσ52.trans (xσ54.trans (xσ55.trans (xσ56.trans (xσ59.trans (xσ60.trans (xσ61.trans (xσ62.trans xσ65))))))))))))))) (by decide)).2.1
      have kp252 : gP σ66 th 7 = gP σ65 th 7 := (cσ66.O (kth.up (xσ34.trans (xσ35.trans (xσ38.trans (xσ39.trans (xσ40.trans (xσ50.trans (xσ52.trans (xσ54.trans (xσ55.trans (xσ56.trans (xσ59.trans (xσ60.trans (xσ61.trans (xσ62.trans xσ65))))))))))))))) (by decide)).2.1
      have kp253 : gP σ66 th 8 = gP σ65 th 8 := (cσ66.O (kth.up (xσ34.trans (xσ35.trans (xσ38.trans (xσ39.trans (xσ40.trans (xσ50.trans (xσ52.trans (xσ54.trans (xσ55.trans (xσ56.trans (xσ59.trans (xσ60.trans (xσ61.trans (xσ62.trans xσ65))))))))))))))) (by decide)).2.1
      have kp254 : Kpt (gI σ66 J 7 = gI σ J 7) := Eq.trans (show gI σ66 J 7 = gI σ65 J 7 from (cσ66.O (kJ.up (xσ34.trans (xσ35.trans (xσ38.trans (xσ39.trans (xσ40.trans (xσ50.trans (xσ52.trans (xσ54.trans (xσ55.trans (xσ56.trans (xσ59.trans (xσ60.trans (xσ61.trans (xσ62.trans xσ65))))))))))))))) (by decide)).1) kp238
      have kp255 : Kpt (gI σ66 J 1 = gI σ J 1) := Eq.trans (show gI σ66 J 1 = gI σ65 J 1 from (cσ66.O (kJ.up (xσ34.trans (xσ35.trans (xσ38.trans (xσ39.trans (xσ40.trans (xσ50.trans (xσ52.trans (xσ54.trans (xσ55.trans (xσ56.trans (xσ59.trans (xσ60.trans (xσ61.trans (xσ62.trans xσ65))))))))))))))) (by decide)).1) kp239
      have kp256 : Kpt (gI σ66 J 2 = gI σ J 2) := Eq.trans (show gI σ66 J 2 = gI σ65 J 2 from (cσ66.O (kJ.up (xσ34.trans (xσ35.trans (xσ38.trans (xσ39.trans (xσ40.trans (xσ50.trans (xσ52.trans (xσ54.trans (xσ55.trans (xσ56.trans (xσ59.trans (xσ60.trans (xσ61.trans (xσ62.trans xσ65))))))))))))))) (by decide)).1) kp240
      have kp257 : Kpt (gI σ66 o 3 = gI σ52 o 3) := Eq.trans (show gI σ66 o 3 = gI σ65 o 3 from (cσ66.O (ko.up (xσ34.trans (xσ35.trans (xσ38.trans (xσ39.trans (xσ40.trans (xσ50.trans (xσ52.trans (xσ54.trans (xσ55.trans (xσ56.trans (xσ59.trans (xσ60.trans (xσ61.trans (xσ62.trans xσ65))))))))))))))) (by decide)).1) kp241
      have kp258 : Kpt (gI σ66 o 4 = gI σ o 4) := Eq.trans (show gI σ66 o 4 = gI σ65 o 4 from (cσ66.O (ko.up (xσ34.trans (xσ35.trans (xσ38.trans (xσ39.trans (xσ40.trans (xσ50.trans (xσ52.trans (xσ54.trans (xσ55.trans (xσ56.trans (xσ59.trans (xσ60.trans (xσ61.trans (xσ62.trans xσ65))))))))))))))) (by decide)).1) kp242
      have kp259 : Kpt (gI σ66 o 6 = gI σ40 o 6) := Eq.trans (show gI σ66 o 6 = gI σ65 o 6 from (cσ66.O (ko.up (xσ34.trans (xσ35.trans (xσ38.trans (xσ39.trans (xσ40.trans (xσ50.trans (xσ52.trans (xσ54.trans (xσ55.trans (xσ56.trans (xσ59.trans (xσ60.trans (xσ61.trans (xσ62.trans xσ65))))))))))))))) (by decide)).1) kp243
      have kp260 : Kpt (gI σ66 o 7 = gI σ40 o 7) := Eq.trans (show gI σ66 o 7 = gI σ65 o 7 from (cσ66.O (ko.up (xσ34.trans (xσ35.trans (xσ38.trans (xσ39.trans (xσ40.trans (xσ50.trans (xσ52.trans (xσ54.trans (xσ55.trans (xσ56.trans (xσ59.trans (xσ60.trans (xσ61.trans (xσ62.trans xσ65))))))))))))))) (by decide)).1) kp244
      have kp261 : Kpt (gI σ66 o 8 = gI σ o 8) := Eq.trans (show gI σ66 o 8 = gI σ65 o 8 from (cσ66.O (ko.up (xσ34.trans (xσ35.trans (xσ38.trans (xσ39.trans (xσ40.trans (xσ50.trans (xσ52.trans (xσ54.trans (xσ55.trans (xσ56.trans (xσ59.trans (xσ60.trans (xσ61.trans (xσ62.trans xσ65))))))))))))))) (by decide)).1) kp245
      have kp262 : Kpt (gI σ66 o 9 = gI σ38 o 9) := Eq.trans (show gI σ66 o 9 = gI σ65 o 9 from (cσ66.O (ko.up (xσ34.trans (xσ35.trans (xσ38.trans (xσ39.trans (xσ40.trans (xσ50.trans (xσ52.trans (xσ54.trans (xσ55.trans (xσ56.trans (xσ59.trans (xσ60.trans (xσ61.trans (xσ62.trans xσ65))))))))))))))) (by decide)).1) kp246
      have r5σ66 := I_6_5 iσ66.1 (kth.up (xσ34.trans (xσ35.trans (xσ38.trans (xσ39.trans (xσ40.trans (xσ50.trans (xσ52.trans (xσ54.trans (xσ55.trans (xσ56.trans (xσ59.trans (xσ60.trans (xσ61.trans (xσ62.trans (xσ65.trans xσ66))))))))))))))))
      have ho263 : gI σ66 J 7 = gI σ J 7 := kp254
      have ho264 : gI σ66 J 1 = gI σ J 1 := kp255
      have ho265 : gI σ66 J 2 = gI σ J 2 := kp256
      have ho266 : gI σ66 o 3 = gI σ52 o 3 := kp257
      have ho267 : gI σ66 o 4 = gI σ o 4 := kp258
      have ho268 : gI σ66 o 6 = gI σ40 o 6 := kp259
      have ho269 : gI σ66 o 7 = gI σ40 o 7 := kp260
      have ho270 : gI σ66 o 8 = gI σ o 8 := kp261
      have ho271 : gI σ66 o 9 = gI σ38 o 9 := kp262
      exact hQ σ66 () iσ66 fσ66 oxcσ66 (⟨by omega, by omega, ⟨by omega, (fun h => absurd h (by omega)), (fun _ a ka ga => by have w9 := wf a ka (by omega); omega)⟩⟩)
    · rw [if_neg hc85]
      have hc85q := Classical.not_not.mp hc85
      unfold w_X6_topText_70
      refine i_X6_refuse iσ40 (kth.up (xσ34.trans (xσ35.trans (xσ38.trans (xσ39.trans xσ40))))) (by (first | omega | with_reducible assumption | with_reducible exact rng_toInt _ | with_reducible exact rng_wr _ | (unfold rng; omega) | (unfold rng at *; omega) | assumption)) (by (first | omega | with_reducible assumption | with_reducible exact rng_toInt _ | with_reducible exact rng_wr _ | (unfold rng; omega) | (unfold rng at *; omega) | assumption)) (by (first | omega | with_reducible assumption | with_reducible exact rng_toInt _ | with_reducible exact rng_wr _ | (unfold rng; omega) | (unfold rng at *; omega) | assumption)) (fun σ49 _ iσ49 cσ49 pσ49 => ?_) (fun σx LLx Nx nux E ix cx ux px => hX σx LLx Nx nux E ix (fσ40.tr (cx.mo (by decide))) (ux) (by first | exact px | exact ⟨by have := px.1; omega, px.2⟩ | (first | omega | with_reducible assumption | with_reducible exact rng_toInt _ | with_reducible exact rng_wr _ | (unfold rng; omega) | (unfold rng at *; omega) | assumption)))
      intro xσ49
      exact pσ49.elim
  · rw [if_neg hc84]
    unfold w_X6_topText_55
    refine i_X6_refuse iσ40 (kth.up (xσ34.trans (xσ35.trans (xσ38.trans (xσ39.trans xσ40))))) (by (first | omega | with_reducible assumption | with_reducible exact rng_toInt _ | with_reducible exact rng_wr _ | (unfold rng; omega) | (unfold rng at *; omega) | assumption)) (by (first | omega | with_reducible assumption | with_reducible exact rng_toInt _ | with_reducible exact rng_wr _ | (unfold rng; omega) | (unfold rng at *; omega) | assumption)) (by (first | omega | with_reducible assumption | with_reducible exact rng_toInt _ | with_reducible exact rng_wr _ | (unfold rng; omega) | (unfold rng at *; omega) | assumption)) (fun σ47 _ iσ47 cσ47 pσ47 => ?_) (fun σx LLx Nx nux E ix cx ux px => hX σx LLx Nx nux E ix (fσ40.tr (cx.mo (by decide))) (ux) (by first | exact px | exact ⟨by have := px.1; omega, px.2⟩ | (first | omega | with_reducible assumption | with_reducible exact rng_toInt _ | with_reducible exact rng_wr _ | (unfold rng; omega) | (unfold rng at *; omega) | assumption)))
    intro xσ47
    exact pσ47.elim
set_option maxHeartbeats 1000000 in
theorem i_X6_outputText {σ : Sg} {pl : Nat} {gq ci gr nc : Nat → Nat} {ot : Nat → Nat → Int} {LL : Nat → List Nat} {N nu : Nat → Nat} {th : Nat} {tx J o q c : Nat} (iσ : IV σ pl gq ci gr nc ot LL N nu) (kth : kO σ th 6) (hX0 : gP σ th 0 = some tx) (kX : kO σ tx 102) (gX : gn σ tx = 1500) (h7 : gP σ th 7 = some J) (kJ : kO σ J 4) (h8 : gP σ th 8 = some o) (ko : kO σ o 5) (hJq : gq J = q) (hq : q ≠ nc 0 ∧ q ≤ 1) (go : gq o = 16 * q + c) (hc : c < 16) (cJ : gI σ J 1 = (c : Int)) (tf : gI σ th 5 ≤ gI σ th 2 ∧ (gI σ th 3 ≠ 0 → gI σ th 5 + 1 ≤ gI σ th 2)) (h5 : nu 5 < 24000) (lp : gI σ J 7 ≤ 2 * gI σ th 5) (f0 : gI σ o 3 = 0 ∧ gI σ o 4 = 0 ∧ gI σ o 7 = -1 ∧ gI σ o 8 = -1) (h2 : gI σ J 2 ≤ 3) {Q : Sg → Unit → Prop} {X : Sg → String → Prop} (hQ : ∀ (σ' : Sg) (r : Unit), IV σ' pl gq ci gr nc ot LL N nu → Fx [258, 323, 326, 327, 329, 386, 387, 388, 389, 390, 6464, 8384] gr σ σ' → OX o σ σ' → ((gI σ' th 5 ≤ gI σ' th 2 ∧ (gI σ' th 3 ≠ 0 → gI σ' th 5 + 1 ≤ gI σ' th 2)) ∧ gI σ' J 7 ≤ 2 * gI σ' th 5 ∧ OPR σ σ' gq q c o ∧ OUTR σ σ' J o c) → Q σ' r) (hX : ∀ (σ' : Sg) (LL' : Nat → List Nat) (N' nu' : Nat → Nat) (E : String), IV σ' pl gq ci gr nc ot LL' N' nu' → Fx [258, 323, 326, 327, 329, 386, 387, 388, 389, 390, 6464, 8384] gr σ σ' → NCX nu nu' → (LL' = LL ∧ N' = N ∧ E = "java/lang/IllegalArgumentException" ∧ gI σ' th 6 ≠ 0) → X σ' E) : wp_X6_outputText th σ Q X := by
  have fσ : Fx [258, 323, 326, 327, 329, 386, 387, 388, 389, 390, 6464, 8384] gr σ σ := Fx.rf
  have oxσ : OX o σ σ := OX.rf
  have q1 := I_4_1 iσ.1 kJ
  have q2 := I_6_5 iσ.1 kth
  have q3 := I_6_2 iσ.1 kth
  have q4 := iσ.rg th 3; unfold rng at q4
  have q5 := I_4_7 iσ.1 kJ
  have q6 := I_5_3 iσ.1 ko
  have q7 := I_5_4 iσ.1 ko
  have q8 := I_5_7 iσ.1 ko
  have q9 := I_5_8 iσ.1 ko
  have q10 := I_4_2 iσ.1 kJ
  have ncb := iσ.ncb
  have r70 := I_4_7 iσ.1 kJ
  have r71 := I_4_1 iσ.1 kJ
  unfold wp_X6_outputText
  unfold w_X6_outputText_0
  refine i_X6_next iσ kth hX0 kX (((Ext.rfl' _) tx kX.1).2.2.trans gX) (by (first | omega | with_reducible assumption | with_reducible exact rng_toInt _ | with_reducible exact rng_wr _ | (unfold rng; omega) | (unfold rng at *; omega) | assumption)) (by (first | omega | with_reducible assumption | with_reducible exact rng_toInt _ | with_reducible exact rng_wr _ | (unfold rng; omega) | (unfold rng at *; omega) | assumption)) (fun σ16 _ iσ16 cσ16 pσ16 => ?_) (fun σx LLx Nx nux E ix cx ux px => hX σx LLx Nx nux E ix (fσ.tr (cx.mo (by decide))) (ux) (by first | exact px | exact ⟨by have := px.1; omega, px.2⟩ | (first | omega | with_reducible assumption | with_reducible exact rng_toInt _ | with_reducible exact rng_wr _ | (unfold rng; omega) | (unfold rng at *; omega) | assumption)))
  intro xσ16
  have fσ16 : Fx [258, 323, 326, 327, 329, 386, 387, 388, 389, 390, 6464, 8384] gr σ σ16 := fσ.tr (cσ16.mo (by decide))
  have oxcσ16 : OX o σ σ16 := oxσ.tr (OX.fx cσ16 (by decide) (by decide)) (Ext.rfl' _)
  have kp11 : Kpt (gI σ16 J 1 = gI σ J 1) := (cσ16.O kJ (by decide)).1
  have kp12 : Kpt (gI σ16 J 2 = gI σ J 2) := (cσ16.O kJ (by decide)).1
  have kp13 : Kpt (gI σ16 J 7 = gI σ J 7) := (cσ16.O kJ (by decide)).1
  have kp14 : Kpt (gI σ16 o 3 = gI σ o 3) := (cσ16.O ko (by decide)).1
  have kp15 : Kpt (gI σ16 o 4 = gI σ o 4) := (cσ16.O ko (by decide)).1
  have kp16 : Kpt (gI σ16 o 7 = gI σ o 7) := (cσ16.O ko (by decide)).1
  have kp17 : Kpt (gI σ16 o 8 = gI σ o 8) := (cσ16.O ko (by decide)).1
  have kp18 : gP σ16 th 0 = gP σ th 0 := (cσ16.O kth (by decide)).2.1
  have kp19 : gP σ16 th 7 = gP σ th 7 := (cσ16.O kth (by decide)).2.1
  have kp20 : gP σ16 th 8 = gP σ th 8 := (cσ16.O kth (by decide)).2.1
  have kp21 : Kpt (gI σ16 o 6 = gI σ o 6) := (cσ16.O ko (by decide)).1
  have kp22 : Kpt (gI σ16 o 9 = gI σ o 9) := (cσ16.O ko (by decide)).1
  have r5σ16 := I_6_5 iσ16.1 (kth.up xσ16)
  refine i_X6_firstInput iσ16 (kth.up xσ16) (kp19.trans h7) (kJ.up xσ16) (kp20.trans h8) (ko.up xσ16) (by (first | omega | with_reducible assumption | with_reducible exact rng_toInt _ | with_reducible exact rng_wr _ | (unfold rng; omega) | (unfold rng at *; omega) | assumption)) (by (first | omega | with_reducible assumption | with_reducible exact rng_toInt _ | with_reducible exact rng_wr _ | (unfold rng; omega) | (unfold rng at *; omega) | assumption)) (by (first | omega | with_reducible assumption | with_reducible exact rng_toInt _ | with_reducible exact rng_wr _ | (unfold rng; omega) | (unfold rng at *; omega) | assumption)) (by (first | omega | with_reducible assumption | with_reducible exact rng_toInt _ | with_reducible exact rng_wr _ | (unfold rng; omega) | (unfold rng at *; omega) | assumption)) (by (first | omega | with_reducible assumption | with_reducible exact rng_toInt _ | with_reducible exact rng_wr _ | (unfold rng; omega) | (unfold rng at *; omega) | assumption)) (by (first | omega | with_reducible assumption | with_reducible exact rng_toInt _ | with_reducible exact rng_wr _ | (unfold rng; omega) | (unfold rng at *; omega) | assumption)) (fun σ17 _ iσ17 cσ17 oxσ17 pσ17 => ?_) (fun σx LLx Nx nux E ix cx ux px => hX σx LLx Nx nux E ix (fσ16.tr (cx.mo (by decide))) (ux) (by first | exact px | exact ⟨by have := px.1; omega, px.2⟩ | (first | omega | with_reducible assumption | with_reducible exact rng_toInt _ | with_reducible exact rng_wr _ | (unfold rng; omega) | (unfold rng at *; omega) | assumption)))
  intro xσ17
  have fσ17 : Fx [258, 323, 326, 327, 329, 386, 387, 388, 389, 390, 6464, 8384] gr σ σ17 := fσ16.tr (cσ17.mo (by decide))
  have oxcσ17 : OX o σ σ17 := oxcσ16.tr oxσ17 (xσ16)
  have kp23 : gP σ17 th 0 = gP σ16 th 0 := (cσ17.O (kth.up xσ16) (by decide)).2.1
  have kp24 : gP σ17 th 7 = gP σ16 th 7 := (cσ17.O (kth.up xσ16) (by decide)).2.1
  have kp25 : gP σ17 th 8 = gP σ16 th 8 := (cσ17.O (kth.up xσ16) (by decide)).2.1
  have kp26 : gI σ17 th 2 = gI σ16 th 2 := (cσ17.O (kth.up xσ16) (by decide)).1
  have kp27 : gI σ17 th 3 = gI σ16 th 3 := (cσ17.O (kth.up xσ16) (by decide)).1
  have kp28 : gI σ17 th 5 = gI σ16 th 5 := (cσ17.O (kth.up xσ16) (by decide)).1
  have kp29 : Kpt (gI σ17 J 7 = gI σ J 7) := Eq.trans (show gI σ17 J 7 = gI σ16 J 7 from (cσ17.O (kJ.up xσ16) (by decide)).1) kp13
  have kp30 : Kpt (gI σ17 J 1 = gI σ J 1) := Eq.trans (show gI σ17 J 1 = gI σ16 J 1 from (cσ17.O (kJ.up xσ16) (by decide)).1) kp11
  have kp31 : Kpt (gI σ17 J 2 = gI σ J 2) := Eq.trans (show gI σ17 J 2 = gI σ16 J 2 from (cσ17.O (kJ.up xσ16) (by decide)).1) kp12
  have kp32 : Kpt (gI σ17 o 3 = gI σ o 3) := Eq.trans (show gI σ17 o 3 = gI σ16 o 3 from (cσ17.O (ko.up xσ16) (by decide)).1) kp14
  have kp33 : Kpt (gI σ17 o 4 = gI σ o 4) := Eq.trans (show gI σ17 o 4 = gI σ16 o 4 from (cσ17.O (ko.up xσ16) (by decide)).1) kp15
  have kp34 : Kpt (gI σ17 o 8 = gI σ o 8) := Eq.trans (show gI σ17 o 8 = gI σ16 o 8 from (cσ17.O (ko.up xσ16) (by decide)).1) kp17
  have kp35 : Kpt (gI σ17 o 9 = gI σ o 9) := Eq.trans (show gI σ17 o 9 = gI σ16 o 9 from (cσ17.O (ko.up xσ16) (by decide)).1) kp22
  refine i_X6_next iσ17 (kth.up (xσ16.trans xσ17)) (kp23.trans (kp18.trans hX0)) (kX.up (xσ16.trans xσ17)) (((xσ16.trans xσ17) tx kX.1).2.2.trans gX) (by (first | omega | with_reducible assumption | with_reducible exact rng_toInt _ | with_reducible exact rng_wr _ | (unfold rng; omega) | (unfold rng at *; omega) | assumption)) (by (first | omega | with_reducible assumption | with_reducible exact rng_toInt _ | with_reducible exact rng_wr _ | (unfold rng; omega) | (unfold rng at *; omega) | assumption)) (fun σ18 _ iσ18 cσ18 pσ18 => ?_) (fun σx LLx Nx nux E ix cx ux px => hX σx LLx Nx nux E ix (fσ17.tr (cx.mo (by decide))) (ux) (by first | exact px | exact ⟨by have := px.1; omega, px.2⟩ | (first | omega | with_reducible assumption | with_reducible exact rng_toInt _ | with_reducible exact rng_wr _ | (unfold rng; omega) | (unfold rng at *; omega) | assumption)))
  intro xσ18
  have fσ18 : Fx [258, 323, 326, 327, 329, 386, 387, 388, 389, 390, 6464, 8384] gr σ σ18 := fσ17.tr (cσ18.mo (by decide))
  have oxcσ18 : OX o σ σ18 := oxcσ17.tr (OX.fx cσ18 (by decide) (by decide)) (xσ16.trans xσ17)
  have kp36 : gP σ18 th 0 = gP σ17 th 0 := (cσ18.O (kth.up (xσ16.trans xσ17)) (by decide)).2.1
  have kp37 : gP σ18 th 7 = gP σ17 th 7 := (cσ18.O (kth.up (xσ16.trans xσ17)) (by decide)).2.1
  have kp38 : gP σ18 th 8 = gP σ17 th 8 := (cσ18.O (kth.up (xσ16.trans xσ17)) (by decide)).2.1
  have kp39 : Kpt (gI σ18 J 7 = gI σ J 7) := Eq.trans (show gI σ18 J 7 = gI σ17 J 7 from (cσ18.O (kJ.up (xσ16.trans xσ17)) (by decide)).1) kp29
  have kp40 : Kpt (gI σ18 J 1 = gI σ J 1) := Eq.trans (show gI σ18 J 1 = gI σ17 J 1 from (cσ18.O (kJ.up (xσ16.trans xσ17)) (by decide)).1) kp30
  have kp41 : Kpt (gI σ18 J 2 = gI σ J 2) := Eq.trans (show gI σ18 J 2 = gI σ17 J 2 from (cσ18.O (kJ.up (xσ16.trans xσ17)) (by decide)).1) kp31
  have kp42 : Kpt (gI σ18 o 3 = gI σ o 3) := Eq.trans (show gI σ18 o 3 = gI σ17 o 3 from (cσ18.O (ko.up (xσ16.trans xσ17)) (by decide)).1) kp32
  have kp43 : Kpt (gI σ18 o 4 = gI σ o 4) := Eq.trans (show gI σ18 o 4 = gI σ17 o 4 from (cσ18.O (ko.up (xσ16.trans xσ17)) (by decide)).1) kp33
  have kp44 : Kpt (gI σ18 o 6 = gI σ17 o 6) := (cσ18.O (ko.up (xσ16.trans xσ17)) (by decide)).1
  have kp45 : Kpt (gI σ18 o 7 = gI σ17 o 7) := (cσ18.O (ko.up (xσ16.trans xσ17)) (by decide)).1
  have kp46 : Kpt (gI σ18 o 8 = gI σ o 8) := Eq.trans (show gI σ18 o 8 = gI σ17 o 8 from (cσ18.O (ko.up (xσ16.trans xσ17)) (by decide)).1) kp34
  have kp47 : Kpt (gI σ18 o 9 = gI σ o 9) := Eq.trans (show gI σ18 o 9 = gI σ17 o 9 from (cσ18.O (ko.up (xσ16.trans xσ17)) (by decide)).1) kp35
  have r5σ18 := I_6_5 iσ18.1 (kth.up (xσ16.trans (xσ17.trans xσ18)))
  refine ⟨J, (kp37.trans (kp24.trans (kp19.trans h7))), fun kk_J => ?_⟩
  refine ⟨o, (kp38.trans (kp25.trans (kp20.trans h8))), fun kk_o => ?_⟩
  obtain ⟨b, eb, fb⟩ := P_4_0 iσ18.1 (kJ.up (xσ16.trans (xσ17.trans xσ18)))
  have mb : kO σ18 b 115 := iσ18.1.kd (kJ.up (xσ16.trans (xσ17.trans xσ18))) rfl eb rfl
  refine ⟨b, eb, fun kk_b => ?_⟩
  have ho48 : gI σ18 o 7 = gI σ17 o 7 := kp45
  have q49 := I_5_7 iσ18.1 (ko.up (xσ16.trans (xσ17.trans xσ18)))
  refine ⟨⟨by (first | omega | with_reducible assumption | with_reducible exact rng_toInt _ | with_reducible exact rng_wr _ | (unfold rng; omega) | (unfold rng at *; omega) | assumption), by (first | omega | with_reducible assumption | with_reducible exact rng_toInt _ | with_reducible exact rng_wr _ | (unfold rng; omega) | (unfold rng at *; omega) | assumption)⟩, ?_⟩
  obtain ⟨b_1, eb_1⟩ := P_115 iσ18.1 mb (k := (gI σ18 o 7).toNat) (by (first | omega | with_reducible assumption | with_reducible exact rng_toInt _ | with_reducible exact rng_wr _ | (unfold rng; omega) | (unfold rng at *; omega) | assumption))
  have fb_1 := T_115 iσ18.1 mb eb_1
  have mb_1 : kO σ18 b_1 5 := iσ18.1.kd mb rfl eb_1 rfl
  refine i_X5_addColumnsOf iσ18 (ko.up (xσ16.trans (xσ17.trans xσ18))) eb_1 mb_1 (by (first | omega | with_reducible assumption | with_reducible exact rng_toInt _ | with_reducible exact rng_wr _ | (unfold rng; omega) | (unfold rng at *; omega) | assumption)) (by (first | omega | with_reducible assumption | with_reducible exact rng_toInt _ | with_reducible exact rng_wr _ | (unfold rng; omega) | (unfold rng at *; omega) | assumption)) (by (first | omega | with_reducible assumption | with_reducible exact rng_toInt _ | with_reducible exact rng_wr _ | (unfold rng; omega) | (unfold rng at *; omega) | assumption)) (fun e => absurd (congrArg gq e) (by omega)) (fun σ22 _ iσ22 cσ22 oxσ22 pσ22 => ?_)
  intro xσ22
  have fσ22 : Fx [258, 323, 326, 327, 329, 386, 387, 388, 389, 390, 6464, 8384] gr σ σ22 := fσ18.tr (cσ22.mo (by decide))
  have oxcσ22 : OX o σ σ22 := oxcσ18.tr oxσ22 (xσ16.trans (xσ17.trans xσ18))
  have kp50 : Kpt (gI σ22 o 7 = gI σ17 o 7) := Eq.trans (show gI σ22 o 7 = gI σ18 o 7 from (cσ22.O (ko.up (xσ16.trans (xσ17.trans xσ18))) (by decide)).1) kp45
  have kp51 : gP σ22 J 0 = gP σ18 J 0 := (cσ22.O (kJ.up (xσ16.trans (xσ17.trans xσ18))) (by decide)).2.1
  have kp52 : gP σ22 b (gI σ18 o 7).toNat = gP σ18 b (gI σ18 o 7).toNat := (cσ22.A mb (by decide)).2.1
  have kp53 : gP σ22 th 0 = gP σ18 th 0 := (cσ22.O (kth.up (xσ16.trans (xσ17.trans xσ18))) (by decide)).2.1
  have kp54 : gP σ22 th 7 = gP σ18 th 7 := (cσ22.O (kth.up (xσ16.trans (xσ17.trans xσ18))) (by decide)).2.1
  have kp55 : gP σ22 th 8 = gP σ18 th 8 := (cσ22.O (kth.up (xσ16.trans (xσ17.trans xσ18))) (by decide)).2.1
  have kp56 : gI σ22 th 2 = gI σ18 th 2 := (cσ22.O (kth.up (xσ16.trans (xσ17.trans xσ18))) (by decide)).1
  have kp57 : gI σ22 th 3 = gI σ18 th 3 := (cσ22.O (kth.up (xσ16.trans (xσ17.trans xσ18))) (by decide)).1
  have kp58 : gI σ22 th 5 = gI σ18 th 5 := (cσ22.O (kth.up (xσ16.trans (xσ17.trans xσ18))) (by decide)).1
  have kp59 : Kpt (gI σ22 J 7 = gI σ J 7) := Eq.trans (show gI σ22 J 7 = gI σ18 J 7 from (cσ22.O (kJ.up (xσ16.trans (xσ17.trans xσ18))) (by decide)).1) kp39
  have kp60 : Kpt (gI σ22 J 1 = gI σ J 1) := Eq.trans (show gI σ22 J 1 = gI σ18 J 1 from (cσ22.O (kJ.up (xσ16.trans (xσ17.trans xσ18))) (by decide)).1) kp40
  have kp61 : Kpt (gI σ22 J 2 = gI σ J 2) := Eq.trans (show gI σ22 J 2 = gI σ18 J 2 from (cσ22.O (kJ.up (xσ16.trans (xσ17.trans xσ18))) (by decide)).1) kp41
  have kp62 : Kpt (gI σ22 o 4 = gI σ o 4) := Eq.trans (show gI σ22 o 4 = gI σ18 o 4 from (cσ22.O (ko.up (xσ16.trans (xσ17.trans xσ18))) (by decide)).1) kp43
  have kp63 : Kpt (gI σ22 o 6 = gI σ17 o 6) := Eq.trans (show gI σ22 o 6 = gI σ18 o 6 from (cσ22.O (ko.up (xσ16.trans (xσ17.trans xσ18))) (by decide)).1) kp44
  have kp64 : Kpt (gI σ22 o 8 = gI σ o 8) := Eq.trans (show gI σ22 o 8 = gI σ18 o 8 from (cσ22.O (ko.up (xσ16.trans (xσ17.trans xσ18))) (by decide)).1) kp46
  have kp65 : Kpt (gI σ22 o 9 = gI σ o 9) := Eq.trans (show gI σ22 o 9 = gI σ18 o 9 from (cσ22.O (ko.up (xσ16.trans (xσ17.trans xσ18))) (by decide)).1) kp47
  have fz : Fx [323, 326, 327, 386, 387, 388, 389, 390, 6464] gr σ σ22 := (((cσ16.mo (by decide)).tr (cσ17.mo (by decide))).tr (cσ18.mo (by decide))).tr (cσ22.mo (by decide))
  have r72 := I_4_2 iσ.1 kJ
  refine ⟨J, (kp54.trans (kp37.trans (kp24.trans (kp19.trans h7)))), fun kk_J_1 => ?_⟩
  refine ⟨o, (kp55.trans (kp38.trans (kp25.trans (kp20.trans h8)))), fun kk_o_1 => ?_⟩
  intro σ25 eσ25
  have xσ25 : Ext σ22 σ25 := by rw [eσ25]; exact fun _ h => ⟨h, rfl, rfl⟩
  have ho66 : gI σ22 J 2 = gI σ J 2 := kp61
  have q67 := I_4_2 iσ22.1 (kJ.up (xσ16.trans (xσ17.trans (xσ18.trans xσ22))))
  have iσ25 : IV σ25 pl gq ci gr nc ot LL N nu := by rw [eσ25]; exact iσ22.wSp (ko.up (xσ16.trans (xσ17.trans (xσ18.trans xσ22)))) (fun i hi => by omega) (by decide) (show (0 : Int) ≤ (gI σ22 J 2) ∧ (gI σ22 J 2) ≤ 9 from ⟨by omega, by omega⟩)
  have fσ25 : Fx [258, 323, 326, 327, 329, 386, 387, 388, 389, 390, 6464, 8384] gr σ σ25 := fσ22.tr (Sk.fx (by rw [eσ25]; exact Sk.pI (by rw [fcdO (ko.up (xσ16.trans (xσ17.trans (xσ18.trans xσ22)))) (by decide)]; decide)))
  have oxcσ25 : OX o σ σ25 := oxcσ22.tr (by rw [eσ25]; exact OX.pI (ko.up (xσ16.trans (xσ17.trans (xσ18.trans xσ22)))) (Or.inr rfl)) (xσ16.trans (xσ17.trans (xσ18.trans xσ22)))
  have wσ25 : gI σ25 o 9 = (gI σ22 J 2) := by rw [eσ25]; exact up2_s _ _ _ _
  have kp68 : Kpt (gI σ25 J 2 = gI σ J 2) := Eq.trans (show gI σ25 J 2 = gI σ22 J 2 from by rw [eσ25]; exact up2_n _ _ (fun q => absurd q.2 (by decide))) kp61
  have kp69 : gP σ25 J 0 = gP σ22 J 0 := by rw [eσ25]
  have kp70 : gP σ25 b (gI σ18 o 7).toNat = gP σ22 b (gI σ18 o 7).toNat := by rw [eσ25]
  have kp71 : gP σ25 th 0 = gP σ22 th 0 := by rw [eσ25]
  have kp72 : gP σ25 th 7 = gP σ22 th 7 := by rw [eσ25]
  have kp73 : gP σ25 th 8 = gP σ22 th 8 := by rw [eσ25]
  have kp74 : gI σ25 th 2 = gI σ22 th 2 := by rw [eσ25]; exact up2_n _ _ (fun q => absurd q.2 (by decide))
  have kp75 : gI σ25 th 3 = gI σ22 th 3 := by rw [eσ25]; exact up2_n _ _ (fun q => absurd q.2 (by decide))
  have kp76 : gI σ25 th 5 = gI σ22 th 5 := by rw [eσ25]; exact up2_n _ _ (fun q => absurd q.2 (by decide))
  have kp77 : Kpt (gI σ25 J 7 = gI σ J 7) := Eq.trans (show gI σ25 J 7 = gI σ22 J 7 from by rw [eσ25]; exact up2_n _ _ (fun q => absurd q.2 (by decide))) kp59
  have kp78 : Kpt (gI σ25 J 1 = gI σ J 1) := Eq.trans (show gI σ25 J 1 = gI σ22 J 1 from by rw [eσ25]; exact up2_n _ _ (fun q => absurd q.2 (by decide))) kp60
  have kp79 : Kpt (gI σ25 o 3 = gI σ22 o 3) := by rw [eσ25]; exact up2_n _ _ (fun q => absurd q.2 (by decide))
  have kp80 : Kpt (gI σ25 o 4 = gI σ o 4) := Eq.trans (show gI σ25 o 4 = gI σ22 o 4 from by rw [eσ25]; exact up2_n _ _ (fun q => absurd q.2 (by decide))) kp62
  have kp81 : Kpt (gI σ25 o 6 = gI σ17 o 6) := Eq.trans (show gI σ25 o 6 = gI σ22 o 6 from by rw [eσ25]; exact up2_n _ _ (fun q => absurd q.2 (by decide))) kp63
  have kp82 : Kpt (gI σ25 o 7 = gI σ17 o 7) := Eq.trans (show gI σ25 o 7 = gI σ22 o 7 from by rw [eσ25]; exact up2_n _ _ (fun q => absurd q.2 (by decide))) kp50
  have kp83 : Kpt (gI σ25 o 8 = gI σ o 8) := Eq.trans (show gI σ25 o 8 = gI σ22 o 8 from by rw [eσ25]; exact up2_n _ _ (fun q => absurd q.2 (by decide))) kp64
  refine ⟨J, (kp72.trans (kp54.trans (kp37.trans (kp24.trans (kp19.trans h7))))), fun kk_J_2 => ?_⟩
  obtain ⟨b_2, eb_2, fb_2⟩ := P_4_3 iσ25.1 (kJ.up (xσ16.trans (xσ17.trans (xσ18.trans (xσ22.trans xσ25)))))
  have mb_2 : kO σ25 b_2 100 := iσ25.1.kd (kJ.up (xσ16.trans (xσ17.trans (xσ18.trans (xσ22.trans xσ25))))) rfl eb_2 rfl
  refine ⟨b_2, eb_2, fun kk_b_2 => ?_⟩
  have ho84 : gI σ25 J 2 = gI σ J 2 := kp68
  have q85 := I_4_2 iσ25.1 (kJ.up (xσ16.trans (xσ17.trans (xσ18.trans (xσ22.trans xσ25)))))
  refine ⟨⟨by (first | omega | with_reducible assumption | with_reducible exact rng_toInt _ | with_reducible exact rng_wr _ | (unfold rng; omega) | (unfold rng at *; omega) | assumption), by (first | omega | with_reducible assumption | with_reducible exact rng_toInt _ | with_reducible exact rng_wr _ | (unfold rng; omega) | (unfold rng at *; omega) | assumption)⟩, ?_⟩
  intro σ28 eσ28
  have xσ28 : Ext σ25 σ28 := by rw [eσ28]; exact fun _ h => ⟨h, rfl, rfl⟩
  have ho86 : gI σ25 J 1 = gI σ J 1 := kp78
  have q87 := I_4_1 iσ25.1 (kJ.up (xσ16.trans (xσ17.trans (xσ18.trans (xσ22.trans xσ25)))))
  have iσ28 : IV σ28 pl gq ci gr nc ot LL N nu := by rw [eσ28]; exact iσ25.wSo (kJ.up (xσ16.trans (xσ17.trans (xσ18.trans (xσ22.trans xσ25))))) (by omega) eb_2 ⟨by omega, by omega⟩
  have fσ28 : Fx [258, 323, 326, 327, 329, 386, 387, 388, 389, 390, 6464, 8384] gr σ σ28 := fσ25.tr (Sk.fx (by rw [eσ28]; exact Sk.pI (by rw [fcdI mb_2, show gr b_2 = 1 from by (first | omega | with_reducible assumption | with_reducible exact rng_toInt _ | with_reducible exact rng_wr _ | (unfold rng; omega) | (unfold rng at *; omega) | assumption)]; decide)))
  have oxcσ28 : OX o σ σ28 := oxcσ25.tr (by rw [eσ28]; exact OX.pI mb_2 (Or.inl (by decide))) (xσ16.trans (xσ17.trans (xσ18.trans (xσ22.trans xσ25))))
  have wσ28 : gI σ28 b_2 (gI σ25 J 2).toNat = (gI σ25 J 1) := by rw [eσ28]; exact up2_s _ _ _ _
  have kp88 : Kpt (gI σ28 J 1 = gI σ J 1) := Eq.trans (show gI σ28 J 1 = gI σ25 J 1 from by rw [eσ28]; exact up2_n _ _ (fun q => absurd q.1 (kO.ne (kJ.up (xσ16.trans (xσ17.trans (xσ18.trans (xσ22.trans xσ25))))) mb_2 (by decide)))) kp78
  have kp89 : Kpt (gI σ28 J 2 = gI σ J 2) := Eq.trans (show gI σ28 J 2 = gI σ25 J 2 from by rw [eσ28]; exact up2_n _ _ (fun q => absurd q.1 (kO.ne (kJ.up (xσ16.trans (xσ17.trans (xσ18.trans (xσ22.trans xσ25))))) mb_2 (by decide)))) kp68
  have kp90 : Kpt (gI σ28 o 9 = gI σ25 o 9) := by rw [eσ28]; exact up2_n _ _ (fun q => absurd q.1 (kO.ne (ko.up (xσ16.trans (xσ17.trans (xσ18.trans (xσ22.trans xσ25))))) mb_2 (by decide)))
  have kp91 : gP σ28 J 0 = gP σ25 J 0 := by rw [eσ28]
  have kp92 : gP σ28 J 3 = gP σ25 J 3 := by rw [eσ28]
  have kp93 : gP σ28 b (gI σ18 o 7).toNat = gP σ25 b (gI σ18 o 7).toNat := by rw [eσ28]
  have kp94 : gP σ28 th 0 = gP σ25 th 0 := by rw [eσ28]
  have kp95 : gP σ28 th 7 = gP σ25 th 7 := by rw [eσ28]
  have kp96 : gP σ28 th 8 = gP σ25 th 8 := by rw [eσ28]
  have kp97 : gI σ28 th 2 = gI σ25 th 2 := by rw [eσ28]; exact up2_n _ _ (fun q => absurd q.1 (kO.ne (kth.up (xσ16.trans (xσ17.trans (xσ18.trans (xσ22.trans xσ25))))) mb_2 (by decide)))
  have kp98 : gI σ28 th 3 = gI σ25 th 3 := by rw [eσ28]; exact up2_n _ _ (fun q => absurd q.1 (kO.ne (kth.up (xσ16.trans (xσ17.trans (xσ18.trans (xσ22.trans xσ25))))) mb_2 (by decide)))
  have kp99 : gI σ28 th 5 = gI σ25 th 5 := by rw [eσ28]; exact up2_n _ _ (fun q => absurd q.1 (kO.ne (kth.up (xσ16.trans (xσ17.trans (xσ18.trans (xσ22.trans xσ25))))) mb_2 (by decide)))
  have kp100 : Kpt (gI σ28 J 7 = gI σ J 7) := Eq.trans (show gI σ28 J 7 = gI σ25 J 7 from by rw [eσ28]; exact up2_n _ _ (fun q => absurd q.1 (kO.ne (kJ.up (xσ16.trans (xσ17.trans (xσ18.trans (xσ22.trans xσ25))))) mb_2 (by decide)))) kp77
  have kp101 : Kpt (gI σ28 o 3 = gI σ22 o 3) := Eq.trans (show gI σ28 o 3 = gI σ25 o 3 from by rw [eσ28]; exact up2_n _ _ (fun q => absurd q.1 (kO.ne (ko.up (xσ16.trans (xσ17.trans (xσ18.trans (xσ22.trans xσ25))))) mb_2 (by decide)))) kp79
  have kp102 : Kpt (gI σ28 o 4 = gI σ o 4) := Eq.trans (show gI σ28 o 4 = gI σ25 o 4 from by rw [eσ28]; exact up2_n _ _ (fun q => absurd q.1 (kO.ne (ko.up (xσ16.trans (xσ17.trans (xσ18.trans (xσ22.trans xσ25))))) mb_2 (by decide)))) kp80
  have kp103 : Kpt (gI σ28 o 6 = gI σ17 o 6) := Eq.trans (show gI σ28 o 6 = gI σ25 o 6 from by rw [eσ28]; exact up2_n _ _ (fun q => absurd q.1 (kO.ne (ko.up (xσ16.trans (xσ17.trans (xσ18.trans (xσ22.trans xσ25))))) mb_2 (by decide)))) kp81
  have kp104 : Kpt (gI σ28 o 7 = gI σ17 o 7) := Eq.trans (show gI σ28 o 7 = gI σ25 o 7 from by rw [eσ28]; exact up2_n _ _ (fun q => absurd q.1 (kO.ne (ko.up (xσ16.trans (xσ17.trans (xσ18.trans (xσ22.trans xσ25))))) mb_2 (by decide)))) kp82
  have kp105 : Kpt (gI σ28 o 8 = gI σ o 8) := Eq.trans (show gI σ28 o 8 = gI σ25 o 8 from by rw [eσ28]; exact up2_n _ _ (fun q => absurd q.1 (kO.ne (ko.up (xσ16.trans (xσ17.trans (xσ18.trans (xσ22.trans xσ25))))) mb_2 (by decide)))) kp83
  refine ⟨J, (kp95.trans (kp72.trans (kp54.trans (kp37.trans (kp24.trans (kp19.trans h7)))))), fun kk_J_3 => ?_⟩
  have ho106 : gI σ28 J 2 = gI σ J 2 := kp89
  have q107 := I_4_2 iσ28.1 (kJ.up (xσ16.trans (xσ17.trans (xσ18.trans (xσ22.trans (xσ25.trans xσ28))))))
  refine ⟨by (first | omega | with_reducible assumption | with_reducible exact rng_toInt _ | with_reducible exact rng_wr _ | (unfold rng; omega) | (unfold rng at *; omega) | assumption), ?_⟩
  intro σ30 eσ30
  have xσ30 : Ext σ28 σ30 := by rw [eσ30]; exact fun _ h => ⟨h, rfl, rfl⟩
  have iσ30 : IV σ30 pl gq ci gr nc ot LL N nu := by rw [eσ30]; exact iσ28.wSj (kJ.up (xσ16.trans (xσ17.trans (xσ18.trans (xσ22.trans (xσ25.trans xσ28)))))) (by omega) (Or.inr rfl) (show (0 : Int) ≤ (gI σ28 J 2 + 1) ∧ (gI σ28 J 2 + 1) ≤ 4 from ⟨by omega, by omega⟩)
  have fσ30 : Fx [258, 323, 326, 327, 329, 386, 387, 388, 389, 390, 6464, 8384] gr σ σ30 := fσ28.tr (Sk.fx (by rw [eσ30]; exact Sk.pI (by rw [fcdO (kJ.up (xσ16.trans (xσ17.trans (xσ18.trans (xσ22.trans (xσ25.trans xσ28)))))) (by decide)]; decide)))
  have oxcσ30 : OX o σ σ30 := oxcσ28.tr (by rw [eσ30]; exact OX.pI (kJ.up (xσ16.trans (xσ17.trans (xσ18.trans (xσ22.trans (xσ25.trans xσ28)))))) (Or.inl (by decide))) (xσ16.trans (xσ17.trans (xσ18.trans (xσ22.trans (xσ25.trans xσ28)))))
  have wσ30 : gI σ30 J 2 = (gI σ28 J 2 + 1) := by rw [eσ30]; exact up2_s _ _ _ _
  have kp108 : gP σ30 J 0 = gP σ28 J 0 := by rw [eσ30]
  have kp109 : gP σ30 J 3 = gP σ28 J 3 := by rw [eσ30]
  have kp110 : gP σ30 b (gI σ18 o 7).toNat = gP σ28 b (gI σ18 o 7).toNat := by rw [eσ30]
  have kp111 : gP σ30 th 0 = gP σ28 th 0 := by rw [eσ30]
  have kp112 : gP σ30 th 7 = gP σ28 th 7 := by rw [eσ30]
  have kp113 : gP σ30 th 8 = gP σ28 th 8 := by rw [eσ30]
  have kp114 : gI σ30 th 2 = gI σ28 th 2 := by rw [eσ30]; exact up2_n _ _ (fun q => absurd q.1 (kO.ne (kth.up (xσ16.trans (xσ17.trans (xσ18.trans (xσ22.trans (xσ25.trans xσ28)))))) (kJ.up (xσ16.trans (xσ17.trans (xσ18.trans (xσ22.trans (xσ25.trans xσ28)))))) (by decide)))
  have kp115 : gI σ30 th 3 = gI σ28 th 3 := by rw [eσ30]; exact up2_n _ _ (fun q => absurd q.2 (by decide))
  have kp116 : gI σ30 th 5 = gI σ28 th 5 := by rw [eσ30]; exact up2_n _ _ (fun q => absurd q.2 (by decide))
  have kp117 : Kpt (gI σ30 J 7 = gI σ J 7) := Eq.trans (show gI σ30 J 7 = gI σ28 J 7 from by rw [eσ30]; exact up2_n _ _ (fun q => absurd q.2 (by decide))) kp100
  have kp118 : Kpt (gI σ30 J 1 = gI σ J 1) := Eq.trans (show gI σ30 J 1 = gI σ28 J 1 from by rw [eσ30]; exact up2_n _ _ (fun q => absurd q.2 (by decide))) kp88
  have kp119 : Kpt (gI σ30 o 3 = gI σ22 o 3) := Eq.trans (show gI σ30 o 3 = gI σ28 o 3 from by rw [eσ30]; exact up2_n _ _ (fun q => absurd q.2 (by decide))) kp101
  have kp120 : Kpt (gI σ30 o 4 = gI σ o 4) := Eq.trans (show gI σ30 o 4 = gI σ28 o 4 from by rw [eσ30]; exact up2_n _ _ (fun q => absurd q.2 (by decide))) kp102
  have kp121 : Kpt (gI σ30 o 6 = gI σ17 o 6) := Eq.trans (show gI σ30 o 6 = gI σ28 o 6 from by rw [eσ30]; exact up2_n _ _ (fun q => absurd q.2 (by decide))) kp103
  have kp122 : Kpt (gI σ30 o 7 = gI σ17 o 7) := Eq.trans (show gI σ30 o 7 = gI σ28 o 7 from by rw [eσ30]; exact up2_n _ _ (fun q => absurd q.2 (by decide))) kp104
  have kp123 : Kpt (gI σ30 o 8 = gI σ o 8) := Eq.trans (show gI σ30 o 8 = gI σ28 o 8 from by rw [eσ30]; exact up2_n _ _ (fun q => absurd q.2 (by decide))) kp105
  have kp124 : Kpt (gI σ30 o 9 = gI σ25 o 9) := Eq.trans (show gI σ30 o 9 = gI σ28 o 9 from by rw [eσ30]; exact up2_n _ _ (fun q => absurd q.2 (by decide))) kp90
  have ho125 : gI σ30 J 7 = gI σ J 7 := kp117
  have ho126 : gI σ30 J 1 = gI σ J 1 := kp118
  have ho127 : gI σ30 o 3 = gI σ22 o 3 := kp119
  have ho128 : gI σ30 o 4 = gI σ o 4 := kp120
  have ho129 : gI σ30 o 6 = gI σ17 o 6 := kp121
  have ho130 : gI σ30 o 7 = gI σ17 o 7 := kp122
  have ho131 : gI σ30 o 8 = gI σ o 8 := kp123
  have ho132 : gI σ30 o 9 = gI σ25 o 9 := kp124
  exact hQ σ30 () iσ30 fσ30 oxcσ30 (⟨by omega, by omega, ⟨by omega, (fun h => absurd h (by omega)), (fun h => absurd h (by omega))⟩, OUTR.mk iσ kJ ko fz (by decide) eσ25 (by have g9 := (kp109.trans (kp92.trans eb_2)); rw [eσ30, eσ28] at g9; exact g9) eσ28 eσ30 cJ r72.1 (by omega)⟩)

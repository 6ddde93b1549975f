set_option maxHeartbeats 4000000 in
theorem i_X6_mapText {σ : Sg} {pl : Nat} {gq ci gr nc : Nat → Nat} {ot : Nat → Nat → Int} {LL : Nat → List Nat} {N nu : Nat → Nat} {th : Nat} {tx J o q c : Nat} (iσ : IV σ pl gq ci gr nc ot LL N nu) (kth : kO σ th 6) (hX0 : gP σ th 0 = some tx) (kX : kO σ tx 102) (gX : gn σ tx = 1500) (h7 : gP σ th 7 = some J) (kJ : kO σ J 4) (h8 : gP σ th 8 = some o) (ko : kO σ o 5) (hJq : gq J = q) (hq : q ≠ nc 0 ∧ q ≤ 1) (go : gq o = 16 * q + c) (hc : c < 16) (cJ : gI σ J 1 = (c : Int)) (tf : gI σ th 5 ≤ gI σ th 2 ∧ (gI σ th 3 ≠ 0 → gI σ th 5 + 1 ≤ gI σ th 2)) (h5 : nu 5 < 24000) (lp : gI σ J 7 ≤ 2 * gI σ th 5) (f0 : gI σ o 3 = 0 ∧ gI σ o 4 = 0 ∧ gI σ o 7 = -1 ∧ gI σ o 8 = -1) {Q : Sg → Unit → Prop} {X : Sg → String → Prop} (hQ : ∀ (σ' : Sg) (nu' : Nat → Nat) (r : Unit), IV σ' pl gq ci gr nc ot LL N nu' → Fx [261, 262, 263, 323, 324, 326, 327, 386, 387, 388, 389, 390, 6464, 8320] gr σ σ' → NC nu nu' → OX o σ σ' → ((gI σ' th 5 ≤ gI σ' th 2 ∧ (gI σ' th 3 ≠ 0 → gI σ' th 5 + 1 ≤ gI σ' th 2)) ∧ gI σ' J 7 ≤ 2 * gI σ' th 5 ∧ OPR σ σ' gq q c o) → Q σ' r) (hX : ∀ (σ' : Sg) (LL' : Nat → List Nat) (N' nu' : Nat → Nat) (E : String), IV σ' pl gq ci gr nc ot LL' N' nu' → Fx [261, 262, 263, 323, 324, 326, 327, 386, 387, 388, 389, 390, 6464, 8320] gr σ σ' → NCX nu nu' → (LL' = LL ∧ N' = N ∧ E = "java/lang/IllegalArgumentException" ∧ gI σ' th 6 ≠ 0) → X σ' E) : wp_X6_mapText th σ Q X := by
  have fσ : Fx [261, 262, 263, 323, 324, 326, 327, 386, 387, 388, 389, 390, 6464, 8320] gr σ σ := Fx.rf
  have oxσ : OX o σ σ := OX.rf
  have q1 := I_4_1 iσ.1 kJ
  have q2 := I_6_5 iσ.1 kth
  have q3 := I_6_2 iσ.1 kth
  have q4 := iσ.rg th 3; unfold rng at q4
  have q5 := I_4_7 iσ.1 kJ
  have q6 := I_5_3 iσ.1 ko
  have q7 := I_5_4 iσ.1 ko
  have q8 := I_5_7 iσ.1 ko
  have q9 := I_5_8 iσ.1 ko
  have ncb := iσ.ncb
  have r70 := I_4_7 iσ.1 kJ
  have r71 := I_4_1 iσ.1 kJ
  unfold wp_X6_mapText
  unfold w_X6_mapText_0
  refine i_X6_next iσ kth hX0 kX (((Ext.rfl' _) tx kX.1).2.2.trans gX) (by (first | omega | with_reducible assumption | with_reducible exact rng_toInt _ | with_reducible exact rng_wr _ | (unfold rng; omega) | (unfold rng at *; omega) | assumption)) (by (first | omega | with_reducible assumption | with_reducible exact rng_toInt _ | with_reducible exact rng_wr _ | (unfold rng; omega) | (unfold rng at *; omega) | assumption)) (fun σ15 _ iσ15 cσ15 pσ15 => ?_) (fun σx LLx Nx nux E ix cx ux px => hX σx LLx Nx nux E ix (fσ.tr (cx.mo (by decide))) (ux) (by first | exact px | exact ⟨by have := px.1; omega, px.2⟩ | (first | omega | with_reducible assumption | with_reducible exact rng_toInt _ | with_reducible exact rng_wr _ | (unfold rng; omega) | (unfold rng at *; omega) | assumption)))
  intro xσ15
  have fσ15 : Fx [261, 262, 263, 323, 324, 326, 327, 386, 387, 388, 389, 390, 6464, 8320] gr σ σ15 := fσ.tr (cσ15.mo (by decide))
  have oxcσ15 : OX o σ σ15 := oxσ.tr (OX.fx cσ15 (by decide) (by decide)) (Ext.rfl' _)
  have kp10 : Kpt (gI σ15 J 1 = gI σ J 1) := (show gI σ15 J 1 = gI σ J 1 from (cσ15.O kJ (by decide)).1)
  have kp11 : Kpt (gI σ15 J 7 = gI σ J 7) := (show gI σ15 J 7 = gI σ J 7 from (cσ15.O kJ (by decide)).1)
  have kp12 : Kpt (gI σ15 o 3 = gI σ o 3) := (show gI σ15 o 3 = gI σ o 3 from (cσ15.O ko (by decide)).1)
  have kp13 : Kpt (gI σ15 o 4 = gI σ o 4) := (show gI σ15 o 4 = gI σ o 4 from (cσ15.O ko (by decide)).1)
  have kp14 : Kpt (gI σ15 o 7 = gI σ o 7) := (show gI σ15 o 7 = gI σ o 7 from (cσ15.O ko (by decide)).1)
  have kp15 : Kpt (gI σ15 o 8 = gI σ o 8) := (show gI σ15 o 8 = gI σ o 8 from (cσ15.O ko (by decide)).1)
  have kp16 : gP σ15 th 0 = gP σ th 0 := (cσ15.O kth (by decide)).2.1
  have kp17 : gP σ15 th 7 = gP σ th 7 := (cσ15.O kth (by decide)).2.1
  have kp18 : gP σ15 th 8 = gP σ th 8 := (cσ15.O kth (by decide)).2.1
  have kp19 : Kpt (gI σ15 J 2 = gI σ J 2) := (show gI σ15 J 2 = gI σ J 2 from (cσ15.O kJ (by decide)).1)
  have kp20 : Kpt (gI σ15 o 6 = gI σ o 6) := (show gI σ15 o 6 = gI σ o 6 from (cσ15.O ko (by decide)).1)
  have kp21 : Kpt (gI σ15 o 9 = gI σ o 9) := (show gI σ15 o 9 = gI σ o 9 from (cσ15.O ko (by decide)).1)
  have r5σ15 := I_6_5 iσ15.1 (kth.up xσ15)
  have ho22 : gI σ15 J 7 = gI σ J 7 := kp11
  have cp23 : (gI σ15 th 5 ≤ gI σ15 th 2 ∧ (gI σ15 th 3 ≠ 0 → gI σ15 th 5 + 1 ≤ gI σ15 th 2)) ∧ gI σ15 J 7 ≤ 2 * gI σ15 th 5 ∧ 0 ≤ gI σ15 th 5 := by omega
  clear pσ15 q3 q2
  have ho24 : gI σ15 J 1 = gI σ J 1 := kp10
  refine i_X6_firstInput iσ15 (kth.up xσ15) (kp17.trans h7) (kJ.up xσ15) (kp18.trans h8) (ko.up xσ15) (by (first | omega | with_reducible assumption | with_reducible exact rng_toInt _ | with_reducible exact rng_wr _ | (unfold rng; omega) | (unfold rng at *; omega) | assumption)) (by (first | omega | with_reducible assumption | with_reducible exact rng_toInt _ | with_reducible exact rng_wr _ | (unfold rng; omega) | (unfold rng at *; omega) | assumption)) (by (first | omega | with_reducible assumption | with_reducible exact rng_toInt _ | with_reducible exact rng_wr _ | (unfold rng; omega) | (unfold rng at *; omega) | assumption)) (by (first | omega | with_reducible assumption | with_reducible exact rng_toInt _ | with_reducible exact rng_wr _ | (unfold rng; omega) | (unfold rng at *; omega) | assumption)) (by (first | omega | with_reducible assumption | with_reducible exact rng_toInt _ | with_reducible exact rng_wr _ | (unfold rng; omega) | (unfold rng at *; omega) | assumption)) (by (first | omega | with_reducible assumption | with_reducible exact rng_toInt _ | with_reducible exact rng_wr _ | (unfold rng; omega) | (unfold rng at *; omega) | assumption)) (fun σ16 _ iσ16 cσ16 oxσ16 pσ16 => ?_) (fun σx LLx Nx nux E ix cx ux px => hX σx LLx Nx nux E ix (fσ15.tr (cx.mo (by decide))) (ux) (by first | exact px | exact ⟨by have := px.1; omega, px.2⟩ | (first | omega | with_reducible assumption | with_reducible exact rng_toInt _ | with_reducible exact rng_wr _ | (unfold rng; omega) | (unfold rng at *; omega) | assumption)))
  intro xσ16
  have fσ16 : Fx [261, 262, 263, 323, 324, 326, 327, 386, 387, 388, 389, 390, 6464, 8320] gr σ σ16 := fσ15.tr (cσ16.mo (by decide))
  have oxcσ16 : OX o σ σ16 := oxcσ15.tr oxσ16 (xσ15)
  have kp25 : gP σ16 th 0 = gP σ15 th 0 := (cσ16.O (kth.up xσ15) (by decide)).2.1
  have kp26 : gP σ16 th 7 = gP σ15 th 7 := (cσ16.O (kth.up xσ15) (by decide)).2.1
  have kp27 : gP σ16 th 8 = gP σ15 th 8 := (cσ16.O (kth.up xσ15) (by decide)).2.1
  have kp28 : gI σ16 th 2 = gI σ15 th 2 := (cσ16.O (kth.up xσ15) (by decide)).1
  have kp29 : gI σ16 th 3 = gI σ15 th 3 := (cσ16.O (kth.up xσ15) (by decide)).1
  have kp30 : gI σ16 th 5 = gI σ15 th 5 := (cσ16.O (kth.up xσ15) (by decide)).1
  have kp31 : Kpt (gI σ16 J 7 = gI σ J 7) := Eq.trans (show gI σ16 J 7 = gI σ15 J 7 from (cσ16.O (kJ.up xσ15) (by decide)).1) kp11
  have kp32 : Kpt (gI σ16 J 1 = gI σ J 1) := Eq.trans (show gI σ16 J 1 = gI σ15 J 1 from (cσ16.O (kJ.up xσ15) (by decide)).1) kp10
  have kp33 : Kpt (gI σ16 J 2 = gI σ J 2) := Eq.trans (show gI σ16 J 2 = gI σ15 J 2 from (cσ16.O (kJ.up xσ15) (by decide)).1) kp19
  have kp34 : Kpt (gI σ16 o 3 = gI σ o 3) := Eq.trans (show gI σ16 o 3 = gI σ15 o 3 from (cσ16.O (ko.up xσ15) (by decide)).1) kp12
  have kp35 : Kpt (gI σ16 o 4 = gI σ o 4) := Eq.trans (show gI σ16 o 4 = gI σ15 o 4 from (cσ16.O (ko.up xσ15) (by decide)).1) kp13
  have kp36 : Kpt (gI σ16 o 8 = gI σ o 8) := Eq.trans (show gI σ16 o 8 = gI σ15 o 8 from (cσ16.O (ko.up xσ15) (by decide)).1) kp15
  have kp37 : Kpt (gI σ16 o 9 = gI σ o 9) := Eq.trans (show gI σ16 o 9 = gI σ15 o 9 from (cσ16.O (ko.up xσ15) (by decide)).1) kp21
  refine i_X6_next iσ16 (kth.up (xσ15.trans xσ16)) (kp25.trans (kp16.trans hX0)) (kX.up (xσ15.trans xσ16)) (((xσ15.trans xσ16) tx kX.1).2.2.trans gX) (by (first | omega | with_reducible assumption | with_reducible exact rng_toInt _ | with_reducible exact rng_wr _ | (unfold rng; omega) | (unfold rng at *; omega) | assumption)) (by (first | omega | with_reducible assumption | with_reducible exact rng_toInt _ | with_reducible exact rng_wr _ | (unfold rng; omega) | (unfold rng at *; omega) | assumption)) (fun σ17 _ iσ17 cσ17 pσ17 => ?_) (fun σx LLx Nx nux E ix cx ux px => hX σx LLx Nx nux E ix (fσ16.tr (cx.mo (by decide))) (ux) (by first | exact px | exact ⟨by have := px.1; omega, px.2⟩ | (first | omega | with_reducible assumption | with_reducible exact rng_toInt _ | with_reducible exact rng_wr _ | (unfold rng; omega) | (unfold rng at *; omega) | assumption)))
  intro xσ17
  have fσ17 : Fx [261, 262, 263, 323, 324, 326, 327, 386, 387, 388, 389, 390, 6464, 8320] gr σ σ17 := fσ16.tr (cσ17.mo (by decide))
  have oxcσ17 : OX o σ σ17 := oxcσ16.tr (OX.fx cσ17 (by decide) (by decide)) (xσ15.trans xσ16)
  have kp38 : gP σ17 th 0 = gP σ16 th 0 := (cσ17.O (kth.up (xσ15.trans xσ16)) (by decide)).2.1
  have kp39 : gP σ17 th 7 = gP σ16 th 7 := (cσ17.O (kth.up (xσ15.trans xσ16)) (by decide)).2.1
  have kp40 : gP σ17 th 8 = gP σ16 th 8 := (cσ17.O (kth.up (xσ15.trans xσ16)) (by decide)).2.1
  have kp41 : Kpt (gI σ17 J 7 = gI σ J 7) := Eq.trans (show gI σ17 J 7 = gI σ16 J 7 from (cσ17.O (kJ.up (xσ15.trans xσ16)) (by decide)).1) kp31
  have kp42 : Kpt (gI σ17 J 1 = gI σ J 1) := Eq.trans (show gI σ17 J 1 = gI σ16 J 1 from (cσ17.O (kJ.up (xσ15.trans xσ16)) (by decide)).1) kp32
  have kp43 : Kpt (gI σ17 J 2 = gI σ J 2) := Eq.trans (show gI σ17 J 2 = gI σ16 J 2 from (cσ17.O (kJ.up (xσ15.trans xσ16)) (by decide)).1) kp33
  have kp44 : Kpt (gI σ17 o 3 = gI σ o 3) := Eq.trans (show gI σ17 o 3 = gI σ16 o 3 from (cσ17.O (ko.up (xσ15.trans xσ16)) (by decide)).1) kp34
  have kp45 : Kpt (gI σ17 o 4 = gI σ o 4) := Eq.trans (show gI σ17 o 4 = gI σ16 o 4 from (cσ17.O (ko.up (xσ15.trans xσ16)) (by decide)).1) kp35
  have kp46 : Kpt (gI σ17 o 6 = gI σ16 o 6) := (show gI σ17 o 6 = gI σ16 o 6 from (cσ17.O (ko.up (xσ15.trans xσ16)) (by decide)).1)
  have kp47 : Kpt (gI σ17 o 7 = gI σ16 o 7) := (show gI σ17 o 7 = gI σ16 o 7 from (cσ17.O (ko.up (xσ15.trans xσ16)) (by decide)).1)
  have kp48 : Kpt (gI σ17 o 8 = gI σ o 8) := Eq.trans (show gI σ17 o 8 = gI σ16 o 8 from (cσ17.O (ko.up (xσ15.trans xσ16)) (by decide)).1) kp36
  have kp49 : Kpt (gI σ17 o 9 = gI σ o 9) := Eq.trans (show gI σ17 o 9 = gI σ16 o 9 from (cσ17.O (ko.up (xσ15.trans xσ16)) (by decide)).1) kp37
  have r5σ17 := I_6_5 iσ17.1 (kth.up (xσ15.trans (xσ16.trans xσ17)))
  have ho50 : gI σ17 J 7 = gI σ J 7 := kp41
  have cp51 : (gI σ17 th 5 ≤ gI σ17 th 2 ∧ (gI σ17 th 3 ≠ 0 → gI σ17 th 5 + 1 ≤ gI σ17 th 2)) ∧ gI σ17 J 7 ≤ 2 * gI σ17 th 5 ∧ 0 ≤ gI σ17 th 5 := by omega
  clear pσ17 kp30 kp29 kp28 cp23
  refine i_X6_wantSign iσ17 (kth.up (xσ15.trans (xσ16.trans xσ17))) (kp38.trans (kp25.trans (kp16.trans hX0))) (kX.up (xσ15.trans (xσ16.trans xσ17))) (((xσ15.trans (xσ16.trans xσ17)) tx kX.1).2.2.trans gX) (by (first | omega | with_reducible assumption | with_reducible exact rng_toInt _ | with_reducible exact rng_wr _ | (unfold rng; omega) | (unfold rng at *; omega) | assumption)) (by (first | omega | with_reducible assumption | with_reducible exact rng_toInt _ | with_reducible exact rng_wr _ | (unfold rng; omega) | (unfold rng at *; omega) | assumption)) (fun σ18 _ iσ18 cσ18 pσ18 => ?_) (fun σx LLx Nx nux E ix cx ux px => hX σx LLx Nx nux E ix (fσ17.tr (cx.mo (by decide))) (ux) (by first | exact px | exact ⟨by have := px.1; omega, px.2⟩ | (first | omega | with_reducible assumption | with_reducible exact rng_toInt _ | with_reducible exact rng_wr _ | (unfold rng; omega) | (unfold rng at *; omega) | assumption)))
  intro xσ18
  have fσ18 : Fx [261, 262, 263, 323, 324, 326, 327, 386, 387, 388, 389, 390, 6464, 8320] gr σ σ18 := fσ17.tr (cσ18.mo (by decide))
  have oxcσ18 : OX o σ σ18 := oxcσ17.tr (OX.fx cσ18 (by decide) (by decide)) (xσ15.trans (xσ16.trans xσ17))
  have kp52 : gP σ18 th 0 = gP σ17 th 0 := (cσ18.O (kth.up (xσ15.trans (xσ16.trans xσ17))) (by decide)).2.1
  have kp53 : gP σ18 th 7 = gP σ17 th 7 := (cσ18.O (kth.up (xσ15.trans (xσ16.trans xσ17))) (by decide)).2.1
  have kp54 : gP σ18 th 8 = gP σ17 th 8 := (cσ18.O (kth.up (xσ15.trans (xσ16.trans xσ17))) (by decide)).2.1
  have kp55 : Kpt (gI σ18 J 7 = gI σ J 7) := Eq.trans (show gI σ18 J 7 = gI σ17 J 7 from (cσ18.O (kJ.up (xσ15.trans (xσ16.trans xσ17))) (by decide)).1) kp41
  have kp56 : Kpt (gI σ18 J 1 = gI σ J 1) := Eq.trans (show gI σ18 J 1 = gI σ17 J 1 from (cσ18.O (kJ.up (xσ15.trans (xσ16.trans xσ17))) (by decide)).1) kp42
  have kp57 : Kpt (gI σ18 J 2 = gI σ J 2) := Eq.trans (show gI σ18 J 2 = gI σ17 J 2 from (cσ18.O (kJ.up (xσ15.trans (xσ16.trans xσ17))) (by decide)).1) kp43
  have kp58 : Kpt (gI σ18 o 3 = gI σ o 3) := Eq.trans (show gI σ18 o 3 = gI σ17 o 3 from (cσ18.O (ko.up (xσ15.trans (xσ16.trans xσ17))) (by decide)).1) kp44
  have kp59 : Kpt (gI σ18 o 4 = gI σ o 4) := Eq.trans (show gI σ18 o 4 = gI σ17 o 4 from (cσ18.O (ko.up (xσ15.trans (xσ16.trans xσ17))) (by decide)).1) kp45
  have kp60 : Kpt (gI σ18 o 6 = gI σ16 o 6) := Eq.trans (show gI σ18 o 6 = gI σ17 o 6 from (cσ18.O (ko.up (xσ15.trans (xσ16.trans xσ17))) (by decide)).1) kp46
  have kp61 : Kpt (gI σ18 o 7 = gI σ16 o 7) := Eq.trans (show gI σ18 o 7 = gI σ17 o 7 from (cσ18.O (ko.up (xσ15.trans (xσ16.trans xσ17))) (by decide)).1) kp47
  have kp62 : Kpt (gI σ18 o 8 = gI σ o 8) := Eq.trans (show gI σ18 o 8 = gI σ17 o 8 from (cσ18.O (ko.up (xσ15.trans (xσ16.trans xσ17))) (by decide)).1) kp48
  have kp63 : Kpt (gI σ18 o 9 = gI σ o 9) := Eq.trans (show gI σ18 o 9 = gI σ17 o 9 from (cσ18.O (ko.up (xσ15.trans (xσ16.trans xσ17))) (by decide)).1) kp49
  have r5σ18 := I_6_5 iσ18.1 (kth.up (xσ15.trans (xσ16.trans (xσ17.trans xσ18))))
  have ho64 : gI σ18 J 7 = gI σ J 7 := kp55
  have cp65 : (gI σ18 th 5 ≤ gI σ18 th 2 ∧ (gI σ18 th 3 ≠ 0 → gI σ18 th 5 + 1 ≤ gI σ18 th 2)) ∧ gI σ18 J 7 ≤ 2 * gI σ18 th 5 ∧ 0 ≤ gI σ18 th 5 := by omega
  clear pσ18 cp51
  have Lp21 : ∀ (fu21 : Nat) (τ21 : Sg) (nut21 : Nat → Nat) (v1 : Int), IV τ21 pl gq ci gr nc ot LL N nut21 → Fx [261, 262, 263, 323, 324, 326, 327, 386, 387, 388, 389, 390, 6464, 8320] gr σ τ21 → Ext σ18 τ21 → NC nu nut21 → OX o σ τ21 → ((0 ≤ v1 ∧ v1 ≤ 9) ∧ (gI τ21 th 5 ≤ gI τ21 th 2 ∧ (gI τ21 th 3 ≠ 0 → gI τ21 th 5 + 1 ≤ gI τ21 th 2)) ∧ gI τ21 J 7 ≤ 2 * gI τ21 th 5 ∧ gI τ21 o 6 = 2 ∧ 0 ≤ gI τ21 o 7 ∧ gI τ21 o 7 < (c : Int) ∧ gI τ21 o 8 = -1 ∧ gI τ21 o 3 = gI τ21 o 4) → ((9 - v1).toNat) < fu21 → wl_X6_mapText_21 th Q X fu21 τ21 v1 := by
    intro fu21
    induction fu21 with
    | zero => intro _ _ _ _ _ _ _ _ _ h9; omega
    | succ fu21 ih21 =>
      intro τ21 nut21 v1 iτ21 fτ21 xτ21 nu_τ21 oxcτ21 hi21 hm21
      have uτ21_5 := nu_τ21 5 (by decide) (by decide)
      unfold wl_X6_mapText_21
      have kp66 : Kpt (gI τ21 J 1 = gI σ J 1) := (show gI τ21 J 1 = gI σ J 1 from (fτ21.O kJ (by decide)).1)
      have kp67 : Kpt (gI τ21 o 8 = gI σ o 8) := (show gI τ21 o 8 = gI σ o 8 from (fτ21.O ko (by decide)).1)
      have kp68 : gP τ21 th 0 = gP σ th 0 := (fτ21.O kth (by decide)).2.1
      have kp69 : gP τ21 th 7 = gP σ th 7 := (fτ21.O kth (by decide)).2.1
      have kp70 : gP τ21 th 8 = gP σ th 8 := (fτ21.O kth (by decide)).2.1
      have kp71 : Kpt (gI τ21 J 2 = gI σ J 2) := (show gI τ21 J 2 = gI σ J 2 from (fτ21.O kJ (by decide)).1)
      have kp72 : Kpt (gI τ21 o 9 = gI σ o 9) := (show gI τ21 o 9 = gI σ o 9 from (fτ21.O ko (by decide)).1)
      have kp73 : Kpt (gI τ21 J 1 = gI σ J 1) := Eq.trans (show gI τ21 J 1 = gI σ18 J 1 from (fτ21.O kJ (by decide)).1.trans (fσ18.O kJ (by decide)).1.symm) kp56
      have kp74 : Kpt (gI τ21 J 2 = gI σ J 2) := Eq.trans (show gI τ21 J 2 = gI σ18 J 2 from (fτ21.O kJ (by decide)).1.trans (fσ18.O kJ (by decide)).1.symm) kp57
      have kp75 : Kpt (gI τ21 o 8 = gI σ o 8) := Eq.trans (show gI τ21 o 8 = gI σ18 o 8 from (fτ21.O ko (by decide)).1.trans (fσ18.O ko (by decide)).1.symm) kp62
      have kp76 : Kpt (gI τ21 o 9 = gI σ o 9) := Eq.trans (show gI τ21 o 9 = gI σ18 o 9 from (fτ21.O ko (by decide)).1.trans (fσ18.O ko (by decide)).1.symm) kp63
      have ho77 : gI τ21 J 1 = gI σ J 1 := kp73
      have ho78 : gI τ21 o 8 = gI σ o 8 := kp75
      have ho79 : gI τ21 J 2 = gI σ J 2 := kp74
      have ho80 : gI τ21 o 9 = gI σ o 9 := kp76
      have r3τ21 := I_5_3 iτ21.1 (ko.up (xσ15.trans (xσ16.trans (xσ17.trans (xσ18.trans xτ21)))))
      unfold w_X6_mapText_21
      by_cases hc81 : v1 > 8
      · rw [if_pos hc81]
        unfold w_X6_mapText_78
        exact hQ τ21 nut21 () iτ21 fτ21 (nu_τ21) oxcτ21 (⟨by omega, by omega, ⟨by omega, (fun h => absurd h (by omega)), (fun h => absurd h (by omega))⟩⟩)
      · rw [if_neg hc81]
        unfold w_X6_mapText_27
        refine i_X6_newColumn iτ21 (kth.up (xσ15.trans (xσ16.trans (xσ17.trans (xσ18.trans xτ21))))) (kp68.trans hX0) (kX.up (xσ15.trans (xσ16.trans (xσ17.trans (xσ18.trans xτ21))))) (((xσ15.trans (xσ16.trans (xσ17.trans (xσ18.trans xτ21)))) tx kX.1).2.2.trans gX) (kp70.trans h8) (ko.up (xσ15.trans (xσ16.trans (xσ17.trans (xσ18.trans xτ21))))) (by (first | omega | with_reducible assumption | with_reducible exact rng_toInt _ | with_reducible exact rng_wr _ | (unfold rng; omega) | (unfold rng at *; omega) | assumption)) (by (first | omega | with_reducible assumption | with_reducible exact rng_toInt _ | with_reducible exact rng_wr _ | (unfold rng; omega) | (unfold rng at *; omega) | assumption)) (by (first | omega | with_reducible assumption | with_reducible exact rng_toInt _ | with_reducible exact rng_wr _ | (unfold rng; omega) | (unfold rng at *; omega) | assumption)) (by (first | omega | with_reducible assumption | with_reducible exact rng_toInt _ | with_reducible exact rng_wr _ | (unfold rng; omega) | (unfold rng at *; omega) | assumption)) (by (first | omega | with_reducible assumption | with_reducible exact rng_toInt _ | with_reducible exact rng_wr _ | (unfold rng; omega) | (unfold rng at *; omega) | assumption)) (fun σ19 _ iσ19 cσ19 oxσ19 pσ19 => ?_) (fun σx LLx Nx nux E ix cx ux px => hX σx LLx Nx nux E ix (fτ21.tr (cx.mo (by decide))) (nu_τ21.x ux) (by first | exact px | exact ⟨by have := px.1; omega, px.2⟩ | (first | omega | with_reducible assumption | with_reducible exact rng_toInt _ | with_reducible exact rng_wr _ | (unfold rng; omega) | (unfold rng at *; omega) | assumption)))
        intro xσ19
        have fσ19 : Fx [261, 262, 263, 323, 324, 326, 327, 386, 387, 388, 389, 390, 6464, 8320] gr σ σ19 := fτ21.tr (cσ19.mo (by decide))
        have oxcσ19 : OX o σ σ19 := oxcτ21.tr oxσ19 (xσ15.trans (xσ16.trans (xσ17.trans (xσ18.trans xτ21))))
        have kp82 : gP σ19 th 0 = gP τ21 th 0 := (cσ19.O (kth.up (xσ15.trans (xσ16.trans (xσ17.trans (xσ18.trans xτ21))))) (by decide)).2.1
        have kp83 : gP σ19 th 7 = gP τ21 th 7 := (cσ19.O (kth.up (xσ15.trans (xσ16.trans (xσ17.trans (xσ18.trans xτ21))))) (by decide)).2.1
        have kp84 : gP σ19 th 8 = gP τ21 th 8 := (cσ19.O (kth.up (xσ15.trans (xσ16.trans (xσ17.trans (xσ18.trans xτ21))))) (by decide)).2.1
        have kp85 : Kpt (gI σ19 J 7 = gI τ21 J 7) := (show gI σ19 J 7 = gI τ21 J 7 from (cσ19.O (kJ.up (xσ15.trans (xσ16.trans (xσ17.trans (xσ18.trans xτ21))))) (by decide)).1)
        have kp86 : Kpt (gI σ19 J 1 = gI σ J 1) := Eq.trans (show gI σ19 J 1 = gI τ21 J 1 from (cσ19.O (kJ.up (xσ15.trans (xσ16.trans (xσ17.trans (xσ18.trans xτ21))))) (by decide)).1) kp73
        have kp87 : Kpt (gI σ19 J 2 = gI σ J 2) := Eq.trans (show gI σ19 J 2 = gI τ21 J 2 from (cσ19.O (kJ.up (xσ15.trans (xσ16.trans (xσ17.trans (xσ18.trans xτ21))))) (by decide)).1) kp74
        have kp88 : Kpt (gI σ19 o 4 = gI τ21 o 4) := (show gI σ19 o 4 = gI τ21 o 4 from (cσ19.O (ko.up (xσ15.trans (xσ16.trans (xσ17.trans (xσ18.trans xτ21))))) (by decide)).1)
        have kp89 : Kpt (gI σ19 o 6 = gI τ21 o 6) := (show gI σ19 o 6 = gI τ21 o 6 from (cσ19.O (ko.up (xσ15.trans (xσ16.trans (xσ17.trans (xσ18.trans xτ21))))) (by decide)).1)
        have kp90 : Kpt (gI σ19 o 7 = gI τ21 o 7) := (show gI σ19 o 7 = gI τ21 o 7 from (cσ19.O (ko.up (xσ15.trans (xσ16.trans (xσ17.trans (xσ18.trans xτ21))))) (by decide)).1)
        have kp91 : Kpt (gI σ19 o 8 = gI σ o 8) := Eq.trans (show gI σ19 o 8 = gI τ21 o 8 from (cσ19.O (ko.up (xσ15.trans (xσ16.trans (xσ17.trans (xσ18.trans xτ21))))) (by decide)).1) kp75
        have kp92 : Kpt (gI σ19 o 9 = gI σ o 9) := Eq.trans (show gI σ19 o 9 = gI τ21 o 9 from (cσ19.O (ko.up (xσ15.trans (xσ16.trans (xσ17.trans (xσ18.trans xτ21))))) (by decide)).1) kp76
        have r5σ19 := I_6_5 iσ19.1 (kth.up (xσ15.trans (xσ16.trans (xσ17.trans (xσ18.trans (xτ21.trans xσ19))))))
        refine i_X6_wantSign iσ19 (kth.up (xσ15.trans (xσ16.trans (xσ17.trans (xσ18.trans (xτ21.trans xσ19)))))) (kp82.trans (kp68.trans hX0)) (kX.up (xσ15.trans (xσ16.trans (xσ17.trans (xσ18.trans (xτ21.trans xσ19)))))) (((xσ15.trans (xσ16.trans (xσ17.trans (xσ18.trans (xτ21.trans xσ19))))) tx kX.1).2.2.trans gX) (by (first | omega | with_reducible assumption | with_reducible exact rng_toInt _ | with_reducible exact rng_wr _ | (unfold rng; omega) | (unfold rng at *; omega) | assumption)) (by (first | omega | with_reducible assumption | with_reducible exact rng_toInt _ | with_reducible exact rng_wr _ | (unfold rng; omega) | (unfold rng at *; omega) | assumption)) (fun σ20 _ iσ20 cσ20 pσ20 => ?_) (fun σx LLx Nx nux E ix cx ux px => hX σx LLx Nx nux E ix (fσ19.tr (cx.mo (by decide))) (nu_τ21.x ux) (by first | exact px | exact ⟨by have := px.1; omega, px.2⟩ | (first | omega | with_reducible assumption | with_reducible exact rng_toInt _ | with_reducible exact rng_wr _ | (unfold rng; omega) | (unfold rng at *; omega) | assumption)))
        intro xσ20
        have fσ20 : Fx [261, 262, 263, 323, 324, 326, 327, 386, 387, 388, 389, 390, 6464, 8320] gr σ σ20 := fσ19.tr (cσ20.mo (by decide))
        have oxcσ20 : OX o σ σ20 := oxcσ19.tr (OX.fx cσ20 (by decide) (by decide)) (xσ15.trans (xσ16.trans (xσ17.trans (xσ18.trans (xτ21.trans xσ19)))))
        have kp93 : gP σ20 th 0 = gP σ19 th 0 := (cσ20.O (kth.up (xσ15.trans (xσ16.trans (xσ17.trans (xσ18.trans (xτ21.trans xσ19)))))) (by decide)).2.1
        have kp94 : gP σ20 th 7 = gP σ19 th 7 := (cσ20.O (kth.up (xσ15.trans (xσ16.trans (xσ17.trans (xσ18.trans (xτ21.trans xσ19)))))) (by decide)).2.1
        have kp95 : gP σ20 th 8 = gP σ19 th 8 := (cσ20.O (kth.up (xσ15.trans (xσ16.trans (xσ17.trans (xσ18.trans (xτ21.trans xσ19)))))) (by decide)).2.1
        have kp96 : Kpt (gI σ20 J 7 = gI τ21 J 7) := Eq.trans (show gI σ20 J 7 = gI σ19 J 7 from (cσ20.O (kJ.up (xσ15.trans (xσ16.trans (xσ17.trans (xσ18.trans (xτ21.trans xσ19)))))) (by decide)).1) kp85
        have kp97 : Kpt (gI σ20 J 1 = gI σ J 1) := Eq.trans (show gI σ20 J 1 = gI σ19 J 1 from (cσ20.O (kJ.up (xσ15.trans (xσ16.trans (xσ17.trans (xσ18.trans (xτ21.trans xσ19)))))) (by decide)).1) kp86
        have kp98 : Kpt (gI σ20 J 2 = gI σ J 2) := Eq.trans (show gI σ20 J 2 = gI σ19 J 2 from (cσ20.O (kJ.up (xσ15.trans (xσ16.trans (xσ17.trans (xσ18.trans (xτ21.trans xσ19)))))) (by decide)).1) kp87
        have kp99 : Kpt (gI σ20 o 3 = gI σ19 o 3) := (show gI σ20 o 3 = gI σ19 o 3 from (cσ20.O (ko.up (xσ15.trans (xσ16.trans (xσ17.trans (xσ18.trans (xτ21.trans xσ19)))))) (by decide)).1)
        have kp100 : Kpt (gI σ20 o 4 = gI τ21 o 4) := Eq.trans (show gI σ20 o 4 = gI σ19 o 4 from (cσ20.O (ko.up (xσ15.trans (xσ16.trans (xσ17.trans (xσ18.trans (xτ21.trans xσ19)))))) (by decide)).1) kp88
        have kp101 : Kpt (gI σ20 o 6 = gI τ21 o 6) := Eq.trans (show gI σ20 o 6 = gI σ19 o 6 from (cσ20.O (ko.up (xσ15.trans (xσ16.trans (xσ17.trans (xσ18.trans (xτ21.trans xσ19)))))) (by decide)).1) kp89
        have kp102 : Kpt (gI σ20 o 7 = gI τ21 o 7) := Eq.trans (show gI σ20 o 7 = gI σ19 o 7 from (cσ20.O (ko.up (xσ15.trans (xσ16.trans (xσ17.trans (xσ18.trans (xτ21.trans xσ19)))))) (by decide)).1) kp90
        have kp103 : Kpt (gI σ20 o 8 = gI σ o 8) := Eq.trans (show gI σ20 o 8 = gI σ19 o 8 from (cσ20.O (ko.up (xσ15.trans (xσ16.trans (xσ17.trans (xσ18.trans (xτ21.trans xσ19)))))) (by decide)).1) kp91
        have kp104 : Kpt (gI σ20 o 9 = gI σ o 9) := Eq.trans (show gI σ20 o 9 = gI σ19 o 9 from (cσ20.O (ko.up (xσ15.trans (xσ16.trans (xσ17.trans (xσ18.trans (xτ21.trans xσ19)))))) (by decide)).1) kp92
        have r5σ20 := I_6_5 iσ20.1 (kth.up (xσ15.trans (xσ16.trans (xσ17.trans (xσ18.trans (xτ21.trans (xσ19.trans xσ20)))))))
        have ho105 : gI σ20 J 7 = gI τ21 J 7 := kp96
        have cp106 : (gI σ20 th 5 ≤ gI σ20 th 2 ∧ (gI σ20 th 3 ≠ 0 → gI σ20 th 5 + 1 ≤ gI σ20 th 2)) ∧ gI σ20 J 7 ≤ 2 * gI σ20 th 5 ∧ 0 ≤ gI σ20 th 5 := by omega
        clear pσ20 cp65
        have ho107 : gI σ20 o 4 = gI τ21 o 4 := kp100
        refine i_X6_newValue iσ20 (kth.up (xσ15.trans (xσ16.trans (xσ17.trans (xσ18.trans (xτ21.trans (xσ19.trans xσ20))))))) (kp94.trans (kp83.trans (kp69.trans h7))) (kJ.up (xσ15.trans (xσ16.trans (xσ17.trans (xσ18.trans (xτ21.trans (xσ19.trans xσ20))))))) (kp95.trans (kp84.trans (kp70.trans h8))) (ko.up (xσ15.trans (xσ16.trans (xσ17.trans (xσ18.trans (xτ21.trans (xσ19.trans xσ20))))))) (by (first | omega | with_reducible assumption | with_reducible exact rng_toInt _ | with_reducible exact rng_wr _ | (unfold rng; omega) | (unfold rng at *; omega) | assumption)) (by (first | omega | with_reducible assumption | with_reducible exact rng_toInt _ | with_reducible exact rng_wr _ | (unfold rng; omega) | (unfold rng at *; omega) | assumption)) (by (first | omega | with_reducible assumption | with_reducible exact rng_toInt _ | with_reducible exact rng_wr _ | (unfold rng; omega) | (unfold rng at *; omega) | assumption)) (by (first | omega | with_reducible assumption | with_reducible exact rng_toInt _ | with_reducible exact rng_wr _ | (unfold rng; omega) | (unfold rng at *; omega) | assumption)) (fun σ21 _ iσ21 cσ21 oxσ21 pσ21 => ?_)
        intro xσ21
        have fσ21 : Fx [261, 262, 263, 323, 324, 326, 327, 386, 387, 388, 389, 390, 6464, 8320] gr σ σ21 := fσ20.tr (cσ21.mo (by decide))
        have oxcσ21 : OX o σ σ21 := oxcσ20.tr oxσ21 (xσ15.trans (xσ16.trans (xσ17.trans (xσ18.trans (xτ21.trans (xσ19.trans xσ20))))))
        have kp108 : gP σ21 th 0 = gP σ20 th 0 := (cσ21.O (kth.up (xσ15.trans (xσ16.trans (xσ17.trans (xσ18.trans (xτ21.trans (xσ19.trans xσ20))))))) (by decide)).2.1
        have kp109 : gP σ21 th 7 = gP σ20 th 7 := (cσ21.O (kth.up (xσ15.trans (xσ16.trans (xσ17.trans (xσ18.trans (xτ21.trans (xσ19.trans xσ20))))))) (by decide)).2.1
        have kp110 : gP σ21 th 8 = gP σ20 th 8 := (cσ21.O (kth.up (xσ15.trans (xσ16.trans (xσ17.trans (xσ18.trans (xτ21.trans (xσ19.trans xσ20))))))) (by decide)).2.1
        have kp111 : gI σ21 th 2 = gI σ20 th 2 := (cσ21.O (kth.up (xσ15.trans (xσ16.trans (xσ17.trans (xσ18.trans (xτ21.trans (xσ19.trans xσ20))))))) (by decide)).1
        have kp112 : gI σ21 th 3 = gI σ20 th 3 := (cσ21.O (kth.up (xσ15.trans (xσ16.trans (xσ17.trans (xσ18.trans (xτ21.trans (xσ19.trans xσ20))))))) (by decide)).1
        have kp113 : gI σ21 th 5 = gI σ20 th 5 := (cσ21.O (kth.up (xσ15.trans (xσ16.trans (xσ17.trans (xσ18.trans (xτ21.trans (xσ19.trans xσ20))))))) (by decide)).1
        have kp114 : Kpt (gI σ21 J 7 = gI τ21 J 7) := Eq.trans (show gI σ21 J 7 = gI σ20 J 7 from (cσ21.O (kJ.up (xσ15.trans (xσ16.trans (xσ17.trans (xσ18.trans (xτ21.trans (xσ19.trans xσ20))))))) (by decide)).1) kp96
        have kp115 : Kpt (gI σ21 J 1 = gI σ J 1) := Eq.trans (show gI σ21 J 1 = gI σ20 J 1 from (cσ21.O (kJ.up (xσ15.trans (xσ16.trans (xσ17.trans (xσ18.trans (xτ21.trans (xσ19.trans xσ20))))))) (by decide)).1) kp97
        have kp116 : Kpt (gI σ21 J 2 = gI σ J 2) := Eq.trans (show gI σ21 J 2 = gI σ20 J 2 from (cσ21.O (kJ.up (xσ15.trans (xσ16.trans (xσ17.trans (xσ18.trans (xτ21.trans (xσ19.trans xσ20))))))) (by decide)).1) kp98
        have kp117 : Kpt (gI σ21 o 3 = gI σ19 o 3) := Eq.trans (show gI σ21 o 3 = gI σ20 o 3 from (cσ21.O (ko.up (xσ15.trans (xσ16.trans (xσ17.trans (xσ18.trans (xτ21.trans (xσ19.trans xσ20))))))) (by decide)).1) kp99
        have kp118 : Kpt (gI σ21 o 6 = gI τ21 o 6) := Eq.trans (show gI σ21 o 6 = gI σ20 o 6 from (cσ21.O (ko.up (xσ15.trans (xσ16.trans (xσ17.trans (xσ18.trans (xτ21.trans (xσ19.trans xσ20))))))) (by decide)).1) kp101
        have kp119 : Kpt (gI σ21 o 7 = gI τ21 o 7) := Eq.trans (show gI σ21 o 7 = gI σ20 o 7 from (cσ21.O (ko.up (xσ15.trans (xσ16.trans (xσ17.trans (xσ18.trans (xτ21.trans (xσ19.trans xσ20))))))) (by decide)).1) kp102
        have kp120 : Kpt (gI σ21 o 8 = gI σ o 8) := Eq.trans (show gI σ21 o 8 = gI σ20 o 8 from (cσ21.O (ko.up (xσ15.trans (xσ16.trans (xσ17.trans (xσ18.trans (xτ21.trans (xσ19.trans xσ20))))))) (by decide)).1) kp103
        have kp121 : Kpt (gI σ21 o 9 = gI σ o 9) := Eq.trans (show gI σ21 o 9 = gI σ20 o 9 from (cσ21.O (ko.up (xσ15.trans (xσ16.trans (xσ17.trans (xσ18.trans (xτ21.trans (xσ19.trans xσ20))))))) (by decide)).1) kp104
        have ho122 : gI σ21 J 7 = gI τ21 J 7 := kp114
        have ho123 : gI σ21 o 7 = gI τ21 o 7 := kp119
        refine i_X6_value iσ21 (kth.up (xσ15.trans (xσ16.trans (xσ17.trans (xσ18.trans (xτ21.trans (xσ19.trans (xσ20.trans xσ21)))))))) (kp108.trans (kp93.trans (kp82.trans (kp68.trans hX0)))) (kX.up (xσ15.trans (xσ16.trans (xσ17.trans (xσ18.trans (xτ21.trans (xσ19.trans (xσ20.trans xσ21)))))))) (((xσ15.trans (xσ16.trans (xσ17.trans (xσ18.trans (xτ21.trans (xσ19.trans (xσ20.trans xσ21))))))) tx kX.1).2.2.trans gX) (kp109.trans (kp94.trans (kp83.trans (kp69.trans h7)))) (kJ.up (xσ15.trans (xσ16.trans (xσ17.trans (xσ18.trans (xτ21.trans (xσ19.trans (xσ20.trans xσ21)))))))) (kp110.trans (kp95.trans (kp84.trans (kp70.trans h8)))) (ko.up (xσ15.trans (xσ16.trans (xσ17.trans (xσ18.trans (xτ21.trans (xσ19.trans (xσ20.trans xσ21)))))))) (by (first | omega | with_reducible assumption | with_reducible exact rng_toInt _ | with_reducible exact rng_wr _ | (unfold rng; omega) | (unfold rng at *; omega) | assumption)) (by (first | omega | with_reducible assumption | with_reducible exact rng_toInt _ | with_reducible exact rng_wr _ | (unfold rng; omega) | (unfold rng at *; omega) | assumption)) (by (first | omega | with_reducible assumption | with_reducible exact rng_toInt _ | with_reducible exact rng_wr _ | (unfold rng; omega) | (unfold rng at *; omega) | assumption)) (by (first | omega | with_reducible assumption | with_reducible exact rng_toInt _ | with_reducible exact rng_wr _ | (unfold rng; omega) | (unfold rng at *; omega) | assumption)) (by (first | omega | with_reducible assumption | with_reducible exact rng_toInt _ | with_reducible exact rng_wr _ | (unfold rng; omega) | (unfold rng at *; omega) | assumption)) (by (first | omega | with_reducible assumption | with_reducible exact rng_toInt _ | with_reducible exact rng_wr _ | (unfold rng; omega) | (unfold rng at *; omega) | assumption)) (by (first | omega | with_reducible assumption | with_reducible exact rng_toInt _ | with_reducible exact rng_wr _ | (unfold rng; omega) | (unfold rng at *; omega) | assumption)) (by (first | omega | with_reducible assumption | with_reducible exact rng_toInt _ | with_reducible exact rng_wr _ | (unfold rng; omega) | (unfold rng at *; omega) | assumption)) (by (first | omega | with_reducible assumption | with_reducible exact rng_toInt _ | with_reducible exact rng_wr _ | (unfold rng; omega) | (unfold rng at *; omega) | assumption)) (fun σ22 nuσ22 _ iσ22 cσ22 uσ22 pσ22 => ?_) (fun σx LLx Nx nux E ix cx ux px => hX σx LLx Nx nux E ix (fσ21.tr (cx.mo (by decide))) (nu_τ21.x ux) (by first | exact px | exact ⟨by have := px.1; omega, px.2⟩ | (first | omega | with_reducible assumption | with_reducible exact rng_toInt _ | with_reducible exact rng_wr _ | (unfold rng; omega) | (unfold rng at *; omega) | assumption)))
        intro xσ22
        have fσ22 : Fx [261, 262, 263, 323, 324, 326, 327, 386, 387, 388, 389, 390, 6464, 8320] gr σ σ22 := fσ21.tr (cσ22.mo (by decide))
        have oxcσ22 : OX o σ σ22 := oxcσ21.tr (OX.fx cσ22 (by decide) (by decide)) (xσ15.trans (xσ16.trans (xσ17.trans (xσ18.trans (xτ21.trans (xσ19.trans (xσ20.trans xσ21)))))))
        have nu_σ22 : NC nu nuσ22 := nu_τ21.tr uσ22
        have uσ22_5 := uσ22 5 (by decide) (by decide)
        have kp124 : gP σ22 th 0 = gP σ21 th 0 := (cσ22.O (kth.up (xσ15.trans (xσ16.trans (xσ17.trans (xσ18.trans (xτ21.trans (xσ19.trans (xσ20.trans xσ21)))))))) (by decide)).2.1
        have kp125 : gP σ22 th 7 = gP σ21 th 7 := (cσ22.O (kth.up (xσ15.trans (xσ16.trans (xσ17.trans (xσ18.trans (xτ21.trans (xσ19.trans (xσ20.trans xσ21)))))))) (by decide)).2.1
        have kp126 : gP σ22 th 8 = gP σ21 th 8 := (cσ22.O (kth.up (xσ15.trans (xσ16.trans (xσ17.trans (xσ18.trans (xτ21.trans (xσ19.trans (xσ20.trans xσ21)))))))) (by decide)).2.1
        have kp127 : Kpt (gI σ22 J 1 = gI σ J 1) := Eq.trans (show gI σ22 J 1 = gI σ21 J 1 from (cσ22.O (kJ.up (xσ15.trans (xσ16.trans (xσ17.trans (xσ18.trans (xτ21.trans (xσ19.trans (xσ20.trans xσ21)))))))) (by decide)).1) kp115
        have kp128 : Kpt (gI σ22 J 2 = gI σ J 2) := Eq.trans (show gI σ22 J 2 = gI σ21 J 2 from (cσ22.O (kJ.up (xσ15.trans (xσ16.trans (xσ17.trans (xσ18.trans (xτ21.trans (xσ19.trans (xσ20.trans xσ21)))))))) (by decide)).1) kp116
        have kp129 : Kpt (gI σ22 o 3 = gI σ19 o 3) := Eq.trans (show gI σ22 o 3 = gI σ21 o 3 from (cσ22.O (ko.up (xσ15.trans (xσ16.trans (xσ17.trans (xσ18.trans (xτ21.trans (xσ19.trans (xσ20.trans xσ21)))))))) (by decide)).1) kp117
        have kp130 : Kpt (gI σ22 o 4 = gI σ21 o 4) := (show gI σ22 o 4 = gI σ21 o 4 from (cσ22.O (ko.up (xσ15.trans (xσ16.trans (xσ17.trans (xσ18.trans (xτ21.trans (xσ19.trans (xσ20.trans xσ21)))))))) (by decide)).1)
        have kp131 : Kpt (gI σ22 o 6 = gI τ21 o 6) := Eq.trans (show gI σ22 o 6 = gI σ21 o 6 from (cσ22.O (ko.up (xσ15.trans (xσ16.trans (xσ17.trans (xσ18.trans (xτ21.trans (xσ19.trans (xσ20.trans xσ21)))))))) (by decide)).1) kp118
        have kp132 : Kpt (gI σ22 o 7 = gI τ21 o 7) := Eq.trans (show gI σ22 o 7 = gI σ21 o 7 from (cσ22.O (ko.up (xσ15.trans (xσ16.trans (xσ17.trans (xσ18.trans (xτ21.trans (xσ19.trans (xσ20.trans xσ21)))))))) (by decide)).1) kp119
        have kp133 : Kpt (gI σ22 o 8 = gI σ o 8) := Eq.trans (show gI σ22 o 8 = gI σ21 o 8 from (cσ22.O (ko.up (xσ15.trans (xσ16.trans (xσ17.trans (xσ18.trans (xτ21.trans (xσ19.trans (xσ20.trans xσ21)))))))) (by decide)).1) kp120
        have kp134 : Kpt (gI σ22 o 9 = gI σ o 9) := Eq.trans (show gI σ22 o 9 = gI σ21 o 9 from (cσ22.O (ko.up (xσ15.trans (xσ16.trans (xσ17.trans (xσ18.trans (xτ21.trans (xσ19.trans (xσ20.trans xσ21)))))))) (by decide)).1) kp121
        have r5σ22 := I_6_5 iσ22.1 (kth.up (xσ15.trans (xσ16.trans (xσ17.trans (xσ18.trans (xτ21.trans (xσ19.trans (xσ20.trans (xσ21.trans xσ22)))))))))
        refine ⟨J, (kp125.trans (kp109.trans (kp94.trans (kp83.trans (kp69.trans h7))))), fun kk_J => ?_⟩
        refine i_X4_emit iσ22 (kJ.up (xσ15.trans (xσ16.trans (xσ17.trans (xσ18.trans (xτ21.trans (xσ19.trans (xσ20.trans (xσ21.trans xσ22))))))))) (by (first | omega | with_reducible assumption | with_reducible exact rng_toInt _ | with_reducible exact rng_wr _ | (unfold rng; omega) | (unfold rng at *; omega) | assumption)) (by (first | omega | with_reducible assumption | with_reducible exact rng_toInt _ | with_reducible exact rng_wr _ | (unfold rng; omega) | (unfold rng at *; omega) | assumption)) (by (first | omega | with_reducible assumption | with_reducible exact rng_toInt _ | with_reducible exact rng_wr _ | (unfold rng; omega) | (unfold rng at *; omega) | assumption)) (by (first | omega | with_reducible assumption | with_reducible exact rng_toInt _ | with_reducible exact rng_wr _ | (unfold rng; omega) | (unfold rng at *; omega) | assumption)) (fun σ23 nuσ23 r24 iσ23 cσ23 uσ23 pσ23 => ?_)
        intro xσ23
        have fσ23 : Fx [261, 262, 263, 323, 324, 326, 327, 386, 387, 388, 389, 390, 6464, 8320] gr σ σ23 := fσ22.tr (cσ23.mo (by decide))
        have oxcσ23 : OX o σ σ23 := oxcσ22.tr (OX.fx cσ23 (by decide) (by decide)) (xσ15.trans (xσ16.trans (xσ17.trans (xσ18.trans (xτ21.trans (xσ19.trans (xσ20.trans (xσ21.trans xσ22))))))))
        have nu_σ23 : NC nu nuσ23 := nu_σ22.tr uσ23
        have uσ23_5 := uσ23 5 (by decide) (by decide)
        have kp135 : gP σ23 th 0 = gP σ22 th 0 := (cσ23.O (kth.up (xσ15.trans (xσ16.trans (xσ17.trans (xσ18.trans (xτ21.trans (xσ19.trans (xσ20.trans (xσ21.trans xσ22))))))))) (by decide)).2.1
        have kp136 : gP σ23 th 7 = gP σ22 th 7 := (cσ23.O (kth.up (xσ15.trans (xσ16.trans (xσ17.trans (xσ18.trans (xτ21.trans (xσ19.trans (xσ20.trans (xσ21.trans xσ22))))))))) (by decide)).2.1
        have kp137 : gP σ23 th 8 = gP σ22 th 8 := (cσ23.O (kth.up (xσ15.trans (xσ16.trans (xσ17.trans (xσ18.trans (xτ21.trans (xσ19.trans (xσ20.trans (xσ21.trans xσ22))))))))) (by decide)).2.1
        have kp138 : gI σ23 th 2 = gI σ22 th 2 := (cσ23.O (kth.up (xσ15.trans (xσ16.trans (xσ17.trans (xσ18.trans (xτ21.trans (xσ19.trans (xσ20.trans (xσ21.trans xσ22))))))))) (by decide)).1
        have kp139 : gI σ23 th 3 = gI σ22 th 3 := (cσ23.O (kth.up (xσ15.trans (xσ16.trans (xσ17.trans (xσ18.trans (xτ21.trans (xσ19.trans (xσ20.trans (xσ21.trans xσ22))))))))) (by decide)).1
        have kp140 : gI σ23 th 5 = gI σ22 th 5 := (cσ23.O (kth.up (xσ15.trans (xσ16.trans (xσ17.trans (xσ18.trans (xτ21.trans (xσ19.trans (xσ20.trans (xσ21.trans xσ22))))))))) (by decide)).1
        have kp141 : Kpt (gI σ23 J 1 = gI σ J 1) := Eq.trans (show gI σ23 J 1 = gI σ22 J 1 from (cσ23.O (kJ.up (xσ15.trans (xσ16.trans (xσ17.trans (xσ18.trans (xτ21.trans (xσ19.trans (xσ20.trans (xσ21.trans xσ22))))))))) (by decide)).1) kp127
        have kp142 : Kpt (gI σ23 J 2 = gI σ J 2) := Eq.trans (show gI σ23 J 2 = gI σ22 J 2 from (cσ23.O (kJ.up (xσ15.trans (xσ16.trans (xσ17.trans (xσ18.trans (xτ21.trans (xσ19.trans (xσ20.trans (xσ21.trans xσ22))))))))) (by decide)).1) kp128
        have kp143 : Kpt (gI σ23 o 3 = gI σ19 o 3) := Eq.trans (show gI σ23 o 3 = gI σ22 o 3 from (cσ23.O (ko.up (xσ15.trans (xσ16.trans (xσ17.trans (xσ18.trans (xτ21.trans (xσ19.trans (xσ20.trans (xσ21.trans xσ22))))))))) (by decide)).1) kp129
        have kp144 : Kpt (gI σ23 o 4 = gI σ21 o 4) := Eq.trans (show gI σ23 o 4 = gI σ22 o 4 from (cσ23.O (ko.up (xσ15.trans (xσ16.trans (xσ17.trans (xσ18.trans (xτ21.trans (xσ19.trans (xσ20.trans (xσ21.trans xσ22))))))))) (by decide)).1) kp130
        have kp145 : Kpt (gI σ23 o 6 = gI τ21 o 6) := Eq.trans (show gI σ23 o 6 = gI σ22 o 6 from (cσ23.O (ko.up (xσ15.trans (xσ16.trans (xσ17.trans (xσ18.trans (xτ21.trans (xσ19.trans (xσ20.trans (xσ21.trans xσ22))))))))) (by decide)).1) kp131
        have kp146 : Kpt (gI σ23 o 7 = gI τ21 o 7) := Eq.trans (show gI σ23 o 7 = gI σ22 o 7 from (cσ23.O (ko.up (xσ15.trans (xσ16.trans (xσ17.trans (xσ18.trans (xτ21.trans (xσ19.trans (xσ20.trans (xσ21.trans xσ22))))))))) (by decide)).1) kp132
        have kp147 : Kpt (gI σ23 o 8 = gI σ o 8) := Eq.trans (show gI σ23 o 8 = gI σ22 o 8 from (cσ23.O (ko.up (xσ15.trans (xσ16.trans (xσ17.trans (xσ18.trans (xτ21.trans (xσ19.trans (xσ20.trans (xσ21.trans xσ22))))))))) (by decide)).1) kp133
        have kp148 : Kpt (gI σ23 o 9 = gI σ o 9) := Eq.trans (show gI σ23 o 9 = gI σ22 o 9 from (cσ23.O (ko.up (xσ15.trans (xσ16.trans (xσ17.trans (xσ18.trans (xτ21.trans (xσ19.trans (xσ20.trans (xσ21.trans xσ22))))))))) (by decide)).1) kp134
        refine i_X6_isSign iσ23 (kth.up (xσ15.trans (xσ16.trans (xσ17.trans (xσ18.trans (xτ21.trans (xσ19.trans (xσ20.trans (xσ21.trans (xσ22.trans xσ23)))))))))) (fun r27 pσ26 => ?_)
        intro xσ26
        by_cases hc149 : r27 ≠ 0
        · rw [if_pos hc149]
          unfold w_X6_mapText_68
          refine i_X6_next iσ23 (kth.up (xσ15.trans (xσ16.trans (xσ17.trans (xσ18.trans (xτ21.trans (xσ19.trans (xσ20.trans (xσ21.trans (xσ22.trans xσ23)))))))))) (kp135.trans (kp124.trans (kp108.trans (kp93.trans (kp82.trans (kp68.trans hX0)))))) (kX.up (xσ15.trans (xσ16.trans (xσ17.trans (xσ18.trans (xτ21.trans (xσ19.trans (xσ20.trans (xσ21.trans (xσ22.trans xσ23)))))))))) (((xσ15.trans (xσ16.trans (xσ17.trans (xσ18.trans (xτ21.trans (xσ19.trans (xσ20.trans (xσ21.trans (xσ22.trans xσ23))))))))) tx kX.1).2.2.trans gX) (by (first | omega | with_reducible assumption | with_reducible exact rng_toInt _ | with_reducible exact rng_wr _ | (unfold rng; omega) | (unfold rng at *; omega) | assumption)) (by (first | omega | with_reducible assumption | with_reducible exact rng_toInt _ | with_reducible exact rng_wr _ | (unfold rng; omega) | (unfold rng at *; omega) | assumption)) (fun σ28 _ iσ28 cσ28 pσ28 => ?_) (fun σx LLx Nx nux E ix cx ux px => hX σx LLx Nx nux E ix (fσ23.tr (cx.mo (by decide))) (nu_σ23.x ux) (by first | exact px | exact ⟨by have := px.1; omega, px.2⟩ | (first | omega | with_reducible assumption | with_reducible exact rng_toInt _ | with_reducible exact rng_wr _ | (unfold rng; omega) | (unfold rng at *; omega) | assumption)))
          intro xσ28
          have fσ28 : Fx [261, 262, 263, 323, 324, 326, 327, 386, 387, 388, 389, 390, 6464, 8320] gr σ σ28 := fσ23.tr (cσ28.mo (by decide))
          have oxcσ28 : OX o σ σ28 := oxcσ23.tr (OX.fx cσ28 (by decide) (by decide)) (xσ15.trans (xσ16.trans (xσ17.trans (xσ18.trans (xτ21.trans (xσ19.trans (xσ20.trans (xσ21.trans (xσ22.trans xσ23)))))))))
          have kp150 : gP σ28 th 0 = gP σ23 th 0 := (cσ28.O (kth.up (xσ15.trans (xσ16.trans (xσ17.trans (xσ18.trans (xτ21.trans (xσ19.trans (xσ20.trans (xσ21.trans (xσ22.trans xσ23)))))))))) (by decide)).2.1
          have kp151 : gP σ28 th 7 = gP σ23 th 7 := (cσ28.O (kth.up (xσ15.trans (xσ16.trans (xσ17.trans (xσ18.trans (xτ21.trans (xσ19.trans (xσ20.trans (xσ21.trans (xσ22.trans xσ23)))))))))) (by decide)).2.1
          have kp152 : gP σ28 th 8 = gP σ23 th 8 := (cσ28.O (kth.up (xσ15.trans (xσ16.trans (xσ17.trans (xσ18.trans (xτ21.trans (xσ19.trans (xσ20.trans (xσ21.trans (xσ22.trans xσ23)))))))))) (by decide)).2.1
          have kp153 : Kpt (gI σ28 J 7 = gI σ23 J 7) := (show gI σ28 J 7 = gI σ23 J 7 from (cσ28.O (kJ.up (xσ15.trans (xσ16.trans (xσ17.trans (xσ18.trans (xτ21.trans (xσ19.trans (xσ20.trans (xσ21.trans (xσ22.trans xσ23)))))))))) (by decide)).1)
          have kp154 : Kpt (gI σ28 J 1 = gI σ J 1) := Eq.trans (show gI σ28 J 1 = gI σ23 J 1 from (cσ28.O (kJ.up (xσ15.trans (xσ16.trans (xσ17.trans (xσ18.trans (xτ21.trans (xσ19.trans (xσ20.trans (xσ21.trans (xσ22.trans xσ23)))))))))) (by decide)).1) kp141
          have kp155 : Kpt (gI σ28 J 2 = gI σ J 2) := Eq.trans (show gI σ28 J 2 = gI σ23 J 2 from (cσ28.O (kJ.up (xσ15.trans (xσ16.trans (xσ17.trans (xσ18.trans (xτ21.trans (xσ19.trans (xσ20.trans (xσ21.trans (xσ22.trans xσ23)))))))))) (by decide)).1) kp142
          have kp156 : Kpt (gI σ28 o 3 = gI σ19 o 3) := Eq.trans (show gI σ28 o 3 = gI σ23 o 3 from (cσ28.O (ko.up (xσ15.trans (xσ16.trans (xσ17.trans (xσ18.trans (xτ21.trans (xσ19.trans (xσ20.trans (xσ21.trans (xσ22.trans xσ23)))))))))) (by decide)).1) kp143
          have kp157 : Kpt (gI σ28 o 4 = gI σ21 o 4) := Eq.trans (show gI σ28 o 4 = gI σ23 o 4 from (cσ28.O (ko.up (xσ15.trans (xσ16.trans (xσ17.trans (xσ18.trans (xτ21.trans (xσ19.trans (xσ20.trans (xσ21.trans (xσ22.trans xσ23)))))))))) (by decide)).1) kp144
          have kp158 : Kpt (gI σ28 o 6 = gI τ21 o 6) := Eq.trans (show gI σ28 o 6 = gI σ23 o 6 from (cσ28.O (ko.up (xσ15.trans (xσ16.trans (xσ17.trans (xσ18.trans (xτ21.trans (xσ19.trans (xσ20.trans (xσ21.trans (xσ22.trans xσ23)))))))))) (by decide)).1) kp145
          have kp159 : Kpt (gI σ28 o 7 = gI τ21 o 7) := Eq.trans (show gI σ28 o 7 = gI σ23 o 7 from (cσ28.O (ko.up (xσ15.trans (xσ16.trans (xσ17.trans (xσ18.trans (xτ21.trans (xσ19.trans (xσ20.trans (xσ21.trans (xσ22.trans xσ23)))))))))) (by decide)).1) kp146
          have kp160 : Kpt (gI σ28 o 8 = gI σ o 8) := Eq.trans (show gI σ28 o 8 = gI σ23 o 8 from (cσ28.O (ko.up (xσ15.trans (xσ16.trans (xσ17.trans (xσ18.trans (xτ21.trans (xσ19.trans (xσ20.trans (xσ21.trans (xσ22.trans xσ23)))))))))) (by decide)).1) kp147
          have kp161 : Kpt (gI σ28 o 9 = gI σ o 9) := Eq.trans (show gI σ28 o 9 = gI σ23 o 9 from (cσ28.O (ko.up (xσ15.trans (xσ16.trans (xσ17.trans (xσ18.trans (xτ21.trans (xσ19.trans (xσ20.trans (xσ21.trans (xσ22.trans xσ23)))))))))) (by decide)).1) kp148
          have r5σ28 := I_6_5 iσ28.1 (kth.up (xσ15.trans (xσ16.trans (xσ17.trans (xσ18.trans (xτ21.trans (xσ19.trans (xσ20.trans (xσ21.trans (xσ22.trans (xσ23.trans xσ28)))))))))))
          have ho162 : gI σ28 J 7 = gI σ23 J 7 := kp153
          have cp163 : (gI σ28 th 5 ≤ gI σ28 th 2 ∧ (gI σ28 th 3 ≠ 0 → gI σ28 th 5 + 1 ≤ gI σ28 th 2)) ∧ gI σ28 J 7 ≤ 2 * gI σ28 th 5 ∧ 0 ≤ gI σ28 th 5 := by omega
          clear pσ28 kp140 kp139 kp138 kp113 kp112 kp111 cp106
          refine ⟨by (first | omega | with_reducible assumption | with_reducible exact rng_toInt _ | with_reducible exact rng_wr _ | (unfold rng; omega) | (unfold rng at *; omega) | assumption), ?_⟩
          have ho164 : gI σ28 J 1 = gI σ J 1 := kp154
          have ho165 : gI σ28 J 2 = gI σ J 2 := kp155
          have ho166 : gI σ28 o 3 = gI σ19 o 3 := kp156
          have ho167 : gI σ28 o 4 = gI σ21 o 4 := kp157
          have ho168 : gI σ28 o 6 = gI τ21 o 6 := kp158
          have ho169 : gI σ28 o 7 = gI τ21 o 7 := kp159
          have ho170 : gI σ28 o 8 = gI σ o 8 := kp160
          have ho171 : gI σ28 o 9 = gI σ o 9 := kp161
          exact ih21 σ28 nuσ23 (v1 + 1) iσ28 fσ28 (xτ21.trans (xσ19.trans (xσ20.trans (xσ21.trans (xσ22.trans (xσ23.trans xσ28)))))) nu_σ23 oxcσ28 (by (first | omega | with_reducible assumption | with_reducible exact rng_toInt _ | with_reducible exact rng_wr _ | (unfold rng; omega) | (unfold rng at *; omega) | assumption)) (by (first | omega | with_reducible assumption | with_reducible exact rng_toInt _ | with_reducible exact rng_wr _ | (unfold rng; omega) | (unfold rng at *; omega) | assumption))
        · rw [if_neg hc149]
          have hc149q := Classical.not_not.mp hc149
          unfold w_X6_mapText_67
          have ho172 : gI σ23 J 1 = gI σ J 1 := kp141
          have ho173 : gI σ23 J 2 = gI σ J 2 := kp142
          have ho174 : gI σ23 o 3 = gI σ19 o 3 := kp143
          have ho175 : gI σ23 o 4 = gI σ21 o 4 := kp144
          have ho176 : gI σ23 o 6 = gI τ21 o 6 := kp145
          have ho177 : gI σ23 o 7 = gI τ21 o 7 := kp146
          have ho178 : gI σ23 o 8 = gI σ o 8 := kp147
          have ho179 : gI σ23 o 9 = gI σ o 9 := kp148
          exact hQ σ23 nuσ23 () iσ23 fσ23 (nu_σ23) oxcσ23 (⟨by omega, by omega, ⟨by omega, (fun h => absurd h (by omega)), (fun h => absurd h (by omega))⟩⟩)
  have ho180 : gI σ18 J 1 = gI σ J 1 := kp56
  have ho181 : gI σ18 J 2 = gI σ J 2 := kp57
  have ho182 : gI σ18 o 3 = gI σ o 3 := kp58
  have ho183 : gI σ18 o 4 = gI σ o 4 := kp59
  have ho184 : gI σ18 o 6 = gI σ16 o 6 := kp60
  have ho185 : gI σ18 o 7 = gI σ16 o 7 := kp61
  have ho186 : gI σ18 o 8 = gI σ o 8 := kp62
  have ho187 : gI σ18 o 9 = gI σ o 9 := kp63
  exact ⟨_, Lp21 _ σ18 nu _ iσ18 fσ18 (Ext.rfl' _) NC.rf oxcσ18 (by (first | omega | with_reducible assumption | with_reducible exact rng_toInt _ | with_reducible exact rng_wr _ | (unfold rng; omega) | (unfold rng at *; omega) | assumption)) (Nat.lt_succ_self _)⟩
set_option maxHeartbeats 4000000 in
theorem i_X6_unionText {σ : Sg} {pl : Nat} {gq ci gr nc : Nat → Nat} {ot : Nat → Nat → Int} {LL : Nat → List Nat} {N nu : Nat → Nat} {th : Nat} {tx J o q c : Nat} (iσ : IV σ pl gq ci gr nc ot LL N nu) (kth : kO σ th 6) (hX0 : gP σ th 0 = some tx) (kX : kO σ tx 102) (gX : gn σ tx = 1500) (h7 : gP σ th 7 = some J) (kJ : kO σ J 4) (h8 : gP σ th 8 = some o) (ko : kO σ o 5) (hJq : gq J = q) (hq : q ≠ nc 0 ∧ q ≤ 1) (go : gq o = 16 * q + c) (hc : c < 16) (cJ : gI σ J 1 = (c : Int)) (tf : gI σ th 5 ≤ gI σ th 2 ∧ (gI σ th 3 ≠ 0 → gI σ th 5 + 1 ≤ gI σ th 2)) (h5 : nu 5 < 24000) (lp : gI σ J 7 ≤ 2 * gI σ th 5) (f0 : gI σ o 3 = 0 ∧ gI σ o 4 = 0 ∧ gI σ o 7 = -1 ∧ gI σ o 8 = -1) {Q : Sg → Unit → Prop} {X : Sg → String → Prop} (hQ : ∀ (σ' : Sg) (r : Unit), IV σ' pl gq ci gr nc ot LL N nu → Fx [323, 326, 327, 328, 386, 387, 388, 389, 390, 6464] gr σ σ' → OX o σ σ' → ((gI σ' th 5 ≤ gI σ' th 2 ∧ (gI σ' th 3 ≠ 0 → gI σ' th 5 + 1 ≤ gI σ' th 2)) ∧ gI σ' J 7 ≤ 2 * gI σ' th 5 ∧ OPR σ σ' gq q c o) → Q σ' r) (hX : ∀ (σ' : Sg) (LL' : Nat → List Nat) (N' nu' : Nat → Nat) (E : String), IV σ' pl gq ci gr nc ot LL' N' nu' → Fx [323, 326, 327, 328, 386, 387, 388, 389, 390, 6464] gr σ σ' → NCX nu nu' → (LL' = LL ∧ N' = N ∧ E = "java/lang/IllegalArgumentException" ∧ gI σ' th 6 ≠ 0) → X σ' E) : wp_X6_unionText th σ Q X := by
  have fσ : Fx [323, 326, 327, 328, 386, 387, 388, 389, 390, 6464] gr σ σ := Fx.rf
  have oxσ : OX o σ σ := OX.rf
  have q1 := I_4_1 iσ.1 kJ
  have q2 := I_6_5 iσ.1 kth
  have q3 := I_6_2 iσ.1 kth
  have q4 := iσ.rg th 3; unfold rng at q4
  have q5 := I_4_7 iσ.1 kJ
  have q6 := I_5_3 iσ.1 ko
  have q7 := I_5_4 iσ.1 ko
  have q8 := I_5_7 iσ.1 ko
  have q9 := I_5_8 iσ.1 ko
  have ncb := iσ.ncb
  have r70 := I_4_7 iσ.1 kJ
  have r71 := I_4_1 iσ.1 kJ
  unfold wp_X6_unionText
  unfold w_X6_unionText_0
  refine i_X6_next iσ kth hX0 kX (((Ext.rfl' _) tx kX.1).2.2.trans gX) (by (first | omega | with_reducible assumption | with_reducible exact rng_toInt _ | with_reducible exact rng_wr _ | (unfold rng; omega) | (unfold rng at *; omega) | assumption)) (by (first | omega | with_reducible assumption | with_reducible exact rng_toInt _ | with_reducible exact rng_wr _ | (unfold rng; omega) | (unfold rng at *; omega) | assumption)) (fun σ19 _ iσ19 cσ19 pσ19 => ?_) (fun σx LLx Nx nux E ix cx ux px => hX σx LLx Nx nux E ix (fσ.tr (cx.mo (by decide))) (ux) (by first | exact px | exact ⟨by have := px.1; omega, px.2⟩ | (first | omega | with_reducible assumption | with_reducible exact rng_toInt _ | with_reducible exact rng_wr _ | (unfold rng; omega) | (unfold rng at *; omega) | assumption)))
  intro xσ19
  have fσ19 : Fx [323, 326, 327, 328, 386, 387, 388, 389, 390, 6464] gr σ σ19 := fσ.tr (cσ19.mo (by decide))
  have oxcσ19 : OX o σ σ19 := oxσ.tr (OX.fx cσ19 (by decide) (by decide)) (Ext.rfl' _)
  have kp10 : Kpt (gI σ19 J 1 = gI σ J 1) := (show gI σ19 J 1 = gI σ J 1 from (cσ19.O kJ (by decide)).1)
  have kp11 : Kpt (gI σ19 J 7 = gI σ J 7) := (show gI σ19 J 7 = gI σ J 7 from (cσ19.O kJ (by decide)).1)
  have kp12 : Kpt (gI σ19 o 3 = gI σ o 3) := (show gI σ19 o 3 = gI σ o 3 from (cσ19.O ko (by decide)).1)
  have kp13 : Kpt (gI σ19 o 4 = gI σ o 4) := (show gI σ19 o 4 = gI σ o 4 from (cσ19.O ko (by decide)).1)
  have kp14 : Kpt (gI σ19 o 7 = gI σ o 7) := (show gI σ19 o 7 = gI σ o 7 from (cσ19.O ko (by decide)).1)
  have kp15 : Kpt (gI σ19 o 8 = gI σ o 8) := (show gI σ19 o 8 = gI σ o 8 from (cσ19.O ko (by decide)).1)
  have kp16 : gP σ19 th 0 = gP σ th 0 := (cσ19.O kth (by decide)).2.1
  have kp17 : gP σ19 th 7 = gP σ th 7 := (cσ19.O kth (by decide)).2.1
  have kp18 : gP σ19 th 8 = gP σ th 8 := (cσ19.O kth (by decide)).2.1
  have kp19 : Kpt (gI σ19 J 2 = gI σ J 2) := (show gI σ19 J 2 = gI σ J 2 from (cσ19.O kJ (by decide)).1)
  have kp20 : Kpt (gI σ19 o 6 = gI σ o 6) := (show gI σ19 o 6 = gI σ o 6 from (cσ19.O ko (by decide)).1)
  have kp21 : Kpt (gI σ19 o 9 = gI σ o 9) := (show gI σ19 o 9 = gI σ o 9 from (cσ19.O ko (by decide)).1)
  have r5σ19 := I_6_5 iσ19.1 (kth.up xσ19)
  have ho22 : gI σ19 J 7 = gI σ J 7 := kp11
  have cp23 : (gI σ19 th 5 ≤ gI σ19 th 2 ∧ (gI σ19 th 3 ≠ 0 → gI σ19 th 5 + 1 ≤ gI σ19 th 2)) ∧ gI σ19 J 7 ≤ 2 * gI σ19 th 5 ∧ 0 ≤ gI σ19 th 5 := by omega
  clear pσ19 q3 q2
  have ho24 : gI σ19 J 1 = gI σ J 1 := kp10
  refine i_X6_firstInput iσ19 (kth.up xσ19) (kp17.trans h7) (kJ.up xσ19) (kp18.trans h8) (ko.up xσ19) (by (first | omega | with_reducible assumption | with_reducible exact rng_toInt _ | with_reducible exact rng_wr _ | (unfold rng; omega) | (unfold rng at *; omega) | assumption)) (by (first | omega | with_reducible assumption | with_reducible exact rng_toInt _ | with_reducible exact rng_wr _ | (unfold rng; omega) | (unfold rng at *; omega) | assumption)) (by (first | omega | with_reducible assumption | with_reducible exact rng_toInt _ | with_reducible exact rng_wr _ | (unfold rng; omega) | (unfold rng at *; omega) | assumption)) (by (first | omega | with_reducible assumption | with_reducible exact rng_toInt _ | with_reducible exact rng_wr _ | (unfold rng; omega) | (unfold rng at *; omega) | assumption)) (by (first | omega | with_reducible assumption | with_reducible exact rng_toInt _ | with_reducible exact rng_wr _ | (unfold rng; omega) | (unfold rng at *; omega) | assumption)) (by (first | omega | with_reducible assumption | with_reducible exact rng_toInt _ | with_reducible exact rng_wr _ | (unfold rng; omega) | (unfold rng at *; omega) | assumption)) (fun σ20 _ iσ20 cσ20 oxσ20 pσ20 => ?_) (fun σx LLx Nx nux E ix cx ux px => hX σx LLx Nx nux E ix (fσ19.tr (cx.mo (by decide))) (ux) (by first | exact px | exact ⟨by have := px.1; omega, px.2⟩ | (first | omega | with_reducible assumption | with_reducible exact rng_toInt _ | with_reducible exact rng_wr _ | (unfold rng; omega) | (unfold rng at *; omega) | assumption)))
  intro xσ20
  have fσ20 : Fx [323, 326, 327, 328, 386, 387, 388, 389, 390, 6464] gr σ σ20 := fσ19.tr (cσ20.mo (by decide))
  have oxcσ20 : OX o σ σ20 := oxcσ19.tr oxσ20 (xσ19)
  have kp25 : gP σ20 th 0 = gP σ19 th 0 := (cσ20.O (kth.up xσ19) (by decide)).2.1
  have kp26 : gP σ20 th 7 = gP σ19 th 7 := (cσ20.O (kth.up xσ19) (by decide)).2.1
  have kp27 : gP σ20 th 8 = gP σ19 th 8 := (cσ20.O (kth.up xσ19) (by decide)).2.1
  have kp28 : gI σ20 th 2 = gI σ19 th 2 := (cσ20.O (kth.up xσ19) (by decide)).1
  have kp29 : gI σ20 th 3 = gI σ19 th 3 := (cσ20.O (kth.up xσ19) (by decide)).1
  have kp30 : gI σ20 th 5 = gI σ19 th 5 := (cσ20.O (kth.up xσ19) (by decide)).1
  have kp31 : Kpt (gI σ20 J 7 = gI σ J 7) := Eq.trans (show gI σ20 J 7 = gI σ19 J 7 from (cσ20.O (kJ.up xσ19) (by decide)).1) kp11
  have kp32 : Kpt (gI σ20 J 1 = gI σ J 1) := Eq.trans (show gI σ20 J 1 = gI σ19 J 1 from (cσ20.O (kJ.up xσ19) (by decide)).1) kp10
  have kp33 : Kpt (gI σ20 J 2 = gI σ J 2) := Eq.trans (show gI σ20 J 2 = gI σ19 J 2 from (cσ20.O (kJ.up xσ19) (by decide)).1) kp19
  have kp34 : Kpt (gI σ20 o 3 = gI σ o 3) := Eq.trans (show gI σ20 o 3 = gI σ19 o 3 from (cσ20.O (ko.up xσ19) (by decide)).1) kp12
  have kp35 : Kpt (gI σ20 o 4 = gI σ o 4) := Eq.trans (show gI σ20 o 4 = gI σ19 o 4 from (cσ20.O (ko.up xσ19) (by decide)).1) kp13
  have kp36 : Kpt (gI σ20 o 8 = gI σ o 8) := Eq.trans (show gI σ20 o 8 = gI σ19 o 8 from (cσ20.O (ko.up xσ19) (by decide)).1) kp15
  have kp37 : Kpt (gI σ20 o 9 = gI σ o 9) := Eq.trans (show gI σ20 o 9 = gI σ19 o 9 from (cσ20.O (ko.up xσ19) (by decide)).1) kp21
  refine i_X6_next iσ20 (kth.up (xσ19.trans xσ20)) (kp25.trans (kp16.trans hX0)) (kX.up (xσ19.trans xσ20)) (((xσ19.trans xσ20) tx kX.1).2.2.trans gX) (by (first | omega | with_reducible assumption | with_reducible exact rng_toInt _ | with_reducible exact rng_wr _ | (unfold rng; omega) | (unfold rng at *; omega) | assumption)) (by (first | omega | with_reducible assumption | with_reducible exact rng_toInt _ | with_reducible exact rng_wr _ | (unfold rng; omega) | (unfold rng at *; omega) | assumption)) (fun σ21 _ iσ21 cσ21 pσ21 => ?_) (fun σx LLx Nx nux E ix cx ux px => hX σx LLx Nx nux E ix (fσ20.tr (cx.mo (by decide))) (ux) (by first | exact px | exact ⟨by have := px.1; omega, px.2⟩ | (first | omega | with_reducible assumption | with_reducible exact rng_toInt _ | with_reducible exact rng_wr _ | (unfold rng; omega) | (unfold rng at *; omega) | assumption)))
  intro xσ21
  have fσ21 : Fx [323, 326, 327, 328, 386, 387, 388, 389, 390, 6464] gr σ σ21 := fσ20.tr (cσ21.mo (by decide))
  have oxcσ21 : OX o σ σ21 := oxcσ20.tr (OX.fx cσ21 (by decide) (by decide)) (xσ19.trans xσ20)
  have kp38 : gP σ21 th 0 = gP σ20 th 0 := (cσ21.O (kth.up (xσ19.trans xσ20)) (by decide)).2.1
  have kp39 : gP σ21 th 7 = gP σ20 th 7 := (cσ21.O (kth.up (xσ19.trans xσ20)) (by decide)).2.1
  have kp40 : gP σ21 th 8 = gP σ20 th 8 := (cσ21.O (kth.up (xσ19.trans xσ20)) (by decide)).2.1
  have kp41 : Kpt (gI σ21 J 7 = gI σ J 7) := Eq.trans (show gI σ21 J 7 = gI σ20 J 7 from (cσ21.O (kJ.up (xσ19.trans xσ20)) (by decide)).1) kp31
  have kp42 : Kpt (gI σ21 J 1 = gI σ J 1) := Eq.trans (show gI σ21 J 1 = gI σ20 J 1 from (cσ21.O (kJ.up (xσ19.trans xσ20)) (by decide)).1) kp32
  have kp43 : Kpt (gI σ21 J 2 = gI σ J 2) := Eq.trans (show gI σ21 J 2 = gI σ20 J 2 from (cσ21.O (kJ.up (xσ19.trans xσ20)) (by decide)).1) kp33
  have kp44 : Kpt (gI σ21 o 3 = gI σ o 3) := Eq.trans (show gI σ21 o 3 = gI σ20 o 3 from (cσ21.O (ko.up (xσ19.trans xσ20)) (by decide)).1) kp34
  have kp45 : Kpt (gI σ21 o 4 = gI σ o 4) := Eq.trans (show gI σ21 o 4 = gI σ20 o 4 from (cσ21.O (ko.up (xσ19.trans xσ20)) (by decide)).1) kp35
  have kp46 : Kpt (gI σ21 o 6 = gI σ20 o 6) := (show gI σ21 o 6 = gI σ20 o 6 from (cσ21.O (ko.up (xσ19.trans xσ20)) (by decide)).1)
  have kp47 : Kpt (gI σ21 o 7 = gI σ20 o 7) := (show gI σ21 o 7 = gI σ20 o 7 from (cσ21.O (ko.up (xσ19.trans xσ20)) (by decide)).1)
  have kp48 : Kpt (gI σ21 o 8 = gI σ o 8) := Eq.trans (show gI σ21 o 8 = gI σ20 o 8 from (cσ21.O (ko.up (xσ19.trans xσ20)) (by decide)).1) kp36
  have kp49 : Kpt (gI σ21 o 9 = gI σ o 9) := Eq.trans (show gI σ21 o 9 = gI σ20 o 9 from (cσ21.O (ko.up (xσ19.trans xσ20)) (by decide)).1) kp37
  have r5σ21 := I_6_5 iσ21.1 (kth.up (xσ19.trans (xσ20.trans xσ21)))
  have ho50 : gI σ21 J 7 = gI σ J 7 := kp41
  have cp51 : (gI σ21 th 5 ≤ gI σ21 th 2 ∧ (gI σ21 th 3 ≠ 0 → gI σ21 th 5 + 1 ≤ gI σ21 th 2)) ∧ gI σ21 J 7 ≤ 2 * gI σ21 th 5 ∧ 0 ≤ gI σ21 th 5 := by omega
  clear pσ21 kp30 kp29 kp28 cp23
  have ho52 : gI σ21 J 1 = gI σ J 1 := kp42
  refine i_X6_input iσ21 (kth.up (xσ19.trans (xσ20.trans xσ21))) (kp39.trans (kp26.trans (kp17.trans h7))) (kJ.up (xσ19.trans (xσ20.trans xσ21))) (by (first | omega | with_reducible assumption | with_reducible exact rng_toInt _ | with_reducible exact rng_wr _ | (unfold rng; omega) | (unfold rng at *; omega) | assumption)) (fun σ22 r23 iσ22 cσ22 pσ22 => ?_) (fun σx LLx Nx nux E ix cx ux px => hX σx LLx Nx nux E ix (fσ21.tr (cx.mo (by decide))) (ux) (by first | exact px | exact ⟨by have := px.1; omega, px.2⟩ | (first | omega | with_reducible assumption | with_reducible exact rng_toInt _ | with_reducible exact rng_wr _ | (unfold rng; omega) | (unfold rng at *; omega) | assumption)))
  intro xσ22
  have fσ22 : Fx [323, 326, 327, 328, 386, 387, 388, 389, 390, 6464] gr σ σ22 := fσ21.tr (cσ22.mo (by decide))
  have oxcσ22 : OX o σ σ22 := oxcσ21.tr (OX.fx cσ22 (by decide) (by decide)) (xσ19.trans (xσ20.trans xσ21))
  have kp53 : gP σ22 th 0 = gP σ21 th 0 := (cσ22.O (kth.up (xσ19.trans (xσ20.trans xσ21))) (by decide)).2.1
  have kp54 : gP σ22 th 7 = gP σ21 th 7 := (cσ22.O (kth.up (xσ19.trans (xσ20.trans xσ21))) (by decide)).2.1
  have kp55 : gP σ22 th 8 = gP σ21 th 8 := (cσ22.O (kth.up (xσ19.trans (xσ20.trans xσ21))) (by decide)).2.1
  have kp56 : gI σ22 th 2 = gI σ21 th 2 := (cσ22.O (kth.up (xσ19.trans (xσ20.trans xσ21))) (by decide)).1
  have kp57 : gI σ22 th 3 = gI σ21 th 3 := (cσ22.O (kth.up (xσ19.trans (xσ20.trans xσ21))) (by decide)).1
  have kp58 : gI σ22 th 5 = gI σ21 th 5 := (cσ22.O (kth.up (xσ19.trans (xσ20.trans xσ21))) (by decide)).1
  have kp59 : Kpt (gI σ22 J 7 = gI σ J 7) := Eq.trans (show gI σ22 J 7 = gI σ21 J 7 from (cσ22.O (kJ.up (xσ19.trans (xσ20.trans xσ21))) (by decide)).1) kp41
  have kp60 : Kpt (gI σ22 J 1 = gI σ J 1) := Eq.trans (show gI σ22 J 1 = gI σ21 J 1 from (cσ22.O (kJ.up (xσ19.trans (xσ20.trans xσ21))) (by decide)).1) kp42
  have kp61 : Kpt (gI σ22 J 2 = gI σ J 2) := Eq.trans (show gI σ22 J 2 = gI σ21 J 2 from (cσ22.O (kJ.up (xσ19.trans (xσ20.trans xσ21))) (by decide)).1) kp43
  have kp62 : Kpt (gI σ22 o 3 = gI σ o 3) := Eq.trans (show gI σ22 o 3 = gI σ21 o 3 from (cσ22.O (ko.up (xσ19.trans (xσ20.trans xσ21))) (by decide)).1) kp44
  have kp63 : Kpt (gI σ22 o 4 = gI σ o 4) := Eq.trans (show gI σ22 o 4 = gI σ21 o 4 from (cσ22.O (ko.up (xσ19.trans (xσ20.trans xσ21))) (by decide)).1) kp45
  have kp64 : Kpt (gI σ22 o 6 = gI σ20 o 6) := Eq.trans (show gI σ22 o 6 = gI σ21 o 6 from (cσ22.O (ko.up (xσ19.trans (xσ20.trans xσ21))) (by decide)).1) kp46
  have kp65 : Kpt (gI σ22 o 7 = gI σ20 o 7) := Eq.trans (show gI σ22 o 7 = gI σ21 o 7 from (cσ22.O (ko.up (xσ19.trans (xσ20.trans xσ21))) (by decide)).1) kp47
  have kp66 : Kpt (gI σ22 o 8 = gI σ o 8) := Eq.trans (show gI σ22 o 8 = gI σ21 o 8 from (cσ22.O (ko.up (xσ19.trans (xσ20.trans xσ21))) (by decide)).1) kp48
  have kp67 : Kpt (gI σ22 o 9 = gI σ o 9) := Eq.trans (show gI σ22 o 9 = gI σ21 o 9 from (cσ22.O (ko.up (xσ19.trans (xσ20.trans xσ21))) (by decide)).1) kp49
  refine ⟨o, (kp40.trans (kp27.trans (kp18.trans h8))), fun kk_o => ?_⟩
  intro σ25 eσ25
  have xσ25 : Ext σ22 σ25 := by rw [eσ25]; exact fun _ h => ⟨h, rfl, rfl⟩
  have iσ25 : IV σ25 pl gq ci gr nc ot LL N nu := by rw [eσ25]; exact iσ22.wSp (ko.up (xσ19.trans (xσ20.trans (xσ21.trans xσ22)))) (fun i hi => by omega) (by decide) (show (-1 : Int) ≤ r23 ∧ r23 ≤ 15 from ⟨by omega, by omega⟩)
  have fσ25 : Fx [323, 326, 327, 328, 386, 387, 388, 389, 390, 6464] gr σ σ25 := fσ22.tr (Sk.fx (by rw [eσ25]; exact Sk.pI (by rw [fcdO (ko.up (xσ19.trans (xσ20.trans (xσ21.trans xσ22)))) (by decide)]; decide)))
  have oxcσ25 : OX o σ σ25 := oxcσ22.tr (by rw [eσ25]; exact OX.pI (ko.up (xσ19.trans (xσ20.trans (xσ21.trans xσ22)))) (Or.inr rfl)) (xσ19.trans (xσ20.trans (xσ21.trans xσ22)))
  have wσ25 : gI σ25 o 8 = r23 := by rw [eσ25]; exact up2_s _ _ _ _
  have kp68 : gP σ25 th 0 = gP σ22 th 0 := by rw [eσ25]
  have kp69 : gP σ25 th 7 = gP σ22 th 7 := by rw [eσ25]
  have kp70 : gP σ25 th 8 = gP σ22 th 8 := by rw [eσ25]
  have kp71 : gI σ25 th 2 = gI σ22 th 2 := by rw [eσ25]; exact up2_n _ _ (fun q => absurd q.2 (by decide))
  have kp72 : gI σ25 th 3 = gI σ22 th 3 := by rw [eσ25]; exact up2_n _ _ (fun q => absurd q.2 (by decide))
  have kp73 : gI σ25 th 5 = gI σ22 th 5 := by rw [eσ25]; exact up2_n _ _ (fun q => absurd q.2 (by decide))
  have kp74 : Kpt (gI σ25 J 7 = gI σ J 7) := Eq.trans (show gI σ25 J 7 = gI σ22 J 7 from by rw [eσ25]; exact up2_n _ _ (fun q => absurd q.2 (by decide))) kp59
  have kp75 : Kpt (gI σ25 J 1 = gI σ J 1) := Eq.trans (show gI σ25 J 1 = gI σ22 J 1 from by rw [eσ25]; exact up2_n _ _ (fun q => absurd q.2 (by decide))) kp60
  have kp76 : Kpt (gI σ25 J 2 = gI σ J 2) := Eq.trans (show gI σ25 J 2 = gI σ22 J 2 from by rw [eσ25]; exact up2_n _ _ (fun q => absurd q.2 (by decide))) kp61
  have kp77 : Kpt (gI σ25 o 3 = gI σ o 3) := Eq.trans (show gI σ25 o 3 = gI σ22 o 3 from by rw [eσ25]; exact up2_n _ _ (fun q => absurd q.2 (by decide))) kp62
  have kp78 : Kpt (gI σ25 o 4 = gI σ o 4) := Eq.trans (show gI σ25 o 4 = gI σ22 o 4 from by rw [eσ25]; exact up2_n _ _ (fun q => absurd q.2 (by decide))) kp63
  have kp79 : Kpt (gI σ25 o 6 = gI σ20 o 6) := Eq.trans (show gI σ25 o 6 = gI σ22 o 6 from by rw [eσ25]; exact up2_n _ _ (fun q => absurd q.2 (by decide))) kp64
  have kp80 : Kpt (gI σ25 o 7 = gI σ20 o 7) := Eq.trans (show gI σ25 o 7 = gI σ22 o 7 from by rw [eσ25]; exact up2_n _ _ (fun q => absurd q.2 (by decide))) kp65
  have kp81 : Kpt (gI σ25 o 9 = gI σ o 9) := Eq.trans (show gI σ25 o 9 = gI σ22 o 9 from by rw [eσ25]; exact up2_n _ _ (fun q => absurd q.2 (by decide))) kp67
  refine ⟨J, (kp69.trans (kp54.trans (kp39.trans (kp26.trans (kp17.trans h7))))), fun kk_J => ?_⟩
  refine ⟨o, (kp70.trans (kp55.trans (kp40.trans (kp27.trans (kp18.trans h8))))), fun kk_o_1 => ?_⟩
  obtain ⟨b, eb, fb⟩ := P_4_0 iσ25.1 (kJ.up (xσ19.trans (xσ20.trans (xσ21.trans (xσ22.trans xσ25)))))
  have mb : kO σ25 b 115 := iσ25.1.kd (kJ.up (xσ19.trans (xσ20.trans (xσ21.trans (xσ22.trans xσ25))))) rfl eb rfl
  refine ⟨b, eb, fun kk_b => ?_⟩
  have ho82 : gI σ25 o 7 = gI σ20 o 7 := kp80
  have q83 := I_5_7 iσ25.1 (ko.up (xσ19.trans (xσ20.trans (xσ21.trans (xσ22.trans xσ25)))))
  refine ⟨⟨by (first | omega | with_reducible assumption | with_reducible exact rng_toInt _ | with_reducible exact rng_wr _ | (unfold rng; omega) | (unfold rng at *; omega) | assumption), by (first | omega | with_reducible assumption | with_reducible exact rng_toInt _ | with_reducible exact rng_wr _ | (unfold rng; omega) | (unfold rng at *; omega) | assumption)⟩, ?_⟩
  have ho84 : gI σ25 J 7 = gI σ J 7 := kp74
  have ho85 : gI σ25 J 1 = gI σ J 1 := kp75
  have ho86 : gI σ25 J 2 = gI σ J 2 := kp76
  have ho87 : gI σ25 o 3 = gI σ o 3 := kp77
  have ho88 : gI σ25 o 4 = gI σ o 4 := kp78
  have ho89 : gI σ25 o 6 = gI σ20 o 6 := kp79
  have ho90 : gI σ25 o 9 = gI σ o 9 := kp81
  obtain ⟨b_1, eb_1⟩ := P_115 iσ25.1 mb (k := (gI σ25 o 7).toNat) (by (first | omega | with_reducible assumption | with_reducible exact rng_toInt _ | with_reducible exact rng_wr _ | (unfold rng; omega) | (unfold rng at *; omega) | assumption))
  have fb_1 := T_115 iσ25.1 mb eb_1
  have mb_1 : kO σ25 b_1 5 := iσ25.1.kd mb rfl eb_1 rfl
  refine i_X5_addColumnsOf iσ25 (ko.up (xσ19.trans (xσ20.trans (xσ21.trans (xσ22.trans xσ25))))) eb_1 mb_1 (by (first | omega | with_reducible assumption | with_reducible exact rng_toInt _ | with_reducible exact rng_wr _ | (unfold rng; omega) | (unfold rng at *; omega) | assumption)) (by (first | omega | with_reducible assumption | with_reducible exact rng_toInt _ | with_reducible exact rng_wr _ | (unfold rng; omega) | (unfold rng at *; omega) | assumption)) (by (first | omega | with_reducible assumption | with_reducible exact rng_toInt _ | with_reducible exact rng_wr _ | (unfold rng; omega) | (unfold rng at *; omega) | assumption)) (fun e => absurd (congrArg gq e) (by omega)) (fun σ29 _ iσ29 cσ29 oxσ29 pσ29 => ?_)
  intro xσ29
  have fσ29 : Fx [323, 326, 327, 328, 386, 387, 388, 389, 390, 6464] gr σ σ29 := fσ25.tr (cσ29.mo (by decide))
  have oxcσ29 : OX o σ σ29 := oxcσ25.tr oxσ29 (xσ19.trans (xσ20.trans (xσ21.trans (xσ22.trans xσ25))))
  have kp91 : Kpt (gI σ29 o 7 = gI σ20 o 7) := Eq.trans (show gI σ29 o 7 = gI σ25 o 7 from (cσ29.O (ko.up (xσ19.trans (xσ20.trans (xσ21.trans (xσ22.trans xσ25))))) (by decide)).1) kp80
  have kp92 : Kpt (gI σ29 o 8 = gI σ25 o 8) := (show gI σ29 o 8 = gI σ25 o 8 from (cσ29.O (ko.up (xσ19.trans (xσ20.trans (xσ21.trans (xσ22.trans xσ25))))) (by decide)).1)
  have kp93 : gP σ29 J 0 = gP σ25 J 0 := (cσ29.O (kJ.up (xσ19.trans (xσ20.trans (xσ21.trans (xσ22.trans xσ25))))) (by decide)).2.1
  have kp94 : gP σ29 b (gI σ25 o 7).toNat = gP σ25 b (gI σ25 o 7).toNat := (cσ29.A mb (by decide)).2.1
  have kp95 : gP σ29 th 0 = gP σ25 th 0 := (cσ29.O (kth.up (xσ19.trans (xσ20.trans (xσ21.trans (xσ22.trans xσ25))))) (by decide)).2.1
  have kp96 : gP σ29 th 7 = gP σ25 th 7 := (cσ29.O (kth.up (xσ19.trans (xσ20.trans (xσ21.trans (xσ22.trans xσ25))))) (by decide)).2.1
  have kp97 : gP σ29 th 8 = gP σ25 th 8 := (cσ29.O (kth.up (xσ19.trans (xσ20.trans (xσ21.trans (xσ22.trans xσ25))))) (by decide)).2.1
  have kp98 : gI σ29 th 2 = gI σ25 th 2 := (cσ29.O (kth.up (xσ19.trans (xσ20.trans (xσ21.trans (xσ22.trans xσ25))))) (by decide)).1
  have kp99 : gI σ29 th 3 = gI σ25 th 3 := (cσ29.O (kth.up (xσ19.trans (xσ20.trans (xσ21.trans (xσ22.trans xσ25))))) (by decide)).1
  have kp100 : gI σ29 th 5 = gI σ25 th 5 := (cσ29.O (kth.up (xσ19.trans (xσ20.trans (xσ21.trans (xσ22.trans xσ25))))) (by decide)).1
  have kp101 : Kpt (gI σ29 J 7 = gI σ J 7) := Eq.trans (show gI σ29 J 7 = gI σ25 J 7 from (cσ29.O (kJ.up (xσ19.trans (xσ20.trans (xσ21.trans (xσ22.trans xσ25))))) (by decide)).1) kp74
  have kp102 : Kpt (gI σ29 J 1 = gI σ J 1) := Eq.trans (show gI σ29 J 1 = gI σ25 J 1 from (cσ29.O (kJ.up (xσ19.trans (xσ20.trans (xσ21.trans (xσ22.trans xσ25))))) (by decide)).1) kp75
  have kp103 : Kpt (gI σ29 J 2 = gI σ J 2) := Eq.trans (show gI σ29 J 2 = gI σ25 J 2 from (cσ29.O (kJ.up (xσ19.trans (xσ20.trans (xσ21.trans (xσ22.trans xσ25))))) (by decide)).1) kp76
  have kp104 : Kpt (gI σ29 o 4 = gI σ o 4) := Eq.trans (show gI σ29 o 4 = gI σ25 o 4 from (cσ29.O (ko.up (xσ19.trans (xσ20.trans (xσ21.trans (xσ22.trans xσ25))))) (by decide)).1) kp78
  have kp105 : Kpt (gI σ29 o 6 = gI σ20 o 6) := Eq.trans (show gI σ29 o 6 = gI σ25 o 6 from (cσ29.O (ko.up (xσ19.trans (xσ20.trans (xσ21.trans (xσ22.trans xσ25))))) (by decide)).1) kp79
  have kp106 : Kpt (gI σ29 o 9 = gI σ o 9) := Eq.trans (show gI σ29 o 9 = gI σ25 o 9 from (cσ29.O (ko.up (xσ19.trans (xσ20.trans (xσ21.trans (xσ22.trans xσ25))))) (by decide)).1) kp81
  refine ⟨J, (kp96.trans (kp69.trans (kp54.trans (kp39.trans (kp26.trans (kp17.trans h7)))))), fun kk_J_1 => ?_⟩
  refine ⟨o, (kp97.trans (kp70.trans (kp55.trans (kp40.trans (kp27.trans (kp18.trans h8)))))), fun kk_o_2 => ?_⟩
  refine ⟨b, (kp93.trans eb), fun kk_b_1 => ?_⟩
  have q107 := (xσ29 b mb.1).2.2
  have ho108 : gI σ29 o 8 = gI σ25 o 8 := kp92
  have q109 := I_5_8 iσ29.1 (ko.up (xσ19.trans (xσ20.trans (xσ21.trans (xσ22.trans (xσ25.trans xσ29))))))
  refine ⟨⟨by (first | omega | with_reducible assumption | with_reducible exact rng_toInt _ | with_reducible exact rng_wr _ | (unfold rng; omega) | (unfold rng at *; omega) | assumption), by (first | omega | with_reducible assumption | with_reducible exact rng_toInt _ | with_reducible exact rng_wr _ | (unfold rng; omega) | (unfold rng at *; omega) | assumption)⟩, ?_⟩
  obtain ⟨b_2, eb_2⟩ := P_115 iσ29.1 (mb.up xσ29) (k := (gI σ29 o 8).toNat) (by (first | omega | with_reducible assumption | with_reducible exact rng_toInt _ | with_reducible exact rng_wr _ | (unfold rng; omega) | (unfold rng at *; omega) | assumption))
  have fb_2 := T_115 iσ29.1 (mb.up xσ29) eb_2
  have mb_2 : kO σ29 b_2 5 := iσ29.1.kd (mb.up xσ29) rfl eb_2 rfl
  refine i_X5_hasColumnsOf iσ29 (ko.up (xσ19.trans (xσ20.trans (xσ21.trans (xσ22.trans (xσ25.trans xσ29)))))) eb_2 mb_2 (fun r34 pσ33 => ?_)
  intro xσ33
  by_cases hc110 : r34 ≠ 0
  · rw [if_pos hc110]
    unfold w_X6_unionText_77
    refine i_X6_next iσ29 (kth.up (xσ19.trans (xσ20.trans (xσ21.trans (xσ22.trans (xσ25.trans xσ29)))))) (kp95.trans (kp68.trans (kp53.trans (kp38.trans (kp25.trans (kp16.trans hX0)))))) (kX.up (xσ19.trans (xσ20.trans (xσ21.trans (xσ22.trans (xσ25.trans xσ29)))))) (((xσ19.trans (xσ20.trans (xσ21.trans (xσ22.trans (xσ25.trans xσ29))))) tx kX.1).2.2.trans gX) (by (first | omega | with_reducible assumption | with_reducible exact rng_toInt _ | with_reducible exact rng_wr _ | (unfold rng; omega) | (unfold rng at *; omega) | assumption)) (by (first | omega | with_reducible assumption | with_reducible exact rng_toInt _ | with_reducible exact rng_wr _ | (unfold rng; omega) | (unfold rng at *; omega) | assumption)) (fun σ36 _ iσ36 cσ36 pσ36 => ?_) (fun σx LLx Nx nux E ix cx ux px => hX σx LLx Nx nux E ix (fσ29.tr (cx.mo (by decide))) (ux) (by first | exact px | exact ⟨by have := px.1; omega, px.2⟩ | (first | omega | with_reducible assumption | with_reducible exact rng_toInt _ | with_reducible exact rng_wr _ | (unfold rng; omega) | (unfold rng at *; omega) | assumption)))
    intro xσ36
    have fσ36 : Fx [323, 326, 327, 328, 386, 387, 388, 389, 390, 6464] gr σ σ36 := fσ29.tr (cσ36.mo (by decide))
    have oxcσ36 : OX o σ σ36 := oxcσ29.tr (OX.fx cσ36 (by decide) (by decide)) (xσ19.trans (xσ20.trans (xσ21.trans (xσ22.trans (xσ25.trans xσ29)))))
    have kp111 : Kpt (gI σ36 o 8 = gI σ25 o 8) := Eq.trans (show gI σ36 o 8 = gI σ29 o 8 from (cσ36.O (ko.up (xσ19.trans (xσ20.trans (xσ21.trans (xσ22.trans (xσ25.trans xσ29)))))) (by decide)).1) kp92
    have kp112 : gP σ36 J 0 = gP σ29 J 0 := (cσ36.O (kJ.up (xσ19.trans (xσ20.trans (xσ21.trans (xσ22.trans (xσ25.trans xσ29)))))) (by decide)).2.1
    have kp113 : gP σ36 b (gI σ25 o 7).toNat = gP σ29 b (gI σ25 o 7).toNat := (cσ36.A (mb.up xσ29) (by decide)).2.1
    have kp114 : gP σ36 b (gI σ29 o 8).toNat = gP σ29 b (gI σ29 o 8).toNat := (cσ36.A (mb.up xσ29) (by decide)).2.1
    have kp115 : gP σ36 th 0 = gP σ29 th 0 := (cσ36.O (kth.up (xσ19.trans (xσ20.trans (xσ21.trans (xσ22.trans (xσ25.trans xσ29)))))) (by decide)).2.1
    have kp116 : gP σ36 th 7 = gP σ29 th 7 := (cσ36.O (kth.up (xσ19.trans (xσ20.trans (xσ21.trans (xσ22.trans (xσ25.trans xσ29)))))) (by decide)).2.1
    have kp117 : gP σ36 th 8 = gP σ29 th 8 := (cσ36.O (kth.up (xσ19.trans (xσ20.trans (xσ21.trans (xσ22.trans (xσ25.trans xσ29)))))) (by decide)).2.1
    have kp118 : Kpt (gI σ36 J 7 = gI σ J 7) := Eq.trans (show gI σ36 J 7 = gI σ29 J 7 from (cσ36.O (kJ.up (xσ19.trans (xσ20.trans (xσ21.trans (xσ22.trans (xσ25.trans xσ29)))))) (by decide)).1) kp101
    have kp119 : Kpt (gI σ36 J 1 = gI σ J 1) := Eq.trans (show gI σ36 J 1 = gI σ29 J 1 from (cσ36.O (kJ.up (xσ19.trans (xσ20.trans (xσ21.trans (xσ22.trans (xσ25.trans xσ29)))))) (by decide)).1) kp102
    have kp120 : Kpt (gI σ36 J 2 = gI σ J 2) := Eq.trans (show gI σ36 J 2 = gI σ29 J 2 from (cσ36.O (kJ.up (xσ19.trans (xσ20.trans (xσ21.trans (xσ22.trans (xσ25.trans xσ29)))))) (by decide)).1) kp103
    have kp121 : Kpt (gI σ36 o 3 = gI σ29 o 3) := (show gI σ36 o 3 = gI σ29 o 3 from (cσ36.O (ko.up (xσ19.trans (xσ20.trans (xσ21.trans (xσ22.trans (xσ25.trans xσ29)))))) (by decide)).1)
    have kp122 : Kpt (gI σ36 o 4 = gI σ o 4) := Eq.trans (show gI σ36 o 4 = gI σ29 o 4 from (cσ36.O (ko.up (xσ19.trans (xσ20.trans (xσ21.trans (xσ22.trans (xσ25.trans xσ29)))))) (by decide)).1) kp104
    have kp123 : Kpt (gI σ36 o 6 = gI σ20 o 6) := Eq.trans (show gI σ36 o 6 = gI σ29 o 6 from (cσ36.O (ko.up (xσ19.trans (xσ20.trans (xσ21.trans (xσ22.trans (xσ25.trans xσ29)))))) (by decide)).1) kp105
    have kp124 : Kpt (gI σ36 o 7 = gI σ20 o 7) := Eq.trans (show gI σ36 o 7 = gI σ29 o 7 from (cσ36.O (ko.up (xσ19.trans (xσ20.trans (xσ21.trans (xσ22.trans (xσ25.trans xσ29)))))) (by decide)).1) kp91
    have kp125 : Kpt (gI σ36 o 9 = gI σ o 9) := Eq.trans (show gI σ36 o 9 = gI σ29 o 9 from (cσ36.O (ko.up (xσ19.trans (xσ20.trans (xσ21.trans (xσ22.trans (xσ25.trans xσ29)))))) (by decide)).1) kp106
    have r5σ36 := I_6_5 iσ36.1 (kth.up (xσ19.trans (xσ20.trans (xσ21.trans (xσ22.trans (xσ25.trans (xσ29.trans xσ36)))))))
    have ho126 : gI σ36 J 7 = gI σ J 7 := kp118
    have cp127 : (gI σ36 th 5 ≤ gI σ36 th 2 ∧ (gI σ36 th 3 ≠ 0 → gI σ36 th 5 + 1 ≤ gI σ36 th 2)) ∧ gI σ36 J 7 ≤ 2 * gI σ36 th 5 ∧ 0 ≤ gI σ36 th 5 := by omega
    clear pσ36 kp100 kp99 kp98 kp73 kp72 kp71 kp58 kp57 kp56 cp51
    have ho128 : gI σ36 o 8 = gI σ25 o 8 := kp111
    have ho129 : gI σ36 J 1 = gI σ J 1 := kp119
    have ho130 : gI σ36 J 2 = gI σ J 2 := kp120
    have ho131 : gI σ36 o 3 = gI σ29 o 3 := kp121
    have ho132 : gI σ36 o 4 = gI σ o 4 := kp122
    have ho133 : gI σ36 o 6 = gI σ20 o 6 := kp123
    have ho134 : gI σ36 o 7 = gI σ20 o 7 := kp124
    have ho135 : gI σ36 o 9 = gI σ o 9 := kp125
    exact hQ σ36 () iσ36 fσ36 oxcσ36 (⟨by omega, by omega, ⟨by omega, (fun h => absurd h (by omega)), (fun h => absurd h (by omega))⟩⟩)
  · rw [if_neg hc110]
    have hc110q := Classical.not_not.mp hc110
    unfold w_X6_unionText_71
    refine i_X6_refuse iσ29 (kth.up (xσ19.trans (xσ20.trans (xσ21.trans (xσ22.trans (xσ25.trans xσ29)))))) (by (first | omega | with_reducible assumption | with_reducible exact rng_toInt _ | with_reducible exact rng_wr _ | (unfold rng; omega) | (unfold rng at *; omega) | assumption)) (by (first | omega | with_reducible assumption | with_reducible exact rng_toInt _ | with_reducible exact rng_wr _ | (unfold rng; omega) | (unfold rng at *; omega) | assumption)) (by (first | omega | with_reducible assumption | with_reducible exact rng_toInt _ | with_reducible exact rng_wr _ | (unfold rng; omega) | (unfold rng at *; omega) | assumption)) (fun σ35 _ iσ35 cσ35 pσ35 => ?_) (fun σx LLx Nx nux E ix cx ux px => hX σx LLx Nx nux E ix (fσ29.tr (cx.mo (by decide))) (ux) (by first | exact px | exact ⟨by have := px.1; omega, px.2⟩ | (first | omega | with_reducible assumption | with_reducible exact rng_toInt _ | with_reducible exact rng_wr _ | (unfold rng; omega) | (unfold rng at *; omega) | assumption)))
    intro xσ35
    exact pσ35.elim
set_option maxHeartbeats 4000000 in
theorem i_X6_foldText {σ : Sg} {pl : Nat} {gq ci gr nc : Nat → Nat} {ot : Nat → Nat → Int} {LL : Nat → List Nat} {N nu : Nat → Nat} {th : Nat} {tx J o q c : Nat} (iσ : IV σ pl gq ci gr nc ot LL N nu) (kth : kO σ th 6) (hX0 : gP σ th 0 = some tx) (kX : kO σ tx 102) (gX : gn σ tx = 1500) (h7 : gP σ th 7 = some J) (kJ : kO σ J 4) (h8 : gP σ th 8 = some o) (ko : kO σ o 5) (hJq : gq J = q) (hq : q ≠ nc 0 ∧ q ≤ 1) (go : gq o = 16 * q + c) (hc : c < 16) (cJ : gI σ J 1 = (c : Int)) (tf : gI σ th 5 ≤ gI σ th 2 ∧ (gI σ th 3 ≠ 0 → gI σ th 5 + 1 ≤ gI σ th 2)) (h5 : nu 5 < 24000) (lp : gI σ J 7 ≤ 2 * gI σ th 5) (f0 : gI σ o 3 = 0 ∧ gI σ o 4 = 0 ∧ gI σ o 7 = -1 ∧ gI σ o 8 = -1) {Q : Sg → Unit → Prop} {X : Sg → String → Prop} (hQ : ∀ (σ' : Sg) (r : Unit), IV σ' pl gq ci gr nc ot LL N nu → Fx [323, 326, 327, 331, 332, 333, 386, 387, 388, 389, 390, 6464] gr σ σ' → OX o σ σ' → ((gI σ' th 5 ≤ gI σ' th 2 ∧ (gI σ' th 3 ≠ 0 → gI σ' th 5 + 1 ≤ gI σ' th 2)) ∧ gI σ' J 7 ≤ 2 * gI σ' th 5 ∧ (gI σ' o 6 = 4 ∨ gI σ' o 6 = 5) ∧ (0 ≤ gI σ' o 7 ∧ gI σ' o 7 < (c : Int)) ∧ gI σ' o 8 = -1 ∧ gI σ' o 3 = 1 ∧ gI σ' o 4 = 0) → Q σ' r) (hX : ∀ (σ' : Sg) (LL' : Nat → List Nat) (N' nu' : Nat → Nat) (E : String), IV σ' pl gq ci gr nc ot LL' N' nu' → Fx [323, 326, 327, 331, 332, 333, 386, 387, 388, 389, 390, 6464] gr σ σ' → NCX nu nu' → (LL' = LL ∧ N' = N ∧ E = "java/lang/IllegalArgumentException" ∧ gI σ' th 6 ≠ 0) → X σ' E) : wp_X6_foldText th σ Q X := by
  have fσ : Fx [323, 326, 327, 331, 332, 333, 386, 387, 388, 389, 390, 6464] gr σ σ := Fx.rf
  have oxσ : OX o σ σ := OX.rf
  have q1 := I_4_1 iσ.1 kJ
  have q2 := I_6_5 iσ.1 kth
  have q3 := I_6_2 iσ.1 kth
  have q4 := iσ.rg th 3; unfold rng at q4
  have q5 := I_4_7 iσ.1 kJ
  have q6 := I_5_3 iσ.1 ko
  have q7 := I_5_4 iσ.1 ko
  have q8 := I_5_7 iσ.1 ko
  have q9 := I_5_8 iσ.1 ko
  have ncb := iσ.ncb
  have r70 := I_4_7 iσ.1 kJ
  have r71 := I_4_1 iσ.1 kJ
  unfold wp_X6_foldText
  unfold w_X6_foldText_0
  refine i_X6_next iσ kth hX0 kX (((Ext.rfl' _) tx kX.1).2.2.trans gX) (by (first | omega | with_reducible assumption | with_reducible exact rng_toInt _ | with_reducible exact rng_wr _ | (unfold rng; omega) | (unfold rng at *; omega) | assumption)) (by (first | omega | with_reducible assumption | with_reducible exact rng_toInt _ | with_reducible exact rng_wr _ | (unfold rng; omega) | (unfold rng at *; omega) | assumption)) (fun σ40 _ iσ40 cσ40 pσ40 => ?_) (fun σx LLx Nx nux E ix cx ux px => hX σx LLx Nx nux E ix (fσ.tr (cx.mo (by decide))) (ux) (by first | exact px | exact ⟨by have := px.1; omega, px.2⟩ | (first | omega | with_reducible assumption | with_reducible exact rng_toInt _ | with_reducible exact rng_wr _ | (unfold rng; omega) | (unfold rng at *; omega) | assumption)))
  intro xσ40
  have fσ40 : Fx [323, 326, 327, 331, 332, 333, 386, 387, 388, 389, 390, 6464] gr σ σ40 := fσ.tr (cσ40.mo (by decide))
  have oxcσ40 : OX o σ σ40 := oxσ.tr (OX.fx cσ40 (by decide) (by decide)) (Ext.rfl' _)
  have kp10 : Kpt (gI σ40 J 1 = gI σ J 1) := (show gI σ40 J 1 = gI σ J 1 from (cσ40.O kJ (by decide)).1)
  have kp11 : Kpt (gI σ40 J 7 = gI σ J 7) := (show gI σ40 J 7 = gI σ J 7 from (cσ40.O kJ (by decide)).1)
  have kp12 : Kpt (gI σ40 o 3 = gI σ o 3) := (show gI σ40 o 3 = gI σ o 3 from (cσ40.O ko (by decide)).1)
  have kp13 : Kpt (gI σ40 o 4 = gI σ o 4) := (show gI σ40 o 4 = gI σ o 4 from (cσ40.O ko (by decide)).1)
  have kp14 : Kpt (gI σ40 o 7 = gI σ o 7) := (show gI σ40 o 7 = gI σ o 7 from (cσ40.O ko (by decide)).1)
  have kp15 : Kpt (gI σ40 o 8 = gI σ o 8) := (show gI σ40 o 8 = gI σ o 8 from (cσ40.O ko (by decide)).1)
  have kp16 : gP σ40 th 0 = gP σ th 0 := (cσ40.O kth (by decide)).2.1
  have kp17 : gP σ40 th 7 = gP σ th 7 := (cσ40.O kth (by decide)).2.1
  have kp18 : gP σ40 th 8 = gP σ th 8 := (cσ40.O kth (by decide)).2.1
  have kp19 : Kpt (gI σ40 J 2 = gI σ J 2) := (show gI σ40 J 2 = gI σ J 2 from (cσ40.O kJ (by decide)).1)
  have kp20 : Kpt (gI σ40 o 6 = gI σ o 6) := (show gI σ40 o 6 = gI σ o 6 from (cσ40.O ko (by decide)).1)
  have kp21 : Kpt (gI σ40 o 9 = gI σ o 9) := (show gI σ40 o 9 = gI σ o 9 from (cσ40.O ko (by decide)).1)
  have r5σ40 := I_6_5 iσ40.1 (kth.up xσ40)
  have ho22 : gI σ40 J 7 = gI σ J 7 := kp11
  have cp23 : (gI σ40 th 5 ≤ gI σ40 th 2 ∧ (gI σ40 th 3 ≠ 0 → gI σ40 th 5 + 1 ≤ gI σ40 th 2)) ∧ gI σ40 J 7 ≤ 2 * gI σ40 th 5 ∧ 0 ≤ gI σ40 th 5 := by omega
  clear pσ40 q3 q2
  have ho24 : gI σ40 J 1 = gI σ J 1 := kp10
  refine i_X6_firstInput iσ40 (kth.up xσ40) (kp17.trans h7) (kJ.up xσ40) (kp18.trans h8) (ko.up xσ40) (by (first | omega | with_reducible assumption | with_reducible exact rng_toInt _ | with_reducible exact rng_wr _ | (unfold rng; omega) | (unfold rng at *; omega) | assumption)) (by (first | omega | with_reducible assumption | with_reducible exact rng_toInt _ | with_reducible exact rng_wr _ | (unfold rng; omega) | (unfold rng at *; omega) | assumption)) (by (first | omega | with_reducible assumption | with_reducible exact rng_toInt _ | with_reducible exact rng_wr _ | (unfold rng; omega) | (unfold rng at *; omega) | assumption)) (by (first | omega | with_reducible assumption | with_reducible exact rng_toInt _ | with_reducible exact rng_wr _ | (unfold rng; omega) | (unfold rng at *; omega) | assumption)) (by (first | omega | with_reducible assumption | with_reducible exact rng_toInt _ | with_reducible exact rng_wr _ | (unfold rng; omega) | (unfold rng at *; omega) | assumption)) (by (first | omega | with_reducible assumption | with_reducible exact rng_toInt _ | with_reducible exact rng_wr _ | (unfold rng; omega) | (unfold rng at *; omega) | assumption)) (fun σ41 _ iσ41 cσ41 oxσ41 pσ41 => ?_) (fun σx LLx Nx nux E ix cx ux px => hX σx LLx Nx nux E ix (fσ40.tr (cx.mo (by decide))) (ux) (by first | exact px | exact ⟨by have := px.1; omega, px.2⟩ | (first | omega | with_reducible assumption | with_reducible exact rng_toInt _ | with_reducible exact rng_wr _ | (unfold rng; omega) | (unfold rng at *; omega) | assumption)))
  intro xσ41
  have fσ41 : Fx [323, 326, 327, 331, 332, 333, 386, 387, 388, 389, 390, 6464] gr σ σ41 := fσ40.tr (cσ41.mo (by decide))
  have oxcσ41 : OX o σ σ41 := oxcσ40.tr oxσ41 (xσ40)
  have kp25 : gP σ41 th 0 = gP σ40 th 0 := (cσ41.O (kth.up xσ40) (by decide)).2.1
  have kp26 : gP σ41 th 7 = gP σ40 th 7 := (cσ41.O (kth.up xσ40) (by decide)).2.1
  have kp27 : gP σ41 th 8 = gP σ40 th 8 := (cσ41.O (kth.up xσ40) (by decide)).2.1
  have kp28 : gI σ41 th 2 = gI σ40 th 2 := (cσ41.O (kth.up xσ40) (by decide)).1
  have kp29 : gI σ41 th 3 = gI σ40 th 3 := (cσ41.O (kth.up xσ40) (by decide)).1
  have kp30 : gI σ41 th 5 = gI σ40 th 5 := (cσ41.O (kth.up xσ40) (by decide)).1
  have kp31 : Kpt (gI σ41 J 7 = gI σ J 7) := Eq.trans (show gI σ41 J 7 = gI σ40 J 7 from (cσ41.O (kJ.up xσ40) (by decide)).1) kp11
  have kp32 : Kpt (gI σ41 J 1 = gI σ J 1) := Eq.trans (show gI σ41 J 1 = gI σ40 J 1 from (cσ41.O (kJ.up xσ40) (by decide)).1) kp10
  have kp33 : Kpt (gI σ41 J 2 = gI σ J 2) := Eq.trans (show gI σ41 J 2 = gI σ40 J 2 from (cσ41.O (kJ.up xσ40) (by decide)).1) kp19
  have kp34 : Kpt (gI σ41 o 3 = gI σ o 3) := Eq.trans (show gI σ41 o 3 = gI σ40 o 3 from (cσ41.O (ko.up xσ40) (by decide)).1) kp12
  have kp35 : Kpt (gI σ41 o 4 = gI σ o 4) := Eq.trans (show gI σ41 o 4 = gI σ40 o 4 from (cσ41.O (ko.up xσ40) (by decide)).1) kp13
  have kp36 : Kpt (gI σ41 o 8 = gI σ o 8) := Eq.trans (show gI σ41 o 8 = gI σ40 o 8 from (cσ41.O (ko.up xσ40) (by decide)).1) kp15
  have kp37 : Kpt (gI σ41 o 9 = gI σ o 9) := Eq.trans (show gI σ41 o 9 = gI σ40 o 9 from (cσ41.O (ko.up xσ40) (by decide)).1) kp21
  refine i_X6_next iσ41 (kth.up (xσ40.trans xσ41)) (kp25.trans (kp16.trans hX0)) (kX.up (xσ40.trans xσ41)) (((xσ40.trans xσ41) tx kX.1).2.2.trans gX) (by (first | omega | with_reducible assumption | with_reducible exact rng_toInt _ | with_reducible exact rng_wr _ | (unfold rng; omega) | (unfold rng at *; omega) | assumption)) (by (first | omega | with_reducible assumption | with_reducible exact rng_toInt _ | with_reducible exact rng_wr _ | (unfold rng; omega) | (unfold rng at *; omega) | assumption)) (fun σ42 _ iσ42 cσ42 pσ42 => ?_) (fun σx LLx Nx nux E ix cx ux px => hX σx LLx Nx nux E ix (fσ41.tr (cx.mo (by decide))) (ux) (by first | exact px | exact ⟨by have := px.1; omega, px.2⟩ | (first | omega | with_reducible assumption | with_reducible exact rng_toInt _ | with_reducible exact rng_wr _ | (unfold rng; omega) | (unfold rng at *; omega) | assumption)))
  intro xσ42
  have fσ42 : Fx [323, 326, 327, 331, 332, 333, 386, 387, 388, 389, 390, 6464] gr σ σ42 := fσ41.tr (cσ42.mo (by decide))
  have oxcσ42 : OX o σ σ42 := oxcσ41.tr (OX.fx cσ42 (by decide) (by decide)) (xσ40.trans xσ41)
  have kp38 : gP σ42 th 0 = gP σ41 th 0 := (cσ42.O (kth.up (xσ40.trans xσ41)) (by decide)).2.1
  have kp39 : gP σ42 th 7 = gP σ41 th 7 := (cσ42.O (kth.up (xσ40.trans xσ41)) (by decide)).2.1
  have kp40 : gP σ42 th 8 = gP σ41 th 8 := (cσ42.O (kth.up (xσ40.trans xσ41)) (by decide)).2.1
  have kp41 : Kpt (gI σ42 J 7 = gI σ J 7) := Eq.trans (show gI σ42 J 7 = gI σ41 J 7 from (cσ42.O (kJ.up (xσ40.trans xσ41)) (by decide)).1) kp31
  have kp42 : Kpt (gI σ42 J 1 = gI σ J 1) := Eq.trans (show gI σ42 J 1 = gI σ41 J 1 from (cσ42.O (kJ.up (xσ40.trans xσ41)) (by decide)).1) kp32
  have kp43 : Kpt (gI σ42 J 2 = gI σ J 2) := Eq.trans (show gI σ42 J 2 = gI σ41 J 2 from (cσ42.O (kJ.up (xσ40.trans xσ41)) (by decide)).1) kp33
  have kp44 : Kpt (gI σ42 o 3 = gI σ o 3) := Eq.trans (show gI σ42 o 3 = gI σ41 o 3 from (cσ42.O (ko.up (xσ40.trans xσ41)) (by decide)).1) kp34
  have kp45 : Kpt (gI σ42 o 4 = gI σ o 4) := Eq.trans (show gI σ42 o 4 = gI σ41 o 4 from (cσ42.O (ko.up (xσ40.trans xσ41)) (by decide)).1) kp35
  have kp46 : Kpt (gI σ42 o 6 = gI σ41 o 6) := (show gI σ42 o 6 = gI σ41 o 6 from (cσ42.O (ko.up (xσ40.trans xσ41)) (by decide)).1)
  have kp47 : Kpt (gI σ42 o 7 = gI σ41 o 7) := (show gI σ42 o 7 = gI σ41 o 7 from (cσ42.O (ko.up (xσ40.trans xσ41)) (by decide)).1)
  have kp48 : Kpt (gI σ42 o 8 = gI σ o 8) := Eq.trans (show gI σ42 o 8 = gI σ41 o 8 from (cσ42.O (ko.up (xσ40.trans xσ41)) (by decide)).1) kp36
  have kp49 : Kpt (gI σ42 o 9 = gI σ o 9) := Eq.trans (show gI σ42 o 9 = gI σ41 o 9 from (cσ42.O (ko.up (xσ40.trans xσ41)) (by decide)).1) kp37
  have r5σ42 := I_6_5 iσ42.1 (kth.up (xσ40.trans (xσ41.trans xσ42)))
  have ho50 : gI σ42 J 7 = gI σ J 7 := kp41
  have cp51 : (gI σ42 th 5 ≤ gI σ42 th 2 ∧ (gI σ42 th 3 ≠ 0 → gI σ42 th 5 + 1 ≤ gI σ42 th 2)) ∧ gI σ42 J 7 ≤ 2 * gI σ42 th 5 ∧ 0 ≤ gI σ42 th 5 := by omega
  clear pσ42 kp30 kp29 kp28 cp23
  refine i_X6_wantWord iσ42 (kth.up (xσ40.trans (xσ41.trans xσ42))) (kp38.trans (kp25.trans (kp16.trans hX0))) (kX.up (xσ40.trans (xσ41.trans xσ42))) (((xσ40.trans (xσ41.trans xσ42)) tx kX.1).2.2.trans gX) (by (first | omega | with_reducible assumption | with_reducible exact rng_toInt _ | with_reducible exact rng_wr _ | (unfold rng; omega) | (unfold rng at *; omega) | assumption)) (by (first | omega | with_reducible assumption | with_reducible exact rng_toInt _ | with_reducible exact rng_wr _ | (unfold rng; omega) | (unfold rng at *; omega) | assumption)) (fun σ43 _ iσ43 cσ43 pσ43 => ?_) (fun σx LLx Nx nux E ix cx ux px => hX σx LLx Nx nux E ix (fσ42.tr (cx.mo (by decide))) (ux) (by first | exact px | exact ⟨by have := px.1; omega, px.2⟩ | (first | omega | with_reducible assumption | with_reducible exact rng_toInt _ | with_reducible exact rng_wr _ | (unfold rng; omega) | (unfold rng at *; omega) | assumption)))
  intro xσ43
  have fσ43 : Fx [323, 326, 327, 331, 332, 333, 386, 387, 388, 389, 390, 6464] gr σ σ43 := fσ42.tr (cσ43.mo (by decide))
  have oxcσ43 : OX o σ σ43 := oxcσ42.tr (OX.fx cσ43 (by decide) (by decide)) (xσ40.trans (xσ41.trans xσ42))
  have kp52 : gP σ43 th 0 = gP σ42 th 0 := (cσ43.O (kth.up (xσ40.trans (xσ41.trans xσ42))) (by decide)).2.1
  have kp53 : gP σ43 th 7 = gP σ42 th 7 := (cσ43.O (kth.up (xσ40.trans (xσ41.trans xσ42))) (by decide)).2.1
  have kp54 : gP σ43 th 8 = gP σ42 th 8 := (cσ43.O (kth.up (xσ40.trans (xσ41.trans xσ42))) (by decide)).2.1
  have kp55 : Kpt (gI σ43 J 7 = gI σ J 7) := Eq.trans (show gI σ43 J 7 = gI σ42 J 7 from (cσ43.O (kJ.up (xσ40.trans (xσ41.trans xσ42))) (by decide)).1) kp41
  have kp56 : Kpt (gI σ43 J 1 = gI σ J 1) := Eq.trans (show gI σ43 J 1 = gI σ42 J 1 from (cσ43.O (kJ.up (xσ40.trans (xσ41.trans xσ42))) (by decide)).1) kp42
  have kp57 : Kpt (gI σ43 J 2 = gI σ J 2) := Eq.trans (show gI σ43 J 2 = gI σ42 J 2 from (cσ43.O (kJ.up (xσ40.trans (xσ41.trans xσ42))) (by decide)).1) kp43
  have kp58 : Kpt (gI σ43 o 3 = gI σ o 3) := Eq.trans (show gI σ43 o 3 = gI σ42 o 3 from (cσ43.O (ko.up (xσ40.trans (xσ41.trans xσ42))) (by decide)).1) kp44
  have kp59 : Kpt (gI σ43 o 4 = gI σ o 4) := Eq.trans (show gI σ43 o 4 = gI σ42 o 4 from (cσ43.O (ko.up (xσ40.trans (xσ41.trans xσ42))) (by decide)).1) kp45
  have kp60 : Kpt (gI σ43 o 6 = gI σ41 o 6) := Eq.trans (show gI σ43 o 6 = gI σ42 o 6 from (cσ43.O (ko.up (xσ40.trans (xσ41.trans xσ42))) (by decide)).1) kp46
  have kp61 : Kpt (gI σ43 o 7 = gI σ41 o 7) := Eq.trans (show gI σ43 o 7 = gI σ42 o 7 from (cσ43.O (ko.up (xσ40.trans (xσ41.trans xσ42))) (by decide)).1) kp47
  have kp62 : Kpt (gI σ43 o 8 = gI σ o 8) := Eq.trans (show gI σ43 o 8 = gI σ42 o 8 from (cσ43.O (ko.up (xσ40.trans (xσ41.trans xσ42))) (by decide)).1) kp48
  have kp63 : Kpt (gI σ43 o 9 = gI σ o 9) := Eq.trans (show gI σ43 o 9 = gI σ42 o 9 from (cσ43.O (ko.up (xσ40.trans (xσ41.trans xσ42))) (by decide)).1) kp49
  have r5σ43 := I_6_5 iσ43.1 (kth.up (xσ40.trans (xσ41.trans (xσ42.trans xσ43))))
  have ho64 : gI σ43 J 7 = gI σ J 7 := kp55
  have cp65 : (gI σ43 th 5 ≤ gI σ43 th 2 ∧ (gI σ43 th 3 ≠ 0 → gI σ43 th 5 + 1 ≤ gI σ43 th 2)) ∧ gI σ43 J 7 ≤ 2 * gI σ43 th 5 ∧ 0 ≤ gI σ43 th 5 := by omega
  clear pσ43 cp51
  refine ⟨J, (kp53.trans (kp39.trans (kp26.trans (kp17.trans h7)))), fun kk_J => ?_⟩
  refine ⟨o, (kp54.trans (kp40.trans (kp27.trans (kp18.trans h8)))), fun kk_o => ?_⟩
  obtain ⟨b, eb, fb⟩ := P_4_0 iσ43.1 (kJ.up (xσ40.trans (xσ41.trans (xσ42.trans xσ43))))
  have mb : kO σ43 b 115 := iσ43.1.kd (kJ.up (xσ40.trans (xσ41.trans (xσ42.trans xσ43)))) rfl eb rfl
  refine ⟨b, eb, fun kk_b => ?_⟩
  have ho66 : gI σ43 o 7 = gI σ41 o 7 := kp61
  have q67 := I_5_7 iσ43.1 (ko.up (xσ40.trans (xσ41.trans (xσ42.trans xσ43))))
  refine ⟨⟨by (first | omega | with_reducible assumption | with_reducible exact rng_toInt _ | with_reducible exact rng_wr _ | (unfold rng; omega) | (unfold rng at *; omega) | assumption), by (first | omega | with_reducible assumption | with_reducible exact rng_toInt _ | with_reducible exact rng_wr _ | (unfold rng; omega) | (unfold rng at *; omega) | assumption)⟩, ?_⟩
  obtain ⟨b_1, eb_1⟩ := P_115 iσ43.1 mb (k := (gI σ43 o 7).toNat) (by (first | omega | with_reducible assumption | with_reducible exact rng_toInt _ | with_reducible exact rng_wr _ | (unfold rng; omega) | (unfold rng at *; omega) | assumption))
  have fb_1 := T_115 iσ43.1 mb eb_1
  have mb_1 : kO σ43 b_1 5 := iσ43.1.kd mb rfl eb_1 rfl
  refine i_X6_column iσ43 (kth.up (xσ40.trans (xσ41.trans (xσ42.trans xσ43)))) eb_1 mb_1 (by (first | omega | with_reducible assumption | with_reducible exact rng_toInt _ | with_reducible exact rng_wr _ | (unfold rng; omega) | (unfold rng at *; omega) | assumption)) (fun σ47 r48 iσ47 cσ47 pσ47 => ?_) (fun σx LLx Nx nux E ix cx ux px => hX σx LLx Nx nux E ix (fσ43.tr (cx.mo (by decide))) (ux) (by first | exact px | exact ⟨by have := px.1; omega, px.2⟩ | (first | omega | with_reducible assumption | with_reducible exact rng_toInt _ | with_reducible exact rng_wr _ | (unfold rng; omega) | (unfold rng at *; omega) | assumption)))
  intro xσ47
  have fσ47 : Fx [323, 326, 327, 331, 332, 333, 386, 387, 388, 389, 390, 6464] gr σ σ47 := fσ43.tr (cσ47.mo (by decide))
  have oxcσ47 : OX o σ σ47 := oxcσ43.tr (OX.fx cσ47 (by decide) (by decide)) (xσ40.trans (xσ41.trans (xσ42.trans xσ43)))
  have kp68 : Kpt (gI σ47 o 7 = gI σ41 o 7) := Eq.trans (show gI σ47 o 7 = gI σ43 o 7 from (cσ47.O (ko.up (xσ40.trans (xσ41.trans (xσ42.trans xσ43)))) (by decide)).1) kp61
  have kp69 : gP σ47 J 0 = gP σ43 J 0 := (cσ47.O (kJ.up (xσ40.trans (xσ41.trans (xσ42.trans xσ43)))) (by decide)).2.1
  have kp70 : gP σ47 b (gI σ43 o 7).toNat = gP σ43 b (gI σ43 o 7).toNat := (cσ47.A mb (by decide)).2.1
  have kp71 : gP σ47 th 0 = gP σ43 th 0 := (cσ47.O (kth.up (xσ40.trans (xσ41.trans (xσ42.trans xσ43)))) (by decide)).2.1
  have kp72 : gP σ47 th 7 = gP σ43 th 7 := (cσ47.O (kth.up (xσ40.trans (xσ41.trans (xσ42.trans xσ43)))) (by decide)).2.1
  have kp73 : gP σ47 th 8 = gP σ43 th 8 := (cσ47.O (kth.up (xσ40.trans (xσ41.trans (xσ42.trans xσ43)))) (by decide)).2.1
  have kp74 : gI σ47 th 2 = gI σ43 th 2 := (cσ47.O (kth.up (xσ40.trans (xσ41.trans (xσ42.trans xσ43)))) (by decide)).1
  have kp75 : gI σ47 th 3 = gI σ43 th 3 := (cσ47.O (kth.up (xσ40.trans (xσ41.trans (xσ42.trans xσ43)))) (by decide)).1
  have kp76 : gI σ47 th 5 = gI σ43 th 5 := (cσ47.O (kth.up (xσ40.trans (xσ41.trans (xσ42.trans xσ43)))) (by decide)).1
  have kp77 : Kpt (gI σ47 J 7 = gI σ J 7) := Eq.trans (show gI σ47 J 7 = gI σ43 J 7 from (cσ47.O (kJ.up (xσ40.trans (xσ41.trans (xσ42.trans xσ43)))) (by decide)).1) kp55
  have kp78 : Kpt (gI σ47 J 1 = gI σ J 1) := Eq.trans (show gI σ47 J 1 = gI σ43 J 1 from (cσ47.O (kJ.up (xσ40.trans (xσ41.trans (xσ42.trans xσ43)))) (by decide)).1) kp56
  have kp79 : Kpt (gI σ47 J 2 = gI σ J 2) := Eq.trans (show gI σ47 J 2 = gI σ43 J 2 from (cσ47.O (kJ.up (xσ40.trans (xσ41.trans (xσ42.trans xσ43)))) (by decide)).1) kp57
  have kp80 : Kpt (gI σ47 o 3 = gI σ o 3) := Eq.trans (show gI σ47 o 3 = gI σ43 o 3 from (cσ47.O (ko.up (xσ40.trans (xσ41.trans (xσ42.trans xσ43)))) (by decide)).1) kp58
  have kp81 : Kpt (gI σ47 o 4 = gI σ o 4) := Eq.trans (show gI σ47 o 4 = gI σ43 o 4 from (cσ47.O (ko.up (xσ40.trans (xσ41.trans (xσ42.trans xσ43)))) (by decide)).1) kp59
  have kp82 : Kpt (gI σ47 o 6 = gI σ41 o 6) := Eq.trans (show gI σ47 o 6 = gI σ43 o 6 from (cσ47.O (ko.up (xσ40.trans (xσ41.trans (xσ42.trans xσ43)))) (by decide)).1) kp60
  have kp83 : Kpt (gI σ47 o 8 = gI σ o 8) := Eq.trans (show gI σ47 o 8 = gI σ43 o 8 from (cσ47.O (ko.up (xσ40.trans (xσ41.trans (xσ42.trans xσ43)))) (by decide)).1) kp62
  have kp84 : Kpt (gI σ47 o 9 = gI σ o 9) := Eq.trans (show gI σ47 o 9 = gI σ43 o 9 from (cσ47.O (ko.up (xσ40.trans (xσ41.trans (xσ42.trans xσ43)))) (by decide)).1) kp63
  intro σ49 eσ49
  have xσ49 : Ext σ47 σ49 := by rw [eσ49]; exact fun _ h => ⟨h, rfl, rfl⟩
  have iσ49 : IV σ49 pl gq ci gr nc ot LL N nu := by rw [eσ49]; exact iσ47.wSp (ko.up (xσ40.trans (xσ41.trans (xσ42.trans (xσ43.trans xσ47))))) (fun i hi => by omega) (by decide) (show (0 : Int) ≤ r48 ∧ r48 ≤ 7 from ⟨by omega, by omega⟩)
  have fσ49 : Fx [323, 326, 327, 331, 332, 333, 386, 387, 388, 389, 390, 6464] gr σ σ49 := fσ47.tr (Sk.fx (by rw [eσ49]; exact Sk.pI (by rw [fcdO (ko.up (xσ40.trans (xσ41.trans (xσ42.trans (xσ43.trans xσ47))))) (by decide)]; decide)))
  have oxcσ49 : OX o σ σ49 := oxcσ47.tr (by rw [eσ49]; exact OX.pI (ko.up (xσ40.trans (xσ41.trans (xσ42.trans (xσ43.trans xσ47))))) (Or.inr rfl)) (xσ40.trans (xσ41.trans (xσ42.trans (xσ43.trans xσ47))))
  have wσ49 : gI σ49 o 13 = r48 := by rw [eσ49]; exact up2_s _ _ _ _
  have kp85 : gP σ49 J 0 = gP σ47 J 0 := by rw [eσ49]
  have kp86 : gP σ49 b (gI σ43 o 7).toNat = gP σ47 b (gI σ43 o 7).toNat := by rw [eσ49]
  have kp87 : gP σ49 th 0 = gP σ47 th 0 := by rw [eσ49]
  have kp88 : gP σ49 th 7 = gP σ47 th 7 := by rw [eσ49]
  have kp89 : gP σ49 th 8 = gP σ47 th 8 := by rw [eσ49]
  have kp90 : gI σ49 th 2 = gI σ47 th 2 := by rw [eσ49]; exact up2_n _ _ (fun q => absurd q.2 (by decide))
  have kp91 : gI σ49 th 3 = gI σ47 th 3 := by rw [eσ49]; exact up2_n _ _ (fun q => absurd q.2 (by decide))
  have kp92 : gI σ49 th 5 = gI σ47 th 5 := by rw [eσ49]; exact up2_n _ _ (fun q => absurd q.2 (by decide))
  have kp93 : Kpt (gI σ49 J 7 = gI σ J 7) := Eq.trans (show gI σ49 J 7 = gI σ47 J 7 from by rw [eσ49]; exact up2_n _ _ (fun q => absurd q.2 (by decide))) kp77
  have kp94 : Kpt (gI σ49 J 1 = gI σ J 1) := Eq.trans (show gI σ49 J 1 = gI σ47 J 1 from by rw [eσ49]; exact up2_n _ _ (fun q => absurd q.2 (by decide))) kp78
  have kp95 : Kpt (gI σ49 J 2 = gI σ J 2) := Eq.trans (show gI σ49 J 2 = gI σ47 J 2 from by rw [eσ49]; exact up2_n _ _ (fun q => absurd q.2 (by decide))) kp79
  have kp96 : Kpt (gI σ49 o 3 = gI σ o 3) := Eq.trans (show gI σ49 o 3 = gI σ47 o 3 from by rw [eσ49]; exact up2_n _ _ (fun q => absurd q.2 (by decide))) kp80
  have kp97 : Kpt (gI σ49 o 4 = gI σ o 4) := Eq.trans (show gI σ49 o 4 = gI σ47 o 4 from by rw [eσ49]; exact up2_n _ _ (fun q => absurd q.2 (by decide))) kp81
  have kp98 : Kpt (gI σ49 o 6 = gI σ41 o 6) := Eq.trans (show gI σ49 o 6 = gI σ47 o 6 from by rw [eσ49]; exact up2_n _ _ (fun q => absurd q.2 (by decide))) kp82
  have kp99 : Kpt (gI σ49 o 7 = gI σ41 o 7) := Eq.trans (show gI σ49 o 7 = gI σ47 o 7 from by rw [eσ49]; exact up2_n _ _ (fun q => absurd q.2 (by decide))) kp68
  have kp100 : Kpt (gI σ49 o 8 = gI σ o 8) := Eq.trans (show gI σ49 o 8 = gI σ47 o 8 from by rw [eσ49]; exact up2_n _ _ (fun q => absurd q.2 (by decide))) kp83
  have kp101 : Kpt (gI σ49 o 9 = gI σ o 9) := Eq.trans (show gI σ49 o 9 = gI σ47 o 9 from by rw [eσ49]; exact up2_n _ _ (fun q => absurd q.2 (by decide))) kp84
  refine ⟨o, (kp89.trans (kp73.trans (kp54.trans (kp40.trans (kp27.trans (kp18.trans h8)))))), fun kk_o_1 => ?_⟩
  have ho102 : gI σ49 o 3 = gI σ o 3 := kp96
  refine i_X5_addColumn iσ49 (ko.up (xσ40.trans (xσ41.trans (xσ42.trans (xσ43.trans (xσ47.trans xσ49)))))) (by (first | omega | with_reducible assumption | with_reducible exact rng_toInt _ | with_reducible exact rng_wr _ | (unfold rng; omega) | (unfold rng at *; omega) | assumption)) (by (first | omega | with_reducible assumption | with_reducible exact rng_toInt _ | with_reducible exact rng_wr _ | (unfold rng; omega) | (unfold rng at *; omega) | assumption)) (by (first | omega | with_reducible assumption | with_reducible exact rng_toInt _ | with_reducible exact rng_wr _ | (unfold rng; omega) | (unfold rng at *; omega) | assumption)) (fun σ50 _ iσ50 cσ50 oxσ50 pσ50 => ?_)
  intro xσ50
  have fσ50 : Fx [323, 326, 327, 331, 332, 333, 386, 387, 388, 389, 390, 6464] gr σ σ50 := fσ49.tr (cσ50.mo (by decide))
  have oxcσ50 : OX o σ σ50 := oxcσ49.tr oxσ50 (xσ40.trans (xσ41.trans (xσ42.trans (xσ43.trans (xσ47.trans xσ49)))))
  have kp103 : gI σ50 o 13 = gI σ49 o 13 := (cσ50.O (ko.up (xσ40.trans (xσ41.trans (xσ42.trans (xσ43.trans (xσ47.trans xσ49)))))) (by decide)).1
  have kp104 : gP σ50 J 0 = gP σ49 J 0 := (cσ50.O (kJ.up (xσ40.trans (xσ41.trans (xσ42.trans (xσ43.trans (xσ47.trans xσ49)))))) (by decide)).2.1
  have kp105 : gP σ50 b (gI σ43 o 7).toNat = gP σ49 b (gI σ43 o 7).toNat := (cσ50.A (mb.up (xσ47.trans xσ49)) (by decide)).2.1
  have kp106 : gP σ50 th 0 = gP σ49 th 0 := (cσ50.O (kth.up (xσ40.trans (xσ41.trans (xσ42.trans (xσ43.trans (xσ47.trans xσ49)))))) (by decide)).2.1
  have kp107 : gP σ50 th 7 = gP σ49 th 7 := (cσ50.O (kth.up (xσ40.trans (xσ41.trans (xσ42.trans (xσ43.trans (xσ47.trans xσ49)))))) (by decide)).2.1
  have kp108 : gP σ50 th 8 = gP σ49 th 8 := (cσ50.O (kth.up (xσ40.trans (xσ41.trans (xσ42.trans (xσ43.trans (xσ47.trans xσ49)))))) (by decide)).2.1
  have kp109 : gI σ50 th 2 = gI σ49 th 2 := (cσ50.O (kth.up (xσ40.trans (xσ41.trans (xσ42.trans (xσ43.trans (xσ47.trans xσ49)))))) (by decide)).1
  have kp110 : gI σ50 th 3 = gI σ49 th 3 := (cσ50.O (kth.up (xσ40.trans (xσ41.trans (xσ42.trans (xσ43.trans (xσ47.trans xσ49)))))) (by decide)).1
  have kp111 : gI σ50 th 5 = gI σ49 th 5 := (cσ50.O (kth.up (xσ40.trans (xσ41.trans (xσ42.trans (xσ43.trans (xσ47.trans xσ49)))))) (by decide)).1
  have kp112 : Kpt (gI σ50 J 7 = gI σ J 7) := Eq.trans (show gI σ50 J 7 = gI σ49 J 7 from (cσ50.O (kJ.up (xσ40.trans (xσ41.trans (xσ42.trans (xσ43.trans (xσ47.trans xσ49)))))) (by decide)).1) kp93
  have kp113 : Kpt (gI σ50 J 1 = gI σ J 1) := Eq.trans (show gI σ50 J 1 = gI σ49 J 1 from (cσ50.O (kJ.up (xσ40.trans (xσ41.trans (xσ42.trans (xσ43.trans (xσ47.trans xσ49)))))) (by decide)).1) kp94
  have kp114 : Kpt (gI σ50 J 2 = gI σ J 2) := Eq.trans (show gI σ50 J 2 = gI σ49 J 2 from (cσ50.O (kJ.up (xσ40.trans (xσ41.trans (xσ42.trans (xσ43.trans (xσ47.trans xσ49)))))) (by decide)).1) kp95
  have kp115 : Kpt (gI σ50 o 4 = gI σ o 4) := Eq.trans (show gI σ50 o 4 = gI σ49 o 4 from (cσ50.O (ko.up (xσ40.trans (xσ41.trans (xσ42.trans (xσ43.trans (xσ47.trans xσ49)))))) (by decide)).1) kp97
  have kp116 : Kpt (gI σ50 o 6 = gI σ41 o 6) := Eq.trans (show gI σ50 o 6 = gI σ49 o 6 from (cσ50.O (ko.up (xσ40.trans (xσ41.trans (xσ42.trans (xσ43.trans (xσ47.trans xσ49)))))) (by decide)).1) kp98
  have kp117 : Kpt (gI σ50 o 7 = gI σ41 o 7) := Eq.trans (show gI σ50 o 7 = gI σ49 o 7 from (cσ50.O (ko.up (xσ40.trans (xσ41.trans (xσ42.trans (xσ43.trans (xσ47.trans xσ49)))))) (by decide)).1) kp99
  have kp118 : Kpt (gI σ50 o 8 = gI σ o 8) := Eq.trans (show gI σ50 o 8 = gI σ49 o 8 from (cσ50.O (ko.up (xσ40.trans (xσ41.trans (xσ42.trans (xσ43.trans (xσ47.trans xσ49)))))) (by decide)).1) kp100
  have kp119 : Kpt (gI σ50 o 9 = gI σ o 9) := Eq.trans (show gI σ50 o 9 = gI σ49 o 9 from (cσ50.O (ko.up (xσ40.trans (xσ41.trans (xσ42.trans (xσ43.trans (xσ47.trans xσ49)))))) (by decide)).1) kp101
  refine i_X6_next iσ50 (kth.up (xσ40.trans (xσ41.trans (xσ42.trans (xσ43.trans (xσ47.trans (xσ49.trans xσ50))))))) (kp106.trans (kp87.trans (kp71.trans (kp52.trans (kp38.trans (kp25.trans (kp16.trans hX0))))))) (kX.up (xσ40.trans (xσ41.trans (xσ42.trans (xσ43.trans (xσ47.trans (xσ49.trans xσ50))))))) (((xσ40.trans (xσ41.trans (xσ42.trans (xσ43.trans (xσ47.trans (xσ49.trans xσ50)))))) tx kX.1).2.2.trans gX) (by (first | omega | with_reducible assumption | with_reducible exact rng_toInt _ | with_reducible exact rng_wr _ | (unfold rng; omega) | (unfold rng at *; omega) | assumption)) (by (first | omega | with_reducible assumption | with_reducible exact rng_toInt _ | with_reducible exact rng_wr _ | (unfold rng; omega) | (unfold rng at *; omega) | assumption)) (fun σ52 _ iσ52 cσ52 pσ52 => ?_) (fun σx LLx Nx nux E ix cx ux px => hX σx LLx Nx nux E ix (fσ50.tr (cx.mo (by decide))) (ux) (by first | exact px | exact ⟨by have := px.1; omega, px.2⟩ | (first | omega | with_reducible assumption | with_reducible exact rng_toInt _ | with_reducible exact rng_wr _ | (unfold rng; omega) | (unfold rng at *; omega) | assumption)))
  intro xσ52
  have fσ52 : Fx [323, 326, 327, 331, 332, 333, 386, 387, 388, 389, 390, 6464] gr σ σ52 := fσ50.tr (cσ52.mo (by decide))
  have oxcσ52 : OX o σ σ52 := oxcσ50.tr (OX.fx cσ52 (by decide) (by decide)) (xσ40.trans (xσ41.trans (xσ42.trans (xσ43.trans (xσ47.trans (xσ49.trans xσ50))))))
  have kp120 : gI σ52 o 13 = gI σ50 o 13 := (cσ52.O (ko.up (xσ40.trans (xσ41.trans (xσ42.trans (xσ43.trans (xσ47.trans (xσ49.trans xσ50))))))) (by decide)).1
  have kp121 : gP σ52 J 0 = gP σ50 J 0 := (cσ52.O (kJ.up (xσ40.trans (xσ41.trans (xσ42.trans (xσ43.trans (xσ47.trans (xσ49.trans xσ50))))))) (by decide)).2.1
  have kp122 : gP σ52 b (gI σ43 o 7).toNat = gP σ50 b (gI σ43 o 7).toNat := (cσ52.A (mb.up (xσ47.trans (xσ49.trans xσ50))) (by decide)).2.1
  have kp123 : gP σ52 th 0 = gP σ50 th 0 := (cσ52.O (kth.up (xσ40.trans (xσ41.trans (xσ42.trans (xσ43.trans (xσ47.trans (xσ49.trans xσ50))))))) (by decide)).2.1
  have kp124 : gP σ52 th 7 = gP σ50 th 7 := (cσ52.O (kth.up (xσ40.trans (xσ41.trans (xσ42.trans (xσ43.trans (xσ47.trans (xσ49.trans xσ50))))))) (by decide)).2.1
  have kp125 : gP σ52 th 8 = gP σ50 th 8 := (cσ52.O (kth.up (xσ40.trans (xσ41.trans (xσ42.trans (xσ43.trans (xσ47.trans (xσ49.trans xσ50))))))) (by decide)).2.1
  have kp126 : Kpt (gI σ52 J 7 = gI σ J 7) := Eq.trans (show gI σ52 J 7 = gI σ50 J 7 from (cσ52.O (kJ.up (xσ40.trans (xσ41.trans (xσ42.trans (xσ43.trans (xσ47.trans (xσ49.trans xσ50))))))) (by decide)).1) kp112
  have kp127 : Kpt (gI σ52 J 1 = gI σ J 1) := Eq.trans (show gI σ52 J 1 = gI σ50 J 1 from (cσ52.O (kJ.up (xσ40.trans (xσ41.trans (xσ42.trans (xσ43.trans (xσ47.trans (xσ49.trans xσ50))))))) (by decide)).1) kp113
  have kp128 : Kpt (gI σ52 J 2 = gI σ J 2) := Eq.trans (show gI σ52 J 2 = gI σ50 J 2 from (cσ52.O (kJ.up (xσ40.trans (xσ41.trans (xσ42.trans (xσ43.trans (xσ47.trans (xσ49.trans xσ50))))))) (by decide)).1) kp114
  have kp129 : Kpt (gI σ52 o 3 = gI σ50 o 3) := (show gI σ52 o 3 = gI σ50 o 3 from (cσ52.O (ko.up (xσ40.trans (xσ41.trans (xσ42.trans (xσ43.trans (xσ47.trans (xσ49.trans xσ50))))))) (by decide)).1)
  have kp130 : Kpt (gI σ52 o 4 = gI σ o 4) := Eq.trans (show gI σ52 o 4 = gI σ50 o 4 from (cσ52.O (ko.up (xσ40.trans (xσ41.trans (xσ42.trans (xσ43.trans (xσ47.trans (xσ49.trans xσ50))))))) (by decide)).1) kp115
  have kp131 : Kpt (gI σ52 o 6 = gI σ41 o 6) := Eq.trans (show gI σ52 o 6 = gI σ50 o 6 from (cσ52.O (ko.up (xσ40.trans (xσ41.trans (xσ42.trans (xσ43.trans (xσ47.trans (xσ49.trans xσ50))))))) (by decide)).1) kp116
  have kp132 : Kpt (gI σ52 o 7 = gI σ41 o 7) := Eq.trans (show gI σ52 o 7 = gI σ50 o 7 from (cσ52.O (ko.up (xσ40.trans (xσ41.trans (xσ42.trans (xσ43.trans (xσ47.trans (xσ49.trans xσ50))))))) (by decide)).1) kp117
  have kp133 : Kpt (gI σ52 o 8 = gI σ o 8) := Eq.trans (show gI σ52 o 8 = gI σ50 o 8 from (cσ52.O (ko.up (xσ40.trans (xσ41.trans (xσ42.trans (xσ43.trans (xσ47.trans (xσ49.trans xσ50))))))) (by decide)).1) kp118
  have kp134 : Kpt (gI σ52 o 9 = gI σ o 9) := Eq.trans (show gI σ52 o 9 = gI σ50 o 9 from (cσ52.O (ko.up (xσ40.trans (xσ41.trans (xσ42.trans (xσ43.trans (xσ47.trans (xσ49.trans xσ50))))))) (by decide)).1) kp119
  have r5σ52 := I_6_5 iσ52.1 (kth.up (xσ40.trans (xσ41.trans (xσ42.trans (xσ43.trans (xσ47.trans (xσ49.trans (xσ50.trans xσ52))))))))
  have ho135 : gI σ52 J 7 = gI σ J 7 := kp126
  have cp136 : (gI σ52 th 5 ≤ gI σ52 th 2 ∧ (gI σ52 th 3 ≠ 0 → gI σ52 th 5 + 1 ≤ gI σ52 th 2)) ∧ gI σ52 J 7 ≤ 2 * gI σ52 th 5 ∧ 0 ≤ gI σ52 th 5 := by omega
  clear pσ52 kp111 kp110 kp109 kp92 kp91 kp90 kp76 kp75 kp74 cp65
  refine i_X6_isWord iσ52 (kth.up (xσ40.trans (xσ41.trans (xσ42.trans (xσ43.trans (xσ47.trans (xσ49.trans (xσ50.trans xσ52)))))))) (fun r54 pσ53 => ?_)
  intro xσ53
  by_cases hc137 : r54 = 0
  · rw [if_pos hc137]
    unfold w_X6_foldText_103
    refine i_X6_wantWord iσ52 (kth.up (xσ40.trans (xσ41.trans (xσ42.trans (xσ43.trans (xσ47.trans (xσ49.trans (xσ50.trans xσ52)))))))) (kp123.trans (kp106.trans (kp87.trans (kp71.trans (kp52.trans (kp38.trans (kp25.trans (kp16.trans hX0)))))))) (kX.up (xσ40.trans (xσ41.trans (xσ42.trans (xσ43.trans (xσ47.trans (xσ49.trans (xσ50.trans xσ52)))))))) (((xσ40.trans (xσ41.trans (xσ42.trans (xσ43.trans (xσ47.trans (xσ49.trans (xσ50.trans xσ52))))))) tx kX.1).2.2.trans gX) (by (first | omega | with_reducible assumption | with_reducible exact rng_toInt _ | with_reducible exact rng_wr _ | (unfold rng; omega) | (unfold rng at *; omega) | assumption)) (by (first | omega | with_reducible assumption | with_reducible exact rng_toInt _ | with_reducible exact rng_wr _ | (unfold rng; omega) | (unfold rng at *; omega) | assumption)) (fun σ64 _ iσ64 cσ64 pσ64 => ?_) (fun σx LLx Nx nux E ix cx ux px => hX σx LLx Nx nux E ix (fσ52.tr (cx.mo (by decide))) (ux) (by first | exact px | exact ⟨by have := px.1; omega, px.2⟩ | (first | omega | with_reducible assumption | with_reducible exact rng_toInt _ | with_reducible exact rng_wr _ | (unfold rng; omega) | (unfold rng at *; omega) | assumption)))
    intro xσ64
    have fσ64 : Fx [323, 326, 327, 331, 332, 333, 386, 387, 388, 389, 390, 6464] gr σ σ64 := fσ52.tr (cσ64.mo (by decide))
    have oxcσ64 : OX o σ σ64 := oxcσ52.tr (OX.fx cσ64 (by decide) (by decide)) (xσ40.trans (xσ41.trans (xσ42.trans (xσ43.trans (xσ47.trans (xσ49.trans (xσ50.trans xσ52)))))))
    have kp138 : gI σ64 o 13 = gI σ52 o 13 := (cσ64.O (ko.up (xσ40.trans (xσ41.trans (xσ42.trans (xσ43.trans (xσ47.trans (xσ49.trans (xσ50.trans xσ52)))))))) (by decide)).1
    have kp139 : gP σ64 J 0 = gP σ52 J 0 := (cσ64.O (kJ.up (xσ40.trans (xσ41.trans (xσ42.trans (xσ43.trans (xσ47.trans (xσ49.trans (xσ50.trans xσ52)))))))) (by decide)).2.1
    have kp140 : gP σ64 b (gI σ43 o 7).toNat = gP σ52 b (gI σ43 o 7).toNat := (cσ64.A (mb.up (xσ47.trans (xσ49.trans (xσ50.trans xσ52)))) (by decide)).2.1
    have kp141 : gP σ64 th 0 = gP σ52 th 0 := (cσ64.O (kth.up (xσ40.trans (xσ41.trans (xσ42.trans (xσ43.trans (xσ47.trans (xσ49.trans (xσ50.trans xσ52)))))))) (by decide)).2.1
    have kp142 : gP σ64 th 7 = gP σ52 th 7 := (cσ64.O (kth.up (xσ40.trans (xσ41.trans (xσ42.trans (xσ43.trans (xσ47.trans (xσ49.trans (xσ50.trans xσ52)))))))) (by decide)).2.1
    have kp143 : gP σ64 th 8 = gP σ52 th 8 := (cσ64.O (kth.up (xσ40.trans (xσ41.trans (xσ42.trans (xσ43.trans (xσ47.trans (xσ49.trans (xσ50.trans xσ52)))))))) (by decide)).2.1
    have kp144 : Kpt (gI σ64 J 7 = gI σ J 7) := Eq.trans (show gI σ64 J 7 = gI σ52 J 7 from (cσ64.O (kJ.up (xσ40.trans (xσ41.trans (xσ42.trans (xσ43.trans (xσ47.trans (xσ49.trans (xσ50.trans xσ52)))))))) (by decide)).1) kp126
    have kp145 : Kpt (gI σ64 J 1 = gI σ J 1) := Eq.trans (show gI σ64 J 1 = gI σ52 J 1 from (cσ64.O (kJ.up (xσ40.trans (xσ41.trans (xσ42.trans (xσ43.trans (xσ47.trans (xσ49.trans (xσ50.trans xσ52)))))))) (by decide)).1) kp127
    have kp146 : Kpt (gI σ64 J 2 = gI σ J 2) := Eq.trans (show gI σ64 J 2 = gI σ52 J 2 from (cσ64.O (kJ.up (xσ40.trans (xσ41.trans (xσ42.trans (xσ43.trans (xσ47.trans (xσ49.trans (xσ50.trans xσ52)))))))) (by decide)).1) kp128
    have kp147 : Kpt (gI σ64 o 3 = gI σ50 o 3) := Eq.trans (show gI σ64 o 3 = gI σ52 o 3 from (cσ64.O (ko.up (xσ40.trans (xσ41.trans (xσ42.trans (xσ43.trans (xσ47.trans (xσ49.trans (xσ50.trans xσ52)))))))) (by decide)).1) kp129
    have kp148 : Kpt (gI σ64 o 4 = gI σ o 4) := Eq.trans (show gI σ64 o 4 = gI σ52 o 4 from (cσ64.O (ko.up (xσ40.trans (xσ41.trans (xσ42.trans (xσ43.trans (xσ47.trans (xσ49.trans (xσ50.trans xσ52)))))))) (by decide)).1) kp130
    have kp149 : Kpt (gI σ64 o 6 = gI σ41 o 6) := Eq.trans (show gI σ64 o 6 = gI σ52 o 6 from (cσ64.O (ko.up (xσ40.trans (xσ41.trans (xσ42.trans (xσ43.trans (xσ47.trans (xσ49.trans (xσ50.trans xσ52)))))))) (by decide)).1) kp131
    have kp150 : Kpt (gI σ64 o 7 = gI σ41 o 7) := Eq.trans (show gI σ64 o 7 = gI σ52 o 7 from (cσ64.O (ko.up (xσ40.trans (xσ41.trans (xσ42.trans (xσ43.trans (xσ47.trans (xσ49.trans (xσ50.trans xσ52)))))))) (by decide)).1) kp132
    have kp151 : Kpt (gI σ64 o 8 = gI σ o 8) := Eq.trans (show gI σ64 o 8 = gI σ52 o 8 from (cσ64.O (ko.up (xσ40.trans (xσ41.trans (xσ42.trans (xσ43.trans (xσ47.trans (xσ49.trans (xσ50.trans xσ52)))))))) (by decide)).1) kp133
    have kp152 : Kpt (gI σ64 o 9 = gI σ o 9) := Eq.trans (show gI σ64 o 9 = gI σ52 o 9 from (cσ64.O (ko.up (xσ40.trans (xσ41.trans (xσ42.trans (xσ43.trans (xσ47.trans (xσ49.trans (xσ50.trans xσ52)))))))) (by decide)).1) kp134
    have r5σ64 := I_6_5 iσ64.1 (kth.up (xσ40.trans (xσ41.trans (xσ42.trans (xσ43.trans (xσ47.trans (xσ49.trans (xσ50.trans (xσ52.trans xσ64)))))))))
    have ho153 : gI σ64 J 7 = gI σ J 7 := kp144
    have cp154 : (gI σ64 th 5 ≤ gI σ64 th 2 ∧ (gI σ64 th 3 ≠ 0 → gI σ64 th 5 + 1 ≤ gI σ64 th 2)) ∧ gI σ64 J 7 ≤ 2 * gI σ64 th 5 ∧ 0 ≤ gI σ64 th 5 := by omega
    clear pσ64 cp136
    refine i_X6_number iσ64 (kth.up (xσ40.trans (xσ41.trans (xσ42.trans (xσ43.trans (xσ47.trans (xσ49.trans (xσ50.trans (xσ52.trans xσ64))))))))) (by (first | omega | with_reducible assumption | with_reducible exact rng_toInt _ | with_reducible exact rng_wr _ | (unfold rng; omega) | (unfold rng at *; omega) | assumption)) (by (first | omega | with_reducible assumption | with_reducible exact rng_toInt _ | with_reducible exact rng_wr _ | (unfold rng; omega) | (unfold rng at *; omega) | assumption)) (fun σ65 r66 iσ65 cσ65 pσ65 => ?_) (fun σx LLx Nx nux E ix cx ux px => hX σx LLx Nx nux E ix (fσ64.tr (cx.mo (by decide))) (ux) (by first | exact px | exact ⟨by have := px.1; omega, px.2⟩ | (first | omega | with_reducible assumption | with_reducible exact rng_toInt _ | with_reducible exact rng_wr _ | (unfold rng; omega) | (unfold rng at *; omega) | assumption)))
    intro xσ65
    have fσ65 : Fx [323, 326, 327, 331, 332, 333, 386, 387, 388, 389, 390, 6464] gr σ σ65 := fσ64.tr (cσ65.mo (by decide))
    have oxcσ65 : OX o σ σ65 := oxcσ64.tr (OX.fx cσ65 (by decide) (by decide)) (xσ40.trans (xσ41.trans (xσ42.trans (xσ43.trans (xσ47.trans (xσ49.trans (xσ50.trans (xσ52.trans xσ64))))))))
    have kp155 : gI σ65 o 13 = gI σ64 o 13 := (cσ65.O (ko.up (xσ40.trans (xσ41.trans (xσ42.trans (xσ43.trans (xσ47.trans (xσ49.trans (xσ50.trans (xσ52.trans xσ64))))))))) (by decide)).1
    have kp156 : gP σ65 J 0 = gP σ64 J 0 := (cσ65.O (kJ.up (xσ40.trans (xσ41.trans (xσ42.trans (xσ43.trans (xσ47.trans (xσ49.trans (xσ50.trans (xσ52.trans xσ64))))))))) (by decide)).2.1
    have kp157 : gP σ65 b (gI σ43 o 7).toNat = gP σ64 b (gI σ43 o 7).toNat := (cσ65.A (mb.up (xσ47.trans (xσ49.trans (xσ50.trans (xσ52.trans xσ64))))) (by decide)).2.1
    have kp158 : gP σ65 th 0 = gP σ64 th 0 := (cσ65.O (kth.up (xσ40.trans (xσ41.trans (xσ42.trans (xσ43.trans (xσ47.trans (xσ49.trans (xσ50.trans (xσ52.trans xσ64))))))))) (by decide)).2.1
    have kp159 : gP σ65 th 7 = gP σ64 th 7 := (cσ65.O (kth.up (xσ40.trans (xσ41.trans (xσ42.trans (xσ43.trans (xσ47.trans (xσ49.trans (xσ50.trans (xσ52.trans xσ64))))))))) (by decide)).2.1
    have kp160 : gP σ65 th 8 = gP σ64 th 8 := (cσ65.O (kth.up (xσ40.trans (xσ41.trans (xσ42.trans (xσ43.trans (xσ47.trans (xσ49.trans (xσ50.trans (xσ52.trans xσ64))))))))) (by decide)).2.1
    have kp161 : gI σ65 th 2 = gI σ64 th 2 := (cσ65.O (kth.up (xσ40.trans (xσ41.trans (xσ42.trans (xσ43.trans (xσ47.trans (xσ49.trans (xσ50.trans (xσ52.trans xσ64))))))))) (by decide)).1
    have kp162 : gI σ65 th 3 = gI σ64 th 3 := (cσ65.O (kth.up (xσ40.trans (xσ41.trans (xσ42.trans (xσ43.trans (xσ47.trans (xσ49.trans (xσ50.trans (xσ52.trans xσ64))))))))) (by decide)).1
    have kp163 : gI σ65 th 5 = gI σ64 th 5 := (cσ65.O (kth.up (xσ40.trans (xσ41.trans (xσ42.trans (xσ43.trans (xσ47.trans (xσ49.trans (xσ50.trans (xσ52.trans xσ64))))))))) (by decide)).1
    have kp164 : Kpt (gI σ65 J 7 = gI σ J 7) := Eq.trans (show gI σ65 J 7 = gI σ64 J 7 from (cσ65.O (kJ.up (xσ40.trans (xσ41.trans (xσ42.trans (xσ43.trans (xσ47.trans (xσ49.trans (xσ50.trans (xσ52.trans xσ64))))))))) (by decide)).1) kp144
    have kp165 : Kpt (gI σ65 J 1 = gI σ J 1) := Eq.trans (show gI σ65 J 1 = gI σ64 J 1 from (cσ65.O (kJ.up (xσ40.trans (xσ41.trans (xσ42.trans (xσ43.trans (xσ47.trans (xσ49.trans (xσ50.trans (xσ52.trans xσ64))))))))) (by decide)).1) kp145
    have kp166 : Kpt (gI σ65 J 2 = gI σ J 2) := Eq.trans (show gI σ65 J 2 = gI σ64 J 2 from (cσ65.O (kJ.up (xσ40.trans (xσ41.trans (xσ42.trans (xσ43.trans (xσ47.trans (xσ49.trans (xσ50.trans (xσ52.trans xσ64))))))))) (by decide)).1) kp146
    have kp167 : Kpt (gI σ65 o 3 = gI σ50 o 3) := Eq.trans (show gI σ65 o 3 = gI σ64 o 3 from (cσ65.O (ko.up (xσ40.trans (xσ41.trans (xσ42.trans (xσ43.trans (xσ47.trans (xσ49.trans (xσ50.trans (xσ52.trans xσ64))))))))) (by decide)).1) kp147
    have kp168 : Kpt (gI σ65 o 4 = gI σ o 4) := Eq.trans (show gI σ65 o 4 = gI σ64 o 4 from (cσ65.O (ko.up (xσ40.trans (xσ41.trans (xσ42.trans (xσ43.trans (xσ47.trans (xσ49.trans (xσ50.trans (xσ52.trans xσ64))))))))) (by decide)).1) kp148
    have kp169 : Kpt (gI σ65 o 6 = gI σ41 o 6) := Eq.trans (show gI σ65 o 6 = gI σ64 o 6 from (cσ65.O (ko.up (xσ40.trans (xσ41.trans (xσ42.trans (xσ43.trans (xσ47.trans (xσ49.trans (xσ50.trans (xσ52.trans xσ64))))))))) (by decide)).1) kp149
    have kp170 : Kpt (gI σ65 o 7 = gI σ41 o 7) := Eq.trans (show gI σ65 o 7 = gI σ64 o 7 from (cσ65.O (ko.up (xσ40.trans (xσ41.trans (xσ42.trans (xσ43.trans (xσ47.trans (xσ49.trans (xσ50.trans (xσ52.trans xσ64))))))))) (by decide)).1) kp150
    have kp171 : Kpt (gI σ65 o 8 = gI σ o 8) := Eq.trans (show gI σ65 o 8 = gI σ64 o 8 from (cσ65.O (ko.up (xσ40.trans (xσ41.trans (xσ42.trans (xσ43.trans (xσ47.trans (xσ49.trans (xσ50.trans (xσ52.trans xσ64))))))))) (by decide)).1) kp151
    have kp172 : Kpt (gI σ65 o 9 = gI σ o 9) := Eq.trans (show gI σ65 o 9 = gI σ64 o 9 from (cσ65.O (ko.up (xσ40.trans (xσ41.trans (xσ42.trans (xσ43.trans (xσ47.trans (xσ49.trans (xσ50.trans (xσ52.trans xσ64))))))))) (by decide)).1) kp152
    refine ⟨o, (kp143.trans (kp125.trans (kp108.trans (kp89.trans (kp73.trans (kp54.trans (kp40.trans (kp27.trans (kp18.trans h8))))))))), fun kk_o_2 => ?_⟩
    intro σ68 eσ68
    have xσ68 : Ext σ65 σ68 := by rw [eσ68]; exact fun _ h => ⟨h, rfl, rfl⟩
    have iσ68 : IV σ68 pl gq ci gr nc ot LL N nu := by rw [eσ68]; exact iσ65.wSp (ko.up (xσ40.trans (xσ41.trans (xσ42.trans (xσ43.trans (xσ47.trans (xσ49.trans (xσ50.trans (xσ52.trans (xσ64.trans xσ65)))))))))) (fun i hi => by omega) (by decide) (show (0 : Int) ≤ r66 ∧ r66 ≤ 1000 from ⟨by omega, by omega⟩)
    have fσ68 : Fx [323, 326, 327, 331, 332, 333, 386, 387, 388, 389, 390, 6464] gr σ σ68 := fσ65.tr (Sk.fx (by rw [eσ68]; exact Sk.pI (by rw [fcdO (ko.up (xσ40.trans (xσ41.trans (xσ42.trans (xσ43.trans (xσ47.trans (xσ49.trans (xσ50.trans (xσ52.trans (xσ64.trans xσ65)))))))))) (by decide)]; decide)))
    have oxcσ68 : OX o σ σ68 := oxcσ65.tr (by rw [eσ68]; exact OX.pI (ko.up (xσ40.trans (xσ41.trans (xσ42.trans (xσ43.trans (xσ47.trans (xσ49.trans (xσ50.trans (xσ52.trans (xσ64.trans xσ65)))))))))) (Or.inr rfl)) (xσ40.trans (xσ41.trans (xσ42.trans (xσ43.trans (xσ47.trans (xσ49.trans (xσ50.trans (xσ52.trans (xσ64.trans xσ65)))))))))
    have wσ68 : gI σ68 o 11 = r66 := by rw [eσ68]; exact up2_s _ _ _ _
    have kp173 : gI σ68 o 13 = gI σ65 o 13 := by rw [eσ68]; exact up2_n _ _ (fun q => absurd q.2 (by decide))
    have kp174 : gP σ68 J 0 = gP σ65 J 0 := by rw [eσ68]
    have kp175 : gP σ68 b (gI σ43 o 7).toNat = gP σ65 b (gI σ43 o 7).toNat := by rw [eσ68]
    have kp176 : gP σ68 th 0 = gP σ65 th 0 := by rw [eσ68]
    have kp177 : gP σ68 th 7 = gP σ65 th 7 := by rw [eσ68]
    have kp178 : gP σ68 th 8 = gP σ65 th 8 := by rw [eσ68]
    have kp179 : gI σ68 th 2 = gI σ65 th 2 := by rw [eσ68]; exact up2_n _ _ (fun q => absurd q.2 (by decide))
    have kp180 : gI σ68 th 3 = gI σ65 th 3 := by rw [eσ68]; exact up2_n _ _ (fun q => absurd q.2 (by decide))
    have kp181 : gI σ68 th 5 = gI σ65 th 5 := by rw [eσ68]; exact up2_n _ _ (fun q => absurd q.2 (by decide))
    have kp182 : Kpt (gI σ68 J 7 = gI σ J 7) := Eq.trans (show gI σ68 J 7 = gI σ65 J 7 from by rw [eσ68]; exact up2_n _ _ (fun q => absurd q.2 (by decide))) kp164
    have kp183 : Kpt (gI σ68 J 1 = gI σ J 1) := Eq.trans (show gI σ68 J 1 = gI σ65 J 1 from by rw [eσ68]; exact up2_n _ _ (fun q => absurd q.2 (by decide))) kp165
    have kp184 : Kpt (gI σ68 J 2 = gI σ J 2) := Eq.trans (show gI σ68 J 2 = gI σ65 J 2 from by rw [eσ68]; exact up2_n _ _ (fun q => absurd q.2 (by decide))) kp166
    have kp185 : Kpt (gI σ68 o 3 = gI σ50 o 3) := Eq.trans (show gI σ68 o 3 = gI σ65 o 3 from by rw [eσ68]; exact up2_n _ _ (fun q => absurd q.2 (by decide))) kp167
    have kp186 : Kpt (gI σ68 o 4 = gI σ o 4) := Eq.trans (show gI σ68 o 4 = gI σ65 o 4 from by rw [eσ68]; exact up2_n _ _ (fun q => absurd q.2 (by decide))) kp168
    have kp187 : Kpt (gI σ68 o 6 = gI σ41 o 6) := Eq.trans (show gI σ68 o 6 = gI σ65 o 6 from by rw [eσ68]; exact up2_n _ _ (fun q => absurd q.2 (by decide))) kp169
    have kp188 : Kpt (gI σ68 o 7 = gI σ41 o 7) := Eq.trans (show gI σ68 o 7 = gI σ65 o 7 from by rw [eσ68]; exact up2_n _ _ (fun q => absurd q.2 (by decide))) kp170
    have kp189 : Kpt (gI σ68 o 8 = gI σ o 8) := Eq.trans (show gI σ68 o 8 = gI σ65 o 8 from by rw [eσ68]; exact up2_n _ _ (fun q => absurd q.2 (by decide))) kp171
    have kp190 : Kpt (gI σ68 o 9 = gI σ o 9) := Eq.trans (show gI σ68 o 9 = gI σ65 o 9 from by rw [eσ68]; exact up2_n _ _ (fun q => absurd q.2 (by decide))) kp172
    refine i_X6_next iσ68 (kth.up (xσ40.trans (xσ41.trans (xσ42.trans (xσ43.trans (xσ47.trans (xσ49.trans (xσ50.trans (xσ52.trans (xσ64.trans (xσ65.trans xσ68))))))))))) (kp176.trans (kp158.trans (kp141.trans (kp123.trans (kp106.trans (kp87.trans (kp71.trans (kp52.trans (kp38.trans (kp25.trans (kp16.trans hX0))))))))))) (kX.up (xσ40.trans (xσ41.trans (xσ42.trans (xσ43.trans (xσ47.trans (xσ49.trans (xσ50.trans (xσ52.trans (xσ64.trans (xσ65.trans xσ68))))))))))) (((xσ40.trans (xσ41.trans (xσ42.trans (xσ43.trans (xσ47.trans (xσ49.trans (xσ50.trans (xσ52.trans (xσ64.trans (xσ65.trans xσ68)))))))))) tx kX.1).2.2.trans gX) (by (first | omega | with_reducible assumption | with_reducible exact rng_toInt _ | with_reducible exact rng_wr _ | (unfold rng; omega) | (unfold rng at *; omega) | assumption)) (by (first | omega | with_reducible assumption | with_reducible exact rng_toInt _ | with_reducible exact rng_wr _ | (unfold rng; omega) | (unfold rng at *; omega) | assumption)) (fun σ69 _ iσ69 cσ69 pσ69 => ?_) (fun σx LLx Nx nux E ix cx ux px => hX σx LLx Nx nux E ix (fσ68.tr (cx.mo (by decide))) (ux) (by first | exact px | exact ⟨by have := px.1; omega, px.2⟩ | (first | omega | with_reducible assumption | with_reducible exact rng_toInt _ | with_reducible exact rng_wr _ | (unfold rng; omega) | (unfold rng at *; omega) | assumption)))
    intro xσ69
    have fσ69 : Fx [323, 326, 327, 331, 332, 333, 386, 387, 388, 389, 390, 6464] gr σ σ69 := fσ68.tr (cσ69.mo (by decide))
    have oxcσ69 : OX o σ σ69 := oxcσ68.tr (OX.fx cσ69 (by decide) (by decide)) (xσ40.trans (xσ41.trans (xσ42.trans (xσ43.trans (xσ47.trans (xσ49.trans (xσ50.trans (xσ52.trans (xσ64.trans (xσ65.trans xσ68))))))))))
    have kp191 : gI σ69 o 11 = gI σ68 o 11 := (cσ69.O (ko.up (xσ40.trans (xσ41.trans (xσ42.trans (xσ43.trans (xσ47.trans (xσ49.trans (xσ50.trans (xσ52.trans (xσ64.trans (xσ65.trans xσ68))))))))))) (by decide)).1
    have kp192 : gI σ69 o 13 = gI σ68 o 13 := (cσ69.O (ko.up (xσ40.trans (xσ41.trans (xσ42.trans (xσ43.trans (xσ47.trans (xσ49.trans (xσ50.trans (xσ52.trans (xσ64.trans (xσ65.trans xσ68))))))))))) (by decide)).1
    have kp193 : gP σ69 J 0 = gP σ68 J 0 := (cσ69.O (kJ.up (xσ40.trans (xσ41.trans (xσ42.trans (xσ43.trans (xσ47.trans (xσ49.trans (xσ50.trans (xσ52.trans (xσ64.trans (xσ65.trans xσ68))))))))))) (by decide)).2.1
    have kp194 : gP σ69 b (gI σ43 o 7).toNat = gP σ68 b (gI σ43 o 7).toNat := (cσ69.A (mb.up (xσ47.trans (xσ49.trans (xσ50.trans (xσ52.trans (xσ64.trans (xσ65.trans xσ68))))))) (by decide)).2.1
    have kp195 : gP σ69 th 0 = gP σ68 th 0 := (cσ69.O (kth.up (xσ40.trans (xσ41.trans (xσ42.trans (xσ43.trans (xσ47.trans (xσ49.trans (xσ50.trans (xσ52.trans (xσ64.trans (xσ65.trans xσ68))))))))))) (by decide)).2.1
    have kp196 : gP σ69 th 7 = gP σ68 th 7 := (cσ69.O (kth.up (xσ40.trans (xσ41.trans (xσ42.trans (xσ43.trans (xσ47.trans (xσ49.trans (xσ50.trans (xσ52.trans (xσ64.trans (xσ65.trans xσ68))))))))))) (by decide)).2.1
    have kp197 : gP σ69 th 8 = gP σ68 th 8 := (cσ69.O (kth.up (xσ40.trans (xσ41.trans (xσ42.trans (xσ43.trans (xσ47.trans (xσ49.trans (xσ50.trans (xσ52.trans (xσ64.trans (xσ65.trans xσ68))))))))))) (by decide)).2.1
    have kp198 : Kpt (gI σ69 J 7 = gI σ J 7) := Eq.trans (show gI σ69 J 7 = gI σ68 J 7 from (cσ69.O (kJ.up (xσ40.trans (xσ41.trans (xσ42.trans (xσ43.trans (xσ47.trans (xσ49.trans (xσ50.trans (xσ52.trans (xσ64.trans (xσ65.trans xσ68))))))))))) (by decide)).1) kp182
    have kp199 : Kpt (gI σ69 J 1 = gI σ J 1) := Eq.trans (show gI σ69 J 1 = gI σ68 J 1 from (cσ69.O (kJ.up (xσ40.trans (xσ41.trans (xσ42.trans (xσ43.trans (xσ47.trans (xσ49.trans (xσ50.trans (xσ52.trans (xσ64.trans (xσ65.trans xσ68))))))))))) (by decide)).1) kp183
    have kp200 : Kpt (gI σ69 J 2 = gI σ J 2) := Eq.trans (show gI σ69 J 2 = gI σ68 J 2 from (cσ69.O (kJ.up (xσ40.trans (xσ41.trans (xσ42.trans (xσ43.trans (xσ47.trans (xσ49.trans (xσ50.trans (xσ52.trans (xσ64.trans (xσ65.trans xσ68))))))))))) (by decide)).1) kp184
    have kp201 : Kpt (gI σ69 o 3 = gI σ50 o 3) := Eq.trans (show gI σ69 o 3 = gI σ68 o 3 from (cσ69.O (ko.up (xσ40.trans (xσ41.trans (xσ42.trans (xσ43.trans (xσ47.trans (xσ49.trans (xσ50.trans (xσ52.trans (xσ64.trans (xσ65.trans xσ68))))))))))) (by decide)).1) kp185
    have kp202 : Kpt (gI σ69 o 4 = gI σ o 4) := Eq.trans (show gI σ69 o 4 = gI σ68 o 4 from (cσ69.O (ko.up (xσ40.trans (xσ41.trans (xσ42.trans (xσ43.trans (xσ47.trans (xσ49.trans (xσ50.trans (xσ52.trans (xσ64.trans (xσ65.trans xσ68))))))))))) (by decide)).1) kp186
    have kp203 : Kpt (gI σ69 o 6 = gI σ41 o 6) := Eq.trans (show gI σ69 o 6 = gI σ68 o 6 from (cσ69.O (ko.up (xσ40.trans (xσ41.trans (xσ42.trans (xσ43.trans (xσ47.trans (xσ49.trans (xσ50.trans (xσ52.trans (xσ64.trans (xσ65.trans xσ68))))))))))) (by decide)).1) kp187
    have kp204 : Kpt (gI σ69 o 7 = gI σ41 o 7) := Eq.trans (show gI σ69 o 7 = gI σ68 o 7 from (cσ69.O (ko.up (xσ40.trans (xσ41.trans (xσ42.trans (xσ43.trans (xσ47.trans (xσ49.trans (xσ50.trans (xσ52.trans (xσ64.trans (xσ65.trans xσ68))))))))))) (by decide)).1) kp188
    have kp205 : Kpt (gI σ69 o 8 = gI σ o 8) := Eq.trans (show gI σ69 o 8 = gI σ68 o 8 from (cσ69.O (ko.up (xσ40.trans (xσ41.trans (xσ42.trans (xσ43.trans (xσ47.trans (xσ49.trans (xσ50.trans (xσ52.trans (xσ64.trans (xσ65.trans xσ68))))))))))) (by decide)).1) kp189
    have kp206 : Kpt (gI σ69 o 9 = gI σ o 9) := Eq.trans (show gI σ69 o 9 = gI σ68 o 9 from (cσ69.O (ko.up (xσ40.trans (xσ41.trans (xσ42.trans (xσ43.trans (xσ47.trans (xσ49.trans (xσ50.trans (xσ52.trans (xσ64.trans (xσ65.trans xσ68))))))))))) (by decide)).1) kp190
    have r5σ69 := I_6_5 iσ69.1 (kth.up (xσ40.trans (xσ41.trans (xσ42.trans (xσ43.trans (xσ47.trans (xσ49.trans (xσ50.trans (xσ52.trans (xσ64.trans (xσ65.trans (xσ68.trans xσ69))))))))))))
    have ho207 : gI σ69 J 7 = gI σ J 7 := kp198
    have cp208 : (gI σ69 th 5 ≤ gI σ69 th 2 ∧ (gI σ69 th 3 ≠ 0 → gI σ69 th 5 + 1 ≤ gI σ69 th 2)) ∧ gI σ69 J 7 ≤ 2 * gI σ69 th 5 ∧ 0 ≤ gI σ69 th 5 := by omega
    clear pσ69 kp181 kp180 kp179 kp163 kp162 kp161 cp154
    refine i_X6_wantWord iσ69 (kth.up (xσ40.trans (xσ41.trans (xσ42.trans (xσ43.trans (xσ47.trans (xσ49.trans (xσ50.trans (xσ52.trans (xσ64.trans (xσ65.trans (xσ68.trans xσ69)))))))))))) (kp195.trans (kp176.trans (kp158.trans (kp141.trans (kp123.trans (kp106.trans (kp87.trans (kp71.trans (kp52.trans (kp38.trans (kp25.trans (kp16.trans hX0)))))))))))) (kX.up (xσ40.trans (xσ41.trans (xσ42.trans (xσ43.trans (xσ47.trans (xσ49.trans (xσ50.trans (xσ52.trans (xσ64.trans (xσ65.trans (xσ68.trans xσ69)))))))))))) (((xσ40.trans (xσ41.trans (xσ42.trans (xσ43.trans (xσ47.trans (xσ49.trans (xσ50.trans (xσ52.trans (xσ64.trans (xσ65.trans (xσ68.trans xσ69))))))))))) tx kX.1).2.2.trans gX) (by (first | omega | with_reducible assumption | with_reducible exact rng_toInt _ | with_reducible exact rng_wr _ | (unfold rng; omega) | (unfold rng at *; omega) | assumption)) (by (first | omega | with_reducible assumption | with_reducible exact rng_toInt _ | with_reducible exact rng_wr _ | (unfold rng; omega) | (unfold rng at *; omega) | assumption)) (fun σ70 _ iσ70 cσ70 pσ70 => ?_) (fun σx LLx Nx nux E ix cx ux px => hX σx LLx Nx nux E ix (fσ69.tr (cx.mo (by decide))) (ux) (by first | exact px | exact ⟨by have := px.1; omega, px.2⟩ | (first | omega | with_reducible assumption | with_reducible exact rng_toInt _ | with_reducible exact rng_wr _ | (unfold rng; omega) | (unfold rng at *; omega) | assumption)))
    intro xσ70
    have fσ70 : Fx [323, 326, 327, 331, 332, 333, 386, 387, 388, 389, 390, 6464] gr σ σ70 := fσ69.tr (cσ70.mo (by decide))
    have oxcσ70 : OX o σ σ70 := oxcσ69.tr (OX.fx cσ70 (by decide) (by decide)) (xσ40.trans (xσ41.trans (xσ42.trans (xσ43.trans (xσ47.trans (xσ49.trans (xσ50.trans (xσ52.trans (xσ64.trans (xσ65.trans (xσ68.trans xσ69)))))))))))
    have kp209 : gI σ70 o 11 = gI σ69 o 11 := (cσ70.O (ko.up (xσ40.trans (xσ41.trans (xσ42.trans (xσ43.trans (xσ47.trans (xσ49.trans (xσ50.trans (xσ52.trans (xσ64.trans (xσ65.trans (xσ68.trans xσ69)))))))))))) (by decide)).1
    have kp210 : gI σ70 o 13 = gI σ69 o 13 := (cσ70.O (ko.up (xσ40.trans (xσ41.trans (xσ42.trans (xσ43.trans (xσ47.trans (xσ49.trans (xσ50.trans (xσ52.trans (xσ64.trans (xσ65.trans (xσ68.trans xσ69)))))))))))) (by decide)).1
    have kp211 : gP σ70 J 0 = gP σ69 J 0 := (cσ70.O (kJ.up (xσ40.trans (xσ41.trans (xσ42.trans (xσ43.trans (xσ47.trans (xσ49.trans (xσ50.trans (xσ52.trans (xσ64.trans (xσ65.trans (xσ68.trans xσ69)))))))))))) (by decide)).2.1
    have kp212 : gP σ70 b (gI σ43 o 7).toNat = gP σ69 b (gI σ43 o 7).toNat := (cσ70.A (mb.up (xσ47.trans (xσ49.trans (xσ50.trans (xσ52.trans (xσ64.trans (xσ65.trans (xσ68.trans xσ69)))))))) (by decide)).2.1
    have kp213 : gP σ70 th 0 = gP σ69 th 0 := (cσ70.O (kth.up (xσ40.trans (xσ41.trans (xσ42.trans (xσ43.trans (xσ47.trans (xσ49.trans (xσ50.trans (xσ52.trans (xσ64.trans (xσ65.trans (xσ68.trans xσ69)))))))))))) (by decide)).2.1
    have kp214 : gP σ70 th 7 = gP σ69 th 7 := (cσ70.O (kth.up (xσ40.trans (xσ41.trans (xσ42.trans (xσ43.trans (xσ47.trans (xσ49.trans (xσ50.trans (xσ52.trans (xσ64.trans (xσ65.trans (xσ68.trans xσ69)))))))))))) (by decide)).2.1
    have kp215 : gP σ70 th 8 = gP σ69 th 8 := (cσ70.O (kth.up (xσ40.trans (xσ41.trans (xσ42.trans (xσ43.trans (xσ47.trans (xσ49.trans (xσ50.trans (xσ52.trans (xσ64.trans (xσ65.trans (xσ68.trans xσ69)))))))))))) (by decide)).2.1
    have kp216 : Kpt (gI σ70 J 7 = gI σ J 7) := Eq.trans (show gI σ70 J 7 = gI σ69 J 7 from (cσ70.O (kJ.up (xσ40.trans (xσ41.trans (xσ42.trans (xσ43.trans (xσ47.trans (xσ49.trans (xσ50.trans (xσ52.trans (xσ64.trans (xσ65.trans (xσ68.trans xσ69)))))))))))) (by decide)).1) kp198
    have kp217 : Kpt (gI σ70 J 1 = gI σ J 1) := Eq.trans (show gI σ70 J 1 = gI σ69 J 1 from (cσ70.O (kJ.up (xσ40.trans (xσ41.trans (xσ42.trans (xσ43.trans (xσ47.trans (xσ49.trans (xσ50.trans (xσ52.trans (xσ64.trans (xσ65.trans (xσ68.trans xσ69)))))))))))) (by decide)).1) kp199
    have kp218 : Kpt (gI σ70 J 2 = gI σ J 2) := Eq.trans (show gI σ70 J 2 = gI σ69 J 2 from (cσ70.O (kJ.up (xσ40.trans (xσ41.trans (xσ42.trans (xσ43.trans (xσ47.trans (xσ49.trans (xσ50.trans (xσ52.trans (xσ64.trans (xσ65.trans (xσ68.trans xσ69)))))))))))) (by decide)).1) kp200
    have kp219 : Kpt (gI σ70 o 3 = gI σ50 o 3) := Eq.trans (show gI σ70 o 3 = gI σ69 o 3 from (cσ70.O (ko.up (xσ40.trans (xσ41.trans (xσ42.trans (xσ43.trans (xσ47.trans (xσ49.trans (xσ50.trans (xσ52.trans (xσ64.trans (xσ65.trans (xσ68.trans xσ69)))))))))))) (by decide)).1) kp201
    have kp220 : Kpt (gI σ70 o 4 = gI σ o 4) := Eq.trans (show gI σ70 o 4 = gI σ69 o 4 from (cσ70.O (ko.up (xσ40.trans (xσ41.trans (xσ42.trans (xσ43.trans (xσ47.trans (xσ49.trans (xσ50.trans (xσ52.trans (xσ64.trans (xσ65.trans (xσ68.trans xσ69)))))))))))) (by decide)).1) kp202
    have kp221 : Kpt (gI σ70 o 6 = gI σ41 o 6) := Eq.trans (show gI σ70 o 6 = gI σ69 o 6 from (cσ70.O (ko.up (xσ40.trans (xσ41.trans (xσ42.trans (xσ43.trans (xσ47.trans (xσ49.trans (xσ50.trans (xσ52.trans (xσ64.trans (xσ65.trans (xσ68.trans xσ69)))))))))))) (by decide)).1) kp203
    have kp222 : Kpt (gI σ70 o 7 = gI σ41 o 7) := Eq.trans (show gI σ70 o 7 = gI σ69 o 7 from (cσ70.O (ko.up (xσ40.trans (xσ41.trans (xσ42.trans (xσ43.trans (xσ47.trans (xσ49.trans (xσ50.trans (xσ52.trans (xσ64.trans (xσ65.trans (xσ68.trans xσ69)))))))))))) (by decide)).1) kp204
    have kp223 : Kpt (gI σ70 o 8 = gI σ o 8) := Eq.trans (show gI σ70 o 8 = gI σ69 o 8 from (cσ70.O (ko.up (xσ40.trans (xσ41.trans (xσ42.trans (xσ43.trans (xσ47.trans (xσ49.trans (xσ50.trans (xσ52.trans (xσ64.trans (xσ65.trans (xσ68.trans xσ69)))))))))))) (by decide)).1) kp205
    have kp224 : Kpt (gI σ70 o 9 = gI σ o 9) := Eq.trans (show gI σ70 o 9 = gI σ69 o 9 from (cσ70.O (ko.up (xσ40.trans (xσ41.trans (xσ42.trans (xσ43.trans (xσ47.trans (xσ49.trans (xσ50.trans (xσ52.trans (xσ64.trans (xσ65.trans (xσ68.trans xσ69)))))))))))) (by decide)).1) kp206
    have r5σ70 := I_6_5 iσ70.1 (kth.up (xσ40.trans (xσ41.trans (xσ42.trans (xσ43.trans (xσ47.trans (xσ49.trans (xσ50.trans (xσ52.trans (xσ64.trans (xσ65.trans (xσ68.trans (xσ69.trans xσ70)))))))))))))
    have ho225 : gI σ70 J 7 = gI σ J 7 := kp216
    have cp226 : (gI σ70 th 5 ≤ gI σ70 th 2 ∧ (gI σ70 th 3 ≠ 0 → gI σ70 th 5 + 1 ≤ gI σ70 th 2)) ∧ gI σ70 J 7 ≤ 2 * gI σ70 th 5 ∧ 0 ≤ gI σ70 th 5 := by omega
    clear pσ70 cp208
    refine i_X6_number iσ70 (kth.up (xσ40.trans (xσ41.trans (xσ42.trans (xσ43.trans (xσ47.trans (xσ49.trans (xσ50.trans (xσ52.trans (xσ64.trans (xσ65.trans (xσ68.trans (xσ69.trans xσ70))))))))))))) (by (first | omega | with_reducible assumption | with_reducible exact rng_toInt _ | with_reducible exact rng_wr _ | (unfold rng; omega) | (unfold rng at *; omega) | assumption)) (by (first | omega | with_reducible assumption | with_reducible exact rng_toInt _ | with_reducible exact rng_wr _ | (unfold rng; omega) | (unfold rng at *; omega) | assumption)) (fun σ71 r72 iσ71 cσ71 pσ71 => ?_) (fun σx LLx Nx nux E ix cx ux px => hX σx LLx Nx nux E ix (fσ70.tr (cx.mo (by decide))) (ux) (by first | exact px | exact ⟨by have := px.1; omega, px.2⟩ | (first | omega | with_reducible assumption | with_reducible exact rng_toInt _ | with_reducible exact rng_wr _ | (unfold rng; omega) | (unfold rng at *; omega) | assumption)))
    intro xσ71
    have fσ71 : Fx [323, 326, 327, 331, 332, 333, 386, 387, 388, 389, 390, 6464] gr σ σ71 := fσ70.tr (cσ71.mo (by decide))
    have oxcσ71 : OX o σ σ71 := oxcσ70.tr (OX.fx cσ71 (by decide) (by decide)) (xσ40.trans (xσ41.trans (xσ42.trans (xσ43.trans (xσ47.trans (xσ49.trans (xσ50.trans (xσ52.trans (xσ64.trans (xσ65.trans (xσ68.trans (xσ69.trans xσ70))))))))))))
    have kp227 : gI σ71 o 11 = gI σ70 o 11 := (cσ71.O (ko.up (xσ40.trans (xσ41.trans (xσ42.trans (xσ43.trans (xσ47.trans (xσ49.trans (xσ50.trans (xσ52.trans (xσ64.trans (xσ65.trans (xσ68.trans (xσ69.trans xσ70))))))))))))) (by decide)).1
    have kp228 : gI σ71 o 13 = gI σ70 o 13 := (cσ71.O (ko.up (xσ40.trans (xσ41.trans (xσ42.trans (xσ43.trans (xσ47.trans (xσ49.trans (xσ50.trans (xσ52.trans (xσ64.trans (xσ65.trans (xσ68.trans (xσ69.trans xσ70))))))))))))) (by decide)).1
    have kp229 : gP σ71 J 0 = gP σ70 J 0 := (cσ71.O (kJ.up (xσ40.trans (xσ41.trans (xσ42.trans (xσ43.trans (xσ47.trans (xσ49.trans (xσ50.trans (xσ52.trans (xσ64.trans (xσ65.trans (xσ68.trans (xσ69.trans xσ70))))))))))))) (by decide)).2.1
    have kp230 : gP σ71 b (gI σ43 o 7).toNat = gP σ70 b (gI σ43 o 7).toNat := (cσ71.A (mb.up (xσ47.trans (xσ49.trans (xσ50.trans (xσ52.trans (xσ64.trans (xσ65.trans (xσ68.trans (xσ69.trans xσ70))))))))) (by decide)).2.1
    have kp231 : gP σ71 th 0 = gP σ70 th 0 := (cσ71.O (kth.up (xσ40.trans (xσ41.trans (xσ42.trans (xσ43.trans (xσ47.trans (xσ49.trans (xσ50.trans (xσ52.trans (xσ64.trans (xσ65.trans (xσ68.trans (xσ69.trans xσ70))))))))))))) (by decide)).2.1
    have kp232 : gP σ71 th 7 = gP σ70 th 7 := (cσ71.O (kth.up (xσ40.trans (xσ41.trans (xσ42.trans (xσ43.trans (xσ47.trans (xσ49.trans (xσ50.trans (xσ52.trans (xσ64.trans (xσ65.trans (xσ68.trans (xσ69.trans xσ70))))))))))))) (by decide)).2.1
    have kp233 : gP σ71 th 8 = gP σ70 th 8 := (cσ71.O (kth.up (xσ40.trans (xσ41.trans (xσ42.trans (xσ43.trans (xσ47.trans (xσ49.trans (xσ50.trans (xσ52.trans (xσ64.trans (xσ65.trans (xσ68.trans (xσ69.trans xσ70))))))))))))) (by decide)).2.1
    have kp234 : gI σ71 th 2 = gI σ70 th 2 := (cσ71.O (kth.up (xσ40.trans (xσ41.trans (xσ42.trans (xσ43.trans (xσ47.trans (xσ49.trans (xσ50.trans (xσ52.trans (xσ64.trans (xσ65.trans (xσ68.trans (xσ69.trans xσ70))))))))))))) (by decide)).1
    have kp235 : gI σ71 th 3 = gI σ70 th 3 := (cσ71.O (kth.up (xσ40.trans (xσ41.trans (xσ42.trans (xσ43.trans (xσ47.trans (xσ49.trans (xσ50.trans (xσ52.trans (xσ64.trans (xσ65.trans (xσ68.trans (xσ69.trans xσ70))))))))))))) (by decide)).1
    have kp236 : gI σ71 th 5 = gI σ70 th 5 := (cσ71.O (kth.up (xσ40.trans (xσ41.trans (xσ42.trans (xσ43.trans (xσ47.trans (xσ49.trans (xσ50.trans (xσ52.trans (xσ64.trans (xσ65.trans (xσ68.trans (xσ69.trans xσ70))))))))))))) (by decide)).1
    have kp237 : Kpt (gI σ71 J 7 = gI σ J 7) := Eq.trans (show gI σ71 J 7 = gI σ70 J 7 from (cσ71.O (kJ.up (xσ40.trans (xσ41.trans (xσ42.trans (xσ43.trans (xσ47.trans (xσ49.trans (xσ50.trans (xσ52.trans (xσ64.trans (xσ65.trans (xσ68.trans (xσ69.trans xσ70))))))))))))) (by decide)).1) kp216
    have kp238 : Kpt (gI σ71 J 1 = gI σ J 1) := Eq.trans (show gI σ71 J 1 = gI σ70 J 1 from (cσ71.O (kJ.up (xσ40.trans (xσ41.trans (xσ42.trans (xσ43.trans (xσ47.trans (xσ49.trans (xσ50.trans (xσ52.trans (xσ64.trans (xσ65.trans (xσ68.trans (xσ69.trans xσ70))))))))))))) (by decide)).1) kp217
    have kp239 : Kpt (gI σ71 J 2 = gI σ J 2) := Eq.trans (show gI σ71 J 2 = gI σ70 J 2 from (cσ71.O (kJ.up (xσ40.trans (xσ41.trans (xσ42.trans (xσ43.trans (xσ47.trans (xσ49.trans (xσ50.trans (xσ52.trans (xσ64.trans (xσ65.trans (xσ68.trans (xσ69.trans xσ70))))))))))))) (by decide)).1) kp218
    have kp240 : Kpt (gI σ71 o 3 = gI σ50 o 3) := Eq.trans (show gI σ71 o 3 = gI σ70 o 3 from (cσ71.O (ko.up (xσ40.trans (xσ41.trans (xσ42.trans (xσ43.trans (xσ47.trans (xσ49.trans (xσ50.trans (xσ52.trans (xσ64.trans (xσ65.trans (xσ68.trans (xσ69.trans xσ70))))))))))))) (by decide)).1) kp219
    have kp241 : Kpt (gI σ71 o 4 = gI σ o 4) := Eq.trans (show gI σ71 o 4 = gI σ70 o 4 from (cσ71.O (ko.up (xσ40.trans (xσ41.trans (xσ42.trans (xσ43.trans (xσ47.trans (xσ49.trans (xσ50.trans (xσ52.trans (xσ64.trans (xσ65.trans (xσ68.trans (xσ69.trans xσ70))))))))))))) (by decide)).1) kp220
    have kp242 : Kpt (gI σ71 o 6 = gI σ41 o 6) := Eq.trans (show gI σ71 o 6 = gI σ70 o 6 from (cσ71.O (ko.up (xσ40.trans (xσ41.trans (xσ42.trans (xσ43.trans (xσ47.trans (xσ49.trans (xσ50.trans (xσ52.trans (xσ64.trans (xσ65.trans (xσ68.trans (xσ69.trans xσ70))))))))))))) (by decide)).1) kp221
    have kp243 : Kpt (gI σ71 o 7 = gI σ41 o 7) := Eq.trans (show gI σ71 o 7 = gI σ70 o 7 from (cσ71.O (ko.up (xσ40.trans (xσ41.trans (xσ42.trans (xσ43.trans (xσ47.trans (xσ49.trans (xσ50.trans (xσ52.trans (xσ64.trans (xσ65.trans (xσ68.trans (xσ69.trans xσ70))))))))))))) (by decide)).1) kp222
    have kp244 : Kpt (gI σ71 o 8 = gI σ o 8) := Eq.trans (show gI σ71 o 8 = gI σ70 o 8 from (cσ71.O (ko.up (xσ40.trans (xσ41.trans (xσ42.trans (xσ43.trans (xσ47.trans (xσ49.trans (xσ50.trans (xσ52.trans (xσ64.trans (xσ65.trans (xσ68.trans (xσ69.trans xσ70))))))))))))) (by decide)).1) kp223
    have kp245 : Kpt (gI σ71 o 9 = gI σ o 9) := Eq.trans (show gI σ71 o 9 = gI σ70 o 9 from (cσ71.O (ko.up (xσ40.trans (xσ41.trans (xσ42.trans (xσ43.trans (xσ47.trans (xσ49.trans (xσ50.trans (xσ52.trans (xσ64.trans (xσ65.trans (xσ68.trans (xσ69.trans xσ70))))))))))))) (by decide)).1) kp224
    refine ⟨o, (kp215.trans (kp197.trans (kp178.trans (kp160.trans (kp143.trans (kp125.trans (kp108.trans (kp89.trans (kp73.trans (kp54.trans (kp40.trans (kp27.trans (kp18.trans h8))))))))))))), fun kk_o_3 => ?_⟩
    intro σ74 eσ74
    have xσ74 : Ext σ71 σ74 := by rw [eσ74]; exact fun _ h => ⟨h, rfl, rfl⟩
    have iσ74 : IV σ74 pl gq ci gr nc ot LL N nu := by rw [eσ74]; exact iσ71.wSp (ko.up (xσ40.trans (xσ41.trans (xσ42.trans (xσ43.trans (xσ47.trans (xσ49.trans (xσ50.trans (xσ52.trans (xσ64.trans (xσ65.trans (xσ68.trans (xσ69.trans (xσ70.trans xσ71)))))))))))))) (fun i hi => by omega) (by decide) (show (0 : Int) ≤ r72 ∧ r72 ≤ 1000 from ⟨by omega, by omega⟩)
    have fσ74 : Fx [323, 326, 327, 331, 332, 333, 386, 387, 388, 389, 390, 6464] gr σ σ74 := fσ71.tr (Sk.fx (by rw [eσ74]; exact Sk.pI (by rw [fcdO (ko.up (xσ40.trans (xσ41.trans (xσ42.trans (xσ43.trans (xσ47.trans (xσ49.trans (xσ50.trans (xσ52.trans (xσ64.trans (xσ65.trans (xσ68.trans (xσ69.trans (xσ70.trans xσ71)))))))))))))) (by decide)]; decide)))
    have oxcσ74 : OX o σ σ74 := oxcσ71.tr (by rw [eσ74]; exact OX.pI (ko.up (xσ40.trans (xσ41.trans (xσ42.trans (xσ43.trans (xσ47.trans (xσ49.trans (xσ50.trans (xσ52.trans (xσ64.trans (xσ65.trans (xσ68.trans (xσ69.trans (xσ70.trans xσ71)))))))))))))) (Or.inr rfl)) (xσ40.trans (xσ41.trans (xσ42.trans (xσ43.trans (xσ47.trans (xσ49.trans (xσ50.trans (xσ52.trans (xσ64.trans (xσ65.trans (xσ68.trans (xσ69.trans (xσ70.trans xσ71)))))))))))))
    have wσ74 : gI σ74 o 12 = r72 := by rw [eσ74]; exact up2_s _ _ _ _
    have kp246 : gI σ74 o 11 = gI σ71 o 11 := by rw [eσ74]; exact up2_n _ _ (fun q => absurd q.2 (by decide))
    have kp247 : gI σ74 o 13 = gI σ71 o 13 := by rw [eσ74]; exact up2_n _ _ (fun q => absurd q.2 (by decide))
    have kp248 : gP σ74 J 0 = gP σ71 J 0 := by rw [eσ74]
    have kp249 : gP σ74 b (gI σ43 o 7).toNat = gP σ71 b (gI σ43 o 7).toNat := by rw [eσ74]
    have kp250 : gP σ74 th 0 = gP σ71 th 0 := by rw [eσ74]
    have kp251 : gP σ74 th 7 = gP σ71 th 7 := by rw [eσ74]
    have kp252 : gP σ74 th 8 = gP σ71 th 8 := by rw [eσ74]
    have kp253 : gI σ74 th 2 = gI σ71 th 2 := by rw [eσ74]; exact up2_n _ _ (fun q => absurd q.2 (by decide))
    have kp254 : gI σ74 th 3 = gI σ71 th 3 := by rw [eσ74]; exact up2_n _ _ (fun q => absurd q.2 (by decide))
    have kp255 : gI σ74 th 5 = gI σ71 th 5 := by rw [eσ74]; exact up2_n _ _ (fun q => absurd q.2 (by decide))
    have kp256 : Kpt (gI σ74 J 7 = gI σ J 7) := Eq.trans (show gI σ74 J 7 = gI σ71 J 7 from by rw [eσ74]; exact up2_n _ _ (fun q => absurd q.2 (by decide))) kp237
    have kp257 : Kpt (gI σ74 J 1 = gI σ J 1) := Eq.trans (show gI σ74 J 1 = gI σ71 J 1 from by rw [eσ74]; exact up2_n _ _ (fun q => absurd q.2 (by decide))) kp238
    have kp258 : Kpt (gI σ74 J 2 = gI σ J 2) := Eq.trans (show gI σ74 J 2 = gI σ71 J 2 from by rw [eσ74]; exact up2_n _ _ (fun q => absurd q.2 (by decide))) kp239
    have kp259 : Kpt (gI σ74 o 3 = gI σ50 o 3) := Eq.trans (show gI σ74 o 3 = gI σ71 o 3 from by rw [eσ74]; exact up2_n _ _ (fun q => absurd q.2 (by decide))) kp240
    have kp260 : Kpt (gI σ74 o 4 = gI σ o 4) := Eq.trans (show gI σ74 o 4 = gI σ71 o 4 from by rw [eσ74]; exact up2_n _ _ (fun q => absurd q.2 (by decide))) kp241
    have kp261 : Kpt (gI σ74 o 6 = gI σ41 o 6) := Eq.trans (show gI σ74 o 6 = gI σ71 o 6 from by rw [eσ74]; exact up2_n _ _ (fun q => absurd q.2 (by decide))) kp242
    have kp262 : Kpt (gI σ74 o 7 = gI σ41 o 7) := Eq.trans (show gI σ74 o 7 = gI σ71 o 7 from by rw [eσ74]; exact up2_n _ _ (fun q => absurd q.2 (by decide))) kp243
    have kp263 : Kpt (gI σ74 o 8 = gI σ o 8) := Eq.trans (show gI σ74 o 8 = gI σ71 o 8 from by rw [eσ74]; exact up2_n _ _ (fun q => absurd q.2 (by decide))) kp244
    have kp264 : Kpt (gI σ74 o 9 = gI σ o 9) := Eq.trans (show gI σ74 o 9 = gI σ71 o 9 from by rw [eσ74]; exact up2_n _ _ (fun q => absurd q.2 (by decide))) kp245
    refine ⟨o, (kp252.trans (kp233.trans (kp215.trans (kp197.trans (kp178.trans (kp160.trans (kp143.trans (kp125.trans (kp108.trans (kp89.trans (kp73.trans (kp54.trans (kp40.trans (kp27.trans (kp18.trans h8))))))))))))))), fun kk_o_4 => ?_⟩
    by_cases hc265 : gI σ74 o 12 > gI σ74 o 11
    · rw [if_pos hc265]
      unfold w_X6_foldText_186
      refine i_X6_refuse iσ74 (kth.up (xσ40.trans (xσ41.trans (xσ42.trans (xσ43.trans (xσ47.trans (xσ49.trans (xσ50.trans (xσ52.trans (xσ64.trans (xσ65.trans (xσ68.trans (xσ69.trans (xσ70.trans (xσ71.trans xσ74))))))))))))))) (by (first | omega | with_reducible assumption | with_reducible exact rng_toInt _ | with_reducible exact rng_wr _ | (unfold rng; omega) | (unfold rng at *; omega) | assumption)) (by (first | omega | with_reducible assumption | with_reducible exact rng_toInt _ | with_reducible exact rng_wr _ | (unfold rng; omega) | (unfold rng at *; omega) | assumption)) (by (first | omega | with_reducible assumption | with_reducible exact rng_toInt _ | with_reducible exact rng_wr _ | (unfold rng; omega) | (unfold rng at *; omega) | assumption)) (fun σ77 _ iσ77 cσ77 pσ77 => ?_) (fun σx LLx Nx nux E ix cx ux px => hX σx LLx Nx nux E ix (fσ74.tr (cx.mo (by decide))) (ux) (by first | exact px | exact ⟨by have := px.1; omega, px.2⟩ | (first | omega | with_reducible assumption | with_reducible exact rng_toInt _ | with_reducible exact rng_wr _ | (unfold rng; omega) | (unfold rng at *; omega) | assumption)))
      intro xσ77
      exact pσ77.elim
    · rw [if_neg hc265]
      unfold w_X6_foldText_166
      refine ⟨o, (kp252.trans (kp233.trans (kp215.trans (kp197.trans (kp178.trans (kp160.trans (kp143.trans (kp125.trans (kp108.trans (kp89.trans (kp73.trans (kp54.trans (kp40.trans (kp27.trans (kp18.trans h8))))))))))))))), fun kk_o_5 => ?_⟩
      by_cases hc266 : gI σ74 o 11 ≤ (wr (8 * gI σ74 o 12))
      · rw [if_pos hc266]
        unfold w_X6_foldText_192
        refine i_X6_next iσ74 (kth.up (xσ40.trans (xσ41.trans (xσ42.trans (xσ43.trans (xσ47.trans (xσ49.trans (xσ50.trans (xσ52.trans (xσ64.trans (xσ65.trans (xσ68.trans (xσ69.trans (xσ70.trans (xσ71.trans xσ74))))))))))))))) (kp250.trans (kp231.trans (kp213.trans (kp195.trans (kp176.trans (kp158.trans (kp141.trans (kp123.trans (kp106.trans (kp87.trans (kp71.trans (kp52.trans (kp38.trans (kp25.trans (kp16.trans hX0))))))))))))))) (kX.up (xσ40.trans (xσ41.trans (xσ42.trans (xσ43.trans (xσ47.trans (xσ49.trans (xσ50.trans (xσ52.trans (xσ64.trans (xσ65.trans (xσ68.trans (xσ69.trans (xσ70.trans (xσ71.trans xσ74))))))))))))))) (((xσ40.trans (xσ41.trans (xσ42.trans (xσ43.trans (xσ47.trans (xσ49.trans (xσ50.trans (xσ52.trans (xσ64.trans (xσ65.trans (xσ68.trans (xσ69.trans (xσ70.trans (xσ71.trans xσ74)))))))))))))) tx kX.1).2.2.trans gX) (by (first | omega | with_reducible assumption | with_reducible exact rng_toInt _ | with_reducible exact rng_wr _ | (unfold rng; omega) | (unfold rng at *; omega) | assumption)) (by (first | omega | with_reducible assumption | with_reducible exact rng_toInt _ | with_reducible exact rng_wr _ | (unfold rng; omega) | (unfold rng at *; omega) | assumption)) (fun σ78 _ iσ78 cσ78 pσ78 => ?_) (fun σx LLx Nx nux E ix cx ux px => hX σx LLx Nx nux E ix (fσ74.tr (cx.mo (by decide))) (ux) (by first | exact px | exact ⟨by have := px.1; omega, px.2⟩ | (first | omega | with_reducible assumption | with_reducible exact rng_toInt _ | with_reducible exact rng_wr _ | (unfold rng; omega) | (unfold rng at *; omega) | assumption)))
        intro xσ78
        have fσ78 : Fx [323, 326, 327, 331, 332, 333, 386, 387, 388, 389, 390, 6464] gr σ σ78 := fσ74.tr (cσ78.mo (by decide))
        have oxcσ78 : OX o σ σ78 := oxcσ74.tr (OX.fx cσ78 (by decide) (by decide)) (xσ40.trans (xσ41.trans (xσ42.trans (xσ43.trans (xσ47.trans (xσ49.trans (xσ50.trans (xσ52.trans (xσ64.trans (xσ65.trans (xσ68.trans (xσ69.trans (xσ70.trans (xσ71.trans xσ74))))))))))))))
        have kp267 : gI σ78 o 11 = gI σ74 o 11 := (cσ78.O (ko.up (xσ40.trans (xσ41.trans (xσ42.trans (xσ43.trans (xσ47.trans (xσ49.trans (xσ50.trans (xσ52.trans (xσ64.trans (xσ65.trans (xσ68.trans (xσ69.trans (xσ70.trans (xσ71.trans xσ74))))))))))))))) (by decide)).1
        have kp268 : gI σ78 o 12 = gI σ74 o 12 := (cσ78.O (ko.up (xσ40.trans (xσ41.trans (xσ42.trans (xσ43.trans (xσ47.trans (xσ49.trans (xσ50.trans (xσ52.trans (xσ64.trans (xσ65.trans (xσ68.trans (xσ69.trans (xσ70.trans (xσ71.trans xσ74))))))))))))))) (by decide)).1
        have kp269 : gI σ78 o 13 = gI σ74 o 13 := (cσ78.O (ko.up (xσ40.trans (xσ41.trans (xσ42.trans (xσ43.trans (xσ47.trans (xσ49.trans (xσ50.trans (xσ52.trans (xσ64.trans (xσ65.trans (xσ68.trans (xσ69.trans (xσ70.trans (xσ71.trans xσ74))))))))))))))) (by decide)).1
        have kp270 : gP σ78 J 0 = gP σ74 J 0 := (cσ78.O (kJ.up (xσ40.trans (xσ41.trans (xσ42.trans (xσ43.trans (xσ47.trans (xσ49.trans (xσ50.trans (xσ52.trans (xσ64.trans (xσ65.trans (xσ68.trans (xσ69.trans (xσ70.trans (xσ71.trans xσ74))))))))))))))) (by decide)).2.1
        have kp271 : gP σ78 b (gI σ43 o 7).toNat = gP σ74 b (gI σ43 o 7).toNat := (cσ78.A (mb.up (xσ47.trans (xσ49.trans (xσ50.trans (xσ52.trans (xσ64.trans (xσ65.trans (xσ68.trans (xσ69.trans (xσ70.trans (xσ71.trans xσ74))))))))))) (by decide)).2.1
        have kp272 : gP σ78 th 0 = gP σ74 th 0 := (cσ78.O (kth.up (xσ40.trans (xσ41.trans (xσ42.trans (xσ43.trans (xσ47.trans (xσ49.trans (xσ50.trans (xσ52.trans (xσ64.trans (xσ65.trans (xσ68.trans (xσ69.trans (xσ70.trans (xσ71.trans xσ74))))))))))))))) (by decide)).2.1
        have kp273 : gP σ78 th 7 = gP σ74 th 7 := (cσ78.O (kth.up (xσ40.trans (xσ41.trans (xσ42.trans (xσ43.trans (xσ47.trans (xσ49.trans (xσ50.trans (xσ52.trans (xσ64.trans (xσ65.trans (xσ68.trans (xσ69.trans (xσ70.trans (xσ71.trans xσ74))))))))))))))) (by decide)).2.1
        have kp274 : gP σ78 th 8 = gP σ74 th 8 := (cσ78.O (kth.up (xσ40.trans (xσ41.trans (xσ42.trans (xσ43.trans (xσ47.trans (xσ49.trans (xσ50.trans (xσ52.trans (xσ64.trans (xσ65.trans (xσ68.trans (xσ69.trans (xσ70.trans (xσ71.trans xσ74))))))))))))))) (by decide)).2.1
        have kp275 : Kpt (gI σ78 J 7 = gI σ J 7) := Eq.trans (show gI σ78 J 7 = gI σ74 J 7 from (cσ78.O (kJ.up (xσ40.trans (xσ41.trans (xσ42.trans (xσ43.trans (xσ47.trans (xσ49.trans (xσ50.trans (xσ52.trans (xσ64.trans (xσ65.trans (xσ68.trans (xσ69.trans (xσ70.trans (xσ71.trans xσ74))))))))))))))) (by decide)).1) kp256
        have kp276 : Kpt (gI σ78 J 1 = gI σ J 1) := Eq.trans (show gI σ78 J 1 = gI σ74 J 1 from (cσ78.O (kJ.up (xσ40.trans (xσ41.trans (xσ42.trans (xσ43.trans (xσ47.trans (xσ49.trans (xσ50.trans (xσ52.trans (xσ64.trans (xσ65.trans (xσ68.trans (xσ69.trans (xσ70.trans (xσ71.trans xσ74))))))))))))))) (by decide)).1) kp257
        have kp277 : Kpt (gI σ78 J 2 = gI σ J 2) := Eq.trans (show gI σ78 J 2 = gI σ74 J 2 from (cσ78.O (kJ.up (xσ40.trans (xσ41.trans (xσ42.trans (xσ43.trans (xσ47.trans (xσ49.trans (xσ50.trans (xσ52.trans (xσ64.trans (xσ65.trans (xσ68.trans (xσ69.trans (xσ70.trans (xσ71.trans xσ74))))))))))))))) (by decide)).1) kp258
        have kp278 : Kpt (gI σ78 o 3 = gI σ50 o 3) := Eq.trans (show gI σ78 o 3 = gI σ74 o 3 from (cσ78.O (ko.up (xσ40.trans (xσ41.trans (xσ42.trans (xσ43.trans (xσ47.trans (xσ49.trans (xσ50.trans (xσ52.trans (xσ64.trans (xσ65.trans (xσ68.trans (xσ69.trans (xσ70.trans (xσ71.trans xσ74))))))))))))))) (by decide)).1) kp259
        have kp279 : Kpt (gI σ78 o 4 = gI σ o 4) := Eq.trans (show gI σ78 o 4 = gI σ74 o 4 from (cσ78.O (ko.up (xσ40.trans (xσ41.trans (xσ42.trans (xσ43.trans (xσ47.trans (xσ49.trans (xσ50.trans (xσ52.trans (xσ64.trans (xσ65.trans (xσ68.trans (xσ69.trans (xσ70.trans (xσ71.trans xσ74))))))))))))))) (by decide)).1) kp260
        have kp280 : Kpt (gI σ78 o 6 = gI σ41 o 6) := Eq.trans (show gI σ78 o 6 = gI σ74 o 6 from (cσ78.O (ko.up (xσ40.trans (xσ41.trans (xσ42.trans (xσ43.trans (xσ47.trans (xσ49.trans (xσ50.trans (xσ52.trans (xσ64.trans (xσ65.trans (xσ68.trans (xσ69.trans (xσ70.trans (xσ71.trans xσ74))))))))))))))) (by decide)).1) kp261
        have kp281 : Kpt (gI σ78 o 7 = gI σ41 o 7) := Eq.trans (show gI σ78 o 7 = gI σ74 o 7 from (cσ78.O (ko.up (xσ40.trans (xσ41.trans (xσ42.trans (xσ43.trans (xσ47.trans (xσ49.trans (xσ50.trans (xσ52.trans (xσ64.trans (xσ65.trans (xσ68.trans (xσ69.trans (xσ70.trans (xσ71.trans xσ74))))))))))))))) (by decide)).1) kp262
        have kp282 : Kpt (gI σ78 o 8 = gI σ o 8) := Eq.trans (show gI σ78 o 8 = gI σ74 o 8 from (cσ78.O (ko.up (xσ40.trans (xσ41.trans (xσ42.trans (xσ43.trans (xσ47.trans (xσ49.trans (xσ50.trans (xσ52.trans (xσ64.trans (xσ65.trans (xσ68.trans (xσ69.trans (xσ70.trans (xσ71.trans xσ74))))))))))))))) (by decide)).1) kp263
        have kp283 : Kpt (gI σ78 o 9 = gI σ o 9) := Eq.trans (show gI σ78 o 9 = gI σ74 o 9 from (cσ78.O (ko.up (xσ40.trans (xσ41.trans (xσ42.trans (xσ43.trans (xσ47.trans (xσ49.trans (xσ50.trans (xσ52.trans (xσ64.trans (xσ65.trans (xσ68.trans (xσ69.trans (xσ70.trans (xσ71.trans xσ74))))))))))))))) (by decide)).1) kp264
        have r5σ78 := I_6_5 iσ78.1 (kth.up (xσ40.trans (xσ41.trans (xσ42.trans (xσ43.trans (xσ47.trans (xσ49.trans (xσ50.trans (xσ52.trans (xσ64.trans (xσ65.trans (xσ68.trans (xσ69.trans (xσ70.trans (xσ71.trans (xσ74.trans xσ78))))))))))))))))
        have ho284 : gI σ78 J 7 = gI σ J 7 := kp275
        have cp285 : (gI σ78 th 5 ≤ gI σ78 th 2 ∧ (gI σ78 th 3 ≠ 0 → gI σ78 th 5 + 1 ≤ gI σ78 th 2)) ∧ gI σ78 J 7 ≤ 2 * gI σ78 th 5 ∧ 0 ≤ gI σ78 th 5 := by omega
        clear pσ78 kp255 kp254 kp253 kp236 kp235 kp234 cp226
        unfold w_X6_foldText_196
        refine i_X6_wantSign iσ78 (kth.up (xσ40.trans (xσ41.trans (xσ42.trans (xσ43.trans (xσ47.trans (xσ49.trans (xσ50.trans (xσ52.trans (xσ64.trans (xσ65.trans (xσ68.trans (xσ69.trans (xσ70.trans (xσ71.trans (xσ74.trans xσ78)))))))))))))))) (kp272.trans (kp250.trans (kp231.trans (kp213.trans (kp195.trans (kp176.trans (kp158.trans (kp141.trans (kp123.trans (kp106.trans (kp87.trans (kp71.trans (kp52.trans (kp38.trans (kp25.trans (kp16.trans hX0)))))))))))))))) (kX.up (xσ40.trans (xσ41.trans (xσ42.trans (xσ43.trans (xσ47.trans (xσ49.trans (xσ50.trans (xσ52.trans (xσ64.trans (xσ65.trans (xσ68.trans (xσ69.trans (xσ70.trans (xσ71.trans (xσ74.trans xσ78)))))))))))))))) (((xσ40.trans (xσ41.trans (xσ42.trans (xσ43.trans (xσ47.trans (xσ49.trans (xσ50.trans (xσ52.trans (xσ64.trans (xσ65.trans (xσ68.trans (xσ69.trans (xσ70.trans (xσ71.trans (xσ74.trans xσ78))))))))))))))) tx kX.1).2.2.trans gX) (by (first | omega | with_reducible assumption | with_reducible exact rng_toInt _ | with_reducible exact rng_wr _ | (unfold rng; omega) | (unfold rng at *; omega) | assumption)) (by (first | omega | with_reducible assumption | with_reducible exact rng_toInt _ | with_reducible exact rng_wr _ | (unfold rng; omega) | (unfold rng at *; omega) | assumption)) (fun σ63 _ iσ63 cσ63 pσ63 => ?_) (fun σx LLx Nx nux E ix cx ux px => hX σx LLx Nx nux E ix (fσ78.tr (cx.mo (by decide))) (ux) (by first | exact px | exact ⟨by have := px.1; omega, px.2⟩ | (first | omega | with_reducible assumption | with_reducible exact rng_toInt _ | with_reducible exact rng_wr _ | (unfold rng; omega) | (unfold rng at *; omega) | assumption)))
        intro xσ63
        have fσ63 : Fx [323, 326, 327, 331, 332, 333, 386, 387, 388, 389, 390, 6464] gr σ σ63 := fσ78.tr (cσ63.mo (by decide))
        have oxcσ63 : OX o σ σ63 := oxcσ78.tr (OX.fx cσ63 (by decide) (by decide)) (xσ40.trans (xσ41.trans (xσ42.trans (xσ43.trans (xσ47.trans (xσ49.trans (xσ50.trans (xσ52.trans (xσ64.trans (xσ65.trans (xσ68.trans (xσ69.trans (xσ70.trans (xσ71.trans (xσ74.trans xσ78)))))))))))))))
        have kp286 : gI σ63 o 11 = gI σ78 o 11 := (cσ63.O (ko.up (xσ40.trans (xσ41.trans (xσ42.trans (xσ43.trans (xσ47.trans (xσ49.trans (xσ50.trans (xσ52.trans (xσ64.trans (xσ65.trans (xσ68.trans (xσ69.trans (xσ70.trans (xσ71.trans (xσ74.trans xσ78)))))))))))))))) (by decide)).1
        have kp287 : gI σ63 o 12 = gI σ78 o 12 := (cσ63.O (ko.up (xσ40.trans (xσ41.trans (xσ42.trans (xσ43.trans (xσ47.trans (xσ49.trans (xσ50.trans (xσ52.trans (xσ64.trans (xσ65.trans (xσ68.trans (xσ69.trans (xσ70.trans (xσ71.trans (xσ74.trans xσ78)))))))))))))))) (by decide)).1
        have kp288 : gI σ63 o 13 = gI σ78 o 13 := (cσ63.O (ko.up (xσ40.trans (xσ41.trans (xσ42.trans (xσ43.trans (xσ47.trans (xσ49.trans (xσ50.trans (xσ52.trans (xσ64.trans (xσ65.trans (xσ68.trans (xσ69.trans (xσ70.trans (xσ71.trans (xσ74.trans xσ78)))))))))))))))) (by decide)).1
        have kp289 : gP σ63 J 0 = gP σ78 J 0 := (cσ63.O (kJ.up (xσ40.trans (xσ41.trans (xσ42.trans (xσ43.trans (xσ47.trans (xσ49.trans (xσ50.trans (xσ52.trans (xσ64.trans (xσ65.trans (xσ68.trans (xσ69.trans (xσ70.trans (xσ71.trans (xσ74.trans xσ78)))))))))))))))) (by decide)).2.1
        have kp290 : gP σ63 b (gI σ43 o 7).toNat = gP σ78 b (gI σ43 o 7).toNat := (cσ63.A (mb.up (xσ47.trans (xσ49.trans (xσ50.trans (xσ52.trans (xσ64.trans (xσ65.trans (xσ68.trans (xσ69.trans (xσ70.trans (xσ71.trans (xσ74.trans xσ78)))))))))))) (by decide)).2.1
        have kp291 : gP σ63 th 0 = gP σ78 th 0 := (cσ63.O (kth.up (xσ40.trans (xσ41.trans (xσ42.trans (xσ43.trans (xσ47.trans (xσ49.trans (xσ50.trans (xσ52.trans (xσ64.trans (xσ65.trans (xσ68.trans (xσ69.trans (xσ70.trans (xσ71.trans (xσ74.trans xσ78)))))))))))))))) (by decide)).2.1
        have kp292 : gP σ63 th 7 = gP σ78 th 7 := (cσ63.O (kth.up (xσ40.trans (xσ41.trans (xσ42.trans (xσ43.trans (xσ47.trans (xσ49.trans (xσ50.trans (xσ52.trans (xσ64.trans (xσ65.trans (xσ68.trans (xσ69.trans (xσ70.trans (xσ71.trans (xσ74.trans xσ78)))))))))))))))) (by decide)).2.1
        have kp293 : gP σ63 th 8 = gP σ78 th 8 := (cσ63.O (kth.up (xσ40.trans (xσ41.trans (xσ42.trans (xσ43.trans (xσ47.trans (xσ49.trans (xσ50.trans (xσ52.trans (xσ64.trans (xσ65.trans (xσ68.trans (xσ69.trans (xσ70.trans (xσ71.trans (xσ74.trans xσ78)))))))))))))))) (by decide)).2.1
        have kp294 : Kpt (gI σ63 J 7 = gI σ J 7) := Eq.trans (show gI σ63 J 7 = gI σ78 J 7 from (cσ63.O (kJ.up (xσ40.trans (xσ41.trans (xσ42.trans (xσ43.trans (xσ47.trans (xσ49.trans (xσ50.trans (xσ52.trans (xσ64.trans (xσ65.trans (xσ68.trans (xσ69.trans (xσ70.trans (xσ71.trans (xσ74.trans xσ78)))))))))))))))) (by decide)).1) kp275
        have kp295 : Kpt (gI σ63 J 1 = gI σ J 1) := Eq.trans (show gI σ63 J 1 = gI σ78 J 1 from (cσ63.O (kJ.up (xσ40.trans (xσ41.trans (xσ42.trans (xσ43.trans (xσ47.trans (xσ49.trans (xσ50.trans (xσ52.trans (xσ64.trans (xσ65.trans (xσ68.trans (xσ69.trans (xσ70.trans (xσ71.trans (xσ74.trans xσ78)))))))))))))))) (by decide)).1) kp276
        have kp296 : Kpt (gI σ63 J 2 = gI σ J 2) := Eq.trans (show gI σ63 J 2 = gI σ78 J 2 from (cσ63.O (kJ.up (xσ40.trans (xσ41.trans (xσ42.trans (xσ43.trans (xσ47.trans (xσ49.trans (xσ50.trans (xσ52.trans (xσ64.trans (xσ65.trans (xσ68.trans (xσ69.trans (xσ70.trans (xσ71.trans (xσ74.trans xσ78)))))))))))))))) (by decide)).1) kp277
        have kp297 : Kpt (gI σ63 o 3 = gI σ50 o 3) := Eq.trans (show gI σ63 o 3 = gI σ78 o 3 from (cσ63.O (ko.up (xσ40.trans (xσ41.trans (xσ42.trans (xσ43.trans (xσ47.trans (xσ49.trans (xσ50.trans (xσ52.trans (xσ64.trans (xσ65.trans (xσ68.trans (xσ69.trans (xσ70.trans (xσ71.trans (xσ74.trans xσ78)))))))))))))))) (by decide)).1) kp278
        have kp298 : Kpt (gI σ63 o 4 = gI σ o 4) := Eq.trans (show gI σ63 o 4 = gI σ78 o 4 from (cσ63.O (ko.up (xσ40.trans (xσ41.trans (xσ42.trans (xσ43.trans (xσ47.trans (xσ49.trans (xσ50.trans (xσ52.trans (xσ64.trans (xσ65.trans (xσ68.trans (xσ69.trans (xσ70.trans (xσ71.trans (xσ74.trans xσ78)))))))))))))))) (by decide)).1) kp279
        have kp299 : Kpt (gI σ63 o 6 = gI σ41 o 6) := Eq.trans (show gI σ63 o 6 = gI σ78 o 6 from (cσ63.O (ko.up (xσ40.trans (xσ41.trans (xσ42.trans (xσ43.trans (xσ47.trans (xσ49.trans (xσ50.trans (xσ52.trans (xσ64.trans (xσ65.trans (xσ68.trans (xσ69.trans (xσ70.trans (xσ71.trans (xσ74.trans xσ78)))))))))))))))) (by decide)).1) kp280
        have kp300 : Kpt (gI σ63 o 7 = gI σ41 o 7) := Eq.trans (show gI σ63 o 7 = gI σ78 o 7 from (cσ63.O (ko.up (xσ40.trans (xσ41.trans (xσ42.trans (xσ43.trans (xσ47.trans (xσ49.trans (xσ50.trans (xσ52.trans (xσ64.trans (xσ65.trans (xσ68.trans (xσ69.trans (xσ70.trans (xσ71.trans (xσ74.trans xσ78)))))))))))))))) (by decide)).1) kp281
        have kp301 : Kpt (gI σ63 o 8 = gI σ o 8) := Eq.trans (show gI σ63 o 8 = gI σ78 o 8 from (cσ63.O (ko.up (xσ40.trans (xσ41.trans (xσ42.trans (xσ43.trans (xσ47.trans (xσ49.trans (xσ50.trans (xσ52.trans (xσ64.trans (xσ65.trans (xσ68.trans (xσ69.trans (xσ70.trans (xσ71.trans (xσ74.trans xσ78)))))))))))))))) (by decide)).1) kp282
        have kp302 : Kpt (gI σ63 o 9 = gI σ o 9) := Eq.trans (show gI σ63 o 9 = gI σ78 o 9 from (cσ63.O (ko.up (xσ40.trans (xσ41.trans (xσ42.trans (xσ43.trans (xσ47.trans (xσ49.trans (xσ50.trans (xσ52.trans (xσ64.trans (xσ65.trans (xσ68.trans (xσ69.trans (xσ70.trans (xσ71.trans (xσ74.trans xσ78)))))))))))))))) (by decide)).1) kp283
        have r5σ63 := I_6_5 iσ63.1 (kth.up (xσ40.trans (xσ41.trans (xσ42.trans (xσ43.trans (xσ47.trans (xσ49.trans (xσ50.trans (xσ52.trans (xσ64.trans (xσ65.trans (xσ68.trans (xσ69.trans (xσ70.trans (xσ71.trans (xσ74.trans (xσ78.trans xσ63)))))))))))))))))
        have ho303 : gI σ63 J 7 = gI σ J 7 := kp294
        have cp304 : (gI σ63 th 5 ≤ gI σ63 th 2 ∧ (gI σ63 th 3 ≠ 0 → gI σ63 th 5 + 1 ≤ gI σ63 th 2)) ∧ gI σ63 J 7 ≤ 2 * gI σ63 th 5 ∧ 0 ≤ gI σ63 th 5 := by omega
        clear pσ63 cp285
        have ho305 : gI σ63 J 1 = gI σ J 1 := kp295
        have ho306 : gI σ63 J 2 = gI σ J 2 := kp296
        have ho307 : gI σ63 o 3 = gI σ50 o 3 := kp297
        have ho308 : gI σ63 o 4 = gI σ o 4 := kp298
        have ho309 : gI σ63 o 6 = gI σ41 o 6 := kp299
        have ho310 : gI σ63 o 7 = gI σ41 o 7 := kp300
        have ho311 : gI σ63 o 8 = gI σ o 8 := kp301
        have ho312 : gI σ63 o 9 = gI σ o 9 := kp302
        exact hQ σ63 () iσ63 fσ63 oxcσ63 (by omega)
      · rw [if_neg hc266]
        unfold w_X6_foldText_186
        refine i_X6_refuse iσ74 (kth.up (xσ40.trans (xσ41.trans (xσ42.trans (xσ43.trans (xσ47.trans (xσ49.trans (xσ50.trans (xσ52.trans (xσ64.trans (xσ65.trans (xσ68.trans (xσ69.trans (xσ70.trans (xσ71.trans xσ74))))))))))))))) (by (first | omega | with_reducible assumption | with_reducible exact rng_toInt _ | with_reducible exact rng_wr _ | (unfold rng; omega) | (unfold rng at *; omega) | assumption)) (by (first | omega | with_reducible assumption | with_reducible exact rng_toInt _ | with_reducible exact rng_wr _ | (unfold rng; omega) | (unfold rng at *; omega) | assumption)) (by (first | omega | with_reducible assumption | with_reducible exact rng_toInt _ | with_reducible exact rng_wr _ | (unfold rng; omega) | (unfold rng at *; omega) | assumption)) (fun σ77_1 _ iσ77_1 cσ77_1 pσ77_1 => ?_) (fun σx LLx Nx nux E ix cx ux px => hX σx LLx Nx nux E ix (fσ74.tr (cx.mo (by decide))) (ux) (by first | exact px | exact ⟨by have := px.1; omega, px.2⟩ | (first | omega | with_reducible assumption | with_reducible exact rng_toInt _ | with_reducible exact rng_wr _ | (unfold rng; omega) | (unfold rng at *; omega) | assumption)))
        intro xσ77_1
        exact pσ77_1.elim
  · rw [if_neg hc137]
    unfold w_X6_foldText_69
    refine i_X6_next iσ52 (kth.up (xσ40.trans (xσ41.trans (xσ42.trans (xσ43.trans (xσ47.trans (xσ49.trans (xσ50.trans xσ52)))))))) (kp123.trans (kp106.trans (kp87.trans (kp71.trans (kp52.trans (kp38.trans (kp25.trans (kp16.trans hX0)))))))) (kX.up (xσ40.trans (xσ41.trans (xσ42.trans (xσ43.trans (xσ47.trans (xσ49.trans (xσ50.trans xσ52)))))))) (((xσ40.trans (xσ41.trans (xσ42.trans (xσ43.trans (xσ47.trans (xσ49.trans (xσ50.trans xσ52))))))) tx kX.1).2.2.trans gX) (by (first | omega | with_reducible assumption | with_reducible exact rng_toInt _ | with_reducible exact rng_wr _ | (unfold rng; omega) | (unfold rng at *; omega) | assumption)) (by (first | omega | with_reducible assumption | with_reducible exact rng_toInt _ | with_reducible exact rng_wr _ | (unfold rng; omega) | (unfold rng at *; omega) | assumption)) (fun σ55 _ iσ55 cσ55 pσ55 => ?_) (fun σx LLx Nx nux E ix cx ux px => hX σx LLx Nx nux E ix (fσ52.tr (cx.mo (by decide))) (ux) (by first | exact px | exact ⟨by have := px.1; omega, px.2⟩ | (first | omega | with_reducible assumption | with_reducible exact rng_toInt _ | with_reducible exact rng_wr _ | (unfold rng; omega) | (unfold rng at *; omega) | assumption)))
    intro xσ55
    have fσ55 : Fx [323, 326, 327, 331, 332, 333, 386, 387, 388, 389, 390, 6464] gr σ σ55 := fσ52.tr (cσ55.mo (by decide))
    have oxcσ55 : OX o σ σ55 := oxcσ52.tr (OX.fx cσ55 (by decide) (by decide)) (xσ40.trans (xσ41.trans (xσ42.trans (xσ43.trans (xσ47.trans (xσ49.trans (xσ50.trans xσ52)))))))
    have kp313 : gI σ55 o 13 = gI σ52 o 13 := (cσ55.O (ko.up (xσ40.trans (xσ41.trans (xσ42.trans (xσ43.trans (xσ47.trans (xσ49.trans (xσ50.trans xσ52)))))))) (by decide)).1
    have kp314 : gP σ55 J 0 = gP σ52 J 0 := (cσ55.O (kJ.up (xσ40.trans (xσ41.trans (xσ42.trans (xσ43.trans (xσ47.trans (xσ49.trans (xσ50.trans xσ52)))))))) (by decide)).2.1
    have kp315 : gP σ55 b (gI σ43 o 7).toNat = gP σ52 b (gI σ43 o 7).toNat := (cσ55.A (mb.up (xσ47.trans (xσ49.trans (xσ50.trans xσ52)))) (by decide)).2.1
    have kp316 : gP σ55 th 0 = gP σ52 th 0 := (cσ55.O (kth.up (xσ40.trans (xσ41.trans (xσ42.trans (xσ43.trans (xσ47.trans (xσ49.trans (xσ50.trans xσ52)))))))) (by decide)).2.1
    have kp317 : gP σ55 th 7 = gP σ52 th 7 := (cσ55.O (kth.up (xσ40.trans (xσ41.trans (xσ42.trans (xσ43.trans (xσ47.trans (xσ49.trans (xσ50.trans xσ52)))))))) (by decide)).2.1
    have kp318 : gP σ55 th 8 = gP σ52 th 8 := (cσ55.O (kth.up (xσ40.trans (xσ41.trans (xσ42.trans (xσ43.trans (xσ47.trans (xσ49.trans (xσ50.trans xσ52)))))))) (by decide)).2.1
    have kp319 : Kpt (gI σ55 J 7 = gI σ J 7) := Eq.trans (show gI σ55 J 7 = gI σ52 J 7 from (cσ55.O (kJ.up (xσ40.trans (xσ41.trans (xσ42.trans (xσ43.trans (xσ47.trans (xσ49.trans (xσ50.trans xσ52)))))))) (by decide)).1) kp126
    have kp320 : Kpt (gI σ55 J 1 = gI σ J 1) := Eq.trans (show gI σ55 J 1 = gI σ52 J 1 from (cσ55.O (kJ.up (xσ40.trans (xσ41.trans (xσ42.trans (xσ43.trans (xσ47.trans (xσ49.trans (xσ50.trans xσ52)))))))) (by decide)).1) kp127
    have kp321 : Kpt (gI σ55 J 2 = gI σ J 2) := Eq.trans (show gI σ55 J 2 = gI σ52 J 2 from (cσ55.O (kJ.up (xσ40.trans (xσ41.trans (xσ42.trans (xσ43.trans (xσ47.trans (xσ49.trans (xσ50.trans xσ52)))))))) (by decide)).1) kp128
    have kp322 : Kpt (gI σ55 o 3 = gI σ50 o 3) := Eq.trans (show gI σ55 o 3 = gI σ52 o 3 from (cσ55.O (ko.up (xσ40.trans (xσ41.trans (xσ42.trans (xσ43.trans (xσ47.trans (xσ49.trans (xσ50.trans xσ52)))))))) (by decide)).1) kp129
    have kp323 : Kpt (gI σ55 o 4 = gI σ o 4) := Eq.trans (show gI σ55 o 4 = gI σ52 o 4 from (cσ55.O (ko.up (xσ40.trans (xσ41.trans (xσ42.trans (xσ43.trans (xσ47.trans (xσ49.trans (xσ50.trans xσ52)))))))) (by decide)).1) kp130
    have kp324 : Kpt (gI σ55 o 6 = gI σ41 o 6) := Eq.trans (show gI σ55 o 6 = gI σ52 o 6 from (cσ55.O (ko.up (xσ40.trans (xσ41.trans (xσ42.trans (xσ43.trans (xσ47.trans (xσ49.trans (xσ50.trans xσ52)))))))) (by decide)).1) kp131
    have kp325 : Kpt (gI σ55 o 7 = gI σ41 o 7) := Eq.trans (show gI σ55 o 7 = gI σ52 o 7 from (cσ55.O (ko.up (xσ40.trans (xσ41.trans (xσ42.trans (xσ43.trans (xσ47.trans (xσ49.trans (xσ50.trans xσ52)))))))) (by decide)).1) kp132
    have kp326 : Kpt (gI σ55 o 8 = gI σ o 8) := Eq.trans (show gI σ55 o 8 = gI σ52 o 8 from (cσ55.O (ko.up (xσ40.trans (xσ41.trans (xσ42.trans (xσ43.trans (xσ47.trans (xσ49.trans (xσ50.trans xσ52)))))))) (by decide)).1) kp133
    have kp327 : Kpt (gI σ55 o 9 = gI σ o 9) := Eq.trans (show gI σ55 o 9 = gI σ52 o 9 from (cσ55.O (ko.up (xσ40.trans (xσ41.trans (xσ42.trans (xσ43.trans (xσ47.trans (xσ49.trans (xσ50.trans xσ52)))))))) (by decide)).1) kp134
    have r5σ55 := I_6_5 iσ55.1 (kth.up (xσ40.trans (xσ41.trans (xσ42.trans (xσ43.trans (xσ47.trans (xσ49.trans (xσ50.trans (xσ52.trans xσ55)))))))))
    have ho328 : gI σ55 J 7 = gI σ J 7 := kp319
    have cp329 : (gI σ55 th 5 ≤ gI σ55 th 2 ∧ (gI σ55 th 3 ≠ 0 → gI σ55 th 5 + 1 ≤ gI σ55 th 2)) ∧ gI σ55 J 7 ≤ 2 * gI σ55 th 5 ∧ 0 ≤ gI σ55 th 5 := by omega
    clear pσ55 cp136
    refine ⟨o, (kp318.trans (kp125.trans (kp108.trans (kp89.trans (kp73.trans (kp54.trans (kp40.trans (kp27.trans (kp18.trans h8))))))))), fun kk_o_6 => ?_⟩
    intro σ57 eσ57
    have xσ57 : Ext σ55 σ57 := by rw [eσ57]; exact fun _ h => ⟨h, rfl, rfl⟩
    have iσ57 : IV σ57 pl gq ci gr nc ot LL N nu := by rw [eσ57]; exact iσ55.wSp (ko.up (xσ40.trans (xσ41.trans (xσ42.trans (xσ43.trans (xσ47.trans (xσ49.trans (xσ50.trans (xσ52.trans xσ55))))))))) (fun i hi => by omega) (by decide) (show (0 : Int) ≤ 5 ∧ 5 ≤ 11 from ⟨by omega, by omega⟩)
    have fσ57 : Fx [323, 326, 327, 331, 332, 333, 386, 387, 388, 389, 390, 6464] gr σ σ57 := fσ55.tr (Sk.fx (by rw [eσ57]; exact Sk.pI (by rw [fcdO (ko.up (xσ40.trans (xσ41.trans (xσ42.trans (xσ43.trans (xσ47.trans (xσ49.trans (xσ50.trans (xσ52.trans xσ55))))))))) (by decide)]; decide)))
    have oxcσ57 : OX o σ σ57 := oxcσ55.tr (by rw [eσ57]; exact OX.pI (ko.up (xσ40.trans (xσ41.trans (xσ42.trans (xσ43.trans (xσ47.trans (xσ49.trans (xσ50.trans (xσ52.trans xσ55))))))))) (Or.inr rfl)) (xσ40.trans (xσ41.trans (xσ42.trans (xσ43.trans (xσ47.trans (xσ49.trans (xσ50.trans (xσ52.trans xσ55))))))))
    have wσ57 : gI σ57 o 6 = 5 := by rw [eσ57]; exact up2_s _ _ _ _
    have kp330 : gI σ57 o 13 = gI σ55 o 13 := by rw [eσ57]; exact up2_n _ _ (fun q => absurd q.2 (by decide))
    have kp331 : gP σ57 J 0 = gP σ55 J 0 := by rw [eσ57]
    have kp332 : gP σ57 b (gI σ43 o 7).toNat = gP σ55 b (gI σ43 o 7).toNat := by rw [eσ57]
    have kp333 : gP σ57 th 0 = gP σ55 th 0 := by rw [eσ57]
    have kp334 : gP σ57 th 7 = gP σ55 th 7 := by rw [eσ57]
    have kp335 : gP σ57 th 8 = gP σ55 th 8 := by rw [eσ57]
    have kp336 : gI σ57 th 2 = gI σ55 th 2 := by rw [eσ57]; exact up2_n _ _ (fun q => absurd q.2 (by decide))
    have kp337 : gI σ57 th 3 = gI σ55 th 3 := by rw [eσ57]; exact up2_n _ _ (fun q => absurd q.2 (by decide))
    have kp338 : gI σ57 th 5 = gI σ55 th 5 := by rw [eσ57]; exact up2_n _ _ (fun q => absurd q.2 (by decide))
    have kp339 : Kpt (gI σ57 J 7 = gI σ J 7) := Eq.trans (show gI σ57 J 7 = gI σ55 J 7 from by rw [eσ57]; exact up2_n _ _ (fun q => absurd q.2 (by decide))) kp319
    have kp340 : Kpt (gI σ57 J 1 = gI σ J 1) := Eq.trans (show gI σ57 J 1 = gI σ55 J 1 from by rw [eσ57]; exact up2_n _ _ (fun q => absurd q.2 (by decide))) kp320
    have kp341 : Kpt (gI σ57 J 2 = gI σ J 2) := Eq.trans (show gI σ57 J 2 = gI σ55 J 2 from by rw [eσ57]; exact up2_n _ _ (fun q => absurd q.2 (by decide))) kp321
    have kp342 : Kpt (gI σ57 o 3 = gI σ50 o 3) := Eq.trans (show gI σ57 o 3 = gI σ55 o 3 from by rw [eσ57]; exact up2_n _ _ (fun q => absurd q.2 (by decide))) kp322
    have kp343 : Kpt (gI σ57 o 4 = gI σ o 4) := Eq.trans (show gI σ57 o 4 = gI σ55 o 4 from by rw [eσ57]; exact up2_n _ _ (fun q => absurd q.2 (by decide))) kp323
    have kp344 : Kpt (gI σ57 o 7 = gI σ41 o 7) := Eq.trans (show gI σ57 o 7 = gI σ55 o 7 from by rw [eσ57]; exact up2_n _ _ (fun q => absurd q.2 (by decide))) kp325
    have kp345 : Kpt (gI σ57 o 8 = gI σ o 8) := Eq.trans (show gI σ57 o 8 = gI σ55 o 8 from by rw [eσ57]; exact up2_n _ _ (fun q => absurd q.2 (by decide))) kp326
    have kp346 : Kpt (gI σ57 o 9 = gI σ o 9) := Eq.trans (show gI σ57 o 9 = gI σ55 o 9 from by rw [eσ57]; exact up2_n _ _ (fun q => absurd q.2 (by decide))) kp327
    refine i_X6_number iσ57 (kth.up (xσ40.trans (xσ41.trans (xσ42.trans (xσ43.trans (xσ47.trans (xσ49.trans (xσ50.trans (xσ52.trans (xσ55.trans xσ57)))))))))) (by (first | omega | with_reducible assumption | with_reducible exact rng_toInt _ | with_reducible exact rng_wr _ | (unfold rng; omega) | (unfold rng at *; omega) | assumption)) (by (first | omega | with_reducible assumption | with_reducible exact rng_toInt _ | with_reducible exact rng_wr _ | (unfold rng; omega) | (unfold rng at *; omega) | assumption)) (fun σ58 r59 iσ58 cσ58 pσ58 => ?_) (fun σx LLx Nx nux E ix cx ux px => hX σx LLx Nx nux E ix (fσ57.tr (cx.mo (by decide))) (ux) (by first | exact px | exact ⟨by have := px.1; omega, px.2⟩ | (first | omega | with_reducible assumption | with_reducible exact rng_toInt _ | with_reducible exact rng_wr _ | (unfold rng; omega) | (unfold rng at *; omega) | assumption)))
    intro xσ58
    have fσ58 : Fx [323, 326, 327, 331, 332, 333, 386, 387, 388, 389, 390, 6464] gr σ σ58 := fσ57.tr (cσ58.mo (by decide))
    have oxcσ58 : OX o σ σ58 := oxcσ57.tr (OX.fx cσ58 (by decide) (by decide)) (xσ40.trans (xσ41.trans (xσ42.trans (xσ43.trans (xσ47.trans (xσ49.trans (xσ50.trans (xσ52.trans (xσ55.trans xσ57)))))))))
    have kp347 : gI σ58 o 13 = gI σ57 o 13 := (cσ58.O (ko.up (xσ40.trans (xσ41.trans (xσ42.trans (xσ43.trans (xσ47.trans (xσ49.trans (xσ50.trans (xσ52.trans (xσ55.trans xσ57)))))))))) (by decide)).1
    have kp348 : Kpt (gI σ58 o 6 = gI σ57 o 6) := (show gI σ58 o 6 = gI σ57 o 6 from (cσ58.O (ko.up (xσ40.trans (xσ41.trans (xσ42.trans (xσ43.trans (xσ47.trans (xσ49.trans (xσ50.trans (xσ52.trans (xσ55.trans xσ57)))))))))) (by decide)).1)
    have kp349 : gP σ58 J 0 = gP σ57 J 0 := (cσ58.O (kJ.up (xσ40.trans (xσ41.trans (xσ42.trans (xσ43.trans (xσ47.trans (xσ49.trans (xσ50.trans (xσ52.trans (xσ55.trans xσ57)))))))))) (by decide)).2.1
    have kp350 : gP σ58 b (gI σ43 o 7).toNat = gP σ57 b (gI σ43 o 7).toNat := (cσ58.A (mb.up (xσ47.trans (xσ49.trans (xσ50.trans (xσ52.trans (xσ55.trans xσ57)))))) (by decide)).2.1
    have kp351 : gP σ58 th 0 = gP σ57 th 0 := (cσ58.O (kth.up (xσ40.trans (xσ41.trans (xσ42.trans (xσ43.trans (xσ47.trans (xσ49.trans (xσ50.trans (xσ52.trans (xσ55.trans xσ57)))))))))) (by decide)).2.1
    have kp352 : gP σ58 th 7 = gP σ57 th 7 := (cσ58.O (kth.up (xσ40.trans (xσ41.trans (xσ42.trans (xσ43.trans (xσ47.trans (xσ49.trans (xσ50.trans (xσ52.trans (xσ55.trans xσ57)))))))))) (by decide)).2.1
    have kp353 : gP σ58 th 8 = gP σ57 th 8 := (cσ58.O (kth.up (xσ40.trans (xσ41.trans (xσ42.trans (xσ43.trans (xσ47.trans (xσ49.trans (xσ50.trans (xσ52.trans (xσ55.trans xσ57)))))))))) (by decide)).2.1
    have kp354 : gI σ58 th 2 = gI σ57 th 2 := (cσ58.O (kth.up (xσ40.trans (xσ41.trans (xσ42.trans (xσ43.trans (xσ47.trans (xσ49.trans (xσ50.trans (xσ52.trans (xσ55.trans xσ57)))))))))) (by decide)).1
    have kp355 : gI σ58 th 3 = gI σ57 th 3 := (cσ58.O (kth.up (xσ40.trans (xσ41.trans (xσ42.trans (xσ43.trans (xσ47.trans (xσ49.trans (xσ50.trans (xσ52.trans (xσ55.trans xσ57)))))))))) (by decide)).1
    have kp356 : gI σ58 th 5 = gI σ57 th 5 := (cσ58.O (kth.up (xσ40.trans (xσ41.trans (xσ42.trans (xσ43.trans (xσ47.trans (xσ49.trans (xσ50.trans (xσ52.trans (xσ55.trans xσ57)))))))))) (by decide)).1
    have kp357 : Kpt (gI σ58 J 7 = gI σ J 7) := Eq.trans (show gI σ58 J 7 = gI σ57 J 7 from (cσ58.O (kJ.up (xσ40.trans (xσ41.trans (xσ42.trans (xσ43.trans (xσ47.trans (xσ49.trans (xσ50.trans (xσ52.trans (xσ55.trans xσ57)))))))))) (by decide)).1) kp339
    have kp358 : Kpt (gI σ58 J 1 = gI σ J 1) := Eq.trans (show gI σ58 J 1 = gI σ57 J 1 from (cσ58.O (kJ.up (xσ40.trans (xσ41.trans (xσ42.trans (xσ43.trans (xσ47.trans (xσ49.trans (xσ50.trans (xσ52.trans (xσ55.trans xσ57)))))))))) (by decide)).1) kp340
    have kp359 : Kpt (gI σ58 J 2 = gI σ J 2) := Eq.trans (show gI σ58 J 2 = gI σ57 J 2 from (cσ58.O (kJ.up (xσ40.trans (xσ41.trans (xσ42.trans (xσ43.trans (xσ47.trans (xσ49.trans (xσ50.trans (xσ52.trans (xσ55.trans xσ57)))))))))) (by decide)).1) kp341
    have kp360 : Kpt (gI σ58 o 3 = gI σ50 o 3) := Eq.trans (show gI σ58 o 3 = gI σ57 o 3 from (cσ58.O (ko.up (xσ40.trans (xσ41.trans (xσ42.trans (xσ43.trans (xσ47.trans (xσ49.trans (xσ50.trans (xσ52.trans (xσ55.trans xσ57)))))))))) (by decide)).1) kp342
    have kp361 : Kpt (gI σ58 o 4 = gI σ o 4) := Eq.trans (show gI σ58 o 4 = gI σ57 o 4 from (cσ58.O (ko.up (xσ40.trans (xσ41.trans (xσ42.trans (xσ43.trans (xσ47.trans (xσ49.trans (xσ50.trans (xσ52.trans (xσ55.trans xσ57)))))))))) (by decide)).1) kp343
    have kp362 : Kpt (gI σ58 o 7 = gI σ41 o 7) := Eq.trans (show gI σ58 o 7 = gI σ57 o 7 from (cσ58.O (ko.up (xσ40.trans (xσ41.trans (xσ42.trans (xσ43.trans (xσ47.trans (xσ49.trans (xσ50.trans (xσ52.trans (xσ55.trans xσ57)))))))))) (by decide)).1) kp344
    have kp363 : Kpt (gI σ58 o 8 = gI σ o 8) := Eq.trans (show gI σ58 o 8 = gI σ57 o 8 from (cσ58.O (ko.up (xσ40.trans (xσ41.trans (xσ42.trans (xσ43.trans (xσ47.trans (xσ49.trans (xσ50.trans (xσ52.trans (xσ55.trans xσ57)))))))))) (by decide)).1) kp345
    have kp364 : Kpt (gI σ58 o 9 = gI σ o 9) := Eq.trans (show gI σ58 o 9 = gI σ57 o 9 from (cσ58.O (ko.up (xσ40.trans (xσ41.trans (xσ42.trans (xσ43.trans (xσ47.trans (xσ49.trans (xσ50.trans (xσ52.trans (xσ55.trans xσ57)))))))))) (by decide)).1) kp346
    refine ⟨o, (kp335.trans (kp318.trans (kp125.trans (kp108.trans (kp89.trans (kp73.trans (kp54.trans (kp40.trans (kp27.trans (kp18.trans h8)))))))))), fun kk_o_7 => ?_⟩
    intro σ61 eσ61
    have xσ61 : Ext σ58 σ61 := by rw [eσ61]; exact fun _ h => ⟨h, rfl, rfl⟩
    have iσ61 : IV σ61 pl gq ci gr nc ot LL N nu := by rw [eσ61]; exact iσ58.wSp (ko.up (xσ40.trans (xσ41.trans (xσ42.trans (xσ43.trans (xσ47.trans (xσ49.trans (xσ50.trans (xσ52.trans (xσ55.trans (xσ57.trans xσ58))))))))))) (fun i hi => by omega) (by decide) (show (0 : Int) ≤ r59 ∧ r59 ≤ 1000 from ⟨by omega, by omega⟩)
    have fσ61 : Fx [323, 326, 327, 331, 332, 333, 386, 387, 388, 389, 390, 6464] gr σ σ61 := fσ58.tr (Sk.fx (by rw [eσ61]; exact Sk.pI (by rw [fcdO (ko.up (xσ40.trans (xσ41.trans (xσ42.trans (xσ43.trans (xσ47.trans (xσ49.trans (xσ50.trans (xσ52.trans (xσ55.trans (xσ57.trans xσ58))))))))))) (by decide)]; decide)))
    have oxcσ61 : OX o σ σ61 := oxcσ58.tr (by rw [eσ61]; exact OX.pI (ko.up (xσ40.trans (xσ41.trans (xσ42.trans (xσ43.trans (xσ47.trans (xσ49.trans (xσ50.trans (xσ52.trans (xσ55.trans (xσ57.trans xσ58))))))))))) (Or.inr rfl)) (xσ40.trans (xσ41.trans (xσ42.trans (xσ43.trans (xσ47.trans (xσ49.trans (xσ50.trans (xσ52.trans (xσ55.trans (xσ57.trans xσ58))))))))))
    have wσ61 : gI σ61 o 11 = r59 := by rw [eσ61]; exact up2_s _ _ _ _
    have kp365 : gI σ61 o 13 = gI σ58 o 13 := by rw [eσ61]; exact up2_n _ _ (fun q => absurd q.2 (by decide))
    have kp366 : gP σ61 J 0 = gP σ58 J 0 := by rw [eσ61]
    have kp367 : gP σ61 b (gI σ43 o 7).toNat = gP σ58 b (gI σ43 o 7).toNat := by rw [eσ61]
    have kp368 : gP σ61 th 0 = gP σ58 th 0 := by rw [eσ61]
    have kp369 : gP σ61 th 7 = gP σ58 th 7 := by rw [eσ61]
    have kp370 : gP σ61 th 8 = gP σ58 th 8 := by rw [eσ61]
    have kp371 : gI σ61 th 2 = gI σ58 th 2 := by rw [eσ61]; exact up2_n _ _ (fun q => absurd q.2 (by decide))
    have kp372 : gI σ61 th 3 = gI σ58 th 3 := by rw [eσ61]; exact up2_n _ _ (fun q => absurd q.2 (by decide))
    have kp373 : gI σ61 th 5 = gI σ58 th 5 := by rw [eσ61]; exact up2_n _ _ (fun q => absurd q.2 (by decide))
    have kp374 : Kpt (gI σ61 J 7 = gI σ J 7) := Eq.trans (show gI σ61 J 7 = gI σ58 J 7 from by rw [eσ61]; exact up2_n _ _ (fun q => absurd q.2 (by decide))) kp357
    have kp375 : Kpt (gI σ61 J 1 = gI σ J 1) := Eq.trans (show gI σ61 J 1 = gI σ58 J 1 from by rw [eσ61]; exact up2_n _ _ (fun q => absurd q.2 (by decide))) kp358
    have kp376 : Kpt (gI σ61 J 2 = gI σ J 2) := Eq.trans (show gI σ61 J 2 = gI σ58 J 2 from by rw [eσ61]; exact up2_n _ _ (fun q => absurd q.2 (by decide))) kp359
    have kp377 : Kpt (gI σ61 o 3 = gI σ50 o 3) := Eq.trans (show gI σ61 o 3 = gI σ58 o 3 from by rw [eσ61]; exact up2_n _ _ (fun q => absurd q.2 (by decide))) kp360
    have kp378 : Kpt (gI σ61 o 4 = gI σ o 4) := Eq.trans (show gI σ61 o 4 = gI σ58 o 4 from by rw [eσ61]; exact up2_n _ _ (fun q => absurd q.2 (by decide))) kp361
    have kp379 : Kpt (gI σ61 o 6 = gI σ57 o 6) := Eq.trans (show gI σ61 o 6 = gI σ58 o 6 from by rw [eσ61]; exact up2_n _ _ (fun q => absurd q.2 (by decide))) kp348
    have kp380 : Kpt (gI σ61 o 7 = gI σ41 o 7) := Eq.trans (show gI σ61 o 7 = gI σ58 o 7 from by rw [eσ61]; exact up2_n _ _ (fun q => absurd q.2 (by decide))) kp362
    have kp381 : Kpt (gI σ61 o 8 = gI σ o 8) := Eq.trans (show gI σ61 o 8 = gI σ58 o 8 from by rw [eσ61]; exact up2_n _ _ (fun q => absurd q.2 (by decide))) kp363
    have kp382 : Kpt (gI σ61 o 9 = gI σ o 9) := Eq.trans (show gI σ61 o 9 = gI σ58 o 9 from by rw [eσ61]; exact up2_n _ _ (fun q => absurd q.2 (by decide))) kp364
    refine i_X6_next iσ61 (kth.up (xσ40.trans (xσ41.trans (xσ42.trans (xσ43.trans (xσ47.trans (xσ49.trans (xσ50.trans (xσ52.trans (xσ55.trans (xσ57.trans (xσ58.trans xσ61)))))))))))) (kp368.trans (kp351.trans (kp333.trans (kp316.trans (kp123.trans (kp106.trans (kp87.trans (kp71.trans (kp52.trans (kp38.trans (kp25.trans (kp16.trans hX0)))))))))))) (kX.up (xσ40.trans (xσ41.trans (xσ42.trans (xσ43.trans (xσ47.trans (xσ49.trans (xσ50.trans (xσ52.trans (xσ55.trans (xσ57.trans (xσ58.trans xσ61)))))))))))) (((xσ40.trans (xσ41.trans (xσ42.trans (xσ43.trans (xσ47.trans (xσ49.trans (xσ50.trans (xσ52.trans (xσ55.trans (xσ57.trans (xσ58.trans xσ61))))))))))) tx kX.1).2.2.trans gX) (by (first | omega | with_reducible assumption | with_reducible exact rng_toInt _ | with_reducible exact rng_wr _ | (unfold rng; omega) | (unfold rng at *; omega) | assumption)) (by (first | omega | with_reducible assumption | with_reducible exact rng_toInt _ | with_reducible exact rng_wr _ | (unfold rng; omega) | (unfold rng at *; omega) | assumption)) (fun σ62 _ iσ62 cσ62 pσ62 => ?_) (fun σx LLx Nx nux E ix cx ux px => hX σx LLx Nx nux E ix (fσ61.tr (cx.mo (by decide))) (ux) (by first | exact px | exact ⟨by have := px.1; omega, px.2⟩ | (first | omega | with_reducible assumption | with_reducible exact rng_toInt _ | with_reducible exact rng_wr _ | (unfold rng; omega) | (unfold rng at *; omega) | assumption)))
    intro xσ62
    have fσ62 : Fx [323, 326, 327, 331, 332, 333, 386, 387, 388, 389, 390, 6464] gr σ σ62 := fσ61.tr (cσ62.mo (by decide))
    have oxcσ62 : OX o σ σ62 := oxcσ61.tr (OX.fx cσ62 (by decide) (by decide)) (xσ40.trans (xσ41.trans (xσ42.trans (xσ43.trans (xσ47.trans (xσ49.trans (xσ50.trans (xσ52.trans (xσ55.trans (xσ57.trans (xσ58.trans xσ61)))))))))))
    have kp383 : gI σ62 o 11 = gI σ61 o 11 := (cσ62.O (ko.up (xσ40.trans (xσ41.trans (xσ42.trans (xσ43.trans (xσ47.trans (xσ49.trans (xσ50.trans (xσ52.trans (xσ55.trans (xσ57.trans (xσ58.trans xσ61)))))))))))) (by decide)).1
    have kp384 : gI σ62 o 13 = gI σ61 o 13 := (cσ62.O (ko.up (xσ40.trans (xσ41.trans (xσ42.trans (xσ43.trans (xσ47.trans (xσ49.trans (xσ50.trans (xσ52.trans (xσ55.trans (xσ57.trans (xσ58.trans xσ61)))))))))))) (by decide)).1
    have kp385 : gP σ62 J 0 = gP σ61 J 0 := (cσ62.O (kJ.up (xσ40.trans (xσ41.trans (xσ42.trans (xσ43.trans (xσ47.trans (xσ49.trans (xσ50.trans (xσ52.trans (xσ55.trans (xσ57.trans (xσ58.trans xσ61)))))))))))) (by decide)).2.1
    have kp386 : gP σ62 b (gI σ43 o 7).toNat = gP σ61 b (gI σ43 o 7).toNat := (cσ62.A (mb.up (xσ47.trans (xσ49.trans (xσ50.trans (xσ52.trans (xσ55.trans (xσ57.trans (xσ58.trans xσ61)))))))) (by decide)).2.1
    have kp387 : gP σ62 th 0 = gP σ61 th 0 := (cσ62.O (kth.up (xσ40.trans (xσ41.trans (xσ42.trans (xσ43.trans (xσ47.trans (xσ49.trans (xσ50.trans (xσ52.trans (xσ55.trans (xσ57.trans (xσ58.trans xσ61)))))))))))) (by decide)).2.1
    have kp388 : gP σ62 th 7 = gP σ61 th 7 := (cσ62.O (kth.up (xσ40.trans (xσ41.trans (xσ42.trans (xσ43.trans (xσ47.trans (xσ49.trans (xσ50.trans (xσ52.trans (xσ55.trans (xσ57.trans (xσ58.trans xσ61)))))))))))) (by decide)).2.1
    have kp389 : gP σ62 th 8 = gP σ61 th 8 := (cσ62.O (kth.up (xσ40.trans (xσ41.trans (xσ42.trans (xσ43.trans (xσ47.trans (xσ49.trans (xσ50.trans (xσ52.trans (xσ55.trans (xσ57.trans (xσ58.trans xσ61)))))))))))) (by decide)).2.1
    have kp390 : Kpt (gI σ62 J 7 = gI σ J 7) := Eq.trans (show gI σ62 J 7 = gI σ61 J 7 from (cσ62.O (kJ.up (xσ40.trans (xσ41.trans (xσ42.trans (xσ43.trans (xσ47.trans (xσ49.trans (xσ50.trans (xσ52.trans (xσ55.trans (xσ57.trans (xσ58.trans xσ61)))))))))))) (by decide)).1) kp374
    have kp391 : Kpt (gI σ62 J 1 = gI σ J 1) := Eq.trans (show gI σ62 J 1 = gI σ61 J 1 from (cσ62.O (kJ.up (xσ40.trans (xσ41.trans (xσ42.trans (xσ43.trans (xσ47.trans (xσ49.trans (xσ50.trans (xσ52.trans (xσ55.trans (xσ57.trans (xσ58.trans xσ61)))))))))))) (by decide)).1) kp375
    have kp392 : Kpt (gI σ62 J 2 = gI σ J 2) := Eq.trans (show gI σ62 J 2 = gI σ61 J 2 from (cσ62.O (kJ.up (xσ40.trans (xσ41.trans (xσ42.trans (xσ43.trans (xσ47.trans (xσ49.trans (xσ50.trans (xσ52.trans (xσ55.trans (xσ57.trans (xσ58.trans xσ61)))))))))))) (by decide)).1) kp376
    have kp393 : Kpt (gI σ62 o 3 = gI σ50 o 3) := Eq.trans (show gI σ62 o 3 = gI σ61 o 3 from (cσ62.O (ko.up (xσ40.trans (xσ41.trans (xσ42.trans (xσ43.trans (xσ47.trans (xσ49.trans (xσ50.trans (xσ52.trans (xσ55.trans (xσ57.trans (xσ58.trans xσ61)))))))))))) (by decide)).1) kp377
    have kp394 : Kpt (gI σ62 o 4 = gI σ o 4) := Eq.trans (show gI σ62 o 4 = gI σ61 o 4 from (cσ62.O (ko.up (xσ40.trans (xσ41.trans (xσ42.trans (xσ43.trans (xσ47.trans (xσ49.trans (xσ50.trans (xσ52.trans (xσ55.trans (xσ57.trans (xσ58.trans xσ61)))))))))))) (by decide)).1) kp378
    have kp395 : Kpt (gI σ62 o 6 = gI σ57 o 6) := Eq.trans (show gI σ62 o 6 = gI σ61 o 6 from (cσ62.O (ko.up (xσ40.trans (xσ41.trans (xσ42.trans (xσ43.trans (xσ47.trans (xσ49.trans (xσ50.trans (xσ52.trans (xσ55.trans (xσ57.trans (xσ58.trans xσ61)))))))))))) (by decide)).1) kp379
    have kp396 : Kpt (gI σ62 o 7 = gI σ41 o 7) := Eq.trans (show gI σ62 o 7 = gI σ61 o 7 from (cσ62.O (ko.up (xσ40.trans (xσ41.trans (xσ42.trans (xσ43.trans (xσ47.trans (xσ49.trans (xσ50.trans (xσ52.trans (xσ55.trans (xσ57.trans (xσ58.trans xσ61)))))))))))) (by decide)).1) kp380
    have kp397 : Kpt (gI σ62 o 8 = gI σ o 8) := Eq.trans (show gI σ62 o 8 = gI σ61 o 8 from (cσ62.O (ko.up (xσ40.trans (xσ41.trans (xσ42.trans (xσ43.trans (xσ47.trans (xσ49.trans (xσ50.trans (xσ52.trans (xσ55.trans (xσ57.trans (xσ58.trans xσ61)))))))))))) (by decide)).1) kp381
    have kp398 : Kpt (gI σ62 o 9 = gI σ o 9) := Eq.trans (show gI σ62 o 9 = gI σ61 o 9 from (cσ62.O (ko.up (xσ40.trans (xσ41.trans (xσ42.trans (xσ43.trans (xσ47.trans (xσ49.trans (xσ50.trans (xσ52.trans (xσ55.trans (xσ57.trans (xσ58.trans xσ61)))))))))))) (by decide)).1) kp382
    have r5σ62 := I_6_5 iσ62.1 (kth.up (xσ40.trans (xσ41.trans (xσ42.trans (xσ43.trans (xσ47.trans (xσ49.trans (xσ50.trans (xσ52.trans (xσ55.trans (xσ57.trans (xσ58.trans (xσ61.trans xσ62)))))))))))))
    have ho399 : gI σ62 J 7 = gI σ J 7 := kp390
    have cp400 : (gI σ62 th 5 ≤ gI σ62 th 2 ∧ (gI σ62 th 3 ≠ 0 → gI σ62 th 5 + 1 ≤ gI σ62 th 2)) ∧ gI σ62 J 7 ≤ 2 * gI σ62 th 5 ∧ 0 ≤ gI σ62 th 5 := by omega
    clear pσ62 kp373 kp372 kp371 kp356 kp355 kp354 kp338 kp337 kp336 cp329
    unfold w_X6_foldText_196
    refine i_X6_wantSign iσ62 (kth.up (xσ40.trans (xσ41.trans (xσ42.trans (xσ43.trans (xσ47.trans (xσ49.trans (xσ50.trans (xσ52.trans (xσ55.trans (xσ57.trans (xσ58.trans (xσ61.trans xσ62))))))))))))) (kp387.trans (kp368.trans (kp351.trans (kp333.trans (kp316.trans (kp123.trans (kp106.trans (kp87.trans (kp71.trans (kp52.trans (kp38.trans (kp25.trans (kp16.trans hX0))))))))))))) (kX.up (xσ40.trans (xσ41.trans (xσ42.trans (xσ43.trans (xσ47.trans (xσ49.trans (xσ50.trans (xσ52.trans (xσ55.trans (xσ57.trans (xσ58.trans (xσ61.trans xσ62))))))))))))) (((xσ40.trans (xσ41.trans (xσ42.trans (xσ43.trans (xσ47.trans (xσ49.trans (xσ50.trans (xσ52.trans (xσ55.trans (xσ57.trans (xσ58.trans (xσ61.trans xσ62)))))))))))) tx kX.1).2.2.trans gX) (by (first | omega | with_reducible assumption | with_reducible exact rng_toInt _ | with_reducible exact rng_wr _ | (unfold rng; omega) | (unfold rng at *; omega) | assumption)) (by (first | omega | with_reducible assumption | with_reducible exact rng_toInt _ | with_reducible exact rng_wr _ | (unfold rng; omega) | (unfold rng at *; omega) | assumption)) (fun σ63_1 _ iσ63_1 cσ63_1 pσ63_1 => ?_) (fun σx LLx Nx nux E ix cx ux px => hX σx LLx Nx nux E ix (fσ62.tr (cx.mo (by decide))) (ux) (by first | exact px | exact ⟨by have := px.1; omega, px.2⟩ | (first | omega | with_reducible assumption | with_reducible exact rng_toInt _ | with_reducible exact rng_wr _ | (unfold rng; omega) | (unfold rng at *; omega) | assumption)))
    intro xσ63_1
    have fσ63_1 : Fx [323, 326, 327, 331, 332, 333, 386, 387, 388, 389, 390, 6464] gr σ σ63_1 := fσ62.tr (cσ63_1.mo (by decide))
    have oxcσ63_1 : OX o σ σ63_1 := oxcσ62.tr (OX.fx cσ63_1 (by decide) (by decide)) (xσ40.trans (xσ41.trans (xσ42.trans (xσ43.trans (xσ47.trans (xσ49.trans (xσ50.trans (xσ52.trans (xσ55.trans (xσ57.trans (xσ58.trans (xσ61.trans xσ62))))))))))))
    have kp401 : gI σ63_1 o 11 = gI σ62 o 11 := (cσ63_1.O (ko.up (xσ40.trans (xσ41.trans (xσ42.trans (xσ43.trans (xσ47.trans (xσ49.trans (xσ50.trans (xσ52.trans (xσ55.trans (xσ57.trans (xσ58.trans (xσ61.trans xσ62))))))))))))) (by decide)).1
    have kp402 : gI σ63_1 o 13 = gI σ62 o 13 := (cσ63_1.O (ko.up (xσ40.trans (xσ41.trans (xσ42.trans (xσ43.trans (xσ47.trans (xσ49.trans (xσ50.trans (xσ52.trans (xσ55.trans (xσ57.trans (xσ58.trans (xσ61.trans xσ62))))))))))))) (by decide)).1
    have kp403 : gP σ63_1 J 0 = gP σ62 J 0 := (cσ63_1.O (kJ.up (xσ40.trans (xσ41.trans (xσ42.trans (xσ43.trans (xσ47.trans (xσ49.trans (xσ50.trans (xσ52.trans (xσ55.trans (xσ57.trans (xσ58.trans (xσ61.trans xσ62))))))))))))) (by decide)).2.1
    have kp404 : gP σ63_1 b (gI σ43 o 7).toNat = gP σ62 b (gI σ43 o 7).toNat := (cσ63_1.A (mb.up (xσ47.trans (xσ49.trans (xσ50.trans (xσ52.trans (xσ55.trans (xσ57.trans (xσ58.trans (xσ61.trans xσ62))))))))) (by decide)).2.1
    have kp405 : gP σ63_1 th 0 = gP σ62 th 0 := (cσ63_1.O (kth.up (xσ40.trans (xσ41.trans (xσ42.trans (xσ43.trans (xσ47.trans (xσ49.trans (xσ50.trans (xσ52.trans (xσ55.trans (xσ57.trans (xσ58.trans (xσ61.trans xσ62))))))))))))) (by decide)).2.1
    have kp406 : gP σ63_1 th 7 = gP σ62 th 7 := (cσ63_1.O (kth.up (xσ40.trans (xσ41.trans (xσ42.trans (xσ43.trans (xσ47.trans (xσ49.trans (xσ50.trans (xσ52.trans (xσ55.trans (xσ57.trans (xσ58.trans (xσ61.trans xσ62))))))))))))) (by decide)).2.1
    have kp407 : gP σ63_1 th 8 = gP σ62 th 8 := (cσ63_1.O (kth.up (xσ40.trans (xσ41.trans (xσ42.trans (xσ43.trans (xσ47.trans (xσ49.trans (xσ50.trans (xσ52.trans (xσ55.trans (xσ57.trans (xσ58.trans (xσ61.trans xσ62))))))))))))) (by decide)).2.1
    have kp408 : Kpt (gI σ63_1 J 7 = gI σ J 7) := Eq.trans (show gI σ63_1 J 7 = gI σ62 J 7 from (cσ63_1.O (kJ.up (xσ40.trans (xσ41.trans (xσ42.trans (xσ43.trans (xσ47.trans (xσ49.trans (xσ50.trans (xσ52.trans (xσ55.trans (xσ57.trans (xσ58.trans (xσ61.trans xσ62))))))))))))) (by decide)).1) kp390
    have kp409 : Kpt (gI σ63_1 J 1 = gI σ J 1) := Eq.trans (show gI σ63_1 J 1 = gI σ62 J 1 from (cσ63_1.O (kJ.up (xσ40.trans (xσ41.trans (xσ42.trans (xσ43.trans (xσ47.trans (xσ49.trans (xσ50.trans (xσ52.trans (xσ55.trans (xσ57.trans (xσ58.trans (xσ61.trans xσ62))))))))))))) (by decide)).1) kp391
    have kp410 : Kpt (gI σ63_1 J 2 = gI σ J 2) := Eq.trans (show gI σ63_1 J 2 = gI σ62 J 2 from (cσ63_1.O (kJ.up (xσ40.trans (xσ41.trans (xσ42.trans (xσ43.trans (xσ47.trans (xσ49.trans (xσ50.trans (xσ52.trans (xσ55.trans (xσ57.trans (xσ58.trans (xσ61.trans xσ62))))))))))))) (by decide)).1) kp392
    have kp411 : Kpt (gI σ63_1 o 3 = gI σ50 o 3) := Eq.trans (show gI σ63_1 o 3 = gI σ62 o 3 from (cσ63_1.O (ko.up (xσ40.trans (xσ41.trans (xσ42.trans (xσ43.trans (xσ47.trans (xσ49.trans (xσ50.trans (xσ52.trans (xσ55.trans (xσ57.trans (xσ58.trans (xσ61.trans xσ62))))))))))))) (by decide)).1) kp393
    have kp412 : Kpt (gI σ63_1 o 4 = gI σ o 4) := Eq.trans (show gI σ63_1 o 4 = gI σ62 o 4 from (cσ63_1.O (ko.up (xσ40.trans (xσ41.trans (xσ42.trans (xσ43.trans (xσ47.trans (xσ49.trans (xσ50.trans (xσ52.trans (xσ55.trans (xσ57.trans (xσ58.trans (xσ61.trans xσ62))))))))))))) (by decide)).1) kp394
    have kp413 : Kpt (gI σ63_1 o 6 = gI σ57 o 6) := Eq.trans (show gI σ63_1 o 6 = gI σ62 o 6 from (cσ63_1.O (ko.up (xσ40.trans (xσ41.trans (xσ42.trans (xσ43.trans (xσ47.trans (xσ49.trans (xσ50.trans (xσ52.trans (xσ55.trans (xσ57.trans (xσ58.trans (xσ61.trans xσ62))))))))))))) (by decide)).1) kp395
    have kp414 : Kpt (gI σ63_1 o 7 = gI σ41 o 7) := Eq.trans (show gI σ63_1 o 7 = gI σ62 o 7 from (cσ63_1.O (ko.up (xσ40.trans (xσ41.trans (xσ42.trans (xσ43.trans (xσ47.trans (xσ49.trans (xσ50.trans (xσ52.trans (xσ55.trans (xσ57.trans (xσ58.trans (xσ61.trans xσ62))))))))))))) (by decide)).1) kp396
    have kp415 : Kpt (gI σ63_1 o 8 = gI σ o 8) := Eq.trans (show gI σ63_1 o 8 = gI σ62 o 8 from (cσ63_1.O (ko.up (xσ40.trans (xσ41.trans (xσ42.trans (xσ43.trans (xσ47.trans (xσ49.trans (xσ50.trans (xσ52.trans (xσ55.trans (xσ57.trans (xσ58.trans (xσ61.trans xσ62))))))))))))) (by decide)).1) kp397
    have kp416 : Kpt (gI σ63_1 o 9 = gI σ o 9) := Eq.trans (show gI σ63_1 o 9 = gI σ62 o 9 from (cσ63_1.O (ko.up (xσ40.trans (xσ41.trans (xσ42.trans (xσ43.trans (xσ47.trans (xσ49.trans (xσ50.trans (xσ52.trans (xσ55.trans (xσ57.trans (xσ58.trans (xσ61.trans xσ62))))))))))))) (by decide)).1) kp398
    have r5σ63_1 := I_6_5 iσ63_1.1 (kth.up (xσ40.trans (xσ41.trans (xσ42.trans (xσ43.trans (xσ47.trans (xσ49.trans (xσ50.trans (xσ52.trans (xσ55.trans (xσ57.trans (xσ58.trans (xσ61.trans (xσ62.trans xσ63_1))))))))))))))
    have ho417 : gI σ63_1 J 7 = gI σ J 7 := kp408
    have cp418 : (gI σ63_1 th 5 ≤ gI σ63_1 th 2 ∧ (gI σ63_1 th 3 ≠ 0 → gI σ63_1 th 5 + 1 ≤ gI σ63_1 th 2)) ∧ gI σ63_1 J 7 ≤ 2 * gI σ63_1 th 5 ∧ 0 ≤ gI σ63_1 th 5 := by omega
    clear pσ63_1 cp400
    have ho419 : gI σ63_1 J 1 = gI σ J 1 := kp409
    have ho420 : gI σ63_1 J 2 = gI σ J 2 := kp410
    have ho421 : gI σ63_1 o 3 = gI σ50 o 3 := kp411
    have ho422 : gI σ63_1 o 4 = gI σ o 4 := kp412
    have ho423 : gI σ63_1 o 6 = gI σ57 o 6 := kp413
    have ho424 : gI σ63_1 o 7 = gI σ41 o 7 := kp414
    have ho425 : gI σ63_1 o 8 = gI σ o 8 := kp415
    have ho426 : gI σ63_1 o 9 = gI σ o 9 := kp416
    exact hQ σ63_1 () iσ63_1 fσ63_1 oxcσ63_1 (by omega)

set_option maxHeartbeats 1000000 in
theorem i_X6_firstInput {σ : Sg} {pl : Nat} {gq ci gr nc : Nat → Nat} {ot : Nat → Nat → Int} {LL : Nat → List Nat} {N nu : Nat → Nat} {th : Nat} {v1 : Int} {J o q c : Nat} (iσ : IV σ pl gq ci gr nc ot LL N nu) (kth : kO σ th 6) (h7 : gP σ th 7 = some J) (kJ : kO σ J 4) (h8 : gP σ th 8 = some o) (ko : kO σ o 5) (hJq : gq J = q) (hq : q ≠ nc 0 ∧ q ≤ 1) (go : gq o = 16 * q + c) (hc : c < 16) (h5 : nu 5 < 24000) (hk : 0 ≤ v1 ∧ v1 ≤ 11) {Q : Sg → Unit → Prop} {X : Sg → String → Prop} (hQ : ∀ (σ' : Sg) (r : Unit), IV σ' pl gq ci gr nc ot LL N nu → Fx [326, 327, 390] gr σ σ' → OX o σ σ' → (gI σ' o 6 = v1 ∧ (0 ≤ gI σ' o 7 ∧ gI σ' o 7 < gI σ J 1) ∧ gI σ' th 3 = gI σ th 3 ∧ gI σ' th 2 = gI σ th 2 ∧ gI σ' th 5 = gI σ th 5) → Q σ' r) (hX : ∀ (σ' : Sg) (LL' : Nat → List Nat) (N' nu' : Nat → Nat) (E : String), IV σ' pl gq ci gr nc ot LL' N' nu' → Fx [326, 327, 390] gr σ σ' → NCX nu nu' → (LL' = LL ∧ N' = N ∧ E = "java/lang/IllegalArgumentException" ∧ gI σ' th 6 ≠ 0) → X σ' E) : wp_X6_firstInput th v1 σ Q X := by
  have fσ : Fx [326, 327, 390] gr σ σ := Fx.rf
  have oxσ : OX o σ σ := OX.rf
  have ncb := iσ.ncb
  have r71 := I_4_1 iσ.1 kJ
  unfold wp_X6_firstInput
  unfold w_X6_firstInput_0
  refine ⟨o, h8, fun kk_o => ?_⟩
  intro σ8 eσ8
  have xσ8 : Ext σ σ8 := by rw [eσ8]; exact fun _ h => ⟨h, rfl, rfl⟩
  have iσ8 : IV σ8 pl gq ci gr nc ot LL N nu := by rw [eσ8]; exact iσ.wSp ko (fun i hi => by omega) (by decide) (show (0 : Int) ≤ v1 ∧ v1 ≤ 11 from ⟨by omega, by omega⟩)
  have fσ8 : Fx [326, 327, 390] gr σ σ8 := fσ.tr (Sk.fx (by rw [eσ8]; exact Sk.pI (by rw [fcdO ko (by decide)]; decide)))
  have oxcσ8 : OX o σ σ8 := oxσ.tr (by rw [eσ8]; exact OX.pI ko (Or.inr rfl)) (Ext.rfl' _)
  have wσ8 : gI σ8 o 6 = v1 := by rw [eσ8]; exact up2_s _ _ _ _
  have kp1 : gP σ8 th 7 = gP σ th 7 := by rw [eσ8]
  have kp2 : gP σ8 th 8 = gP σ th 8 := by rw [eσ8]
  have kp3 : gI σ8 th 2 = gI σ th 2 := by rw [eσ8]; exact up2_n _ _ (fun q => absurd q.2 (by decide))
  have kp4 : gI σ8 th 3 = gI σ th 3 := by rw [eσ8]; exact up2_n _ _ (fun q => absurd q.2 (by decide))
  have kp5 : gI σ8 th 5 = gI σ th 5 := by rw [eσ8]; exact up2_n _ _ (fun q => absurd q.2 (by decide))
  have kp6 : gI σ8 J 7 = gI σ J 7 := by rw [eσ8]; exact up2_n _ _ (fun q => absurd q.2 (by decide))
  have kp7 : gI σ8 J 1 = gI σ J 1 := by rw [eσ8]; exact up2_n _ _ (fun q => absurd q.2 (by decide))
  have kp8 : gI σ8 J 2 = gI σ J 2 := by rw [eσ8]; exact up2_n _ _ (fun q => absurd q.2 (by decide))
  have kp9 : gI σ8 o 3 = gI σ o 3 := by rw [eσ8]; exact up2_n _ _ (fun q => absurd q.2 (by decide))
  have kp10 : gI σ8 o 4 = gI σ o 4 := by rw [eσ8]; exact up2_n _ _ (fun q => absurd q.2 (by decide))
  have kp11 : gI σ8 o 7 = gI σ o 7 := by rw [eσ8]; exact up2_n _ _ (fun q => absurd q.2 (by decide))
  have kp12 : gI σ8 o 8 = gI σ o 8 := by rw [eσ8]; exact up2_n _ _ (fun q => absurd q.2 (by decide))
  have kp13 : gI σ8 o 9 = gI σ o 9 := by rw [eσ8]; exact up2_n _ _ (fun q => absurd q.2 (by decide))
  refine i_X6_input iσ8 (kth.up xσ8) (kp1.trans h7) (kJ.up xσ8) (by (first | omega | with_reducible assumption | with_reducible exact rng_toInt _ | with_reducible exact rng_wr _ | (unfold rng; omega) | (unfold rng at *; omega) | assumption)) (fun σ9 r10 iσ9 cσ9 pσ9 => ?_) (fun σx LLx Nx nux E ix cx ux px => hX σx LLx Nx nux E ix (fσ8.tr (cx.mo (by decide))) (ux) (by first | exact px | exact ⟨by have := px.1; omega, px.2⟩ | (first | omega | with_reducible assumption | with_reducible exact rng_toInt _ | with_reducible exact rng_wr _ | (unfold rng; omega) | (unfold rng at *; omega) | assumption)))
  intro xσ9
  have fσ9 : Fx [326, 327, 390] gr σ σ9 := fσ8.tr (cσ9.mo (by decide))
  have oxcσ9 : OX o σ σ9 := oxcσ8.tr (OX.fx cσ9 (by decide) (by decide)) (xσ8)
  have kp14 : gI σ9 o 6 = gI σ8 o 6 := (cσ9.O (ko.up xσ8) (by decide)).1
  have kp15 : gP σ9 th 7 = gP σ8 th 7 := (cσ9.O (kth.up xσ8) (by decide)).2.1
  have kp16 : gP σ9 th 8 = gP σ8 th 8 := (cσ9.O (kth.up xσ8) (by decide)).2.1
  have kp17 : gI σ9 th 2 = gI σ8 th 2 := (cσ9.O (kth.up xσ8) (by decide)).1
  have kp18 : gI σ9 th 3 = gI σ8 th 3 := (cσ9.O (kth.up xσ8) (by decide)).1
  have kp19 : gI σ9 th 5 = gI σ8 th 5 := (cσ9.O (kth.up xσ8) (by decide)).1
  have kp20 : gI σ9 J 7 = gI σ8 J 7 := (cσ9.O (kJ.up xσ8) (by decide)).1
  have kp21 : gI σ9 J 1 = gI σ8 J 1 := (cσ9.O (kJ.up xσ8) (by decide)).1
  have kp22 : gI σ9 J 2 = gI σ8 J 2 := (cσ9.O (kJ.up xσ8) (by decide)).1
  have kp23 : gI σ9 o 3 = gI σ8 o 3 := (cσ9.O (ko.up xσ8) (by decide)).1
  have kp24 : gI σ9 o 4 = gI σ8 o 4 := (cσ9.O (ko.up xσ8) (by decide)).1
  have kp25 : gI σ9 o 7 = gI σ8 o 7 := (cσ9.O (ko.up xσ8) (by decide)).1
  have kp26 : gI σ9 o 8 = gI σ8 o 8 := (cσ9.O (ko.up xσ8) (by decide)).1
  have kp27 : gI σ9 o 9 = gI σ8 o 9 := (cσ9.O (ko.up xσ8) (by decide)).1
  refine ⟨o, (kp2.trans h8), fun kk_o_1 => ?_⟩
  intro σ12 eσ12
  have xσ12 : Ext σ9 σ12 := by rw [eσ12]; exact fun _ h => ⟨h, rfl, rfl⟩
  have iσ12 : IV σ12 pl gq ci gr nc ot LL N nu := by rw [eσ12]; exact iσ9.wSp (ko.up (xσ8.trans xσ9)) (fun i hi => by omega) (by decide) (show (-1 : Int) ≤ r10 ∧ r10 ≤ 15 from ⟨by omega, by omega⟩)
  have fσ12 : Fx [326, 327, 390] gr σ σ12 := fσ9.tr (Sk.fx (by rw [eσ12]; exact Sk.pI (by rw [fcdO (ko.up (xσ8.trans xσ9)) (by decide)]; decide)))
  have oxcσ12 : OX o σ σ12 := oxcσ9.tr (by rw [eσ12]; exact OX.pI (ko.up (xσ8.trans xσ9)) (Or.inr rfl)) (xσ8.trans xσ9)
  have wσ12 : gI σ12 o 7 = r10 := by rw [eσ12]; exact up2_s _ _ _ _
  have kp28 : gI σ12 o 6 = gI σ9 o 6 := by rw [eσ12]; exact up2_n _ _ (fun q => absurd q.2 (by decide))
  have kp29 : gP σ12 th 7 = gP σ9 th 7 := by rw [eσ12]
  have kp30 : gP σ12 th 8 = gP σ9 th 8 := by rw [eσ12]
  have kp31 : gI σ12 th 2 = gI σ9 th 2 := by rw [eσ12]; exact up2_n _ _ (fun q => absurd q.2 (by decide))
  have kp32 : gI σ12 th 3 = gI σ9 th 3 := by rw [eσ12]; exact up2_n _ _ (fun q => absurd q.2 (by decide))
  have kp33 : gI σ12 th 5 = gI σ9 th 5 := by rw [eσ12]; exact up2_n _ _ (fun q => absurd q.2 (by decide))
  have kp34 : gI σ12 J 7 = gI σ9 J 7 := by rw [eσ12]; exact up2_n _ _ (fun q => absurd q.1 (kO.ne (kJ.up (xσ8.trans xσ9)) (ko.up (xσ8.trans xσ9)) (by decide)))
  have kp35 : gI σ12 J 1 = gI σ9 J 1 := by rw [eσ12]; exact up2_n _ _ (fun q => absurd q.2 (by decide))
  have kp36 : gI σ12 J 2 = gI σ9 J 2 := by rw [eσ12]; exact up2_n _ _ (fun q => absurd q.2 (by decide))
  have kp37 : gI σ12 o 3 = gI σ9 o 3 := by rw [eσ12]; exact up2_n _ _ (fun q => absurd q.2 (by decide))
  have kp38 : gI σ12 o 4 = gI σ9 o 4 := by rw [eσ12]; exact up2_n _ _ (fun q => absurd q.2 (by decide))
  have kp39 : gI σ12 o 8 = gI σ9 o 8 := by rw [eσ12]; exact up2_n _ _ (fun q => absurd q.2 (by decide))
  have kp40 : gI σ12 o 9 = gI σ9 o 9 := by rw [eσ12]; exact up2_n _ _ (fun q => absurd q.2 (by decide))
  exact hQ σ12 () iσ12 fσ12 oxcσ12 (by (first | omega | with_reducible assumption | with_reducible exact rng_toInt _ | with_reducible exact rng_wr _ | (unfold rng; omega) | (unfold rng at *; omega) | assumption))
set_option maxHeartbeats 1000000 in
theorem i_X6_sourceText {σ : Sg} {pl : Nat} {gq ci gr nc : Nat → Nat} {ot : Nat → Nat → Int} {LL : Nat → List Nat} {N nu : Nat → Nat} {th : Nat} {tx J o q c : Nat} (iσ : IV σ pl gq ci gr nc ot LL N nu) (kth : kO σ th 6) (hX0 : gP σ th 0 = some tx) (kX : kO σ tx 102) (gX : gn σ tx = 1500) (h7 : gP σ th 7 = some J) (kJ : kO σ J 4) (h8 : gP σ th 8 = some o) (ko : kO σ o 5) (hJq : gq J = q) (hq : q ≠ nc 0 ∧ q ≤ 1) (go : gq o = 16 * q + c) (hc : c < 16) (cJ : gI σ J 1 = (c : Int)) (tf : gI σ th 5 ≤ gI σ th 2 ∧ (gI σ th 3 ≠ 0 → gI σ th 5 + 1 ≤ gI σ th 2)) (h5 : nu 5 < 24000) (lp : gI σ J 7 ≤ 2 * gI σ th 5) (f0 : gI σ o 3 = 0 ∧ gI σ o 4 = 0 ∧ gI σ o 7 = -1 ∧ gI σ o 8 = -1) {Q : Sg → Unit → Prop} {X : Sg → String → Prop} (hQ : ∀ (σ' : Sg) (r : Unit), IV σ' pl gq ci gr nc ot LL N nu → Fx [323, 326, 329, 330, 386, 387, 388, 389, 390, 6464, 8320] gr σ σ' → OX o σ σ' → ((gI σ' th 5 ≤ gI σ' th 2 ∧ (gI σ' th 3 ≠ 0 → gI σ' th 5 + 1 ≤ gI σ' th 2)) ∧ gI σ' J 7 ≤ 2 * gI σ' th 5 ∧ OPR σ σ' gq q c o) → Q σ' r) (hX : ∀ (σ' : Sg) (LL' : Nat → List Nat) (N' nu' : Nat → Nat) (E : String), IV σ' pl gq ci gr nc ot LL' N' nu' → Fx [323, 326, 329, 330, 386, 387, 388, 389, 390, 6464, 8320] gr σ σ' → NCX nu nu' → (LL' = LL ∧ N' = N ∧ E = "java/lang/IllegalArgumentException" ∧ gI σ' th 6 ≠ 0) → X σ' E) : wp_X6_sourceText th σ Q X := by
  have fσ : Fx [323, 326, 329, 330, 386, 387, 388, 389, 390, 6464, 8320] gr σ σ := Fx.rf
  have oxσ : OX o σ σ := OX.rf
  have q1 := I_4_1 iσ.1 kJ
  have q2 := I_6_5 iσ.1 kth
  have q3 := I_6_2 iσ.1 kth
  have q4 := iσ.rg th 3; unfold rng at q4
  have q5 := I_4_7 iσ.1 kJ
  have q6 := I_5_3 iσ.1 ko
  have q7 := I_5_4 iσ.1 ko
  have q8 := I_5_7 iσ.1 ko
  have q9 := I_5_8 iσ.1 ko
  have ncb := iσ.ncb
  have r70 := I_4_7 iσ.1 kJ
  have r71 := I_4_1 iσ.1 kJ
  unfold wp_X6_sourceText
  unfold w_X6_sourceText_0
  refine i_X6_next iσ kth hX0 kX (((Ext.rfl' _) tx kX.1).2.2.trans gX) (by (first | omega | with_reducible assumption | with_reducible exact rng_toInt _ | with_reducible exact rng_wr _ | (unfold rng; omega) | (unfold rng at *; omega) | assumption)) (by (first | omega | with_reducible assumption | with_reducible exact rng_toInt _ | with_reducible exact rng_wr _ | (unfold rng; omega) | (unfold rng at *; omega) | assumption)) (fun σ27 _ iσ27 cσ27 pσ27 => ?_) (fun σx LLx Nx nux E ix cx ux px => hX σx LLx Nx nux E ix (fσ.tr (cx.mo (by decide))) (ux) (by first | exact px | exact ⟨by have := px.1; omega, px.2⟩ | (first | omega | with_reducible assumption | with_reducible exact rng_toInt _ | with_reducible exact rng_wr _ | (unfold rng; omega) | (unfold rng at *; omega) | assumption)))
  intro xσ27
  have fσ27 : Fx [323, 326, 329, 330, 386, 387, 388, 389, 390, 6464, 8320] gr σ σ27 := fσ.tr (cσ27.mo (by decide))
  have oxcσ27 : OX o σ σ27 := oxσ.tr (OX.fx cσ27 (by decide) (by decide)) (Ext.rfl' _)
  have kp10 : Kpt (gI σ27 J 1 = gI σ J 1) := (cσ27.O kJ (by decide)).1
  have kp11 : Kpt (gI σ27 J 7 = gI σ J 7) := (cσ27.O kJ (by decide)).1
  have kp12 : Kpt (gI σ27 o 3 = gI σ o 3) := (cσ27.O ko (by decide)).1
  have kp13 : Kpt (gI σ27 o 4 = gI σ o 4) := (cσ27.O ko (by decide)).1
  have kp14 : Kpt (gI σ27 o 7 = gI σ o 7) := (cσ27.O ko (by decide)).1
  have kp15 : Kpt (gI σ27 o 8 = gI σ o 8) := (cσ27.O ko (by decide)).1
  have kp16 : gP σ27 th 0 = gP σ th 0 := (cσ27.O kth (by decide)).2.1
  have kp17 : gP σ27 th 7 = gP σ th 7 := (cσ27.O kth (by decide)).2.1
  have kp18 : gP σ27 th 8 = gP σ th 8 := (cσ27.O kth (by decide)).2.1
  have kp19 : Kpt (gI σ27 J 2 = gI σ J 2) := (cσ27.O kJ (by decide)).1
  have kp20 : Kpt (gI σ27 o 6 = gI σ o 6) := (cσ27.O ko (by decide)).1
  have kp21 : Kpt (gI σ27 o 9 = gI σ o 9) := (cσ27.O ko (by decide)).1
  have r5σ27 := I_6_5 iσ27.1 (kth.up xσ27)
  refine ⟨o, (kp18.trans h8), fun kk_o => ?_⟩
  intro σ29 eσ29
  have xσ29 : Ext σ27 σ29 := by rw [eσ29]; exact fun _ h => ⟨h, rfl, rfl⟩
  have iσ29 : IV σ29 pl gq ci gr nc ot LL N nu := by rw [eσ29]; exact iσ27.wSp (ko.up xσ27) (fun i hi => by omega) (by decide) (show (0 : Int) ≤ 0 ∧ 0 ≤ 11 from ⟨by omega, by omega⟩)
  have fσ29 : Fx [323, 326, 329, 330, 386, 387, 388, 389, 390, 6464, 8320] gr σ σ29 := fσ27.tr (Sk.fx (by rw [eσ29]; exact Sk.pI (by rw [fcdO (ko.up xσ27) (by decide)]; decide)))
  have oxcσ29 : OX o σ σ29 := oxcσ27.tr (by rw [eσ29]; exact OX.pI (ko.up xσ27) (Or.inr rfl)) (xσ27)
  have wσ29 : gI σ29 o 6 = 0 := by rw [eσ29]; exact up2_s _ _ _ _
  have kp22 : gP σ29 th 0 = gP σ27 th 0 := by rw [eσ29]
  have kp23 : gP σ29 th 7 = gP σ27 th 7 := by rw [eσ29]
  have kp24 : gP σ29 th 8 = gP σ27 th 8 := by rw [eσ29]
  have kp25 : gI σ29 th 2 = gI σ27 th 2 := by rw [eσ29]; exact up2_n _ _ (fun q => absurd q.2 (by decide))
  have kp26 : gI σ29 th 3 = gI σ27 th 3 := by rw [eσ29]; exact up2_n _ _ (fun q => absurd q.2 (by decide))
  have kp27 : gI σ29 th 5 = gI σ27 th 5 := by rw [eσ29]; exact up2_n _ _ (fun q => absurd q.2 (by decide))
  have kp28 : Kpt (gI σ29 J 7 = gI σ J 7) := Eq.trans (show gI σ29 J 7 = gI σ27 J 7 from by rw [eσ29]; exact up2_n _ _ (fun q => absurd q.2 (by decide))) kp11
  have kp29 : Kpt (gI σ29 J 1 = gI σ J 1) := Eq.trans (show gI σ29 J 1 = gI σ27 J 1 from by rw [eσ29]; exact up2_n _ _ (fun q => absurd q.2 (by decide))) kp10
  have kp30 : Kpt (gI σ29 J 2 = gI σ J 2) := Eq.trans (show gI σ29 J 2 = gI σ27 J 2 from by rw [eσ29]; exact up2_n _ _ (fun q => absurd q.2 (by decide))) kp19
  have kp31 : Kpt (gI σ29 o 3 = gI σ o 3) := Eq.trans (show gI σ29 o 3 = gI σ27 o 3 from by rw [eσ29]; exact up2_n _ _ (fun q => absurd q.2 (by decide))) kp12
  have kp32 : Kpt (gI σ29 o 4 = gI σ o 4) := Eq.trans (show gI σ29 o 4 = gI σ27 o 4 from by rw [eσ29]; exact up2_n _ _ (fun q => absurd q.2 (by decide))) kp13
  have kp33 : Kpt (gI σ29 o 7 = gI σ o 7) := Eq.trans (show gI σ29 o 7 = gI σ27 o 7 from by rw [eσ29]; exact up2_n _ _ (fun q => absurd q.2 (by decide))) kp14
  have kp34 : Kpt (gI σ29 o 8 = gI σ o 8) := Eq.trans (show gI σ29 o 8 = gI σ27 o 8 from by rw [eσ29]; exact up2_n _ _ (fun q => absurd q.2 (by decide))) kp15
  have kp35 : Kpt (gI σ29 o 9 = gI σ o 9) := Eq.trans (show gI σ29 o 9 = gI σ27 o 9 from by rw [eσ29]; exact up2_n _ _ (fun q => absurd q.2 (by decide))) kp21
  refine i_X6_number iσ29 (kth.up (xσ27.trans xσ29)) (by (first | omega | with_reducible assumption | with_reducible exact rng_toInt _ | with_reducible exact rng_wr _ | (unfold rng; omega) | (unfold rng at *; omega) | assumption)) (by (first | omega | with_reducible assumption | with_reducible exact rng_toInt _ | with_reducible exact rng_wr _ | (unfold rng; omega) | (unfold rng at *; omega) | assumption)) (fun σ30 r31 iσ30 cσ30 pσ30 => ?_) (fun σx LLx Nx nux E ix cx ux px => hX σx LLx Nx nux E ix (fσ29.tr (cx.mo (by decide))) (ux) (by first | exact px | exact ⟨by have := px.1; omega, px.2⟩ | (first | omega | with_reducible assumption | with_reducible exact rng_toInt _ | with_reducible exact rng_wr _ | (unfold rng; omega) | (unfold rng at *; omega) | assumption)))
  intro xσ30
  have fσ30 : Fx [323, 326, 329, 330, 386, 387, 388, 389, 390, 6464, 8320] gr σ σ30 := fσ29.tr (cσ30.mo (by decide))
  have oxcσ30 : OX o σ σ30 := oxcσ29.tr (OX.fx cσ30 (by decide) (by decide)) (xσ27.trans xσ29)
  have kp36 : Kpt (gI σ30 o 6 = gI σ29 o 6) := (cσ30.O (ko.up (xσ27.trans xσ29)) (by decide)).1
  have kp37 : gP σ30 th 0 = gP σ29 th 0 := (cσ30.O (kth.up (xσ27.trans xσ29)) (by decide)).2.1
  have kp38 : gP σ30 th 7 = gP σ29 th 7 := (cσ30.O (kth.up (xσ27.trans xσ29)) (by decide)).2.1
  have kp39 : gP σ30 th 8 = gP σ29 th 8 := (cσ30.O (kth.up (xσ27.trans xσ29)) (by decide)).2.1
  have kp40 : gI σ30 th 2 = gI σ29 th 2 := (cσ30.O (kth.up (xσ27.trans xσ29)) (by decide)).1
  have kp41 : gI σ30 th 3 = gI σ29 th 3 := (cσ30.O (kth.up (xσ27.trans xσ29)) (by decide)).1
  have kp42 : gI σ30 th 5 = gI σ29 th 5 := (cσ30.O (kth.up (xσ27.trans xσ29)) (by decide)).1
  have kp43 : Kpt (gI σ30 J 7 = gI σ J 7) := Eq.trans (show gI σ30 J 7 = gI σ29 J 7 from (cσ30.O (kJ.up (xσ27.trans xσ29)) (by decide)).1) kp28
  have kp44 : Kpt (gI σ30 J 1 = gI σ J 1) := Eq.trans (show gI σ30 J 1 = gI σ29 J 1 from (cσ30.O (kJ.up (xσ27.trans xσ29)) (by decide)).1) kp29
  have kp45 : Kpt (gI σ30 J 2 = gI σ J 2) := Eq.trans (show gI σ30 J 2 = gI σ29 J 2 from (cσ30.O (kJ.up (xσ27.trans xσ29)) (by decide)).1) kp30
  have kp46 : Kpt (gI σ30 o 3 = gI σ o 3) := Eq.trans (show gI σ30 o 3 = gI σ29 o 3 from (cσ30.O (ko.up (xσ27.trans xσ29)) (by decide)).1) kp31
  have kp47 : Kpt (gI σ30 o 4 = gI σ o 4) := Eq.trans (show gI σ30 o 4 = gI σ29 o 4 from (cσ30.O (ko.up (xσ27.trans xσ29)) (by decide)).1) kp32
  have kp48 : Kpt (gI σ30 o 7 = gI σ o 7) := Eq.trans (show gI σ30 o 7 = gI σ29 o 7 from (cσ30.O (ko.up (xσ27.trans xσ29)) (by decide)).1) kp33
  have kp49 : Kpt (gI σ30 o 8 = gI σ o 8) := Eq.trans (show gI σ30 o 8 = gI σ29 o 8 from (cσ30.O (ko.up (xσ27.trans xσ29)) (by decide)).1) kp34
  have kp50 : Kpt (gI σ30 o 9 = gI σ o 9) := Eq.trans (show gI σ30 o 9 = gI σ29 o 9 from (cσ30.O (ko.up (xσ27.trans xσ29)) (by decide)).1) kp35
  refine ⟨o, (kp24.trans (kp18.trans h8)), fun kk_o_1 => ?_⟩
  intro σ33 eσ33
  have xσ33 : Ext σ30 σ33 := by rw [eσ33]; exact fun _ h => ⟨h, rfl, rfl⟩
  have iσ33 : IV σ33 pl gq ci gr nc ot LL N nu := by rw [eσ33]; exact iσ30.wSp (ko.up (xσ27.trans (xσ29.trans xσ30))) (fun i hi => by omega) (by decide) (show (0 : Int) ≤ r31 ∧ r31 ≤ 9 from ⟨by omega, by omega⟩)
  have fσ33 : Fx [323, 326, 329, 330, 386, 387, 388, 389, 390, 6464, 8320] gr σ σ33 := fσ30.tr (Sk.fx (by rw [eσ33]; exact Sk.pI (by rw [fcdO (ko.up (xσ27.trans (xσ29.trans xσ30))) (by decide)]; decide)))
  have oxcσ33 : OX o σ σ33 := oxcσ30.tr (by rw [eσ33]; exact OX.pI (ko.up (xσ27.trans (xσ29.trans xσ30))) (Or.inr rfl)) (xσ27.trans (xσ29.trans xσ30))
  have wσ33 : gI σ33 o 9 = r31 := by rw [eσ33]; exact up2_s _ _ _ _
  have kp51 : gP σ33 th 0 = gP σ30 th 0 := by rw [eσ33]
  have kp52 : gP σ33 th 7 = gP σ30 th 7 := by rw [eσ33]
  have kp53 : gP σ33 th 8 = gP σ30 th 8 := by rw [eσ33]
  have kp54 : gI σ33 th 2 = gI σ30 th 2 := by rw [eσ33]; exact up2_n _ _ (fun q => absurd q.2 (by decide))
  have kp55 : gI σ33 th 3 = gI σ30 th 3 := by rw [eσ33]; exact up2_n _ _ (fun q => absurd q.2 (by decide))
  have kp56 : gI σ33 th 5 = gI σ30 th 5 := by rw [eσ33]; exact up2_n _ _ (fun q => absurd q.2 (by decide))
  have kp57 : Kpt (gI σ33 J 7 = gI σ J 7) := Eq.trans (show gI σ33 J 7 = gI σ30 J 7 from by rw [eσ33]; exact up2_n _ _ (fun q => absurd q.2 (by decide))) kp43
  have kp58 : Kpt (gI σ33 J 1 = gI σ J 1) := Eq.trans (show gI σ33 J 1 = gI σ30 J 1 from by rw [eσ33]; exact up2_n _ _ (fun q => absurd q.2 (by decide))) kp44
  have kp59 : Kpt (gI σ33 J 2 = gI σ J 2) := Eq.trans (show gI σ33 J 2 = gI σ30 J 2 from by rw [eσ33]; exact up2_n _ _ (fun q => absurd q.2 (by decide))) kp45
  have kp60 : Kpt (gI σ33 o 3 = gI σ o 3) := Eq.trans (show gI σ33 o 3 = gI σ30 o 3 from by rw [eσ33]; exact up2_n _ _ (fun q => absurd q.2 (by decide))) kp46
  have kp61 : Kpt (gI σ33 o 4 = gI σ o 4) := Eq.trans (show gI σ33 o 4 = gI σ30 o 4 from by rw [eσ33]; exact up2_n _ _ (fun q => absurd q.2 (by decide))) kp47
  have kp62 : Kpt (gI σ33 o 6 = gI σ29 o 6) := Eq.trans (show gI σ33 o 6 = gI σ30 o 6 from by rw [eσ33]; exact up2_n _ _ (fun q => absurd q.2 (by decide))) kp36
  have kp63 : Kpt (gI σ33 o 7 = gI σ o 7) := Eq.trans (show gI σ33 o 7 = gI σ30 o 7 from by rw [eσ33]; exact up2_n _ _ (fun q => absurd q.2 (by decide))) kp48
  have kp64 : Kpt (gI σ33 o 8 = gI σ o 8) := Eq.trans (show gI σ33 o 8 = gI σ30 o 8 from by rw [eσ33]; exact up2_n _ _ (fun q => absurd q.2 (by decide))) kp49
  refine ⟨J, (kp52.trans (kp38.trans (kp23.trans (kp17.trans h7)))), fun kk_J => ?_⟩
  refine ⟨o, (kp53.trans (kp39.trans (kp24.trans (kp18.trans h8)))), fun kk_o_2 => ?_⟩
  obtain ⟨b, eb, fb⟩ := P_4_4 iσ33.1 (kJ.up (xσ27.trans (xσ29.trans (xσ30.trans xσ33))))
  have mb : kO σ33 b 100 := iσ33.1.kd (kJ.up (xσ27.trans (xσ29.trans (xσ30.trans xσ33)))) rfl eb rfl
  refine ⟨b, eb, fun kk_b => ?_⟩
  refine ⟨⟨by (first | omega | with_reducible assumption | with_reducible exact rng_toInt _ | with_reducible exact rng_wr _ | (unfold rng; omega) | (unfold rng at *; omega) | assumption), by (first | omega | with_reducible assumption | with_reducible exact rng_toInt _ | with_reducible exact rng_wr _ | (unfold rng; omega) | (unfold rng at *; omega) | assumption)⟩, ?_⟩
  have q66 := iσ33.rg b (gI σ33 o 9).toNat; unfold rng at q66
  by_cases hc65 : (gI σ33 b (gI σ33 o 9).toNat) = (-1)
  · rw [if_pos hc65]
    unfold w_X6_sourceText_50
    refine ⟨J, (kp52.trans (kp38.trans (kp23.trans (kp17.trans h7)))), fun kk_J_1 => ?_⟩
    refine ⟨o, (kp53.trans (kp39.trans (kp24.trans (kp18.trans h8)))), fun kk_o_3 => ?_⟩
    refine ⟨b, eb, fun kk_b_1 => ?_⟩
    refine ⟨⟨by (first | omega | with_reducible assumption | with_reducible exact rng_toInt _ | with_reducible exact rng_wr _ | (unfold rng; omega) | (unfold rng at *; omega) | assumption), by (first | omega | with_reducible assumption | with_reducible exact rng_toInt _ | with_reducible exact rng_wr _ | (unfold rng; omega) | (unfold rng at *; omega) | assumption)⟩, ?_⟩
    intro σ41 eσ41
    have xσ41 : Ext σ33 σ41 := by rw [eσ41]; exact fun _ h => ⟨h, rfl, rfl⟩
    have ho67 : gI σ33 J 1 = gI σ J 1 := kp58
    have q68 := I_4_1 iσ33.1 (kJ.up (xσ27.trans (xσ29.trans (xσ30.trans xσ33))))
    have iσ41 : IV σ41 pl gq ci gr nc ot LL N nu := by rw [eσ41]; exact iσ33.wA0 mb (by (first | omega | with_reducible assumption | with_reducible exact rng_toInt _ | with_reducible exact rng_wr _ | (unfold rng; omega) | (unfold rng at *; omega) | assumption)) (by first | exact rng_wr _ | (first | omega | with_reducible assumption | with_reducible exact rng_toInt _ | with_reducible exact rng_wr _ | (unfold rng; omega) | (unfold rng at *; omega) | assumption))
    have fσ41 : Fx [323, 326, 329, 330, 386, 387, 388, 389, 390, 6464, 8320] gr σ σ41 := fσ33.tr (Sk.fx (by rw [eσ41]; exact Sk.pI (by rw [fcdI mb, show gr b = 0 from by (first | omega | with_reducible assumption | with_reducible exact rng_toInt _ | with_reducible exact rng_wr _ | (unfold rng; omega) | (unfold rng at *; omega) | assumption)]; decide)))
    have oxcσ41 : OX o σ σ41 := oxcσ33.tr (by rw [eσ41]; exact OX.pI mb (Or.inl (by decide))) (xσ27.trans (xσ29.trans (xσ30.trans xσ33)))
    have wσ41 : gI σ41 b (gI σ33 o 9).toNat = (gI σ33 J 1) := by rw [eσ41]; exact up2_s _ _ _ _
    have kp69 : Kpt (gI σ41 J 1 = gI σ J 1) := Eq.trans (show gI σ41 J 1 = gI σ33 J 1 from by rw [eσ41]; exact up2_n _ _ (fun q => absurd q.1 (kO.ne (kJ.up (xσ27.trans (xσ29.trans (xσ30.trans xσ33)))) mb (by decide)))) kp58
    have kp70 : Kpt (gI σ41 o 9 = gI σ33 o 9) := by rw [eσ41]; exact up2_n _ _ (fun q => absurd q.1 (kO.ne (ko.up (xσ27.trans (xσ29.trans (xσ30.trans xσ33)))) mb (by decide)))
    have kp71 : gP σ41 J 4 = gP σ33 J 4 := by rw [eσ41]
    have kp72 : gP σ41 th 0 = gP σ33 th 0 := by rw [eσ41]
    have kp73 : gP σ41 th 7 = gP σ33 th 7 := by rw [eσ41]
    have kp74 : gP σ41 th 8 = gP σ33 th 8 := by rw [eσ41]
    have kp75 : gI σ41 th 2 = gI σ33 th 2 := by rw [eσ41]; exact up2_n _ _ (fun q => absurd q.1 (kO.ne (kth.up (xσ27.trans (xσ29.trans (xσ30.trans xσ33)))) mb (by decide)))
    have kp76 : gI σ41 th 3 = gI σ33 th 3 := by rw [eσ41]; exact up2_n _ _ (fun q => absurd q.1 (kO.ne (kth.up (xσ27.trans (xσ29.trans (xσ30.trans xσ33)))) mb (by decide)))
    have kp77 : gI σ41 th 5 = gI σ33 th 5 := by rw [eσ41]; exact up2_n _ _ (fun q => absurd q.1 (kO.ne (kth.up (xσ27.trans (xσ29.trans (xσ30.trans xσ33)))) mb (by decide)))
    have kp78 : Kpt (gI σ41 J 7 = gI σ J 7) := Eq.trans (show gI σ41 J 7 = gI σ33 J 7 from by rw [eσ41]; exact up2_n _ _ (fun q => absurd q.1 (kO.ne (kJ.up (xσ27.trans (xσ29.trans (xσ30.trans xσ33)))) mb (by decide)))) kp57
    have kp79 : Kpt (gI σ41 J 2 = gI σ J 2) := Eq.trans (show gI σ41 J 2 = gI σ33 J 2 from by rw [eσ41]; exact up2_n _ _ (fun q => absurd q.1 (kO.ne (kJ.up (xσ27.trans (xσ29.trans (xσ30.trans xσ33)))) mb (by decide)))) kp59
    have kp80 : Kpt (gI σ41 o 3 = gI σ o 3) := Eq.trans (show gI σ41 o 3 = gI σ33 o 3 from by rw [eσ41]; exact up2_n _ _ (fun q => absurd q.1 (kO.ne (ko.up (xσ27.trans (xσ29.trans (xσ30.trans xσ33)))) mb (by decide)))) kp60
    have kp81 : Kpt (gI σ41 o 4 = gI σ o 4) := Eq.trans (show gI σ41 o 4 = gI σ33 o 4 from by rw [eσ41]; exact up2_n _ _ (fun q => absurd q.1 (kO.ne (ko.up (xσ27.trans (xσ29.trans (xσ30.trans xσ33)))) mb (by decide)))) kp61
    have kp82 : Kpt (gI σ41 o 6 = gI σ29 o 6) := Eq.trans (show gI σ41 o 6 = gI σ33 o 6 from by rw [eσ41]; exact up2_n _ _ (fun q => absurd q.1 (kO.ne (ko.up (xσ27.trans (xσ29.trans (xσ30.trans xσ33)))) mb (by decide)))) kp62
    have kp83 : Kpt (gI σ41 o 7 = gI σ o 7) := Eq.trans (show gI σ41 o 7 = gI σ33 o 7 from by rw [eσ41]; exact up2_n _ _ (fun q => absurd q.1 (kO.ne (ko.up (xσ27.trans (xσ29.trans (xσ30.trans xσ33)))) mb (by decide)))) kp63
    have kp84 : Kpt (gI σ41 o 8 = gI σ o 8) := Eq.trans (show gI σ41 o 8 = gI σ33 o 8 from by rw [eσ41]; exact up2_n _ _ (fun q => absurd q.1 (kO.ne (ko.up (xσ27.trans (xσ29.trans (xσ30.trans xσ33)))) mb (by decide)))) kp64
    refine i_X6_next iσ41 (kth.up (xσ27.trans (xσ29.trans (xσ30.trans (xσ33.trans xσ41))))) (kp72.trans (kp51.trans (kp37.trans (kp22.trans (kp16.trans hX0))))) (kX.up (xσ27.trans (xσ29.trans (xσ30.trans (xσ33.trans xσ41))))) (((xσ27.trans (xσ29.trans (xσ30.trans (xσ33.trans xσ41)))) tx kX.1).2.2.trans gX) (by (first | omega | with_reducible assumption | with_reducible exact rng_toInt _ | with_reducible exact rng_wr _ | (unfold rng; omega) | (unfold rng at *; omega) | assumption)) (by (first | omega | with_reducible assumption | with_reducible exact rng_toInt _ | with_reducible exact rng_wr _ | (unfold rng; omega) | (unfold rng at *; omega) | assumption)) (fun σ42 _ iσ42 cσ42 pσ42 => ?_) (fun σx LLx Nx nux E ix cx ux px => hX σx LLx Nx nux E ix (fσ41.tr (cx.mo (by decide))) (ux) (by first | exact px | exact ⟨by have := px.1; omega, px.2⟩ | (first | omega | with_reducible assumption | with_reducible exact rng_toInt _ | with_reducible exact rng_wr _ | (unfold rng; omega) | (unfold rng at *; omega) | assumption)))
    intro xσ42
    have fσ42 : Fx [323, 326, 329, 330, 386, 387, 388, 389, 390, 6464, 8320] gr σ σ42 := fσ41.tr (cσ42.mo (by decide))
    have oxcσ42 : OX o σ σ42 := oxcσ41.tr (OX.fx cσ42 (by decide) (by decide)) (xσ27.trans (xσ29.trans (xσ30.trans (xσ33.trans xσ41))))
    have kp85 : gP σ42 J 4 = gP σ41 J 4 := (cσ42.O (kJ.up (xσ27.trans (xσ29.trans (xσ30.trans (xσ33.trans xσ41))))) (by decide)).2.1
    have kp86 : gP σ42 th 0 = gP σ41 th 0 := (cσ42.O (kth.up (xσ27.trans (xσ29.trans (xσ30.trans (xσ33.trans xσ41))))) (by decide)).2.1
    have kp87 : gP σ42 th 7 = gP σ41 th 7 := (cσ42.O (kth.up (xσ27.trans (xσ29.trans (xσ30.trans (xσ33.trans xσ41))))) (by decide)).2.1
    have kp88 : gP σ42 th 8 = gP σ41 th 8 := (cσ42.O (kth.up (xσ27.trans (xσ29.trans (xσ30.trans (xσ33.trans xσ41))))) (by decide)).2.1
    have kp89 : Kpt (gI σ42 J 7 = gI σ J 7) := Eq.trans (show gI σ42 J 7 = gI σ41 J 7 from (cσ42.O (kJ.up (xσ27.trans (xσ29.trans (xσ30.trans (xσ33.trans xσ41))))) (by decide)).1) kp78
    have kp90 : Kpt (gI σ42 J 1 = gI σ J 1) := Eq.trans (show gI σ42 J 1 = gI σ41 J 1 from (cσ42.O (kJ.up (xσ27.trans (xσ29.trans (xσ30.trans (xσ33.trans xσ41))))) (by decide)).1) kp69
    have kp91 : Kpt (gI σ42 J 2 = gI σ J 2) := Eq.trans (show gI σ42 J 2 = gI σ41 J 2 from (cσ42.O (kJ.up (xσ27.trans (xσ29.trans (xσ30.trans (xσ33.trans xσ41))))) (by decide)).1) kp79
    have kp92 : Kpt (gI σ42 o 3 = gI σ o 3) := Eq.trans (show gI σ42 o 3 = gI σ41 o 3 from (cσ42.O (ko.up (xσ27.trans (xσ29.trans (xσ30.trans (xσ33.trans xσ41))))) (by decide)).1) kp80
    have kp93 : Kpt (gI σ42 o 4 = gI σ o 4) := Eq.trans (show gI σ42 o 4 = gI σ41 o 4 from (cσ42.O (ko.up (xσ27.trans (xσ29.trans (xσ30.trans (xσ33.trans xσ41))))) (by decide)).1) kp81
    have kp94 : Kpt (gI σ42 o 6 = gI σ29 o 6) := Eq.trans (show gI σ42 o 6 = gI σ41 o 6 from (cσ42.O (ko.up (xσ27.trans (xσ29.trans (xσ30.trans (xσ33.trans xσ41))))) (by decide)).1) kp82
    have kp95 : Kpt (gI σ42 o 7 = gI σ o 7) := Eq.trans (show gI σ42 o 7 = gI σ41 o 7 from (cσ42.O (ko.up (xσ27.trans (xσ29.trans (xσ30.trans (xσ33.trans xσ41))))) (by decide)).1) kp83
    have kp96 : Kpt (gI σ42 o 8 = gI σ o 8) := Eq.trans (show gI σ42 o 8 = gI σ41 o 8 from (cσ42.O (ko.up (xσ27.trans (xσ29.trans (xσ30.trans (xσ33.trans xσ41))))) (by decide)).1) kp84
    have kp97 : Kpt (gI σ42 o 9 = gI σ33 o 9) := Eq.trans (show gI σ42 o 9 = gI σ41 o 9 from (cσ42.O (ko.up (xσ27.trans (xσ29.trans (xσ30.trans (xσ33.trans xσ41))))) (by decide)).1) kp70
    have r5σ42 := I_6_5 iσ42.1 (kth.up (xσ27.trans (xσ29.trans (xσ30.trans (xσ33.trans (xσ41.trans xσ42))))))
    refine i_X6_wantSign iσ42 (kth.up (xσ27.trans (xσ29.trans (xσ30.trans (xσ33.trans (xσ41.trans xσ42)))))) (kp86.trans (kp72.trans (kp51.trans (kp37.trans (kp22.trans (kp16.trans hX0)))))) (kX.up (xσ27.trans (xσ29.trans (xσ30.trans (xσ33.trans (xσ41.trans xσ42)))))) (((xσ27.trans (xσ29.trans (xσ30.trans (xσ33.trans (xσ41.trans xσ42))))) tx kX.1).2.2.trans gX) (by (first | omega | with_reducible assumption | with_reducible exact rng_toInt _ | with_reducible exact rng_wr _ | (unfold rng; omega) | (unfold rng at *; omega) | assumption)) (by (first | omega | with_reducible assumption | with_reducible exact rng_toInt _ | with_reducible exact rng_wr _ | (unfold rng; omega) | (unfold rng at *; omega) | assumption)) (fun σ43 _ iσ43 cσ43 pσ43 => ?_) (fun σx LLx Nx nux E ix cx ux px => hX σx LLx Nx nux E ix (fσ42.tr (cx.mo (by decide))) (ux) (by first | exact px | exact ⟨by have := px.1; omega, px.2⟩ | (first | omega | with_reducible assumption | with_reducible exact rng_toInt _ | with_reducible exact rng_wr _ | (unfold rng; omega) | (unfold rng at *; omega) | assumption)))
    intro xσ43
    have fσ43 : Fx [323, 326, 329, 330, 386, 387, 388, 389, 390, 6464, 8320] gr σ σ43 := fσ42.tr (cσ43.mo (by decide))
    have oxcσ43 : OX o σ σ43 := oxcσ42.tr (OX.fx cσ43 (by decide) (by decide)) (xσ27.trans (xσ29.trans (xσ30.trans (xσ33.trans (xσ41.trans xσ42)))))
    have kp98 : gP σ43 J 4 = gP σ42 J 4 := (cσ43.O (kJ.up (xσ27.trans (xσ29.trans (xσ30.trans (xσ33.trans (xσ41.trans xσ42)))))) (by decide)).2.1
    have kp99 : gP σ43 th 0 = gP σ42 th 0 := (cσ43.O (kth.up (xσ27.trans (xσ29.trans (xσ30.trans (xσ33.trans (xσ41.trans xσ42)))))) (by decide)).2.1
    have kp100 : gP σ43 th 7 = gP σ42 th 7 := (cσ43.O (kth.up (xσ27.trans (xσ29.trans (xσ30.trans (xσ33.trans (xσ41.trans xσ42)))))) (by decide)).2.1
    have kp101 : gP σ43 th 8 = gP σ42 th 8 := (cσ43.O (kth.up (xσ27.trans (xσ29.trans (xσ30.trans (xσ33.trans (xσ41.trans xσ42)))))) (by decide)).2.1
    have kp102 : Kpt (gI σ43 J 7 = gI σ J 7) := Eq.trans (show gI σ43 J 7 = gI σ42 J 7 from (cσ43.O (kJ.up (xσ27.trans (xσ29.trans (xσ30.trans (xσ33.trans (xσ41.trans xσ42)))))) (by decide)).1) kp89
    have kp103 : Kpt (gI σ43 J 1 = gI σ J 1) := Eq.trans (show gI σ43 J 1 = gI σ42 J 1 from (cσ43.O (kJ.up (xσ27.trans (xσ29.trans (xσ30.trans (xσ33.trans (xσ41.trans xσ42)))))) (by decide)).1) kp90
    have kp104 : Kpt (gI σ43 J 2 = gI σ J 2) := Eq.trans (show gI σ43 J 2 = gI σ42 J 2 from (cσ43.O (kJ.up (xσ27.trans (xσ29.trans (xσ30.trans (xσ33.trans (xσ41.trans xσ42)))))) (by decide)).1) kp91
    have kp105 : Kpt (gI σ43 o 3 = gI σ o 3) := Eq.trans (show gI σ43 o 3 = gI σ42 o 3 from (cσ43.O (ko.up (xσ27.trans (xσ29.trans (xσ30.trans (xσ33.trans (xσ41.trans xσ42)))))) (by decide)).1) kp92
    have kp106 : Kpt (gI σ43 o 4 = gI σ o 4) := Eq.trans (show gI σ43 o 4 = gI σ42 o 4 from (cσ43.O (ko.up (xσ27.trans (xσ29.trans (xσ30.trans (xσ33.trans (xσ41.trans xσ42)))))) (by decide)).1) kp93
    have kp107 : Kpt (gI σ43 o 6 = gI σ29 o 6) := Eq.trans (show gI σ43 o 6 = gI σ42 o 6 from (cσ43.O (ko.up (xσ27.trans (xσ29.trans (xσ30.trans (xσ33.trans (xσ41.trans xσ42)))))) (by decide)).1) kp94
    have kp108 : Kpt (gI σ43 o 7 = gI σ o 7) := Eq.trans (show gI σ43 o 7 = gI σ42 o 7 from (cσ43.O (ko.up (xσ27.trans (xσ29.trans (xσ30.trans (xσ33.trans (xσ41.trans xσ42)))))) (by decide)).1) kp95
    have kp109 : Kpt (gI σ43 o 8 = gI σ o 8) := Eq.trans (show gI σ43 o 8 = gI σ42 o 8 from (cσ43.O (ko.up (xσ27.trans (xσ29.trans (xσ30.trans (xσ33.trans (xσ41.trans xσ42)))))) (by decide)).1) kp96
    have kp110 : Kpt (gI σ43 o 9 = gI σ33 o 9) := Eq.trans (show gI σ43 o 9 = gI σ42 o 9 from (cσ43.O (ko.up (xσ27.trans (xσ29.trans (xσ30.trans (xσ33.trans (xσ41.trans xσ42)))))) (by decide)).1) kp97
    have r5σ43 := I_6_5 iσ43.1 (kth.up (xσ27.trans (xσ29.trans (xσ30.trans (xσ33.trans (xσ41.trans (xσ42.trans xσ43)))))))
    have ho111 : gI σ43 o 3 = gI σ o 3 := kp105
    refine i_X6_newColumn iσ43 (kth.up (xσ27.trans (xσ29.trans (xσ30.trans (xσ33.trans (xσ41.trans (xσ42.trans xσ43))))))) (kp99.trans (kp86.trans (kp72.trans (kp51.trans (kp37.trans (kp22.trans (kp16.trans hX0))))))) (kX.up (xσ27.trans (xσ29.trans (xσ30.trans (xσ33.trans (xσ41.trans (xσ42.trans xσ43))))))) (((xσ27.trans (xσ29.trans (xσ30.trans (xσ33.trans (xσ41.trans (xσ42.trans xσ43)))))) tx kX.1).2.2.trans gX) (kp101.trans (kp88.trans (kp74.trans (kp53.trans (kp39.trans (kp24.trans (kp18.trans h8))))))) (ko.up (xσ27.trans (xσ29.trans (xσ30.trans (xσ33.trans (xσ41.trans (xσ42.trans xσ43))))))) (by (first | omega | with_reducible assumption | with_reducible exact rng_toInt _ | with_reducible exact rng_wr _ | (unfold rng; omega) | (unfold rng at *; omega) | assumption)) (by (first | omega | with_reducible assumption | with_reducible exact rng_toInt _ | with_reducible exact rng_wr _ | (unfold rng; omega) | (unfold rng at *; omega) | assumption)) (by (first | omega | with_reducible assumption | with_reducible exact rng_toInt _ | with_reducible exact rng_wr _ | (unfold rng; omega) | (unfold rng at *; omega) | assumption)) (by (first | omega | with_reducible assumption | with_reducible exact rng_toInt _ | with_reducible exact rng_wr _ | (unfold rng; omega) | (unfold rng at *; omega) | assumption)) (by (first | omega | with_reducible assumption | with_reducible exact rng_toInt _ | with_reducible exact rng_wr _ | (unfold rng; omega) | (unfold rng at *; omega) | assumption)) (fun σ44 _ iσ44 cσ44 oxσ44 pσ44 => ?_) (fun σx LLx Nx nux E ix cx ux px => hX σx LLx Nx nux E ix (fσ43.tr (cx.mo (by decide))) (ux) (by first | exact px | exact ⟨by have := px.1; omega, px.2⟩ | (first | omega | with_reducible assumption | with_reducible exact rng_toInt _ | with_reducible exact rng_wr _ | (unfold rng; omega) | (unfold rng at *; omega) | assumption)))
    intro xσ44
    have fσ44 : Fx [323, 326, 329, 330, 386, 387, 388, 389, 390, 6464, 8320] gr σ σ44 := fσ43.tr (cσ44.mo (by decide))
    have oxcσ44 : OX o σ σ44 := oxcσ43.tr oxσ44 (xσ27.trans (xσ29.trans (xσ30.trans (xσ33.trans (xσ41.trans (xσ42.trans xσ43))))))
    have kp112 : gP σ44 J 4 = gP σ43 J 4 := (cσ44.O (kJ.up (xσ27.trans (xσ29.trans (xσ30.trans (xσ33.trans (xσ41.trans (xσ42.trans xσ43))))))) (by decide)).2.1
    have kp113 : gP σ44 th 0 = gP σ43 th 0 := (cσ44.O (kth.up (xσ27.trans (xσ29.trans (xσ30.trans (xσ33.trans (xσ41.trans (xσ42.trans xσ43))))))) (by decide)).2.1
    have kp114 : gP σ44 th 7 = gP σ43 th 7 := (cσ44.O (kth.up (xσ27.trans (xσ29.trans (xσ30.trans (xσ33.trans (xσ41.trans (xσ42.trans xσ43))))))) (by decide)).2.1
    have kp115 : gP σ44 th 8 = gP σ43 th 8 := (cσ44.O (kth.up (xσ27.trans (xσ29.trans (xσ30.trans (xσ33.trans (xσ41.trans (xσ42.trans xσ43))))))) (by decide)).2.1
    have kp116 : Kpt (gI σ44 J 7 = gI σ J 7) := Eq.trans (show gI σ44 J 7 = gI σ43 J 7 from (cσ44.O (kJ.up (xσ27.trans (xσ29.trans (xσ30.trans (xσ33.trans (xσ41.trans (xσ42.trans xσ43))))))) (by decide)).1) kp102
    have kp117 : Kpt (gI σ44 J 1 = gI σ J 1) := Eq.trans (show gI σ44 J 1 = gI σ43 J 1 from (cσ44.O (kJ.up (xσ27.trans (xσ29.trans (xσ30.trans (xσ33.trans (xσ41.trans (xσ42.trans xσ43))))))) (by decide)).1) kp103
    have kp118 : Kpt (gI σ44 J 2 = gI σ J 2) := Eq.trans (show gI σ44 J 2 = gI σ43 J 2 from (cσ44.O (kJ.up (xσ27.trans (xσ29.trans (xσ30.trans (xσ33.trans (xσ41.trans (xσ42.trans xσ43))))))) (by decide)).1) kp104
    have kp119 : Kpt (gI σ44 o 4 = gI σ o 4) := Eq.trans (show gI σ44 o 4 = gI σ43 o 4 from (cσ44.O (ko.up (xσ27.trans (xσ29.trans (xσ30.trans (xσ33.trans (xσ41.trans (xσ42.trans xσ43))))))) (by decide)).1) kp106
    have kp120 : Kpt (gI σ44 o 6 = gI σ29 o 6) := Eq.trans (show gI σ44 o 6 = gI σ43 o 6 from (cσ44.O (ko.up (xσ27.trans (xσ29.trans (xσ30.trans (xσ33.trans (xσ41.trans (xσ42.trans xσ43))))))) (by decide)).1) kp107
    have kp121 : Kpt (gI σ44 o 7 = gI σ o 7) := Eq.trans (show gI σ44 o 7 = gI σ43 o 7 from (cσ44.O (ko.up (xσ27.trans (xσ29.trans (xσ30.trans (xσ33.trans (xσ41.trans (xσ42.trans xσ43))))))) (by decide)).1) kp108
    have kp122 : Kpt (gI σ44 o 8 = gI σ o 8) := Eq.trans (show gI σ44 o 8 = gI σ43 o 8 from (cσ44.O (ko.up (xσ27.trans (xσ29.trans (xσ30.trans (xσ33.trans (xσ41.trans (xσ42.trans xσ43))))))) (by decide)).1) kp109
    have kp123 : Kpt (gI σ44 o 9 = gI σ33 o 9) := Eq.trans (show gI σ44 o 9 = gI σ43 o 9 from (cσ44.O (ko.up (xσ27.trans (xσ29.trans (xσ30.trans (xσ33.trans (xσ41.trans (xσ42.trans xσ43))))))) (by decide)).1) kp110
    have r5σ44 := I_6_5 iσ44.1 (kth.up (xσ27.trans (xσ29.trans (xσ30.trans (xσ33.trans (xσ41.trans (xσ42.trans (xσ43.trans xσ44))))))))
    have Lp89 : ∀ (fu89 : Nat) (τ89 : Sg) (v1 : Int), IV τ89 pl gq ci gr nc ot LL N nu → Fx [323, 326, 329, 330, 386, 387, 388, 389, 390, 6464, 8320] gr σ τ89 → Ext σ44 τ89 → OX o σ τ89 → ((0 ≤ v1 ∧ v1 ≤ 4) ∧ (gI τ89 th 5 ≤ gI τ89 th 2 ∧ (gI τ89 th 3 ≠ 0 → gI τ89 th 5 + 1 ≤ gI τ89 th 2)) ∧ gI τ89 J 7 ≤ 2 * gI τ89 th 5 ∧ gI τ89 o 6 = 0 ∧ gI τ89 o 7 = -1 ∧ gI τ89 o 8 = -1 ∧ 0 ≤ gI τ89 o 9 ∧ gI τ89 o 9 ≤ 3) → ((4 - v1).toNat) < fu89 → wl_X6_sourceText_89 th Q X fu89 τ89 v1 := by
      intro fu89
      induction fu89 with
      | zero => intro _ _ _ _ _ _ _ h9; omega
      | succ fu89 ih89 =>
        intro τ89 v1 iτ89 fτ89 xτ89 oxcτ89 hi89 hm89
        unfold wl_X6_sourceText_89
        have kp124 : Kpt (gI τ89 J 1 = gI σ J 1) := (fτ89.O kJ (by decide)).1
        have kp125 : Kpt (gI τ89 J 7 = gI σ J 7) := (fτ89.O kJ (by decide)).1
        have kp126 : Kpt (gI τ89 o 4 = gI σ o 4) := (fτ89.O ko (by decide)).1
        have kp127 : Kpt (gI τ89 o 7 = gI σ o 7) := (fτ89.O ko (by decide)).1
        have kp128 : Kpt (gI τ89 o 8 = gI σ o 8) := (fτ89.O ko (by decide)).1
        have kp129 : gP τ89 th 0 = gP σ th 0 := (fτ89.O kth (by decide)).2.1
        have kp130 : gP τ89 th 7 = gP σ th 7 := (fτ89.O kth (by decide)).2.1
        have kp131 : gP τ89 th 8 = gP σ th 8 := (fτ89.O kth (by decide)).2.1
        have kp132 : Kpt (gI τ89 J 2 = gI σ J 2) := (fτ89.O kJ (by decide)).1
        have kp133 : gP τ89 J 4 = gP σ44 J 4 := (fτ89.O kJ (by decide)).2.1.trans (fσ44.O kJ (by decide)).2.1.symm
        have kp134 : Kpt (gI τ89 J 7 = gI σ J 7) := Eq.trans (show gI τ89 J 7 = gI σ44 J 7 from (fτ89.O kJ (by decide)).1.trans (fσ44.O kJ (by decide)).1.symm) kp116
        have kp135 : Kpt (gI τ89 J 1 = gI σ J 1) := Eq.trans (show gI τ89 J 1 = gI σ44 J 1 from (fτ89.O kJ (by decide)).1.trans (fσ44.O kJ (by decide)).1.symm) kp117
        have kp136 : Kpt (gI τ89 J 2 = gI σ J 2) := Eq.trans (show gI τ89 J 2 = gI σ44 J 2 from (fτ89.O kJ (by decide)).1.trans (fσ44.O kJ (by decide)).1.symm) kp118
        have kp137 : Kpt (gI τ89 o 4 = gI σ o 4) := Eq.trans (show gI τ89 o 4 = gI σ44 o 4 from (fτ89.O ko (by decide)).1.trans (fσ44.O ko (by decide)).1.symm) kp119
        have kp138 : Kpt (gI τ89 o 7 = gI σ o 7) := Eq.trans (show gI τ89 o 7 = gI σ44 o 7 from (fτ89.O ko (by decide)).1.trans (fσ44.O ko (by decide)).1.symm) kp121
        have kp139 : Kpt (gI τ89 o 8 = gI σ o 8) := Eq.trans (show gI τ89 o 8 = gI σ44 o 8 from (fτ89.O ko (by decide)).1.trans (fσ44.O ko (by decide)).1.symm) kp122
        have ho140 : gI τ89 J 1 = gI σ J 1 := kp135
        have ho141 : gI τ89 J 7 = gI σ J 7 := kp134
        have ho142 : gI τ89 o 4 = gI σ o 4 := kp137
        have ho143 : gI τ89 o 7 = gI σ o 7 := kp138
        have ho144 : gI τ89 o 8 = gI σ o 8 := kp139
        have ho145 : gI τ89 J 2 = gI σ J 2 := kp136
        unfold w_X6_sourceText_89
        by_cases hc146 : v1 ≥ 4
        · rw [if_pos hc146]
          unfold w_X6_sourceText_113
          refine i_X6_wantSign iτ89 (kth.up (xσ27.trans (xσ29.trans (xσ30.trans (xσ33.trans (xσ41.trans (xσ42.trans (xσ43.trans (xσ44.trans xτ89))))))))) (kp129.trans hX0) (kX.up (xσ27.trans (xσ29.trans (xσ30.trans (xσ33.trans (xσ41.trans (xσ42.trans (xσ43.trans (xσ44.trans xτ89))))))))) (((xσ27.trans (xσ29.trans (xσ30.trans (xσ33.trans (xσ41.trans (xσ42.trans (xσ43.trans (xσ44.trans xτ89)))))))) tx kX.1).2.2.trans gX) (by (first | omega | with_reducible assumption | with_reducible exact rng_toInt _ | with_reducible exact rng_wr _ | (unfold rng; omega) | (unfold rng at *; omega) | assumption)) (by (first | omega | with_reducible assumption | with_reducible exact rng_toInt _ | with_reducible exact rng_wr _ | (unfold rng; omega) | (unfold rng at *; omega) | assumption)) (fun σ46 _ iσ46 cσ46 pσ46 => ?_) (fun σx LLx Nx nux E ix cx ux px => hX σx LLx Nx nux E ix (fτ89.tr (cx.mo (by decide))) (ux) (by first | exact px | exact ⟨by have := px.1; omega, px.2⟩ | (first | omega | with_reducible assumption | with_reducible exact rng_toInt _ | with_reducible exact rng_wr _ | (unfold rng; omega) | (unfold rng at *; omega) | assumption)))
          intro xσ46
          have fσ46 : Fx [323, 326, 329, 330, 386, 387, 388, 389, 390, 6464, 8320] gr σ σ46 := fτ89.tr (cσ46.mo (by decide))
          have oxcσ46 : OX o σ σ46 := oxcτ89.tr (OX.fx cσ46 (by decide) (by decide)) (xσ27.trans (xσ29.trans (xσ30.trans (xσ33.trans (xσ41.trans (xσ42.trans (xσ43.trans (xσ44.trans xτ89))))))))
          have kp147 : gP σ46 J 4 = gP τ89 J 4 := (cσ46.O (kJ.up (xσ27.trans (xσ29.trans (xσ30.trans (xσ33.trans (xσ41.trans (xσ42.trans (xσ43.trans (xσ44.trans xτ89))))))))) (by decide)).2.1
          have kp148 : gP σ46 th 0 = gP τ89 th 0 := (cσ46.O (kth.up (xσ27.trans (xσ29.trans (xσ30.trans (xσ33.trans (xσ41.trans (xσ42.trans (xσ43.trans (xσ44.trans xτ89))))))))) (by decide)).2.1
          have kp149 : gP σ46 th 7 = gP τ89 th 7 := (cσ46.O (kth.up (xσ27.trans (xσ29.trans (xσ30.trans (xσ33.trans (xσ41.trans (xσ42.trans (xσ43.trans (xσ44.trans xτ89))))))))) (by decide)).2.1
          have kp150 : gP σ46 th 8 = gP τ89 th 8 := (cσ46.O (kth.up (xσ27.trans (xσ29.trans (xσ30.trans (xσ33.trans (xσ41.trans (xσ42.trans (xσ43.trans (xσ44.trans xτ89))))))))) (by decide)).2.1
          have kp151 : Kpt (gI σ46 J 7 = gI σ J 7) := Eq.trans (show gI σ46 J 7 = gI τ89 J 7 from (cσ46.O (kJ.up (xσ27.trans (xσ29.trans (xσ30.trans (xσ33.trans (xσ41.trans (xσ42.trans (xσ43.trans (xσ44.trans xτ89))))))))) (by decide)).1) kp134
          have kp152 : Kpt (gI σ46 J 1 = gI σ J 1) := Eq.trans (show gI σ46 J 1 = gI τ89 J 1 from (cσ46.O (kJ.up (xσ27.trans (xσ29.trans (xσ30.trans (xσ33.trans (xσ41.trans (xσ42.trans (xσ43.trans (xσ44.trans xτ89))))))))) (by decide)).1) kp135
          have kp153 : Kpt (gI σ46 J 2 = gI σ J 2) := Eq.trans (show gI σ46 J 2 = gI τ89 J 2 from (cσ46.O (kJ.up (xσ27.trans (xσ29.trans (xσ30.trans (xσ33.trans (xσ41.trans (xσ42.trans (xσ43.trans (xσ44.trans xτ89))))))))) (by decide)).1) kp136
          have kp154 : Kpt (gI σ46 o 3 = gI τ89 o 3) := (cσ46.O (ko.up (xσ27.trans (xσ29.trans (xσ30.trans (xσ33.trans (xσ41.trans (xσ42.trans (xσ43.trans (xσ44.trans xτ89))))))))) (by decide)).1
          have kp155 : Kpt (gI σ46 o 4 = gI σ o 4) := Eq.trans (show gI σ46 o 4 = gI τ89 o 4 from (cσ46.O (ko.up (xσ27.trans (xσ29.trans (xσ30.trans (xσ33.trans (xσ41.trans (xσ42.trans (xσ43.trans (xσ44.trans xτ89))))))))) (by decide)).1) kp137
          have kp156 : Kpt (gI σ46 o 6 = gI τ89 o 6) := (cσ46.O (ko.up (xσ27.trans (xσ29.trans (xσ30.trans (xσ33.trans (xσ41.trans (xσ42.trans (xσ43.trans (xσ44.trans xτ89))))))))) (by decide)).1
          have kp157 : Kpt (gI σ46 o 7 = gI σ o 7) := Eq.trans (show gI σ46 o 7 = gI τ89 o 7 from (cσ46.O (ko.up (xσ27.trans (xσ29.trans (xσ30.trans (xσ33.trans (xσ41.trans (xσ42.trans (xσ43.trans (xσ44.trans xτ89))))))))) (by decide)).1) kp138
          have kp158 : Kpt (gI σ46 o 8 = gI σ o 8) := Eq.trans (show gI σ46 o 8 = gI τ89 o 8 from (cσ46.O (ko.up (xσ27.trans (xσ29.trans (xσ30.trans (xσ33.trans (xσ41.trans (xσ42.trans (xσ43.trans (xσ44.trans xτ89))))))))) (by decide)).1) kp139
          have kp159 : Kpt (gI σ46 o 9 = gI τ89 o 9) := (cσ46.O (ko.up (xσ27.trans (xσ29.trans (xσ30.trans (xσ33.trans (xσ41.trans (xσ42.trans (xσ43.trans (xσ44.trans xτ89))))))))) (by decide)).1
          have r5σ46 := I_6_5 iσ46.1 (kth.up (xσ27.trans (xσ29.trans (xσ30.trans (xσ33.trans (xσ41.trans (xσ42.trans (xσ43.trans (xσ44.trans (xτ89.trans xσ46))))))))))
          refine i_X6_wantWord iσ46 (kth.up (xσ27.trans (xσ29.trans (xσ30.trans (xσ33.trans (xσ41.trans (xσ42.trans (xσ43.trans (xσ44.trans (xτ89.trans xσ46)))))))))) (kp148.trans (kp129.trans hX0)) (kX.up (xσ27.trans (xσ29.trans (xσ30.trans (xσ33.trans (xσ41.trans (xσ42.trans (xσ43.trans (xσ44.trans (xτ89.trans xσ46)))))))))) (((xσ27.trans (xσ29.trans (xσ30.trans (xσ33.trans (xσ41.trans (xσ42.trans (xσ43.trans (xσ44.trans (xτ89.trans xσ46))))))))) tx kX.1).2.2.trans gX) (by (first | omega | with_reducible assumption | with_reducible exact rng_toInt _ | with_reducible exact rng_wr _ | (unfold rng; omega) | (unfold rng at *; omega) | assumption)) (by (first | omega | with_reducible assumption | with_reducible exact rng_toInt _ | with_reducible exact rng_wr _ | (unfold rng; omega) | (unfold rng at *; omega) | assumption)) (fun σ47 _ iσ47 cσ47 pσ47 => ?_) (fun σx LLx Nx nux E ix cx ux px => hX σx LLx Nx nux E ix (fσ46.tr (cx.mo (by decide))) (ux) (by first | exact px | exact ⟨by have := px.1; omega, px.2⟩ | (first | omega | with_reducible assumption | with_reducible exact rng_toInt _ | with_reducible exact rng_wr _ | (unfold rng; omega) | (unfold rng at *; omega) | assumption)))
          intro xσ47
          have fσ47 : Fx [323, 326, 329, 330, 386, 387, 388, 389, 390, 6464, 8320] gr σ σ47 := fσ46.tr (cσ47.mo (by decide))
          have oxcσ47 : OX o σ σ47 := oxcσ46.tr (OX.fx cσ47 (by decide) (by decide)) (xσ27.trans (xσ29.trans (xσ30.trans (xσ33.trans (xσ41.trans (xσ42.trans (xσ43.trans (xσ44.trans (xτ89.trans xσ46)))))))))
          have kp160 : gP σ47 J 4 = gP σ46 J 4 := (cσ47.O (kJ.up (xσ27.trans (xσ29.trans (xσ30.trans (xσ33.trans (xσ41.trans (xσ42.trans (xσ43.trans (xσ44.trans (xτ89.trans xσ46)))))))))) (by decide)).2.1
          have kp161 : gP σ47 th 0 = gP σ46 th 0 := (cσ47.O (kth.up (xσ27.trans (xσ29.trans (xσ30.trans (xσ33.trans (xσ41.trans (xσ42.trans (xσ43.trans (xσ44.trans (xτ89.trans xσ46)))))))))) (by decide)).2.1
          have kp162 : gP σ47 th 7 = gP σ46 th 7 := (cσ47.O (kth.up (xσ27.trans (xσ29.trans (xσ30.trans (xσ33.trans (xσ41.trans (xσ42.trans (xσ43.trans (xσ44.trans (xτ89.trans xσ46)))))))))) (by decide)).2.1
          have kp163 : gP σ47 th 8 = gP σ46 th 8 := (cσ47.O (kth.up (xσ27.trans (xσ29.trans (xσ30.trans (xσ33.trans (xσ41.trans (xσ42.trans (xσ43.trans (xσ44.trans (xτ89.trans xσ46)))))))))) (by decide)).2.1
          have kp164 : Kpt (gI σ47 J 7 = gI σ J 7) := Eq.trans (show gI σ47 J 7 = gI σ46 J 7 from (cσ47.O (kJ.up (xσ27.trans (xσ29.trans (xσ30.trans (xσ33.trans (xσ41.trans (xσ42.trans (xσ43.trans (xσ44.trans (xτ89.trans xσ46)))))))))) (by decide)).1) kp151
          have kp165 : Kpt (gI σ47 J 1 = gI σ J 1) := Eq.trans (show gI σ47 J 1 = gI σ46 J 1 from (cσ47.O (kJ.up (xσ27.trans (xσ29.trans (xσ30.trans (xσ33.trans (xσ41.trans (xσ42.trans (xσ43.trans (xσ44.trans (xτ89.trans xσ46)))))))))) (by decide)).1) kp152
          have kp166 : Kpt (gI σ47 J 2 = gI σ J 2) := Eq.trans (show gI σ47 J 2 = gI σ46 J 2 from (cσ47.O (kJ.up (xσ27.trans (xσ29.trans (xσ30.trans (xσ33.trans (xσ41.trans (xσ42.trans (xσ43.trans (xσ44.trans (xτ89.trans xσ46)))))))))) (by decide)).1) kp153
          have kp167 : Kpt (gI σ47 o 3 = gI τ89 o 3) := Eq.trans (show gI σ47 o 3 = gI σ46 o 3 from (cσ47.O (ko.up (xσ27.trans (xσ29.trans (xσ30.trans (xσ33.trans (xσ41.trans (xσ42.trans (xσ43.trans (xσ44.trans (xτ89.trans xσ46)))))))))) (by decide)).1) kp154
          have kp168 : Kpt (gI σ47 o 4 = gI σ o 4) := Eq.trans (show gI σ47 o 4 = gI σ46 o 4 from (cσ47.O (ko.up (xσ27.trans (xσ29.trans (xσ30.trans (xσ33.trans (xσ41.trans (xσ42.trans (xσ43.trans (xσ44.trans (xτ89.trans xσ46)))))))))) (by decide)).1) kp155
          have kp169 : Kpt (gI σ47 o 6 = gI τ89 o 6) := Eq.trans (show gI σ47 o 6 = gI σ46 o 6 from (cσ47.O (ko.up (xσ27.trans (xσ29.trans (xσ30.trans (xσ33.trans (xσ41.trans (xσ42.trans (xσ43.trans (xσ44.trans (xτ89.trans xσ46)))))))))) (by decide)).1) kp156
          have kp170 : Kpt (gI σ47 o 7 = gI σ o 7) := Eq.trans (show gI σ47 o 7 = gI σ46 o 7 from (cσ47.O (ko.up (xσ27.trans (xσ29.trans (xσ30.trans (xσ33.trans (xσ41.trans (xσ42.trans (xσ43.trans (xσ44.trans (xτ89.trans xσ46)))))))))) (by decide)).1) kp157
          have kp171 : Kpt (gI σ47 o 8 = gI σ o 8) := Eq.trans (show gI σ47 o 8 = gI σ46 o 8 from (cσ47.O (ko.up (xσ27.trans (xσ29.trans (xσ30.trans (xσ33.trans (xσ41.trans (xσ42.trans (xσ43.trans (xσ44.trans (xτ89.trans xσ46)))))))))) (by decide)).1) kp158
          have kp172 : Kpt (gI σ47 o 9 = gI τ89 o 9) := Eq.trans (show gI σ47 o 9 = gI σ46 o 9 from (cσ47.O (ko.up (xσ27.trans (xσ29.trans (xσ30.trans (xσ33.trans (xσ41.trans (xσ42.trans (xσ43.trans (xσ44.trans (xτ89.trans xσ46)))))))))) (by decide)).1) kp159
          have r5σ47 := I_6_5 iσ47.1 (kth.up (xσ27.trans (xσ29.trans (xσ30.trans (xσ33.trans (xσ41.trans (xσ42.trans (xσ43.trans (xσ44.trans (xτ89.trans (xσ46.trans xσ47)))))))))))
          refine i_X6_number iσ47 (kth.up (xσ27.trans (xσ29.trans (xσ30.trans (xσ33.trans (xσ41.trans (xσ42.trans (xσ43.trans (xσ44.trans (xτ89.trans (xσ46.trans xσ47))))))))))) (by (first | omega | with_reducible assumption | with_reducible exact rng_toInt _ | with_reducible exact rng_wr _ | (unfold rng; omega) | (unfold rng at *; omega) | assumption)) (by (first | omega | with_reducible assumption | with_reducible exact rng_toInt _ | with_reducible exact rng_wr _ | (unfold rng; omega) | (unfold rng at *; omega) | assumption)) (fun σ48 r49 iσ48 cσ48 pσ48 => ?_) (fun σx LLx Nx nux E ix cx ux px => hX σx LLx Nx nux E ix (fσ47.tr (cx.mo (by decide))) (ux) (by first | exact px | exact ⟨by have := px.1; omega, px.2⟩ | (first | omega | with_reducible assumption | with_reducible exact rng_toInt _ | with_reducible exact rng_wr _ | (unfold rng; omega) | (unfold rng at *; omega) | assumption)))
          intro xσ48
          have fσ48 : Fx [323, 326, 329, 330, 386, 387, 388, 389, 390, 6464, 8320] gr σ σ48 := fσ47.tr (cσ48.mo (by decide))
          have oxcσ48 : OX o σ σ48 := oxcσ47.tr (OX.fx cσ48 (by decide) (by decide)) (xσ27.trans (xσ29.trans (xσ30.trans (xσ33.trans (xσ41.trans (xσ42.trans (xσ43.trans (xσ44.trans (xτ89.trans (xσ46.trans xσ47))))))))))
          have kp173 : gP σ48 J 4 = gP σ47 J 4 := (cσ48.O (kJ.up (xσ27.trans (xσ29.trans (xσ30.trans (xσ33.trans (xσ41.trans (xσ42.trans (xσ43.trans (xσ44.trans (xτ89.trans (xσ46.trans xσ47))))))))))) (by decide)).2.1
          have kp174 : gP σ48 th 0 = gP σ47 th 0 := (cσ48.O (kth.up (xσ27.trans (xσ29.trans (xσ30.trans (xσ33.trans (xσ41.trans (xσ42.trans (xσ43.trans (xσ44.trans (xτ89.trans (xσ46.trans xσ47))))))))))) (by decide)).2.1
          have kp175 : gP σ48 th 7 = gP σ47 th 7 := (cσ48.O (kth.up (xσ27.trans (xσ29.trans (xσ30.trans (xσ33.trans (xσ41.trans (xσ42.trans (xσ43.trans (xσ44.trans (xτ89.trans (xσ46.trans xσ47))))))))))) (by decide)).2.1
          have kp176 : gP σ48 th 8 = gP σ47 th 8 := (cσ48.O (kth.up (xσ27.trans (xσ29.trans (xσ30.trans (xσ33.trans (xσ41.trans (xσ42.trans (xσ43.trans (xσ44.trans (xτ89.trans (xσ46.trans xσ47))))))))))) (by decide)).2.1
          have kp177 : gI σ48 th 2 = gI σ47 th 2 := (cσ48.O (kth.up (xσ27.trans (xσ29.trans (xσ30.trans (xσ33.trans (xσ41.trans (xσ42.trans (xσ43.trans (xσ44.trans (xτ89.trans (xσ46.trans xσ47))))))))))) (by decide)).1
          have kp178 : gI σ48 th 3 = gI σ47 th 3 := (cσ48.O (kth.up (xσ27.trans (xσ29.trans (xσ30.trans (xσ33.trans (xσ41.trans (xσ42.trans (xσ43.trans (xσ44.trans (xτ89.trans (xσ46.trans xσ47))))))))))) (by decide)).1
          have kp179 : gI σ48 th 5 = gI σ47 th 5 := (cσ48.O (kth.up (xσ27.trans (xσ29.trans (xσ30.trans (xσ33.trans (xσ41.trans (xσ42.trans (xσ43.trans (xσ44.trans (xτ89.trans (xσ46.trans xσ47))))))))))) (by decide)).1
          have kp180 : Kpt (gI σ48 J 7 = gI σ J 7) := Eq.trans (show gI σ48 J 7 = gI σ47 J 7 from (cσ48.O (kJ.up (xσ27.trans (xσ29.trans (xσ30.trans (xσ33.trans (xσ41.trans (xσ42.trans (xσ43.trans (xσ44.trans (xτ89.trans (xσ46.trans xσ47))))))))))) (by decide)).1) kp164
          have kp181 : Kpt (gI σ48 J 1 = gI σ J 1) := Eq.trans (show gI σ48 J 1 = gI σ47 J 1 from (cσ48.O (kJ.up (xσ27.trans (xσ29.trans (xσ30.trans (xσ33.trans (xσ41.trans (xσ42.trans (xσ43.trans (xσ44.trans (xτ89.trans (xσ46.trans xσ47))))))))))) (by decide)).1) kp165
          have kp182 : Kpt (gI σ48 J 2 = gI σ J 2) := Eq.trans (show gI σ48 J 2 = gI σ47 J 2 from (cσ48.O (kJ.up (xσ27.trans (xσ29.trans (xσ30.trans (xσ33.trans (xσ41.trans (xσ42.trans (xσ43.trans (xσ44.trans (xτ89.trans (xσ46.trans xσ47))))))))))) (by decide)).1) kp166
          have kp183 : Kpt (gI σ48 o 3 = gI τ89 o 3) := Eq.trans (show gI σ48 o 3 = gI σ47 o 3 from (cσ48.O (ko.up (xσ27.trans (xσ29.trans (xσ30.trans (xσ33.trans (xσ41.trans (xσ42.trans (xσ43.trans (xσ44.trans (xτ89.trans (xσ46.trans xσ47))))))))))) (by decide)).1) kp167
          have kp184 : Kpt (gI σ48 o 4 = gI σ o 4) := Eq.trans (show gI σ48 o 4 = gI σ47 o 4 from (cσ48.O (ko.up (xσ27.trans (xσ29.trans (xσ30.trans (xσ33.trans (xσ41.trans (xσ42.trans (xσ43.trans (xσ44.trans (xτ89.trans (xσ46.trans xσ47))))))))))) (by decide)).1) kp168
          have kp185 : Kpt (gI σ48 o 6 = gI τ89 o 6) := Eq.trans (show gI σ48 o 6 = gI σ47 o 6 from (cσ48.O (ko.up (xσ27.trans (xσ29.trans (xσ30.trans (xσ33.trans (xσ41.trans (xσ42.trans (xσ43.trans (xσ44.trans (xτ89.trans (xσ46.trans xσ47))))))))))) (by decide)).1) kp169
          have kp186 : Kpt (gI σ48 o 7 = gI σ o 7) := Eq.trans (show gI σ48 o 7 = gI σ47 o 7 from (cσ48.O (ko.up (xσ27.trans (xσ29.trans (xσ30.trans (xσ33.trans (xσ41.trans (xσ42.trans (xσ43.trans (xσ44.trans (xτ89.trans (xσ46.trans xσ47))))))))))) (by decide)).1) kp170
          have kp187 : Kpt (gI σ48 o 8 = gI σ o 8) := Eq.trans (show gI σ48 o 8 = gI σ47 o 8 from (cσ48.O (ko.up (xσ27.trans (xσ29.trans (xσ30.trans (xσ33.trans (xσ41.trans (xσ42.trans (xσ43.trans (xσ44.trans (xτ89.trans (xσ46.trans xσ47))))))))))) (by decide)).1) kp171
          have kp188 : Kpt (gI σ48 o 9 = gI τ89 o 9) := Eq.trans (show gI σ48 o 9 = gI σ47 o 9 from (cσ48.O (ko.up (xσ27.trans (xσ29.trans (xσ30.trans (xσ33.trans (xσ41.trans (xσ42.trans (xσ43.trans (xσ44.trans (xτ89.trans (xσ46.trans xσ47))))))))))) (by decide)).1) kp172
          refine ⟨o, (kp163.trans (kp150.trans (kp131.trans h8))), fun kk_o_4 => ?_⟩
          intro σ51 eσ51
          have xσ51 : Ext σ48 σ51 := by rw [eσ51]; exact fun _ h => ⟨h, rfl, rfl⟩
          have iσ51 : IV σ51 pl gq ci gr nc ot LL N nu := by rw [eσ51]; exact iσ48.wSp (ko.up (xσ27.trans (xσ29.trans (xσ30.trans (xσ33.trans (xσ41.trans (xσ42.trans (xσ43.trans (xσ44.trans (xτ89.trans (xσ46.trans (xσ47.trans xσ48)))))))))))) (fun i hi => by omega) (by decide) (show (0 : Int) ≤ r49 ∧ r49 ≤ 1000 from ⟨by omega, by omega⟩)
          have fσ51 : Fx [323, 326, 329, 330, 386, 387, 388, 389, 390, 6464, 8320] gr σ σ51 := fσ48.tr (Sk.fx (by rw [eσ51]; exact Sk.pI (by rw [fcdO (ko.up (xσ27.trans (xσ29.trans (xσ30.trans (xσ33.trans (xσ41.trans (xσ42.trans (xσ43.trans (xσ44.trans (xτ89.trans (xσ46.trans (xσ47.trans xσ48)))))))))))) (by decide)]; decide)))
          have oxcσ51 : OX o σ σ51 := oxcσ48.tr (by rw [eσ51]; exact OX.pI (ko.up (xσ27.trans (xσ29.trans (xσ30.trans (xσ33.trans (xσ41.trans (xσ42.trans (xσ43.trans (xσ44.trans (xτ89.trans (xσ46.trans (xσ47.trans xσ48)))))))))))) (Or.inr rfl)) (xσ27.trans (xσ29.trans (xσ30.trans (xσ33.trans (xσ41.trans (xσ42.trans (xσ43.trans (xσ44.trans (xτ89.trans (xσ46.trans (xσ47.trans xσ48)))))))))))
          have wσ51 : gI σ51 o 10 = r49 := by rw [eσ51]; exact up2_s _ _ _ _
          have kp189 : gP σ51 J 4 = gP σ48 J 4 := by rw [eσ51]
          have kp190 : gP σ51 th 0 = gP σ48 th 0 := by rw [eσ51]
          have kp191 : gP σ51 th 7 = gP σ48 th 7 := by rw [eσ51]
          have kp192 : gP σ51 th 8 = gP σ48 th 8 := by rw [eσ51]
          have kp193 : gI σ51 th 2 = gI σ48 th 2 := by rw [eσ51]; exact up2_n _ _ (fun q => absurd q.2 (by decide))
          have kp194 : gI σ51 th 3 = gI σ48 th 3 := by rw [eσ51]; exact up2_n _ _ (fun q => absurd q.2 (by decide))
          have kp195 : gI σ51 th 5 = gI σ48 th 5 := by rw [eσ51]; exact up2_n _ _ (fun q => absurd q.2 (by decide))
          have kp196 : Kpt (gI σ51 J 7 = gI σ J 7) := Eq.trans (show gI σ51 J 7 = gI σ48 J 7 from by rw [eσ51]; exact up2_n _ _ (fun q => absurd q.2 (by decide))) kp180
          have kp197 : Kpt (gI σ51 J 1 = gI σ J 1) := Eq.trans (show gI σ51 J 1 = gI σ48 J 1 from by rw [eσ51]; exact up2_n _ _ (fun q => absurd q.2 (by decide))) kp181
          have kp198 : Kpt (gI σ51 J 2 = gI σ J 2) := Eq.trans (show gI σ51 J 2 = gI σ48 J 2 from by rw [eσ51]; exact up2_n _ _ (fun q => absurd q.2 (by decide))) kp182
          have kp199 : Kpt (gI σ51 o 3 = gI τ89 o 3) := Eq.trans (show gI σ51 o 3 = gI σ48 o 3 from by rw [eσ51]; exact up2_n _ _ (fun q => absurd q.2 (by decide))) kp183
          have kp200 : Kpt (gI σ51 o 4 = gI σ o 4) := Eq.trans (show gI σ51 o 4 = gI σ48 o 4 from by rw [eσ51]; exact up2_n _ _ (fun q => absurd q.2 (by decide))) kp184
          have kp201 : Kpt (gI σ51 o 6 = gI τ89 o 6) := Eq.trans (show gI σ51 o 6 = gI σ48 o 6 from by rw [eσ51]; exact up2_n _ _ (fun q => absurd q.2 (by decide))) kp185
          have kp202 : Kpt (gI σ51 o 7 = gI σ o 7) := Eq.trans (show gI σ51 o 7 = gI σ48 o 7 from by rw [eσ51]; exact up2_n _ _ (fun q => absurd q.2 (by decide))) kp186
          have kp203 : Kpt (gI σ51 o 8 = gI σ o 8) := Eq.trans (show gI σ51 o 8 = gI σ48 o 8 from by rw [eσ51]; exact up2_n _ _ (fun q => absurd q.2 (by decide))) kp187
          have kp204 : Kpt (gI σ51 o 9 = gI τ89 o 9) := Eq.trans (show gI σ51 o 9 = gI σ48 o 9 from by rw [eσ51]; exact up2_n _ _ (fun q => absurd q.2 (by decide))) kp188
          refine i_X6_next iσ51 (kth.up (xσ27.trans (xσ29.trans (xσ30.trans (xσ33.trans (xσ41.trans (xσ42.trans (xσ43.trans (xσ44.trans (xτ89.trans (xσ46.trans (xσ47.trans (xσ48.trans xσ51))))))))))))) (kp190.trans (kp174.trans (kp161.trans (kp148.trans (kp129.trans hX0))))) (kX.up (xσ27.trans (xσ29.trans (xσ30.trans (xσ33.trans (xσ41.trans (xσ42.trans (xσ43.trans (xσ44.trans (xτ89.trans (xσ46.trans (xσ47.trans (xσ48.trans xσ51))))))))))))) (((xσ27.trans (xσ29.trans (xσ30.trans (xσ33.trans (xσ41.trans (xσ42.trans (xσ43.trans (xσ44.trans (xτ89.trans (xσ46.trans (xσ47.trans (xσ48.trans xσ51)))))))))))) tx kX.1).2.2.trans gX) (by (first | omega | with_reducible assumption | with_reducible exact rng_toInt _ | with_reducible exact rng_wr _ | (unfold rng; omega) | (unfold rng at *; omega) | assumption)) (by (first | omega | with_reducible assumption | with_reducible exact rng_toInt _ | with_reducible exact rng_wr _ | (unfold rng; omega) | (unfold rng at *; omega) | assumption)) (fun σ52 _ iσ52 cσ52 pσ52 => ?_) (fun σx LLx Nx nux E ix cx ux px => hX σx LLx Nx nux E ix (fσ51.tr (cx.mo (by decide))) (ux) (by first | exact px | exact ⟨by have := px.1; omega, px.2⟩ | (first | omega | with_reducible assumption | with_reducible exact rng_toInt _ | with_reducible exact rng_wr _ | (unfold rng; omega) | (unfold rng at *; omega) | assumption)))
          intro xσ52
          have fσ52 : Fx [323, 326, 329, 330, 386, 387, 388, 389, 390, 6464, 8320] gr σ σ52 := fσ51.tr (cσ52.mo (by decide))
          have oxcσ52 : OX o σ σ52 := oxcσ51.tr (OX.fx cσ52 (by decide) (by decide)) (xσ27.trans (xσ29.trans (xσ30.trans (xσ33.trans (xσ41.trans (xσ42.trans (xσ43.trans (xσ44.trans (xτ89.trans (xσ46.trans (xσ47.trans (xσ48.trans xσ51))))))))))))
          have kp205 : gI σ52 o 10 = gI σ51 o 10 := (cσ52.O (ko.up (xσ27.trans (xσ29.trans (xσ30.trans (xσ33.trans (xσ41.trans (xσ42.trans (xσ43.trans (xσ44.trans (xτ89.trans (xσ46.trans (xσ47.trans (xσ48.trans xσ51))))))))))))) (by decide)).1
          have kp206 : gP σ52 J 4 = gP σ51 J 4 := (cσ52.O (kJ.up (xσ27.trans (xσ29.trans (xσ30.trans (xσ33.trans (xσ41.trans (xσ42.trans (xσ43.trans (xσ44.trans (xτ89.trans (xσ46.trans (xσ47.trans (xσ48.trans xσ51))))))))))))) (by decide)).2.1
          have kp207 : gP σ52 th 0 = gP σ51 th 0 := (cσ52.O (kth.up (xσ27.trans (xσ29.trans (xσ30.trans (xσ33.trans (xσ41.trans (xσ42.trans (xσ43.trans (xσ44.trans (xτ89.trans (xσ46.trans (xσ47.trans (xσ48.trans xσ51))))))))))))) (by decide)).2.1
          have kp208 : gP σ52 th 7 = gP σ51 th 7 := (cσ52.O (kth.up (xσ27.trans (xσ29.trans (xσ30.trans (xσ33.trans (xσ41.trans (xσ42.trans (xσ43.trans (xσ44.trans (xτ89.trans (xσ46.trans (xσ47.trans (xσ48.trans xσ51))))))))))))) (by decide)).2.1
          have kp209 : gP σ52 th 8 = gP σ51 th 8 := (cσ52.O (kth.up (xσ27.trans (xσ29.trans (xσ30.trans (xσ33.trans (xσ41.trans (xσ42.trans (xσ43.trans (xσ44.trans (xτ89.trans (xσ46.trans (xσ47.trans (xσ48.trans xσ51))))))))))))) (by decide)).2.1
          have kp210 : Kpt (gI σ52 J 7 = gI σ J 7) := Eq.trans (show gI σ52 J 7 = gI σ51 J 7 from (cσ52.O (kJ.up (xσ27.trans (xσ29.trans (xσ30.trans (xσ33.trans (xσ41.trans (xσ42.trans (xσ43.trans (xσ44.trans (xτ89.trans (xσ46.trans (xσ47.trans (xσ48.trans xσ51))))))))))))) (by decide)).1) kp196
          have kp211 : Kpt (gI σ52 J 1 = gI σ J 1) := Eq.trans (show gI σ52 J 1 = gI σ51 J 1 from (cσ52.O (kJ.up (xσ27.trans (xσ29.trans (xσ30.trans (xσ33.trans (xσ41.trans (xσ42.trans (xσ43.trans (xσ44.trans (xτ89.trans (xσ46.trans (xσ47.trans (xσ48.trans xσ51))))))))))))) (by decide)).1) kp197
          have kp212 : Kpt (gI σ52 J 2 = gI σ J 2) := Eq.trans (show gI σ52 J 2 = gI σ51 J 2 from (cσ52.O (kJ.up (xσ27.trans (xσ29.trans (xσ30.trans (xσ33.trans (xσ41.trans (xσ42.trans (xσ43.trans (xσ44.trans (xτ89.trans (xσ46.trans (xσ47.trans (xσ48.trans xσ51))))))))))))) (by decide)).1) kp198
          have kp213 : Kpt (gI σ52 o 3 = gI τ89 o 3) := Eq.trans (show gI σ52 o 3 = gI σ51 o 3 from (cσ52.O (ko.up (xσ27.trans (xσ29.trans (xσ30.trans (xσ33.trans (xσ41.trans (xσ42.trans (xσ43.trans (xσ44.trans (xτ89.trans (xσ46.trans (xσ47.trans (xσ48.trans xσ51))))))))))))) (by decide)).1) kp199
          have kp214 : Kpt (gI σ52 o 4 = gI σ o 4) := Eq.trans (show gI σ52 o 4 = gI σ51 o 4 from (cσ52.O (ko.up (xσ27.trans (xσ29.trans (xσ30.trans (xσ33.trans (xσ41.trans (xσ42.trans (xσ43.trans (xσ44.trans (xτ89.trans (xσ46.trans (xσ47.trans (xσ48.trans xσ51))))))))))))) (by decide)).1) kp200
          have kp215 : Kpt (gI σ52 o 6 = gI τ89 o 6) := Eq.trans (show gI σ52 o 6 = gI σ51 o 6 from (cσ52.O (ko.up (xσ27.trans (xσ29.trans (xσ30.trans (xσ33.trans (xσ41.trans (xσ42.trans (xσ43.trans (xσ44.trans (xτ89.trans (xσ46.trans (xσ47.trans (xσ48.trans xσ51))))))))))))) (by decide)).1) kp201
          have kp216 : Kpt (gI σ52 o 7 = gI σ o 7) := Eq.trans (show gI σ52 o 7 = gI σ51 o 7 from (cσ52.O (ko.up (xσ27.trans (xσ29.trans (xσ30.trans (xσ33.trans (xσ41.trans (xσ42.trans (xσ43.trans (xσ44.trans (xτ89.trans (xσ46.trans (xσ47.trans (xσ48.trans xσ51))))))))))))) (by decide)).1) kp202
          have kp217 : Kpt (gI σ52 o 8 = gI σ o 8) := Eq.trans (show gI σ52 o 8 = gI σ51 o 8 from (cσ52.O (ko.up (xσ27.trans (xσ29.trans (xσ30.trans (xσ33.trans (xσ41.trans (xσ42.trans (xσ43.trans (xσ44.trans (xτ89.trans (xσ46.trans (xσ47.trans (xσ48.trans xσ51))))))))))))) (by decide)).1) kp203
          have kp218 : Kpt (gI σ52 o 9 = gI τ89 o 9) := Eq.trans (show gI σ52 o 9 = gI σ51 o 9 from (cσ52.O (ko.up (xσ27.trans (xσ29.trans (xσ30.trans (xσ33.trans (xσ41.trans (xσ42.trans (xσ43.trans (xσ44.trans (xτ89.trans (xσ46.trans (xσ47.trans (xσ48.trans xσ51))))))))))))) (by decide)).1) kp204
          have r5σ52 := I_6_5 iσ52.1 (kth.up (xσ27.trans (xσ29.trans (xσ30.trans (xσ33.trans (xσ41.trans (xσ42.trans (xσ43.trans (xσ44.trans (xτ89.trans (xσ46.trans (xσ47.trans (xσ48.trans (xσ51.trans xσ52))))))))))))))
          have ho219 : gI σ52 J 7 = gI σ J 7 := kp210
          have ho220 : gI σ52 J 1 = gI σ J 1 := kp211
          have ho221 : gI σ52 J 2 = gI σ J 2 := kp212
          have ho222 : gI σ52 o 3 = gI τ89 o 3 := kp213
          have ho223 : gI σ52 o 4 = gI σ o 4 := kp214
          have ho224 : gI σ52 o 6 = gI τ89 o 6 := kp215
          have ho225 : gI σ52 o 7 = gI σ o 7 := kp216
          have ho226 : gI σ52 o 8 = gI σ o 8 := kp217
          have ho227 : gI σ52 o 9 = gI τ89 o 9 := kp218
          exact hQ σ52 () iσ52 fσ52 oxcσ52 (⟨by omega, by omega, ⟨by omega, (fun h => absurd h (by omega)), (fun h => absurd h (by omega))⟩⟩)
        · rw [if_neg hc146]
          unfold w_X6_sourceText_94
          have q229 := iτ89.rg th 3; unfold rng at q229
          by_cases hc228 : gI τ89 th 3 ≠ 1
          · rw [if_pos hc228]
            unfold w_X6_sourceText_113
            refine i_X6_wantSign iτ89 (kth.up (xσ27.trans (xσ29.trans (xσ30.trans (xσ33.trans (xσ41.trans (xσ42.trans (xσ43.trans (xσ44.trans xτ89))))))))) (kp129.trans hX0) (kX.up (xσ27.trans (xσ29.trans (xσ30.trans (xσ33.trans (xσ41.trans (xσ42.trans (xσ43.trans (xσ44.trans xτ89))))))))) (((xσ27.trans (xσ29.trans (xσ30.trans (xσ33.trans (xσ41.trans (xσ42.trans (xσ43.trans (xσ44.trans xτ89)))))))) tx kX.1).2.2.trans gX) (by (first | omega | with_reducible assumption | with_reducible exact rng_toInt _ | with_reducible exact rng_wr _ | (unfold rng; omega) | (unfold rng at *; omega) | assumption)) (by (first | omega | with_reducible assumption | with_reducible exact rng_toInt _ | with_reducible exact rng_wr _ | (unfold rng; omega) | (unfold rng at *; omega) | assumption)) (fun σ46_1 _ iσ46_1 cσ46_1 pσ46_1 => ?_) (fun σx LLx Nx nux E ix cx ux px => hX σx LLx Nx nux E ix (fτ89.tr (cx.mo (by decide))) (ux) (by first | exact px | exact ⟨by have := px.1; omega, px.2⟩ | (first | omega | with_reducible assumption | with_reducible exact rng_toInt _ | with_reducible exact rng_wr _ | (unfold rng; omega) | (unfold rng at *; omega) | assumption)))
            intro xσ46_1
            have fσ46_1 : Fx [323, 326, 329, 330, 386, 387, 388, 389, 390, 6464, 8320] gr σ σ46_1 := fτ89.tr (cσ46_1.mo (by decide))
            have oxcσ46_1 : OX o σ σ46_1 := oxcτ89.tr (OX.fx cσ46_1 (by decide) (by decide)) (xσ27.trans (xσ29.trans (xσ30.trans (xσ33.trans (xσ41.trans (xσ42.trans (xσ43.trans (xσ44.trans xτ89))))))))
            have kp230 : gP σ46_1 J 4 = gP τ89 J 4 := (cσ46_1.O (kJ.up (xσ27.trans (xσ29.trans (xσ30.trans (xσ33.trans (xσ41.trans (xσ42.trans (xσ43.trans (xσ44.trans xτ89))))))))) (by decide)).2.1
            have kp231 : gP σ46_1 th 0 = gP τ89 th 0 := (cσ46_1.O (kth.up (xσ27.trans (xσ29.trans (xσ30.trans (xσ33.trans (xσ41.trans (xσ42.trans (xσ43.trans (xσ44.trans xτ89))))))))) (by decide)).2.1
            have kp232 : gP σ46_1 th 7 = gP τ89 th 7 := (cσ46_1.O (kth.up (xσ27.trans (xσ29.trans (xσ30.trans (xσ33.trans (xσ41.trans (xσ42.trans (xσ43.trans (xσ44.trans xτ89))))))))) (by decide)).2.1
            have kp233 : gP σ46_1 th 8 = gP τ89 th 8 := (cσ46_1.O (kth.up (xσ27.trans (xσ29.trans (xσ30.trans (xσ33.trans (xσ41.trans (xσ42.trans (xσ43.trans (xσ44.trans xτ89))))))))) (by decide)).2.1
            have kp234 : Kpt (gI σ46_1 J 7 = gI σ J 7) := Eq.trans (show gI σ46_1 J 7 = gI τ89 J 7 from (cσ46_1.O (kJ.up (xσ27.trans (xσ29.trans (xσ30.trans (xσ33.trans (xσ41.trans (xσ42.trans (xσ43.trans (xσ44.trans xτ89))))))))) (by decide)).1) kp134
            have kp235 : Kpt (gI σ46_1 J 1 = gI σ J 1) := Eq.trans (show gI σ46_1 J 1 = gI τ89 J 1 from (cσ46_1.O (kJ.up (xσ27.trans (xσ29.trans (xσ30.trans (xσ33.trans (xσ41.trans (xσ42.trans (xσ43.trans (xσ44.trans xτ89))))))))) (by decide)).1) kp135
            have kp236 : Kpt (gI σ46_1 J 2 = gI σ J 2) := Eq.trans (show gI σ46_1 J 2 = gI τ89 J 2 from (cσ46_1.O (kJ.up (xσ27.trans (xσ29.trans (xσ30.trans (xσ33.trans (xσ41.trans (xσ42.trans (xσ43.trans (xσ44.trans xτ89))))))))) (by decide)).1) kp136
            have kp237 : Kpt (gI σ46_1 o 3 = gI τ89 o 3) := (cσ46_1.O (ko.up (xσ27.trans (xσ29.trans (xσ30.trans (xσ33.trans (xσ41.trans (xσ42.trans (xσ43.trans (xσ44.trans xτ89))))))))) (by decide)).1
            have kp238 : Kpt (gI σ46_1 o 4 = gI σ o 4) := Eq.trans (show gI σ46_1 o 4 = gI τ89 o 4 from (cσ46_1.O (ko.up (xσ27.trans (xσ29.trans (xσ30.trans (xσ33.trans (xσ41.trans (xσ42.trans (xσ43.trans (xσ44.trans xτ89))))))))) (by decide)).1) kp137
            have kp239 : Kpt (gI σ46_1 o 6 = gI τ89 o 6) := (cσ46_1.O (ko.up (xσ27.trans (xσ29.trans (xσ30.trans (xσ33.trans (xσ41.trans (xσ42.trans (xσ43.trans (xσ44.trans xτ89))))))))) (by decide)).1
            have kp240 : Kpt (gI σ46_1 o 7 = gI σ o 7) := Eq.trans (show gI σ46_1 o 7 = gI τ89 o 7 from (cσ46_1.O (ko.up (xσ27.trans (xσ29.trans (xσ30.trans (xσ33.trans (xσ41.trans (xσ42.trans (xσ43.trans (xσ44.trans xτ89))))))))) (by decide)).1) kp138
            have kp241 : Kpt (gI σ46_1 o 8 = gI σ o 8) := Eq.trans (show gI σ46_1 o 8 = gI τ89 o 8 from (cσ46_1.O (ko.up (xσ27.trans (xσ29.trans (xσ30.trans (xσ33.trans (xσ41.trans (xσ42.trans (xσ43.trans (xσ44.trans xτ89))))))))) (by decide)).1) kp139
            have kp242 : Kpt (gI σ46_1 o 9 = gI τ89 o 9) := (cσ46_1.O (ko.up (xσ27.trans (xσ29.trans (xσ30.trans (xσ33.trans (xσ41.trans (xσ42.trans (xσ43.trans (xσ44.trans xτ89))))))))) (by decide)).1
            have r5σ46_1 := I_6_5 iσ46_1.1 (kth.up (xσ27.trans (xσ29.trans (xσ30.trans (xσ33.trans (xσ41.trans (xσ42.trans (xσ43.trans (xσ44.trans (xτ89.trans xσ46_1))))))))))
            refine i_X6_wantWord iσ46_1 (kth.up (xσ27.trans (xσ29.trans (xσ30.trans (xσ33.trans (xσ41.trans (xσ42.trans (xσ43.trans (xσ44.trans (xτ89.trans xσ46_1)))))))))) (kp231.trans (kp129.trans hX0)) (kX.up (xσ27.trans (xσ29.trans (xσ30.trans (xσ33.trans (xσ41.trans (xσ42.trans (xσ43.trans (xσ44.trans (xτ89.trans xσ46_1)))))))))) (((xσ27.trans (xσ29.trans (xσ30.trans (xσ33.trans (xσ41.trans (xσ42.trans (xσ43.trans (xσ44.trans (xτ89.trans xσ46_1))))))))) tx kX.1).2.2.trans gX) (by (first | omega | with_reducible assumption | with_reducible exact rng_toInt _ | with_reducible exact rng_wr _ | (unfold rng; omega) | (unfold rng at *; omega) | assumption)) (by (first | omega | with_reducible assumption | with_reducible exact rng_toInt _ | with_reducible exact rng_wr _ | (unfold rng; omega) | (unfold rng at *; omega) | assumption)) (fun σ47_1 _ iσ47_1 cσ47_1 pσ47_1 => ?_) (fun σx LLx Nx nux E ix cx ux px => hX σx LLx Nx nux E ix (fσ46_1.tr (cx.mo (by decide))) (ux) (by first | exact px | exact ⟨by have := px.1; omega, px.2⟩ | (first | omega | with_reducible assumption | with_reducible exact rng_toInt _ | with_reducible exact rng_wr _ | (unfold rng; omega) | (unfold rng at *; omega) | assumption)))
            intro xσ47_1
            have fσ47_1 : Fx [323, 326, 329, 330, 386, 387, 388, 389, 390, 6464, 8320] gr σ σ47_1 := fσ46_1.tr (cσ47_1.mo (by decide))
            have oxcσ47_1 : OX o σ σ47_1 := oxcσ46_1.tr (OX.fx cσ47_1 (by decide) (by decide)) (xσ27.trans (xσ29.trans (xσ30.trans (xσ33.trans (xσ41.trans (xσ42.trans (xσ43.trans (xσ44.trans (xτ89.trans xσ46_1)))))))))
            have kp243 : gP σ47_1 J 4 = gP σ46_1 J 4 := (cσ47_1.O (kJ.up (xσ27.trans (xσ29.trans (xσ30.trans (xσ33.trans (xσ41.trans (xσ42.trans (xσ43.trans (xσ44.trans (xτ89.trans xσ46_1)))))))))) (by decide)).2.1
            have kp244 : gP σ47_1 th 0 = gP σ46_1 th 0 := (cσ47_1.O (kth.up (xσ27.trans (xσ29.trans (xσ30.trans (xσ33.trans (xσ41.trans (xσ42.trans (xσ43.trans (xσ44.trans (xτ89.trans xσ46_1)))))))))) (by decide)).2.1
            have kp245 : gP σ47_1 th 7 = gP σ46_1 th 7 := (cσ47_1.O (kth.up (xσ27.trans (xσ29.trans (xσ30.trans (xσ33.trans (xσ41.trans (xσ42.trans (xσ43.trans (xσ44.trans (xτ89.trans xσ46_1)))))))))) (by decide)).2.1
            have kp246 : gP σ47_1 th 8 = gP σ46_1 th 8 := (cσ47_1.O (kth.up (xσ27.trans (xσ29.trans (xσ30.trans (xσ33.trans (xσ41.trans (xσ42.trans (xσ43.trans (xσ44.trans (xτ89.trans xσ46_1)))))))))) (by decide)).2.1
            have kp247 : Kpt (gI σ47_1 J 7 = gI σ J 7) := Eq.trans (show gI σ47_1 J 7 = gI σ46_1 J 7 from (cσ47_1.O (kJ.up (xσ27.trans (xσ29.trans (xσ30.trans (xσ33.trans (xσ41.trans (xσ42.trans (xσ43.trans (xσ44.trans (xτ89.trans xσ46_1)))))))))) (by decide)).1) kp234
            have kp248 : Kpt (gI σ47_1 J 1 = gI σ J 1) := Eq.trans (show gI σ47_1 J 1 = gI σ46_1 J 1 from (cσ47_1.O (kJ.up (xσ27.trans (xσ29.trans (xσ30.trans (xσ33.trans (xσ41.trans (xσ42.trans (xσ43.trans (xσ44.trans (xτ89.trans xσ46_1)))))))))) (by decide)).1) kp235
            have kp249 : Kpt (gI σ47_1 J 2 = gI σ J 2) := Eq.trans (show gI σ47_1 J 2 = gI σ46_1 J 2 from (cσ47_1.O (kJ.up (xσ27.trans (xσ29.trans (xσ30.trans (xσ33.trans (xσ41.trans (xσ42.trans (xσ43.trans (xσ44.trans (xτ89.trans xσ46_1)))))))))) (by decide)).1) kp236
            have kp250 : Kpt (gI σ47_1 o 3 = gI τ89 o 3) := Eq.trans (show gI σ47_1 o 3 = gI σ46_1 o 3 from (cσ47_1.O (ko.up (xσ27.trans (xσ29.trans (xσ30.trans (xσ33.trans (xσ41.trans (xσ42.trans (xσ43.trans (xσ44.trans (xτ89.trans xσ46_1)))))))))) (by decide)).1) kp237
            have kp251 : Kpt (gI σ47_1 o 4 = gI σ o 4) := Eq.trans (show gI σ47_1 o 4 = gI σ46_1 o 4 from (cσ47_1.O (ko.up (xσ27.trans (xσ29.trans (xσ30.trans (xσ33.trans (xσ41.trans (xσ42.trans (xσ43.trans (xσ44.trans (xτ89.trans xσ46_1)))))))))) (by decide)).1) kp238
            have kp252 : Kpt (gI σ47_1 o 6 = gI τ89 o 6) := Eq.trans (show gI σ47_1 o 6 = gI σ46_1 o 6 from (cσ47_1.O (ko.up (xσ27.trans (xσ29.trans (xσ30.trans (xσ33.trans (xσ41.trans (xσ42.trans (xσ43.trans (xσ44.trans (xτ89.trans xσ46_1)))))))))) (by decide)).1) kp239
            have kp253 : Kpt (gI σ47_1 o 7 = gI σ o 7) := Eq.trans (show gI σ47_1 o 7 = gI σ46_1 o 7 from (cσ47_1.O (ko.up (xσ27.trans (xσ29.trans (xσ30.trans (xσ33.trans (xσ41.trans (xσ42.trans (xσ43.trans (xσ44.trans (xτ89.trans xσ46_1)))))))))) (by decide)).1) kp240
            have kp254 : Kpt (gI σ47_1 o 8 = gI σ o 8) := Eq.trans (show gI σ47_1 o 8 = gI σ46_1 o 8 from (cσ47_1.O (ko.up (xσ27.trans (xσ29.trans (xσ30.trans (xσ33.trans (xσ41.trans (xσ42.trans (xσ43.trans (xσ44.trans (xτ89.trans xσ46_1)))))))))) (by decide)).1) kp241
            have kp255 : Kpt (gI σ47_1 o 9 = gI τ89 o 9) := Eq.trans (show gI σ47_1 o 9 = gI σ46_1 o 9 from (cσ47_1.O (ko.up (xσ27.trans (xσ29.trans (xσ30.trans (xσ33.trans (xσ41.trans (xσ42.trans (xσ43.trans (xσ44.trans (xτ89.trans xσ46_1)))))))))) (by decide)).1) kp242
            have r5σ47_1 := I_6_5 iσ47_1.1 (kth.up (xσ27.trans (xσ29.trans (xσ30.trans (xσ33.trans (xσ41.trans (xσ42.trans (xσ43.trans (xσ44.trans (xτ89.trans (xσ46_1.trans xσ47_1)))))))))))
            refine i_X6_number iσ47_1 (kth.up (xσ27.trans (xσ29.trans (xσ30.trans (xσ33.trans (xσ41.trans (xσ42.trans (xσ43.trans (xσ44.trans (xτ89.trans (xσ46_1.trans xσ47_1))))))))))) (by (first | omega | with_reducible assumption | with_reducible exact rng_toInt _ | with_reducible exact rng_wr _ | (unfold rng; omega) | (unfold rng at *; omega) | assumption)) (by (first | omega | with_reducible assumption | with_reducible exact rng_toInt _ | with_reducible exact rng_wr _ | (unfold rng; omega) | (unfold rng at *; omega) | assumption)) (fun σ48_1 r49_1 iσ48_1 cσ48_1 pσ48_1 => ?_) (fun σx LLx Nx nux E ix cx ux px => hX σx LLx Nx nux E ix (fσ47_1.tr (cx.mo (by decide))) (ux) (by first | exact px | exact ⟨by have := px.1; omega, px.2⟩ | (first | omega | with_reducible assumption | with_reducible exact rng_toInt _ | with_reducible exact rng_wr _ | (unfold rng; omega) | (unfold rng at *; omega) | assumption)))
            intro xσ48_1
            have fσ48_1 : Fx [323, 326, 329, 330, 386, 387, 388, 389, 390, 6464, 8320] gr σ σ48_1 := fσ47_1.tr (cσ48_1.mo (by decide))
            have oxcσ48_1 : OX o σ σ48_1 := oxcσ47_1.tr (OX.fx cσ48_1 (by decide) (by decide)) (xσ27.trans (xσ29.trans (xσ30.trans (xσ33.trans (xσ41.trans (xσ42.trans (xσ43.trans (xσ44.trans (xτ89.trans (xσ46_1.trans xσ47_1))))))))))
            have kp256 : gP σ48_1 J 4 = gP σ47_1 J 4 := (cσ48_1.O (kJ.up (xσ27.trans (xσ29.trans (xσ30.trans (xσ33.trans (xσ41.trans (xσ42.trans (xσ43.trans (xσ44.trans (xτ89.trans (xσ46_1.trans xσ47_1))))))))))) (by decide)).2.1
            have kp257 : gP σ48_1 th 0 = gP σ47_1 th 0 := (cσ48_1.O (kth.up (xσ27.trans (xσ29.trans (xσ30.trans (xσ33.trans (xσ41.trans (xσ42.trans (xσ43.trans (xσ44.trans (xτ89.trans (xσ46_1.trans xσ47_1))))))))))) (by decide)).2.1
            have kp258 : gP σ48_1 th 7 = gP σ47_1 th 7 := (cσ48_1.O (kth.up (xσ27.trans (xσ29.trans (xσ30.trans (xσ33.trans (xσ41.trans (xσ42.trans (xσ43.trans (xσ44.trans (xτ89.trans (xσ46_1.trans xσ47_1))))))))))) (by decide)).2.1
            have kp259 : gP σ48_1 th 8 = gP σ47_1 th 8 := (cσ48_1.O (kth.up (xσ27.trans (xσ29.trans (xσ30.trans (xσ33.trans (xσ41.trans (xσ42.trans (xσ43.trans (xσ44.trans (xτ89.trans (xσ46_1.trans xσ47_1))))))))))) (by decide)).2.1
            have kp260 : gI σ48_1 th 2 = gI σ47_1 th 2 := (cσ48_1.O (kth.up (xσ27.trans (xσ29.trans (xσ30.trans (xσ33.trans (xσ41.trans (xσ42.trans (xσ43.trans (xσ44.trans (xτ89.trans (xσ46_1.trans xσ47_1))))))))))) (by decide)).1
            have kp261 : gI σ48_1 th 3 = gI σ47_1 th 3 := (cσ48_1.O (kth.up (xσ27.trans (xσ29.trans (xσ30.trans (xσ33.trans (xσ41.trans (xσ42.trans (xσ43.trans (xσ44.trans (xτ89.trans (xσ46_1.trans xσ47_1))))))))))) (by decide)).1
            have kp262 : gI σ48_1 th 5 = gI σ47_1 th 5 := (cσ48_1.O (kth.up (xσ27.trans (xσ29.trans (xσ30.trans (xσ33.trans (xσ41.trans (xσ42.trans (xσ43.trans (xσ44.trans (xτ89.trans (xσ46_1.trans xσ47_1))))))))))) (by decide)).1
            have kp263 : Kpt (gI σ48_1 J 7 = gI σ J 7) := Eq.trans (show gI σ48_1 J 7 = gI σ47_1 J 7 from (cσ48_1.O (kJ.up (xσ27.trans (xσ29.trans (xσ30.trans (xσ33.trans (xσ41.trans (xσ42.trans (xσ43.trans (xσ44.trans (xτ89.trans (xσ46_1.trans xσ47_1))))))))))) (by decide)).1) kp247
            have kp264 : Kpt (gI σ48_1 J 1 = gI σ J 1) := Eq.trans (show gI σ48_1 J 1 = gI σ47_1 J 1 from (cσ48_1.O (kJ.up (xσ27.trans (xσ29.trans (xσ30.trans (xσ33.trans (xσ41.trans (xσ42.trans (xσ43.trans (xσ44.trans (xτ89.trans (xσ46_1.trans xσ47_1))))))))))) (by decide)).1) kp248
            have kp265 : Kpt (gI σ48_1 J 2 = gI σ J 2) := Eq.trans (show gI σ48_1 J 2 = gI σ47_1 J 2 from (cσ48_1.O (kJ.up (xσ27.trans (xσ29.trans (xσ30.trans (xσ33.trans (xσ41.trans (xσ42.trans (xσ43.trans (xσ44.trans (xτ89.trans (xσ46_1.trans xσ47_1))))))))))) (by decide)).1) kp249
            have kp266 : Kpt (gI σ48_1 o 3 = gI τ89 o 3) := Eq.trans (show gI σ48_1 o 3 = gI σ47_1 o 3 from (cσ48_1.O (ko.up (xσ27.trans (xσ29.trans (xσ30.trans (xσ33.trans (xσ41.trans (xσ42.trans (xσ43.trans (xσ44.trans (xτ89.trans (xσ46_1.trans xσ47_1))))))))))) (by decide)).1) kp250
            have kp267 : Kpt (gI σ48_1 o 4 = gI σ o 4) := Eq.trans (show gI σ48_1 o 4 = gI σ47_1 o 4 from (cσ48_1.O (ko.up (xσ27.trans (xσ29.trans (xσ30.trans (xσ33.trans (xσ41.trans (xσ42.trans (xσ43.trans (xσ44.trans (xτ89.trans (xσ46_1.trans xσ47_1))))))))))) (by decide)).1) kp251
            have kp268 : Kpt (gI σ48_1 o 6 = gI τ89 o 6) := Eq.trans (show gI σ48_1 o 6 = gI σ47_1 o 6 from (cσ48_1.O (ko.up (xσ27.trans (xσ29.trans (xσ30.trans (xσ33.trans (xσ41.trans (xσ42.trans (xσ43.trans (xσ44.trans (xτ89.trans (xσ46_1.trans xσ47_1))))))))))) (by decide)).1) kp252
            have kp269 : Kpt (gI σ48_1 o 7 = gI σ o 7) := Eq.trans (show gI σ48_1 o 7 = gI σ47_1 o 7 from (cσ48_1.O (ko.up (xσ27.trans (xσ29.trans (xσ30.trans (xσ33.trans (xσ41.trans (xσ42.trans (xσ43.trans (xσ44.trans (xτ89.trans (xσ46_1.trans xσ47_1))))))))))) (by decide)).1) kp253
            have kp270 : Kpt (gI σ48_1 o 8 = gI σ o 8) := Eq.trans (show gI σ48_1 o 8 = gI σ47_1 o 8 from (cσ48_1.O (ko.up (xσ27.trans (xσ29.trans (xσ30.trans (xσ33.trans (xσ41.trans (xσ42.trans (xσ43.trans (xσ44.trans (xτ89.trans (xσ46_1.trans xσ47_1))))))))))) (by decide)).1) kp254
            have kp271 : Kpt (gI σ48_1 o 9 = gI τ89 o 9) := Eq.trans (show gI σ48_1 o 9 = gI σ47_1 o 9 from (cσ48_1.O (ko.up (xσ27.trans (xσ29.trans (xσ30.trans (xσ33.trans (xσ41.trans (xσ42.trans (xσ43.trans (xσ44.trans (xτ89.trans (xσ46_1.trans xσ47_1))))))))))) (by decide)).1) kp255
            refine ⟨o, (kp246.trans (kp233.trans (kp131.trans h8))), fun kk_o_5 => ?_⟩
            intro σ51_1 eσ51_1
            have xσ51_1 : Ext σ48_1 σ51_1 := by rw [eσ51_1]; exact fun _ h => ⟨h, rfl, rfl⟩
            have iσ51_1 : IV σ51_1 pl gq ci gr nc ot LL N nu := by rw [eσ51_1]; exact iσ48_1.wSp (ko.up (xσ27.trans (xσ29.trans (xσ30.trans (xσ33.trans (xσ41.trans (xσ42.trans (xσ43.trans (xσ44.trans (xτ89.trans (xσ46_1.trans (xσ47_1.trans xσ48_1)))))))))))) (fun i hi => by omega) (by decide) (show (0 : Int) ≤ r49_1 ∧ r49_1 ≤ 1000 from ⟨by omega, by omega⟩)
            have fσ51_1 : Fx [323, 326, 329, 330, 386, 387, 388, 389, 390, 6464, 8320] gr σ σ51_1 := fσ48_1.tr (Sk.fx (by rw [eσ51_1]; exact Sk.pI (by rw [fcdO (ko.up (xσ27.trans (xσ29.trans (xσ30.trans (xσ33.trans (xσ41.trans (xσ42.trans (xσ43.trans (xσ44.trans (xτ89.trans (xσ46_1.trans (xσ47_1.trans xσ48_1)))))))))))) (by decide)]; decide)))
            have oxcσ51_1 : OX o σ σ51_1 := oxcσ48_1.tr (by rw [eσ51_1]; exact OX.pI (ko.up (xσ27.trans (xσ29.trans (xσ30.trans (xσ33.trans (xσ41.trans (xσ42.trans (xσ43.trans (xσ44.trans (xτ89.trans (xσ46_1.trans (xσ47_1.trans xσ48_1)))))))))))) (Or.inr rfl)) (xσ27.trans (xσ29.trans (xσ30.trans (xσ33.trans (xσ41.trans (xσ42.trans (xσ43.trans (xσ44.trans (xτ89.trans (xσ46_1.trans (xσ47_1.trans xσ48_1)))))))))))
            have wσ51_1 : gI σ51_1 o 10 = r49_1 := by rw [eσ51_1]; exact up2_s _ _ _ _
            have kp272 : gP σ51_1 J 4 = gP σ48_1 J 4 := by rw [eσ51_1]
            have kp273 : gP σ51_1 th 0 = gP σ48_1 th 0 := by rw [eσ51_1]
            have kp274 : gP σ51_1 th 7 = gP σ48_1 th 7 := by rw [eσ51_1]
            have kp275 : gP σ51_1 th 8 = gP σ48_1 th 8 := by rw [eσ51_1]
            have kp276 : gI σ51_1 th 2 = gI σ48_1 th 2 := by rw [eσ51_1]; exact up2_n _ _ (fun q => absurd q.2 (by decide))
            have kp277 : gI σ51_1 th 3 = gI σ48_1 th 3 := by rw [eσ51_1]; exact up2_n _ _ (fun q => absurd q.2 (by decide))
            have kp278 : gI σ51_1 th 5 = gI σ48_1 th 5 := by rw [eσ51_1]; exact up2_n _ _ (fun q => absurd q.2 (by decide))
            have kp279 : Kpt (gI σ51_1 J 7 = gI σ J 7) := Eq.trans (show gI σ51_1 J 7 = gI σ48_1 J 7 from by rw [eσ51_1]; exact up2_n _ _ (fun q => absurd q.2 (by decide))) kp263
            have kp280 : Kpt (gI σ51_1 J 1 = gI σ J 1) := Eq.trans (show gI σ51_1 J 1 = gI σ48_1 J 1 from by rw [eσ51_1]; exact up2_n _ _ (fun q => absurd q.2 (by decide))) kp264
            have kp281 : Kpt (gI σ51_1 J 2 = gI σ J 2) := Eq.trans (show gI σ51_1 J 2 = gI σ48_1 J 2 from by rw [eσ51_1]; exact up2_n _ _ (fun q => absurd q.2 (by decide))) kp265
            have kp282 : Kpt (gI σ51_1 o 3 = gI τ89 o 3) := Eq.trans (show gI σ51_1 o 3 = gI σ48_1 o 3 from by rw [eσ51_1]; exact up2_n _ _ (fun q => absurd q.2 (by decide))) kp266
            have kp283 : Kpt (gI σ51_1 o 4 = gI σ o 4) := Eq.trans (show gI σ51_1 o 4 = gI σ48_1 o 4 from by rw [eσ51_1]; exact up2_n _ _ (fun q => absurd q.2 (by decide))) kp267
            have kp284 : Kpt (gI σ51_1 o 6 = gI τ89 o 6) := Eq.trans (show gI σ51_1 o 6 = gI σ48_1 o 6 from by rw [eσ51_1]; exact up2_n _ _ (fun q => absurd q.2 (by decide))) kp268
            have kp285 : Kpt (gI σ51_1 o 7 = gI σ o 7) := Eq.trans (show gI σ51_1 o 7 = gI σ48_1 o 7 from by rw [eσ51_1]; exact up2_n _ _ (fun q => absurd q.2 (by decide))) kp269
            have kp286 : Kpt (gI σ51_1 o 8 = gI σ o 8) := Eq.trans (show gI σ51_1 o 8 = gI σ48_1 o 8 from by rw [eσ51_1]; exact up2_n _ _ (fun q => absurd q.2 (by decide))) kp270
            have kp287 : Kpt (gI σ51_1 o 9 = gI τ89 o 9) := Eq.trans (show gI σ51_1 o 9 = gI σ48_1 o 9 from by rw [eσ51_1]; exact up2_n _ _ (fun q => absurd q.2 (by decide))) kp271
            refine i_X6_next iσ51_1 (kth.up (xσ27.trans (xσ29.trans (xσ30.trans (xσ33.trans (xσ41.trans (xσ42.trans (xσ43.trans (xσ44.trans (xτ89.trans (xσ46_1.trans (xσ47_1.trans (xσ48_1.trans xσ51_1))))))))))))) (kp273.trans (kp257.trans (kp244.trans (kp231.trans (kp129.trans hX0))))) (kX.up (xσ27.trans (xσ29.trans (xσ30.trans (xσ33.trans (xσ41.trans (xσ42.trans (xσ43.trans (xσ44.trans (xτ89.trans (xσ46_1.trans (xσ47_1.trans (xσ48_1.trans xσ51_1))))))))))))) (((xσ27.trans (xσ29.trans (xσ30.trans (xσ33.trans (xσ41.trans (xσ42.trans (xσ43.trans (xσ44.trans (xτ89.trans (xσ46_1.trans (xσ47_1.trans (xσ48_1.trans xσ51_1)))))))))))) tx kX.1).2.2.trans gX) (by (first | omega | with_reducible assumption | with_reducible exact rng_toInt _ | with_reducible exact rng_wr _ | (unfold rng; omega) | (unfold rng at *; omega) | assumption)) (by (first | omega | with_reducible assumption | with_reducible exact rng_toInt _ | with_reducible exact rng_wr _ | (unfold rng; omega) | (unfold rng at *; omega) | assumption)) (fun σ52_1 _ iσ52_1 cσ52_1 pσ52_1 => ?_) (fun σx LLx Nx nux E ix cx ux px => hX σx LLx Nx nux E ix (fσ51_1.tr (cx.mo (by decide))) (ux) (by first | exact px | exact ⟨by have := px.1; omega, px.2⟩ | (first | omega | with_reducible assumption | with_reducible exact rng_toInt _ | with_reducible exact rng_wr _ | (unfold rng; omega) | (unfold rng at *; omega) | assumption)))
            intro xσ52_1
            have fσ52_1 : Fx [323, 326, 329, 330, 386, 387, 388, 389, 390, 6464, 8320] gr σ σ52_1 := fσ51_1.tr (cσ52_1.mo (by decide))
            have oxcσ52_1 : OX o σ σ52_1 := oxcσ51_1.tr (OX.fx cσ52_1 (by decide) (by decide)) (xσ27.trans (xσ29.trans (xσ30.trans (xσ33.trans (xσ41.trans (xσ42.trans (xσ43.trans (xσ44.trans (xτ89.trans (xσ46_1.trans (xσ47_1.trans (xσ48_1.trans xσ51_1))))))))))))
            have kp288 : gI σ52_1 o 10 = gI σ51_1 o 10 := (cσ52_1.O (ko.up (xσ27.trans (xσ29.trans (xσ30.trans (xσ33.trans (xσ41.trans (xσ42.trans (xσ43.trans (xσ44.trans (xτ89.trans (xσ46_1.trans (xσ47_1.trans (xσ48_1.trans xσ51_1))))))))))))) (by decide)).1
            have kp289 : gP σ52_1 J 4 = gP σ51_1 J 4 := (cσ52_1.O (kJ.up (xσ27.trans (xσ29.trans (xσ30.trans (xσ33.trans (xσ41.trans (xσ42.trans (xσ43.trans (xσ44.trans (xτ89.trans (xσ46_1.trans (xσ47_1.trans (xσ48_1.trans xσ51_1))))))))))))) (by decide)).2.1
            have kp290 : gP σ52_1 th 0 = gP σ51_1 th 0 := (cσ52_1.O (kth.up (xσ27.trans (xσ29.trans (xσ30.trans (xσ33.trans (xσ41.trans (xσ42.trans (xσ43.trans (xσ44.trans (xτ89.trans (xσ46_1.trans (xσ47_1.trans (xσ48_1.trans xσ51_1))))))))))))) (by decide)).2.1
            have kp291 : gP σ52_1 th 7 = gP σ51_1 th 7 := (cσ52_1.O (kth.up (xσ27.trans (xσ29.trans (xσ30.trans (xσ33.trans (xσ41.trans (xσ42.trans (xσ43.trans (xσ44.trans (xτ89.trans (xσ46_1.trans (xσ47_1.trans (xσ48_1.trans xσ51_1))))))))))))) (by decide)).2.1
            have kp292 : gP σ52_1 th 8 = gP σ51_1 th 8 := (cσ52_1.O (kth.up (xσ27.trans (xσ29.trans (xσ30.trans (xσ33.trans (xσ41.trans (xσ42.trans (xσ43.trans (xσ44.trans (xτ89.trans (xσ46_1.trans (xσ47_1.trans (xσ48_1.trans xσ51_1))))))))))))) (by decide)).2.1
            have kp293 : Kpt (gI σ52_1 J 7 = gI σ J 7) := Eq.trans (show gI σ52_1 J 7 = gI σ51_1 J 7 from (cσ52_1.O (kJ.up (xσ27.trans (xσ29.trans (xσ30.trans (xσ33.trans (xσ41.trans (xσ42.trans (xσ43.trans (xσ44.trans (xτ89.trans (xσ46_1.trans (xσ47_1.trans (xσ48_1.trans xσ51_1))))))))))))) (by decide)).1) kp279
            have kp294 : Kpt (gI σ52_1 J 1 = gI σ J 1) := Eq.trans (show gI σ52_1 J 1 = gI σ51_1 J 1 from (cσ52_1.O (kJ.up (xσ27.trans (xσ29.trans (xσ30.trans (xσ33.trans (xσ41.trans (xσ42.trans (xσ43.trans (xσ44.trans (xτ89.trans (xσ46_1.trans (xσ47_1.trans (xσ48_1.trans xσ51_1))))))))))))) (by decide)).1) kp280
            have kp295 : Kpt (gI σ52_1 J 2 = gI σ J 2) := Eq.trans (show gI σ52_1 J 2 = gI σ51_1 J 2 from (cσ52_1.O (kJ.up (xσ27.trans (xσ29.trans (xσ30.trans (xσ33.trans (xσ41.trans (xσ42.trans (xσ43.trans (xσ44.trans (xτ89.trans (xσ46_1.trans (xσ47_1.trans (xσ48_1.trans xσ51_1))))))))))))) (by decide)).1) kp281
            have kp296 : Kpt (gI σ52_1 o 3 = gI τ89 o 3) := Eq.trans (show gI σ52_1 o 3 = gI σ51_1 o 3 from (cσ52_1.O (ko.up (xσ27.trans (xσ29.trans (xσ30.trans (xσ33.trans (xσ41.trans (xσ42.trans (xσ43.trans (xσ44.trans (xτ89.trans (xσ46_1.trans (xσ47_1.trans (xσ48_1.trans xσ51_1))))))))))))) (by decide)).1) kp282
            have kp297 : Kpt (gI σ52_1 o 4 = gI σ o 4) := Eq.trans (show gI σ52_1 o 4 = gI σ51_1 o 4 from (cσ52_1.O (ko.up (xσ27.trans (xσ29.trans (xσ30.trans (xσ33.trans (xσ41.trans (xσ42.trans (xσ43.trans (xσ44.trans (xτ89.trans (xσ46_1.trans (xσ47_1.trans (xσ48_1.trans xσ51_1))))))))))))) (by decide)).1) kp283
            have kp298 : Kpt (gI σ52_1 o 6 = gI τ89 o 6) := Eq.trans (show gI σ52_1 o 6 = gI σ51_1 o 6 from (cσ52_1.O (ko.up (xσ27.trans (xσ29.trans (xσ30.trans (xσ33.trans (xσ41.trans (xσ42.trans (xσ43.trans (xσ44.trans (xτ89.trans (xσ46_1.trans (xσ47_1.trans (xσ48_1.trans xσ51_1))))))))))))) (by decide)).1) kp284
            have kp299 : Kpt (gI σ52_1 o 7 = gI σ o 7) := Eq.trans (show gI σ52_1 o 7 = gI σ51_1 o 7 from (cσ52_1.O (ko.up (xσ27.trans (xσ29.trans (xσ30.trans (xσ33.trans (xσ41.trans (xσ42.trans (xσ43.trans (xσ44.trans (xτ89.trans (xσ46_1.trans (xσ47_1.trans (xσ48_1.trans xσ51_1))))))))))))) (by decide)).1) kp285
            have kp300 : Kpt (gI σ52_1 o 8 = gI σ o 8) := Eq.trans (show gI σ52_1 o 8 = gI σ51_1 o 8 from (cσ52_1.O (ko.up (xσ27.trans (xσ29.trans (xσ30.trans (xσ33.trans (xσ41.trans (xσ42.trans (xσ43.trans (xσ44.trans (xτ89.trans (xσ46_1.trans (xσ47_1.trans (xσ48_1.trans xσ51_1))))))))))))) (by decide)).1) kp286
            have kp301 : Kpt (gI σ52_1 o 9 = gI τ89 o 9) := Eq.trans (show gI σ52_1 o 9 = gI σ51_1 o 9 from (cσ52_1.O (ko.up (xσ27.trans (xσ29.trans (xσ30.trans (xσ33.trans (xσ41.trans (xσ42.trans (xσ43.trans (xσ44.trans (xτ89.trans (xσ46_1.trans (xσ47_1.trans (xσ48_1.trans xσ51_1))))))))))))) (by decide)).1) kp287
            have r5σ52_1 := I_6_5 iσ52_1.1 (kth.up (xσ27.trans (xσ29.trans (xσ30.trans (xσ33.trans (xσ41.trans (xσ42.trans (xσ43.trans (xσ44.trans (xτ89.trans (xσ46_1.trans (xσ47_1.trans (xσ48_1.trans (xσ51_1.trans xσ52_1))))))))))))))
            have ho302 : gI σ52_1 J 7 = gI σ J 7 := kp293
            have ho303 : gI σ52_1 J 1 = gI σ J 1 := kp294
            have ho304 : gI σ52_1 J 2 = gI σ J 2 := kp295
            have ho305 : gI σ52_1 o 3 = gI τ89 o 3 := kp296
            have ho306 : gI σ52_1 o 4 = gI σ o 4 := kp297
            have ho307 : gI σ52_1 o 6 = gI τ89 o 6 := kp298
            have ho308 : gI σ52_1 o 7 = gI σ o 7 := kp299
            have ho309 : gI σ52_1 o 8 = gI σ o 8 := kp300
            have ho310 : gI σ52_1 o 9 = gI τ89 o 9 := kp301
            exact hQ σ52_1 () iσ52_1 fσ52_1 oxcσ52_1 (⟨by omega, by omega, ⟨by omega, (fun h => absurd h (by omega)), (fun h => absurd h (by omega))⟩⟩)
          · rw [if_neg hc228]
            have hc228q := Classical.not_not.mp hc228
            unfold w_X6_sourceText_102
            refine i_X6_newColumn iτ89 (kth.up (xσ27.trans (xσ29.trans (xσ30.trans (xσ33.trans (xσ41.trans (xσ42.trans (xσ43.trans (xσ44.trans xτ89))))))))) (kp129.trans hX0) (kX.up (xσ27.trans (xσ29.trans (xσ30.trans (xσ33.trans (xσ41.trans (xσ42.trans (xσ43.trans (xσ44.trans xτ89))))))))) (((xσ27.trans (xσ29.trans (xσ30.trans (xσ33.trans (xσ41.trans (xσ42.trans (xσ43.trans (xσ44.trans xτ89)))))))) tx kX.1).2.2.trans gX) (kp131.trans h8) (ko.up (xσ27.trans (xσ29.trans (xσ30.trans (xσ33.trans (xσ41.trans (xσ42.trans (xσ43.trans (xσ44.trans xτ89))))))))) (by (first | omega | with_reducible assumption | with_reducible exact rng_toInt _ | with_reducible exact rng_wr _ | (unfold rng; omega) | (unfold rng at *; omega) | assumption)) (by (first | omega | with_reducible assumption | with_reducible exact rng_toInt _ | with_reducible exact rng_wr _ | (unfold rng; omega) | (unfold rng at *; omega) | assumption)) (by (first | omega | with_reducible assumption | with_reducible exact rng_toInt _ | with_reducible exact rng_wr _ | (unfold rng; omega) | (unfold rng at *; omega) | assumption)) (by (first | omega | with_reducible assumption | with_reducible exact rng_toInt _ | with_reducible exact rng_wr _ | (unfold rng; omega) | (unfold rng at *; omega) | assumption)) (by (first | omega | with_reducible assumption | with_reducible exact rng_toInt _ | with_reducible exact rng_wr _ | (unfold rng; omega) | (unfold rng at *; omega) | assumption)) (fun σ45 _ iσ45 cσ45 oxσ45 pσ45 => ?_) (fun σx LLx Nx nux E ix cx ux px => hX σx LLx Nx nux E ix (fτ89.tr (cx.mo (by decide))) (ux) (by first | exact px | exact ⟨by have := px.1; omega, px.2⟩ | (first | omega | with_reducible assumption | with_reducible exact rng_toInt _ | with_reducible exact rng_wr _ | (unfold rng; omega) | (unfold rng at *; omega) | assumption)))
            intro xσ45
            have fσ45 : Fx [323, 326, 329, 330, 386, 387, 388, 389, 390, 6464, 8320] gr σ σ45 := fτ89.tr (cσ45.mo (by decide))
            have oxcσ45 : OX o σ σ45 := oxcτ89.tr oxσ45 (xσ27.trans (xσ29.trans (xσ30.trans (xσ33.trans (xσ41.trans (xσ42.trans (xσ43.trans (xσ44.trans xτ89))))))))
            have kp311 : gP σ45 J 4 = gP τ89 J 4 := (cσ45.O (kJ.up (xσ27.trans (xσ29.trans (xσ30.trans (xσ33.trans (xσ41.trans (xσ42.trans (xσ43.trans (xσ44.trans xτ89))))))))) (by decide)).2.1
            have kp312 : gP σ45 th 0 = gP τ89 th 0 := (cσ45.O (kth.up (xσ27.trans (xσ29.trans (xσ30.trans (xσ33.trans (xσ41.trans (xσ42.trans (xσ43.trans (xσ44.trans xτ89))))))))) (by decide)).2.1
            have kp313 : gP σ45 th 7 = gP τ89 th 7 := (cσ45.O (kth.up (xσ27.trans (xσ29.trans (xσ30.trans (xσ33.trans (xσ41.trans (xσ42.trans (xσ43.trans (xσ44.trans xτ89))))))))) (by decide)).2.1
            have kp314 : gP σ45 th 8 = gP τ89 th 8 := (cσ45.O (kth.up (xσ27.trans (xσ29.trans (xσ30.trans (xσ33.trans (xσ41.trans (xσ42.trans (xσ43.trans (xσ44.trans xτ89))))))))) (by decide)).2.1
            have kp315 : Kpt (gI σ45 J 7 = gI σ J 7) := Eq.trans (show gI σ45 J 7 = gI τ89 J 7 from (cσ45.O (kJ.up (xσ27.trans (xσ29.trans (xσ30.trans (xσ33.trans (xσ41.trans (xσ42.trans (xσ43.trans (xσ44.trans xτ89))))))))) (by decide)).1) kp134
            have kp316 : Kpt (gI σ45 J 1 = gI σ J 1) := Eq.trans (show gI σ45 J 1 = gI τ89 J 1 from (cσ45.O (kJ.up (xσ27.trans (xσ29.trans (xσ30.trans (xσ33.trans (xσ41.trans (xσ42.trans (xσ43.trans (xσ44.trans xτ89))))))))) (by decide)).1) kp135
            have kp317 : Kpt (gI σ45 J 2 = gI σ J 2) := Eq.trans (show gI σ45 J 2 = gI τ89 J 2 from (cσ45.O (kJ.up (xσ27.trans (xσ29.trans (xσ30.trans (xσ33.trans (xσ41.trans (xσ42.trans (xσ43.trans (xσ44.trans xτ89))))))))) (by decide)).1) kp136
            have kp318 : Kpt (gI σ45 o 4 = gI σ o 4) := Eq.trans (show gI σ45 o 4 = gI τ89 o 4 from (cσ45.O (ko.up (xσ27.trans (xσ29.trans (xσ30.trans (xσ33.trans (xσ41.trans (xσ42.trans (xσ43.trans (xσ44.trans xτ89))))))))) (by decide)).1) kp137
            have kp319 : Kpt (gI σ45 o 6 = gI τ89 o 6) := (cσ45.O (ko.up (xσ27.trans (xσ29.trans (xσ30.trans (xσ33.trans (xσ41.trans (xσ42.trans (xσ43.trans (xσ44.trans xτ89))))))))) (by decide)).1
            have kp320 : Kpt (gI σ45 o 7 = gI σ o 7) := Eq.trans (show gI σ45 o 7 = gI τ89 o 7 from (cσ45.O (ko.up (xσ27.trans (xσ29.trans (xσ30.trans (xσ33.trans (xσ41.trans (xσ42.trans (xσ43.trans (xσ44.trans xτ89))))))))) (by decide)).1) kp138
            have kp321 : Kpt (gI σ45 o 8 = gI σ o 8) := Eq.trans (show gI σ45 o 8 = gI τ89 o 8 from (cσ45.O (ko.up (xσ27.trans (xσ29.trans (xσ30.trans (xσ33.trans (xσ41.trans (xσ42.trans (xσ43.trans (xσ44.trans xτ89))))))))) (by decide)).1) kp139
            have kp322 : Kpt (gI σ45 o 9 = gI τ89 o 9) := (cσ45.O (ko.up (xσ27.trans (xσ29.trans (xσ30.trans (xσ33.trans (xσ41.trans (xσ42.trans (xσ43.trans (xσ44.trans xτ89))))))))) (by decide)).1
            have r5σ45 := I_6_5 iσ45.1 (kth.up (xσ27.trans (xσ29.trans (xσ30.trans (xσ33.trans (xσ41.trans (xσ42.trans (xσ43.trans (xσ44.trans (xτ89.trans xσ45))))))))))
            refine ⟨by (first | omega | with_reducible assumption | with_reducible exact rng_toInt _ | with_reducible exact rng_wr _ | (unfold rng; omega) | (unfold rng at *; omega) | assumption), ?_⟩
            have ho323 : gI σ45 J 7 = gI σ J 7 := kp315
            have ho324 : gI σ45 J 1 = gI σ J 1 := kp316
            have ho325 : gI σ45 J 2 = gI σ J 2 := kp317
            have ho326 : gI σ45 o 4 = gI σ o 4 := kp318
            have ho327 : gI σ45 o 6 = gI τ89 o 6 := kp319
            have ho328 : gI σ45 o 7 = gI σ o 7 := kp320
            have ho329 : gI σ45 o 8 = gI σ o 8 := kp321
            have ho330 : gI σ45 o 9 = gI τ89 o 9 := kp322
            exact ih89 σ45 (v1 + 1) iσ45 fσ45 (xτ89.trans xσ45) oxcσ45 (by (first | omega | with_reducible assumption | with_reducible exact rng_toInt _ | with_reducible exact rng_wr _ | (unfold rng; omega) | (unfold rng at *; omega) | assumption)) (by (first | omega | with_reducible assumption | with_reducible exact rng_toInt _ | with_reducible exact rng_wr _ | (unfold rng; omega) | (unfold rng at *; omega) | assumption))
    have ho331 : gI σ44 J 7 = gI σ J 7 := kp116
    have ho332 : gI σ44 J 1 = gI σ J 1 := kp117
    have ho333 : gI σ44 J 2 = gI σ J 2 := kp118
    have ho334 : gI σ44 o 4 = gI σ o 4 := kp119
    have ho335 : gI σ44 o 6 = gI σ29 o 6 := kp120
    have ho336 : gI σ44 o 7 = gI σ o 7 := kp121
    have ho337 : gI σ44 o 8 = gI σ o 8 := kp122
    have ho338 : gI σ44 o 9 = gI σ33 o 9 := kp123
    exact ⟨_, Lp89 _ σ44 _ iσ44 fσ44 (Ext.rfl' _) oxcσ44 (by (first | omega | with_reducible assumption | with_reducible exact rng_toInt _ | with_reducible exact rng_wr _ | (unfold rng; omega) | (unfold rng at *; omega) | assumption)) (Nat.lt_succ_self _)⟩
  · rw [if_neg hc65]
    unfold w_X6_sourceText_44
    refine i_X6_refuse iσ33 (kth.up (xσ27.trans (xσ29.trans (xσ30.trans xσ33)))) (by (first | omega | with_reducible assumption | with_reducible exact rng_toInt _ | with_reducible exact rng_wr _ | (unfold rng; omega) | (unfold rng at *; omega) | assumption)) (by (first | omega | with_reducible assumption | with_reducible exact rng_toInt _ | with_reducible exact rng_wr _ | (unfold rng; omega) | (unfold rng at *; omega) | assumption)) (by (first | omega | with_reducible assumption | with_reducible exact rng_toInt _ | with_reducible exact rng_wr _ | (unfold rng; omega) | (unfold rng at *; omega) | assumption)) (fun σ37 _ iσ37 cσ37 pσ37 => ?_) (fun σx LLx Nx nux E ix cx ux px => hX σx LLx Nx nux E ix (fσ33.tr (cx.mo (by decide))) (ux) (by first | exact px | exact ⟨by have := px.1; omega, px.2⟩ | (first | omega | with_reducible assumption | with_reducible exact rng_toInt _ | with_reducible exact rng_wr _ | (unfold rng; omega) | (unfold rng at *; omega) | assumption)))
    intro xσ37
    exact pσ37.elim
set_option maxHeartbeats 1000000 in
theorem i_X6_filterText {σ : Sg} {pl : Nat} {gq ci gr nc : Nat → Nat} {ot : Nat → Nat → Int} {LL : Nat → List Nat} {N nu : Nat → Nat} {th : Nat} {tx J o q c : Nat} (iσ : IV σ pl gq ci gr nc ot LL N nu) (kth : kO σ th 6) (hX0 : gP σ th 0 = some tx) (kX : kO σ tx 102) (gX : gn σ tx = 1500) (h7 : gP σ th 7 = some J) (kJ : kO σ J 4) (h8 : gP σ th 8 = some o) (ko : kO σ o 5) (hJq : gq J = q) (hq : q ≠ nc 0 ∧ q ≤ 1) (go : gq o = 16 * q + c) (hc : c < 16) (cJ : gI σ J 1 = (c : Int)) (tf : gI σ th 5 ≤ gI σ th 2 ∧ (gI σ th 3 ≠ 0 → gI σ th 5 + 1 ≤ gI σ th 2)) (h5 : nu 5 < 24000) (lp : gI σ J 7 ≤ 2 * gI σ th 5) (f0 : gI σ o 3 = 0 ∧ gI σ o 4 = 0 ∧ gI σ o 7 = -1 ∧ gI σ o 8 = -1) {Q : Sg → Unit → Prop} {X : Sg → String → Prop} (hQ : ∀ (σ' : Sg) (nu' : Nat → Nat) (r : Unit), IV σ' pl gq ci gr nc ot LL N nu' → Fx [261, 262, 263, 323, 324, 326, 327, 386, 387, 388, 389, 390, 6464, 8320] gr σ σ' → NC nu nu' → OX o σ σ' → ((gI σ' th 5 ≤ gI σ' th 2 ∧ (gI σ' th 3 ≠ 0 → gI σ' th 5 + 1 ≤ gI σ' th 2)) ∧ gI σ' J 7 ≤ 2 * gI σ' th 5 ∧ OPR σ σ' gq q c o) → Q σ' r) (hX : ∀ (σ' : Sg) (LL' : Nat → List Nat) (N' nu' : Nat → Nat) (E : String), IV σ' pl gq ci gr nc ot LL' N' nu' → Fx [261, 262, 263, 323, 324, 326, 327, 386, 387, 388, 389, 390, 6464, 8320] gr σ σ' → NCX nu nu' → (LL' = LL ∧ N' = N ∧ E = "java/lang/IllegalArgumentException" ∧ gI σ' th 6 ≠ 0) → X σ' E) : wp_X6_filterText th σ Q X := by
  have fσ : Fx [261, 262, 263, 323, 324, 326, 327, 386, 387, 388, 389, 390, 6464, 8320] gr σ σ := Fx.rf
  have oxσ : OX o σ σ := OX.rf
  have q1 := I_4_1 iσ.1 kJ
  have q2 := I_6_5 iσ.1 kth
  have q3 := I_6_2 iσ.1 kth
  have q4 := iσ.rg th 3; unfold rng at q4
  have q5 := I_4_7 iσ.1 kJ
  have q6 := I_5_3 iσ.1 ko
  have q7 := I_5_4 iσ.1 ko
  have q8 := I_5_7 iσ.1 ko
  have q9 := I_5_8 iσ.1 ko
  have ncb := iσ.ncb
  have r70 := I_4_7 iσ.1 kJ
  have r71 := I_4_1 iσ.1 kJ
  unfold wp_X6_filterText
  unfold w_X6_filterText_0
  refine i_X6_next iσ kth hX0 kX (((Ext.rfl' _) tx kX.1).2.2.trans gX) (by (first | omega | with_reducible assumption | with_reducible exact rng_toInt _ | with_reducible exact rng_wr _ | (unfold rng; omega) | (unfold rng at *; omega) | assumption)) (by (first | omega | with_reducible assumption | with_reducible exact rng_toInt _ | with_reducible exact rng_wr _ | (unfold rng; omega) | (unfold rng at *; omega) | assumption)) (fun σ14 _ iσ14 cσ14 pσ14 => ?_) (fun σx LLx Nx nux E ix cx ux px => hX σx LLx Nx nux E ix (fσ.tr (cx.mo (by decide))) (ux) (by first | exact px | exact ⟨by have := px.1; omega, px.2⟩ | (first | omega | with_reducible assumption | with_reducible exact rng_toInt _ | with_reducible exact rng_wr _ | (unfold rng; omega) | (unfold rng at *; omega) | assumption)))
  intro xσ14
  have fσ14 : Fx [261, 262, 263, 323, 324, 326, 327, 386, 387, 388, 389, 390, 6464, 8320] gr σ σ14 := fσ.tr (cσ14.mo (by decide))
  have oxcσ14 : OX o σ σ14 := oxσ.tr (OX.fx cσ14 (by decide) (by decide)) (Ext.rfl' _)
  have kp10 : Kpt (gI σ14 J 1 = gI σ J 1) := (cσ14.O kJ (by decide)).1
  have kp11 : Kpt (gI σ14 J 7 = gI σ J 7) := (cσ14.O kJ (by decide)).1
  have kp12 : Kpt (gI σ14 o 3 = gI σ o 3) := (cσ14.O ko (by decide)).1
  have kp13 : Kpt (gI σ14 o 4 = gI σ o 4) := (cσ14.O ko (by decide)).1
  have kp14 : Kpt (gI σ14 o 7 = gI σ o 7) := (cσ14.O ko (by decide)).1
  have kp15 : Kpt (gI σ14 o 8 = gI σ o 8) := (cσ14.O ko (by decide)).1
  have kp16 : gP σ14 th 0 = gP σ th 0 := (cσ14.O kth (by decide)).2.1
  have kp17 : gP σ14 th 7 = gP σ th 7 := (cσ14.O kth (by decide)).2.1
  have kp18 : gP σ14 th 8 = gP σ th 8 := (cσ14.O kth (by decide)).2.1
  have kp19 : Kpt (gI σ14 J 2 = gI σ J 2) := (cσ14.O kJ (by decide)).1
  have kp20 : Kpt (gI σ14 o 6 = gI σ o 6) := (cσ14.O ko (by decide)).1
  have kp21 : Kpt (gI σ14 o 9 = gI σ o 9) := (cσ14.O ko (by decide)).1
  have r5σ14 := I_6_5 iσ14.1 (kth.up xσ14)
  have ho22 : gI σ14 J 1 = gI σ J 1 := kp10
  refine i_X6_firstInput iσ14 (kth.up xσ14) (kp17.trans h7) (kJ.up xσ14) (kp18.trans h8) (ko.up xσ14) (by (first | omega | with_reducible assumption | with_reducible exact rng_toInt _ | with_reducible exact rng_wr _ | (unfold rng; omega) | (unfold rng at *; omega) | assumption)) (by (first | omega | with_reducible assumption | with_reducible exact rng_toInt _ | with_reducible exact rng_wr _ | (unfold rng; omega) | (unfold rng at *; omega) | assumption)) (by (first | omega | with_reducible assumption | with_reducible exact rng_toInt _ | with_reducible exact rng_wr _ | (unfold rng; omega) | (unfold rng at *; omega) | assumption)) (by (first | omega | with_reducible assumption | with_reducible exact rng_toInt _ | with_reducible exact rng_wr _ | (unfold rng; omega) | (unfold rng at *; omega) | assumption)) (by (first | omega | with_reducible assumption | with_reducible exact rng_toInt _ | with_reducible exact rng_wr _ | (unfold rng; omega) | (unfold rng at *; omega) | assumption)) (by (first | omega | with_reducible assumption | with_reducible exact rng_toInt _ | with_reducible exact rng_wr _ | (unfold rng; omega) | (unfold rng at *; omega) | assumption)) (fun σ15 _ iσ15 cσ15 oxσ15 pσ15 => ?_) (fun σx LLx Nx nux E ix cx ux px => hX σx LLx Nx nux E ix (fσ14.tr (cx.mo (by decide))) (ux) (by first | exact px | exact ⟨by have := px.1; omega, px.2⟩ | (first | omega | with_reducible assumption | with_reducible exact rng_toInt _ | with_reducible exact rng_wr _ | (unfold rng; omega) | (unfold rng at *; omega) | assumption)))
  intro xσ15
  have fσ15 : Fx [261, 262, 263, 323, 324, 326, 327, 386, 387, 388, 389, 390, 6464, 8320] gr σ σ15 := fσ14.tr (cσ15.mo (by decide))
  have oxcσ15 : OX o σ σ15 := oxcσ14.tr oxσ15 (xσ14)
  have kp23 : gP σ15 th 0 = gP σ14 th 0 := (cσ15.O (kth.up xσ14) (by decide)).2.1
  have kp24 : gP σ15 th 7 = gP σ14 th 7 := (cσ15.O (kth.up xσ14) (by decide)).2.1
  have kp25 : gP σ15 th 8 = gP σ14 th 8 := (cσ15.O (kth.up xσ14) (by decide)).2.1
  have kp26 : gI σ15 th 2 = gI σ14 th 2 := (cσ15.O (kth.up xσ14) (by decide)).1
  have kp27 : gI σ15 th 3 = gI σ14 th 3 := (cσ15.O (kth.up xσ14) (by decide)).1
  have kp28 : gI σ15 th 5 = gI σ14 th 5 := (cσ15.O (kth.up xσ14) (by decide)).1
  have kp29 : Kpt (gI σ15 J 7 = gI σ J 7) := Eq.trans (show gI σ15 J 7 = gI σ14 J 7 from (cσ15.O (kJ.up xσ14) (by decide)).1) kp11
  have kp30 : Kpt (gI σ15 J 1 = gI σ J 1) := Eq.trans (show gI σ15 J 1 = gI σ14 J 1 from (cσ15.O (kJ.up xσ14) (by decide)).1) kp10
  have kp31 : Kpt (gI σ15 J 2 = gI σ J 2) := Eq.trans (show gI σ15 J 2 = gI σ14 J 2 from (cσ15.O (kJ.up xσ14) (by decide)).1) kp19
  have kp32 : Kpt (gI σ15 o 3 = gI σ o 3) := Eq.trans (show gI σ15 o 3 = gI σ14 o 3 from (cσ15.O (ko.up xσ14) (by decide)).1) kp12
  have kp33 : Kpt (gI σ15 o 4 = gI σ o 4) := Eq.trans (show gI σ15 o 4 = gI σ14 o 4 from (cσ15.O (ko.up xσ14) (by decide)).1) kp13
  have kp34 : Kpt (gI σ15 o 8 = gI σ o 8) := Eq.trans (show gI σ15 o 8 = gI σ14 o 8 from (cσ15.O (ko.up xσ14) (by decide)).1) kp15
  have kp35 : Kpt (gI σ15 o 9 = gI σ o 9) := Eq.trans (show gI σ15 o 9 = gI σ14 o 9 from (cσ15.O (ko.up xσ14) (by decide)).1) kp21
  refine i_X6_next iσ15 (kth.up (xσ14.trans xσ15)) (kp23.trans (kp16.trans hX0)) (kX.up (xσ14.trans xσ15)) (((xσ14.trans xσ15) tx kX.1).2.2.trans gX) (by (first | omega | with_reducible assumption | with_reducible exact rng_toInt _ | with_reducible exact rng_wr _ | (unfold rng; omega) | (unfold rng at *; omega) | assumption)) (by (first | omega | with_reducible assumption | with_reducible exact rng_toInt _ | with_reducible exact rng_wr _ | (unfold rng; omega) | (unfold rng at *; omega) | assumption)) (fun σ16 _ iσ16 cσ16 pσ16 => ?_) (fun σx LLx Nx nux E ix cx ux px => hX σx LLx Nx nux E ix (fσ15.tr (cx.mo (by decide))) (ux) (by first | exact px | exact ⟨by have := px.1; omega, px.2⟩ | (first | omega | with_reducible assumption | with_reducible exact rng_toInt _ | with_reducible exact rng_wr _ | (unfold rng; omega) | (unfold rng at *; omega) | assumption)))
  intro xσ16
  have fσ16 : Fx [261, 262, 263, 323, 324, 326, 327, 386, 387, 388, 389, 390, 6464, 8320] gr σ σ16 := fσ15.tr (cσ16.mo (by decide))
  have oxcσ16 : OX o σ σ16 := oxcσ15.tr (OX.fx cσ16 (by decide) (by decide)) (xσ14.trans xσ15)
  have kp36 : gP σ16 th 0 = gP σ15 th 0 := (cσ16.O (kth.up (xσ14.trans xσ15)) (by decide)).2.1
  have kp37 : gP σ16 th 7 = gP σ15 th 7 := (cσ16.O (kth.up (xσ14.trans xσ15)) (by decide)).2.1
  have kp38 : gP σ16 th 8 = gP σ15 th 8 := (cσ16.O (kth.up (xσ14.trans xσ15)) (by decide)).2.1
  have kp39 : Kpt (gI σ16 J 7 = gI σ J 7) := Eq.trans (show gI σ16 J 7 = gI σ15 J 7 from (cσ16.O (kJ.up (xσ14.trans xσ15)) (by decide)).1) kp29
  have kp40 : Kpt (gI σ16 J 1 = gI σ J 1) := Eq.trans (show gI σ16 J 1 = gI σ15 J 1 from (cσ16.O (kJ.up (xσ14.trans xσ15)) (by decide)).1) kp30
  have kp41 : Kpt (gI σ16 J 2 = gI σ J 2) := Eq.trans (show gI σ16 J 2 = gI σ15 J 2 from (cσ16.O (kJ.up (xσ14.trans xσ15)) (by decide)).1) kp31
  have kp42 : Kpt (gI σ16 o 3 = gI σ o 3) := Eq.trans (show gI σ16 o 3 = gI σ15 o 3 from (cσ16.O (ko.up (xσ14.trans xσ15)) (by decide)).1) kp32
  have kp43 : Kpt (gI σ16 o 4 = gI σ o 4) := Eq.trans (show gI σ16 o 4 = gI σ15 o 4 from (cσ16.O (ko.up (xσ14.trans xσ15)) (by decide)).1) kp33
  have kp44 : Kpt (gI σ16 o 6 = gI σ15 o 6) := (cσ16.O (ko.up (xσ14.trans xσ15)) (by decide)).1
  have kp45 : Kpt (gI σ16 o 7 = gI σ15 o 7) := (cσ16.O (ko.up (xσ14.trans xσ15)) (by decide)).1
  have kp46 : Kpt (gI σ16 o 8 = gI σ o 8) := Eq.trans (show gI σ16 o 8 = gI σ15 o 8 from (cσ16.O (ko.up (xσ14.trans xσ15)) (by decide)).1) kp34
  have kp47 : Kpt (gI σ16 o 9 = gI σ o 9) := Eq.trans (show gI σ16 o 9 = gI σ15 o 9 from (cσ16.O (ko.up (xσ14.trans xσ15)) (by decide)).1) kp35
  have r5σ16 := I_6_5 iσ16.1 (kth.up (xσ14.trans (xσ15.trans xσ16)))
  refine ⟨J, (kp37.trans (kp24.trans (kp17.trans h7))), fun kk_J => ?_⟩
  refine ⟨o, (kp38.trans (kp25.trans (kp18.trans h8))), fun kk_o => ?_⟩
  obtain ⟨b, eb, fb⟩ := P_4_0 iσ16.1 (kJ.up (xσ14.trans (xσ15.trans xσ16)))
  have mb : kO σ16 b 115 := iσ16.1.kd (kJ.up (xσ14.trans (xσ15.trans xσ16))) rfl eb rfl
  refine ⟨b, eb, fun kk_b => ?_⟩
  have ho48 : gI σ16 o 7 = gI σ15 o 7 := kp45
  have q49 := I_5_7 iσ16.1 (ko.up (xσ14.trans (xσ15.trans xσ16)))
  refine ⟨⟨by (first | omega | with_reducible assumption | with_reducible exact rng_toInt _ | with_reducible exact rng_wr _ | (unfold rng; omega) | (unfold rng at *; omega) | assumption), by (first | omega | with_reducible assumption | with_reducible exact rng_toInt _ | with_reducible exact rng_wr _ | (unfold rng; omega) | (unfold rng at *; omega) | assumption)⟩, ?_⟩
  have ho50 : gI σ16 J 7 = gI σ J 7 := kp39
  have ho51 : gI σ16 J 1 = gI σ J 1 := kp40
  have ho52 : gI σ16 J 2 = gI σ J 2 := kp41
  have ho53 : gI σ16 o 3 = gI σ o 3 := kp42
  have ho54 : gI σ16 o 4 = gI σ o 4 := kp43
  have ho55 : gI σ16 o 6 = gI σ15 o 6 := kp44
  have ho56 : gI σ16 o 8 = gI σ o 8 := kp46
  have ho57 : gI σ16 o 9 = gI σ o 9 := kp47
  obtain ⟨b_1, eb_1⟩ := P_115 iσ16.1 mb (k := (gI σ16 o 7).toNat) (by (first | omega | with_reducible assumption | with_reducible exact rng_toInt _ | with_reducible exact rng_wr _ | (unfold rng; omega) | (unfold rng at *; omega) | assumption))
  have fb_1 := T_115 iσ16.1 mb eb_1
  have mb_1 : kO σ16 b_1 5 := iσ16.1.kd mb rfl eb_1 rfl
  refine i_X5_addColumnsOf iσ16 (ko.up (xσ14.trans (xσ15.trans xσ16))) eb_1 mb_1 (by (first | omega | with_reducible assumption | with_reducible exact rng_toInt _ | with_reducible exact rng_wr _ | (unfold rng; omega) | (unfold rng at *; omega) | assumption)) (by (first | omega | with_reducible assumption | with_reducible exact rng_toInt _ | with_reducible exact rng_wr _ | (unfold rng; omega) | (unfold rng at *; omega) | assumption)) (by (first | omega | with_reducible assumption | with_reducible exact rng_toInt _ | with_reducible exact rng_wr _ | (unfold rng; omega) | (unfold rng at *; omega) | assumption)) (fun e => absurd (congrArg gq e) (by omega)) (fun σ20 _ iσ20 cσ20 oxσ20 pσ20 => ?_)
  intro xσ20
  have fσ20 : Fx [261, 262, 263, 323, 324, 326, 327, 386, 387, 388, 389, 390, 6464, 8320] gr σ σ20 := fσ16.tr (cσ20.mo (by decide))
  have oxcσ20 : OX o σ σ20 := oxcσ16.tr oxσ20 (xσ14.trans (xσ15.trans xσ16))
  have kp58 : Kpt (gI σ20 o 7 = gI σ15 o 7) := Eq.trans (show gI σ20 o 7 = gI σ16 o 7 from (cσ20.O (ko.up (xσ14.trans (xσ15.trans xσ16))) (by decide)).1) kp45
  have kp59 : gP σ20 J 0 = gP σ16 J 0 := (cσ20.O (kJ.up (xσ14.trans (xσ15.trans xσ16))) (by decide)).2.1
  have kp60 : gP σ20 b (gI σ16 o 7).toNat = gP σ16 b (gI σ16 o 7).toNat := (cσ20.A mb (by decide)).2.1
  have kp61 : gP σ20 th 0 = gP σ16 th 0 := (cσ20.O (kth.up (xσ14.trans (xσ15.trans xσ16))) (by decide)).2.1
  have kp62 : gP σ20 th 7 = gP σ16 th 7 := (cσ20.O (kth.up (xσ14.trans (xσ15.trans xσ16))) (by decide)).2.1
  have kp63 : gP σ20 th 8 = gP σ16 th 8 := (cσ20.O (kth.up (xσ14.trans (xσ15.trans xσ16))) (by decide)).2.1
  have kp64 : gI σ20 th 2 = gI σ16 th 2 := (cσ20.O (kth.up (xσ14.trans (xσ15.trans xσ16))) (by decide)).1
  have kp65 : gI σ20 th 3 = gI σ16 th 3 := (cσ20.O (kth.up (xσ14.trans (xσ15.trans xσ16))) (by decide)).1
  have kp66 : gI σ20 th 5 = gI σ16 th 5 := (cσ20.O (kth.up (xσ14.trans (xσ15.trans xσ16))) (by decide)).1
  have kp67 : Kpt (gI σ20 J 7 = gI σ J 7) := Eq.trans (show gI σ20 J 7 = gI σ16 J 7 from (cσ20.O (kJ.up (xσ14.trans (xσ15.trans xσ16))) (by decide)).1) kp39
  have kp68 : Kpt (gI σ20 J 1 = gI σ J 1) := Eq.trans (show gI σ20 J 1 = gI σ16 J 1 from (cσ20.O (kJ.up (xσ14.trans (xσ15.trans xσ16))) (by decide)).1) kp40
  have kp69 : Kpt (gI σ20 J 2 = gI σ J 2) := Eq.trans (show gI σ20 J 2 = gI σ16 J 2 from (cσ20.O (kJ.up (xσ14.trans (xσ15.trans xσ16))) (by decide)).1) kp41
  have kp70 : Kpt (gI σ20 o 4 = gI σ o 4) := Eq.trans (show gI σ20 o 4 = gI σ16 o 4 from (cσ20.O (ko.up (xσ14.trans (xσ15.trans xσ16))) (by decide)).1) kp43
  have kp71 : Kpt (gI σ20 o 6 = gI σ15 o 6) := Eq.trans (show gI σ20 o 6 = gI σ16 o 6 from (cσ20.O (ko.up (xσ14.trans (xσ15.trans xσ16))) (by decide)).1) kp44
  have kp72 : Kpt (gI σ20 o 8 = gI σ o 8) := Eq.trans (show gI σ20 o 8 = gI σ16 o 8 from (cσ20.O (ko.up (xσ14.trans (xσ15.trans xσ16))) (by decide)).1) kp46
  have kp73 : Kpt (gI σ20 o 9 = gI σ o 9) := Eq.trans (show gI σ20 o 9 = gI σ16 o 9 from (cσ20.O (ko.up (xσ14.trans (xσ15.trans xσ16))) (by decide)).1) kp47
  refine i_X6_wantSign iσ20 (kth.up (xσ14.trans (xσ15.trans (xσ16.trans xσ20)))) (kp61.trans (kp36.trans (kp23.trans (kp16.trans hX0)))) (kX.up (xσ14.trans (xσ15.trans (xσ16.trans xσ20)))) (((xσ14.trans (xσ15.trans (xσ16.trans xσ20))) tx kX.1).2.2.trans gX) (by (first | omega | with_reducible assumption | with_reducible exact rng_toInt _ | with_reducible exact rng_wr _ | (unfold rng; omega) | (unfold rng at *; omega) | assumption)) (by (first | omega | with_reducible assumption | with_reducible exact rng_toInt _ | with_reducible exact rng_wr _ | (unfold rng; omega) | (unfold rng at *; omega) | assumption)) (fun σ21 _ iσ21 cσ21 pσ21 => ?_) (fun σx LLx Nx nux E ix cx ux px => hX σx LLx Nx nux E ix (fσ20.tr (cx.mo (by decide))) (ux) (by first | exact px | exact ⟨by have := px.1; omega, px.2⟩ | (first | omega | with_reducible assumption | with_reducible exact rng_toInt _ | with_reducible exact rng_wr _ | (unfold rng; omega) | (unfold rng at *; omega) | assumption)))
  intro xσ21
  have fσ21 : Fx [261, 262, 263, 323, 324, 326, 327, 386, 387, 388, 389, 390, 6464, 8320] gr σ σ21 := fσ20.tr (cσ21.mo (by decide))
  have oxcσ21 : OX o σ σ21 := oxcσ20.tr (OX.fx cσ21 (by decide) (by decide)) (xσ14.trans (xσ15.trans (xσ16.trans xσ20)))
  have kp74 : gP σ21 J 0 = gP σ20 J 0 := (cσ21.O (kJ.up (xσ14.trans (xσ15.trans (xσ16.trans xσ20)))) (by decide)).2.1
  have kp75 : gP σ21 b (gI σ16 o 7).toNat = gP σ20 b (gI σ16 o 7).toNat := (cσ21.A (mb.up xσ20) (by decide)).2.1
  have kp76 : gP σ21 th 0 = gP σ20 th 0 := (cσ21.O (kth.up (xσ14.trans (xσ15.trans (xσ16.trans xσ20)))) (by decide)).2.1
  have kp77 : gP σ21 th 7 = gP σ20 th 7 := (cσ21.O (kth.up (xσ14.trans (xσ15.trans (xσ16.trans xσ20)))) (by decide)).2.1
  have kp78 : gP σ21 th 8 = gP σ20 th 8 := (cσ21.O (kth.up (xσ14.trans (xσ15.trans (xσ16.trans xσ20)))) (by decide)).2.1
  have kp79 : Kpt (gI σ21 J 7 = gI σ J 7) := Eq.trans (show gI σ21 J 7 = gI σ20 J 7 from (cσ21.O (kJ.up (xσ14.trans (xσ15.trans (xσ16.trans xσ20)))) (by decide)).1) kp67
  have kp80 : Kpt (gI σ21 J 1 = gI σ J 1) := Eq.trans (show gI σ21 J 1 = gI σ20 J 1 from (cσ21.O (kJ.up (xσ14.trans (xσ15.trans (xσ16.trans xσ20)))) (by decide)).1) kp68
  have kp81 : Kpt (gI σ21 J 2 = gI σ J 2) := Eq.trans (show gI σ21 J 2 = gI σ20 J 2 from (cσ21.O (kJ.up (xσ14.trans (xσ15.trans (xσ16.trans xσ20)))) (by decide)).1) kp69
  have kp82 : Kpt (gI σ21 o 3 = gI σ20 o 3) := (cσ21.O (ko.up (xσ14.trans (xσ15.trans (xσ16.trans xσ20)))) (by decide)).1
  have kp83 : Kpt (gI σ21 o 4 = gI σ o 4) := Eq.trans (show gI σ21 o 4 = gI σ20 o 4 from (cσ21.O (ko.up (xσ14.trans (xσ15.trans (xσ16.trans xσ20)))) (by decide)).1) kp70
  have kp84 : Kpt (gI σ21 o 6 = gI σ15 o 6) := Eq.trans (show gI σ21 o 6 = gI σ20 o 6 from (cσ21.O (ko.up (xσ14.trans (xσ15.trans (xσ16.trans xσ20)))) (by decide)).1) kp71
  have kp85 : Kpt (gI σ21 o 7 = gI σ15 o 7) := Eq.trans (show gI σ21 o 7 = gI σ20 o 7 from (cσ21.O (ko.up (xσ14.trans (xσ15.trans (xσ16.trans xσ20)))) (by decide)).1) kp58
  have kp86 : Kpt (gI σ21 o 8 = gI σ o 8) := Eq.trans (show gI σ21 o 8 = gI σ20 o 8 from (cσ21.O (ko.up (xσ14.trans (xσ15.trans (xσ16.trans xσ20)))) (by decide)).1) kp72
  have kp87 : Kpt (gI σ21 o 9 = gI σ o 9) := Eq.trans (show gI σ21 o 9 = gI σ20 o 9 from (cσ21.O (ko.up (xσ14.trans (xσ15.trans (xσ16.trans xσ20)))) (by decide)).1) kp73
  have r5σ21 := I_6_5 iσ21.1 (kth.up (xσ14.trans (xσ15.trans (xσ16.trans (xσ20.trans xσ21)))))
  have ho88 : gI σ21 o 4 = gI σ o 4 := kp83
  refine i_X6_newValue iσ21 (kth.up (xσ14.trans (xσ15.trans (xσ16.trans (xσ20.trans xσ21))))) (kp77.trans (kp62.trans (kp37.trans (kp24.trans (kp17.trans h7))))) (kJ.up (xσ14.trans (xσ15.trans (xσ16.trans (xσ20.trans xσ21))))) (kp78.trans (kp63.trans (kp38.trans (kp25.trans (kp18.trans h8))))) (ko.up (xσ14.trans (xσ15.trans (xσ16.trans (xσ20.trans xσ21))))) (by (first | omega | with_reducible assumption | with_reducible exact rng_toInt _ | with_reducible exact rng_wr _ | (unfold rng; omega) | (unfold rng at *; omega) | assumption)) (by (first | omega | with_reducible assumption | with_reducible exact rng_toInt _ | with_reducible exact rng_wr _ | (unfold rng; omega) | (unfold rng at *; omega) | assumption)) (by (first | omega | with_reducible assumption | with_reducible exact rng_toInt _ | with_reducible exact rng_wr _ | (unfold rng; omega) | (unfold rng at *; omega) | assumption)) (by (first | omega | with_reducible assumption | with_reducible exact rng_toInt _ | with_reducible exact rng_wr _ | (unfold rng; omega) | (unfold rng at *; omega) | assumption)) (fun σ22 _ iσ22 cσ22 oxσ22 pσ22 => ?_)
  intro xσ22
  have fσ22 : Fx [261, 262, 263, 323, 324, 326, 327, 386, 387, 388, 389, 390, 6464, 8320] gr σ σ22 := fσ21.tr (cσ22.mo (by decide))
  have oxcσ22 : OX o σ σ22 := oxcσ21.tr oxσ22 (xσ14.trans (xσ15.trans (xσ16.trans (xσ20.trans xσ21))))
  have kp89 : gP σ22 J 0 = gP σ21 J 0 := (cσ22.O (kJ.up (xσ14.trans (xσ15.trans (xσ16.trans (xσ20.trans xσ21))))) (by decide)).2.1
  have kp90 : gP σ22 b (gI σ16 o 7).toNat = gP σ21 b (gI σ16 o 7).toNat := (cσ22.A (mb.up (xσ20.trans xσ21)) (by decide)).2.1
  have kp91 : gP σ22 th 0 = gP σ21 th 0 := (cσ22.O (kth.up (xσ14.trans (xσ15.trans (xσ16.trans (xσ20.trans xσ21))))) (by decide)).2.1
  have kp92 : gP σ22 th 7 = gP σ21 th 7 := (cσ22.O (kth.up (xσ14.trans (xσ15.trans (xσ16.trans (xσ20.trans xσ21))))) (by decide)).2.1
  have kp93 : gP σ22 th 8 = gP σ21 th 8 := (cσ22.O (kth.up (xσ14.trans (xσ15.trans (xσ16.trans (xσ20.trans xσ21))))) (by decide)).2.1
  have kp94 : gI σ22 th 2 = gI σ21 th 2 := (cσ22.O (kth.up (xσ14.trans (xσ15.trans (xσ16.trans (xσ20.trans xσ21))))) (by decide)).1
  have kp95 : gI σ22 th 3 = gI σ21 th 3 := (cσ22.O (kth.up (xσ14.trans (xσ15.trans (xσ16.trans (xσ20.trans xσ21))))) (by decide)).1
  have kp96 : gI σ22 th 5 = gI σ21 th 5 := (cσ22.O (kth.up (xσ14.trans (xσ15.trans (xσ16.trans (xσ20.trans xσ21))))) (by decide)).1
  have kp97 : Kpt (gI σ22 J 7 = gI σ J 7) := Eq.trans (show gI σ22 J 7 = gI σ21 J 7 from (cσ22.O (kJ.up (xσ14.trans (xσ15.trans (xσ16.trans (xσ20.trans xσ21))))) (by decide)).1) kp79
  have kp98 : Kpt (gI σ22 J 1 = gI σ J 1) := Eq.trans (show gI σ22 J 1 = gI σ21 J 1 from (cσ22.O (kJ.up (xσ14.trans (xσ15.trans (xσ16.trans (xσ20.trans xσ21))))) (by decide)).1) kp80
  have kp99 : Kpt (gI σ22 J 2 = gI σ J 2) := Eq.trans (show gI σ22 J 2 = gI σ21 J 2 from (cσ22.O (kJ.up (xσ14.trans (xσ15.trans (xσ16.trans (xσ20.trans xσ21))))) (by decide)).1) kp81
  have kp100 : Kpt (gI σ22 o 3 = gI σ20 o 3) := Eq.trans (show gI σ22 o 3 = gI σ21 o 3 from (cσ22.O (ko.up (xσ14.trans (xσ15.trans (xσ16.trans (xσ20.trans xσ21))))) (by decide)).1) kp82
  have kp101 : Kpt (gI σ22 o 6 = gI σ15 o 6) := Eq.trans (show gI σ22 o 6 = gI σ21 o 6 from (cσ22.O (ko.up (xσ14.trans (xσ15.trans (xσ16.trans (xσ20.trans xσ21))))) (by decide)).1) kp84
  have kp102 : Kpt (gI σ22 o 7 = gI σ15 o 7) := Eq.trans (show gI σ22 o 7 = gI σ21 o 7 from (cσ22.O (ko.up (xσ14.trans (xσ15.trans (xσ16.trans (xσ20.trans xσ21))))) (by decide)).1) kp85
  have kp103 : Kpt (gI σ22 o 8 = gI σ o 8) := Eq.trans (show gI σ22 o 8 = gI σ21 o 8 from (cσ22.O (ko.up (xσ14.trans (xσ15.trans (xσ16.trans (xσ20.trans xσ21))))) (by decide)).1) kp86
  have kp104 : Kpt (gI σ22 o 9 = gI σ o 9) := Eq.trans (show gI σ22 o 9 = gI σ21 o 9 from (cσ22.O (ko.up (xσ14.trans (xσ15.trans (xσ16.trans (xσ20.trans xσ21))))) (by decide)).1) kp87
  have ho105 : gI σ22 J 7 = gI σ J 7 := kp97
  have ho106 : gI σ22 o 7 = gI σ15 o 7 := kp102
  refine i_X6_value iσ22 (kth.up (xσ14.trans (xσ15.trans (xσ16.trans (xσ20.trans (xσ21.trans xσ22)))))) (kp91.trans (kp76.trans (kp61.trans (kp36.trans (kp23.trans (kp16.trans hX0)))))) (kX.up (xσ14.trans (xσ15.trans (xσ16.trans (xσ20.trans (xσ21.trans xσ22)))))) (((xσ14.trans (xσ15.trans (xσ16.trans (xσ20.trans (xσ21.trans xσ22))))) tx kX.1).2.2.trans gX) (kp92.trans (kp77.trans (kp62.trans (kp37.trans (kp24.trans (kp17.trans h7)))))) (kJ.up (xσ14.trans (xσ15.trans (xσ16.trans (xσ20.trans (xσ21.trans xσ22)))))) (kp93.trans (kp78.trans (kp63.trans (kp38.trans (kp25.trans (kp18.trans h8)))))) (ko.up (xσ14.trans (xσ15.trans (xσ16.trans (xσ20.trans (xσ21.trans xσ22)))))) (by (first | omega | with_reducible assumption | with_reducible exact rng_toInt _ | with_reducible exact rng_wr _ | (unfold rng; omega) | (unfold rng at *; omega) | assumption)) (by (first | omega | with_reducible assumption | with_reducible exact rng_toInt _ | with_reducible exact rng_wr _ | (unfold rng; omega) | (unfold rng at *; omega) | assumption)) (by (first | omega | with_reducible assumption | with_reducible exact rng_toInt _ | with_reducible exact rng_wr _ | (unfold rng; omega) | (unfold rng at *; omega) | assumption)) (by (first | omega | with_reducible assumption | with_reducible exact rng_toInt _ | with_reducible exact rng_wr _ | (unfold rng; omega) | (unfold rng at *; omega) | assumption)) (by (first | omega | with_reducible assumption | with_reducible exact rng_toInt _ | with_reducible exact rng_wr _ | (unfold rng; omega) | (unfold rng at *; omega) | assumption)) (by (first | omega | with_reducible assumption | with_reducible exact rng_toInt _ | with_reducible exact rng_wr _ | (unfold rng; omega) | (unfold rng at *; omega) | assumption)) (by (first | omega | with_reducible assumption | with_reducible exact rng_toInt _ | with_reducible exact rng_wr _ | (unfold rng; omega) | (unfold rng at *; omega) | assumption)) (by (first | omega | with_reducible assumption | with_reducible exact rng_toInt _ | with_reducible exact rng_wr _ | (unfold rng; omega) | (unfold rng at *; omega) | assumption)) (by (first | omega | with_reducible assumption | with_reducible exact rng_toInt _ | with_reducible exact rng_wr _ | (unfold rng; omega) | (unfold rng at *; omega) | assumption)) (fun σ23 nuσ23 _ iσ23 cσ23 uσ23 pσ23 => ?_) (fun σx LLx Nx nux E ix cx ux px => hX σx LLx Nx nux E ix (fσ22.tr (cx.mo (by decide))) (ux) (by first | exact px | exact ⟨by have := px.1; omega, px.2⟩ | (first | omega | with_reducible assumption | with_reducible exact rng_toInt _ | with_reducible exact rng_wr _ | (unfold rng; omega) | (unfold rng at *; omega) | assumption)))
  intro xσ23
  have fσ23 : Fx [261, 262, 263, 323, 324, 326, 327, 386, 387, 388, 389, 390, 6464, 8320] gr σ σ23 := fσ22.tr (cσ23.mo (by decide))
  have oxcσ23 : OX o σ σ23 := oxcσ22.tr (OX.fx cσ23 (by decide) (by decide)) (xσ14.trans (xσ15.trans (xσ16.trans (xσ20.trans (xσ21.trans xσ22)))))
  have nu_σ23 : NC nu nuσ23 := uσ23
  have uσ23_0 := uσ23 0 (by decide) (by decide)
  have uσ23_1 := uσ23 1 (by decide) (by decide)
  have uσ23_2 := uσ23 2 (by decide) (by decide)
  have uσ23_5 := uσ23 5 (by decide) (by decide)
  have uσ23_15 := uσ23 15 (by decide) (by decide)
  have uσ23_16 := uσ23 16 (by decide) (by decide)
  have kp107 : gP σ23 J 0 = gP σ22 J 0 := (cσ23.O (kJ.up (xσ14.trans (xσ15.trans (xσ16.trans (xσ20.trans (xσ21.trans xσ22)))))) (by decide)).2.1
  have kp108 : gP σ23 b (gI σ16 o 7).toNat = gP σ22 b (gI σ16 o 7).toNat := (cσ23.A (mb.up (xσ20.trans (xσ21.trans xσ22))) (by decide)).2.1
  have kp109 : gP σ23 th 0 = gP σ22 th 0 := (cσ23.O (kth.up (xσ14.trans (xσ15.trans (xσ16.trans (xσ20.trans (xσ21.trans xσ22)))))) (by decide)).2.1
  have kp110 : gP σ23 th 7 = gP σ22 th 7 := (cσ23.O (kth.up (xσ14.trans (xσ15.trans (xσ16.trans (xσ20.trans (xσ21.trans xσ22)))))) (by decide)).2.1
  have kp111 : gP σ23 th 8 = gP σ22 th 8 := (cσ23.O (kth.up (xσ14.trans (xσ15.trans (xσ16.trans (xσ20.trans (xσ21.trans xσ22)))))) (by decide)).2.1
  have kp112 : Kpt (gI σ23 J 1 = gI σ J 1) := Eq.trans (show gI σ23 J 1 = gI σ22 J 1 from (cσ23.O (kJ.up (xσ14.trans (xσ15.trans (xσ16.trans (xσ20.trans (xσ21.trans xσ22)))))) (by decide)).1) kp98
  have kp113 : Kpt (gI σ23 J 2 = gI σ J 2) := Eq.trans (show gI σ23 J 2 = gI σ22 J 2 from (cσ23.O (kJ.up (xσ14.trans (xσ15.trans (xσ16.trans (xσ20.trans (xσ21.trans xσ22)))))) (by decide)).1) kp99
  have kp114 : Kpt (gI σ23 o 3 = gI σ20 o 3) := Eq.trans (show gI σ23 o 3 = gI σ22 o 3 from (cσ23.O (ko.up (xσ14.trans (xσ15.trans (xσ16.trans (xσ20.trans (xσ21.trans xσ22)))))) (by decide)).1) kp100
  have kp115 : Kpt (gI σ23 o 4 = gI σ22 o 4) := (cσ23.O (ko.up (xσ14.trans (xσ15.trans (xσ16.trans (xσ20.trans (xσ21.trans xσ22)))))) (by decide)).1
  have kp116 : Kpt (gI σ23 o 6 = gI σ15 o 6) := Eq.trans (show gI σ23 o 6 = gI σ22 o 6 from (cσ23.O (ko.up (xσ14.trans (xσ15.trans (xσ16.trans (xσ20.trans (xσ21.trans xσ22)))))) (by decide)).1) kp101
  have kp117 : Kpt (gI σ23 o 7 = gI σ15 o 7) := Eq.trans (show gI σ23 o 7 = gI σ22 o 7 from (cσ23.O (ko.up (xσ14.trans (xσ15.trans (xσ16.trans (xσ20.trans (xσ21.trans xσ22)))))) (by decide)).1) kp102
  have kp118 : Kpt (gI σ23 o 8 = gI σ o 8) := Eq.trans (show gI σ23 o 8 = gI σ22 o 8 from (cσ23.O (ko.up (xσ14.trans (xσ15.trans (xσ16.trans (xσ20.trans (xσ21.trans xσ22)))))) (by decide)).1) kp103
  have kp119 : Kpt (gI σ23 o 9 = gI σ o 9) := Eq.trans (show gI σ23 o 9 = gI σ22 o 9 from (cσ23.O (ko.up (xσ14.trans (xσ15.trans (xσ16.trans (xσ20.trans (xσ21.trans xσ22)))))) (by decide)).1) kp104
  have r5σ23 := I_6_5 iσ23.1 (kth.up (xσ14.trans (xσ15.trans (xσ16.trans (xσ20.trans (xσ21.trans (xσ22.trans xσ23)))))))
  refine ⟨J, (kp110.trans (kp92.trans (kp77.trans (kp62.trans (kp37.trans (kp24.trans (kp17.trans h7))))))), fun kk_J_1 => ?_⟩
  refine i_X4_emit iσ23 (kJ.up (xσ14.trans (xσ15.trans (xσ16.trans (xσ20.trans (xσ21.trans (xσ22.trans xσ23))))))) (by (first | omega | with_reducible assumption | with_reducible exact rng_toInt _ | with_reducible exact rng_wr _ | (unfold rng; omega) | (unfold rng at *; omega) | assumption)) (by (first | omega | with_reducible assumption | with_reducible exact rng_toInt _ | with_reducible exact rng_wr _ | (unfold rng; omega) | (unfold rng at *; omega) | assumption)) (by (first | omega | with_reducible assumption | with_reducible exact rng_toInt _ | with_reducible exact rng_wr _ | (unfold rng; omega) | (unfold rng at *; omega) | assumption)) (by (first | omega | with_reducible assumption | with_reducible exact rng_toInt _ | with_reducible exact rng_wr _ | (unfold rng; omega) | (unfold rng at *; omega) | assumption)) (fun σ24 nuσ24 r25 iσ24 cσ24 uσ24 pσ24 => ?_)
  intro xσ24
  have fσ24 : Fx [261, 262, 263, 323, 324, 326, 327, 386, 387, 388, 389, 390, 6464, 8320] gr σ σ24 := fσ23.tr (cσ24.mo (by decide))
  have oxcσ24 : OX o σ σ24 := oxcσ23.tr (OX.fx cσ24 (by decide) (by decide)) (xσ14.trans (xσ15.trans (xσ16.trans (xσ20.trans (xσ21.trans (xσ22.trans xσ23))))))
  have nu_σ24 : NC nu nuσ24 := nu_σ23.tr uσ24
  have uσ24_0 := uσ24 0 (by decide) (by decide)
  have uσ24_1 := uσ24 1 (by decide) (by decide)
  have uσ24_2 := uσ24 2 (by decide) (by decide)
  have uσ24_5 := uσ24 5 (by decide) (by decide)
  have uσ24_15 := uσ24 15 (by decide) (by decide)
  have uσ24_16 := uσ24 16 (by decide) (by decide)
  have kp120 : gP σ24 J 0 = gP σ23 J 0 := (cσ24.O (kJ.up (xσ14.trans (xσ15.trans (xσ16.trans (xσ20.trans (xσ21.trans (xσ22.trans xσ23))))))) (by decide)).2.1
  have kp121 : gP σ24 b (gI σ16 o 7).toNat = gP σ23 b (gI σ16 o 7).toNat := (cσ24.A (mb.up (xσ20.trans (xσ21.trans (xσ22.trans xσ23)))) (by decide)).2.1
  have kp122 : gP σ24 th 0 = gP σ23 th 0 := (cσ24.O (kth.up (xσ14.trans (xσ15.trans (xσ16.trans (xσ20.trans (xσ21.trans (xσ22.trans xσ23))))))) (by decide)).2.1
  have kp123 : gP σ24 th 7 = gP σ23 th 7 := (cσ24.O (kth.up (xσ14.trans (xσ15.trans (xσ16.trans (xσ20.trans (xσ21.trans (xσ22.trans xσ23))))))) (by decide)).2.1
  have kp124 : gP σ24 th 8 = gP σ23 th 8 := (cσ24.O (kth.up (xσ14.trans (xσ15.trans (xσ16.trans (xσ20.trans (xσ21.trans (xσ22.trans xσ23))))))) (by decide)).2.1
  have kp125 : gI σ24 th 2 = gI σ23 th 2 := (cσ24.O (kth.up (xσ14.trans (xσ15.trans (xσ16.trans (xσ20.trans (xσ21.trans (xσ22.trans xσ23))))))) (by decide)).1
  have kp126 : gI σ24 th 3 = gI σ23 th 3 := (cσ24.O (kth.up (xσ14.trans (xσ15.trans (xσ16.trans (xσ20.trans (xσ21.trans (xσ22.trans xσ23))))))) (by decide)).1
  have kp127 : gI σ24 th 5 = gI σ23 th 5 := (cσ24.O (kth.up (xσ14.trans (xσ15.trans (xσ16.trans (xσ20.trans (xσ21.trans (xσ22.trans xσ23))))))) (by decide)).1
  have kp128 : Kpt (gI σ24 J 1 = gI σ J 1) := Eq.trans (show gI σ24 J 1 = gI σ23 J 1 from (cσ24.O (kJ.up (xσ14.trans (xσ15.trans (xσ16.trans (xσ20.trans (xσ21.trans (xσ22.trans xσ23))))))) (by decide)).1) kp112
  have kp129 : Kpt (gI σ24 J 2 = gI σ J 2) := Eq.trans (show gI σ24 J 2 = gI σ23 J 2 from (cσ24.O (kJ.up (xσ14.trans (xσ15.trans (xσ16.trans (xσ20.trans (xσ21.trans (xσ22.trans xσ23))))))) (by decide)).1) kp113
  have kp130 : Kpt (gI σ24 o 3 = gI σ20 o 3) := Eq.trans (show gI σ24 o 3 = gI σ23 o 3 from (cσ24.O (ko.up (xσ14.trans (xσ15.trans (xσ16.trans (xσ20.trans (xσ21.trans (xσ22.trans xσ23))))))) (by decide)).1) kp114
  have kp131 : Kpt (gI σ24 o 4 = gI σ22 o 4) := Eq.trans (show gI σ24 o 4 = gI σ23 o 4 from (cσ24.O (ko.up (xσ14.trans (xσ15.trans (xσ16.trans (xσ20.trans (xσ21.trans (xσ22.trans xσ23))))))) (by decide)).1) kp115
  have kp132 : Kpt (gI σ24 o 6 = gI σ15 o 6) := Eq.trans (show gI σ24 o 6 = gI σ23 o 6 from (cσ24.O (ko.up (xσ14.trans (xσ15.trans (xσ16.trans (xσ20.trans (xσ21.trans (xσ22.trans xσ23))))))) (by decide)).1) kp116
  have kp133 : Kpt (gI σ24 o 7 = gI σ15 o 7) := Eq.trans (show gI σ24 o 7 = gI σ23 o 7 from (cσ24.O (ko.up (xσ14.trans (xσ15.trans (xσ16.trans (xσ20.trans (xσ21.trans (xσ22.trans xσ23))))))) (by decide)).1) kp117
  have kp134 : Kpt (gI σ24 o 8 = gI σ o 8) := Eq.trans (show gI σ24 o 8 = gI σ23 o 8 from (cσ24.O (ko.up (xσ14.trans (xσ15.trans (xσ16.trans (xσ20.trans (xσ21.trans (xσ22.trans xσ23))))))) (by decide)).1) kp118
  have kp135 : Kpt (gI σ24 o 9 = gI σ o 9) := Eq.trans (show gI σ24 o 9 = gI σ23 o 9 from (cσ24.O (ko.up (xσ14.trans (xσ15.trans (xσ16.trans (xσ20.trans (xσ21.trans (xσ22.trans xσ23))))))) (by decide)).1) kp119
  have ho136 : gI σ24 J 1 = gI σ J 1 := kp128
  have ho137 : gI σ24 J 2 = gI σ J 2 := kp129
  have ho138 : gI σ24 o 3 = gI σ20 o 3 := kp130
  have ho139 : gI σ24 o 4 = gI σ22 o 4 := kp131
  have ho140 : gI σ24 o 6 = gI σ15 o 6 := kp132
  have ho141 : gI σ24 o 7 = gI σ15 o 7 := kp133
  have ho142 : gI σ24 o 8 = gI σ o 8 := kp134
  have ho143 : gI σ24 o 9 = gI σ o 9 := kp135
  exact hQ σ24 nuσ24 () iσ24 fσ24 (nu_σ24) oxcσ24 (⟨by omega, by omega, ⟨by omega, (fun h => absurd h (by omega)), (fun h => absurd h (by omega))⟩⟩)

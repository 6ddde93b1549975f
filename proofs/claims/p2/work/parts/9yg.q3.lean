set_option maxHeartbeats 1000000 in
theorem i_X6_firstInput {σ : Sg} {pl : Nat} {gq ci gr nc : Nat → Nat} {ot : Nat → Nat → Int} {LL : Nat → List Nat} {N nu : Nat → Nat} {th : Nat} {v1 : Int} {J o q c : Nat} (iσ : IV σ pl gq ci gr nc ot LL N nu) (kth : kO σ th 6) (h7 : gP σ th 7 = some J) (kJ : kO σ J 4) (h8 : gP σ th 8 = some o) (ko : kO σ o 5) (hJq : gq J = q) (hq : q ≠ nc 0 ∧ q ≤ 1) (go : gq o = 16 * q + c) (hc : c < 16) (h5 : nu 5 < 24000) (hk : 0 ≤ v1 ∧ v1 ≤ 11) {Q : Sg → Unit → Prop} {X : Sg → String → Prop} (hQ : ∀ (σ' : Sg) (r : Unit), IV σ' pl gq ci gr nc ot LL N nu → Fx [326, 327, 390] gr σ σ' → OX o σ σ' → (gI σ' o 6 = v1 ∧ (0 ≤ gI σ' o 7 ∧ gI σ' o 7 < gI σ J 1) ∧ gI σ' th 3 = gI σ th 3 ∧ gI σ' th 2 = gI σ th 2 ∧ gI σ' th 5 = gI σ th 5) → Q σ' r) (hX : ∀ (σ' : Sg) (LL' : Nat → List Nat) (N' nu' : Nat → Nat) (E : String), IV σ' pl gq ci gr nc ot LL' N' nu' → Fx [326, 327, 390] gr σ σ' → NCX nu nu' → (LL' = LL ∧ N' = N ∧ E = "java/lang/IllegalArgumentException" ∧ gI σ' th 6 ≠ 0) → X σ' E) : wp_X6_firstInput th v1 σ Q X := by
  have fσ : Fx [326, 327, 390] gr σ σ := Fx.rf
  have oxσ : OX o σ σ := OX.rf
  have ncb := iσ.ncb
  have r71 := I_4_1 iσ.1 kJ
  unfold wp_X6_firstInput
  unfold w_X6_firstInput_0
  refine ⟨o, h8, fun kk_o => ?_⟩
  intro σ8 eσ8
  have xσ8 : Ext σ σ8 := by rw [eσ8]; exact fun _ h => ⟨h, rfl, rfl⟩
  have iσ8 : IV σ8 pl gq ci gr nc ot LL N nu := by rw [eσ8]; exact iσ.wSp ko (fun i hi => by omega) (by decide) (show (0 : Int) ≤ v1 ∧ v1 ≤ 11 from ⟨by omega, by omega⟩)
  have fσ8 : Fx [326, 327, 390] gr σ σ8 := fσ.tr (Sk.fx (by rw [eσ8]; exact Sk.pI (by rw [fcdO ko (by decide)]; decide)))
  have oxcσ8 : OX o σ σ8 := oxσ.tr (by rw [eσ8]; exact OX.pI ko (Or.inr rfl)) (Ext.rfl' _)
  have wσ8 : gI σ8 o 6 = v1 := by rw [eσ8]; exact up2_s _ _ _ _
  have kp1 : gP σ8 th 7 = gP σ th 7 := by rw [eσ8]
  have kp2 : gP σ8 th 8 = gP σ th 8 := by rw [eσ8]
  have kp3 : gI σ8 th 2 = gI σ th 2 := by rw [eσ8]; exact up2_n _ _ (fun q => absurd q.2 (by decide))
  have kp4 : gI σ8 th 3 = gI σ th 3 := by rw [eσ8]; exact up2_n _ _ (fun q => absurd q.2 (by decide))
  have kp5 : gI σ8 th 5 = gI σ th 5 := by rw [eσ8]; exact up2_n _ _ (fun q => absurd q.2 (by decide))
  have kp6 : gI σ8 J 7 = gI σ J 7 := by rw [eσ8]; exact up2_n _ _ (fun q => absurd q.2 (by decide))
  have kp7 : gI σ8 J 1 = gI σ J 1 := by rw [eσ8]; exact up2_n _ _ (fun q => absurd q.2 (by decide))
  have kp8 : gI σ8 J 2 = gI σ J 2 := by rw [eσ8]; exact up2_n _ _ (fun q => absurd q.2 (by decide))
  have kp9 : gI σ8 o 3 = gI σ o 3 := by rw [eσ8]; exact up2_n _ _ (fun q => absurd q.2 (by decide))
  have kp10 : gI σ8 o 4 = gI σ o 4 := by rw [eσ8]; exact up2_n _ _ (fun q => absurd q.2 (by decide))
  have kp11 : gI σ8 o 7 = gI σ o 7 := by rw [eσ8]; exact up2_n _ _ (fun q => absurd q.2 (by decide))
  have kp12 : gI σ8 o 8 = gI σ o 8 := by rw [eσ8]; exact up2_n _ _ (fun q => absurd q.2 (by decide))
  have kp13 : gI σ8 o 9 = gI σ o 9 := by rw [eσ8]; exact up2_n _ _ (fun q => absurd q.2 (by decide))
  refine i_X6_input iσ8 (kth.up xσ8) (kp1.trans h7) (kJ.up xσ8) (by (first | omega | with_reducible assumption | with_reducible exact rng_toInt _ | with_reducible exact rng_wr _ | (unfold rng; omega) | (unfold rng at *; omega) | assumption)) (fun σ9 r10 iσ9 cσ9 pσ9 => ?_) (fun σx LLx Nx nux E ix cx ux px => hX σx LLx Nx nux E ix (fσ8.tr (cx.mo (by decide))) (ux) (by first | exact px | exact ⟨by have := px.1; omega, px.2⟩ | (first | omega | with_reducible assumption | with_reducible exact rng_toInt _ | with_reducible exact rng_wr _ | (unfold rng; omega) | (unfold rng at *; omega) | assumption)))
  intro xσ9
  have fσ9 : Fx [326, 327, 390] gr σ σ9 := fσ8.tr (cσ9.mo (by decide))
  have oxcσ9 : OX o σ σ9 := oxcσ8.tr (OX.fx cσ9 (by decide) (by decide)) (xσ8)
  have kp14 : gI σ9 o 6 = gI σ8 o 6 := (cσ9.O (ko.up xσ8) (by decide)).1
  have kp15 : gP σ9 th 7 = gP σ8 th 7 := (cσ9.O (kth.up xσ8) (by decide)).2.1
  have kp16 : gP σ9 th 8 = gP σ8 th 8 := (cσ9.O (kth.up xσ8) (by decide)).2.1
  have kp17 : gI σ9 th 2 = gI σ8 th 2 := (cσ9.O (kth.up xσ8) (by decide)).1
  have kp18 : gI σ9 th 3 = gI σ8 th 3 := (cσ9.O (kth.up xσ8) (by decide)).1
  have kp19 : gI σ9 th 5 = gI σ8 th 5 := (cσ9.O (kth.up xσ8) (by decide)).1
  have kp20 : gI σ9 J 7 = gI σ8 J 7 := (cσ9.O (kJ.up xσ8) (by decide)).1
  have kp21 : gI σ9 J 1 = gI σ8 J 1 := (cσ9.O (kJ.up xσ8) (by decide)).1
  have kp22 : gI σ9 J 2 = gI σ8 J 2 := (cσ9.O (kJ.up xσ8) (by decide)).1
  have kp23 : gI σ9 o 3 = gI σ8 o 3 := (cσ9.O (ko.up xσ8) (by decide)).1
  have kp24 : gI σ9 o 4 = gI σ8 o 4 := (cσ9.O (ko.up xσ8) (by decide)).1
  have kp25 : gI σ9 o 7 = gI σ8 o 7 := (cσ9.O (ko.up xσ8) (by decide)).1
  have kp26 : gI σ9 o 8 = gI σ8 o 8 := (cσ9.O (ko.up xσ8) (by decide)).1
  have kp27 : gI σ9 o 9 = gI σ8 o 9 := (cσ9.O (ko.up xσ8) (by decide)).1
  refine ⟨o, (kp2.trans h8), fun kk_o_1 => ?_⟩
  intro σ12 eσ12
  have xσ12 : Ext σ9 σ12 := by rw [eσ12]; exact fun _ h => ⟨h, rfl, rfl⟩
  have iσ12 : IV σ12 pl gq ci gr nc ot LL N nu := by rw [eσ12]; exact iσ9.wSp (ko.up (xσ8.trans xσ9)) (fun i hi => by omega) (by decide) (show (-1 : Int) ≤ r10 ∧ r10 ≤ 15 from ⟨by omega, by omega⟩)
  have fσ12 : Fx [326, 327, 390] gr σ σ12 := fσ9.tr (Sk.fx (by rw [eσ12]; exact Sk.pI (by rw [fcdO (ko.up (xσ8.trans xσ9)) (by decide)]; decide)))
  have oxcσ12 : OX o σ σ12 := oxcσ9.tr (by rw [eσ12]; exact OX.pI (ko.up (xσ8.trans xσ9)) (Or.inr rfl)) (xσ8.trans xσ9)
  have wσ12 : gI σ12 o 7 = r10 := by rw [eσ12]; exact up2_s _ _ _ _
  have kp28 : gI σ12 o 6 = gI σ9 o 6 := by rw [eσ12]; exact up2_n _ _ (fun q => absurd q.2 (by decide))
  have kp29 : gP σ12 th 7 = gP σ9 th 7 := by rw [eσ12]
  have kp30 : gP σ12 th 8 = gP σ9 th 8 := by rw [eσ12]
  have kp31 : gI σ12 th 2 = gI σ9 th 2 := by rw [eσ12]; exact up2_n _ _ (fun q => absurd q.2 (by decide))
  have kp32 : gI σ12 th 3 = gI σ9 th 3 := by rw [eσ12]; exact up2_n _ _ (fun q => absurd q.2 (by decide))
  have kp33 : gI σ12 th 5 = gI σ9 th 5 := by rw [eσ12]; exact up2_n _ _ (fun q => absurd q.2 (by decide))
  have kp34 : gI σ12 J 7 = gI σ9 J 7 := by rw [eσ12]; exact up2_n _ _ (fun q => absurd q.1 (kO.ne (kJ.up (xσ8.trans xσ9)) (ko.up (xσ8.trans xσ9)) (by decide)))
  have kp35 : gI σ12 J 1 = gI σ9 J 1 := by rw [eσ12]; exact up2_n _ _ (fun q => absurd q.2 (by decide))
  have kp36 : gI σ12 J 2 = gI σ9 J 2 := by rw [eσ12]; exact up2_n _ _ (fun q => absurd q.2 (by decide))
  have kp37 : gI σ12 o 3 = gI σ9 o 3 := by rw [eσ12]; exact up2_n _ _ (fun q => absurd q.2 (by decide))
  have kp38 : gI σ12 o 4 = gI σ9 o 4 := by rw [eσ12]; exact up2_n _ _ (fun q => absurd q.2 (by decide))
  have kp39 : gI σ12 o 8 = gI σ9 o 8 := by rw [eσ12]; exact up2_n _ _ (fun q => absurd q.2 (by decide))
  have kp40 : gI σ12 o 9 = gI σ9 o 9 := by rw [eσ12]; exact up2_n _ _ (fun q => absurd q.2 (by decide))
  exact hQ σ12 () iσ12 fσ12 oxcσ12 (by (first | omega | with_reducible assumption | with_reducible exact rng_toInt _ | with_reducible exact rng_wr _ | (unfold rng; omega) | (unfold rng at *; omega) | assumption))
set_option maxHeartbeats 1000000 in
theorem i_X6_sourceText {σ : Sg} {pl : Nat} {gq ci gr nc : Nat → Nat} {ot : Nat → Nat → Int} {LL : Nat → List Nat} {N nu : Nat → Nat} {th : Nat} {tx J o q c : Nat} (iσ : IV σ pl gq ci gr nc ot LL N nu) (kth : kO σ th 6) (hX0 : gP σ th 0 = some tx) (kX : kO σ tx 102) (gX : gn σ tx = 1500) (h7 : gP σ th 7 = some J) (kJ : kO σ J 4) (h8 : gP σ th 8 = some o) (ko : kO σ o 5) (hJq : gq J = q) (hq : q ≠ nc 0 ∧ q ≤ 1) (go : gq o = 16 * q + c) (hc : c < 16) (cJ : gI σ J 1 = (c : Int)) (tf : gI σ th 5 ≤ gI σ th 2 ∧ (gI σ th 3 ≠ 0 → gI σ th 5 + 1 ≤ gI σ th 2)) (h5 : nu 5 < 24000) (lp : gI σ J 7 ≤ 2 * gI σ th 5) (f0 : gI σ o 3 = 0 ∧ gI σ o 4 = 0 ∧ gI σ o 7 = -1 ∧ gI σ o 8 = -1) {Q : Sg → Unit → Prop} {X : Sg → String → Prop} (hQ : ∀ (σ' : Sg) (r : Unit), IV σ' pl gq ci gr nc ot LL N nu → Fx [323, 326, 329, 330, 386, 387, 388, 389, 390, 6464, 8320] gr σ σ' → OX o σ σ' → ((gI σ' th 5 ≤ gI σ' th 2 ∧ (gI σ' th 3 ≠ 0 → gI σ' th 5 + 1 ≤ gI σ' th 2)) ∧ gI σ' J 7 ≤ 2 * gI σ' th 5 ∧ OPR σ σ' gq q c o) → Q σ' r) (hX : ∀ (σ' : Sg) (LL' : Nat → List Nat) (N' nu' : Nat → Nat) (E : String), IV σ' pl gq ci gr nc ot LL' N' nu' → Fx [323, 326, 329, 330, 386, 387, 388, 389, 390, 6464, 8320] gr σ σ' → NCX nu nu' → (LL' = LL ∧ N' = N ∧ E = "java/lang/IllegalArgumentException" ∧ gI σ' th 6 ≠ 0) → X σ' E) : wp_X6_sourceText th σ Q X := by
  have fσ : Fx [323, 326, 329, 330, 386, 387, 388, 389, 390, 6464, 8320] gr σ σ := Fx.rf
  have oxσ : OX o σ σ := OX.rf
  have q1 := I_4_1 iσ.1 kJ
  have q2 := I_6_5 iσ.1 kth
  have q3 := I_6_2 iσ.1 kth
  have q4 := iσ.rg th 3; unfold rng at q4
  have q5 := I_4_7 iσ.1 kJ
  have q6 := I_5_3 iσ.1 ko
  have q7 := I_5_4 iσ.1 ko
  have q8 := I_5_7 iσ.1 ko
  have q9 := I_5_8 iσ.1 ko
  have ncb := iσ.ncb
  have r70 := I_4_7 iσ.1 kJ
  have r71 := I_4_1 iσ.1 kJ
  unfold wp_X6_sourceText
  unfold w_X6_sourceText_0
  refine i_X6_next iσ kth hX0 kX (((Ext.rfl' _) tx kX.1).2.2.trans gX) (by (first | omega | with_reducible assumption | with_reducible exact rng_toInt _ | with_reducible exact rng_wr _ | (unfold rng; omega) | (unfold rng at *; omega) | assumption)) (by (first | omega | with_reducible assumption | with_reducible exact rng_toInt _ | with_reducible exact rng_wr _ | (unfold rng; omega) | (unfold rng at *; omega) | assumption)) (fun σ27 _ iσ27 cσ27 pσ27 => ?_) (fun σx LLx Nx nux E ix cx ux px => hX σx LLx Nx nux E ix (fσ.tr (cx.mo (by decide))) (ux) (by first | exact px | exact ⟨by have := px.1; omega, px.2⟩ | (first | omega | with_reducible assumption | with_reducible exact rng_toInt _ | with_reducible exact rng_wr _ | (unfold rng; omega) | (unfold rng at *; omega) | assumption)))
  intro xσ27
  have fσ27 : Fx [323, 326, 329, 330, 386, 387, 388, 389, 390, 6464, 8320] gr σ σ27 := fσ.tr (cσ27.mo (by decide))
  have oxcσ27 : OX o σ σ27 := oxσ.tr (OX.fx cσ27 (by decide) (by decide)) (Ext.rfl' _)
  have kp10 : gI σ27 J 1 = gI σ J 1 := (cσ27.O kJ (by decide)).1
  have kp11 : gI σ27 J 7 = gI σ J 7 := (cσ27.O kJ (by decide)).1
  have kp12 : gI σ27 o 3 = gI σ o 3 := (cσ27.O ko (by decide)).1
  have kp13 : gI σ27 o 4 = gI σ o 4 := (cσ27.O ko (by decide)).1
  have kp14 : gI σ27 o 7 = gI σ o 7 := (cσ27.O ko (by decide)).1
  have kp15 : gI σ27 o 8 = gI σ o 8 := (cσ27.O ko (by decide)).1
  have kp16 : gP σ27 th 0 = gP σ th 0 := (cσ27.O kth (by decide)).2.1
  have kp17 : gP σ27 th 7 = gP σ th 7 := (cσ27.O kth (by decide)).2.1
  have kp18 : gP σ27 th 8 = gP σ th 8 := (cσ27.O kth (by decide)).2.1
  have kp19 : gI σ27 J 2 = gI σ J 2 := (cσ27.O kJ (by decide)).1
  have kp20 : gI σ27 o 6 = gI σ o 6 := (cσ27.O ko (by decide)).1
  have kp21 : gI σ27 o 9 = gI σ o 9 := (cσ27.O ko (by decide)).1
  have r5σ27 := I_6_5 iσ27.1 (kth.up xσ27)
  refine ⟨o, (kp18.trans h8), fun kk_o => ?_⟩
  intro σ29 eσ29
  have xσ29 : Ext σ27 σ29 := by rw [eσ29]; exact fun _ h => ⟨h, rfl, rfl⟩
  have iσ29 : IV σ29 pl gq ci gr nc ot LL N nu := by rw [eσ29]; exact iσ27.wSp (ko.up xσ27) (fun i hi => by omega) (by decide) (show (0 : Int) ≤ 0 ∧ 0 ≤ 11 from ⟨by omega, by omega⟩)
  have fσ29 : Fx [323, 326, 329, 330, 386, 387, 388, 389, 390, 6464, 8320] gr σ σ29 := fσ27.tr (Sk.fx (by rw [eσ29]; exact Sk.pI (by rw [fcdO (ko.up xσ27) (by decide)]; decide)))
  have oxcσ29 : OX o σ σ29 := oxcσ27.tr (by rw [eσ29]; exact OX.pI (ko.up xσ27) (Or.inr rfl)) (xσ27)
  have wσ29 : gI σ29 o 6 = 0 := by rw [eσ29]; exact up2_s _ _ _ _
  have kp22 : gI σ29 J 1 = gI σ27 J 1 := by rw [eσ29]; exact up2_n _ _ (fun q => absurd q.2 (by decide))
  have kp23 : gI σ29 J 7 = gI σ27 J 7 := by rw [eσ29]; exact up2_n _ _ (fun q => absurd q.2 (by decide))
  have kp24 : gI σ29 o 3 = gI σ27 o 3 := by rw [eσ29]; exact up2_n _ _ (fun q => absurd q.2 (by decide))
  have kp25 : gI σ29 o 4 = gI σ27 o 4 := by rw [eσ29]; exact up2_n _ _ (fun q => absurd q.2 (by decide))
  have kp26 : gI σ29 o 7 = gI σ27 o 7 := by rw [eσ29]; exact up2_n _ _ (fun q => absurd q.2 (by decide))
  have kp27 : gI σ29 o 8 = gI σ27 o 8 := by rw [eσ29]; exact up2_n _ _ (fun q => absurd q.2 (by decide))
  have kp28 : gP σ29 th 0 = gP σ27 th 0 := by rw [eσ29]
  have kp29 : gP σ29 th 7 = gP σ27 th 7 := by rw [eσ29]
  have kp30 : gP σ29 th 8 = gP σ27 th 8 := by rw [eσ29]
  have kp31 : gI σ29 th 2 = gI σ27 th 2 := by rw [eσ29]; exact up2_n _ _ (fun q => absurd q.2 (by decide))
  have kp32 : gI σ29 th 3 = gI σ27 th 3 := by rw [eσ29]; exact up2_n _ _ (fun q => absurd q.2 (by decide))
  have kp33 : gI σ29 th 5 = gI σ27 th 5 := by rw [eσ29]; exact up2_n _ _ (fun q => absurd q.2 (by decide))
  have kp34 : gI σ29 J 2 = gI σ27 J 2 := by rw [eσ29]; exact up2_n _ _ (fun q => absurd q.2 (by decide))
  have kp35 : gI σ29 o 9 = gI σ27 o 9 := by rw [eσ29]; exact up2_n _ _ (fun q => absurd q.2 (by decide))
  refine i_X6_number iσ29 (kth.up (xσ27.trans xσ29)) (by (first | omega | with_reducible assumption | with_reducible exact rng_toInt _ | with_reducible exact rng_wr _ | (unfold rng; omega) | (unfold rng at *; omega) | assumption)) (by (first | omega | with_reducible assumption | with_reducible exact rng_toInt _ | with_reducible exact rng_wr _ | (unfold rng; omega) | (unfold rng at *; omega) | assumption)) (fun σ30 r31 iσ30 cσ30 pσ30 => ?_) (fun σx LLx Nx nux E ix cx ux px => hX σx LLx Nx nux E ix (fσ29.tr (cx.mo (by decide))) (ux) (by first | exact px | exact ⟨by have := px.1; omega, px.2⟩ | (first | omega | with_reducible assumption | with_reducible exact rng_toInt _ | with_reducible exact rng_wr _ | (unfold rng; omega) | (unfold rng at *; omega) | assumption)))
  intro xσ30
  have fσ30 : Fx [323, 326, 329, 330, 386, 387, 388, 389, 390, 6464, 8320] gr σ σ30 := fσ29.tr (cσ30.mo (by decide))
  have oxcσ30 : OX o σ σ30 := oxcσ29.tr (OX.fx cσ30 (by decide) (by decide)) (xσ27.trans xσ29)
  have kp36 : gI σ30 J 1 = gI σ29 J 1 := (cσ30.O (kJ.up (xσ27.trans xσ29)) (by decide)).1
  have kp37 : gI σ30 J 7 = gI σ29 J 7 := (cσ30.O (kJ.up (xσ27.trans xσ29)) (by decide)).1
  have kp38 : gI σ30 o 3 = gI σ29 o 3 := (cσ30.O (ko.up (xσ27.trans xσ29)) (by decide)).1
  have kp39 : gI σ30 o 4 = gI σ29 o 4 := (cσ30.O (ko.up (xσ27.trans xσ29)) (by decide)).1
  have kp40 : gI σ30 o 6 = gI σ29 o 6 := (cσ30.O (ko.up (xσ27.trans xσ29)) (by decide)).1
  have kp41 : gI σ30 o 7 = gI σ29 o 7 := (cσ30.O (ko.up (xσ27.trans xσ29)) (by decide)).1
  have kp42 : gI σ30 o 8 = gI σ29 o 8 := (cσ30.O (ko.up (xσ27.trans xσ29)) (by decide)).1
  have kp43 : gP σ30 th 0 = gP σ29 th 0 := (cσ30.O (kth.up (xσ27.trans xσ29)) (by decide)).2.1
  have kp44 : gP σ30 th 7 = gP σ29 th 7 := (cσ30.O (kth.up (xσ27.trans xσ29)) (by decide)).2.1
  have kp45 : gP σ30 th 8 = gP σ29 th 8 := (cσ30.O (kth.up (xσ27.trans xσ29)) (by decide)).2.1
  have kp46 : gI σ30 th 2 = gI σ29 th 2 := (cσ30.O (kth.up (xσ27.trans xσ29)) (by decide)).1
  have kp47 : gI σ30 th 3 = gI σ29 th 3 := (cσ30.O (kth.up (xσ27.trans xσ29)) (by decide)).1
  have kp48 : gI σ30 th 5 = gI σ29 th 5 := (cσ30.O (kth.up (xσ27.trans xσ29)) (by decide)).1
  have kp49 : gI σ30 J 2 = gI σ29 J 2 := (cσ30.O (kJ.up (xσ27.trans xσ29)) (by decide)).1
  have kp50 : gI σ30 o 9 = gI σ29 o 9 := (cσ30.O (ko.up (xσ27.trans xσ29)) (by decide)).1
  refine ⟨o, (kp30.trans (kp18.trans h8)), fun kk_o_1 => ?_⟩
  intro σ33 eσ33
  have xσ33 : Ext σ30 σ33 := by rw [eσ33]; exact fun _ h => ⟨h, rfl, rfl⟩
  have iσ33 : IV σ33 pl gq ci gr nc ot LL N nu := by rw [eσ33]; exact iσ30.wSp (ko.up (xσ27.trans (xσ29.trans xσ30))) (fun i hi => by omega) (by decide) (show (0 : Int) ≤ r31 ∧ r31 ≤ 9 from ⟨by omega, by omega⟩)
  have fσ33 : Fx [323, 326, 329, 330, 386, 387, 388, 389, 390, 6464, 8320] gr σ σ33 := fσ30.tr (Sk.fx (by rw [eσ33]; exact Sk.pI (by rw [fcdO (ko.up (xσ27.trans (xσ29.trans xσ30))) (by decide)]; decide)))
  have oxcσ33 : OX o σ σ33 := oxcσ30.tr (by rw [eσ33]; exact OX.pI (ko.up (xσ27.trans (xσ29.trans xσ30))) (Or.inr rfl)) (xσ27.trans (xσ29.trans xσ30))
  have wσ33 : gI σ33 o 9 = r31 := by rw [eσ33]; exact up2_s _ _ _ _
  have kp51 : gI σ33 J 1 = gI σ30 J 1 := by rw [eσ33]; exact up2_n _ _ (fun q => absurd q.2 (by decide))
  have kp52 : gI σ33 J 7 = gI σ30 J 7 := by rw [eσ33]; exact up2_n _ _ (fun q => absurd q.2 (by decide))
  have kp53 : gI σ33 o 3 = gI σ30 o 3 := by rw [eσ33]; exact up2_n _ _ (fun q => absurd q.2 (by decide))
  have kp54 : gI σ33 o 4 = gI σ30 o 4 := by rw [eσ33]; exact up2_n _ _ (fun q => absurd q.2 (by decide))
  have kp55 : gI σ33 o 6 = gI σ30 o 6 := by rw [eσ33]; exact up2_n _ _ (fun q => absurd q.2 (by decide))
  have kp56 : gI σ33 o 7 = gI σ30 o 7 := by rw [eσ33]; exact up2_n _ _ (fun q => absurd q.2 (by decide))
  have kp57 : gI σ33 o 8 = gI σ30 o 8 := by rw [eσ33]; exact up2_n _ _ (fun q => absurd q.2 (by decide))
  have kp58 : gP σ33 th 0 = gP σ30 th 0 := by rw [eσ33]
  have kp59 : gP σ33 th 7 = gP σ30 th 7 := by rw [eσ33]
  have kp60 : gP σ33 th 8 = gP σ30 th 8 := by rw [eσ33]
  have kp61 : gI σ33 th 2 = gI σ30 th 2 := by rw [eσ33]; exact up2_n _ _ (fun q => absurd q.2 (by decide))
  have kp62 : gI σ33 th 3 = gI σ30 th 3 := by rw [eσ33]; exact up2_n _ _ (fun q => absurd q.2 (by decide))
  have kp63 : gI σ33 th 5 = gI σ30 th 5 := by rw [eσ33]; exact up2_n _ _ (fun q => absurd q.2 (by decide))
  have kp64 : gI σ33 J 2 = gI σ30 J 2 := by rw [eσ33]; exact up2_n _ _ (fun q => absurd q.2 (by decide))
  refine ⟨J, (kp59.trans (kp44.trans (kp29.trans (kp17.trans h7)))), fun kk_J => ?_⟩
  refine ⟨o, (kp60.trans (kp45.trans (kp30.trans (kp18.trans h8)))), fun kk_o_2 => ?_⟩
  obtain ⟨b, eb, fb⟩ := P_4_4 iσ33.1 (kJ.up (xσ27.trans (xσ29.trans (xσ30.trans xσ33))))
  have mb : kO σ33 b 100 := iσ33.1.kd (kJ.up (xσ27.trans (xσ29.trans (xσ30.trans xσ33)))) rfl eb rfl
  refine ⟨b, eb, fun kk_b => ?_⟩
  refine ⟨⟨by (first | omega | with_reducible assumption | with_reducible exact rng_toInt _ | with_reducible exact rng_wr _ | (unfold rng; omega) | (unfold rng at *; omega) | assumption), by (first | omega | with_reducible assumption | with_reducible exact rng_toInt _ | with_reducible exact rng_wr _ | (unfold rng; omega) | (unfold rng at *; omega) | assumption)⟩, ?_⟩
  have q66 := iσ33.rg b (gI σ33 o 9).toNat; unfold rng at q66
  by_cases hc65 : (gI σ33 b (gI σ33 o 9).toNat) = (-1)
  · rw [if_pos hc65]
    unfold w_X6_sourceText_50
    refine ⟨J, (kp59.trans (kp44.trans (kp29.trans (kp17.trans h7)))), fun kk_J_1 => ?_⟩
    refine ⟨o, (kp60.trans (kp45.trans (kp30.trans (kp18.trans h8)))), fun kk_o_3 => ?_⟩
    refine ⟨b, eb, fun kk_b_1 => ?_⟩
    refine ⟨⟨by (first | omega | with_reducible assumption | with_reducible exact rng_toInt _ | with_reducible exact rng_wr _ | (unfold rng; omega) | (unfold rng at *; omega) | assumption), by (first | omega | with_reducible assumption | with_reducible exact rng_toInt _ | with_reducible exact rng_wr _ | (unfold rng; omega) | (unfold rng at *; omega) | assumption)⟩, ?_⟩
    intro σ41 eσ41
    have xσ41 : Ext σ33 σ41 := by rw [eσ41]; exact fun _ h => ⟨h, rfl, rfl⟩
    have iσ41 : IV σ41 pl gq ci gr nc ot LL N nu := by rw [eσ41]; exact iσ33.wA0 mb (by (first | omega | with_reducible assumption | with_reducible exact rng_toInt _ | with_reducible exact rng_wr _ | (unfold rng; omega) | (unfold rng at *; omega) | assumption)) (by first | exact rng_wr _ | (first | omega | with_reducible assumption | with_reducible exact rng_toInt _ | with_reducible exact rng_wr _ | (unfold rng; omega) | (unfold rng at *; omega) | assumption))
    have fσ41 : Fx [323, 326, 329, 330, 386, 387, 388, 389, 390, 6464, 8320] gr σ σ41 := fσ33.tr (Sk.fx (by rw [eσ41]; exact Sk.pI (by rw [fcdI mb, show gr b = 0 from by (first | omega | with_reducible assumption | with_reducible exact rng_toInt _ | with_reducible exact rng_wr _ | (unfold rng; omega) | (unfold rng at *; omega) | assumption)]; decide)))
    have oxcσ41 : OX o σ σ41 := oxcσ33.tr (by rw [eσ41]; exact OX.pI mb (Or.inl (by decide))) (xσ27.trans (xσ29.trans (xσ30.trans xσ33)))
    have wσ41 : gI σ41 b (gI σ33 o 9).toNat = (gI σ33 J 1) := by rw [eσ41]; exact up2_s _ _ _ _
    have kp67 : gI σ41 J 1 = gI σ33 J 1 := by rw [eσ41]; exact up2_n _ _ (fun q => absurd q.1 (kO.ne (kJ.up (xσ27.trans (xσ29.trans (xσ30.trans xσ33)))) mb (by decide)))
    have kp68 : gI σ41 J 7 = gI σ33 J 7 := by rw [eσ41]; exact up2_n _ _ (fun q => absurd q.1 (kO.ne (kJ.up (xσ27.trans (xσ29.trans (xσ30.trans xσ33)))) mb (by decide)))
    have kp69 : gI σ41 o 3 = gI σ33 o 3 := by rw [eσ41]; exact up2_n _ _ (fun q => absurd q.1 (kO.ne (ko.up (xσ27.trans (xσ29.trans (xσ30.trans xσ33)))) mb (by decide)))
    have kp70 : gI σ41 o 4 = gI σ33 o 4 := by rw [eσ41]; exact up2_n _ _ (fun q => absurd q.1 (kO.ne (ko.up (xσ27.trans (xσ29.trans (xσ30.trans xσ33)))) mb (by decide)))
    have kp71 : gI σ41 o 6 = gI σ33 o 6 := by rw [eσ41]; exact up2_n _ _ (fun q => absurd q.1 (kO.ne (ko.up (xσ27.trans (xσ29.trans (xσ30.trans xσ33)))) mb (by decide)))
    have kp72 : gI σ41 o 7 = gI σ33 o 7 := by rw [eσ41]; exact up2_n _ _ (fun q => absurd q.1 (kO.ne (ko.up (xσ27.trans (xσ29.trans (xσ30.trans xσ33)))) mb (by decide)))
    have kp73 : gI σ41 o 8 = gI σ33 o 8 := by rw [eσ41]; exact up2_n _ _ (fun q => absurd q.1 (kO.ne (ko.up (xσ27.trans (xσ29.trans (xσ30.trans xσ33)))) mb (by decide)))
    have kp74 : gI σ41 o 9 = gI σ33 o 9 := by rw [eσ41]; exact up2_n _ _ (fun q => absurd q.1 (kO.ne (ko.up (xσ27.trans (xσ29.trans (xσ30.trans xσ33)))) mb (by decide)))
    have kp75 : gP σ41 J 4 = gP σ33 J 4 := by rw [eσ41]
    have kp76 : gP σ41 th 0 = gP σ33 th 0 := by rw [eσ41]
    have kp77 : gP σ41 th 7 = gP σ33 th 7 := by rw [eσ41]
    have kp78 : gP σ41 th 8 = gP σ33 th 8 := by rw [eσ41]
    have kp79 : gI σ41 th 2 = gI σ33 th 2 := by rw [eσ41]; exact up2_n _ _ (fun q => absurd q.1 (kO.ne (kth.up (xσ27.trans (xσ29.trans (xσ30.trans xσ33)))) mb (by decide)))
    have kp80 : gI σ41 th 3 = gI σ33 th 3 := by rw [eσ41]; exact up2_n _ _ (fun q => absurd q.1 (kO.ne (kth.up (xσ27.trans (xσ29.trans (xσ30.trans xσ33)))) mb (by decide)))
    have kp81 : gI σ41 th 5 = gI σ33 th 5 := by rw [eσ41]; exact up2_n _ _ (fun q => absurd q.1 (kO.ne (kth.up (xσ27.trans (xσ29.trans (xσ30.trans xσ33)))) mb (by decide)))
    have kp82 : gI σ41 J 2 = gI σ33 J 2 := by rw [eσ41]; exact up2_n _ _ (fun q => absurd q.1 (kO.ne (kJ.up (xσ27.trans (xσ29.trans (xσ30.trans xσ33)))) mb (by decide)))
    refine i_X6_next iσ41 (kth.up (xσ27.trans (xσ29.trans (xσ30.trans (xσ33.trans xσ41))))) (kp76.trans (kp58.trans (kp43.trans (kp28.trans (kp16.trans hX0))))) (kX.up (xσ27.trans (xσ29.trans (xσ30.trans (xσ33.trans xσ41))))) (((xσ27.trans (xσ29.trans (xσ30.trans (xσ33.trans xσ41)))) tx kX.1).2.2.trans gX) (by (first | omega | with_reducible assumption | with_reducible exact rng_toInt _ | with_reducible exact rng_wr _ | (unfold rng; omega) | (unfold rng at *; omega) | assumption)) (by (first | omega | with_reducible assumption | with_reducible exact rng_toInt _ | with_reducible exact rng_wr _ | (unfold rng; omega) | (unfold rng at *; omega) | assumption)) (fun σ42 _ iσ42 cσ42 pσ42 => ?_) (fun σx LLx Nx nux E ix cx ux px => hX σx LLx Nx nux E ix (fσ41.tr (cx.mo (by decide))) (ux) (by first | exact px | exact ⟨by have := px.1; omega, px.2⟩ | (first | omega | with_reducible assumption | with_reducible exact rng_toInt _ | with_reducible exact rng_wr _ | (unfold rng; omega) | (unfold rng at *; omega) | assumption)))
    intro xσ42
    have fσ42 : Fx [323, 326, 329, 330, 386, 387, 388, 389, 390, 6464, 8320] gr σ σ42 := fσ41.tr (cσ42.mo (by decide))
    have oxcσ42 : OX o σ σ42 := oxcσ41.tr (OX.fx cσ42 (by decide) (by decide)) (xσ27.trans (xσ29.trans (xσ30.trans (xσ33.trans xσ41))))
    have kp83 : gI σ42 J 1 = gI σ41 J 1 := (cσ42.O (kJ.up (xσ27.trans (xσ29.trans (xσ30.trans (xσ33.trans xσ41))))) (by decide)).1
    have kp84 : gI σ42 J 7 = gI σ41 J 7 := (cσ42.O (kJ.up (xσ27.trans (xσ29.trans (xσ30.trans (xσ33.trans xσ41))))) (by decide)).1
    have kp85 : gI σ42 o 3 = gI σ41 o 3 := (cσ42.O (ko.up (xσ27.trans (xσ29.trans (xσ30.trans (xσ33.trans xσ41))))) (by decide)).1
    have kp86 : gI σ42 o 4 = gI σ41 o 4 := (cσ42.O (ko.up (xσ27.trans (xσ29.trans (xσ30.trans (xσ33.trans xσ41))))) (by decide)).1
    have kp87 : gI σ42 o 6 = gI σ41 o 6 := (cσ42.O (ko.up (xσ27.trans (xσ29.trans (xσ30.trans (xσ33.trans xσ41))))) (by decide)).1
    have kp88 : gI σ42 o 7 = gI σ41 o 7 := (cσ42.O (ko.up (xσ27.trans (xσ29.trans (xσ30.trans (xσ33.trans xσ41))))) (by decide)).1
    have kp89 : gI σ42 o 8 = gI σ41 o 8 := (cσ42.O (ko.up (xσ27.trans (xσ29.trans (xσ30.trans (xσ33.trans xσ41))))) (by decide)).1
    have kp90 : gI σ42 o 9 = gI σ41 o 9 := (cσ42.O (ko.up (xσ27.trans (xσ29.trans (xσ30.trans (xσ33.trans xσ41))))) (by decide)).1
    have kp91 : gP σ42 J 4 = gP σ41 J 4 := (cσ42.O (kJ.up (xσ27.trans (xσ29.trans (xσ30.trans (xσ33.trans xσ41))))) (by decide)).2.1
    have kp92 : gP σ42 th 0 = gP σ41 th 0 := (cσ42.O (kth.up (xσ27.trans (xσ29.trans (xσ30.trans (xσ33.trans xσ41))))) (by decide)).2.1
    have kp93 : gP σ42 th 7 = gP σ41 th 7 := (cσ42.O (kth.up (xσ27.trans (xσ29.trans (xσ30.trans (xσ33.trans xσ41))))) (by decide)).2.1
    have kp94 : gP σ42 th 8 = gP σ41 th 8 := (cσ42.O (kth.up (xσ27.trans (xσ29.trans (xσ30.trans (xσ33.trans xσ41))))) (by decide)).2.1
    have kp95 : gI σ42 J 2 = gI σ41 J 2 := (cσ42.O (kJ.up (xσ27.trans (xσ29.trans (xσ30.trans (xσ33.trans xσ41))))) (by decide)).1
    have r5σ42 := I_6_5 iσ42.1 (kth.up (xσ27.trans (xσ29.trans (xσ30.trans (xσ33.trans (xσ41.trans xσ42))))))
    refine i_X6_wantSign iσ42 (kth.up (xσ27.trans (xσ29.trans (xσ30.trans (xσ33.trans (xσ41.trans xσ42)))))) (kp92.trans (kp76.trans (kp58.trans (kp43.trans (kp28.trans (kp16.trans hX0)))))) (kX.up (xσ27.trans (xσ29.trans (xσ30.trans (xσ33.trans (xσ41.trans xσ42)))))) (((xσ27.trans (xσ29.trans (xσ30.trans (xσ33.trans (xσ41.trans xσ42))))) tx kX.1).2.2.trans gX) (by (first | omega | with_reducible assumption | with_reducible exact rng_toInt _ | with_reducible exact rng_wr _ | (unfold rng; omega) | (unfold rng at *; omega) | assumption)) (by (first | omega | with_reducible assumption | with_reducible exact rng_toInt _ | with_reducible exact rng_wr _ | (unfold rng; omega) | (unfold rng at *; omega) | assumption)) (fun σ43 _ iσ43 cσ43 pσ43 => ?_) (fun σx LLx Nx nux E ix cx ux px => hX σx LLx Nx nux E ix (fσ42.tr (cx.mo (by decide))) (ux) (by first | exact px | exact ⟨by have := px.1; omega, px.2⟩ | (first | omega | with_reducible assumption | with_reducible exact rng_toInt _ | with_reducible exact rng_wr _ | (unfold rng; omega) | (unfold rng at *; omega) | assumption)))
    intro xσ43
    have fσ43 : Fx [323, 326, 329, 330, 386, 387, 388, 389, 390, 6464, 8320] gr σ σ43 := fσ42.tr (cσ43.mo (by decide))
    have oxcσ43 : OX o σ σ43 := oxcσ42.tr (OX.fx cσ43 (by decide) (by decide)) (xσ27.trans (xσ29.trans (xσ30.trans (xσ33.trans (xσ41.trans xσ42)))))
    have kp96 : gI σ43 J 1 = gI σ42 J 1 := (cσ43.O (kJ.up (xσ27.trans (xσ29.trans (xσ30.trans (xσ33.trans (xσ41.trans xσ42)))))) (by decide)).1
    have kp97 : gI σ43 J 7 = gI σ42 J 7 := (cσ43.O (kJ.up (xσ27.trans (xσ29.trans (xσ30.trans (xσ33.trans (xσ41.trans xσ42)))))) (by decide)).1
    have kp98 : gI σ43 o 3 = gI σ42 o 3 := (cσ43.O (ko.up (xσ27.trans (xσ29.trans (xσ30.trans (xσ33.trans (xσ41.trans xσ42)))))) (by decide)).1
    have kp99 : gI σ43 o 4 = gI σ42 o 4 := (cσ43.O (ko.up (xσ27.trans (xσ29.trans (xσ30.trans (xσ33.trans (xσ41.trans xσ42)))))) (by decide)).1
    have kp100 : gI σ43 o 6 = gI σ42 o 6 := (cσ43.O (ko.up (xσ27.trans (xσ29.trans (xσ30.trans (xσ33.trans (xσ41.trans xσ42)))))) (by decide)).1
    have kp101 : gI σ43 o 7 = gI σ42 o 7 := (cσ43.O (ko.up (xσ27.trans (xσ29.trans (xσ30.trans (xσ33.trans (xσ41.trans xσ42)))))) (by decide)).1
    have kp102 : gI σ43 o 8 = gI σ42 o 8 := (cσ43.O (ko.up (xσ27.trans (xσ29.trans (xσ30.trans (xσ33.trans (xσ41.trans xσ42)))))) (by decide)).1
    have kp103 : gI σ43 o 9 = gI σ42 o 9 := (cσ43.O (ko.up (xσ27.trans (xσ29.trans (xσ30.trans (xσ33.trans (xσ41.trans xσ42)))))) (by decide)).1
    have kp104 : gP σ43 J 4 = gP σ42 J 4 := (cσ43.O (kJ.up (xσ27.trans (xσ29.trans (xσ30.trans (xσ33.trans (xσ41.trans xσ42)))))) (by decide)).2.1
    have kp105 : gP σ43 th 0 = gP σ42 th 0 := (cσ43.O (kth.up (xσ27.trans (xσ29.trans (xσ30.trans (xσ33.trans (xσ41.trans xσ42)))))) (by decide)).2.1
    have kp106 : gP σ43 th 7 = gP σ42 th 7 := (cσ43.O (kth.up (xσ27.trans (xσ29.trans (xσ30.trans (xσ33.trans (xσ41.trans xσ42)))))) (by decide)).2.1
    have kp107 : gP σ43 th 8 = gP σ42 th 8 := (cσ43.O (kth.up (xσ27.trans (xσ29.trans (xσ30.trans (xσ33.trans (xσ41.trans xσ42)))))) (by decide)).2.1
    have kp108 : gI σ43 J 2 = gI σ42 J 2 := (cσ43.O (kJ.up (xσ27.trans (xσ29.trans (xσ30.trans (xσ33.trans (xσ41.trans xσ42)))))) (by decide)).1
    have r5σ43 := I_6_5 iσ43.1 (kth.up (xσ27.trans (xσ29.trans (xσ30.trans (xσ33.trans (xσ41.trans (xσ42.trans xσ43)))))))
    refine i_X6_newColumn iσ43 (kth.up (xσ27.trans (xσ29.trans (xσ30.trans (xσ33.trans (xσ41.trans (xσ42.trans xσ43))))))) (kp105.trans (kp92.trans (kp76.trans (kp58.trans (kp43.trans (kp28.trans (kp16.trans hX0))))))) (kX.up (xσ27.trans (xσ29.trans (xσ30.trans (xσ33.trans (xσ41.trans (xσ42.trans xσ43))))))) (((xσ27.trans (xσ29.trans (xσ30.trans (xσ33.trans (xσ41.trans (xσ42.trans xσ43)))))) tx kX.1).2.2.trans gX) (kp107.trans (kp94.trans (kp78.trans (kp60.trans (kp45.trans (kp30.trans (kp18.trans h8))))))) (ko.up (xσ27.trans (xσ29.trans (xσ30.trans (xσ33.trans (xσ41.trans (xσ42.trans xσ43))))))) (by (first | omega | with_reducible assumption | with_reducible exact rng_toInt _ | with_reducible exact rng_wr _ | (unfold rng; omega) | (unfold rng at *; omega) | assumption)) (by (first | omega | with_reducible assumption | with_reducible exact rng_toInt _ | with_reducible exact rng_wr _ | (unfold rng; omega) | (unfold rng at *; omega) | assumption)) (by (first | omega | with_reducible assumption | with_reducible exact rng_toInt _ | with_reducible exact rng_wr _ | (unfold rng; omega) | (unfold rng at *; omega) | assumption)) (by (first | omega | with_reducible assumption | with_reducible exact rng_toInt _ | with_reducible exact rng_wr _ | (unfold rng; omega) | (unfold rng at *; omega) | assumption)) (by (first | omega | with_reducible assumption | with_reducible exact rng_toInt _ | with_reducible exact rng_wr _ | (unfold rng; omega) | (unfold rng at *; omega) | assumption)) (fun σ44 _ iσ44 cσ44 oxσ44 pσ44 => ?_) (fun σx LLx Nx nux E ix cx ux px => hX σx LLx Nx nux E ix (fσ43.tr (cx.mo (by decide))) (ux) (by first | exact px | exact ⟨by have := px.1; omega, px.2⟩ | (first | omega | with_reducible assumption | with_reducible exact rng_toInt _ | with_reducible exact rng_wr _ | (unfold rng; omega) | (unfold rng at *; omega) | assumption)))
    intro xσ44
    have fσ44 : Fx [323, 326, 329, 330, 386, 387, 388, 389, 390, 6464, 8320] gr σ σ44 := fσ43.tr (cσ44.mo (by decide))
    have oxcσ44 : OX o σ σ44 := oxcσ43.tr oxσ44 (xσ27.trans (xσ29.trans (xσ30.trans (xσ33.trans (xσ41.trans (xσ42.trans xσ43))))))
    have kp109 : gI σ44 J 1 = gI σ43 J 1 := (cσ44.O (kJ.up (xσ27.trans (xσ29.trans (xσ30.trans (xσ33.trans (xσ41.trans (xσ42.trans xσ43))))))) (by decide)).1
    have kp110 : gI σ44 J 7 = gI σ43 J 7 := (cσ44.O (kJ.up (xσ27.trans (xσ29.trans (xσ30.trans (xσ33.trans (xσ41.trans (xσ42.trans xσ43))))))) (by decide)).1
    have kp111 : gI σ44 o 4 = gI σ43 o 4 := (cσ44.O (ko.up (xσ27.trans (xσ29.trans (xσ30.trans (xσ33.trans (xσ41.trans (xσ42.trans xσ43))))))) (by decide)).1
    have kp112 : gI σ44 o 6 = gI σ43 o 6 := (cσ44.O (ko.up (xσ27.trans (xσ29.trans (xσ30.trans (xσ33.trans (xσ41.trans (xσ42.trans xσ43))))))) (by decide)).1
    have kp113 : gI σ44 o 7 = gI σ43 o 7 := (cσ44.O (ko.up (xσ27.trans (xσ29.trans (xσ30.trans (xσ33.trans (xσ41.trans (xσ42.trans xσ43))))))) (by decide)).1
    have kp114 : gI σ44 o 8 = gI σ43 o 8 := (cσ44.O (ko.up (xσ27.trans (xσ29.trans (xσ30.trans (xσ33.trans (xσ41.trans (xσ42.trans xσ43))))))) (by decide)).1
    have kp115 : gI σ44 o 9 = gI σ43 o 9 := (cσ44.O (ko.up (xσ27.trans (xσ29.trans (xσ30.trans (xσ33.trans (xσ41.trans (xσ42.trans xσ43))))))) (by decide)).1
    have kp116 : gP σ44 J 4 = gP σ43 J 4 := (cσ44.O (kJ.up (xσ27.trans (xσ29.trans (xσ30.trans (xσ33.trans (xσ41.trans (xσ42.trans xσ43))))))) (by decide)).2.1
    have kp117 : gP σ44 th 0 = gP σ43 th 0 := (cσ44.O (kth.up (xσ27.trans (xσ29.trans (xσ30.trans (xσ33.trans (xσ41.trans (xσ42.trans xσ43))))))) (by decide)).2.1
    have kp118 : gP σ44 th 7 = gP σ43 th 7 := (cσ44.O (kth.up (xσ27.trans (xσ29.trans (xσ30.trans (xσ33.trans (xσ41.trans (xσ42.trans xσ43))))))) (by decide)).2.1
    have kp119 : gP σ44 th 8 = gP σ43 th 8 := (cσ44.O (kth.up (xσ27.trans (xσ29.trans (xσ30.trans (xσ33.trans (xσ41.trans (xσ42.trans xσ43))))))) (by decide)).2.1
    have kp120 : gI σ44 J 2 = gI σ43 J 2 := (cσ44.O (kJ.up (xσ27.trans (xσ29.trans (xσ30.trans (xσ33.trans (xσ41.trans (xσ42.trans xσ43))))))) (by decide)).1
    have r5σ44 := I_6_5 iσ44.1 (kth.up (xσ27.trans (xσ29.trans (xσ30.trans (xσ33.trans (xσ41.trans (xσ42.trans (xσ43.trans xσ44))))))))
    have Lp89 : ∀ (fu89 : Nat) (τ89 : Sg) (v1 : Int), IV τ89 pl gq ci gr nc ot LL N nu → Fx [323, 326, 329, 330, 386, 387, 388, 389, 390, 6464, 8320] gr σ τ89 → Ext σ44 τ89 → OX o σ τ89 → ((0 ≤ v1 ∧ v1 ≤ 4) ∧ (gI τ89 th 5 ≤ gI τ89 th 2 ∧ (gI τ89 th 3 ≠ 0 → gI τ89 th 5 + 1 ≤ gI τ89 th 2)) ∧ gI τ89 J 7 ≤ 2 * gI τ89 th 5 ∧ gI τ89 o 6 = 0 ∧ gI τ89 o 7 = -1 ∧ gI τ89 o 8 = -1 ∧ 0 ≤ gI τ89 o 9 ∧ gI τ89 o 9 ≤ 3) → ((4 - v1).toNat) < fu89 → wl_X6_sourceText_89 th Q X fu89 τ89 v1 := by
      intro fu89
      induction fu89 with
      | zero => intro _ _ _ _ _ _ _ h9; omega
      | succ fu89 ih89 =>
        intro τ89 v1 iτ89 fτ89 xτ89 oxcτ89 hi89 hm89
        unfold wl_X6_sourceText_89
        have kp121 : gI τ89 J 1 = gI σ J 1 := (fτ89.O kJ (by decide)).1
        have kp122 : gI τ89 J 7 = gI σ J 7 := (fτ89.O kJ (by decide)).1
        have kp123 : gI τ89 o 4 = gI σ o 4 := (fτ89.O ko (by decide)).1
        have kp124 : gI τ89 o 7 = gI σ o 7 := (fτ89.O ko (by decide)).1
        have kp125 : gI τ89 o 8 = gI σ o 8 := (fτ89.O ko (by decide)).1
        have kp126 : gP τ89 th 0 = gP σ th 0 := (fτ89.O kth (by decide)).2.1
        have kp127 : gP τ89 th 7 = gP σ th 7 := (fτ89.O kth (by decide)).2.1
        have kp128 : gP τ89 th 8 = gP σ th 8 := (fτ89.O kth (by decide)).2.1
        have kp129 : gI τ89 J 2 = gI σ J 2 := (fτ89.O kJ (by decide)).1
        have kp130 : gI τ89 J 1 = gI σ44 J 1 := (fτ89.O kJ (by decide)).1.trans (fσ44.O kJ (by decide)).1.symm
        have kp131 : gI τ89 J 7 = gI σ44 J 7 := (fτ89.O kJ (by decide)).1.trans (fσ44.O kJ (by decide)).1.symm
        have kp132 : gI τ89 o 4 = gI σ44 o 4 := (fτ89.O ko (by decide)).1.trans (fσ44.O ko (by decide)).1.symm
        have kp133 : gI τ89 o 7 = gI σ44 o 7 := (fτ89.O ko (by decide)).1.trans (fσ44.O ko (by decide)).1.symm
        have kp134 : gI τ89 o 8 = gI σ44 o 8 := (fτ89.O ko (by decide)).1.trans (fσ44.O ko (by decide)).1.symm
        have kp135 : gP τ89 J 4 = gP σ44 J 4 := (fτ89.O kJ (by decide)).2.1.trans (fσ44.O kJ (by decide)).2.1.symm
        have kp136 : gI τ89 J 2 = gI σ44 J 2 := (fτ89.O kJ (by decide)).1.trans (fσ44.O kJ (by decide)).1.symm
        unfold w_X6_sourceText_89
        by_cases hc137 : v1 ≥ 4
        · rw [if_pos hc137]
          unfold w_X6_sourceText_113
          refine i_X6_wantSign iτ89 (kth.up (xσ27.trans (xσ29.trans (xσ30.trans (xσ33.trans (xσ41.trans (xσ42.trans (xσ43.trans (xσ44.trans xτ89))))))))) (kp126.trans hX0) (kX.up (xσ27.trans (xσ29.trans (xσ30.trans (xσ33.trans (xσ41.trans (xσ42.trans (xσ43.trans (xσ44.trans xτ89))))))))) (((xσ27.trans (xσ29.trans (xσ30.trans (xσ33.trans (xσ41.trans (xσ42.trans (xσ43.trans (xσ44.trans xτ89)))))))) tx kX.1).2.2.trans gX) (by (first | omega | with_reducible assumption | with_reducible exact rng_toInt _ | with_reducible exact rng_wr _ | (unfold rng; omega) | (unfold rng at *; omega) | assumption)) (by (first | omega | with_reducible assumption | with_reducible exact rng_toInt _ | with_reducible exact rng_wr _ | (unfold rng; omega) | (unfold rng at *; omega) | assumption)) (fun σ46 _ iσ46 cσ46 pσ46 => ?_) (fun σx LLx Nx nux E ix cx ux px => hX σx LLx Nx nux E ix (fτ89.tr (cx.mo (by decide))) (ux) (by first | exact px | exact ⟨by have := px.1; omega, px.2⟩ | (first | omega | with_reducible assumption | with_reducible exact rng_toInt _ | with_reducible exact rng_wr _ | (unfold rng; omega) | (unfold rng at *; omega) | assumption)))
          intro xσ46
          have fσ46 : Fx [323, 326, 329, 330, 386, 387, 388, 389, 390, 6464, 8320] gr σ σ46 := fτ89.tr (cσ46.mo (by decide))
          have oxcσ46 : OX o σ σ46 := oxcτ89.tr (OX.fx cσ46 (by decide) (by decide)) (xσ27.trans (xσ29.trans (xσ30.trans (xσ33.trans (xσ41.trans (xσ42.trans (xσ43.trans (xσ44.trans xτ89))))))))
          have kp138 : gI σ46 J 1 = gI τ89 J 1 := (cσ46.O (kJ.up (xσ27.trans (xσ29.trans (xσ30.trans (xσ33.trans (xσ41.trans (xσ42.trans (xσ43.trans (xσ44.trans xτ89))))))))) (by decide)).1
          have kp139 : gI σ46 J 7 = gI τ89 J 7 := (cσ46.O (kJ.up (xσ27.trans (xσ29.trans (xσ30.trans (xσ33.trans (xσ41.trans (xσ42.trans (xσ43.trans (xσ44.trans xτ89))))))))) (by decide)).1
          have kp140 : gI σ46 o 4 = gI τ89 o 4 := (cσ46.O (ko.up (xσ27.trans (xσ29.trans (xσ30.trans (xσ33.trans (xσ41.trans (xσ42.trans (xσ43.trans (xσ44.trans xτ89))))))))) (by decide)).1
          have kp141 : gI σ46 o 7 = gI τ89 o 7 := (cσ46.O (ko.up (xσ27.trans (xσ29.trans (xσ30.trans (xσ33.trans (xσ41.trans (xσ42.trans (xσ43.trans (xσ44.trans xτ89))))))))) (by decide)).1
          have kp142 : gI σ46 o 8 = gI τ89 o 8 := (cσ46.O (ko.up (xσ27.trans (xσ29.trans (xσ30.trans (xσ33.trans (xσ41.trans (xσ42.trans (xσ43.trans (xσ44.trans xτ89))))))))) (by decide)).1
          have kp143 : gP σ46 J 4 = gP τ89 J 4 := (cσ46.O (kJ.up (xσ27.trans (xσ29.trans (xσ30.trans (xσ33.trans (xσ41.trans (xσ42.trans (xσ43.trans (xσ44.trans xτ89))))))))) (by decide)).2.1
          have kp144 : gP σ46 th 0 = gP τ89 th 0 := (cσ46.O (kth.up (xσ27.trans (xσ29.trans (xσ30.trans (xσ33.trans (xσ41.trans (xσ42.trans (xσ43.trans (xσ44.trans xτ89))))))))) (by decide)).2.1
          have kp145 : gP σ46 th 7 = gP τ89 th 7 := (cσ46.O (kth.up (xσ27.trans (xσ29.trans (xσ30.trans (xσ33.trans (xσ41.trans (xσ42.trans (xσ43.trans (xσ44.trans xτ89))))))))) (by decide)).2.1
          have kp146 : gP σ46 th 8 = gP τ89 th 8 := (cσ46.O (kth.up (xσ27.trans (xσ29.trans (xσ30.trans (xσ33.trans (xσ41.trans (xσ42.trans (xσ43.trans (xσ44.trans xτ89))))))))) (by decide)).2.1
          have kp147 : gI σ46 J 2 = gI τ89 J 2 := (cσ46.O (kJ.up (xσ27.trans (xσ29.trans (xσ30.trans (xσ33.trans (xσ41.trans (xσ42.trans (xσ43.trans (xσ44.trans xτ89))))))))) (by decide)).1
          have kp148 : gI σ46 o 3 = gI τ89 o 3 := (cσ46.O (ko.up (xσ27.trans (xσ29.trans (xσ30.trans (xσ33.trans (xσ41.trans (xσ42.trans (xσ43.trans (xσ44.trans xτ89))))))))) (by decide)).1
          have kp149 : gI σ46 o 6 = gI τ89 o 6 := (cσ46.O (ko.up (xσ27.trans (xσ29.trans (xσ30.trans (xσ33.trans (xσ41.trans (xσ42.trans (xσ43.trans (xσ44.trans xτ89))))))))) (by decide)).1
          have kp150 : gI σ46 o 9 = gI τ89 o 9 := (cσ46.O (ko.up (xσ27.trans (xσ29.trans (xσ30.trans (xσ33.trans (xσ41.trans (xσ42.trans (xσ43.trans (xσ44.trans xτ89))))))))) (by decide)).1
          have r5σ46 := I_6_5 iσ46.1 (kth.up (xσ27.trans (xσ29.trans (xσ30.trans (xσ33.trans (xσ41.trans (xσ42.trans (xσ43.trans (xσ44.trans (xτ89.trans xσ46))))))))))
          refine i_X6_wantWord iσ46 (kth.up (xσ27.trans (xσ29.trans (xσ30.trans (xσ33.trans (xσ41.trans (xσ42.trans (xσ43.trans (xσ44.trans (xτ89.trans xσ46)))))))))) (kp144.trans (kp126.trans hX0)) (kX.up (xσ27.trans (xσ29.trans (xσ30.trans (xσ33.trans (xσ41.trans (xσ42.trans (xσ43.trans (xσ44.trans (xτ89.trans xσ46)))))))))) (((xσ27.trans (xσ29.trans (xσ30.trans (xσ33.trans (xσ41.trans (xσ42.trans (xσ43.trans (xσ44.trans (xτ89.trans xσ46))))))))) tx kX.1).2.2.trans gX) (by (first | omega | with_reducible assumption | with_reducible exact rng_toInt _ | with_reducible exact rng_wr _ | (unfold rng; omega) | (unfold rng at *; omega) | assumption)) (by (first | omega | with_reducible assumption | with_reducible exact rng_toInt _ | with_reducible exact rng_wr _ | (unfold rng; omega) | (unfold rng at *; omega) | assumption)) (fun σ47 _ iσ47 cσ47 pσ47 => ?_) (fun σx LLx Nx nux E ix cx ux px => hX σx LLx Nx nux E ix (fσ46.tr (cx.mo (by decide))) (ux) (by first | exact px | exact ⟨by have := px.1; omega, px.2⟩ | (first | omega | with_reducible assumption | with_reducible exact rng_toInt _ | with_reducible exact rng_wr _ | (unfold rng; omega) | (unfold rng at *; omega) | assumption)))
          intro xσ47
          have fσ47 : Fx [323, 326, 329, 330, 386, 387, 388, 389, 390, 6464, 8320] gr σ σ47 := fσ46.tr (cσ47.mo (by decide))
          have oxcσ47 : OX o σ σ47 := oxcσ46.tr (OX.fx cσ47 (by decide) (by decide)) (xσ27.trans (xσ29.trans (xσ30.trans (xσ33.trans (xσ41.trans (xσ42.trans (xσ43.trans (xσ44.trans (xτ89.trans xσ46)))))))))
          have kp151 : gI σ47 J 1 = gI σ46 J 1 := (cσ47.O (kJ.up (xσ27.trans (xσ29.trans (xσ30.trans (xσ33.trans (xσ41.trans (xσ42.trans (xσ43.trans (xσ44.trans (xτ89.trans xσ46)))))))))) (by decide)).1
          have kp152 : gI σ47 J 7 = gI σ46 J 7 := (cσ47.O (kJ.up (xσ27.trans (xσ29.trans (xσ30.trans (xσ33.trans (xσ41.trans (xσ42.trans (xσ43.trans (xσ44.trans (xτ89.trans xσ46)))))))))) (by decide)).1
          have kp153 : gI σ47 o 4 = gI σ46 o 4 := (cσ47.O (ko.up (xσ27.trans (xσ29.trans (xσ30.trans (xσ33.trans (xσ41.trans (xσ42.trans (xσ43.trans (xσ44.trans (xτ89.trans xσ46)))))))))) (by decide)).1
          have kp154 : gI σ47 o 7 = gI σ46 o 7 := (cσ47.O (ko.up (xσ27.trans (xσ29.trans (xσ30.trans (xσ33.trans (xσ41.trans (xσ42.trans (xσ43.trans (xσ44.trans (xτ89.trans xσ46)))))))))) (by decide)).1
          have kp155 : gI σ47 o 8 = gI σ46 o 8 := (cσ47.O (ko.up (xσ27.trans (xσ29.trans (xσ30.trans (xσ33.trans (xσ41.trans (xσ42.trans (xσ43.trans (xσ44.trans (xτ89.trans xσ46)))))))))) (by decide)).1
          have kp156 : gP σ47 J 4 = gP σ46 J 4 := (cσ47.O (kJ.up (xσ27.trans (xσ29.trans (xσ30.trans (xσ33.trans (xσ41.trans (xσ42.trans (xσ43.trans (xσ44.trans (xτ89.trans xσ46)))))))))) (by decide)).2.1
          have kp157 : gP σ47 th 0 = gP σ46 th 0 := (cσ47.O (kth.up (xσ27.trans (xσ29.trans (xσ30.trans (xσ33.trans (xσ41.trans (xσ42.trans (xσ43.trans (xσ44.trans (xτ89.trans xσ46)))))))))) (by decide)).2.1
          have kp158 : gP σ47 th 7 = gP σ46 th 7 := (cσ47.O (kth.up (xσ27.trans (xσ29.trans (xσ30.trans (xσ33.trans (xσ41.trans (xσ42.trans (xσ43.trans (xσ44.trans (xτ89.trans xσ46)))))))))) (by decide)).2.1
          have kp159 : gP σ47 th 8 = gP σ46 th 8 := (cσ47.O (kth.up (xσ27.trans (xσ29.trans (xσ30.trans (xσ33.trans (xσ41.trans (xσ42.trans (xσ43.trans (xσ44.trans (xτ89.trans xσ46)))))))))) (by decide)).2.1
          have kp160 : gI σ47 J 2 = gI σ46 J 2 := (cσ47.O (kJ.up (xσ27.trans (xσ29.trans (xσ30.trans (xσ33.trans (xσ41.trans (xσ42.trans (xσ43.trans (xσ44.trans (xτ89.trans xσ46)))))))))) (by decide)).1
          have kp161 : gI σ47 o 3 = gI σ46 o 3 := (cσ47.O (ko.up (xσ27.trans (xσ29.trans (xσ30.trans (xσ33.trans (xσ41.trans (xσ42.trans (xσ43.trans (xσ44.trans (xτ89.trans xσ46)))))))))) (by decide)).1
          have kp162 : gI σ47 o 6 = gI σ46 o 6 := (cσ47.O (ko.up (xσ27.trans (xσ29.trans (xσ30.trans (xσ33.trans (xσ41.trans (xσ42.trans (xσ43.trans (xσ44.trans (xτ89.trans xσ46)))))))))) (by decide)).1
          have kp163 : gI σ47 o 9 = gI σ46 o 9 := (cσ47.O (ko.up (xσ27.trans (xσ29.trans (xσ30.trans (xσ33.trans (xσ41.trans (xσ42.trans (xσ43.trans (xσ44.trans (xτ89.trans xσ46)))))))))) (by decide)).1
          have r5σ47 := I_6_5 iσ47.1 (kth.up (xσ27.trans (xσ29.trans (xσ30.trans (xσ33.trans (xσ41.trans (xσ42.trans (xσ43.trans (xσ44.trans (xτ89.trans (xσ46.trans xσ47)))))))))))
          refine i_X6_number iσ47 (kth.up (xσ27.trans (xσ29.trans (xσ30.trans (xσ33.trans (xσ41.trans (xσ42.trans (xσ43.trans (xσ44.trans (xτ89.trans (xσ46.trans xσ47))))))))))) (by (first | omega | with_reducible assumption | with_reducible exact rng_toInt _ | with_reducible exact rng_wr _ | (unfold rng; omega) | (unfold rng at *; omega) | assumption)) (by (first | omega | with_reducible assumption | with_reducible exact rng_toInt _ | with_reducible exact rng_wr _ | (unfold rng; omega) | (unfold rng at *; omega) | assumption)) (fun σ48 r49 iσ48 cσ48 pσ48 => ?_) (fun σx LLx Nx nux E ix cx ux px => hX σx LLx Nx nux E ix (fσ47.tr (cx.mo (by decide))) (ux) (by first | exact px | exact ⟨by have := px.1; omega, px.2⟩ | (first | omega | with_reducible assumption | with_reducible exact rng_toInt _ | with_reducible exact rng_wr _ | (unfold rng; omega) | (unfold rng at *; omega) | assumption)))
          intro xσ48
          have fσ48 : Fx [323, 326, 329, 330, 386, 387, 388, 389, 390, 6464, 8320] gr σ σ48 := fσ47.tr (cσ48.mo (by decide))
          have oxcσ48 : OX o σ σ48 := oxcσ47.tr (OX.fx cσ48 (by decide) (by decide)) (xσ27.trans (xσ29.trans (xσ30.trans (xσ33.trans (xσ41.trans (xσ42.trans (xσ43.trans (xσ44.trans (xτ89.trans (xσ46.trans xσ47))))))))))
          have kp164 : gI σ48 J 1 = gI σ47 J 1 := (cσ48.O (kJ.up (xσ27.trans (xσ29.trans (xσ30.trans (xσ33.trans (xσ41.trans (xσ42.trans (xσ43.trans (xσ44.trans (xτ89.trans (xσ46.trans xσ47))))))))))) (by decide)).1
          have kp165 : gI σ48 J 7 = gI σ47 J 7 := (cσ48.O (kJ.up (xσ27.trans (xσ29.trans (xσ30.trans (xσ33.trans (xσ41.trans (xσ42.trans (xσ43.trans (xσ44.trans (xτ89.trans (xσ46.trans xσ47))))))))))) (by decide)).1
          have kp166 : gI σ48 o 4 = gI σ47 o 4 := (cσ48.O (ko.up (xσ27.trans (xσ29.trans (xσ30.trans (xσ33.trans (xσ41.trans (xσ42.trans (xσ43.trans (xσ44.trans (xτ89.trans (xσ46.trans xσ47))))))))))) (by decide)).1
          have kp167 : gI σ48 o 7 = gI σ47 o 7 := (cσ48.O (ko.up (xσ27.trans (xσ29.trans (xσ30.trans (xσ33.trans (xσ41.trans (xσ42.trans (xσ43.trans (xσ44.trans (xτ89.trans (xσ46.trans xσ47))))))))))) (by decide)).1
          have kp168 : gI σ48 o 8 = gI σ47 o 8 := (cσ48.O (ko.up (xσ27.trans (xσ29.trans (xσ30.trans (xσ33.trans (xσ41.trans (xσ42.trans (xσ43.trans (xσ44.trans (xτ89.trans (xσ46.trans xσ47))))))))))) (by decide)).1
          have kp169 : gP σ48 J 4 = gP σ47 J 4 := (cσ48.O (kJ.up (xσ27.trans (xσ29.trans (xσ30.trans (xσ33.trans (xσ41.trans (xσ42.trans (xσ43.trans (xσ44.trans (xτ89.trans (xσ46.trans xσ47))))))))))) (by decide)).2.1
          have kp170 : gP σ48 th 0 = gP σ47 th 0 := (cσ48.O (kth.up (xσ27.trans (xσ29.trans (xσ30.trans (xσ33.trans (xσ41.trans (xσ42.trans (xσ43.trans (xσ44.trans (xτ89.trans (xσ46.trans xσ47))))))))))) (by decide)).2.1
          have kp171 : gP σ48 th 7 = gP σ47 th 7 := (cσ48.O (kth.up (xσ27.trans (xσ29.trans (xσ30.trans (xσ33.trans (xσ41.trans (xσ42.trans (xσ43.trans (xσ44.trans (xτ89.trans (xσ46.trans xσ47))))))))))) (by decide)).2.1
          have kp172 : gP σ48 th 8 = gP σ47 th 8 := (cσ48.O (kth.up (xσ27.trans (xσ29.trans (xσ30.trans (xσ33.trans (xσ41.trans (xσ42.trans (xσ43.trans (xσ44.trans (xτ89.trans (xσ46.trans xσ47))))))))))) (by decide)).2.1
          have kp173 : gI σ48 th 2 = gI σ47 th 2 := (cσ48.O (kth.up (xσ27.trans (xσ29.trans (xσ30.trans (xσ33.trans (xσ41.trans (xσ42.trans (xσ43.trans (xσ44.trans (xτ89.trans (xσ46.trans xσ47))))))))))) (by decide)).1
          have kp174 : gI σ48 th 3 = gI σ47 th 3 := (cσ48.O (kth.up (xσ27.trans (xσ29.trans (xσ30.trans (xσ33.trans (xσ41.trans (xσ42.trans (xσ43.trans (xσ44.trans (xτ89.trans (xσ46.trans xσ47))))))))))) (by decide)).1
          have kp175 : gI σ48 th 5 = gI σ47 th 5 := (cσ48.O (kth.up (xσ27.trans (xσ29.trans (xσ30.trans (xσ33.trans (xσ41.trans (xσ42.trans (xσ43.trans (xσ44.trans (xτ89.trans (xσ46.trans xσ47))))))))))) (by decide)).1
          have kp176 : gI σ48 J 2 = gI σ47 J 2 := (cσ48.O (kJ.up (xσ27.trans (xσ29.trans (xσ30.trans (xσ33.trans (xσ41.trans (xσ42.trans (xσ43.trans (xσ44.trans (xτ89.trans (xσ46.trans xσ47))))))))))) (by decide)).1
          have kp177 : gI σ48 o 3 = gI σ47 o 3 := (cσ48.O (ko.up (xσ27.trans (xσ29.trans (xσ30.trans (xσ33.trans (xσ41.trans (xσ42.trans (xσ43.trans (xσ44.trans (xτ89.trans (xσ46.trans xσ47))))))))))) (by decide)).1
          have kp178 : gI σ48 o 6 = gI σ47 o 6 := (cσ48.O (ko.up (xσ27.trans (xσ29.trans (xσ30.trans (xσ33.trans (xσ41.trans (xσ42.trans (xσ43.trans (xσ44.trans (xτ89.trans (xσ46.trans xσ47))))))))))) (by decide)).1
          have kp179 : gI σ48 o 9 = gI σ47 o 9 := (cσ48.O (ko.up (xσ27.trans (xσ29.trans (xσ30.trans (xσ33.trans (xσ41.trans (xσ42.trans (xσ43.trans (xσ44.trans (xτ89.trans (xσ46.trans xσ47))))))))))) (by decide)).1
          refine ⟨o, (kp159.trans (kp146.trans (kp128.trans h8))), fun kk_o_4 => ?_⟩
          intro σ51 eσ51
          have xσ51 : Ext σ48 σ51 := by rw [eσ51]; exact fun _ h => ⟨h, rfl, rfl⟩
          have iσ51 : IV σ51 pl gq ci gr nc ot LL N nu := by rw [eσ51]; exact iσ48.wSp (ko.up (xσ27.trans (xσ29.trans (xσ30.trans (xσ33.trans (xσ41.trans (xσ42.trans (xσ43.trans (xσ44.trans (xτ89.trans (xσ46.trans (xσ47.trans xσ48)))))))))))) (fun i hi => by omega) (by decide) (show (0 : Int) ≤ r49 ∧ r49 ≤ 1000 from ⟨by omega, by omega⟩)
          have fσ51 : Fx [323, 326, 329, 330, 386, 387, 388, 389, 390, 6464, 8320] gr σ σ51 := fσ48.tr (Sk.fx (by rw [eσ51]; exact Sk.pI (by rw [fcdO (ko.up (xσ27.trans (xσ29.trans (xσ30.trans (xσ33.trans (xσ41.trans (xσ42.trans (xσ43.trans (xσ44.trans (xτ89.trans (xσ46.trans (xσ47.trans xσ48)))))))))))) (by decide)]; decide)))
          have oxcσ51 : OX o σ σ51 := oxcσ48.tr (by rw [eσ51]; exact OX.pI (ko.up (xσ27.trans (xσ29.trans (xσ30.trans (xσ33.trans (xσ41.trans (xσ42.trans (xσ43.trans (xσ44.trans (xτ89.trans (xσ46.trans (xσ47.trans xσ48)))))))))))) (Or.inr rfl)) (xσ27.trans (xσ29.trans (xσ30.trans (xσ33.trans (xσ41.trans (xσ42.trans (xσ43.trans (xσ44.trans (xτ89.trans (xσ46.trans (xσ47.trans xσ48)))))))))))
          have wσ51 : gI σ51 o 10 = r49 := by rw [eσ51]; exact up2_s _ _ _ _
          have kp180 : gI σ51 J 1 = gI σ48 J 1 := by rw [eσ51]; exact up2_n _ _ (fun q => absurd q.2 (by decide))
          have kp181 : gI σ51 J 7 = gI σ48 J 7 := by rw [eσ51]; exact up2_n _ _ (fun q => absurd q.2 (by decide))
          have kp182 : gI σ51 o 4 = gI σ48 o 4 := by rw [eσ51]; exact up2_n _ _ (fun q => absurd q.2 (by decide))
          have kp183 : gI σ51 o 7 = gI σ48 o 7 := by rw [eσ51]; exact up2_n _ _ (fun q => absurd q.2 (by decide))
          have kp184 : gI σ51 o 8 = gI σ48 o 8 := by rw [eσ51]; exact up2_n _ _ (fun q => absurd q.2 (by decide))
          have kp185 : gP σ51 J 4 = gP σ48 J 4 := by rw [eσ51]
          have kp186 : gP σ51 th 0 = gP σ48 th 0 := by rw [eσ51]
          have kp187 : gP σ51 th 7 = gP σ48 th 7 := by rw [eσ51]
          have kp188 : gP σ51 th 8 = gP σ48 th 8 := by rw [eσ51]
          have kp189 : gI σ51 th 2 = gI σ48 th 2 := by rw [eσ51]; exact up2_n _ _ (fun q => absurd q.2 (by decide))
          have kp190 : gI σ51 th 3 = gI σ48 th 3 := by rw [eσ51]; exact up2_n _ _ (fun q => absurd q.2 (by decide))
          have kp191 : gI σ51 th 5 = gI σ48 th 5 := by rw [eσ51]; exact up2_n _ _ (fun q => absurd q.2 (by decide))
          have kp192 : gI σ51 J 2 = gI σ48 J 2 := by rw [eσ51]; exact up2_n _ _ (fun q => absurd q.2 (by decide))
          have kp193 : gI σ51 o 3 = gI σ48 o 3 := by rw [eσ51]; exact up2_n _ _ (fun q => absurd q.2 (by decide))
          have kp194 : gI σ51 o 6 = gI σ48 o 6 := by rw [eσ51]; exact up2_n _ _ (fun q => absurd q.2 (by decide))
          have kp195 : gI σ51 o 9 = gI σ48 o 9 := by rw [eσ51]; exact up2_n _ _ (fun q => absurd q.2 (by decide))
          refine i_X6_next iσ51 (kth.up (xσ27.trans (xσ29.trans (xσ30.trans (xσ33.trans (xσ41.trans (xσ42.trans (xσ43.trans (xσ44.trans (xτ89.trans (xσ46.trans (xσ47.trans (xσ48.trans xσ51))))))))))))) (kp186.trans (kp170.trans (kp157.trans (kp144.trans (kp126.trans hX0))))) (kX.up (xσ27.trans (xσ29.trans (xσ30.trans (xσ33.trans (xσ41.trans (xσ42.trans (xσ43.trans (xσ44.trans (xτ89.trans (xσ46.trans (xσ47.trans (xσ48.trans xσ51))))))))))))) (((xσ27.trans (xσ29.trans (xσ30.trans (xσ33.trans (xσ41.trans (xσ42.trans (xσ43.trans (xσ44.trans (xτ89.trans (xσ46.trans (xσ47.trans (xσ48.trans xσ51)))))))))))) tx kX.1).2.2.trans gX) (by (first | omega | with_reducible assumption | with_reducible exact rng_toInt _ | with_reducible exact rng_wr _ | (unfold rng; omega) | (unfold rng at *; omega) | assumption)) (by (first | omega | with_reducible assumption | with_reducible exact rng_toInt _ | with_reducible exact rng_wr _ | (unfold rng; omega) | (unfold rng at *; omega) | assumption)) (fun σ52 _ iσ52 cσ52 pσ52 => ?_) (fun σx LLx Nx nux E ix cx ux px => hX σx LLx Nx nux E ix (fσ51.tr (cx.mo (by decide))) (ux) (by first | exact px | exact ⟨by have := px.1; omega, px.2⟩ | (first | omega | with_reducible assumption | with_reducible exact rng_toInt _ | with_reducible exact rng_wr _ | (unfold rng; omega) | (unfold rng at *; omega) | assumption)))
          intro xσ52
          have fσ52 : Fx [323, 326, 329, 330, 386, 387, 388, 389, 390, 6464, 8320] gr σ σ52 := fσ51.tr (cσ52.mo (by decide))
          have oxcσ52 : OX o σ σ52 := oxcσ51.tr (OX.fx cσ52 (by decide) (by decide)) (xσ27.trans (xσ29.trans (xσ30.trans (xσ33.trans (xσ41.trans (xσ42.trans (xσ43.trans (xσ44.trans (xτ89.trans (xσ46.trans (xσ47.trans (xσ48.trans xσ51))))))))))))
          have kp196 : gI σ52 J 1 = gI σ51 J 1 := (cσ52.O (kJ.up (xσ27.trans (xσ29.trans (xσ30.trans (xσ33.trans (xσ41.trans (xσ42.trans (xσ43.trans (xσ44.trans (xτ89.trans (xσ46.trans (xσ47.trans (xσ48.trans xσ51))))))))))))) (by decide)).1
          have kp197 : gI σ52 J 7 = gI σ51 J 7 := (cσ52.O (kJ.up (xσ27.trans (xσ29.trans (xσ30.trans (xσ33.trans (xσ41.trans (xσ42.trans (xσ43.trans (xσ44.trans (xτ89.trans (xσ46.trans (xσ47.trans (xσ48.trans xσ51))))))))))))) (by decide)).1
          have kp198 : gI σ52 o 10 = gI σ51 o 10 := (cσ52.O (ko.up (xσ27.trans (xσ29.trans (xσ30.trans (xσ33.trans (xσ41.trans (xσ42.trans (xσ43.trans (xσ44.trans (xτ89.trans (xσ46.trans (xσ47.trans (xσ48.trans xσ51))))))))))))) (by decide)).1
          have kp199 : gI σ52 o 4 = gI σ51 o 4 := (cσ52.O (ko.up (xσ27.trans (xσ29.trans (xσ30.trans (xσ33.trans (xσ41.trans (xσ42.trans (xσ43.trans (xσ44.trans (xτ89.trans (xσ46.trans (xσ47.trans (xσ48.trans xσ51))))))))))))) (by decide)).1
          have kp200 : gI σ52 o 7 = gI σ51 o 7 := (cσ52.O (ko.up (xσ27.trans (xσ29.trans (xσ30.trans (xσ33.trans (xσ41.trans (xσ42.trans (xσ43.trans (xσ44.trans (xτ89.trans (xσ46.trans (xσ47.trans (xσ48.trans xσ51))))))))))))) (by decide)).1
          have kp201 : gI σ52 o 8 = gI σ51 o 8 := (cσ52.O (ko.up (xσ27.trans (xσ29.trans (xσ30.trans (xσ33.trans (xσ41.trans (xσ42.trans (xσ43.trans (xσ44.trans (xτ89.trans (xσ46.trans (xσ47.trans (xσ48.trans xσ51))))))))))))) (by decide)).1
          have kp202 : gP σ52 J 4 = gP σ51 J 4 := (cσ52.O (kJ.up (xσ27.trans (xσ29.trans (xσ30.trans (xσ33.trans (xσ41.trans (xσ42.trans (xσ43.trans (xσ44.trans (xτ89.trans (xσ46.trans (xσ47.trans (xσ48.trans xσ51))))))))))))) (by decide)).2.1
          have kp203 : gP σ52 th 0 = gP σ51 th 0 := (cσ52.O (kth.up (xσ27.trans (xσ29.trans (xσ30.trans (xσ33.trans (xσ41.trans (xσ42.trans (xσ43.trans (xσ44.trans (xτ89.trans (xσ46.trans (xσ47.trans (xσ48.trans xσ51))))))))))))) (by decide)).2.1
          have kp204 : gP σ52 th 7 = gP σ51 th 7 := (cσ52.O (kth.up (xσ27.trans (xσ29.trans (xσ30.trans (xσ33.trans (xσ41.trans (xσ42.trans (xσ43.trans (xσ44.trans (xτ89.trans (xσ46.trans (xσ47.trans (xσ48.trans xσ51))))))))))))) (by decide)).2.1
          have kp205 : gP σ52 th 8 = gP σ51 th 8 := (cσ52.O (kth.up (xσ27.trans (xσ29.trans (xσ30.trans (xσ33.trans (xσ41.trans (xσ42.trans (xσ43.trans (xσ44.trans (xτ89.trans (xσ46.trans (xσ47.trans (xσ48.trans xσ51))))))))))))) (by decide)).2.1
          have kp206 : gI σ52 J 2 = gI σ51 J 2 := (cσ52.O (kJ.up (xσ27.trans (xσ29.trans (xσ30.trans (xσ33.trans (xσ41.trans (xσ42.trans (xσ43.trans (xσ44.trans (xτ89.trans (xσ46.trans (xσ47.trans (xσ48.trans xσ51))))))))))))) (by decide)).1
          have kp207 : gI σ52 o 3 = gI σ51 o 3 := (cσ52.O (ko.up (xσ27.trans (xσ29.trans (xσ30.trans (xσ33.trans (xσ41.trans (xσ42.trans (xσ43.trans (xσ44.trans (xτ89.trans (xσ46.trans (xσ47.trans (xσ48.trans xσ51))))))))))))) (by decide)).1
          have kp208 : gI σ52 o 6 = gI σ51 o 6 := (cσ52.O (ko.up (xσ27.trans (xσ29.trans (xσ30.trans (xσ33.trans (xσ41.trans (xσ42.trans (xσ43.trans (xσ44.trans (xτ89.trans (xσ46.trans (xσ47.trans (xσ48.trans xσ51))))))))))))) (by decide)).1
          have kp209 : gI σ52 o 9 = gI σ51 o 9 := (cσ52.O (ko.up (xσ27.trans (xσ29.trans (xσ30.trans (xσ33.trans (xσ41.trans (xσ42.trans (xσ43.trans (xσ44.trans (xτ89.trans (xσ46.trans (xσ47.trans (xσ48.trans xσ51))))))))))))) (by decide)).1
          have r5σ52 := I_6_5 iσ52.1 (kth.up (xσ27.trans (xσ29.trans (xσ30.trans (xσ33.trans (xσ41.trans (xσ42.trans (xσ43.trans (xσ44.trans (xτ89.trans (xσ46.trans (xσ47.trans (xσ48.trans (xσ51.trans xσ52))))))))))))))
          exact hQ σ52 () iσ52 fσ52 oxcσ52 (⟨by omega, by omega, ⟨by omega, (fun h => absurd h (by omega)), (fun h => absurd h (by omega))⟩⟩)
        · rw [if_neg hc137]
          unfold w_X6_sourceText_94
          have q211 := iτ89.rg th 3; unfold rng at q211
          by_cases hc210 : gI τ89 th 3 ≠ 1
          · rw [if_pos hc210]
            unfold w_X6_sourceText_113
            refine i_X6_wantSign iτ89 (kth.up (xσ27.trans (xσ29.trans (xσ30.trans (xσ33.trans (xσ41.trans (xσ42.trans (xσ43.trans (xσ44.trans xτ89))))))))) (kp126.trans hX0) (kX.up (xσ27.trans (xσ29.trans (xσ30.trans (xσ33.trans (xσ41.trans (xσ42.trans (xσ43.trans (xσ44.trans xτ89))))))))) (((xσ27.trans (xσ29.trans (xσ30.trans (xσ33.trans (xσ41.trans (xσ42.trans (xσ43.trans (xσ44.trans xτ89)))))))) tx kX.1).2.2.trans gX) (by (first | omega | with_reducible assumption | with_reducible exact rng_toInt _ | with_reducible exact rng_wr _ | (unfold rng; omega) | (unfold rng at *; omega) | assumption)) (by (first | omega | with_reducible assumption | with_reducible exact rng_toInt _ | with_reducible exact rng_wr _ | (unfold rng; omega) | (unfold rng at *; omega) | assumption)) (fun σ46_1 _ iσ46_1 cσ46_1 pσ46_1 => ?_) (fun σx LLx Nx nux E ix cx ux px => hX σx LLx Nx nux E ix (fτ89.tr (cx.mo (by decide))) (ux) (by first | exact px | exact ⟨by have := px.1; omega, px.2⟩ | (first | omega | with_reducible assumption | with_reducible exact rng_toInt _ | with_reducible exact rng_wr _ | (unfold rng; omega) | (unfold rng at *; omega) | assumption)))
            intro xσ46_1
            have fσ46_1 : Fx [323, 326, 329, 330, 386, 387, 388, 389, 390, 6464, 8320] gr σ σ46_1 := fτ89.tr (cσ46_1.mo (by decide))
            have oxcσ46_1 : OX o σ σ46_1 := oxcτ89.tr (OX.fx cσ46_1 (by decide) (by decide)) (xσ27.trans (xσ29.trans (xσ30.trans (xσ33.trans (xσ41.trans (xσ42.trans (xσ43.trans (xσ44.trans xτ89))))))))
            have kp212 : gI σ46_1 J 1 = gI τ89 J 1 := (cσ46_1.O (kJ.up (xσ27.trans (xσ29.trans (xσ30.trans (xσ33.trans (xσ41.trans (xσ42.trans (xσ43.trans (xσ44.trans xτ89))))))))) (by decide)).1
            have kp213 : gI σ46_1 J 7 = gI τ89 J 7 := (cσ46_1.O (kJ.up (xσ27.trans (xσ29.trans (xσ30.trans (xσ33.trans (xσ41.trans (xσ42.trans (xσ43.trans (xσ44.trans xτ89))))))))) (by decide)).1
            have kp214 : gI σ46_1 o 4 = gI τ89 o 4 := (cσ46_1.O (ko.up (xσ27.trans (xσ29.trans (xσ30.trans (xσ33.trans (xσ41.trans (xσ42.trans (xσ43.trans (xσ44.trans xτ89))))))))) (by decide)).1
            have kp215 : gI σ46_1 o 7 = gI τ89 o 7 := (cσ46_1.O (ko.up (xσ27.trans (xσ29.trans (xσ30.trans (xσ33.trans (xσ41.trans (xσ42.trans (xσ43.trans (xσ44.trans xτ89))))))))) (by decide)).1
            have kp216 : gI σ46_1 o 8 = gI τ89 o 8 := (cσ46_1.O (ko.up (xσ27.trans (xσ29.trans (xσ30.trans (xσ33.trans (xσ41.trans (xσ42.trans (xσ43.trans (xσ44.trans xτ89))))))))) (by decide)).1
            have kp217 : gP σ46_1 J 4 = gP τ89 J 4 := (cσ46_1.O (kJ.up (xσ27.trans (xσ29.trans (xσ30.trans (xσ33.trans (xσ41.trans (xσ42.trans (xσ43.trans (xσ44.trans xτ89))))))))) (by decide)).2.1
            have kp218 : gP σ46_1 th 0 = gP τ89 th 0 := (cσ46_1.O (kth.up (xσ27.trans (xσ29.trans (xσ30.trans (xσ33.trans (xσ41.trans (xσ42.trans (xσ43.trans (xσ44.trans xτ89))))))))) (by decide)).2.1
            have kp219 : gP σ46_1 th 7 = gP τ89 th 7 := (cσ46_1.O (kth.up (xσ27.trans (xσ29.trans (xσ30.trans (xσ33.trans (xσ41.trans (xσ42.trans (xσ43.trans (xσ44.trans xτ89))))))))) (by decide)).2.1
            have kp220 : gP σ46_1 th 8 = gP τ89 th 8 := (cσ46_1.O (kth.up (xσ27.trans (xσ29.trans (xσ30.trans (xσ33.trans (xσ41.trans (xσ42.trans (xσ43.trans (xσ44.trans xτ89))))))))) (by decide)).2.1
            have kp221 : gI σ46_1 J 2 = gI τ89 J 2 := (cσ46_1.O (kJ.up (xσ27.trans (xσ29.trans (xσ30.trans (xσ33.trans (xσ41.trans (xσ42.trans (xσ43.trans (xσ44.trans xτ89))))))))) (by decide)).1
            have kp222 : gI σ46_1 o 3 = gI τ89 o 3 := (cσ46_1.O (ko.up (xσ27.trans (xσ29.trans (xσ30.trans (xσ33.trans (xσ41.trans (xσ42.trans (xσ43.trans (xσ44.trans xτ89))))))))) (by decide)).1
            have kp223 : gI σ46_1 o 6 = gI τ89 o 6 := (cσ46_1.O (ko.up (xσ27.trans (xσ29.trans (xσ30.trans (xσ33.trans (xσ41.trans (xσ42.trans (xσ43.trans (xσ44.trans xτ89))))))))) (by decide)).1
            have kp224 : gI σ46_1 o 9 = gI τ89 o 9 := (cσ46_1.O (ko.up (xσ27.trans (xσ29.trans (xσ30.trans (xσ33.trans (xσ41.trans (xσ42.trans (xσ43.trans (xσ44.trans xτ89))))))))) (by decide)).1
            have r5σ46_1 := I_6_5 iσ46_1.1 (kth.up (xσ27.trans (xσ29.trans (xσ30.trans (xσ33.trans (xσ41.trans (xσ42.trans (xσ43.trans (xσ44.trans (xτ89.trans xσ46_1))))))))))
            refine i_X6_wantWord iσ46_1 (kth.up (xσ27.trans (xσ29.trans (xσ30.trans (xσ33.trans (xσ41.trans (xσ42.trans (xσ43.trans (xσ44.trans (xτ89.trans xσ46_1)))))))))) (kp218.trans (kp126.trans hX0)) (kX.up (xσ27.trans (xσ29.trans (xσ30.trans (xσ33.trans (xσ41.trans (xσ42.trans (xσ43.trans (xσ44.trans (xτ89.trans xσ46_1)))))))))) (((xσ27.trans (xσ29.trans (xσ30.trans (xσ33.trans (xσ41.trans (xσ42.trans (xσ43.trans (xσ44.trans (xτ89.trans xσ46_1))))))))) tx kX.1).2.2.trans gX) (by (first | omega | with_reducible assumption | with_reducible exact rng_toInt _ | with_reducible exact rng_wr _ | (unfold rng; omega) | (unfold rng at *; omega) | assumption)) (by (first | omega | with_reducible assumption | with_reducible exact rng_toInt _ | with_reducible exact rng_wr _ | (unfold rng; omega) | (unfold rng at *; omega) | assumption)) (fun σ47_1 _ iσ47_1 cσ47_1 pσ47_1 => ?_) (fun σx LLx Nx nux E ix cx ux px => hX σx LLx Nx nux E ix (fσ46_1.tr (cx.mo (by decide))) (ux) (by first | exact px | exact ⟨by have := px.1; omega, px.2⟩ | (first | omega | with_reducible assumption | with_reducible exact rng_toInt _ | with_reducible exact rng_wr _ | (unfold rng; omega) | (unfold rng at *; omega) | assumption)))
            intro xσ47_1
            have fσ47_1 : Fx [323, 326, 329, 330, 386, 387, 388, 389, 390, 6464, 8320] gr σ σ47_1 := fσ46_1.tr (cσ47_1.mo (by decide))
            have oxcσ47_1 : OX o σ σ47_1 := oxcσ46_1.tr (OX.fx cσ47_1 (by decide) (by decide)) (xσ27.trans (xσ29.trans (xσ30.trans (xσ33.trans (xσ41.trans (xσ42.trans (xσ43.trans (xσ44.trans (xτ89.trans xσ46_1)))))))))
            have kp225 : gI σ47_1 J 1 = gI σ46_1 J 1 := (cσ47_1.O (kJ.up (xσ27.trans (xσ29.trans (xσ30.trans (xσ33.trans (xσ41.trans (xσ42.trans (xσ43.trans (xσ44.trans (xτ89.trans xσ46_1)))))))))) (by decide)).1
            have kp226 : gI σ47_1 J 7 = gI σ46_1 J 7 := (cσ47_1.O (kJ.up (xσ27.trans (xσ29.trans (xσ30.trans (xσ33.trans (xσ41.trans (xσ42.trans (xσ43.trans (xσ44.trans (xτ89.trans xσ46_1)))))))))) (by decide)).1
            have kp227 : gI σ47_1 o 4 = gI σ46_1 o 4 := (cσ47_1.O (ko.up (xσ27.trans (xσ29.trans (xσ30.trans (xσ33.trans (xσ41.trans (xσ42.trans (xσ43.trans (xσ44.trans (xτ89.trans xσ46_1)))))))))) (by decide)).1
            have kp228 : gI σ47_1 o 7 = gI σ46_1 o 7 := (cσ47_1.O (ko.up (xσ27.trans (xσ29.trans (xσ30.trans (xσ33.trans (xσ41.trans (xσ42.trans (xσ43.trans (xσ44.trans (xτ89.trans xσ46_1)))))))))) (by decide)).1
            have kp229 : gI σ47_1 o 8 = gI σ46_1 o 8 := (cσ47_1.O (ko.up (xσ27.trans (xσ29.trans (xσ30.trans (xσ33.trans (xσ41.trans (xσ42.trans (xσ43.trans (xσ44.trans (xτ89.trans xσ46_1)))))))))) (by decide)).1
            have kp230 : gP σ47_1 J 4 = gP σ46_1 J 4 := (cσ47_1.O (kJ.up (xσ27.trans (xσ29.trans (xσ30.trans (xσ33.trans (xσ41.trans (xσ42.trans (xσ43.trans (xσ44.trans (xτ89.trans xσ46_1)))))))))) (by decide)).2.1
            have kp231 : gP σ47_1 th 0 = gP σ46_1 th 0 := (cσ47_1.O (kth.up (xσ27.trans (xσ29.trans (xσ30.trans (xσ33.trans (xσ41.trans (xσ42.trans (xσ43.trans (xσ44.trans (xτ89.trans xσ46_1)))))))))) (by decide)).2.1
            have kp232 : gP σ47_1 th 7 = gP σ46_1 th 7 := (cσ47_1.O (kth.up (xσ27.trans (xσ29.trans (xσ30.trans (xσ33.trans (xσ41.trans (xσ42.trans (xσ43.trans (xσ44.trans (xτ89.trans xσ46_1)))))))))) (by decide)).2.1
            have kp233 : gP σ47_1 th 8 = gP σ46_1 th 8 := (cσ47_1.O (kth.up (xσ27.trans (xσ29.trans (xσ30.trans (xσ33.trans (xσ41.trans (xσ42.trans (xσ43.trans (xσ44.trans (xτ89.trans xσ46_1)))))))))) (by decide)).2.1
            have kp234 : gI σ47_1 J 2 = gI σ46_1 J 2 := (cσ47_1.O (kJ.up (xσ27.trans (xσ29.trans (xσ30.trans (xσ33.trans (xσ41.trans (xσ42.trans (xσ43.trans (xσ44.trans (xτ89.trans xσ46_1)))))))))) (by decide)).1
            have kp235 : gI σ47_1 o 3 = gI σ46_1 o 3 := (cσ47_1.O (ko.up (xσ27.trans (xσ29.trans (xσ30.trans (xσ33.trans (xσ41.trans (xσ42.trans (xσ43.trans (xσ44.trans (xτ89.trans xσ46_1)))))))))) (by decide)).1
            have kp236 : gI σ47_1 o 6 = gI σ46_1 o 6 := (cσ47_1.O (ko.up (xσ27.trans (xσ29.trans (xσ30.trans (xσ33.trans (xσ41.trans (xσ42.trans (xσ43.trans (xσ44.trans (xτ89.trans xσ46_1)))))))))) (by decide)).1
            have kp237 : gI σ47_1 o 9 = gI σ46_1 o 9 := (cσ47_1.O (ko.up (xσ27.trans (xσ29.trans (xσ30.trans (xσ33.trans (xσ41.trans (xσ42.trans (xσ43.trans (xσ44.trans (xτ89.trans xσ46_1)))))))))) (by decide)).1
            have r5σ47_1 := I_6_5 iσ47_1.1 (kth.up (xσ27.trans (xσ29.trans (xσ30.trans (xσ33.trans (xσ41.trans (xσ42.trans (xσ43.trans (xσ44.trans (xτ89.trans (xσ46_1.trans xσ47_1)))))))))))
            refine i_X6_number iσ47_1 (kth.up (xσ27.trans (xσ29.trans (xσ30.trans (xσ33.trans (xσ41.trans (xσ42.trans (xσ43.trans (xσ44.trans (xτ89.trans (xσ46_1.trans xσ47_1))))))))))) (by (first | omega | with_reducible assumption | with_reducible exact rng_toInt _ | with_reducible exact rng_wr _ | (unfold rng; omega) | (unfold rng at *; omega) | assumption)) (by (first | omega | with_reducible assumption | with_reducible exact rng_toInt _ | with_reducible exact rng_wr _ | (unfold rng; omega) | (unfold rng at *; omega) | assumption)) (fun σ48_1 r49_1 iσ48_1 cσ48_1 pσ48_1 => ?_) (fun σx LLx Nx nux E ix cx ux px => hX σx LLx Nx nux E ix (fσ47_1.tr (cx.mo (by decide))) (ux) (by first | exact px | exact ⟨by have := px.1; omega, px.2⟩ | (first | omega | with_reducible assumption | with_reducible exact rng_toInt _ | with_reducible exact rng_wr _ | (unfold rng; omega) | (unfold rng at *; omega) | assumption)))
            intro xσ48_1
            have fσ48_1 : Fx [323, 326, 329, 330, 386, 387, 388, 389, 390, 6464, 8320] gr σ σ48_1 := fσ47_1.tr (cσ48_1.mo (by decide))
            have oxcσ48_1 : OX o σ σ48_1 := oxcσ47_1.tr (OX.fx cσ48_1 (by decide) (by decide)) (xσ27.trans (xσ29.trans (xσ30.trans (xσ33.trans (xσ41.trans (xσ42.trans (xσ43.trans (xσ44.trans (xτ89.trans (xσ46_1.trans xσ47_1))))))))))
            have kp238 : gI σ48_1 J 1 = gI σ47_1 J 1 := (cσ48_1.O (kJ.up (xσ27.trans (xσ29.trans (xσ30.trans (xσ33.trans (xσ41.trans (xσ42.trans (xσ43.trans (xσ44.trans (xτ89.trans (xσ46_1.trans xσ47_1))))))))))) (by decide)).1
            have kp239 : gI σ48_1 J 7 = gI σ47_1 J 7 := (cσ48_1.O (kJ.up (xσ27.trans (xσ29.trans (xσ30.trans (xσ33.trans (xσ41.trans (xσ42.trans (xσ43.trans (xσ44.trans (xτ89.trans (xσ46_1.trans xσ47_1))))))))))) (by decide)).1
            have kp240 : gI σ48_1 o 4 = gI σ47_1 o 4 := (cσ48_1.O (ko.up (xσ27.trans (xσ29.trans (xσ30.trans (xσ33.trans (xσ41.trans (xσ42.trans (xσ43.trans (xσ44.trans (xτ89.trans (xσ46_1.trans xσ47_1))))))))))) (by decide)).1
            have kp241 : gI σ48_1 o 7 = gI σ47_1 o 7 := (cσ48_1.O (ko.up (xσ27.trans (xσ29.trans (xσ30.trans (xσ33.trans (xσ41.trans (xσ42.trans (xσ43.trans (xσ44.trans (xτ89.trans (xσ46_1.trans xσ47_1))))))))))) (by decide)).1
            have kp242 : gI σ48_1 o 8 = gI σ47_1 o 8 := (cσ48_1.O (ko.up (xσ27.trans (xσ29.trans (xσ30.trans (xσ33.trans (xσ41.trans (xσ42.trans (xσ43.trans (xσ44.trans (xτ89.trans (xσ46_1.trans xσ47_1))))))))))) (by decide)).1
            have kp243 : gP σ48_1 J 4 = gP σ47_1 J 4 := (cσ48_1.O (kJ.up (xσ27.trans (xσ29.trans (xσ30.trans (xσ33.trans (xσ41.trans (xσ42.trans (xσ43.trans (xσ44.trans (xτ89.trans (xσ46_1.trans xσ47_1))))))))))) (by decide)).2.1
            have kp244 : gP σ48_1 th 0 = gP σ47_1 th 0 := (cσ48_1.O (kth.up (xσ27.trans (xσ29.trans (xσ30.trans (xσ33.trans (xσ41.trans (xσ42.trans (xσ43.trans (xσ44.trans (xτ89.trans (xσ46_1.trans xσ47_1))))))))))) (by decide)).2.1
            have kp245 : gP σ48_1 th 7 = gP σ47_1 th 7 := (cσ48_1.O (kth.up (xσ27.trans (xσ29.trans (xσ30.trans (xσ33.trans (xσ41.trans (xσ42.trans (xσ43.trans (xσ44.trans (xτ89.trans (xσ46_1.trans xσ47_1))))))))))) (by decide)).2.1
            have kp246 : gP σ48_1 th 8 = gP σ47_1 th 8 := (cσ48_1.O (kth.up (xσ27.trans (xσ29.trans (xσ30.trans (xσ33.trans (xσ41.trans (xσ42.trans (xσ43.trans (xσ44.trans (xτ89.trans (xσ46_1.trans xσ47_1))))))))))) (by decide)).2.1
            have kp247 : gI σ48_1 th 2 = gI σ47_1 th 2 := (cσ48_1.O (kth.up (xσ27.trans (xσ29.trans (xσ30.trans (xσ33.trans (xσ41.trans (xσ42.trans (xσ43.trans (xσ44.trans (xτ89.trans (xσ46_1.trans xσ47_1))))))))))) (by decide)).1
            have kp248 : gI σ48_1 th 3 = gI σ47_1 th 3 := (cσ48_1.O (kth.up (xσ27.trans (xσ29.trans (xσ30.trans (xσ33.trans (xσ41.trans (xσ42.trans (xσ43.trans (xσ44.trans (xτ89.trans (xσ46_1.trans xσ47_1))))))))))) (by decide)).1
            have kp249 : gI σ48_1 th 5 = gI σ47_1 th 5 := (cσ48_1.O (kth.up (xσ27.trans (xσ29.trans (xσ30.trans (xσ33.trans (xσ41.trans (xσ42.trans (xσ43.trans (xσ44.trans (xτ89.trans (xσ46_1.trans xσ47_1))))))))))) (by decide)).1
            have kp250 : gI σ48_1 J 2 = gI σ47_1 J 2 := (cσ48_1.O (kJ.up (xσ27.trans (xσ29.trans (xσ30.trans (xσ33.trans (xσ41.trans (xσ42.trans (xσ43.trans (xσ44.trans (xτ89.trans (xσ46_1.trans xσ47_1))))))))))) (by decide)).1
            have kp251 : gI σ48_1 o 3 = gI σ47_1 o 3 := (cσ48_1.O (ko.up (xσ27.trans (xσ29.trans (xσ30.trans (xσ33.trans (xσ41.trans (xσ42.trans (xσ43.trans (xσ44.trans (xτ89.trans (xσ46_1.trans xσ47_1))))))))))) (by decide)).1
            have kp252 : gI σ48_1 o 6 = gI σ47_1 o 6 := (cσ48_1.O (ko.up (xσ27.trans (xσ29.trans (xσ30.trans (xσ33.trans (xσ41.trans (xσ42.trans (xσ43.trans (xσ44.trans (xτ89.trans (xσ46_1.trans xσ47_1))))))))))) (by decide)).1
            have kp253 : gI σ48_1 o 9 = gI σ47_1 o 9 := (cσ48_1.O (ko.up (xσ27.trans (xσ29.trans (xσ30.trans (xσ33.trans (xσ41.trans (xσ42.trans (xσ43.trans (xσ44.trans (xτ89.trans (xσ46_1.trans xσ47_1))))))))))) (by decide)).1
            refine ⟨o, (kp233.trans (kp220.trans (kp128.trans h8))), fun kk_o_5 => ?_⟩
            intro σ51_1 eσ51_1
            have xσ51_1 : Ext σ48_1 σ51_1 := by rw [eσ51_1]; exact fun _ h => ⟨h, rfl, rfl⟩
            have iσ51_1 : IV σ51_1 pl gq ci gr nc ot LL N nu := by rw [eσ51_1]; exact iσ48_1.wSp (ko.up (xσ27.trans (xσ29.trans (xσ30.trans (xσ33.trans (xσ41.trans (xσ42.trans (xσ43.trans (xσ44.trans (xτ89.trans (xσ46_1.trans (xσ47_1.trans xσ48_1)))))))))))) (fun i hi => by omega) (by decide) (show (0 : Int) ≤ r49_1 ∧ r49_1 ≤ 1000 from ⟨by omega, by omega⟩)
            have fσ51_1 : Fx [323, 326, 329, 330, 386, 387, 388, 389, 390, 6464, 8320] gr σ σ51_1 := fσ48_1.tr (Sk.fx (by rw [eσ51_1]; exact Sk.pI (by rw [fcdO (ko.up (xσ27.trans (xσ29.trans (xσ30.trans (xσ33.trans (xσ41.trans (xσ42.trans (xσ43.trans (xσ44.trans (xτ89.trans (xσ46_1.trans (xσ47_1.trans xσ48_1)))))))))))) (by decide)]; decide)))
            have oxcσ51_1 : OX o σ σ51_1 := oxcσ48_1.tr (by rw [eσ51_1]; exact OX.pI (ko.up (xσ27.trans (xσ29.trans (xσ30.trans (xσ33.trans (xσ41.trans (xσ42.trans (xσ43.trans (xσ44.trans (xτ89.trans (xσ46_1.trans (xσ47_1.trans xσ48_1)))))))))))) (Or.inr rfl)) (xσ27.trans (xσ29.trans (xσ30.trans (xσ33.trans (xσ41.trans (xσ42.trans (xσ43.trans (xσ44.trans (xτ89.trans (xσ46_1.trans (xσ47_1.trans xσ48_1)))))))))))
            have wσ51_1 : gI σ51_1 o 10 = r49_1 := by rw [eσ51_1]; exact up2_s _ _ _ _
            have kp254 : gI σ51_1 J 1 = gI σ48_1 J 1 := by rw [eσ51_1]; exact up2_n _ _ (fun q => absurd q.2 (by decide))
            have kp255 : gI σ51_1 J 7 = gI σ48_1 J 7 := by rw [eσ51_1]; exact up2_n _ _ (fun q => absurd q.2 (by decide))
            have kp256 : gI σ51_1 o 4 = gI σ48_1 o 4 := by rw [eσ51_1]; exact up2_n _ _ (fun q => absurd q.2 (by decide))
            have kp257 : gI σ51_1 o 7 = gI σ48_1 o 7 := by rw [eσ51_1]; exact up2_n _ _ (fun q => absurd q.2 (by decide))
            have kp258 : gI σ51_1 o 8 = gI σ48_1 o 8 := by rw [eσ51_1]; exact up2_n _ _ (fun q => absurd q.2 (by decide))
            have kp259 : gP σ51_1 J 4 = gP σ48_1 J 4 := by rw [eσ51_1]
            have kp260 : gP σ51_1 th 0 = gP σ48_1 th 0 := by rw [eσ51_1]
            have kp261 : gP σ51_1 th 7 = gP σ48_1 th 7 := by rw [eσ51_1]
            have kp262 : gP σ51_1 th 8 = gP σ48_1 th 8 := by rw [eσ51_1]
            have kp263 : gI σ51_1 th 2 = gI σ48_1 th 2 := by rw [eσ51_1]; exact up2_n _ _ (fun q => absurd q.2 (by decide))
            have kp264 : gI σ51_1 th 3 = gI σ48_1 th 3 := by rw [eσ51_1]; exact up2_n _ _ (fun q => absurd q.2 (by decide))
            have kp265 : gI σ51_1 th 5 = gI σ48_1 th 5 := by rw [eσ51_1]; exact up2_n _ _ (fun q => absurd q.2 (by decide))
            have kp266 : gI σ51_1 J 2 = gI σ48_1 J 2 := by rw [eσ51_1]; exact up2_n _ _ (fun q => absurd q.2 (by decide))
            have kp267 : gI σ51_1 o 3 = gI σ48_1 o 3 := by rw [eσ51_1]; exact up2_n _ _ (fun q => absurd q.2 (by decide))
            have kp268 : gI σ51_1 o 6 = gI σ48_1 o 6 := by rw [eσ51_1]; exact up2_n _ _ (fun q => absurd q.2 (by decide))
            have kp269 : gI σ51_1 o 9 = gI σ48_1 o 9 := by rw [eσ51_1]; exact up2_n _ _ (fun q => absurd q.2 (by decide))
            refine i_X6_next iσ51_1 (kth.up (xσ27.trans (xσ29.trans (xσ30.trans (xσ33.trans (xσ41.trans (xσ42.trans (xσ43.trans (xσ44.trans (xτ89.trans (xσ46_1.trans (xσ47_1.trans (xσ48_1.trans xσ51_1))))))))))))) (kp260.trans (kp244.trans (kp231.trans (kp218.trans (kp126.trans hX0))))) (kX.up (xσ27.trans (xσ29.trans (xσ30.trans (xσ33.trans (xσ41.trans (xσ42.trans (xσ43.trans (xσ44.trans (xτ89.trans (xσ46_1.trans (xσ47_1.trans (xσ48_1.trans xσ51_1))))))))))))) (((xσ27.trans (xσ29.trans (xσ30.trans (xσ33.trans (xσ41.trans (xσ42.trans (xσ43.trans (xσ44.trans (xτ89.trans (xσ46_1.trans (xσ47_1.trans (xσ48_1.trans xσ51_1)))))))))))) tx kX.1).2.2.trans gX) (by (first | omega | with_reducible assumption | with_reducible exact rng_toInt _ | with_reducible exact rng_wr _ | (unfold rng; omega) | (unfold rng at *; omega) | assumption)) (by (first | omega | with_reducible assumption | with_reducible exact rng_toInt _ | with_reducible exact rng_wr _ | (unfold rng; omega) | (unfold rng at *; omega) | assumption)) (fun σ52_1 _ iσ52_1 cσ52_1 pσ52_1 => ?_) (fun σx LLx Nx nux E ix cx ux px => hX σx LLx Nx nux E ix (fσ51_1.tr (cx.mo (by decide))) (ux) (by first | exact px | exact ⟨by have := px.1; omega, px.2⟩ | (first | omega | with_reducible assumption | with_reducible exact rng_toInt _ | with_reducible exact rng_wr _ | (unfold rng; omega) | (unfold rng at *; omega) | assumption)))
            intro xσ52_1
            have fσ52_1 : Fx [323, 326, 329, 330, 386, 387, 388, 389, 390, 6464, 8320] gr σ σ52_1 := fσ51_1.tr (cσ52_1.mo (by decide))
            have oxcσ52_1 : OX o σ σ52_1 := oxcσ51_1.tr (OX.fx cσ52_1 (by decide) (by decide)) (xσ27.trans (xσ29.trans (xσ30.trans (xσ33.trans (xσ41.trans (xσ42.trans (xσ43.trans (xσ44.trans (xτ89.trans (xσ46_1.trans (xσ47_1.trans (xσ48_1.trans xσ51_1))))))))))))
            have kp270 : gI σ52_1 J 1 = gI σ51_1 J 1 := (cσ52_1.O (kJ.up (xσ27.trans (xσ29.trans (xσ30.trans (xσ33.trans (xσ41.trans (xσ42.trans (xσ43.trans (xσ44.trans (xτ89.trans (xσ46_1.trans (xσ47_1.trans (xσ48_1.trans xσ51_1))))))))))))) (by decide)).1
            have kp271 : gI σ52_1 J 7 = gI σ51_1 J 7 := (cσ52_1.O (kJ.up (xσ27.trans (xσ29.trans (xσ30.trans (xσ33.trans (xσ41.trans (xσ42.trans (xσ43.trans (xσ44.trans (xτ89.trans (xσ46_1.trans (xσ47_1.trans (xσ48_1.trans xσ51_1))))))))))))) (by decide)).1
            have kp272 : gI σ52_1 o 10 = gI σ51_1 o 10 := (cσ52_1.O (ko.up (xσ27.trans (xσ29.trans (xσ30.trans (xσ33.trans (xσ41.trans (xσ42.trans (xσ43.trans (xσ44.trans (xτ89.trans (xσ46_1.trans (xσ47_1.trans (xσ48_1.trans xσ51_1))))))))))))) (by decide)).1
            have kp273 : gI σ52_1 o 4 = gI σ51_1 o 4 := (cσ52_1.O (ko.up (xσ27.trans (xσ29.trans (xσ30.trans (xσ33.trans (xσ41.trans (xσ42.trans (xσ43.trans (xσ44.trans (xτ89.trans (xσ46_1.trans (xσ47_1.trans (xσ48_1.trans xσ51_1))))))))))))) (by decide)).1
            have kp274 : gI σ52_1 o 7 = gI σ51_1 o 7 := (cσ52_1.O (ko.up (xσ27.trans (xσ29.trans (xσ30.trans (xσ33.trans (xσ41.trans (xσ42.trans (xσ43.trans (xσ44.trans (xτ89.trans (xσ46_1.trans (xσ47_1.trans (xσ48_1.trans xσ51_1))))))))))))) (by decide)).1
            have kp275 : gI σ52_1 o 8 = gI σ51_1 o 8 := (cσ52_1.O (ko.up (xσ27.trans (xσ29.trans (xσ30.trans (xσ33.trans (xσ41.trans (xσ42.trans (xσ43.trans (xσ44.trans (xτ89.trans (xσ46_1.trans (xσ47_1.trans (xσ48_1.trans xσ51_1))))))))))))) (by decide)).1
            have kp276 : gP σ52_1 J 4 = gP σ51_1 J 4 := (cσ52_1.O (kJ.up (xσ27.trans (xσ29.trans (xσ30.trans (xσ33.trans (xσ41.trans (xσ42.trans (xσ43.trans (xσ44.trans (xτ89.trans (xσ46_1.trans (xσ47_1.trans (xσ48_1.trans xσ51_1))))))))))))) (by decide)).2.1
            have kp277 : gP σ52_1 th 0 = gP σ51_1 th 0 := (cσ52_1.O (kth.up (xσ27.trans (xσ29.trans (xσ30.trans (xσ33.trans (xσ41.trans (xσ42.trans (xσ43.trans (xσ44.trans (xτ89.trans (xσ46_1.trans (xσ47_1.trans (xσ48_1.trans xσ51_1))))))))))))) (by decide)).2.1
            have kp278 : gP σ52_1 th 7 = gP σ51_1 th 7 := (cσ52_1.O (kth.up (xσ27.trans (xσ29.trans (xσ30.trans (xσ33.trans (xσ41.trans (xσ42.trans (xσ43.trans (xσ44.trans (xτ89.trans (xσ46_1.trans (xσ47_1.trans (xσ48_1.trans xσ51_1))))))))))))) (by decide)).2.1
            have kp279 : gP σ52_1 th 8 = gP σ51_1 th 8 := (cσ52_1.O (kth.up (xσ27.trans (xσ29.trans (xσ30.trans (xσ33.trans (xσ41.trans (xσ42.trans (xσ43.trans (xσ44.trans (xτ89.trans (xσ46_1.trans (xσ47_1.trans (xσ48_1.trans xσ51_1))))))))))))) (by decide)).2.1
            have kp280 : gI σ52_1 J 2 = gI σ51_1 J 2 := (cσ52_1.O (kJ.up (xσ27.trans (xσ29.trans (xσ30.trans (xσ33.trans (xσ41.trans (xσ42.trans (xσ43.trans (xσ44.trans (xτ89.trans (xσ46_1.trans (xσ47_1.trans (xσ48_1.trans xσ51_1))))))))))))) (by decide)).1
            have kp281 : gI σ52_1 o 3 = gI σ51_1 o 3 := (cσ52_1.O (ko.up (xσ27.trans (xσ29.trans (xσ30.trans (xσ33.trans (xσ41.trans (xσ42.trans (xσ43.trans (xσ44.trans (xτ89.trans (xσ46_1.trans (xσ47_1.trans (xσ48_1.trans xσ51_1))))))))))))) (by decide)).1
            have kp282 : gI σ52_1 o 6 = gI σ51_1 o 6 := (cσ52_1.O (ko.up (xσ27.trans (xσ29.trans (xσ30.trans (xσ33.trans (xσ41.trans (xσ42.trans (xσ43.trans (xσ44.trans (xτ89.trans (xσ46_1.trans (xσ47_1.trans (xσ48_1.trans xσ51_1))))))))))))) (by decide)).1
            have kp283 : gI σ52_1 o 9 = gI σ51_1 o 9 := (cσ52_1.O (ko.up (xσ27.trans (xσ29.trans (xσ30.trans (xσ33.trans (xσ41.trans (xσ42.trans (xσ43.trans (xσ44.trans (xτ89.trans (xσ46_1.trans (xσ47_1.trans (xσ48_1.trans xσ51_1))))))))))))) (by decide)).1
            have r5σ52_1 := I_6_5 iσ52_1.1 (kth.up (xσ27.trans (xσ29.trans (xσ30.trans (xσ33.trans (xσ41.trans (xσ42.trans (xσ43.trans (xσ44.trans (xτ89.trans (xσ46_1.trans (xσ47_1.trans (xσ48_1.trans (xσ51_1.trans xσ52_1))))))))))))))
            exact hQ σ52_1 () iσ52_1 fσ52_1 oxcσ52_1 (⟨by omega, by omega, ⟨by omega, (fun h => absurd h (by omega)), (fun h => absurd h (by omega))⟩⟩)
          · rw [if_neg hc210]
            have hc210q := Classical.not_not.mp hc210
            unfold w_X6_sourceText_102
            refine i_X6_newColumn iτ89 (kth.up (xσ27.trans (xσ29.trans (xσ30.trans (xσ33.trans (xσ41.trans (xσ42.trans (xσ43.trans (xσ44.trans xτ89))))))))) (kp126.trans hX0) (kX.up (xσ27.trans (xσ29.trans (xσ30.trans (xσ33.trans (xσ41.trans (xσ42.trans (xσ43.trans (xσ44.trans xτ89))))))))) (((xσ27.trans (xσ29.trans (xσ30.trans (xσ33.trans (xσ41.trans (xσ42.trans (xσ43.trans (xσ44.trans xτ89)))))))) tx kX.1).2.2.trans gX) (kp128.trans h8) (ko.up (xσ27.trans (xσ29.trans (xσ30.trans (xσ33.trans (xσ41.trans (xσ42.trans (xσ43.trans (xσ44.trans xτ89))))))))) (by (first | omega | with_reducible assumption | with_reducible exact rng_toInt _ | with_reducible exact rng_wr _ | (unfold rng; omega) | (unfold rng at *; omega) | assumption)) (by (first | omega | with_reducible assumption | with_reducible exact rng_toInt _ | with_reducible exact rng_wr _ | (unfold rng; omega) | (unfold rng at *; omega) | assumption)) (by (first | omega | with_reducible assumption | with_reducible exact rng_toInt _ | with_reducible exact rng_wr _ | (unfold rng; omega) | (unfold rng at *; omega) | assumption)) (by (first | omega | with_reducible assumption | with_reducible exact rng_toInt _ | with_reducible exact rng_wr _ | (unfold rng; omega) | (unfold rng at *; omega) | assumption)) (by (first | omega | with_reducible assumption | with_reducible exact rng_toInt _ | with_reducible exact rng_wr _ | (unfold rng; omega) | (unfold rng at *; omega) | assumption)) (fun σ45 _ iσ45 cσ45 oxσ45 pσ45 => ?_) (fun σx LLx Nx nux E ix cx ux px => hX σx LLx Nx nux E ix (fτ89.tr (cx.mo (by decide))) (ux) (by first | exact px | exact ⟨by have := px.1; omega, px.2⟩ | (first | omega | with_reducible assumption | with_reducible exact rng_toInt _ | with_reducible exact rng_wr _ | (unfold rng; omega) | (unfold rng at *; omega) | assumption)))
            intro xσ45
            have fσ45 : Fx [323, 326, 329, 330, 386, 387, 388, 389, 390, 6464, 8320] gr σ σ45 := fτ89.tr (cσ45.mo (by decide))
            have oxcσ45 : OX o σ σ45 := oxcτ89.tr oxσ45 (xσ27.trans (xσ29.trans (xσ30.trans (xσ33.trans (xσ41.trans (xσ42.trans (xσ43.trans (xσ44.trans xτ89))))))))
            have kp284 : gI σ45 J 1 = gI τ89 J 1 := (cσ45.O (kJ.up (xσ27.trans (xσ29.trans (xσ30.trans (xσ33.trans (xσ41.trans (xσ42.trans (xσ43.trans (xσ44.trans xτ89))))))))) (by decide)).1
            have kp285 : gI σ45 J 7 = gI τ89 J 7 := (cσ45.O (kJ.up (xσ27.trans (xσ29.trans (xσ30.trans (xσ33.trans (xσ41.trans (xσ42.trans (xσ43.trans (xσ44.trans xτ89))))))))) (by decide)).1
            have kp286 : gI σ45 o 4 = gI τ89 o 4 := (cσ45.O (ko.up (xσ27.trans (xσ29.trans (xσ30.trans (xσ33.trans (xσ41.trans (xσ42.trans (xσ43.trans (xσ44.trans xτ89))))))))) (by decide)).1
            have kp287 : gI σ45 o 7 = gI τ89 o 7 := (cσ45.O (ko.up (xσ27.trans (xσ29.trans (xσ30.trans (xσ33.trans (xσ41.trans (xσ42.trans (xσ43.trans (xσ44.trans xτ89))))))))) (by decide)).1
            have kp288 : gI σ45 o 8 = gI τ89 o 8 := (cσ45.O (ko.up (xσ27.trans (xσ29.trans (xσ30.trans (xσ33.trans (xσ41.trans (xσ42.trans (xσ43.trans (xσ44.trans xτ89))))))))) (by decide)).1
            have kp289 : gP σ45 J 4 = gP τ89 J 4 := (cσ45.O (kJ.up (xσ27.trans (xσ29.trans (xσ30.trans (xσ33.trans (xσ41.trans (xσ42.trans (xσ43.trans (xσ44.trans xτ89))))))))) (by decide)).2.1
            have kp290 : gP σ45 th 0 = gP τ89 th 0 := (cσ45.O (kth.up (xσ27.trans (xσ29.trans (xσ30.trans (xσ33.trans (xσ41.trans (xσ42.trans (xσ43.trans (xσ44.trans xτ89))))))))) (by decide)).2.1
            have kp291 : gP σ45 th 7 = gP τ89 th 7 := (cσ45.O (kth.up (xσ27.trans (xσ29.trans (xσ30.trans (xσ33.trans (xσ41.trans (xσ42.trans (xσ43.trans (xσ44.trans xτ89))))))))) (by decide)).2.1
            have kp292 : gP σ45 th 8 = gP τ89 th 8 := (cσ45.O (kth.up (xσ27.trans (xσ29.trans (xσ30.trans (xσ33.trans (xσ41.trans (xσ42.trans (xσ43.trans (xσ44.trans xτ89))))))))) (by decide)).2.1
            have kp293 : gI σ45 J 2 = gI τ89 J 2 := (cσ45.O (kJ.up (xσ27.trans (xσ29.trans (xσ30.trans (xσ33.trans (xσ41.trans (xσ42.trans (xσ43.trans (xσ44.trans xτ89))))))))) (by decide)).1
            have kp294 : gI σ45 o 6 = gI τ89 o 6 := (cσ45.O (ko.up (xσ27.trans (xσ29.trans (xσ30.trans (xσ33.trans (xσ41.trans (xσ42.trans (xσ43.trans (xσ44.trans xτ89))))))))) (by decide)).1
            have kp295 : gI σ45 o 9 = gI τ89 o 9 := (cσ45.O (ko.up (xσ27.trans (xσ29.trans (xσ30.trans (xσ33.trans (xσ41.trans (xσ42.trans (xσ43.trans (xσ44.trans xτ89))))))))) (by decide)).1
            have r5σ45 := I_6_5 iσ45.1 (kth.up (xσ27.trans (xσ29.trans (xσ30.trans (xσ33.trans (xσ41.trans (xσ42.trans (xσ43.trans (xσ44.trans (xτ89.trans xσ45))))))))))
            refine ⟨by (first | omega | with_reducible assumption | with_reducible exact rng_toInt _ | with_reducible exact rng_wr _ | (unfold rng; omega) | (unfold rng at *; omega) | assumption), ?_⟩
            exact ih89 σ45 (v1 + 1) iσ45 fσ45 (xτ89.trans xσ45) oxcσ45 (by (first | omega | with_reducible assumption | with_reducible exact rng_toInt _ | with_reducible exact rng_wr _ | (unfold rng; omega) | (unfold rng at *; omega) | assumption)) (by (first | omega | with_reducible assumption | with_reducible exact rng_toInt _ | with_reducible exact rng_wr _ | (unfold rng; omega) | (unfold rng at *; omega) | assumption))
    exact ⟨_, Lp89 _ σ44 _ iσ44 fσ44 (Ext.rfl' _) oxcσ44 (by (first | omega | with_reducible assumption | with_reducible exact rng_toInt _ | with_reducible exact rng_wr _ | (unfold rng; omega) | (unfold rng at *; omega) | assumption)) (Nat.lt_succ_self _)⟩
  · rw [if_neg hc65]
    unfold w_X6_sourceText_44
    refine i_X6_refuse iσ33 (kth.up (xσ27.trans (xσ29.trans (xσ30.trans xσ33)))) (by (first | omega | with_reducible assumption | with_reducible exact rng_toInt _ | with_reducible exact rng_wr _ | (unfold rng; omega) | (unfold rng at *; omega) | assumption)) (by (first | omega | with_reducible assumption | with_reducible exact rng_toInt _ | with_reducible exact rng_wr _ | (unfold rng; omega) | (unfold rng at *; omega) | assumption)) (by (first | omega | with_reducible assumption | with_reducible exact rng_toInt _ | with_reducible exact rng_wr _ | (unfold rng; omega) | (unfold rng at *; omega) | assumption)) (fun σ37 _ iσ37 cσ37 pσ37 => ?_) (fun σx LLx Nx nux E ix cx ux px => hX σx LLx Nx nux E ix (fσ33.tr (cx.mo (by decide))) (ux) (by first | exact px | exact ⟨by have := px.1; omega, px.2⟩ | (first | omega | with_reducible assumption | with_reducible exact rng_toInt _ | with_reducible exact rng_wr _ | (unfold rng; omega) | (unfold rng at *; omega) | assumption)))
    intro xσ37
    exact pσ37.elim
set_option maxHeartbeats 1000000 in
theorem i_X6_filterText {σ : Sg} {pl : Nat} {gq ci gr nc : Nat → Nat} {ot : Nat → Nat → Int} {LL : Nat → List Nat} {N nu : Nat → Nat} {th : Nat} {tx J o q c : Nat} (iσ : IV σ pl gq ci gr nc ot LL N nu) (kth : kO σ th 6) (hX0 : gP σ th 0 = some tx) (kX : kO σ tx 102) (gX : gn σ tx = 1500) (h7 : gP σ th 7 = some J) (kJ : kO σ J 4) (h8 : gP σ th 8 = some o) (ko : kO σ o 5) (hJq : gq J = q) (hq : q ≠ nc 0 ∧ q ≤ 1) (go : gq o = 16 * q + c) (hc : c < 16) (cJ : gI σ J 1 = (c : Int)) (tf : gI σ th 5 ≤ gI σ th 2 ∧ (gI σ th 3 ≠ 0 → gI σ th 5 + 1 ≤ gI σ th 2)) (h5 : nu 5 < 24000) (lp : gI σ J 7 ≤ 2 * gI σ th 5) (f0 : gI σ o 3 = 0 ∧ gI σ o 4 = 0 ∧ gI σ o 7 = -1 ∧ gI σ o 8 = -1) {Q : Sg → Unit → Prop} {X : Sg → String → Prop} (hQ : ∀ (σ' : Sg) (nu' : Nat → Nat) (r : Unit), IV σ' pl gq ci gr nc ot LL N nu' → Fx [261, 262, 263, 323, 324, 326, 327, 386, 387, 388, 389, 390, 6464, 8320] gr σ σ' → NC nu nu' → OX o σ σ' → ((gI σ' th 5 ≤ gI σ' th 2 ∧ (gI σ' th 3 ≠ 0 → gI σ' th 5 + 1 ≤ gI σ' th 2)) ∧ gI σ' J 7 ≤ 2 * gI σ' th 5 ∧ OPR σ σ' gq q c o) → Q σ' r) (hX : ∀ (σ' : Sg) (LL' : Nat → List Nat) (N' nu' : Nat → Nat) (E : String), IV σ' pl gq ci gr nc ot LL' N' nu' → Fx [261, 262, 263, 323, 324, 326, 327, 386, 387, 388, 389, 390, 6464, 8320] gr σ σ' → NCX nu nu' → (LL' = LL ∧ N' = N ∧ E = "java/lang/IllegalArgumentException" ∧ gI σ' th 6 ≠ 0) → X σ' E) : wp_X6_filterText th σ Q X := by
  have fσ : Fx [261, 262, 263, 323, 324, 326, 327, 386, 387, 388, 389, 390, 6464, 8320] gr σ σ := Fx.rf
  have oxσ : OX o σ σ := OX.rf
  have q1 := I_4_1 iσ.1 kJ
  have q2 := I_6_5 iσ.1 kth
  have q3 := I_6_2 iσ.1 kth
  have q4 := iσ.rg th 3; unfold rng at q4
  have q5 := I_4_7 iσ.1 kJ
  have q6 := I_5_3 iσ.1 ko
  have q7 := I_5_4 iσ.1 ko
  have q8 := I_5_7 iσ.1 ko
  have q9 := I_5_8 iσ.1 ko
  have ncb := iσ.ncb
  have r70 := I_4_7 iσ.1 kJ
  have r71 := I_4_1 iσ.1 kJ
  unfold wp_X6_filterText
  unfold w_X6_filterText_0
  refine i_X6_next iσ kth hX0 kX (((Ext.rfl' _) tx kX.1).2.2.trans gX) (by (first | omega | with_reducible assumption | with_reducible exact rng_toInt _ | with_reducible exact rng_wr _ | (unfold rng; omega) | (unfold rng at *; omega) | assumption)) (by (first | omega | with_reducible assumption | with_reducible exact rng_toInt _ | with_reducible exact rng_wr _ | (unfold rng; omega) | (unfold rng at *; omega) | assumption)) (fun σ14 _ iσ14 cσ14 pσ14 => ?_) (fun σx LLx Nx nux E ix cx ux px => hX σx LLx Nx nux E ix (fσ.tr (cx.mo (by decide))) (ux) (by first | exact px | exact ⟨by have := px.1; omega, px.2⟩ | (first | omega | with_reducible assumption | with_reducible exact rng_toInt _ | with_reducible exact rng_wr _ | (unfold rng; omega) | (unfold rng at *; omega) | assumption)))
  intro xσ14
  have fσ14 : Fx [261, 262, 263, 323, 324, 326, 327, 386, 387, 388, 389, 390, 6464, 8320] gr σ σ14 := fσ.tr (cσ14.mo (by decide))
  have oxcσ14 : OX o σ σ14 := oxσ.tr (OX.fx cσ14 (by decide) (by decide)) (Ext.rfl' _)
  have kp10 : gI σ14 J 1 = gI σ J 1 := (cσ14.O kJ (by decide)).1
  have kp11 : gI σ14 J 7 = gI σ J 7 := (cσ14.O kJ (by decide)).1
  have kp12 : gI σ14 o 3 = gI σ o 3 := (cσ14.O ko (by decide)).1
  have kp13 : gI σ14 o 4 = gI σ o 4 := (cσ14.O ko (by decide)).1
  have kp14 : gI σ14 o 7 = gI σ o 7 := (cσ14.O ko (by decide)).1
  have kp15 : gI σ14 o 8 = gI σ o 8 := (cσ14.O ko (by decide)).1
  have kp16 : gP σ14 th 0 = gP σ th 0 := (cσ14.O kth (by decide)).2.1
  have kp17 : gP σ14 th 7 = gP σ th 7 := (cσ14.O kth (by decide)).2.1
  have kp18 : gP σ14 th 8 = gP σ th 8 := (cσ14.O kth (by decide)).2.1
  have kp19 : gI σ14 J 2 = gI σ J 2 := (cσ14.O kJ (by decide)).1
  have kp20 : gI σ14 o 6 = gI σ o 6 := (cσ14.O ko (by decide)).1
  have kp21 : gI σ14 o 9 = gI σ o 9 := (cσ14.O ko (by decide)).1
  have r5σ14 := I_6_5 iσ14.1 (kth.up xσ14)
  refine i_X6_firstInput iσ14 (kth.up xσ14) (kp17.trans h7) (kJ.up xσ14) (kp18.trans h8) (ko.up xσ14) (by (first | omega | with_reducible assumption | with_reducible exact rng_toInt _ | with_reducible exact rng_wr _ | (unfold rng; omega) | (unfold rng at *; omega) | assumption)) (by (first | omega | with_reducible assumption | with_reducible exact rng_toInt _ | with_reducible exact rng_wr _ | (unfold rng; omega) | (unfold rng at *; omega) | assumption)) (by (first | omega | with_reducible assumption | with_reducible exact rng_toInt _ | with_reducible exact rng_wr _ | (unfold rng; omega) | (unfold rng at *; omega) | assumption)) (by (first | omega | with_reducible assumption | with_reducible exact rng_toInt _ | with_reducible exact rng_wr _ | (unfold rng; omega) | (unfold rng at *; omega) | assumption)) (by (first | omega | with_reducible assumption | with_reducible exact rng_toInt _ | with_reducible exact rng_wr _ | (unfold rng; omega) | (unfold rng at *; omega) | assumption)) (by (first | omega | with_reducible assumption | with_reducible exact rng_toInt _ | with_reducible exact rng_wr _ | (unfold rng; omega) | (unfold rng at *; omega) | assumption)) (fun σ15 _ iσ15 cσ15 oxσ15 pσ15 => ?_) (fun σx LLx Nx nux E ix cx ux px => hX σx LLx Nx nux E ix (fσ14.tr (cx.mo (by decide))) (ux) (by first | exact px | exact ⟨by have := px.1; omega, px.2⟩ | (first | omega | with_reducible assumption | with_reducible exact rng_toInt _ | with_reducible exact rng_wr _ | (unfold rng; omega) | (unfold rng at *; omega) | assumption)))
  intro xσ15
  have fσ15 : Fx [261, 262, 263, 323, 324, 326, 327, 386, 387, 388, 389, 390, 6464, 8320] gr σ σ15 := fσ14.tr (cσ15.mo (by decide))
  have oxcσ15 : OX o σ σ15 := oxcσ14.tr oxσ15 (xσ14)
  have kp22 : gI σ15 J 1 = gI σ14 J 1 := (cσ15.O (kJ.up xσ14) (by decide)).1
  have kp23 : gI σ15 J 7 = gI σ14 J 7 := (cσ15.O (kJ.up xσ14) (by decide)).1
  have kp24 : gI σ15 o 3 = gI σ14 o 3 := (cσ15.O (ko.up xσ14) (by decide)).1
  have kp25 : gI σ15 o 4 = gI σ14 o 4 := (cσ15.O (ko.up xσ14) (by decide)).1
  have kp26 : gI σ15 o 8 = gI σ14 o 8 := (cσ15.O (ko.up xσ14) (by decide)).1
  have kp27 : gP σ15 th 0 = gP σ14 th 0 := (cσ15.O (kth.up xσ14) (by decide)).2.1
  have kp28 : gP σ15 th 7 = gP σ14 th 7 := (cσ15.O (kth.up xσ14) (by decide)).2.1
  have kp29 : gP σ15 th 8 = gP σ14 th 8 := (cσ15.O (kth.up xσ14) (by decide)).2.1
  have kp30 : gI σ15 th 2 = gI σ14 th 2 := (cσ15.O (kth.up xσ14) (by decide)).1
  have kp31 : gI σ15 th 3 = gI σ14 th 3 := (cσ15.O (kth.up xσ14) (by decide)).1
  have kp32 : gI σ15 th 5 = gI σ14 th 5 := (cσ15.O (kth.up xσ14) (by decide)).1
  have kp33 : gI σ15 J 2 = gI σ14 J 2 := (cσ15.O (kJ.up xσ14) (by decide)).1
  have kp34 : gI σ15 o 9 = gI σ14 o 9 := (cσ15.O (ko.up xσ14) (by decide)).1
  refine i_X6_next iσ15 (kth.up (xσ14.trans xσ15)) (kp27.trans (kp16.trans hX0)) (kX.up (xσ14.trans xσ15)) (((xσ14.trans xσ15) tx kX.1).2.2.trans gX) (by (first | omega | with_reducible assumption | with_reducible exact rng_toInt _ | with_reducible exact rng_wr _ | (unfold rng; omega) | (unfold rng at *; omega) | assumption)) (by (first | omega | with_reducible assumption | with_reducible exact rng_toInt _ | with_reducible exact rng_wr _ | (unfold rng; omega) | (unfold rng at *; omega) | assumption)) (fun σ16 _ iσ16 cσ16 pσ16 => ?_) (fun σx LLx Nx nux E ix cx ux px => hX σx LLx Nx nux E ix (fσ15.tr (cx.mo (by decide))) (ux) (by first | exact px | exact ⟨by have := px.1; omega, px.2⟩ | (first | omega | with_reducible assumption | with_reducible exact rng_toInt _ | with_reducible exact rng_wr _ | (unfold rng; omega) | (unfold rng at *; omega) | assumption)))
  intro xσ16
  have fσ16 : Fx [261, 262, 263, 323, 324, 326, 327, 386, 387, 388, 389, 390, 6464, 8320] gr σ σ16 := fσ15.tr (cσ16.mo (by decide))
  have oxcσ16 : OX o σ σ16 := oxcσ15.tr (OX.fx cσ16 (by decide) (by decide)) (xσ14.trans xσ15)
  have kp35 : gI σ16 J 1 = gI σ15 J 1 := (cσ16.O (kJ.up (xσ14.trans xσ15)) (by decide)).1
  have kp36 : gI σ16 J 7 = gI σ15 J 7 := (cσ16.O (kJ.up (xσ14.trans xσ15)) (by decide)).1
  have kp37 : gI σ16 o 3 = gI σ15 o 3 := (cσ16.O (ko.up (xσ14.trans xσ15)) (by decide)).1
  have kp38 : gI σ16 o 4 = gI σ15 o 4 := (cσ16.O (ko.up (xσ14.trans xσ15)) (by decide)).1
  have kp39 : gI σ16 o 8 = gI σ15 o 8 := (cσ16.O (ko.up (xσ14.trans xσ15)) (by decide)).1
  have kp40 : gP σ16 th 0 = gP σ15 th 0 := (cσ16.O (kth.up (xσ14.trans xσ15)) (by decide)).2.1
  have kp41 : gP σ16 th 7 = gP σ15 th 7 := (cσ16.O (kth.up (xσ14.trans xσ15)) (by decide)).2.1
  have kp42 : gP σ16 th 8 = gP σ15 th 8 := (cσ16.O (kth.up (xσ14.trans xσ15)) (by decide)).2.1
  have kp43 : gI σ16 J 2 = gI σ15 J 2 := (cσ16.O (kJ.up (xσ14.trans xσ15)) (by decide)).1
  have kp44 : gI σ16 o 6 = gI σ15 o 6 := (cσ16.O (ko.up (xσ14.trans xσ15)) (by decide)).1
  have kp45 : gI σ16 o 7 = gI σ15 o 7 := (cσ16.O (ko.up (xσ14.trans xσ15)) (by decide)).1
  have kp46 : gI σ16 o 9 = gI σ15 o 9 := (cσ16.O (ko.up (xσ14.trans xσ15)) (by decide)).1
  have r5σ16 := I_6_5 iσ16.1 (kth.up (xσ14.trans (xσ15.trans xσ16)))
  refine ⟨J, (kp41.trans (kp28.trans (kp17.trans h7))), fun kk_J => ?_⟩
  refine ⟨o, (kp42.trans (kp29.trans (kp18.trans h8))), fun kk_o => ?_⟩
  obtain ⟨b, eb, fb⟩ := P_4_0 iσ16.1 (kJ.up (xσ14.trans (xσ15.trans xσ16)))
  have mb : kO σ16 b 115 := iσ16.1.kd (kJ.up (xσ14.trans (xσ15.trans xσ16))) rfl eb rfl
  refine ⟨b, eb, fun kk_b => ?_⟩
  have q47 := I_5_7 iσ16.1 (ko.up (xσ14.trans (xσ15.trans xσ16)))
  refine ⟨⟨by (first | omega | with_reducible assumption | with_reducible exact rng_toInt _ | with_reducible exact rng_wr _ | (unfold rng; omega) | (unfold rng at *; omega) | assumption), by (first | omega | with_reducible assumption | with_reducible exact rng_toInt _ | with_reducible exact rng_wr _ | (unfold rng; omega) | (unfold rng at *; omega) | assumption)⟩, ?_⟩
  obtain ⟨b_1, eb_1⟩ := P_115 iσ16.1 mb (k := (gI σ16 o 7).toNat) (by (first | omega | with_reducible assumption | with_reducible exact rng_toInt _ | with_reducible exact rng_wr _ | (unfold rng; omega) | (unfold rng at *; omega) | assumption))
  have fb_1 := T_115 iσ16.1 mb eb_1
  have mb_1 : kO σ16 b_1 5 := iσ16.1.kd mb rfl eb_1 rfl
  refine i_X5_addColumnsOf iσ16 (ko.up (xσ14.trans (xσ15.trans xσ16))) eb_1 mb_1 (by (first | omega | with_reducible assumption | with_reducible exact rng_toInt _ | with_reducible exact rng_wr _ | (unfold rng; omega) | (unfold rng at *; omega) | assumption)) (by (first | omega | with_reducible assumption | with_reducible exact rng_toInt _ | with_reducible exact rng_wr _ | (unfold rng; omega) | (unfold rng at *; omega) | assumption)) (by (first | omega | with_reducible assumption | with_reducible exact rng_toInt _ | with_reducible exact rng_wr _ | (unfold rng; omega) | (unfold rng at *; omega) | assumption)) (fun e => absurd (congrArg gq e) (by omega)) (fun σ20 _ iσ20 cσ20 oxσ20 pσ20 => ?_)
  intro xσ20
  have fσ20 : Fx [261, 262, 263, 323, 324, 326, 327, 386, 387, 388, 389, 390, 6464, 8320] gr σ σ20 := fσ16.tr (cσ20.mo (by decide))
  have oxcσ20 : OX o σ σ20 := oxcσ16.tr oxσ20 (xσ14.trans (xσ15.trans xσ16))
  have kp48 : gI σ20 J 1 = gI σ16 J 1 := (cσ20.O (kJ.up (xσ14.trans (xσ15.trans xσ16))) (by decide)).1
  have kp49 : gI σ20 J 7 = gI σ16 J 7 := (cσ20.O (kJ.up (xσ14.trans (xσ15.trans xσ16))) (by decide)).1
  have kp50 : gI σ20 o 4 = gI σ16 o 4 := (cσ20.O (ko.up (xσ14.trans (xσ15.trans xσ16))) (by decide)).1
  have kp51 : gI σ20 o 7 = gI σ16 o 7 := (cσ20.O (ko.up (xσ14.trans (xσ15.trans xσ16))) (by decide)).1
  have kp52 : gI σ20 o 8 = gI σ16 o 8 := (cσ20.O (ko.up (xσ14.trans (xσ15.trans xσ16))) (by decide)).1
  have kp53 : gP σ20 J 0 = gP σ16 J 0 := (cσ20.O (kJ.up (xσ14.trans (xσ15.trans xσ16))) (by decide)).2.1
  have kp54 : gP σ20 b (gI σ16 o 7).toNat = gP σ16 b (gI σ16 o 7).toNat := (cσ20.A mb (by decide)).2.1
  have kp55 : gP σ20 th 0 = gP σ16 th 0 := (cσ20.O (kth.up (xσ14.trans (xσ15.trans xσ16))) (by decide)).2.1
  have kp56 : gP σ20 th 7 = gP σ16 th 7 := (cσ20.O (kth.up (xσ14.trans (xσ15.trans xσ16))) (by decide)).2.1
  have kp57 : gP σ20 th 8 = gP σ16 th 8 := (cσ20.O (kth.up (xσ14.trans (xσ15.trans xσ16))) (by decide)).2.1
  have kp58 : gI σ20 th 2 = gI σ16 th 2 := (cσ20.O (kth.up (xσ14.trans (xσ15.trans xσ16))) (by decide)).1
  have kp59 : gI σ20 th 3 = gI σ16 th 3 := (cσ20.O (kth.up (xσ14.trans (xσ15.trans xσ16))) (by decide)).1
  have kp60 : gI σ20 th 5 = gI σ16 th 5 := (cσ20.O (kth.up (xσ14.trans (xσ15.trans xσ16))) (by decide)).1
  have kp61 : gI σ20 J 2 = gI σ16 J 2 := (cσ20.O (kJ.up (xσ14.trans (xσ15.trans xσ16))) (by decide)).1
  have kp62 : gI σ20 o 6 = gI σ16 o 6 := (cσ20.O (ko.up (xσ14.trans (xσ15.trans xσ16))) (by decide)).1
  have kp63 : gI σ20 o 9 = gI σ16 o 9 := (cσ20.O (ko.up (xσ14.trans (xσ15.trans xσ16))) (by decide)).1
  refine i_X6_wantSign iσ20 (kth.up (xσ14.trans (xσ15.trans (xσ16.trans xσ20)))) (kp55.trans (kp40.trans (kp27.trans (kp16.trans hX0)))) (kX.up (xσ14.trans (xσ15.trans (xσ16.trans xσ20)))) (((xσ14.trans (xσ15.trans (xσ16.trans xσ20))) tx kX.1).2.2.trans gX) (by (first | omega | with_reducible assumption | with_reducible exact rng_toInt _ | with_reducible exact rng_wr _ | (unfold rng; omega) | (unfold rng at *; omega) | assumption)) (by (first | omega | with_reducible assumption | with_reducible exact rng_toInt _ | with_reducible exact rng_wr _ | (unfold rng; omega) | (unfold rng at *; omega) | assumption)) (fun σ21 _ iσ21 cσ21 pσ21 => ?_) (fun σx LLx Nx nux E ix cx ux px => hX σx LLx Nx nux E ix (fσ20.tr (cx.mo (by decide))) (ux) (by first | exact px | exact ⟨by have := px.1; omega, px.2⟩ | (first | omega | with_reducible assumption | with_reducible exact rng_toInt _ | with_reducible exact rng_wr _ | (unfold rng; omega) | (unfold rng at *; omega) | assumption)))
  intro xσ21
  have fσ21 : Fx [261, 262, 263, 323, 324, 326, 327, 386, 387, 388, 389, 390, 6464, 8320] gr σ σ21 := fσ20.tr (cσ21.mo (by decide))
  have oxcσ21 : OX o σ σ21 := oxcσ20.tr (OX.fx cσ21 (by decide) (by decide)) (xσ14.trans (xσ15.trans (xσ16.trans xσ20)))
  have kp64 : gI σ21 J 1 = gI σ20 J 1 := (cσ21.O (kJ.up (xσ14.trans (xσ15.trans (xσ16.trans xσ20)))) (by decide)).1
  have kp65 : gI σ21 J 7 = gI σ20 J 7 := (cσ21.O (kJ.up (xσ14.trans (xσ15.trans (xσ16.trans xσ20)))) (by decide)).1
  have kp66 : gI σ21 o 4 = gI σ20 o 4 := (cσ21.O (ko.up (xσ14.trans (xσ15.trans (xσ16.trans xσ20)))) (by decide)).1
  have kp67 : gI σ21 o 7 = gI σ20 o 7 := (cσ21.O (ko.up (xσ14.trans (xσ15.trans (xσ16.trans xσ20)))) (by decide)).1
  have kp68 : gI σ21 o 8 = gI σ20 o 8 := (cσ21.O (ko.up (xσ14.trans (xσ15.trans (xσ16.trans xσ20)))) (by decide)).1
  have kp69 : gP σ21 J 0 = gP σ20 J 0 := (cσ21.O (kJ.up (xσ14.trans (xσ15.trans (xσ16.trans xσ20)))) (by decide)).2.1
  have kp70 : gP σ21 b (gI σ16 o 7).toNat = gP σ20 b (gI σ16 o 7).toNat := (cσ21.A (mb.up xσ20) (by decide)).2.1
  have kp71 : gP σ21 th 0 = gP σ20 th 0 := (cσ21.O (kth.up (xσ14.trans (xσ15.trans (xσ16.trans xσ20)))) (by decide)).2.1
  have kp72 : gP σ21 th 7 = gP σ20 th 7 := (cσ21.O (kth.up (xσ14.trans (xσ15.trans (xσ16.trans xσ20)))) (by decide)).2.1
  have kp73 : gP σ21 th 8 = gP σ20 th 8 := (cσ21.O (kth.up (xσ14.trans (xσ15.trans (xσ16.trans xσ20)))) (by decide)).2.1
  have kp74 : gI σ21 J 2 = gI σ20 J 2 := (cσ21.O (kJ.up (xσ14.trans (xσ15.trans (xσ16.trans xσ20)))) (by decide)).1
  have kp75 : gI σ21 o 3 = gI σ20 o 3 := (cσ21.O (ko.up (xσ14.trans (xσ15.trans (xσ16.trans xσ20)))) (by decide)).1
  have kp76 : gI σ21 o 6 = gI σ20 o 6 := (cσ21.O (ko.up (xσ14.trans (xσ15.trans (xσ16.trans xσ20)))) (by decide)).1
  have kp77 : gI σ21 o 9 = gI σ20 o 9 := (cσ21.O (ko.up (xσ14.trans (xσ15.trans (xσ16.trans xσ20)))) (by decide)).1
  have r5σ21 := I_6_5 iσ21.1 (kth.up (xσ14.trans (xσ15.trans (xσ16.trans (xσ20.trans xσ21)))))
  refine i_X6_newValue iσ21 (kth.up (xσ14.trans (xσ15.trans (xσ16.trans (xσ20.trans xσ21))))) (kp72.trans (kp56.trans (kp41.trans (kp28.trans (kp17.trans h7))))) (kJ.up (xσ14.trans (xσ15.trans (xσ16.trans (xσ20.trans xσ21))))) (kp73.trans (kp57.trans (kp42.trans (kp29.trans (kp18.trans h8))))) (ko.up (xσ14.trans (xσ15.trans (xσ16.trans (xσ20.trans xσ21))))) (by (first | omega | with_reducible assumption | with_reducible exact rng_toInt _ | with_reducible exact rng_wr _ | (unfold rng; omega) | (unfold rng at *; omega) | assumption)) (by (first | omega | with_reducible assumption | with_reducible exact rng_toInt _ | with_reducible exact rng_wr _ | (unfold rng; omega) | (unfold rng at *; omega) | assumption)) (by (first | omega | with_reducible assumption | with_reducible exact rng_toInt _ | with_reducible exact rng_wr _ | (unfold rng; omega) | (unfold rng at *; omega) | assumption)) (by (first | omega | with_reducible assumption | with_reducible exact rng_toInt _ | with_reducible exact rng_wr _ | (unfold rng; omega) | (unfold rng at *; omega) | assumption)) (fun σ22 _ iσ22 cσ22 oxσ22 pσ22 => ?_)
  intro xσ22
  have fσ22 : Fx [261, 262, 263, 323, 324, 326, 327, 386, 387, 388, 389, 390, 6464, 8320] gr σ σ22 := fσ21.tr (cσ22.mo (by decide))
  have oxcσ22 : OX o σ σ22 := oxcσ21.tr oxσ22 (xσ14.trans (xσ15.trans (xσ16.trans (xσ20.trans xσ21))))
  have kp78 : gI σ22 J 1 = gI σ21 J 1 := (cσ22.O (kJ.up (xσ14.trans (xσ15.trans (xσ16.trans (xσ20.trans xσ21))))) (by decide)).1
  have kp79 : gI σ22 J 7 = gI σ21 J 7 := (cσ22.O (kJ.up (xσ14.trans (xσ15.trans (xσ16.trans (xσ20.trans xσ21))))) (by decide)).1
  have kp80 : gI σ22 o 7 = gI σ21 o 7 := (cσ22.O (ko.up (xσ14.trans (xσ15.trans (xσ16.trans (xσ20.trans xσ21))))) (by decide)).1
  have kp81 : gI σ22 o 8 = gI σ21 o 8 := (cσ22.O (ko.up (xσ14.trans (xσ15.trans (xσ16.trans (xσ20.trans xσ21))))) (by decide)).1
  have kp82 : gP σ22 J 0 = gP σ21 J 0 := (cσ22.O (kJ.up (xσ14.trans (xσ15.trans (xσ16.trans (xσ20.trans xσ21))))) (by decide)).2.1
  have kp83 : gP σ22 b (gI σ16 o 7).toNat = gP σ21 b (gI σ16 o 7).toNat := (cσ22.A (mb.up (xσ20.trans xσ21)) (by decide)).2.1
  have kp84 : gP σ22 th 0 = gP σ21 th 0 := (cσ22.O (kth.up (xσ14.trans (xσ15.trans (xσ16.trans (xσ20.trans xσ21))))) (by decide)).2.1
  have kp85 : gP σ22 th 7 = gP σ21 th 7 := (cσ22.O (kth.up (xσ14.trans (xσ15.trans (xσ16.trans (xσ20.trans xσ21))))) (by decide)).2.1
  have kp86 : gP σ22 th 8 = gP σ21 th 8 := (cσ22.O (kth.up (xσ14.trans (xσ15.trans (xσ16.trans (xσ20.trans xσ21))))) (by decide)).2.1
  have kp87 : gI σ22 th 2 = gI σ21 th 2 := (cσ22.O (kth.up (xσ14.trans (xσ15.trans (xσ16.trans (xσ20.trans xσ21))))) (by decide)).1
  have kp88 : gI σ22 th 3 = gI σ21 th 3 := (cσ22.O (kth.up (xσ14.trans (xσ15.trans (xσ16.trans (xσ20.trans xσ21))))) (by decide)).1
  have kp89 : gI σ22 th 5 = gI σ21 th 5 := (cσ22.O (kth.up (xσ14.trans (xσ15.trans (xσ16.trans (xσ20.trans xσ21))))) (by decide)).1
  have kp90 : gI σ22 J 2 = gI σ21 J 2 := (cσ22.O (kJ.up (xσ14.trans (xσ15.trans (xσ16.trans (xσ20.trans xσ21))))) (by decide)).1
  have kp91 : gI σ22 o 3 = gI σ21 o 3 := (cσ22.O (ko.up (xσ14.trans (xσ15.trans (xσ16.trans (xσ20.trans xσ21))))) (by decide)).1
  have kp92 : gI σ22 o 6 = gI σ21 o 6 := (cσ22.O (ko.up (xσ14.trans (xσ15.trans (xσ16.trans (xσ20.trans xσ21))))) (by decide)).1
  have kp93 : gI σ22 o 9 = gI σ21 o 9 := (cσ22.O (ko.up (xσ14.trans (xσ15.trans (xσ16.trans (xσ20.trans xσ21))))) (by decide)).1
  refine i_X6_value iσ22 (kth.up (xσ14.trans (xσ15.trans (xσ16.trans (xσ20.trans (xσ21.trans xσ22)))))) (kp84.trans (kp71.trans (kp55.trans (kp40.trans (kp27.trans (kp16.trans hX0)))))) (kX.up (xσ14.trans (xσ15.trans (xσ16.trans (xσ20.trans (xσ21.trans xσ22)))))) (((xσ14.trans (xσ15.trans (xσ16.trans (xσ20.trans (xσ21.trans xσ22))))) tx kX.1).2.2.trans gX) (kp85.trans (kp72.trans (kp56.trans (kp41.trans (kp28.trans (kp17.trans h7)))))) (kJ.up (xσ14.trans (xσ15.trans (xσ16.trans (xσ20.trans (xσ21.trans xσ22)))))) (kp86.trans (kp73.trans (kp57.trans (kp42.trans (kp29.trans (kp18.trans h8)))))) (ko.up (xσ14.trans (xσ15.trans (xσ16.trans (xσ20.trans (xσ21.trans xσ22)))))) (by (first | omega | with_reducible assumption | with_reducible exact rng_toInt _ | with_reducible exact rng_wr _ | (unfold rng; omega) | (unfold rng at *; omega) | assumption)) (by (first | omega | with_reducible assumption | with_reducible exact rng_toInt _ | with_reducible exact rng_wr _ | (unfold rng; omega) | (unfold rng at *; omega) | assumption)) (by (first | omega | with_reducible assumption | with_reducible exact rng_toInt _ | with_reducible exact rng_wr _ | (unfold rng; omega) | (unfold rng at *; omega) | assumption)) (by (first | omega | with_reducible assumption | with_reducible exact rng_toInt _ | with_reducible exact rng_wr _ | (unfold rng; omega) | (unfold rng at *; omega) | assumption)) (by (first | omega | with_reducible assumption | with_reducible exact rng_toInt _ | with_reducible exact rng_wr _ | (unfold rng; omega) | (unfold rng at *; omega) | assumption)) (by (first | omega | with_reducible assumption | with_reducible exact rng_toInt _ | with_reducible exact rng_wr _ | (unfold rng; omega) | (unfold rng at *; omega) | assumption)) (by (first | omega | with_reducible assumption | with_reducible exact rng_toInt _ | with_reducible exact rng_wr _ | (unfold rng; omega) | (unfold rng at *; omega) | assumption)) (by (first | omega | with_reducible assumption | with_reducible exact rng_toInt _ | with_reducible exact rng_wr _ | (unfold rng; omega) | (unfold rng at *; omega) | assumption)) (by (first | omega | with_reducible assumption | with_reducible exact rng_toInt _ | with_reducible exact rng_wr _ | (unfold rng; omega) | (unfold rng at *; omega) | assumption)) (fun σ23 nuσ23 _ iσ23 cσ23 uσ23 pσ23 => ?_) (fun σx LLx Nx nux E ix cx ux px => hX σx LLx Nx nux E ix (fσ22.tr (cx.mo (by decide))) (ux) (by first | exact px | exact ⟨by have := px.1; omega, px.2⟩ | (first | omega | with_reducible assumption | with_reducible exact rng_toInt _ | with_reducible exact rng_wr _ | (unfold rng; omega) | (unfold rng at *; omega) | assumption)))
  intro xσ23
  have fσ23 : Fx [261, 262, 263, 323, 324, 326, 327, 386, 387, 388, 389, 390, 6464, 8320] gr σ σ23 := fσ22.tr (cσ23.mo (by decide))
  have oxcσ23 : OX o σ σ23 := oxcσ22.tr (OX.fx cσ23 (by decide) (by decide)) (xσ14.trans (xσ15.trans (xσ16.trans (xσ20.trans (xσ21.trans xσ22)))))
  have nu_σ23 : NC nu nuσ23 := uσ23
  have uσ23_0 := uσ23 0 (by decide) (by decide)
  have uσ23_1 := uσ23 1 (by decide) (by decide)
  have uσ23_2 := uσ23 2 (by decide) (by decide)
  have uσ23_5 := uσ23 5 (by decide) (by decide)
  have uσ23_15 := uσ23 15 (by decide) (by decide)
  have uσ23_16 := uσ23 16 (by decide) (by decide)
  have kp94 : gI σ23 J 1 = gI σ22 J 1 := (cσ23.O (kJ.up (xσ14.trans (xσ15.trans (xσ16.trans (xσ20.trans (xσ21.trans xσ22)))))) (by decide)).1
  have kp95 : gI σ23 o 7 = gI σ22 o 7 := (cσ23.O (ko.up (xσ14.trans (xσ15.trans (xσ16.trans (xσ20.trans (xσ21.trans xσ22)))))) (by decide)).1
  have kp96 : gI σ23 o 8 = gI σ22 o 8 := (cσ23.O (ko.up (xσ14.trans (xσ15.trans (xσ16.trans (xσ20.trans (xσ21.trans xσ22)))))) (by decide)).1
  have kp97 : gP σ23 J 0 = gP σ22 J 0 := (cσ23.O (kJ.up (xσ14.trans (xσ15.trans (xσ16.trans (xσ20.trans (xσ21.trans xσ22)))))) (by decide)).2.1
  have kp98 : gP σ23 b (gI σ16 o 7).toNat = gP σ22 b (gI σ16 o 7).toNat := (cσ23.A (mb.up (xσ20.trans (xσ21.trans xσ22))) (by decide)).2.1
  have kp99 : gP σ23 th 0 = gP σ22 th 0 := (cσ23.O (kth.up (xσ14.trans (xσ15.trans (xσ16.trans (xσ20.trans (xσ21.trans xσ22)))))) (by decide)).2.1
  have kp100 : gP σ23 th 7 = gP σ22 th 7 := (cσ23.O (kth.up (xσ14.trans (xσ15.trans (xσ16.trans (xσ20.trans (xσ21.trans xσ22)))))) (by decide)).2.1
  have kp101 : gP σ23 th 8 = gP σ22 th 8 := (cσ23.O (kth.up (xσ14.trans (xσ15.trans (xσ16.trans (xσ20.trans (xσ21.trans xσ22)))))) (by decide)).2.1
  have kp102 : gI σ23 J 2 = gI σ22 J 2 := (cσ23.O (kJ.up (xσ14.trans (xσ15.trans (xσ16.trans (xσ20.trans (xσ21.trans xσ22)))))) (by decide)).1
  have kp103 : gI σ23 o 3 = gI σ22 o 3 := (cσ23.O (ko.up (xσ14.trans (xσ15.trans (xσ16.trans (xσ20.trans (xσ21.trans xσ22)))))) (by decide)).1
  have kp104 : gI σ23 o 4 = gI σ22 o 4 := (cσ23.O (ko.up (xσ14.trans (xσ15.trans (xσ16.trans (xσ20.trans (xσ21.trans xσ22)))))) (by decide)).1
  have kp105 : gI σ23 o 6 = gI σ22 o 6 := (cσ23.O (ko.up (xσ14.trans (xσ15.trans (xσ16.trans (xσ20.trans (xσ21.trans xσ22)))))) (by decide)).1
  have kp106 : gI σ23 o 9 = gI σ22 o 9 := (cσ23.O (ko.up (xσ14.trans (xσ15.trans (xσ16.trans (xσ20.trans (xσ21.trans xσ22)))))) (by decide)).1
  have r5σ23 := I_6_5 iσ23.1 (kth.up (xσ14.trans (xσ15.trans (xσ16.trans (xσ20.trans (xσ21.trans (xσ22.trans xσ23)))))))
  refine ⟨J, (kp100.trans (kp85.trans (kp72.trans (kp56.trans (kp41.trans (kp28.trans (kp17.trans h7))))))), fun kk_J_1 => ?_⟩
  refine i_X4_emit iσ23 (kJ.up (xσ14.trans (xσ15.trans (xσ16.trans (xσ20.trans (xσ21.trans (xσ22.trans xσ23))))))) (by (first | omega | with_reducible assumption | with_reducible exact rng_toInt _ | with_reducible exact rng_wr _ | (unfold rng; omega) | (unfold rng at *; omega) | assumption)) (by (first | omega | with_reducible assumption | with_reducible exact rng_toInt _ | with_reducible exact rng_wr _ | (unfold rng; omega) | (unfold rng at *; omega) | assumption)) (by (first | omega | with_reducible assumption | with_reducible exact rng_toInt _ | with_reducible exact rng_wr _ | (unfold rng; omega) | (unfold rng at *; omega) | assumption)) (by (first | omega | with_reducible assumption | with_reducible exact rng_toInt _ | with_reducible exact rng_wr _ | (unfold rng; omega) | (unfold rng at *; omega) | assumption)) (fun σ24 nuσ24 r25 iσ24 cσ24 uσ24 pσ24 => ?_)
  intro xσ24
  have fσ24 : Fx [261, 262, 263, 323, 324, 326, 327, 386, 387, 388, 389, 390, 6464, 8320] gr σ σ24 := fσ23.tr (cσ24.mo (by decide))
  have oxcσ24 : OX o σ σ24 := oxcσ23.tr (OX.fx cσ24 (by decide) (by decide)) (xσ14.trans (xσ15.trans (xσ16.trans (xσ20.trans (xσ21.trans (xσ22.trans xσ23))))))
  have nu_σ24 : NC nu nuσ24 := nu_σ23.tr uσ24
  have uσ24_0 := uσ24 0 (by decide) (by decide)
  have uσ24_1 := uσ24 1 (by decide) (by decide)
  have uσ24_2 := uσ24 2 (by decide) (by decide)
  have uσ24_5 := uσ24 5 (by decide) (by decide)
  have uσ24_15 := uσ24 15 (by decide) (by decide)
  have uσ24_16 := uσ24 16 (by decide) (by decide)
  have kp107 : gI σ24 J 1 = gI σ23 J 1 := (cσ24.O (kJ.up (xσ14.trans (xσ15.trans (xσ16.trans (xσ20.trans (xσ21.trans (xσ22.trans xσ23))))))) (by decide)).1
  have kp108 : gI σ24 o 7 = gI σ23 o 7 := (cσ24.O (ko.up (xσ14.trans (xσ15.trans (xσ16.trans (xσ20.trans (xσ21.trans (xσ22.trans xσ23))))))) (by decide)).1
  have kp109 : gI σ24 o 8 = gI σ23 o 8 := (cσ24.O (ko.up (xσ14.trans (xσ15.trans (xσ16.trans (xσ20.trans (xσ21.trans (xσ22.trans xσ23))))))) (by decide)).1
  have kp110 : gP σ24 J 0 = gP σ23 J 0 := (cσ24.O (kJ.up (xσ14.trans (xσ15.trans (xσ16.trans (xσ20.trans (xσ21.trans (xσ22.trans xσ23))))))) (by decide)).2.1
  have kp111 : gP σ24 b (gI σ16 o 7).toNat = gP σ23 b (gI σ16 o 7).toNat := (cσ24.A (mb.up (xσ20.trans (xσ21.trans (xσ22.trans xσ23)))) (by decide)).2.1
  have kp112 : gP σ24 th 0 = gP σ23 th 0 := (cσ24.O (kth.up (xσ14.trans (xσ15.trans (xσ16.trans (xσ20.trans (xσ21.trans (xσ22.trans xσ23))))))) (by decide)).2.1
  have kp113 : gP σ24 th 7 = gP σ23 th 7 := (cσ24.O (kth.up (xσ14.trans (xσ15.trans (xσ16.trans (xσ20.trans (xσ21.trans (xσ22.trans xσ23))))))) (by decide)).2.1
  have kp114 : gP σ24 th 8 = gP σ23 th 8 := (cσ24.O (kth.up (xσ14.trans (xσ15.trans (xσ16.trans (xσ20.trans (xσ21.trans (xσ22.trans xσ23))))))) (by decide)).2.1
  have kp115 : gI σ24 th 2 = gI σ23 th 2 := (cσ24.O (kth.up (xσ14.trans (xσ15.trans (xσ16.trans (xσ20.trans (xσ21.trans (xσ22.trans xσ23))))))) (by decide)).1
  have kp116 : gI σ24 th 3 = gI σ23 th 3 := (cσ24.O (kth.up (xσ14.trans (xσ15.trans (xσ16.trans (xσ20.trans (xσ21.trans (xσ22.trans xσ23))))))) (by decide)).1
  have kp117 : gI σ24 th 5 = gI σ23 th 5 := (cσ24.O (kth.up (xσ14.trans (xσ15.trans (xσ16.trans (xσ20.trans (xσ21.trans (xσ22.trans xσ23))))))) (by decide)).1
  have kp118 : gI σ24 J 2 = gI σ23 J 2 := (cσ24.O (kJ.up (xσ14.trans (xσ15.trans (xσ16.trans (xσ20.trans (xσ21.trans (xσ22.trans xσ23))))))) (by decide)).1
  have kp119 : gI σ24 o 3 = gI σ23 o 3 := (cσ24.O (ko.up (xσ14.trans (xσ15.trans (xσ16.trans (xσ20.trans (xσ21.trans (xσ22.trans xσ23))))))) (by decide)).1
  have kp120 : gI σ24 o 4 = gI σ23 o 4 := (cσ24.O (ko.up (xσ14.trans (xσ15.trans (xσ16.trans (xσ20.trans (xσ21.trans (xσ22.trans xσ23))))))) (by decide)).1
  have kp121 : gI σ24 o 6 = gI σ23 o 6 := (cσ24.O (ko.up (xσ14.trans (xσ15.trans (xσ16.trans (xσ20.trans (xσ21.trans (xσ22.trans xσ23))))))) (by decide)).1
  have kp122 : gI σ24 o 9 = gI σ23 o 9 := (cσ24.O (ko.up (xσ14.trans (xσ15.trans (xσ16.trans (xσ20.trans (xσ21.trans (xσ22.trans xσ23))))))) (by decide)).1
  exact hQ σ24 nuσ24 () iσ24 fσ24 (nu_σ24) oxcσ24 (⟨by omega, by omega, ⟨by omega, (fun h => absurd h (by omega)), (fun h => absurd h (by omega))⟩⟩)
set_option maxHeartbeats 1000000 in
theorem i_X6_mapText {σ : Sg} {pl : Nat} {gq ci gr nc : Nat → Nat} {ot : Nat → Nat → Int} {LL : Nat → List Nat} {N nu : Nat → Nat} {th : Nat} {tx J o q c : Nat} (iσ : IV σ pl gq ci gr nc ot LL N nu) (kth : kO σ th 6) (hX0 : gP σ th 0 = some tx) (kX : kO σ tx 102) (gX : gn σ tx = 1500) (h7 : gP σ th 7 = some J) (kJ : kO σ J 4) (h8 : gP σ th 8 = some o) (ko : kO σ o 5) (hJq : gq J = q) (hq : q ≠ nc 0 ∧ q ≤ 1) (go : gq o = 16 * q + c) (hc : c < 16) (cJ : gI σ J 1 = (c : Int)) (tf : gI σ th 5 ≤ gI σ th 2 ∧ (gI σ th 3 ≠ 0 → gI σ th 5 + 1 ≤ gI σ th 2)) (h5 : nu 5 < 24000) (lp : gI σ J 7 ≤ 2 * gI σ th 5) (f0 : gI σ o 3 = 0 ∧ gI σ o 4 = 0 ∧ gI σ o 7 = -1 ∧ gI σ o 8 = -1) {Q : Sg → Unit → Prop} {X : Sg → String → Prop} (hQ : ∀ (σ' : Sg) (nu' : Nat → Nat) (r : Unit), IV σ' pl gq ci gr nc ot LL N nu' → Fx [261, 262, 263, 323, 324, 326, 327, 386, 387, 388, 389, 390, 6464, 8320] gr σ σ' → NC nu nu' → OX o σ σ' → ((gI σ' th 5 ≤ gI σ' th 2 ∧ (gI σ' th 3 ≠ 0 → gI σ' th 5 + 1 ≤ gI σ' th 2)) ∧ gI σ' J 7 ≤ 2 * gI σ' th 5 ∧ OPR σ σ' gq q c o) → Q σ' r) (hX : ∀ (σ' : Sg) (LL' : Nat → List Nat) (N' nu' : Nat → Nat) (E : String), IV σ' pl gq ci gr nc ot LL' N' nu' → Fx [261, 262, 263, 323, 324, 326, 327, 386, 387, 388, 389, 390, 6464, 8320] gr σ σ' → NCX nu nu' → (LL' = LL ∧ N' = N ∧ E = "java/lang/IllegalArgumentException" ∧ gI σ' th 6 ≠ 0) → X σ' E) : wp_X6_mapText th σ Q X := by
  have fσ : Fx [261, 262, 263, 323, 324, 326, 327, 386, 387, 388, 389, 390, 6464, 8320] gr σ σ := Fx.rf
  have oxσ : OX o σ σ := OX.rf
  have q1 := I_4_1 iσ.1 kJ
  have q2 := I_6_5 iσ.1 kth
  have q3 := I_6_2 iσ.1 kth
  have q4 := iσ.rg th 3; unfold rng at q4
  have q5 := I_4_7 iσ.1 kJ
  have q6 := I_5_3 iσ.1 ko
  have q7 := I_5_4 iσ.1 ko
  have q8 := I_5_7 iσ.1 ko
  have q9 := I_5_8 iσ.1 ko
  have ncb := iσ.ncb
  have r70 := I_4_7 iσ.1 kJ
  have r71 := I_4_1 iσ.1 kJ
  unfold wp_X6_mapText
  unfold w_X6_mapText_0
  refine i_X6_next iσ kth hX0 kX (((Ext.rfl' _) tx kX.1).2.2.trans gX) (by (first | omega | with_reducible assumption | with_reducible exact rng_toInt _ | with_reducible exact rng_wr _ | (unfold rng; omega) | (unfold rng at *; omega) | assumption)) (by (first | omega | with_reducible assumption | with_reducible exact rng_toInt _ | with_reducible exact rng_wr _ | (unfold rng; omega) | (unfold rng at *; omega) | assumption)) (fun σ15 _ iσ15 cσ15 pσ15 => ?_) (fun σx LLx Nx nux E ix cx ux px => hX σx LLx Nx nux E ix (fσ.tr (cx.mo (by decide))) (ux) (by first | exact px | exact ⟨by have := px.1; omega, px.2⟩ | (first | omega | with_reducible assumption | with_reducible exact rng_toInt _ | with_reducible exact rng_wr _ | (unfold rng; omega) | (unfold rng at *; omega) | assumption)))
  intro xσ15
  have fσ15 : Fx [261, 262, 263, 323, 324, 326, 327, 386, 387, 388, 389, 390, 6464, 8320] gr σ σ15 := fσ.tr (cσ15.mo (by decide))
  have oxcσ15 : OX o σ σ15 := oxσ.tr (OX.fx cσ15 (by decide) (by decide)) (Ext.rfl' _)
  have kp10 : gI σ15 J 1 = gI σ J 1 := (cσ15.O kJ (by decide)).1
  have kp11 : gI σ15 J 7 = gI σ J 7 := (cσ15.O kJ (by decide)).1
  have kp12 : gI σ15 o 3 = gI σ o 3 := (cσ15.O ko (by decide)).1
  have kp13 : gI σ15 o 4 = gI σ o 4 := (cσ15.O ko (by decide)).1
  have kp14 : gI σ15 o 7 = gI σ o 7 := (cσ15.O ko (by decide)).1
  have kp15 : gI σ15 o 8 = gI σ o 8 := (cσ15.O ko (by decide)).1
  have kp16 : gP σ15 th 0 = gP σ th 0 := (cσ15.O kth (by decide)).2.1
  have kp17 : gP σ15 th 7 = gP σ th 7 := (cσ15.O kth (by decide)).2.1
  have kp18 : gP σ15 th 8 = gP σ th 8 := (cσ15.O kth (by decide)).2.1
  have kp19 : gI σ15 J 2 = gI σ J 2 := (cσ15.O kJ (by decide)).1
  have kp20 : gI σ15 o 6 = gI σ o 6 := (cσ15.O ko (by decide)).1
  have kp21 : gI σ15 o 9 = gI σ o 9 := (cσ15.O ko (by decide)).1
  have r5σ15 := I_6_5 iσ15.1 (kth.up xσ15)
  refine i_X6_firstInput iσ15 (kth.up xσ15) (kp17.trans h7) (kJ.up xσ15) (kp18.trans h8) (ko.up xσ15) (by (first | omega | with_reducible assumption | with_reducible exact rng_toInt _ | with_reducible exact rng_wr _ | (unfold rng; omega) | (unfold rng at *; omega) | assumption)) (by (first | omega | with_reducible assumption | with_reducible exact rng_toInt _ | with_reducible exact rng_wr _ | (unfold rng; omega) | (unfold rng at *; omega) | assumption)) (by (first | omega | with_reducible assumption | with_reducible exact rng_toInt _ | with_reducible exact rng_wr _ | (unfold rng; omega) | (unfold rng at *; omega) | assumption)) (by (first | omega | with_reducible assumption | with_reducible exact rng_toInt _ | with_reducible exact rng_wr _ | (unfold rng; omega) | (unfold rng at *; omega) | assumption)) (by (first | omega | with_reducible assumption | with_reducible exact rng_toInt _ | with_reducible exact rng_wr _ | (unfold rng; omega) | (unfold rng at *; omega) | assumption)) (by (first | omega | with_reducible assumption | with_reducible exact rng_toInt _ | with_reducible exact rng_wr _ | (unfold rng; omega) | (unfold rng at *; omega) | assumption)) (fun σ16 _ iσ16 cσ16 oxσ16 pσ16 => ?_) (fun σx LLx Nx nux E ix cx ux px => hX σx LLx Nx nux E ix (fσ15.tr (cx.mo (by decide))) (ux) (by first | exact px | exact ⟨by have := px.1; omega, px.2⟩ | (first | omega | with_reducible assumption | with_reducible exact rng_toInt _ | with_reducible exact rng_wr _ | (unfold rng; omega) | (unfold rng at *; omega) | assumption)))
  intro xσ16
  have fσ16 : Fx [261, 262, 263, 323, 324, 326, 327, 386, 387, 388, 389, 390, 6464, 8320] gr σ σ16 := fσ15.tr (cσ16.mo (by decide))
  have oxcσ16 : OX o σ σ16 := oxcσ15.tr oxσ16 (xσ15)
  have kp22 : gI σ16 J 1 = gI σ15 J 1 := (cσ16.O (kJ.up xσ15) (by decide)).1
  have kp23 : gI σ16 J 7 = gI σ15 J 7 := (cσ16.O (kJ.up xσ15) (by decide)).1
  have kp24 : gI σ16 o 3 = gI σ15 o 3 := (cσ16.O (ko.up xσ15) (by decide)).1
  have kp25 : gI σ16 o 4 = gI σ15 o 4 := (cσ16.O (ko.up xσ15) (by decide)).1
  have kp26 : gI σ16 o 8 = gI σ15 o 8 := (cσ16.O (ko.up xσ15) (by decide)).1
  have kp27 : gP σ16 th 0 = gP σ15 th 0 := (cσ16.O (kth.up xσ15) (by decide)).2.1
  have kp28 : gP σ16 th 7 = gP σ15 th 7 := (cσ16.O (kth.up xσ15) (by decide)).2.1
  have kp29 : gP σ16 th 8 = gP σ15 th 8 := (cσ16.O (kth.up xσ15) (by decide)).2.1
  have kp30 : gI σ16 th 2 = gI σ15 th 2 := (cσ16.O (kth.up xσ15) (by decide)).1
  have kp31 : gI σ16 th 3 = gI σ15 th 3 := (cσ16.O (kth.up xσ15) (by decide)).1
  have kp32 : gI σ16 th 5 = gI σ15 th 5 := (cσ16.O (kth.up xσ15) (by decide)).1
  have kp33 : gI σ16 J 2 = gI σ15 J 2 := (cσ16.O (kJ.up xσ15) (by decide)).1
  have kp34 : gI σ16 o 9 = gI σ15 o 9 := (cσ16.O (ko.up xσ15) (by decide)).1
  refine i_X6_next iσ16 (kth.up (xσ15.trans xσ16)) (kp27.trans (kp16.trans hX0)) (kX.up (xσ15.trans xσ16)) (((xσ15.trans xσ16) tx kX.1).2.2.trans gX) (by (first | omega | with_reducible assumption | with_reducible exact rng_toInt _ | with_reducible exact rng_wr _ | (unfold rng; omega) | (unfold rng at *; omega) | assumption)) (by (first | omega | with_reducible assumption | with_reducible exact rng_toInt _ | with_reducible exact rng_wr _ | (unfold rng; omega) | (unfold rng at *; omega) | assumption)) (fun σ17 _ iσ17 cσ17 pσ17 => ?_) (fun σx LLx Nx nux E ix cx ux px => hX σx LLx Nx nux E ix (fσ16.tr (cx.mo (by decide))) (ux) (by first | exact px | exact ⟨by have := px.1; omega, px.2⟩ | (first | omega | with_reducible assumption | with_reducible exact rng_toInt _ | with_reducible exact rng_wr _ | (unfold rng; omega) | (unfold rng at *; omega) | assumption)))
  intro xσ17
  have fσ17 : Fx [261, 262, 263, 323, 324, 326, 327, 386, 387, 388, 389, 390, 6464, 8320] gr σ σ17 := fσ16.tr (cσ17.mo (by decide))
  have oxcσ17 : OX o σ σ17 := oxcσ16.tr (OX.fx cσ17 (by decide) (by decide)) (xσ15.trans xσ16)
  have kp35 : gI σ17 J 1 = gI σ16 J 1 := (cσ17.O (kJ.up (xσ15.trans xσ16)) (by decide)).1
  have kp36 : gI σ17 J 7 = gI σ16 J 7 := (cσ17.O (kJ.up (xσ15.trans xσ16)) (by decide)).1
  have kp37 : gI σ17 o 3 = gI σ16 o 3 := (cσ17.O (ko.up (xσ15.trans xσ16)) (by decide)).1
  have kp38 : gI σ17 o 4 = gI σ16 o 4 := (cσ17.O (ko.up (xσ15.trans xσ16)) (by decide)).1
  have kp39 : gI σ17 o 8 = gI σ16 o 8 := (cσ17.O (ko.up (xσ15.trans xσ16)) (by decide)).1
  have kp40 : gP σ17 th 0 = gP σ16 th 0 := (cσ17.O (kth.up (xσ15.trans xσ16)) (by decide)).2.1
  have kp41 : gP σ17 th 7 = gP σ16 th 7 := (cσ17.O (kth.up (xσ15.trans xσ16)) (by decide)).2.1
  have kp42 : gP σ17 th 8 = gP σ16 th 8 := (cσ17.O (kth.up (xσ15.trans xσ16)) (by decide)).2.1
  have kp43 : gI σ17 J 2 = gI σ16 J 2 := (cσ17.O (kJ.up (xσ15.trans xσ16)) (by decide)).1
  have kp44 : gI σ17 o 6 = gI σ16 o 6 := (cσ17.O (ko.up (xσ15.trans xσ16)) (by decide)).1
  have kp45 : gI σ17 o 7 = gI σ16 o 7 := (cσ17.O (ko.up (xσ15.trans xσ16)) (by decide)).1
  have kp46 : gI σ17 o 9 = gI σ16 o 9 := (cσ17.O (ko.up (xσ15.trans xσ16)) (by decide)).1
  have r5σ17 := I_6_5 iσ17.1 (kth.up (xσ15.trans (xσ16.trans xσ17)))
  refine i_X6_wantSign iσ17 (kth.up (xσ15.trans (xσ16.trans xσ17))) (kp40.trans (kp27.trans (kp16.trans hX0))) (kX.up (xσ15.trans (xσ16.trans xσ17))) (((xσ15.trans (xσ16.trans xσ17)) tx kX.1).2.2.trans gX) (by (first | omega | with_reducible assumption | with_reducible exact rng_toInt _ | with_reducible exact rng_wr _ | (unfold rng; omega) | (unfold rng at *; omega) | assumption)) (by (first | omega | with_reducible assumption | with_reducible exact rng_toInt _ | with_reducible exact rng_wr _ | (unfold rng; omega) | (unfold rng at *; omega) | assumption)) (fun σ18 _ iσ18 cσ18 pσ18 => ?_) (fun σx LLx Nx nux E ix cx ux px => hX σx LLx Nx nux E ix (fσ17.tr (cx.mo (by decide))) (ux) (by first | exact px | exact ⟨by have := px.1; omega, px.2⟩ | (first | omega | with_reducible assumption | with_reducible exact rng_toInt _ | with_reducible exact rng_wr _ | (unfold rng; omega) | (unfold rng at *; omega) | assumption)))
  intro xσ18
  have fσ18 : Fx [261, 262, 263, 323, 324, 326, 327, 386, 387, 388, 389, 390, 6464, 8320] gr σ σ18 := fσ17.tr (cσ18.mo (by decide))
  have oxcσ18 : OX o σ σ18 := oxcσ17.tr (OX.fx cσ18 (by decide) (by decide)) (xσ15.trans (xσ16.trans xσ17))
  have kp47 : gI σ18 J 1 = gI σ17 J 1 := (cσ18.O (kJ.up (xσ15.trans (xσ16.trans xσ17))) (by decide)).1
  have kp48 : gI σ18 J 7 = gI σ17 J 7 := (cσ18.O (kJ.up (xσ15.trans (xσ16.trans xσ17))) (by decide)).1
  have kp49 : gI σ18 o 3 = gI σ17 o 3 := (cσ18.O (ko.up (xσ15.trans (xσ16.trans xσ17))) (by decide)).1
  have kp50 : gI σ18 o 4 = gI σ17 o 4 := (cσ18.O (ko.up (xσ15.trans (xσ16.trans xσ17))) (by decide)).1
  have kp51 : gI σ18 o 8 = gI σ17 o 8 := (cσ18.O (ko.up (xσ15.trans (xσ16.trans xσ17))) (by decide)).1
  have kp52 : gP σ18 th 0 = gP σ17 th 0 := (cσ18.O (kth.up (xσ15.trans (xσ16.trans xσ17))) (by decide)).2.1
  have kp53 : gP σ18 th 7 = gP σ17 th 7 := (cσ18.O (kth.up (xσ15.trans (xσ16.trans xσ17))) (by decide)).2.1
  have kp54 : gP σ18 th 8 = gP σ17 th 8 := (cσ18.O (kth.up (xσ15.trans (xσ16.trans xσ17))) (by decide)).2.1
  have kp55 : gI σ18 J 2 = gI σ17 J 2 := (cσ18.O (kJ.up (xσ15.trans (xσ16.trans xσ17))) (by decide)).1
  have kp56 : gI σ18 o 6 = gI σ17 o 6 := (cσ18.O (ko.up (xσ15.trans (xσ16.trans xσ17))) (by decide)).1
  have kp57 : gI σ18 o 7 = gI σ17 o 7 := (cσ18.O (ko.up (xσ15.trans (xσ16.trans xσ17))) (by decide)).1
  have kp58 : gI σ18 o 9 = gI σ17 o 9 := (cσ18.O (ko.up (xσ15.trans (xσ16.trans xσ17))) (by decide)).1
  have r5σ18 := I_6_5 iσ18.1 (kth.up (xσ15.trans (xσ16.trans (xσ17.trans xσ18))))
  have Lp21 : ∀ (fu21 : Nat) (τ21 : Sg) (nut21 : Nat → Nat) (v1 : Int), IV τ21 pl gq ci gr nc ot LL N nut21 → Fx [261, 262, 263, 323, 324, 326, 327, 386, 387, 388, 389, 390, 6464, 8320] gr σ τ21 → Ext σ18 τ21 → NC nu nut21 → OX o σ τ21 → ((0 ≤ v1 ∧ v1 ≤ 9) ∧ (gI τ21 th 5 ≤ gI τ21 th 2 ∧ (gI τ21 th 3 ≠ 0 → gI τ21 th 5 + 1 ≤ gI τ21 th 2)) ∧ gI τ21 J 7 ≤ 2 * gI τ21 th 5 ∧ gI τ21 o 6 = 2 ∧ 0 ≤ gI τ21 o 7 ∧ gI τ21 o 7 < (c : Int) ∧ gI τ21 o 8 = -1 ∧ gI τ21 o 3 = gI τ21 o 4) → ((9 - v1).toNat) < fu21 → wl_X6_mapText_21 th Q X fu21 τ21 v1 := by
    intro fu21
    induction fu21 with
    | zero => intro _ _ _ _ _ _ _ _ _ h9; omega
    | succ fu21 ih21 =>
      intro τ21 nut21 v1 iτ21 fτ21 xτ21 nu_τ21 oxcτ21 hi21 hm21
      have uτ21_0 := nu_τ21 0 (by decide) (by decide)
      have uτ21_1 := nu_τ21 1 (by decide) (by decide)
      have uτ21_2 := nu_τ21 2 (by decide) (by decide)
      have uτ21_5 := nu_τ21 5 (by decide) (by decide)
      have uτ21_15 := nu_τ21 15 (by decide) (by decide)
      have uτ21_16 := nu_τ21 16 (by decide) (by decide)
      unfold wl_X6_mapText_21
      have kp59 : gI τ21 J 1 = gI σ J 1 := (fτ21.O kJ (by decide)).1
      have kp60 : gI τ21 o 8 = gI σ o 8 := (fτ21.O ko (by decide)).1
      have kp61 : gP τ21 th 0 = gP σ th 0 := (fτ21.O kth (by decide)).2.1
      have kp62 : gP τ21 th 7 = gP σ th 7 := (fτ21.O kth (by decide)).2.1
      have kp63 : gP τ21 th 8 = gP σ th 8 := (fτ21.O kth (by decide)).2.1
      have kp64 : gI τ21 J 2 = gI σ J 2 := (fτ21.O kJ (by decide)).1
      have kp65 : gI τ21 o 9 = gI σ o 9 := (fτ21.O ko (by decide)).1
      have kp66 : gI τ21 J 1 = gI σ18 J 1 := (fτ21.O kJ (by decide)).1.trans (fσ18.O kJ (by decide)).1.symm
      have kp67 : gI τ21 o 8 = gI σ18 o 8 := (fτ21.O ko (by decide)).1.trans (fσ18.O ko (by decide)).1.symm
      have kp68 : gI τ21 J 2 = gI σ18 J 2 := (fτ21.O kJ (by decide)).1.trans (fσ18.O kJ (by decide)).1.symm
      have kp69 : gI τ21 o 9 = gI σ18 o 9 := (fτ21.O ko (by decide)).1.trans (fσ18.O ko (by decide)).1.symm
      have r3τ21 := I_5_3 iτ21.1 (ko.up (xσ15.trans (xσ16.trans (xσ17.trans (xσ18.trans xτ21)))))
      unfold w_X6_mapText_21
      by_cases hc70 : v1 > 8
      · rw [if_pos hc70]
        unfold w_X6_mapText_78
        exact hQ τ21 nut21 () iτ21 fτ21 (nu_τ21) oxcτ21 (⟨by omega, by omega, ⟨by omega, (fun h => absurd h (by omega)), (fun h => absurd h (by omega))⟩⟩)
      · rw [if_neg hc70]
        unfold w_X6_mapText_27
        refine i_X6_newColumn iτ21 (kth.up (xσ15.trans (xσ16.trans (xσ17.trans (xσ18.trans xτ21))))) (kp61.trans hX0) (kX.up (xσ15.trans (xσ16.trans (xσ17.trans (xσ18.trans xτ21))))) (((xσ15.trans (xσ16.trans (xσ17.trans (xσ18.trans xτ21)))) tx kX.1).2.2.trans gX) (kp63.trans h8) (ko.up (xσ15.trans (xσ16.trans (xσ17.trans (xσ18.trans xτ21))))) (by (first | omega | with_reducible assumption | with_reducible exact rng_toInt _ | with_reducible exact rng_wr _ | (unfold rng; omega) | (unfold rng at *; omega) | assumption)) (by (first | omega | with_reducible assumption | with_reducible exact rng_toInt _ | with_reducible exact rng_wr _ | (unfold rng; omega) | (unfold rng at *; omega) | assumption)) (by (first | omega | with_reducible assumption | with_reducible exact rng_toInt _ | with_reducible exact rng_wr _ | (unfold rng; omega) | (unfold rng at *; omega) | assumption)) (by (first | omega | with_reducible assumption | with_reducible exact rng_toInt _ | with_reducible exact rng_wr _ | (unfold rng; omega) | (unfold rng at *; omega) | assumption)) (by (first | omega | with_reducible assumption | with_reducible exact rng_toInt _ | with_reducible exact rng_wr _ | (unfold rng; omega) | (unfold rng at *; omega) | assumption)) (fun σ19 _ iσ19 cσ19 oxσ19 pσ19 => ?_) (fun σx LLx Nx nux E ix cx ux px => hX σx LLx Nx nux E ix (fτ21.tr (cx.mo (by decide))) (nu_τ21.x ux) (by first | exact px | exact ⟨by have := px.1; omega, px.2⟩ | (first | omega | with_reducible assumption | with_reducible exact rng_toInt _ | with_reducible exact rng_wr _ | (unfold rng; omega) | (unfold rng at *; omega) | assumption)))
        intro xσ19
        have fσ19 : Fx [261, 262, 263, 323, 324, 326, 327, 386, 387, 388, 389, 390, 6464, 8320] gr σ σ19 := fτ21.tr (cσ19.mo (by decide))
        have oxcσ19 : OX o σ σ19 := oxcτ21.tr oxσ19 (xσ15.trans (xσ16.trans (xσ17.trans (xσ18.trans xτ21))))
        have kp71 : gI σ19 J 1 = gI τ21 J 1 := (cσ19.O (kJ.up (xσ15.trans (xσ16.trans (xσ17.trans (xσ18.trans xτ21))))) (by decide)).1
        have kp72 : gI σ19 o 8 = gI τ21 o 8 := (cσ19.O (ko.up (xσ15.trans (xσ16.trans (xσ17.trans (xσ18.trans xτ21))))) (by decide)).1
        have kp73 : gP σ19 th 0 = gP τ21 th 0 := (cσ19.O (kth.up (xσ15.trans (xσ16.trans (xσ17.trans (xσ18.trans xτ21))))) (by decide)).2.1
        have kp74 : gP σ19 th 7 = gP τ21 th 7 := (cσ19.O (kth.up (xσ15.trans (xσ16.trans (xσ17.trans (xσ18.trans xτ21))))) (by decide)).2.1
        have kp75 : gP σ19 th 8 = gP τ21 th 8 := (cσ19.O (kth.up (xσ15.trans (xσ16.trans (xσ17.trans (xσ18.trans xτ21))))) (by decide)).2.1
        have kp76 : gI σ19 J 7 = gI τ21 J 7 := (cσ19.O (kJ.up (xσ15.trans (xσ16.trans (xσ17.trans (xσ18.trans xτ21))))) (by decide)).1
        have kp77 : gI σ19 J 2 = gI τ21 J 2 := (cσ19.O (kJ.up (xσ15.trans (xσ16.trans (xσ17.trans (xσ18.trans xτ21))))) (by decide)).1
        have kp78 : gI σ19 o 4 = gI τ21 o 4 := (cσ19.O (ko.up (xσ15.trans (xσ16.trans (xσ17.trans (xσ18.trans xτ21))))) (by decide)).1
        have kp79 : gI σ19 o 6 = gI τ21 o 6 := (cσ19.O (ko.up (xσ15.trans (xσ16.trans (xσ17.trans (xσ18.trans xτ21))))) (by decide)).1
        have kp80 : gI σ19 o 7 = gI τ21 o 7 := (cσ19.O (ko.up (xσ15.trans (xσ16.trans (xσ17.trans (xσ18.trans xτ21))))) (by decide)).1
        have kp81 : gI σ19 o 9 = gI τ21 o 9 := (cσ19.O (ko.up (xσ15.trans (xσ16.trans (xσ17.trans (xσ18.trans xτ21))))) (by decide)).1
        have r5σ19 := I_6_5 iσ19.1 (kth.up (xσ15.trans (xσ16.trans (xσ17.trans (xσ18.trans (xτ21.trans xσ19))))))
        refine i_X6_wantSign iσ19 (kth.up (xσ15.trans (xσ16.trans (xσ17.trans (xσ18.trans (xτ21.trans xσ19)))))) (kp73.trans (kp61.trans hX0)) (kX.up (xσ15.trans (xσ16.trans (xσ17.trans (xσ18.trans (xτ21.trans xσ19)))))) (((xσ15.trans (xσ16.trans (xσ17.trans (xσ18.trans (xτ21.trans xσ19))))) tx kX.1).2.2.trans gX) (by (first | omega | with_reducible assumption | with_reducible exact rng_toInt _ | with_reducible exact rng_wr _ | (unfold rng; omega) | (unfold rng at *; omega) | assumption)) (by (first | omega | with_reducible assumption | with_reducible exact rng_toInt _ | with_reducible exact rng_wr _ | (unfold rng; omega) | (unfold rng at *; omega) | assumption)) (fun σ20 _ iσ20 cσ20 pσ20 => ?_) (fun σx LLx Nx nux E ix cx ux px => hX σx LLx Nx nux E ix (fσ19.tr (cx.mo (by decide))) (nu_τ21.x ux) (by first | exact px | exact ⟨by have := px.1; omega, px.2⟩ | (first | omega | with_reducible assumption | with_reducible exact rng_toInt _ | with_reducible exact rng_wr _ | (unfold rng; omega) | (unfold rng at *; omega) | assumption)))
        intro xσ20
        have fσ20 : Fx [261, 262, 263, 323, 324, 326, 327, 386, 387, 388, 389, 390, 6464, 8320] gr σ σ20 := fσ19.tr (cσ20.mo (by decide))
        have oxcσ20 : OX o σ σ20 := oxcσ19.tr (OX.fx cσ20 (by decide) (by decide)) (xσ15.trans (xσ16.trans (xσ17.trans (xσ18.trans (xτ21.trans xσ19)))))
        have kp82 : gI σ20 J 1 = gI σ19 J 1 := (cσ20.O (kJ.up (xσ15.trans (xσ16.trans (xσ17.trans (xσ18.trans (xτ21.trans xσ19)))))) (by decide)).1
        have kp83 : gI σ20 o 8 = gI σ19 o 8 := (cσ20.O (ko.up (xσ15.trans (xσ16.trans (xσ17.trans (xσ18.trans (xτ21.trans xσ19)))))) (by decide)).1
        have kp84 : gP σ20 th 0 = gP σ19 th 0 := (cσ20.O (kth.up (xσ15.trans (xσ16.trans (xσ17.trans (xσ18.trans (xτ21.trans xσ19)))))) (by decide)).2.1
        have kp85 : gP σ20 th 7 = gP σ19 th 7 := (cσ20.O (kth.up (xσ15.trans (xσ16.trans (xσ17.trans (xσ18.trans (xτ21.trans xσ19)))))) (by decide)).2.1
        have kp86 : gP σ20 th 8 = gP σ19 th 8 := (cσ20.O (kth.up (xσ15.trans (xσ16.trans (xσ17.trans (xσ18.trans (xτ21.trans xσ19)))))) (by decide)).2.1
        have kp87 : gI σ20 J 7 = gI σ19 J 7 := (cσ20.O (kJ.up (xσ15.trans (xσ16.trans (xσ17.trans (xσ18.trans (xτ21.trans xσ19)))))) (by decide)).1
        have kp88 : gI σ20 J 2 = gI σ19 J 2 := (cσ20.O (kJ.up (xσ15.trans (xσ16.trans (xσ17.trans (xσ18.trans (xτ21.trans xσ19)))))) (by decide)).1
        have kp89 : gI σ20 o 3 = gI σ19 o 3 := (cσ20.O (ko.up (xσ15.trans (xσ16.trans (xσ17.trans (xσ18.trans (xτ21.trans xσ19)))))) (by decide)).1
        have kp90 : gI σ20 o 4 = gI σ19 o 4 := (cσ20.O (ko.up (xσ15.trans (xσ16.trans (xσ17.trans (xσ18.trans (xτ21.trans xσ19)))))) (by decide)).1
        have kp91 : gI σ20 o 6 = gI σ19 o 6 := (cσ20.O (ko.up (xσ15.trans (xσ16.trans (xσ17.trans (xσ18.trans (xτ21.trans xσ19)))))) (by decide)).1
        have kp92 : gI σ20 o 7 = gI σ19 o 7 := (cσ20.O (ko.up (xσ15.trans (xσ16.trans (xσ17.trans (xσ18.trans (xτ21.trans xσ19)))))) (by decide)).1
        have kp93 : gI σ20 o 9 = gI σ19 o 9 := (cσ20.O (ko.up (xσ15.trans (xσ16.trans (xσ17.trans (xσ18.trans (xτ21.trans xσ19)))))) (by decide)).1
        have r5σ20 := I_6_5 iσ20.1 (kth.up (xσ15.trans (xσ16.trans (xσ17.trans (xσ18.trans (xτ21.trans (xσ19.trans xσ20)))))))
        refine i_X6_newValue iσ20 (kth.up (xσ15.trans (xσ16.trans (xσ17.trans (xσ18.trans (xτ21.trans (xσ19.trans xσ20))))))) (kp85.trans (kp74.trans (kp62.trans h7))) (kJ.up (xσ15.trans (xσ16.trans (xσ17.trans (xσ18.trans (xτ21.trans (xσ19.trans xσ20))))))) (kp86.trans (kp75.trans (kp63.trans h8))) (ko.up (xσ15.trans (xσ16.trans (xσ17.trans (xσ18.trans (xτ21.trans (xσ19.trans xσ20))))))) (by (first | omega | with_reducible assumption | with_reducible exact rng_toInt _ | with_reducible exact rng_wr _ | (unfold rng; omega) | (unfold rng at *; omega) | assumption)) (by (first | omega | with_reducible assumption | with_reducible exact rng_toInt _ | with_reducible exact rng_wr _ | (unfold rng; omega) | (unfold rng at *; omega) | assumption)) (by (first | omega | with_reducible assumption | with_reducible exact rng_toInt _ | with_reducible exact rng_wr _ | (unfold rng; omega) | (unfold rng at *; omega) | assumption)) (by (first | omega | with_reducible assumption | with_reducible exact rng_toInt _ | with_reducible exact rng_wr _ | (unfold rng; omega) | (unfold rng at *; omega) | assumption)) (fun σ21 _ iσ21 cσ21 oxσ21 pσ21 => ?_)
        intro xσ21
        have fσ21 : Fx [261, 262, 263, 323, 324, 326, 327, 386, 387, 388, 389, 390, 6464, 8320] gr σ σ21 := fσ20.tr (cσ21.mo (by decide))
        have oxcσ21 : OX o σ σ21 := oxcσ20.tr oxσ21 (xσ15.trans (xσ16.trans (xσ17.trans (xσ18.trans (xτ21.trans (xσ19.trans xσ20))))))
        have kp94 : gI σ21 J 1 = gI σ20 J 1 := (cσ21.O (kJ.up (xσ15.trans (xσ16.trans (xσ17.trans (xσ18.trans (xτ21.trans (xσ19.trans xσ20))))))) (by decide)).1
        have kp95 : gI σ21 o 8 = gI σ20 o 8 := (cσ21.O (ko.up (xσ15.trans (xσ16.trans (xσ17.trans (xσ18.trans (xτ21.trans (xσ19.trans xσ20))))))) (by decide)).1
        have kp96 : gP σ21 th 0 = gP σ20 th 0 := (cσ21.O (kth.up (xσ15.trans (xσ16.trans (xσ17.trans (xσ18.trans (xτ21.trans (xσ19.trans xσ20))))))) (by decide)).2.1
        have kp97 : gP σ21 th 7 = gP σ20 th 7 := (cσ21.O (kth.up (xσ15.trans (xσ16.trans (xσ17.trans (xσ18.trans (xτ21.trans (xσ19.trans xσ20))))))) (by decide)).2.1
        have kp98 : gP σ21 th 8 = gP σ20 th 8 := (cσ21.O (kth.up (xσ15.trans (xσ16.trans (xσ17.trans (xσ18.trans (xτ21.trans (xσ19.trans xσ20))))))) (by decide)).2.1
        have kp99 : gI σ21 th 2 = gI σ20 th 2 := (cσ21.O (kth.up (xσ15.trans (xσ16.trans (xσ17.trans (xσ18.trans (xτ21.trans (xσ19.trans xσ20))))))) (by decide)).1
        have kp100 : gI σ21 th 3 = gI σ20 th 3 := (cσ21.O (kth.up (xσ15.trans (xσ16.trans (xσ17.trans (xσ18.trans (xτ21.trans (xσ19.trans xσ20))))))) (by decide)).1
        have kp101 : gI σ21 th 5 = gI σ20 th 5 := (cσ21.O (kth.up (xσ15.trans (xσ16.trans (xσ17.trans (xσ18.trans (xτ21.trans (xσ19.trans xσ20))))))) (by decide)).1
        have kp102 : gI σ21 J 7 = gI σ20 J 7 := (cσ21.O (kJ.up (xσ15.trans (xσ16.trans (xσ17.trans (xσ18.trans (xτ21.trans (xσ19.trans xσ20))))))) (by decide)).1
        have kp103 : gI σ21 J 2 = gI σ20 J 2 := (cσ21.O (kJ.up (xσ15.trans (xσ16.trans (xσ17.trans (xσ18.trans (xτ21.trans (xσ19.trans xσ20))))))) (by decide)).1
        have kp104 : gI σ21 o 3 = gI σ20 o 3 := (cσ21.O (ko.up (xσ15.trans (xσ16.trans (xσ17.trans (xσ18.trans (xτ21.trans (xσ19.trans xσ20))))))) (by decide)).1
        have kp105 : gI σ21 o 6 = gI σ20 o 6 := (cσ21.O (ko.up (xσ15.trans (xσ16.trans (xσ17.trans (xσ18.trans (xτ21.trans (xσ19.trans xσ20))))))) (by decide)).1
        have kp106 : gI σ21 o 7 = gI σ20 o 7 := (cσ21.O (ko.up (xσ15.trans (xσ16.trans (xσ17.trans (xσ18.trans (xτ21.trans (xσ19.trans xσ20))))))) (by decide)).1
        have kp107 : gI σ21 o 9 = gI σ20 o 9 := (cσ21.O (ko.up (xσ15.trans (xσ16.trans (xσ17.trans (xσ18.trans (xτ21.trans (xσ19.trans xσ20))))))) (by decide)).1
        refine i_X6_value iσ21 (kth.up (xσ15.trans (xσ16.trans (xσ17.trans (xσ18.trans (xτ21.trans (xσ19.trans (xσ20.trans xσ21)))))))) (kp96.trans (kp84.trans (kp73.trans (kp61.trans hX0)))) (kX.up (xσ15.trans (xσ16.trans (xσ17.trans (xσ18.trans (xτ21.trans (xσ19.trans (xσ20.trans xσ21)))))))) (((xσ15.trans (xσ16.trans (xσ17.trans (xσ18.trans (xτ21.trans (xσ19.trans (xσ20.trans xσ21))))))) tx kX.1).2.2.trans gX) (kp97.trans (kp85.trans (kp74.trans (kp62.trans h7)))) (kJ.up (xσ15.trans (xσ16.trans (xσ17.trans (xσ18.trans (xτ21.trans (xσ19.trans (xσ20.trans xσ21)))))))) (kp98.trans (kp86.trans (kp75.trans (kp63.trans h8)))) (ko.up (xσ15.trans (xσ16.trans (xσ17.trans (xσ18.trans (xτ21.trans (xσ19.trans (xσ20.trans xσ21)))))))) (by (first | omega | with_reducible assumption | with_reducible exact rng_toInt _ | with_reducible exact rng_wr _ | (unfold rng; omega) | (unfold rng at *; omega) | assumption)) (by (first | omega | with_reducible assumption | with_reducible exact rng_toInt _ | with_reducible exact rng_wr _ | (unfold rng; omega) | (unfold rng at *; omega) | assumption)) (by (first | omega | with_reducible assumption | with_reducible exact rng_toInt _ | with_reducible exact rng_wr _ | (unfold rng; omega) | (unfold rng at *; omega) | assumption)) (by (first | omega | with_reducible assumption | with_reducible exact rng_toInt _ | with_reducible exact rng_wr _ | (unfold rng; omega) | (unfold rng at *; omega) | assumption)) (by (first | omega | with_reducible assumption | with_reducible exact rng_toInt _ | with_reducible exact rng_wr _ | (unfold rng; omega) | (unfold rng at *; omega) | assumption)) (by (first | omega | with_reducible assumption | with_reducible exact rng_toInt _ | with_reducible exact rng_wr _ | (unfold rng; omega) | (unfold rng at *; omega) | assumption)) (by (first | omega | with_reducible assumption | with_reducible exact rng_toInt _ | with_reducible exact rng_wr _ | (unfold rng; omega) | (unfold rng at *; omega) | assumption)) (by (first | omega | with_reducible assumption | with_reducible exact rng_toInt _ | with_reducible exact rng_wr _ | (unfold rng; omega) | (unfold rng at *; omega) | assumption)) (by (first | omega | with_reducible assumption | with_reducible exact rng_toInt _ | with_reducible exact rng_wr _ | (unfold rng; omega) | (unfold rng at *; omega) | assumption)) (fun σ22 nuσ22 _ iσ22 cσ22 uσ22 pσ22 => ?_) (fun σx LLx Nx nux E ix cx ux px => hX σx LLx Nx nux E ix (fσ21.tr (cx.mo (by decide))) (nu_τ21.x ux) (by first | exact px | exact ⟨by have := px.1; omega, px.2⟩ | (first | omega | with_reducible assumption | with_reducible exact rng_toInt _ | with_reducible exact rng_wr _ | (unfold rng; omega) | (unfold rng at *; omega) | assumption)))
        intro xσ22
        have fσ22 : Fx [261, 262, 263, 323, 324, 326, 327, 386, 387, 388, 389, 390, 6464, 8320] gr σ σ22 := fσ21.tr (cσ22.mo (by decide))
        have oxcσ22 : OX o σ σ22 := oxcσ21.tr (OX.fx cσ22 (by decide) (by decide)) (xσ15.trans (xσ16.trans (xσ17.trans (xσ18.trans (xτ21.trans (xσ19.trans (xσ20.trans xσ21)))))))
        have nu_σ22 : NC nu nuσ22 := nu_τ21.tr uσ22
        have uσ22_0 := uσ22 0 (by decide) (by decide)
        have uσ22_1 := uσ22 1 (by decide) (by decide)
        have uσ22_2 := uσ22 2 (by decide) (by decide)
        have uσ22_5 := uσ22 5 (by decide) (by decide)
        have uσ22_15 := uσ22 15 (by decide) (by decide)
        have uσ22_16 := uσ22 16 (by decide) (by decide)
        have kp108 : gI σ22 J 1 = gI σ21 J 1 := (cσ22.O (kJ.up (xσ15.trans (xσ16.trans (xσ17.trans (xσ18.trans (xτ21.trans (xσ19.trans (xσ20.trans xσ21)))))))) (by decide)).1
        have kp109 : gI σ22 o 8 = gI σ21 o 8 := (cσ22.O (ko.up (xσ15.trans (xσ16.trans (xσ17.trans (xσ18.trans (xτ21.trans (xσ19.trans (xσ20.trans xσ21)))))))) (by decide)).1
        have kp110 : gP σ22 th 0 = gP σ21 th 0 := (cσ22.O (kth.up (xσ15.trans (xσ16.trans (xσ17.trans (xσ18.trans (xτ21.trans (xσ19.trans (xσ20.trans xσ21)))))))) (by decide)).2.1
        have kp111 : gP σ22 th 7 = gP σ21 th 7 := (cσ22.O (kth.up (xσ15.trans (xσ16.trans (xσ17.trans (xσ18.trans (xτ21.trans (xσ19.trans (xσ20.trans xσ21)))))))) (by decide)).2.1
        have kp112 : gP σ22 th 8 = gP σ21 th 8 := (cσ22.O (kth.up (xσ15.trans (xσ16.trans (xσ17.trans (xσ18.trans (xτ21.trans (xσ19.trans (xσ20.trans xσ21)))))))) (by decide)).2.1
        have kp113 : gI σ22 J 2 = gI σ21 J 2 := (cσ22.O (kJ.up (xσ15.trans (xσ16.trans (xσ17.trans (xσ18.trans (xτ21.trans (xσ19.trans (xσ20.trans xσ21)))))))) (by decide)).1
        have kp114 : gI σ22 o 3 = gI σ21 o 3 := (cσ22.O (ko.up (xσ15.trans (xσ16.trans (xσ17.trans (xσ18.trans (xτ21.trans (xσ19.trans (xσ20.trans xσ21)))))))) (by decide)).1
        have kp115 : gI σ22 o 4 = gI σ21 o 4 := (cσ22.O (ko.up (xσ15.trans (xσ16.trans (xσ17.trans (xσ18.trans (xτ21.trans (xσ19.trans (xσ20.trans xσ21)))))))) (by decide)).1
        have kp116 : gI σ22 o 6 = gI σ21 o 6 := (cσ22.O (ko.up (xσ15.trans (xσ16.trans (xσ17.trans (xσ18.trans (xτ21.trans (xσ19.trans (xσ20.trans xσ21)))))))) (by decide)).1
        have kp117 : gI σ22 o 7 = gI σ21 o 7 := (cσ22.O (ko.up (xσ15.trans (xσ16.trans (xσ17.trans (xσ18.trans (xτ21.trans (xσ19.trans (xσ20.trans xσ21)))))))) (by decide)).1
        have kp118 : gI σ22 o 9 = gI σ21 o 9 := (cσ22.O (ko.up (xσ15.trans (xσ16.trans (xσ17.trans (xσ18.trans (xτ21.trans (xσ19.trans (xσ20.trans xσ21)))))))) (by decide)).1
        have r5σ22 := I_6_5 iσ22.1 (kth.up (xσ15.trans (xσ16.trans (xσ17.trans (xσ18.trans (xτ21.trans (xσ19.trans (xσ20.trans (xσ21.trans xσ22)))))))))
        refine ⟨J, (kp111.trans (kp97.trans (kp85.trans (kp74.trans (kp62.trans h7))))), fun kk_J => ?_⟩
        refine i_X4_emit iσ22 (kJ.up (xσ15.trans (xσ16.trans (xσ17.trans (xσ18.trans (xτ21.trans (xσ19.trans (xσ20.trans (xσ21.trans xσ22))))))))) (by (first | omega | with_reducible assumption | with_reducible exact rng_toInt _ | with_reducible exact rng_wr _ | (unfold rng; omega) | (unfold rng at *; omega) | assumption)) (by (first | omega | with_reducible assumption | with_reducible exact rng_toInt _ | with_reducible exact rng_wr _ | (unfold rng; omega) | (unfold rng at *; omega) | assumption)) (by (first | omega | with_reducible assumption | with_reducible exact rng_toInt _ | with_reducible exact rng_wr _ | (unfold rng; omega) | (unfold rng at *; omega) | assumption)) (by (first | omega | with_reducible assumption | with_reducible exact rng_toInt _ | with_reducible exact rng_wr _ | (unfold rng; omega) | (unfold rng at *; omega) | assumption)) (fun σ23 nuσ23 r24 iσ23 cσ23 uσ23 pσ23 => ?_)
        intro xσ23
        have fσ23 : Fx [261, 262, 263, 323, 324, 326, 327, 386, 387, 388, 389, 390, 6464, 8320] gr σ σ23 := fσ22.tr (cσ23.mo (by decide))
        have oxcσ23 : OX o σ σ23 := oxcσ22.tr (OX.fx cσ23 (by decide) (by decide)) (xσ15.trans (xσ16.trans (xσ17.trans (xσ18.trans (xτ21.trans (xσ19.trans (xσ20.trans (xσ21.trans xσ22))))))))
        have nu_σ23 : NC nu nuσ23 := nu_σ22.tr uσ23
        have uσ23_0 := uσ23 0 (by decide) (by decide)
        have uσ23_1 := uσ23 1 (by decide) (by decide)
        have uσ23_2 := uσ23 2 (by decide) (by decide)
        have uσ23_5 := uσ23 5 (by decide) (by decide)
        have uσ23_15 := uσ23 15 (by decide) (by decide)
        have uσ23_16 := uσ23 16 (by decide) (by decide)
        have kp119 : gI σ23 J 1 = gI σ22 J 1 := (cσ23.O (kJ.up (xσ15.trans (xσ16.trans (xσ17.trans (xσ18.trans (xτ21.trans (xσ19.trans (xσ20.trans (xσ21.trans xσ22))))))))) (by decide)).1
        have kp120 : gI σ23 o 8 = gI σ22 o 8 := (cσ23.O (ko.up (xσ15.trans (xσ16.trans (xσ17.trans (xσ18.trans (xτ21.trans (xσ19.trans (xσ20.trans (xσ21.trans xσ22))))))))) (by decide)).1
        have kp121 : gP σ23 th 0 = gP σ22 th 0 := (cσ23.O (kth.up (xσ15.trans (xσ16.trans (xσ17.trans (xσ18.trans (xτ21.trans (xσ19.trans (xσ20.trans (xσ21.trans xσ22))))))))) (by decide)).2.1
        have kp122 : gP σ23 th 7 = gP σ22 th 7 := (cσ23.O (kth.up (xσ15.trans (xσ16.trans (xσ17.trans (xσ18.trans (xτ21.trans (xσ19.trans (xσ20.trans (xσ21.trans xσ22))))))))) (by decide)).2.1
        have kp123 : gP σ23 th 8 = gP σ22 th 8 := (cσ23.O (kth.up (xσ15.trans (xσ16.trans (xσ17.trans (xσ18.trans (xτ21.trans (xσ19.trans (xσ20.trans (xσ21.trans xσ22))))))))) (by decide)).2.1
        have kp124 : gI σ23 th 2 = gI σ22 th 2 := (cσ23.O (kth.up (xσ15.trans (xσ16.trans (xσ17.trans (xσ18.trans (xτ21.trans (xσ19.trans (xσ20.trans (xσ21.trans xσ22))))))))) (by decide)).1
        have kp125 : gI σ23 th 3 = gI σ22 th 3 := (cσ23.O (kth.up (xσ15.trans (xσ16.trans (xσ17.trans (xσ18.trans (xτ21.trans (xσ19.trans (xσ20.trans (xσ21.trans xσ22))))))))) (by decide)).1
        have kp126 : gI σ23 th 5 = gI σ22 th 5 := (cσ23.O (kth.up (xσ15.trans (xσ16.trans (xσ17.trans (xσ18.trans (xτ21.trans (xσ19.trans (xσ20.trans (xσ21.trans xσ22))))))))) (by decide)).1
        have kp127 : gI σ23 J 2 = gI σ22 J 2 := (cσ23.O (kJ.up (xσ15.trans (xσ16.trans (xσ17.trans (xσ18.trans (xτ21.trans (xσ19.trans (xσ20.trans (xσ21.trans xσ22))))))))) (by decide)).1
        have kp128 : gI σ23 o 3 = gI σ22 o 3 := (cσ23.O (ko.up (xσ15.trans (xσ16.trans (xσ17.trans (xσ18.trans (xτ21.trans (xσ19.trans (xσ20.trans (xσ21.trans xσ22))))))))) (by decide)).1
        have kp129 : gI σ23 o 4 = gI σ22 o 4 := (cσ23.O (ko.up (xσ15.trans (xσ16.trans (xσ17.trans (xσ18.trans (xτ21.trans (xσ19.trans (xσ20.trans (xσ21.trans xσ22))))))))) (by decide)).1
        have kp130 : gI σ23 o 6 = gI σ22 o 6 := (cσ23.O (ko.up (xσ15.trans (xσ16.trans (xσ17.trans (xσ18.trans (xτ21.trans (xσ19.trans (xσ20.trans (xσ21.trans xσ22))))))))) (by decide)).1
        have kp131 : gI σ23 o 7 = gI σ22 o 7 := (cσ23.O (ko.up (xσ15.trans (xσ16.trans (xσ17.trans (xσ18.trans (xτ21.trans (xσ19.trans (xσ20.trans (xσ21.trans xσ22))))))))) (by decide)).1
        have kp132 : gI σ23 o 9 = gI σ22 o 9 := (cσ23.O (ko.up (xσ15.trans (xσ16.trans (xσ17.trans (xσ18.trans (xτ21.trans (xσ19.trans (xσ20.trans (xσ21.trans xσ22))))))))) (by decide)).1
        refine i_X6_isSign iσ23 (kth.up (xσ15.trans (xσ16.trans (xσ17.trans (xσ18.trans (xτ21.trans (xσ19.trans (xσ20.trans (xσ21.trans (xσ22.trans xσ23)))))))))) (fun r27 pσ26 => ?_)
        intro xσ26
        by_cases hc133 : r27 ≠ 0
        · rw [if_pos hc133]
          unfold w_X6_mapText_68
          refine i_X6_next iσ23 (kth.up (xσ15.trans (xσ16.trans (xσ17.trans (xσ18.trans (xτ21.trans (xσ19.trans (xσ20.trans (xσ21.trans (xσ22.trans xσ23)))))))))) (kp121.trans (kp110.trans (kp96.trans (kp84.trans (kp73.trans (kp61.trans hX0)))))) (kX.up (xσ15.trans (xσ16.trans (xσ17.trans (xσ18.trans (xτ21.trans (xσ19.trans (xσ20.trans (xσ21.trans (xσ22.trans xσ23)))))))))) (((xσ15.trans (xσ16.trans (xσ17.trans (xσ18.trans (xτ21.trans (xσ19.trans (xσ20.trans (xσ21.trans (xσ22.trans xσ23))))))))) tx kX.1).2.2.trans gX) (by (first | omega | with_reducible assumption | with_reducible exact rng_toInt _ | with_reducible exact rng_wr _ | (unfold rng; omega) | (unfold rng at *; omega) | assumption)) (by (first | omega | with_reducible assumption | with_reducible exact rng_toInt _ | with_reducible exact rng_wr _ | (unfold rng; omega) | (unfold rng at *; omega) | assumption)) (fun σ28 _ iσ28 cσ28 pσ28 => ?_) (fun σx LLx Nx nux E ix cx ux px => hX σx LLx Nx nux E ix (fσ23.tr (cx.mo (by decide))) (nu_σ23.x ux) (by first | exact px | exact ⟨by have := px.1; omega, px.2⟩ | (first | omega | with_reducible assumption | with_reducible exact rng_toInt _ | with_reducible exact rng_wr _ | (unfold rng; omega) | (unfold rng at *; omega) | assumption)))
          intro xσ28
          have fσ28 : Fx [261, 262, 263, 323, 324, 326, 327, 386, 387, 388, 389, 390, 6464, 8320] gr σ σ28 := fσ23.tr (cσ28.mo (by decide))
          have oxcσ28 : OX o σ σ28 := oxcσ23.tr (OX.fx cσ28 (by decide) (by decide)) (xσ15.trans (xσ16.trans (xσ17.trans (xσ18.trans (xτ21.trans (xσ19.trans (xσ20.trans (xσ21.trans (xσ22.trans xσ23)))))))))
          have kp134 : gI σ28 J 1 = gI σ23 J 1 := (cσ28.O (kJ.up (xσ15.trans (xσ16.trans (xσ17.trans (xσ18.trans (xτ21.trans (xσ19.trans (xσ20.trans (xσ21.trans (xσ22.trans xσ23)))))))))) (by decide)).1
          have kp135 : gI σ28 o 8 = gI σ23 o 8 := (cσ28.O (ko.up (xσ15.trans (xσ16.trans (xσ17.trans (xσ18.trans (xτ21.trans (xσ19.trans (xσ20.trans (xσ21.trans (xσ22.trans xσ23)))))))))) (by decide)).1
          have kp136 : gP σ28 th 0 = gP σ23 th 0 := (cσ28.O (kth.up (xσ15.trans (xσ16.trans (xσ17.trans (xσ18.trans (xτ21.trans (xσ19.trans (xσ20.trans (xσ21.trans (xσ22.trans xσ23)))))))))) (by decide)).2.1
          have kp137 : gP σ28 th 7 = gP σ23 th 7 := (cσ28.O (kth.up (xσ15.trans (xσ16.trans (xσ17.trans (xσ18.trans (xτ21.trans (xσ19.trans (xσ20.trans (xσ21.trans (xσ22.trans xσ23)))))))))) (by decide)).2.1
          have kp138 : gP σ28 th 8 = gP σ23 th 8 := (cσ28.O (kth.up (xσ15.trans (xσ16.trans (xσ17.trans (xσ18.trans (xτ21.trans (xσ19.trans (xσ20.trans (xσ21.trans (xσ22.trans xσ23)))))))))) (by decide)).2.1
          have kp139 : gI σ28 J 7 = gI σ23 J 7 := (cσ28.O (kJ.up (xσ15.trans (xσ16.trans (xσ17.trans (xσ18.trans (xτ21.trans (xσ19.trans (xσ20.trans (xσ21.trans (xσ22.trans xσ23)))))))))) (by decide)).1
          have kp140 : gI σ28 J 2 = gI σ23 J 2 := (cσ28.O (kJ.up (xσ15.trans (xσ16.trans (xσ17.trans (xσ18.trans (xτ21.trans (xσ19.trans (xσ20.trans (xσ21.trans (xσ22.trans xσ23)))))))))) (by decide)).1
          have kp141 : gI σ28 o 3 = gI σ23 o 3 := (cσ28.O (ko.up (xσ15.trans (xσ16.trans (xσ17.trans (xσ18.trans (xτ21.trans (xσ19.trans (xσ20.trans (xσ21.trans (xσ22.trans xσ23)))))))))) (by decide)).1
          have kp142 : gI σ28 o 4 = gI σ23 o 4 := (cσ28.O (ko.up (xσ15.trans (xσ16.trans (xσ17.trans (xσ18.trans (xτ21.trans (xσ19.trans (xσ20.trans (xσ21.trans (xσ22.trans xσ23)))))))))) (by decide)).1
          have kp143 : gI σ28 o 6 = gI σ23 o 6 := (cσ28.O (ko.up (xσ15.trans (xσ16.trans (xσ17.trans (xσ18.trans (xτ21.trans (xσ19.trans (xσ20.trans (xσ21.trans (xσ22.trans xσ23)))))))))) (by decide)).1
          have kp144 : gI σ28 o 7 = gI σ23 o 7 := (cσ28.O (ko.up (xσ15.trans (xσ16.trans (xσ17.trans (xσ18.trans (xτ21.trans (xσ19.trans (xσ20.trans (xσ21.trans (xσ22.trans xσ23)))))))))) (by decide)).1
          have kp145 : gI σ28 o 9 = gI σ23 o 9 := (cσ28.O (ko.up (xσ15.trans (xσ16.trans (xσ17.trans (xσ18.trans (xτ21.trans (xσ19.trans (xσ20.trans (xσ21.trans (xσ22.trans xσ23)))))))))) (by decide)).1
          have r5σ28 := I_6_5 iσ28.1 (kth.up (xσ15.trans (xσ16.trans (xσ17.trans (xσ18.trans (xτ21.trans (xσ19.trans (xσ20.trans (xσ21.trans (xσ22.trans (xσ23.trans xσ28)))))))))))
          refine ⟨by (first | omega | with_reducible assumption | with_reducible exact rng_toInt _ | with_reducible exact rng_wr _ | (unfold rng; omega) | (unfold rng at *; omega) | assumption), ?_⟩
          exact ih21 σ28 nuσ23 (v1 + 1) iσ28 fσ28 (xτ21.trans (xσ19.trans (xσ20.trans (xσ21.trans (xσ22.trans (xσ23.trans xσ28)))))) nu_σ23 oxcσ28 (by (first | omega | with_reducible assumption | with_reducible exact rng_toInt _ | with_reducible exact rng_wr _ | (unfold rng; omega) | (unfold rng at *; omega) | assumption)) (by (first | omega | with_reducible assumption | with_reducible exact rng_toInt _ | with_reducible exact rng_wr _ | (unfold rng; omega) | (unfold rng at *; omega) | assumption))
        · rw [if_neg hc133]
          have hc133q := Classical.not_not.mp hc133
          unfold w_X6_mapText_67
          exact hQ σ23 nuσ23 () iσ23 fσ23 (nu_σ23) oxcσ23 (⟨by omega, by omega, ⟨by omega, (fun h => absurd h (by omega)), (fun h => absurd h (by omega))⟩⟩)
  exact ⟨_, Lp21 _ σ18 nu _ iσ18 fσ18 (Ext.rfl' _) NC.rf oxcσ18 (by (first | omega | with_reducible assumption | with_reducible exact rng_toInt _ | with_reducible exact rng_wr _ | (unfold rng; omega) | (unfold rng at *; omega) | assumption)) (Nat.lt_succ_self _)⟩
set_option maxHeartbeats 1000000 in
theorem i_X6_unionText {σ : Sg} {pl : Nat} {gq ci gr nc : Nat → Nat} {ot : Nat → Nat → Int} {LL : Nat → List Nat} {N nu : Nat → Nat} {th : Nat} {tx J o q c : Nat} (iσ : IV σ pl gq ci gr nc ot LL N nu) (kth : kO σ th 6) (hX0 : gP σ th 0 = some tx) (kX : kO σ tx 102) (gX : gn σ tx = 1500) (h7 : gP σ th 7 = some J) (kJ : kO σ J 4) (h8 : gP σ th 8 = some o) (ko : kO σ o 5) (hJq : gq J = q) (hq : q ≠ nc 0 ∧ q ≤ 1) (go : gq o = 16 * q + c) (hc : c < 16) (cJ : gI σ J 1 = (c : Int)) (tf : gI σ th 5 ≤ gI σ th 2 ∧ (gI σ th 3 ≠ 0 → gI σ th 5 + 1 ≤ gI σ th 2)) (h5 : nu 5 < 24000) (lp : gI σ J 7 ≤ 2 * gI σ th 5) (f0 : gI σ o 3 = 0 ∧ gI σ o 4 = 0 ∧ gI σ o 7 = -1 ∧ gI σ o 8 = -1) {Q : Sg → Unit → Prop} {X : Sg → String → Prop} (hQ : ∀ (σ' : Sg) (r : Unit), IV σ' pl gq ci gr nc ot LL N nu → Fx [323, 326, 327, 328, 386, 387, 388, 389, 390, 6464] gr σ σ' → OX o σ σ' → ((gI σ' th 5 ≤ gI σ' th 2 ∧ (gI σ' th 3 ≠ 0 → gI σ' th 5 + 1 ≤ gI σ' th 2)) ∧ gI σ' J 7 ≤ 2 * gI σ' th 5 ∧ OPR σ σ' gq q c o) → Q σ' r) (hX : ∀ (σ' : Sg) (LL' : Nat → List Nat) (N' nu' : Nat → Nat) (E : String), IV σ' pl gq ci gr nc ot LL' N' nu' → Fx [323, 326, 327, 328, 386, 387, 388, 389, 390, 6464] gr σ σ' → NCX nu nu' → (LL' = LL ∧ N' = N ∧ E = "java/lang/IllegalArgumentException" ∧ gI σ' th 6 ≠ 0) → X σ' E) : wp_X6_unionText th σ Q X := by
  have fσ : Fx [323, 326, 327, 328, 386, 387, 388, 389, 390, 6464] gr σ σ := Fx.rf
  have oxσ : OX o σ σ := OX.rf
  have q1 := I_4_1 iσ.1 kJ
  have q2 := I_6_5 iσ.1 kth
  have q3 := I_6_2 iσ.1 kth
  have q4 := iσ.rg th 3; unfold rng at q4
  have q5 := I_4_7 iσ.1 kJ
  have q6 := I_5_3 iσ.1 ko
  have q7 := I_5_4 iσ.1 ko
  have q8 := I_5_7 iσ.1 ko
  have q9 := I_5_8 iσ.1 ko
  have ncb := iσ.ncb
  have r70 := I_4_7 iσ.1 kJ
  have r71 := I_4_1 iσ.1 kJ
  unfold wp_X6_unionText
  unfold w_X6_unionText_0
  refine i_X6_next iσ kth hX0 kX (((Ext.rfl' _) tx kX.1).2.2.trans gX) (by (first | omega | with_reducible assumption | with_reducible exact rng_toInt _ | with_reducible exact rng_wr _ | (unfold rng; omega) | (unfold rng at *; omega) | assumption)) (by (first | omega | with_reducible assumption | with_reducible exact rng_toInt _ | with_reducible exact rng_wr _ | (unfold rng; omega) | (unfold rng at *; omega) | assumption)) (fun σ19 _ iσ19 cσ19 pσ19 => ?_) (fun σx LLx Nx nux E ix cx ux px => hX σx LLx Nx nux E ix (fσ.tr (cx.mo (by decide))) (ux) (by first | exact px | exact ⟨by have := px.1; omega, px.2⟩ | (first | omega | with_reducible assumption | with_reducible exact rng_toInt _ | with_reducible exact rng_wr _ | (unfold rng; omega) | (unfold rng at *; omega) | assumption)))
  intro xσ19
  have fσ19 : Fx [323, 326, 327, 328, 386, 387, 388, 389, 390, 6464] gr σ σ19 := fσ.tr (cσ19.mo (by decide))
  have oxcσ19 : OX o σ σ19 := oxσ.tr (OX.fx cσ19 (by decide) (by decide)) (Ext.rfl' _)
  have kp10 : gI σ19 J 1 = gI σ J 1 := (cσ19.O kJ (by decide)).1
  have kp11 : gI σ19 J 7 = gI σ J 7 := (cσ19.O kJ (by decide)).1
  have kp12 : gI σ19 o 3 = gI σ o 3 := (cσ19.O ko (by decide)).1
  have kp13 : gI σ19 o 4 = gI σ o 4 := (cσ19.O ko (by decide)).1
  have kp14 : gI σ19 o 7 = gI σ o 7 := (cσ19.O ko (by decide)).1
  have kp15 : gI σ19 o 8 = gI σ o 8 := (cσ19.O ko (by decide)).1
  have kp16 : gP σ19 th 0 = gP σ th 0 := (cσ19.O kth (by decide)).2.1
  have kp17 : gP σ19 th 7 = gP σ th 7 := (cσ19.O kth (by decide)).2.1
  have kp18 : gP σ19 th 8 = gP σ th 8 := (cσ19.O kth (by decide)).2.1
  have kp19 : gI σ19 J 2 = gI σ J 2 := (cσ19.O kJ (by decide)).1
  have kp20 : gI σ19 o 6 = gI σ o 6 := (cσ19.O ko (by decide)).1
  have kp21 : gI σ19 o 9 = gI σ o 9 := (cσ19.O ko (by decide)).1
  have r5σ19 := I_6_5 iσ19.1 (kth.up xσ19)
  refine i_X6_firstInput iσ19 (kth.up xσ19) (kp17.trans h7) (kJ.up xσ19) (kp18.trans h8) (ko.up xσ19) (by (first | omega | with_reducible assumption | with_reducible exact rng_toInt _ | with_reducible exact rng_wr _ | (unfold rng; omega) | (unfold rng at *; omega) | assumption)) (by (first | omega | with_reducible assumption | with_reducible exact rng_toInt _ | with_reducible exact rng_wr _ | (unfold rng; omega) | (unfold rng at *; omega) | assumption)) (by (first | omega | with_reducible assumption | with_reducible exact rng_toInt _ | with_reducible exact rng_wr _ | (unfold rng; omega) | (unfold rng at *; omega) | assumption)) (by (first | omega | with_reducible assumption | with_reducible exact rng_toInt _ | with_reducible exact rng_wr _ | (unfold rng; omega) | (unfold rng at *; omega) | assumption)) (by (first | omega | with_reducible assumption | with_reducible exact rng_toInt _ | with_reducible exact rng_wr _ | (unfold rng; omega) | (unfold rng at *; omega) | assumption)) (by (first | omega | with_reducible assumption | with_reducible exact rng_toInt _ | with_reducible exact rng_wr _ | (unfold rng; omega) | (unfold rng at *; omega) | assumption)) (fun σ20 _ iσ20 cσ20 oxσ20 pσ20 => ?_) (fun σx LLx Nx nux E ix cx ux px => hX σx LLx Nx nux E ix (fσ19.tr (cx.mo (by decide))) (ux) (by first | exact px | exact ⟨by have := px.1; omega, px.2⟩ | (first | omega | with_reducible assumption | with_reducible exact rng_toInt _ | with_reducible exact rng_wr _ | (unfold rng; omega) | (unfold rng at *; omega) | assumption)))
  intro xσ20
  have fσ20 : Fx [323, 326, 327, 328, 386, 387, 388, 389, 390, 6464] gr σ σ20 := fσ19.tr (cσ20.mo (by decide))
  have oxcσ20 : OX o σ σ20 := oxcσ19.tr oxσ20 (xσ19)
  have kp22 : gI σ20 J 1 = gI σ19 J 1 := (cσ20.O (kJ.up xσ19) (by decide)).1
  have kp23 : gI σ20 J 7 = gI σ19 J 7 := (cσ20.O (kJ.up xσ19) (by decide)).1
  have kp24 : gI σ20 o 3 = gI σ19 o 3 := (cσ20.O (ko.up xσ19) (by decide)).1
  have kp25 : gI σ20 o 4 = gI σ19 o 4 := (cσ20.O (ko.up xσ19) (by decide)).1
  have kp26 : gI σ20 o 8 = gI σ19 o 8 := (cσ20.O (ko.up xσ19) (by decide)).1
  have kp27 : gP σ20 th 0 = gP σ19 th 0 := (cσ20.O (kth.up xσ19) (by decide)).2.1
  have kp28 : gP σ20 th 7 = gP σ19 th 7 := (cσ20.O (kth.up xσ19) (by decide)).2.1
  have kp29 : gP σ20 th 8 = gP σ19 th 8 := (cσ20.O (kth.up xσ19) (by decide)).2.1
  have kp30 : gI σ20 th 2 = gI σ19 th 2 := (cσ20.O (kth.up xσ19) (by decide)).1
  have kp31 : gI σ20 th 3 = gI σ19 th 3 := (cσ20.O (kth.up xσ19) (by decide)).1
  have kp32 : gI σ20 th 5 = gI σ19 th 5 := (cσ20.O (kth.up xσ19) (by decide)).1
  have kp33 : gI σ20 J 2 = gI σ19 J 2 := (cσ20.O (kJ.up xσ19) (by decide)).1
  have kp34 : gI σ20 o 9 = gI σ19 o 9 := (cσ20.O (ko.up xσ19) (by decide)).1
  refine i_X6_next iσ20 (kth.up (xσ19.trans xσ20)) (kp27.trans (kp16.trans hX0)) (kX.up (xσ19.trans xσ20)) (((xσ19.trans xσ20) tx kX.1).2.2.trans gX) (by (first | omega | with_reducible assumption | with_reducible exact rng_toInt _ | with_reducible exact rng_wr _ | (unfold rng; omega) | (unfold rng at *; omega) | assumption)) (by (first | omega | with_reducible assumption | with_reducible exact rng_toInt _ | with_reducible exact rng_wr _ | (unfold rng; omega) | (unfold rng at *; omega) | assumption)) (fun σ21 _ iσ21 cσ21 pσ21 => ?_) (fun σx LLx Nx nux E ix cx ux px => hX σx LLx Nx nux E ix (fσ20.tr (cx.mo (by decide))) (ux) (by first | exact px | exact ⟨by have := px.1; omega, px.2⟩ | (first | omega | with_reducible assumption | with_reducible exact rng_toInt _ | with_reducible exact rng_wr _ | (unfold rng; omega) | (unfold rng at *; omega) | assumption)))
  intro xσ21
  have fσ21 : Fx [323, 326, 327, 328, 386, 387, 388, 389, 390, 6464] gr σ σ21 := fσ20.tr (cσ21.mo (by decide))
  have oxcσ21 : OX o σ σ21 := oxcσ20.tr (OX.fx cσ21 (by decide) (by decide)) (xσ19.trans xσ20)
  have kp35 : gI σ21 J 1 = gI σ20 J 1 := (cσ21.O (kJ.up (xσ19.trans xσ20)) (by decide)).1
  have kp36 : gI σ21 J 7 = gI σ20 J 7 := (cσ21.O (kJ.up (xσ19.trans xσ20)) (by decide)).1
  have kp37 : gI σ21 o 3 = gI σ20 o 3 := (cσ21.O (ko.up (xσ19.trans xσ20)) (by decide)).1
  have kp38 : gI σ21 o 4 = gI σ20 o 4 := (cσ21.O (ko.up (xσ19.trans xσ20)) (by decide)).1
  have kp39 : gI σ21 o 8 = gI σ20 o 8 := (cσ21.O (ko.up (xσ19.trans xσ20)) (by decide)).1
  have kp40 : gP σ21 th 0 = gP σ20 th 0 := (cσ21.O (kth.up (xσ19.trans xσ20)) (by decide)).2.1
  have kp41 : gP σ21 th 7 = gP σ20 th 7 := (cσ21.O (kth.up (xσ19.trans xσ20)) (by decide)).2.1
  have kp42 : gP σ21 th 8 = gP σ20 th 8 := (cσ21.O (kth.up (xσ19.trans xσ20)) (by decide)).2.1
  have kp43 : gI σ21 J 2 = gI σ20 J 2 := (cσ21.O (kJ.up (xσ19.trans xσ20)) (by decide)).1
  have kp44 : gI σ21 o 6 = gI σ20 o 6 := (cσ21.O (ko.up (xσ19.trans xσ20)) (by decide)).1
  have kp45 : gI σ21 o 7 = gI σ20 o 7 := (cσ21.O (ko.up (xσ19.trans xσ20)) (by decide)).1
  have kp46 : gI σ21 o 9 = gI σ20 o 9 := (cσ21.O (ko.up (xσ19.trans xσ20)) (by decide)).1
  have r5σ21 := I_6_5 iσ21.1 (kth.up (xσ19.trans (xσ20.trans xσ21)))
  refine i_X6_input iσ21 (kth.up (xσ19.trans (xσ20.trans xσ21))) (kp41.trans (kp28.trans (kp17.trans h7))) (kJ.up (xσ19.trans (xσ20.trans xσ21))) (by (first | omega | with_reducible assumption | with_reducible exact rng_toInt _ | with_reducible exact rng_wr _ | (unfold rng; omega) | (unfold rng at *; omega) | assumption)) (fun σ22 r23 iσ22 cσ22 pσ22 => ?_) (fun σx LLx Nx nux E ix cx ux px => hX σx LLx Nx nux E ix (fσ21.tr (cx.mo (by decide))) (ux) (by first | exact px | exact ⟨by have := px.1; omega, px.2⟩ | (first | omega | with_reducible assumption | with_reducible exact rng_toInt _ | with_reducible exact rng_wr _ | (unfold rng; omega) | (unfold rng at *; omega) | assumption)))
  intro xσ22
  have fσ22 : Fx [323, 326, 327, 328, 386, 387, 388, 389, 390, 6464] gr σ σ22 := fσ21.tr (cσ22.mo (by decide))
  have oxcσ22 : OX o σ σ22 := oxcσ21.tr (OX.fx cσ22 (by decide) (by decide)) (xσ19.trans (xσ20.trans xσ21))
  have kp47 : gI σ22 J 1 = gI σ21 J 1 := (cσ22.O (kJ.up (xσ19.trans (xσ20.trans xσ21))) (by decide)).1
  have kp48 : gI σ22 J 7 = gI σ21 J 7 := (cσ22.O (kJ.up (xσ19.trans (xσ20.trans xσ21))) (by decide)).1
  have kp49 : gI σ22 o 3 = gI σ21 o 3 := (cσ22.O (ko.up (xσ19.trans (xσ20.trans xσ21))) (by decide)).1
  have kp50 : gI σ22 o 4 = gI σ21 o 4 := (cσ22.O (ko.up (xσ19.trans (xσ20.trans xσ21))) (by decide)).1
  have kp51 : gI σ22 o 8 = gI σ21 o 8 := (cσ22.O (ko.up (xσ19.trans (xσ20.trans xσ21))) (by decide)).1
  have kp52 : gP σ22 th 0 = gP σ21 th 0 := (cσ22.O (kth.up (xσ19.trans (xσ20.trans xσ21))) (by decide)).2.1
  have kp53 : gP σ22 th 7 = gP σ21 th 7 := (cσ22.O (kth.up (xσ19.trans (xσ20.trans xσ21))) (by decide)).2.1
  have kp54 : gP σ22 th 8 = gP σ21 th 8 := (cσ22.O (kth.up (xσ19.trans (xσ20.trans xσ21))) (by decide)).2.1
  have kp55 : gI σ22 th 2 = gI σ21 th 2 := (cσ22.O (kth.up (xσ19.trans (xσ20.trans xσ21))) (by decide)).1
  have kp56 : gI σ22 th 3 = gI σ21 th 3 := (cσ22.O (kth.up (xσ19.trans (xσ20.trans xσ21))) (by decide)).1
  have kp57 : gI σ22 th 5 = gI σ21 th 5 := (cσ22.O (kth.up (xσ19.trans (xσ20.trans xσ21))) (by decide)).1
  have kp58 : gI σ22 J 2 = gI σ21 J 2 := (cσ22.O (kJ.up (xσ19.trans (xσ20.trans xσ21))) (by decide)).1
  have kp59 : gI σ22 o 6 = gI σ21 o 6 := (cσ22.O (ko.up (xσ19.trans (xσ20.trans xσ21))) (by decide)).1
  have kp60 : gI σ22 o 7 = gI σ21 o 7 := (cσ22.O (ko.up (xσ19.trans (xσ20.trans xσ21))) (by decide)).1
  have kp61 : gI σ22 o 9 = gI σ21 o 9 := (cσ22.O (ko.up (xσ19.trans (xσ20.trans xσ21))) (by decide)).1
  refine ⟨o, (kp42.trans (kp29.trans (kp18.trans h8))), fun kk_o => ?_⟩
  intro σ25 eσ25
  have xσ25 : Ext σ22 σ25 := by rw [eσ25]; exact fun _ h => ⟨h, rfl, rfl⟩
  have iσ25 : IV σ25 pl gq ci gr nc ot LL N nu := by rw [eσ25]; exact iσ22.wSp (ko.up (xσ19.trans (xσ20.trans (xσ21.trans xσ22)))) (fun i hi => by omega) (by decide) (show (-1 : Int) ≤ r23 ∧ r23 ≤ 15 from ⟨by omega, by omega⟩)
  have fσ25 : Fx [323, 326, 327, 328, 386, 387, 388, 389, 390, 6464] gr σ σ25 := fσ22.tr (Sk.fx (by rw [eσ25]; exact Sk.pI (by rw [fcdO (ko.up (xσ19.trans (xσ20.trans (xσ21.trans xσ22)))) (by decide)]; decide)))
  have oxcσ25 : OX o σ σ25 := oxcσ22.tr (by rw [eσ25]; exact OX.pI (ko.up (xσ19.trans (xσ20.trans (xσ21.trans xσ22)))) (Or.inr rfl)) (xσ19.trans (xσ20.trans (xσ21.trans xσ22)))
  have wσ25 : gI σ25 o 8 = r23 := by rw [eσ25]; exact up2_s _ _ _ _
  have kp62 : gI σ25 J 1 = gI σ22 J 1 := by rw [eσ25]; exact up2_n _ _ (fun q => absurd q.2 (by decide))
  have kp63 : gI σ25 J 7 = gI σ22 J 7 := by rw [eσ25]; exact up2_n _ _ (fun q => absurd q.2 (by decide))
  have kp64 : gI σ25 o 3 = gI σ22 o 3 := by rw [eσ25]; exact up2_n _ _ (fun q => absurd q.2 (by decide))
  have kp65 : gI σ25 o 4 = gI σ22 o 4 := by rw [eσ25]; exact up2_n _ _ (fun q => absurd q.2 (by decide))
  have kp66 : gP σ25 th 0 = gP σ22 th 0 := by rw [eσ25]
  have kp67 : gP σ25 th 7 = gP σ22 th 7 := by rw [eσ25]
  have kp68 : gP σ25 th 8 = gP σ22 th 8 := by rw [eσ25]
  have kp69 : gI σ25 th 2 = gI σ22 th 2 := by rw [eσ25]; exact up2_n _ _ (fun q => absurd q.2 (by decide))
  have kp70 : gI σ25 th 3 = gI σ22 th 3 := by rw [eσ25]; exact up2_n _ _ (fun q => absurd q.2 (by decide))
  have kp71 : gI σ25 th 5 = gI σ22 th 5 := by rw [eσ25]; exact up2_n _ _ (fun q => absurd q.2 (by decide))
  have kp72 : gI σ25 J 2 = gI σ22 J 2 := by rw [eσ25]; exact up2_n _ _ (fun q => absurd q.2 (by decide))
  have kp73 : gI σ25 o 6 = gI σ22 o 6 := by rw [eσ25]; exact up2_n _ _ (fun q => absurd q.2 (by decide))
  have kp74 : gI σ25 o 7 = gI σ22 o 7 := by rw [eσ25]; exact up2_n _ _ (fun q => absurd q.2 (by decide))
  have kp75 : gI σ25 o 9 = gI σ22 o 9 := by rw [eσ25]; exact up2_n _ _ (fun q => absurd q.2 (by decide))
  refine ⟨J, (kp67.trans (kp53.trans (kp41.trans (kp28.trans (kp17.trans h7))))), fun kk_J => ?_⟩
  refine ⟨o, (kp68.trans (kp54.trans (kp42.trans (kp29.trans (kp18.trans h8))))), fun kk_o_1 => ?_⟩
  obtain ⟨b, eb, fb⟩ := P_4_0 iσ25.1 (kJ.up (xσ19.trans (xσ20.trans (xσ21.trans (xσ22.trans xσ25)))))
  have mb : kO σ25 b 115 := iσ25.1.kd (kJ.up (xσ19.trans (xσ20.trans (xσ21.trans (xσ22.trans xσ25))))) rfl eb rfl
  refine ⟨b, eb, fun kk_b => ?_⟩
  have q76 := I_5_7 iσ25.1 (ko.up (xσ19.trans (xσ20.trans (xσ21.trans (xσ22.trans xσ25)))))
  refine ⟨⟨by (first | omega | with_reducible assumption | with_reducible exact rng_toInt _ | with_reducible exact rng_wr _ | (unfold rng; omega) | (unfold rng at *; omega) | assumption), by (first | omega | with_reducible assumption | with_reducible exact rng_toInt _ | with_reducible exact rng_wr _ | (unfold rng; omega) | (unfold rng at *; omega) | assumption)⟩, ?_⟩
  obtain ⟨b_1, eb_1⟩ := P_115 iσ25.1 mb (k := (gI σ25 o 7).toNat) (by (first | omega | with_reducible assumption | with_reducible exact rng_toInt _ | with_reducible exact rng_wr _ | (unfold rng; omega) | (unfold rng at *; omega) | assumption))
  have fb_1 := T_115 iσ25.1 mb eb_1
  have mb_1 : kO σ25 b_1 5 := iσ25.1.kd mb rfl eb_1 rfl
  refine i_X5_addColumnsOf iσ25 (ko.up (xσ19.trans (xσ20.trans (xσ21.trans (xσ22.trans xσ25))))) eb_1 mb_1 (by (first | omega | with_reducible assumption | with_reducible exact rng_toInt _ | with_reducible exact rng_wr _ | (unfold rng; omega) | (unfold rng at *; omega) | assumption)) (by (first | omega | with_reducible assumption | with_reducible exact rng_toInt _ | with_reducible exact rng_wr _ | (unfold rng; omega) | (unfold rng at *; omega) | assumption)) (by (first | omega | with_reducible assumption | with_reducible exact rng_toInt _ | with_reducible exact rng_wr _ | (unfold rng; omega) | (unfold rng at *; omega) | assumption)) (fun e => absurd (congrArg gq e) (by omega)) (fun σ29 _ iσ29 cσ29 oxσ29 pσ29 => ?_)
  intro xσ29
  have fσ29 : Fx [323, 326, 327, 328, 386, 387, 388, 389, 390, 6464] gr σ σ29 := fσ25.tr (cσ29.mo (by decide))
  have oxcσ29 : OX o σ σ29 := oxcσ25.tr oxσ29 (xσ19.trans (xσ20.trans (xσ21.trans (xσ22.trans xσ25))))
  have kp77 : gI σ29 J 1 = gI σ25 J 1 := (cσ29.O (kJ.up (xσ19.trans (xσ20.trans (xσ21.trans (xσ22.trans xσ25))))) (by decide)).1
  have kp78 : gI σ29 J 7 = gI σ25 J 7 := (cσ29.O (kJ.up (xσ19.trans (xσ20.trans (xσ21.trans (xσ22.trans xσ25))))) (by decide)).1
  have kp79 : gI σ29 o 4 = gI σ25 o 4 := (cσ29.O (ko.up (xσ19.trans (xσ20.trans (xσ21.trans (xσ22.trans xσ25))))) (by decide)).1
  have kp80 : gI σ29 o 7 = gI σ25 o 7 := (cσ29.O (ko.up (xσ19.trans (xσ20.trans (xσ21.trans (xσ22.trans xσ25))))) (by decide)).1
  have kp81 : gI σ29 o 8 = gI σ25 o 8 := (cσ29.O (ko.up (xσ19.trans (xσ20.trans (xσ21.trans (xσ22.trans xσ25))))) (by decide)).1
  have kp82 : gP σ29 J 0 = gP σ25 J 0 := (cσ29.O (kJ.up (xσ19.trans (xσ20.trans (xσ21.trans (xσ22.trans xσ25))))) (by decide)).2.1
  have kp83 : gP σ29 b (gI σ25 o 7).toNat = gP σ25 b (gI σ25 o 7).toNat := (cσ29.A mb (by decide)).2.1
  have kp84 : gP σ29 th 0 = gP σ25 th 0 := (cσ29.O (kth.up (xσ19.trans (xσ20.trans (xσ21.trans (xσ22.trans xσ25))))) (by decide)).2.1
  have kp85 : gP σ29 th 7 = gP σ25 th 7 := (cσ29.O (kth.up (xσ19.trans (xσ20.trans (xσ21.trans (xσ22.trans xσ25))))) (by decide)).2.1
  have kp86 : gP σ29 th 8 = gP σ25 th 8 := (cσ29.O (kth.up (xσ19.trans (xσ20.trans (xσ21.trans (xσ22.trans xσ25))))) (by decide)).2.1
  have kp87 : gI σ29 th 2 = gI σ25 th 2 := (cσ29.O (kth.up (xσ19.trans (xσ20.trans (xσ21.trans (xσ22.trans xσ25))))) (by decide)).1
  have kp88 : gI σ29 th 3 = gI σ25 th 3 := (cσ29.O (kth.up (xσ19.trans (xσ20.trans (xσ21.trans (xσ22.trans xσ25))))) (by decide)).1
  have kp89 : gI σ29 th 5 = gI σ25 th 5 := (cσ29.O (kth.up (xσ19.trans (xσ20.trans (xσ21.trans (xσ22.trans xσ25))))) (by decide)).1
  have kp90 : gI σ29 J 2 = gI σ25 J 2 := (cσ29.O (kJ.up (xσ19.trans (xσ20.trans (xσ21.trans (xσ22.trans xσ25))))) (by decide)).1
  have kp91 : gI σ29 o 6 = gI σ25 o 6 := (cσ29.O (ko.up (xσ19.trans (xσ20.trans (xσ21.trans (xσ22.trans xσ25))))) (by decide)).1
  have kp92 : gI σ29 o 9 = gI σ25 o 9 := (cσ29.O (ko.up (xσ19.trans (xσ20.trans (xσ21.trans (xσ22.trans xσ25))))) (by decide)).1
  refine ⟨J, (kp85.trans (kp67.trans (kp53.trans (kp41.trans (kp28.trans (kp17.trans h7)))))), fun kk_J_1 => ?_⟩
  refine ⟨o, (kp86.trans (kp68.trans (kp54.trans (kp42.trans (kp29.trans (kp18.trans h8)))))), fun kk_o_2 => ?_⟩
  refine ⟨b, (kp82.trans eb), fun kk_b_1 => ?_⟩
  have q93 := (xσ29 b mb.1).2.2
  refine ⟨⟨by (first | omega | with_reducible assumption | with_reducible exact rng_toInt _ | with_reducible exact rng_wr _ | (unfold rng; omega) | (unfold rng at *; omega) | assumption), by (first | omega | with_reducible assumption | with_reducible exact rng_toInt _ | with_reducible exact rng_wr _ | (unfold rng; omega) | (unfold rng at *; omega) | assumption)⟩, ?_⟩
  obtain ⟨b_2, eb_2⟩ := P_115 iσ29.1 (mb.up xσ29) (k := (gI σ29 o 8).toNat) (by (first | omega | with_reducible assumption | with_reducible exact rng_toInt _ | with_reducible exact rng_wr _ | (unfold rng; omega) | (unfold rng at *; omega) | assumption))
  have fb_2 := T_115 iσ29.1 (mb.up xσ29) eb_2
  have mb_2 : kO σ29 b_2 5 := iσ29.1.kd (mb.up xσ29) rfl eb_2 rfl
  refine i_X5_hasColumnsOf iσ29 (ko.up (xσ19.trans (xσ20.trans (xσ21.trans (xσ22.trans (xσ25.trans xσ29)))))) eb_2 mb_2 (fun r34 pσ33 => ?_)
  intro xσ33
  by_cases hc94 : r34 ≠ 0
  · rw [if_pos hc94]
    unfold w_X6_unionText_77
    refine i_X6_next iσ29 (kth.up (xσ19.trans (xσ20.trans (xσ21.trans (xσ22.trans (xσ25.trans xσ29)))))) (kp84.trans (kp66.trans (kp52.trans (kp40.trans (kp27.trans (kp16.trans hX0)))))) (kX.up (xσ19.trans (xσ20.trans (xσ21.trans (xσ22.trans (xσ25.trans xσ29)))))) (((xσ19.trans (xσ20.trans (xσ21.trans (xσ22.trans (xσ25.trans xσ29))))) tx kX.1).2.2.trans gX) (by (first | omega | with_reducible assumption | with_reducible exact rng_toInt _ | with_reducible exact rng_wr _ | (unfold rng; omega) | (unfold rng at *; omega) | assumption)) (by (first | omega | with_reducible assumption | with_reducible exact rng_toInt _ | with_reducible exact rng_wr _ | (unfold rng; omega) | (unfold rng at *; omega) | assumption)) (fun σ36 _ iσ36 cσ36 pσ36 => ?_) (fun σx LLx Nx nux E ix cx ux px => hX σx LLx Nx nux E ix (fσ29.tr (cx.mo (by decide))) (ux) (by first | exact px | exact ⟨by have := px.1; omega, px.2⟩ | (first | omega | with_reducible assumption | with_reducible exact rng_toInt _ | with_reducible exact rng_wr _ | (unfold rng; omega) | (unfold rng at *; omega) | assumption)))
    intro xσ36
    have fσ36 : Fx [323, 326, 327, 328, 386, 387, 388, 389, 390, 6464] gr σ σ36 := fσ29.tr (cσ36.mo (by decide))
    have oxcσ36 : OX o σ σ36 := oxcσ29.tr (OX.fx cσ36 (by decide) (by decide)) (xσ19.trans (xσ20.trans (xσ21.trans (xσ22.trans (xσ25.trans xσ29)))))
    have kp95 : gI σ36 J 1 = gI σ29 J 1 := (cσ36.O (kJ.up (xσ19.trans (xσ20.trans (xσ21.trans (xσ22.trans (xσ25.trans xσ29)))))) (by decide)).1
    have kp96 : gI σ36 J 7 = gI σ29 J 7 := (cσ36.O (kJ.up (xσ19.trans (xσ20.trans (xσ21.trans (xσ22.trans (xσ25.trans xσ29)))))) (by decide)).1
    have kp97 : gI σ36 o 4 = gI σ29 o 4 := (cσ36.O (ko.up (xσ19.trans (xσ20.trans (xσ21.trans (xσ22.trans (xσ25.trans xσ29)))))) (by decide)).1
    have kp98 : gI σ36 o 7 = gI σ29 o 7 := (cσ36.O (ko.up (xσ19.trans (xσ20.trans (xσ21.trans (xσ22.trans (xσ25.trans xσ29)))))) (by decide)).1
    have kp99 : gI σ36 o 8 = gI σ29 o 8 := (cσ36.O (ko.up (xσ19.trans (xσ20.trans (xσ21.trans (xσ22.trans (xσ25.trans xσ29)))))) (by decide)).1
    have kp100 : gP σ36 J 0 = gP σ29 J 0 := (cσ36.O (kJ.up (xσ19.trans (xσ20.trans (xσ21.trans (xσ22.trans (xσ25.trans xσ29)))))) (by decide)).2.1
    have kp101 : gP σ36 b (gI σ25 o 7).toNat = gP σ29 b (gI σ25 o 7).toNat := (cσ36.A (mb.up xσ29) (by decide)).2.1
    have kp102 : gP σ36 b (gI σ29 o 8).toNat = gP σ29 b (gI σ29 o 8).toNat := (cσ36.A (mb.up xσ29) (by decide)).2.1
    have kp103 : gP σ36 th 0 = gP σ29 th 0 := (cσ36.O (kth.up (xσ19.trans (xσ20.trans (xσ21.trans (xσ22.trans (xσ25.trans xσ29)))))) (by decide)).2.1
    have kp104 : gP σ36 th 7 = gP σ29 th 7 := (cσ36.O (kth.up (xσ19.trans (xσ20.trans (xσ21.trans (xσ22.trans (xσ25.trans xσ29)))))) (by decide)).2.1
    have kp105 : gP σ36 th 8 = gP σ29 th 8 := (cσ36.O (kth.up (xσ19.trans (xσ20.trans (xσ21.trans (xσ22.trans (xσ25.trans xσ29)))))) (by decide)).2.1
    have kp106 : gI σ36 J 2 = gI σ29 J 2 := (cσ36.O (kJ.up (xσ19.trans (xσ20.trans (xσ21.trans (xσ22.trans (xσ25.trans xσ29)))))) (by decide)).1
    have kp107 : gI σ36 o 3 = gI σ29 o 3 := (cσ36.O (ko.up (xσ19.trans (xσ20.trans (xσ21.trans (xσ22.trans (xσ25.trans xσ29)))))) (by decide)).1
    have kp108 : gI σ36 o 6 = gI σ29 o 6 := (cσ36.O (ko.up (xσ19.trans (xσ20.trans (xσ21.trans (xσ22.trans (xσ25.trans xσ29)))))) (by decide)).1
    have kp109 : gI σ36 o 9 = gI σ29 o 9 := (cσ36.O (ko.up (xσ19.trans (xσ20.trans (xσ21.trans (xσ22.trans (xσ25.trans xσ29)))))) (by decide)).1
    have r5σ36 := I_6_5 iσ36.1 (kth.up (xσ19.trans (xσ20.trans (xσ21.trans (xσ22.trans (xσ25.trans (xσ29.trans xσ36)))))))
    exact hQ σ36 () iσ36 fσ36 oxcσ36 (⟨by omega, by omega, ⟨by omega, (fun h => absurd h (by omega)), (fun h => absurd h (by omega))⟩⟩)
  · rw [if_neg hc94]
    have hc94q := Classical.not_not.mp hc94
    unfold w_X6_unionText_71
    refine i_X6_refuse iσ29 (kth.up (xσ19.trans (xσ20.trans (xσ21.trans (xσ22.trans (xσ25.trans xσ29)))))) (by (first | omega | with_reducible assumption | with_reducible exact rng_toInt _ | with_reducible exact rng_wr _ | (unfold rng; omega) | (unfold rng at *; omega) | assumption)) (by (first | omega | with_reducible assumption | with_reducible exact rng_toInt _ | with_reducible exact rng_wr _ | (unfold rng; omega) | (unfold rng at *; omega) | assumption)) (by (first | omega | with_reducible assumption | with_reducible exact rng_toInt _ | with_reducible exact rng_wr _ | (unfold rng; omega) | (unfold rng at *; omega) | assumption)) (fun σ35 _ iσ35 cσ35 pσ35 => ?_) (fun σx LLx Nx nux E ix cx ux px => hX σx LLx Nx nux E ix (fσ29.tr (cx.mo (by decide))) (ux) (by first | exact px | exact ⟨by have := px.1; omega, px.2⟩ | (first | omega | with_reducible assumption | with_reducible exact rng_toInt _ | with_reducible exact rng_wr _ | (unfold rng; omega) | (unfold rng at *; omega) | assumption)))
    intro xσ35
    exact pσ35.elim
set_option maxHeartbeats 1000000 in
theorem i_X6_foldText {σ : Sg} {pl : Nat} {gq ci gr nc : Nat → Nat} {ot : Nat → Nat → Int} {LL : Nat → List Nat} {N nu : Nat → Nat} {th : Nat} {tx J o q c : Nat} (iσ : IV σ pl gq ci gr nc ot LL N nu) (kth : kO σ th 6) (hX0 : gP σ th 0 = some tx) (kX : kO σ tx 102) (gX : gn σ tx = 1500) (h7 : gP σ th 7 = some J) (kJ : kO σ J 4) (h8 : gP σ th 8 = some o) (ko : kO σ o 5) (hJq : gq J = q) (hq : q ≠ nc 0 ∧ q ≤ 1) (go : gq o = 16 * q + c) (hc : c < 16) (cJ : gI σ J 1 = (c : Int)) (tf : gI σ th 5 ≤ gI σ th 2 ∧ (gI σ th 3 ≠ 0 → gI σ th 5 + 1 ≤ gI σ th 2)) (h5 : nu 5 < 24000) (lp : gI σ J 7 ≤ 2 * gI σ th 5) (f0 : gI σ o 3 = 0 ∧ gI σ o 4 = 0 ∧ gI σ o 7 = -1 ∧ gI σ o 8 = -1) {Q : Sg → Unit → Prop} {X : Sg → String → Prop} (hQ : ∀ (σ' : Sg) (r : Unit), IV σ' pl gq ci gr nc ot LL N nu → Fx [323, 326, 327, 331, 332, 333, 386, 387, 388, 389, 390, 6464] gr σ σ' → OX o σ σ' → ((gI σ' th 5 ≤ gI σ' th 2 ∧ (gI σ' th 3 ≠ 0 → gI σ' th 5 + 1 ≤ gI σ' th 2)) ∧ gI σ' J 7 ≤ 2 * gI σ' th 5 ∧ (gI σ' o 6 = 4 ∨ gI σ' o 6 = 5) ∧ (0 ≤ gI σ' o 7 ∧ gI σ' o 7 < (c : Int)) ∧ gI σ' o 8 = -1 ∧ gI σ' o 3 = 1 ∧ gI σ' o 4 = 0) → Q σ' r) (hX : ∀ (σ' : Sg) (LL' : Nat → List Nat) (N' nu' : Nat → Nat) (E : String), IV σ' pl gq ci gr nc ot LL' N' nu' → Fx [323, 326, 327, 331, 332, 333, 386, 387, 388, 389, 390, 6464] gr σ σ' → NCX nu nu' → (LL' = LL ∧ N' = N ∧ E = "java/lang/IllegalArgumentException" ∧ gI σ' th 6 ≠ 0) → X σ' E) : wp_X6_foldText th σ Q X := by
  have fσ : Fx [323, 326, 327, 331, 332, 333, 386, 387, 388, 389, 390, 6464] gr σ σ := Fx.rf
  have oxσ : OX o σ σ := OX.rf
  have q1 := I_4_1 iσ.1 kJ
  have q2 := I_6_5 iσ.1 kth
  have q3 := I_6_2 iσ.1 kth
  have q4 := iσ.rg th 3; unfold rng at q4
  have q5 := I_4_7 iσ.1 kJ
  have q6 := I_5_3 iσ.1 ko
  have q7 := I_5_4 iσ.1 ko
  have q8 := I_5_7 iσ.1 ko
  have q9 := I_5_8 iσ.1 ko
  have ncb := iσ.ncb
  have r70 := I_4_7 iσ.1 kJ
  have r71 := I_4_1 iσ.1 kJ
  unfold wp_X6_foldText
  unfold w_X6_foldText_0
  refine i_X6_next iσ kth hX0 kX (((Ext.rfl' _) tx kX.1).2.2.trans gX) (by (first | omega | with_reducible assumption | with_reducible exact rng_toInt _ | with_reducible exact rng_wr _ | (unfold rng; omega) | (unfold rng at *; omega) | assumption)) (by (first | omega | with_reducible assumption | with_reducible exact rng_toInt _ | with_reducible exact rng_wr _ | (unfold rng; omega) | (unfold rng at *; omega) | assumption)) (fun σ40 _ iσ40 cσ40 pσ40 => ?_) (fun σx LLx Nx nux E ix cx ux px => hX σx LLx Nx nux E ix (fσ.tr (cx.mo (by decide))) (ux) (by first | exact px | exact ⟨by have := px.1; omega, px.2⟩ | (first | omega | with_reducible assumption | with_reducible exact rng_toInt _ | with_reducible exact rng_wr _ | (unfold rng; omega) | (unfold rng at *; omega) | assumption)))
  intro xσ40
  have fσ40 : Fx [323, 326, 327, 331, 332, 333, 386, 387, 388, 389, 390, 6464] gr σ σ40 := fσ.tr (cσ40.mo (by decide))
  have oxcσ40 : OX o σ σ40 := oxσ.tr (OX.fx cσ40 (by decide) (by decide)) (Ext.rfl' _)
  have kp10 : gI σ40 J 1 = gI σ J 1 := (cσ40.O kJ (by decide)).1
  have kp11 : gI σ40 J 7 = gI σ J 7 := (cσ40.O kJ (by decide)).1
  have kp12 : gI σ40 o 3 = gI σ o 3 := (cσ40.O ko (by decide)).1
  have kp13 : gI σ40 o 4 = gI σ o 4 := (cσ40.O ko (by decide)).1
  have kp14 : gI σ40 o 7 = gI σ o 7 := (cσ40.O ko (by decide)).1
  have kp15 : gI σ40 o 8 = gI σ o 8 := (cσ40.O ko (by decide)).1
  have kp16 : gP σ40 th 0 = gP σ th 0 := (cσ40.O kth (by decide)).2.1
  have kp17 : gP σ40 th 7 = gP σ th 7 := (cσ40.O kth (by decide)).2.1
  have kp18 : gP σ40 th 8 = gP σ th 8 := (cσ40.O kth (by decide)).2.1
  have kp19 : gI σ40 J 2 = gI σ J 2 := (cσ40.O kJ (by decide)).1
  have kp20 : gI σ40 o 6 = gI σ o 6 := (cσ40.O ko (by decide)).1
  have kp21 : gI σ40 o 9 = gI σ o 9 := (cσ40.O ko (by decide)).1
  have r5σ40 := I_6_5 iσ40.1 (kth.up xσ40)
  refine i_X6_firstInput iσ40 (kth.up xσ40) (kp17.trans h7) (kJ.up xσ40) (kp18.trans h8) (ko.up xσ40) (by (first | omega | with_reducible assumption | with_reducible exact rng_toInt _ | with_reducible exact rng_wr _ | (unfold rng; omega) | (unfold rng at *; omega) | assumption)) (by (first | omega | with_reducible assumption | with_reducible exact rng_toInt _ | with_reducible exact rng_wr _ | (unfold rng; omega) | (unfold rng at *; omega) | assumption)) (by (first | omega | with_reducible assumption | with_reducible exact rng_toInt _ | with_reducible exact rng_wr _ | (unfold rng; omega) | (unfold rng at *; omega) | assumption)) (by (first | omega | with_reducible assumption | with_reducible exact rng_toInt _ | with_reducible exact rng_wr _ | (unfold rng; omega) | (unfold rng at *; omega) | assumption)) (by (first | omega | with_reducible assumption | with_reducible exact rng_toInt _ | with_reducible exact rng_wr _ | (unfold rng; omega) | (unfold rng at *; omega) | assumption)) (by (first | omega | with_reducible assumption | with_reducible exact rng_toInt _ | with_reducible exact rng_wr _ | (unfold rng; omega) | (unfold rng at *; omega) | assumption)) (fun σ41 _ iσ41 cσ41 oxσ41 pσ41 => ?_) (fun σx LLx Nx nux E ix cx ux px => hX σx LLx Nx nux E ix (fσ40.tr (cx.mo (by decide))) (ux) (by first | exact px | exact ⟨by have := px.1; omega, px.2⟩ | (first | omega | with_reducible assumption | with_reducible exact rng_toInt _ | with_reducible exact rng_wr _ | (unfold rng; omega) | (unfold rng at *; omega) | assumption)))
  intro xσ41
  have fσ41 : Fx [323, 326, 327, 331, 332, 333, 386, 387, 388, 389, 390, 6464] gr σ σ41 := fσ40.tr (cσ41.mo (by decide))
  have oxcσ41 : OX o σ σ41 := oxcσ40.tr oxσ41 (xσ40)
  have kp22 : gI σ41 J 1 = gI σ40 J 1 := (cσ41.O (kJ.up xσ40) (by decide)).1
  have kp23 : gI σ41 J 7 = gI σ40 J 7 := (cσ41.O (kJ.up xσ40) (by decide)).1
  have kp24 : gI σ41 o 3 = gI σ40 o 3 := (cσ41.O (ko.up xσ40) (by decide)).1
  have kp25 : gI σ41 o 4 = gI σ40 o 4 := (cσ41.O (ko.up xσ40) (by decide)).1
  have kp26 : gI σ41 o 8 = gI σ40 o 8 := (cσ41.O (ko.up xσ40) (by decide)).1
  have kp27 : gP σ41 th 0 = gP σ40 th 0 := (cσ41.O (kth.up xσ40) (by decide)).2.1
  have kp28 : gP σ41 th 7 = gP σ40 th 7 := (cσ41.O (kth.up xσ40) (by decide)).2.1
  have kp29 : gP σ41 th 8 = gP σ40 th 8 := (cσ41.O (kth.up xσ40) (by decide)).2.1
  have kp30 : gI σ41 th 2 = gI σ40 th 2 := (cσ41.O (kth.up xσ40) (by decide)).1
  have kp31 : gI σ41 th 3 = gI σ40 th 3 := (cσ41.O (kth.up xσ40) (by decide)).1
  have kp32 : gI σ41 th 5 = gI σ40 th 5 := (cσ41.O (kth.up xσ40) (by decide)).1
  have kp33 : gI σ41 J 2 = gI σ40 J 2 := (cσ41.O (kJ.up xσ40) (by decide)).1
  have kp34 : gI σ41 o 9 = gI σ40 o 9 := (cσ41.O (ko.up xσ40) (by decide)).1
  refine i_X6_next iσ41 (kth.up (xσ40.trans xσ41)) (kp27.trans (kp16.trans hX0)) (kX.up (xσ40.trans xσ41)) (((xσ40.trans xσ41) tx kX.1).2.2.trans gX) (by (first | omega | with_reducible assumption | with_reducible exact rng_toInt _ | with_reducible exact rng_wr _ | (unfold rng; omega) | (unfold rng at *; omega) | assumption)) (by (first | omega | with_reducible assumption | with_reducible exact rng_toInt _ | with_reducible exact rng_wr _ | (unfold rng; omega) | (unfold rng at *; omega) | assumption)) (fun σ42 _ iσ42 cσ42 pσ42 => ?_) (fun σx LLx Nx nux E ix cx ux px => hX σx LLx Nx nux E ix (fσ41.tr (cx.mo (by decide))) (ux) (by first | exact px | exact ⟨by have := px.1; omega, px.2⟩ | (first | omega | with_reducible assumption | with_reducible exact rng_toInt _ | with_reducible exact rng_wr _ | (unfold rng; omega) | (unfold rng at *; omega) | assumption)))
  intro xσ42
  have fσ42 : Fx [323, 326, 327, 331, 332, 333, 386, 387, 388, 389, 390, 6464] gr σ σ42 := fσ41.tr (cσ42.mo (by decide))
  have oxcσ42 : OX o σ σ42 := oxcσ41.tr (OX.fx cσ42 (by decide) (by decide)) (xσ40.trans xσ41)
  have kp35 : gI σ42 J 1 = gI σ41 J 1 := (cσ42.O (kJ.up (xσ40.trans xσ41)) (by decide)).1
  have kp36 : gI σ42 J 7 = gI σ41 J 7 := (cσ42.O (kJ.up (xσ40.trans xσ41)) (by decide)).1
  have kp37 : gI σ42 o 3 = gI σ41 o 3 := (cσ42.O (ko.up (xσ40.trans xσ41)) (by decide)).1
  have kp38 : gI σ42 o 4 = gI σ41 o 4 := (cσ42.O (ko.up (xσ40.trans xσ41)) (by decide)).1
  have kp39 : gI σ42 o 8 = gI σ41 o 8 := (cσ42.O (ko.up (xσ40.trans xσ41)) (by decide)).1
  have kp40 : gP σ42 th 0 = gP σ41 th 0 := (cσ42.O (kth.up (xσ40.trans xσ41)) (by decide)).2.1
  have kp41 : gP σ42 th 7 = gP σ41 th 7 := (cσ42.O (kth.up (xσ40.trans xσ41)) (by decide)).2.1
  have kp42 : gP σ42 th 8 = gP σ41 th 8 := (cσ42.O (kth.up (xσ40.trans xσ41)) (by decide)).2.1
  have kp43 : gI σ42 J 2 = gI σ41 J 2 := (cσ42.O (kJ.up (xσ40.trans xσ41)) (by decide)).1
  have kp44 : gI σ42 o 6 = gI σ41 o 6 := (cσ42.O (ko.up (xσ40.trans xσ41)) (by decide)).1
  have kp45 : gI σ42 o 7 = gI σ41 o 7 := (cσ42.O (ko.up (xσ40.trans xσ41)) (by decide)).1
  have kp46 : gI σ42 o 9 = gI σ41 o 9 := (cσ42.O (ko.up (xσ40.trans xσ41)) (by decide)).1
  have r5σ42 := I_6_5 iσ42.1 (kth.up (xσ40.trans (xσ41.trans xσ42)))
  refine i_X6_wantWord iσ42 (kth.up (xσ40.trans (xσ41.trans xσ42))) (kp40.trans (kp27.trans (kp16.trans hX0))) (kX.up (xσ40.trans (xσ41.trans xσ42))) (((xσ40.trans (xσ41.trans xσ42)) tx kX.1).2.2.trans gX) (by (first | omega | with_reducible assumption | with_reducible exact rng_toInt _ | with_reducible exact rng_wr _ | (unfold rng; omega) | (unfold rng at *; omega) | assumption)) (by (first | omega | with_reducible assumption | with_reducible exact rng_toInt _ | with_reducible exact rng_wr _ | (unfold rng; omega) | (unfold rng at *; omega) | assumption)) (fun σ43 _ iσ43 cσ43 pσ43 => ?_) (fun σx LLx Nx nux E ix cx ux px => hX σx LLx Nx nux E ix (fσ42.tr (cx.mo (by decide))) (ux) (by first | exact px | exact ⟨by have := px.1; omega, px.2⟩ | (first | omega | with_reducible assumption | with_reducible exact rng_toInt _ | with_reducible exact rng_wr _ | (unfold rng; omega) | (unfold rng at *; omega) | assumption)))
  intro xσ43
  have fσ43 : Fx [323, 326, 327, 331, 332, 333, 386, 387, 388, 389, 390, 6464] gr σ σ43 := fσ42.tr (cσ43.mo (by decide))
  have oxcσ43 : OX o σ σ43 := oxcσ42.tr (OX.fx cσ43 (by decide) (by decide)) (xσ40.trans (xσ41.trans xσ42))
  have kp47 : gI σ43 J 1 = gI σ42 J 1 := (cσ43.O (kJ.up (xσ40.trans (xσ41.trans xσ42))) (by decide)).1
  have kp48 : gI σ43 J 7 = gI σ42 J 7 := (cσ43.O (kJ.up (xσ40.trans (xσ41.trans xσ42))) (by decide)).1
  have kp49 : gI σ43 o 3 = gI σ42 o 3 := (cσ43.O (ko.up (xσ40.trans (xσ41.trans xσ42))) (by decide)).1
  have kp50 : gI σ43 o 4 = gI σ42 o 4 := (cσ43.O (ko.up (xσ40.trans (xσ41.trans xσ42))) (by decide)).1
  have kp51 : gI σ43 o 8 = gI σ42 o 8 := (cσ43.O (ko.up (xσ40.trans (xσ41.trans xσ42))) (by decide)).1
  have kp52 : gP σ43 th 0 = gP σ42 th 0 := (cσ43.O (kth.up (xσ40.trans (xσ41.trans xσ42))) (by decide)).2.1
  have kp53 : gP σ43 th 7 = gP σ42 th 7 := (cσ43.O (kth.up (xσ40.trans (xσ41.trans xσ42))) (by decide)).2.1
  have kp54 : gP σ43 th 8 = gP σ42 th 8 := (cσ43.O (kth.up (xσ40.trans (xσ41.trans xσ42))) (by decide)).2.1
  have kp55 : gI σ43 J 2 = gI σ42 J 2 := (cσ43.O (kJ.up (xσ40.trans (xσ41.trans xσ42))) (by decide)).1
  have kp56 : gI σ43 o 6 = gI σ42 o 6 := (cσ43.O (ko.up (xσ40.trans (xσ41.trans xσ42))) (by decide)).1
  have kp57 : gI σ43 o 7 = gI σ42 o 7 := (cσ43.O (ko.up (xσ40.trans (xσ41.trans xσ42))) (by decide)).1
  have kp58 : gI σ43 o 9 = gI σ42 o 9 := (cσ43.O (ko.up (xσ40.trans (xσ41.trans xσ42))) (by decide)).1
  have r5σ43 := I_6_5 iσ43.1 (kth.up (xσ40.trans (xσ41.trans (xσ42.trans xσ43))))
  refine ⟨J, (kp53.trans (kp41.trans (kp28.trans (kp17.trans h7)))), fun kk_J => ?_⟩
  refine ⟨o, (kp54.trans (kp42.trans (kp29.trans (kp18.trans h8)))), fun kk_o => ?_⟩
  obtain ⟨b, eb, fb⟩ := P_4_0 iσ43.1 (kJ.up (xσ40.trans (xσ41.trans (xσ42.trans xσ43))))
  have mb : kO σ43 b 115 := iσ43.1.kd (kJ.up (xσ40.trans (xσ41.trans (xσ42.trans xσ43)))) rfl eb rfl
  refine ⟨b, eb, fun kk_b => ?_⟩
  have q59 := I_5_7 iσ43.1 (ko.up (xσ40.trans (xσ41.trans (xσ42.trans xσ43))))
  refine ⟨⟨by (first | omega | with_reducible assumption | with_reducible exact rng_toInt _ | with_reducible exact rng_wr _ | (unfold rng; omega) | (unfold rng at *; omega) | assumption), by (first | omega | with_reducible assumption | with_reducible exact rng_toInt _ | with_reducible exact rng_wr _ | (unfold rng; omega) | (unfold rng at *; omega) | assumption)⟩, ?_⟩
  obtain ⟨b_1, eb_1⟩ := P_115 iσ43.1 mb (k := (gI σ43 o 7).toNat) (by (first | omega | with_reducible assumption | with_reducible exact rng_toInt _ | with_reducible exact rng_wr _ | (unfold rng; omega) | (unfold rng at *; omega) | assumption))
  have fb_1 := T_115 iσ43.1 mb eb_1
  have mb_1 : kO σ43 b_1 5 := iσ43.1.kd mb rfl eb_1 rfl
  refine i_X6_column iσ43 (kth.up (xσ40.trans (xσ41.trans (xσ42.trans xσ43)))) eb_1 mb_1 (by (first | omega | with_reducible assumption | with_reducible exact rng_toInt _ | with_reducible exact rng_wr _ | (unfold rng; omega) | (unfold rng at *; omega) | assumption)) (fun σ47 r48 iσ47 cσ47 pσ47 => ?_) (fun σx LLx Nx nux E ix cx ux px => hX σx LLx Nx nux E ix (fσ43.tr (cx.mo (by decide))) (ux) (by first | exact px | exact ⟨by have := px.1; omega, px.2⟩ | (first | omega | with_reducible assumption | with_reducible exact rng_toInt _ | with_reducible exact rng_wr _ | (unfold rng; omega) | (unfold rng at *; omega) | assumption)))
  intro xσ47
  have fσ47 : Fx [323, 326, 327, 331, 332, 333, 386, 387, 388, 389, 390, 6464] gr σ σ47 := fσ43.tr (cσ47.mo (by decide))
  have oxcσ47 : OX o σ σ47 := oxcσ43.tr (OX.fx cσ47 (by decide) (by decide)) (xσ40.trans (xσ41.trans (xσ42.trans xσ43)))
  have kp60 : gI σ47 J 1 = gI σ43 J 1 := (cσ47.O (kJ.up (xσ40.trans (xσ41.trans (xσ42.trans xσ43)))) (by decide)).1
  have kp61 : gI σ47 J 7 = gI σ43 J 7 := (cσ47.O (kJ.up (xσ40.trans (xσ41.trans (xσ42.trans xσ43)))) (by decide)).1
  have kp62 : gI σ47 o 3 = gI σ43 o 3 := (cσ47.O (ko.up (xσ40.trans (xσ41.trans (xσ42.trans xσ43)))) (by decide)).1
  have kp63 : gI σ47 o 4 = gI σ43 o 4 := (cσ47.O (ko.up (xσ40.trans (xσ41.trans (xσ42.trans xσ43)))) (by decide)).1
  have kp64 : gI σ47 o 7 = gI σ43 o 7 := (cσ47.O (ko.up (xσ40.trans (xσ41.trans (xσ42.trans xσ43)))) (by decide)).1
  have kp65 : gI σ47 o 8 = gI σ43 o 8 := (cσ47.O (ko.up (xσ40.trans (xσ41.trans (xσ42.trans xσ43)))) (by decide)).1
  have kp66 : gP σ47 J 0 = gP σ43 J 0 := (cσ47.O (kJ.up (xσ40.trans (xσ41.trans (xσ42.trans xσ43)))) (by decide)).2.1
  have kp67 : gP σ47 b (gI σ43 o 7).toNat = gP σ43 b (gI σ43 o 7).toNat := (cσ47.A mb (by decide)).2.1
  have kp68 : gP σ47 th 0 = gP σ43 th 0 := (cσ47.O (kth.up (xσ40.trans (xσ41.trans (xσ42.trans xσ43)))) (by decide)).2.1
  have kp69 : gP σ47 th 7 = gP σ43 th 7 := (cσ47.O (kth.up (xσ40.trans (xσ41.trans (xσ42.trans xσ43)))) (by decide)).2.1
  have kp70 : gP σ47 th 8 = gP σ43 th 8 := (cσ47.O (kth.up (xσ40.trans (xσ41.trans (xσ42.trans xσ43)))) (by decide)).2.1
  have kp71 : gI σ47 th 2 = gI σ43 th 2 := (cσ47.O (kth.up (xσ40.trans (xσ41.trans (xσ42.trans xσ43)))) (by decide)).1
  have kp72 : gI σ47 th 3 = gI σ43 th 3 := (cσ47.O (kth.up (xσ40.trans (xσ41.trans (xσ42.trans xσ43)))) (by decide)).1
  have kp73 : gI σ47 th 5 = gI σ43 th 5 := (cσ47.O (kth.up (xσ40.trans (xσ41.trans (xσ42.trans xσ43)))) (by decide)).1
  have kp74 : gI σ47 J 2 = gI σ43 J 2 := (cσ47.O (kJ.up (xσ40.trans (xσ41.trans (xσ42.trans xσ43)))) (by decide)).1
  have kp75 : gI σ47 o 6 = gI σ43 o 6 := (cσ47.O (ko.up (xσ40.trans (xσ41.trans (xσ42.trans xσ43)))) (by decide)).1
  have kp76 : gI σ47 o 9 = gI σ43 o 9 := (cσ47.O (ko.up (xσ40.trans (xσ41.trans (xσ42.trans xσ43)))) (by decide)).1
  intro σ49 eσ49
  have xσ49 : Ext σ47 σ49 := by rw [eσ49]; exact fun _ h => ⟨h, rfl, rfl⟩
  have iσ49 : IV σ49 pl gq ci gr nc ot LL N nu := by rw [eσ49]; exact iσ47.wSp (ko.up (xσ40.trans (xσ41.trans (xσ42.trans (xσ43.trans xσ47))))) (fun i hi => by omega) (by decide) (show (0 : Int) ≤ r48 ∧ r48 ≤ 7 from ⟨by omega, by omega⟩)
  have fσ49 : Fx [323, 326, 327, 331, 332, 333, 386, 387, 388, 389, 390, 6464] gr σ σ49 := fσ47.tr (Sk.fx (by rw [eσ49]; exact Sk.pI (by rw [fcdO (ko.up (xσ40.trans (xσ41.trans (xσ42.trans (xσ43.trans xσ47))))) (by decide)]; decide)))
  have oxcσ49 : OX o σ σ49 := oxcσ47.tr (by rw [eσ49]; exact OX.pI (ko.up (xσ40.trans (xσ41.trans (xσ42.trans (xσ43.trans xσ47))))) (Or.inr rfl)) (xσ40.trans (xσ41.trans (xσ42.trans (xσ43.trans xσ47))))
  have wσ49 : gI σ49 o 13 = r48 := by rw [eσ49]; exact up2_s _ _ _ _
  have kp77 : gI σ49 J 1 = gI σ47 J 1 := by rw [eσ49]; exact up2_n _ _ (fun q => absurd q.2 (by decide))
  have kp78 : gI σ49 J 7 = gI σ47 J 7 := by rw [eσ49]; exact up2_n _ _ (fun q => absurd q.2 (by decide))
  have kp79 : gI σ49 o 3 = gI σ47 o 3 := by rw [eσ49]; exact up2_n _ _ (fun q => absurd q.2 (by decide))
  have kp80 : gI σ49 o 4 = gI σ47 o 4 := by rw [eσ49]; exact up2_n _ _ (fun q => absurd q.2 (by decide))
  have kp81 : gI σ49 o 7 = gI σ47 o 7 := by rw [eσ49]; exact up2_n _ _ (fun q => absurd q.2 (by decide))
  have kp82 : gI σ49 o 8 = gI σ47 o 8 := by rw [eσ49]; exact up2_n _ _ (fun q => absurd q.2 (by decide))
  have kp83 : gP σ49 J 0 = gP σ47 J 0 := by rw [eσ49]
  have kp84 : gP σ49 b (gI σ43 o 7).toNat = gP σ47 b (gI σ43 o 7).toNat := by rw [eσ49]
  have kp85 : gP σ49 th 0 = gP σ47 th 0 := by rw [eσ49]
  have kp86 : gP σ49 th 7 = gP σ47 th 7 := by rw [eσ49]
  have kp87 : gP σ49 th 8 = gP σ47 th 8 := by rw [eσ49]
  have kp88 : gI σ49 th 2 = gI σ47 th 2 := by rw [eσ49]; exact up2_n _ _ (fun q => absurd q.2 (by decide))
  have kp89 : gI σ49 th 3 = gI σ47 th 3 := by rw [eσ49]; exact up2_n _ _ (fun q => absurd q.2 (by decide))
  have kp90 : gI σ49 th 5 = gI σ47 th 5 := by rw [eσ49]; exact up2_n _ _ (fun q => absurd q.2 (by decide))
  have kp91 : gI σ49 J 2 = gI σ47 J 2 := by rw [eσ49]; exact up2_n _ _ (fun q => absurd q.2 (by decide))
  have kp92 : gI σ49 o 6 = gI σ47 o 6 := by rw [eσ49]; exact up2_n _ _ (fun q => absurd q.2 (by decide))
  have kp93 : gI σ49 o 9 = gI σ47 o 9 := by rw [eσ49]; exact up2_n _ _ (fun q => absurd q.2 (by decide))
  refine ⟨o, (kp87.trans (kp70.trans (kp54.trans (kp42.trans (kp29.trans (kp18.trans h8)))))), fun kk_o_1 => ?_⟩
  refine i_X5_addColumn iσ49 (ko.up (xσ40.trans (xσ41.trans (xσ42.trans (xσ43.trans (xσ47.trans xσ49)))))) (by (first | omega | with_reducible assumption | with_reducible exact rng_toInt _ | with_reducible exact rng_wr _ | (unfold rng; omega) | (unfold rng at *; omega) | assumption)) (by (first | omega | with_reducible assumption | with_reducible exact rng_toInt _ | with_reducible exact rng_wr _ | (unfold rng; omega) | (unfold rng at *; omega) | assumption)) (by (first | omega | with_reducible assumption | with_reducible exact rng_toInt _ | with_reducible exact rng_wr _ | (unfold rng; omega) | (unfold rng at *; omega) | assumption)) (fun σ50 _ iσ50 cσ50 oxσ50 pσ50 => ?_)
  intro xσ50
  have fσ50 : Fx [323, 326, 327, 331, 332, 333, 386, 387, 388, 389, 390, 6464] gr σ σ50 := fσ49.tr (cσ50.mo (by decide))
  have oxcσ50 : OX o σ σ50 := oxcσ49.tr oxσ50 (xσ40.trans (xσ41.trans (xσ42.trans (xσ43.trans (xσ47.trans xσ49)))))
  have kp94 : gI σ50 J 1 = gI σ49 J 1 := (cσ50.O (kJ.up (xσ40.trans (xσ41.trans (xσ42.trans (xσ43.trans (xσ47.trans xσ49)))))) (by decide)).1
  have kp95 : gI σ50 J 7 = gI σ49 J 7 := (cσ50.O (kJ.up (xσ40.trans (xσ41.trans (xσ42.trans (xσ43.trans (xσ47.trans xσ49)))))) (by decide)).1
  have kp96 : gI σ50 o 13 = gI σ49 o 13 := (cσ50.O (ko.up (xσ40.trans (xσ41.trans (xσ42.trans (xσ43.trans (xσ47.trans xσ49)))))) (by decide)).1
  have kp97 : gI σ50 o 4 = gI σ49 o 4 := (cσ50.O (ko.up (xσ40.trans (xσ41.trans (xσ42.trans (xσ43.trans (xσ47.trans xσ49)))))) (by decide)).1
  have kp98 : gI σ50 o 7 = gI σ49 o 7 := (cσ50.O (ko.up (xσ40.trans (xσ41.trans (xσ42.trans (xσ43.trans (xσ47.trans xσ49)))))) (by decide)).1
  have kp99 : gI σ50 o 8 = gI σ49 o 8 := (cσ50.O (ko.up (xσ40.trans (xσ41.trans (xσ42.trans (xσ43.trans (xσ47.trans xσ49)))))) (by decide)).1
  have kp100 : gP σ50 J 0 = gP σ49 J 0 := (cσ50.O (kJ.up (xσ40.trans (xσ41.trans (xσ42.trans (xσ43.trans (xσ47.trans xσ49)))))) (by decide)).2.1
  have kp101 : gP σ50 b (gI σ43 o 7).toNat = gP σ49 b (gI σ43 o 7).toNat := (cσ50.A (mb.up (xσ47.trans xσ49)) (by decide)).2.1
  have kp102 : gP σ50 th 0 = gP σ49 th 0 := (cσ50.O (kth.up (xσ40.trans (xσ41.trans (xσ42.trans (xσ43.trans (xσ47.trans xσ49)))))) (by decide)).2.1
  have kp103 : gP σ50 th 7 = gP σ49 th 7 := (cσ50.O (kth.up (xσ40.trans (xσ41.trans (xσ42.trans (xσ43.trans (xσ47.trans xσ49)))))) (by decide)).2.1
  have kp104 : gP σ50 th 8 = gP σ49 th 8 := (cσ50.O (kth.up (xσ40.trans (xσ41.trans (xσ42.trans (xσ43.trans (xσ47.trans xσ49)))))) (by decide)).2.1
  have kp105 : gI σ50 th 2 = gI σ49 th 2 := (cσ50.O (kth.up (xσ40.trans (xσ41.trans (xσ42.trans (xσ43.trans (xσ47.trans xσ49)))))) (by decide)).1
  have kp106 : gI σ50 th 3 = gI σ49 th 3 := (cσ50.O (kth.up (xσ40.trans (xσ41.trans (xσ42.trans (xσ43.trans (xσ47.trans xσ49)))))) (by decide)).1
  have kp107 : gI σ50 th 5 = gI σ49 th 5 := (cσ50.O (kth.up (xσ40.trans (xσ41.trans (xσ42.trans (xσ43.trans (xσ47.trans xσ49)))))) (by decide)).1
  have kp108 : gI σ50 J 2 = gI σ49 J 2 := (cσ50.O (kJ.up (xσ40.trans (xσ41.trans (xσ42.trans (xσ43.trans (xσ47.trans xσ49)))))) (by decide)).1
  have kp109 : gI σ50 o 6 = gI σ49 o 6 := (cσ50.O (ko.up (xσ40.trans (xσ41.trans (xσ42.trans (xσ43.trans (xσ47.trans xσ49)))))) (by decide)).1
  have kp110 : gI σ50 o 9 = gI σ49 o 9 := (cσ50.O (ko.up (xσ40.trans (xσ41.trans (xσ42.trans (xσ43.trans (xσ47.trans xσ49)))))) (by decide)).1
  refine i_X6_next iσ50 (kth.up (xσ40.trans (xσ41.trans (xσ42.trans (xσ43.trans (xσ47.trans (xσ49.trans xσ50))))))) (kp102.trans (kp85.trans (kp68.trans (kp52.trans (kp40.trans (kp27.trans (kp16.trans hX0))))))) (kX.up (xσ40.trans (xσ41.trans (xσ42.trans (xσ43.trans (xσ47.trans (xσ49.trans xσ50))))))) (((xσ40.trans (xσ41.trans (xσ42.trans (xσ43.trans (xσ47.trans (xσ49.trans xσ50)))))) tx kX.1).2.2.trans gX) (by (first | omega | with_reducible assumption | with_reducible exact rng_toInt _ | with_reducible exact rng_wr _ | (unfold rng; omega) | (unfold rng at *; omega) | assumption)) (by (first | omega | with_reducible assumption | with_reducible exact rng_toInt _ | with_reducible exact rng_wr _ | (unfold rng; omega) | (unfold rng at *; omega) | assumption)) (fun σ52 _ iσ52 cσ52 pσ52 => ?_) (fun σx LLx Nx nux E ix cx ux px => hX σx LLx Nx nux E ix (fσ50.tr (cx.mo (by decide))) (ux) (by first | exact px | exact ⟨by have := px.1; omega, px.2⟩ | (first | omega | with_reducible assumption | with_reducible exact rng_toInt _ | with_reducible exact rng_wr _ | (unfold rng; omega) | (unfold rng at *; omega) | assumption)))
  intro xσ52
  have fσ52 : Fx [323, 326, 327, 331, 332, 333, 386, 387, 388, 389, 390, 6464] gr σ σ52 := fσ50.tr (cσ52.mo (by decide))
  have oxcσ52 : OX o σ σ52 := oxcσ50.tr (OX.fx cσ52 (by decide) (by decide)) (xσ40.trans (xσ41.trans (xσ42.trans (xσ43.trans (xσ47.trans (xσ49.trans xσ50))))))
  have kp111 : gI σ52 J 1 = gI σ50 J 1 := (cσ52.O (kJ.up (xσ40.trans (xσ41.trans (xσ42.trans (xσ43.trans (xσ47.trans (xσ49.trans xσ50))))))) (by decide)).1
  have kp112 : gI σ52 J 7 = gI σ50 J 7 := (cσ52.O (kJ.up (xσ40.trans (xσ41.trans (xσ42.trans (xσ43.trans (xσ47.trans (xσ49.trans xσ50))))))) (by decide)).1
  have kp113 : gI σ52 o 13 = gI σ50 o 13 := (cσ52.O (ko.up (xσ40.trans (xσ41.trans (xσ42.trans (xσ43.trans (xσ47.trans (xσ49.trans xσ50))))))) (by decide)).1
  have kp114 : gI σ52 o 4 = gI σ50 o 4 := (cσ52.O (ko.up (xσ40.trans (xσ41.trans (xσ42.trans (xσ43.trans (xσ47.trans (xσ49.trans xσ50))))))) (by decide)).1
  have kp115 : gI σ52 o 7 = gI σ50 o 7 := (cσ52.O (ko.up (xσ40.trans (xσ41.trans (xσ42.trans (xσ43.trans (xσ47.trans (xσ49.trans xσ50))))))) (by decide)).1
  have kp116 : gI σ52 o 8 = gI σ50 o 8 := (cσ52.O (ko.up (xσ40.trans (xσ41.trans (xσ42.trans (xσ43.trans (xσ47.trans (xσ49.trans xσ50))))))) (by decide)).1
  have kp117 : gP σ52 J 0 = gP σ50 J 0 := (cσ52.O (kJ.up (xσ40.trans (xσ41.trans (xσ42.trans (xσ43.trans (xσ47.trans (xσ49.trans xσ50))))))) (by decide)).2.1
  have kp118 : gP σ52 b (gI σ43 o 7).toNat = gP σ50 b (gI σ43 o 7).toNat := (cσ52.A (mb.up (xσ47.trans (xσ49.trans xσ50))) (by decide)).2.1
  have kp119 : gP σ52 th 0 = gP σ50 th 0 := (cσ52.O (kth.up (xσ40.trans (xσ41.trans (xσ42.trans (xσ43.trans (xσ47.trans (xσ49.trans xσ50))))))) (by decide)).2.1
  have kp120 : gP σ52 th 7 = gP σ50 th 7 := (cσ52.O (kth.up (xσ40.trans (xσ41.trans (xσ42.trans (xσ43.trans (xσ47.trans (xσ49.trans xσ50))))))) (by decide)).2.1
  have kp121 : gP σ52 th 8 = gP σ50 th 8 := (cσ52.O (kth.up (xσ40.trans (xσ41.trans (xσ42.trans (xσ43.trans (xσ47.trans (xσ49.trans xσ50))))))) (by decide)).2.1
  have kp122 : gI σ52 J 2 = gI σ50 J 2 := (cσ52.O (kJ.up (xσ40.trans (xσ41.trans (xσ42.trans (xσ43.trans (xσ47.trans (xσ49.trans xσ50))))))) (by decide)).1
  have kp123 : gI σ52 o 3 = gI σ50 o 3 := (cσ52.O (ko.up (xσ40.trans (xσ41.trans (xσ42.trans (xσ43.trans (xσ47.trans (xσ49.trans xσ50))))))) (by decide)).1
  have kp124 : gI σ52 o 6 = gI σ50 o 6 := (cσ52.O (ko.up (xσ40.trans (xσ41.trans (xσ42.trans (xσ43.trans (xσ47.trans (xσ49.trans xσ50))))))) (by decide)).1
  have kp125 : gI σ52 o 9 = gI σ50 o 9 := (cσ52.O (ko.up (xσ40.trans (xσ41.trans (xσ42.trans (xσ43.trans (xσ47.trans (xσ49.trans xσ50))))))) (by decide)).1
  have r5σ52 := I_6_5 iσ52.1 (kth.up (xσ40.trans (xσ41.trans (xσ42.trans (xσ43.trans (xσ47.trans (xσ49.trans (xσ50.trans xσ52))))))))
  refine i_X6_isWord iσ52 (kth.up (xσ40.trans (xσ41.trans (xσ42.trans (xσ43.trans (xσ47.trans (xσ49.trans (xσ50.trans xσ52)))))))) (fun r54 pσ53 => ?_)
  intro xσ53
  by_cases hc126 : r54 = 0
  · rw [if_pos hc126]
    unfold w_X6_foldText_103
    refine i_X6_wantWord iσ52 (kth.up (xσ40.trans (xσ41.trans (xσ42.trans (xσ43.trans (xσ47.trans (xσ49.trans (xσ50.trans xσ52)))))))) (kp119.trans (kp102.trans (kp85.trans (kp68.trans (kp52.trans (kp40.trans (kp27.trans (kp16.trans hX0)))))))) (kX.up (xσ40.trans (xσ41.trans (xσ42.trans (xσ43.trans (xσ47.trans (xσ49.trans (xσ50.trans xσ52)))))))) (((xσ40.trans (xσ41.trans (xσ42.trans (xσ43.trans (xσ47.trans (xσ49.trans (xσ50.trans xσ52))))))) tx kX.1).2.2.trans gX) (by (first | omega | with_reducible assumption | with_reducible exact rng_toInt _ | with_reducible exact rng_wr _ | (unfold rng; omega) | (unfold rng at *; omega) | assumption)) (by (first | omega | with_reducible assumption | with_reducible exact rng_toInt _ | with_reducible exact rng_wr _ | (unfold rng; omega) | (unfold rng at *; omega) | assumption)) (fun σ64 _ iσ64 cσ64 pσ64 => ?_) (fun σx LLx Nx nux E ix cx ux px => hX σx LLx Nx nux E ix (fσ52.tr (cx.mo (by decide))) (ux) (by first | exact px | exact ⟨by have := px.1; omega, px.2⟩ | (first | omega | with_reducible assumption | with_reducible exact rng_toInt _ | with_reducible exact rng_wr _ | (unfold rng; omega) | (unfold rng at *; omega) | assumption)))
    intro xσ64
    have fσ64 : Fx [323, 326, 327, 331, 332, 333, 386, 387, 388, 389, 390, 6464] gr σ σ64 := fσ52.tr (cσ64.mo (by decide))
    have oxcσ64 : OX o σ σ64 := oxcσ52.tr (OX.fx cσ64 (by decide) (by decide)) (xσ40.trans (xσ41.trans (xσ42.trans (xσ43.trans (xσ47.trans (xσ49.trans (xσ50.trans xσ52)))))))
    have kp127 : gI σ64 J 1 = gI σ52 J 1 := (cσ64.O (kJ.up (xσ40.trans (xσ41.trans (xσ42.trans (xσ43.trans (xσ47.trans (xσ49.trans (xσ50.trans xσ52)))))))) (by decide)).1
    have kp128 : gI σ64 J 7 = gI σ52 J 7 := (cσ64.O (kJ.up (xσ40.trans (xσ41.trans (xσ42.trans (xσ43.trans (xσ47.trans (xσ49.trans (xσ50.trans xσ52)))))))) (by decide)).1
    have kp129 : gI σ64 o 13 = gI σ52 o 13 := (cσ64.O (ko.up (xσ40.trans (xσ41.trans (xσ42.trans (xσ43.trans (xσ47.trans (xσ49.trans (xσ50.trans xσ52)))))))) (by decide)).1
    have kp130 : gI σ64 o 4 = gI σ52 o 4 := (cσ64.O (ko.up (xσ40.trans (xσ41.trans (xσ42.trans (xσ43.trans (xσ47.trans (xσ49.trans (xσ50.trans xσ52)))))))) (by decide)).1
    have kp131 : gI σ64 o 7 = gI σ52 o 7 := (cσ64.O (ko.up (xσ40.trans (xσ41.trans (xσ42.trans (xσ43.trans (xσ47.trans (xσ49.trans (xσ50.trans xσ52)))))))) (by decide)).1
    have kp132 : gI σ64 o 8 = gI σ52 o 8 := (cσ64.O (ko.up (xσ40.trans (xσ41.trans (xσ42.trans (xσ43.trans (xσ47.trans (xσ49.trans (xσ50.trans xσ52)))))))) (by decide)).1
    have kp133 : gP σ64 J 0 = gP σ52 J 0 := (cσ64.O (kJ.up (xσ40.trans (xσ41.trans (xσ42.trans (xσ43.trans (xσ47.trans (xσ49.trans (xσ50.trans xσ52)))))))) (by decide)).2.1
    have kp134 : gP σ64 b (gI σ43 o 7).toNat = gP σ52 b (gI σ43 o 7).toNat := (cσ64.A (mb.up (xσ47.trans (xσ49.trans (xσ50.trans xσ52)))) (by decide)).2.1
    have kp135 : gP σ64 th 0 = gP σ52 th 0 := (cσ64.O (kth.up (xσ40.trans (xσ41.trans (xσ42.trans (xσ43.trans (xσ47.trans (xσ49.trans (xσ50.trans xσ52)))))))) (by decide)).2.1
    have kp136 : gP σ64 th 7 = gP σ52 th 7 := (cσ64.O (kth.up (xσ40.trans (xσ41.trans (xσ42.trans (xσ43.trans (xσ47.trans (xσ49.trans (xσ50.trans xσ52)))))))) (by decide)).2.1
    have kp137 : gP σ64 th 8 = gP σ52 th 8 := (cσ64.O (kth.up (xσ40.trans (xσ41.trans (xσ42.trans (xσ43.trans (xσ47.trans (xσ49.trans (xσ50.trans xσ52)))))))) (by decide)).2.1
    have kp138 : gI σ64 J 2 = gI σ52 J 2 := (cσ64.O (kJ.up (xσ40.trans (xσ41.trans (xσ42.trans (xσ43.trans (xσ47.trans (xσ49.trans (xσ50.trans xσ52)))))))) (by decide)).1
    have kp139 : gI σ64 o 3 = gI σ52 o 3 := (cσ64.O (ko.up (xσ40.trans (xσ41.trans (xσ42.trans (xσ43.trans (xσ47.trans (xσ49.trans (xσ50.trans xσ52)))))))) (by decide)).1
    have kp140 : gI σ64 o 6 = gI σ52 o 6 := (cσ64.O (ko.up (xσ40.trans (xσ41.trans (xσ42.trans (xσ43.trans (xσ47.trans (xσ49.trans (xσ50.trans xσ52)))))))) (by decide)).1
    have kp141 : gI σ64 o 9 = gI σ52 o 9 := (cσ64.O (ko.up (xσ40.trans (xσ41.trans (xσ42.trans (xσ43.trans (xσ47.trans (xσ49.trans (xσ50.trans xσ52)))))))) (by decide)).1
    have r5σ64 := I_6_5 iσ64.1 (kth.up (xσ40.trans (xσ41.trans (xσ42.trans (xσ43.trans (xσ47.trans (xσ49.trans (xσ50.trans (xσ52.trans xσ64)))))))))
    refine i_X6_number iσ64 (kth.up (xσ40.trans (xσ41.trans (xσ42.trans (xσ43.trans (xσ47.trans (xσ49.trans (xσ50.trans (xσ52.trans xσ64))))))))) (by (first | omega | with_reducible assumption | with_reducible exact rng_toInt _ | with_reducible exact rng_wr _ | (unfold rng; omega) | (unfold rng at *; omega) | assumption)) (by (first | omega | with_reducible assumption | with_reducible exact rng_toInt _ | with_reducible exact rng_wr _ | (unfold rng; omega) | (unfold rng at *; omega) | assumption)) (fun σ65 r66 iσ65 cσ65 pσ65 => ?_) (fun σx LLx Nx nux E ix cx ux px => hX σx LLx Nx nux E ix (fσ64.tr (cx.mo (by decide))) (ux) (by first | exact px | exact ⟨by have := px.1; omega, px.2⟩ | (first | omega | with_reducible assumption | with_reducible exact rng_toInt _ | with_reducible exact rng_wr _ | (unfold rng; omega) | (unfold rng at *; omega) | assumption)))
    intro xσ65
    have fσ65 : Fx [323, 326, 327, 331, 332, 333, 386, 387, 388, 389, 390, 6464] gr σ σ65 := fσ64.tr (cσ65.mo (by decide))
    have oxcσ65 : OX o σ σ65 := oxcσ64.tr (OX.fx cσ65 (by decide) (by decide)) (xσ40.trans (xσ41.trans (xσ42.trans (xσ43.trans (xσ47.trans (xσ49.trans (xσ50.trans (xσ52.trans xσ64))))))))
    have kp142 : gI σ65 J 1 = gI σ64 J 1 := (cσ65.O (kJ.up (xσ40.trans (xσ41.trans (xσ42.trans (xσ43.trans (xσ47.trans (xσ49.trans (xσ50.trans (xσ52.trans xσ64))))))))) (by decide)).1
    have kp143 : gI σ65 J 7 = gI σ64 J 7 := (cσ65.O (kJ.up (xσ40.trans (xσ41.trans (xσ42.trans (xσ43.trans (xσ47.trans (xσ49.trans (xσ50.trans (xσ52.trans xσ64))))))))) (by decide)).1
    have kp144 : gI σ65 o 13 = gI σ64 o 13 := (cσ65.O (ko.up (xσ40.trans (xσ41.trans (xσ42.trans (xσ43.trans (xσ47.trans (xσ49.trans (xσ50.trans (xσ52.trans xσ64))))))))) (by decide)).1
    have kp145 : gI σ65 o 4 = gI σ64 o 4 := (cσ65.O (ko.up (xσ40.trans (xσ41.trans (xσ42.trans (xσ43.trans (xσ47.trans (xσ49.trans (xσ50.trans (xσ52.trans xσ64))))))))) (by decide)).1
    have kp146 : gI σ65 o 7 = gI σ64 o 7 := (cσ65.O (ko.up (xσ40.trans (xσ41.trans (xσ42.trans (xσ43.trans (xσ47.trans (xσ49.trans (xσ50.trans (xσ52.trans xσ64))))))))) (by decide)).1
    have kp147 : gI σ65 o 8 = gI σ64 o 8 := (cσ65.O (ko.up (xσ40.trans (xσ41.trans (xσ42.trans (xσ43.trans (xσ47.trans (xσ49.trans (xσ50.trans (xσ52.trans xσ64))))))))) (by decide)).1
    have kp148 : gP σ65 J 0 = gP σ64 J 0 := (cσ65.O (kJ.up (xσ40.trans (xσ41.trans (xσ42.trans (xσ43.trans (xσ47.trans (xσ49.trans (xσ50.trans (xσ52.trans xσ64))))))))) (by decide)).2.1
    have kp149 : gP σ65 b (gI σ43 o 7).toNat = gP σ64 b (gI σ43 o 7).toNat := (cσ65.A (mb.up (xσ47.trans (xσ49.trans (xσ50.trans (xσ52.trans xσ64))))) (by decide)).2.1
    have kp150 : gP σ65 th 0 = gP σ64 th 0 := (cσ65.O (kth.up (xσ40.trans (xσ41.trans (xσ42.trans (xσ43.trans (xσ47.trans (xσ49.trans (xσ50.trans (xσ52.trans xσ64))))))))) (by decide)).2.1
    have kp151 : gP σ65 th 7 = gP σ64 th 7 := (cσ65.O (kth.up (xσ40.trans (xσ41.trans (xσ42.trans (xσ43.trans (xσ47.trans (xσ49.trans (xσ50.trans (xσ52.trans xσ64))))))))) (by decide)).2.1
    have kp152 : gP σ65 th 8 = gP σ64 th 8 := (cσ65.O (kth.up (xσ40.trans (xσ41.trans (xσ42.trans (xσ43.trans (xσ47.trans (xσ49.trans (xσ50.trans (xσ52.trans xσ64))))))))) (by decide)).2.1
    have kp153 : gI σ65 th 2 = gI σ64 th 2 := (cσ65.O (kth.up (xσ40.trans (xσ41.trans (xσ42.trans (xσ43.trans (xσ47.trans (xσ49.trans (xσ50.trans (xσ52.trans xσ64))))))))) (by decide)).1
    have kp154 : gI σ65 th 3 = gI σ64 th 3 := (cσ65.O (kth.up (xσ40.trans (xσ41.trans (xσ42.trans (xσ43.trans (xσ47.trans (xσ49.trans (xσ50.trans (xσ52.trans xσ64))))))))) (by decide)).1
    have kp155 : gI σ65 th 5 = gI σ64 th 5 := (cσ65.O (kth.up (xσ40.trans (xσ41.trans (xσ42.trans (xσ43.trans (xσ47.trans (xσ49.trans (xσ50.trans (xσ52.trans xσ64))))))))) (by decide)).1
    have kp156 : gI σ65 J 2 = gI σ64 J 2 := (cσ65.O (kJ.up (xσ40.trans (xσ41.trans (xσ42.trans (xσ43.trans (xσ47.trans (xσ49.trans (xσ50.trans (xσ52.trans xσ64))))))))) (by decide)).1
    have kp157 : gI σ65 o 3 = gI σ64 o 3 := (cσ65.O (ko.up (xσ40.trans (xσ41.trans (xσ42.trans (xσ43.trans (xσ47.trans (xσ49.trans (xσ50.trans (xσ52.trans xσ64))))))))) (by decide)).1
    have kp158 : gI σ65 o 6 = gI σ64 o 6 := (cσ65.O (ko.up (xσ40.trans (xσ41.trans (xσ42.trans (xσ43.trans (xσ47.trans (xσ49.trans (xσ50.trans (xσ52.trans xσ64))))))))) (by decide)).1
    have kp159 : gI σ65 o 9 = gI σ64 o 9 := (cσ65.O (ko.up (xσ40.trans (xσ41.trans (xσ42.trans (xσ43.trans (xσ47.trans (xσ49.trans (xσ50.trans (xσ52.trans xσ64))))))))) (by decide)).1
    refine ⟨o, (kp137.trans (kp121.trans (kp104.trans (kp87.trans (kp70.trans (kp54.trans (kp42.trans (kp29.trans (kp18.trans h8))))))))), fun kk_o_2 => ?_⟩
    intro σ68 eσ68
    have xσ68 : Ext σ65 σ68 := by rw [eσ68]; exact fun _ h => ⟨h, rfl, rfl⟩
    have iσ68 : IV σ68 pl gq ci gr nc ot LL N nu := by rw [eσ68]; exact iσ65.wSp (ko.up (xσ40.trans (xσ41.trans (xσ42.trans (xσ43.trans (xσ47.trans (xσ49.trans (xσ50.trans (xσ52.trans (xσ64.trans xσ65)))))))))) (fun i hi => by omega) (by decide) (show (1 : Int) ≤ r66 ∧ r66 ≤ 1000 from ⟨by omega, by omega⟩)
    have fσ68 : Fx [323, 326, 327, 331, 332, 333, 386, 387, 388, 389, 390, 6464] gr σ σ68 := fσ65.tr (Sk.fx (by rw [eσ68]; exact Sk.pI (by rw [fcdO (ko.up (xσ40.trans (xσ41.trans (xσ42.trans (xσ43.trans (xσ47.trans (xσ49.trans (xσ50.trans (xσ52.trans (xσ64.trans xσ65)))))))))) (by decide)]; decide)))
    have oxcσ68 : OX o σ σ68 := oxcσ65.tr (by rw [eσ68]; exact OX.pI (ko.up (xσ40.trans (xσ41.trans (xσ42.trans (xσ43.trans (xσ47.trans (xσ49.trans (xσ50.trans (xσ52.trans (xσ64.trans xσ65)))))))))) (Or.inr rfl)) (xσ40.trans (xσ41.trans (xσ42.trans (xσ43.trans (xσ47.trans (xσ49.trans (xσ50.trans (xσ52.trans (xσ64.trans xσ65)))))))))
    have wσ68 : gI σ68 o 11 = r66 := by rw [eσ68]; exact up2_s _ _ _ _
    have kp160 : gI σ68 J 1 = gI σ65 J 1 := by rw [eσ68]; exact up2_n _ _ (fun q => absurd q.2 (by decide))
    have kp161 : gI σ68 J 7 = gI σ65 J 7 := by rw [eσ68]; exact up2_n _ _ (fun q => absurd q.2 (by decide))
    have kp162 : gI σ68 o 13 = gI σ65 o 13 := by rw [eσ68]; exact up2_n _ _ (fun q => absurd q.2 (by decide))
    have kp163 : gI σ68 o 4 = gI σ65 o 4 := by rw [eσ68]; exact up2_n _ _ (fun q => absurd q.2 (by decide))
    have kp164 : gI σ68 o 7 = gI σ65 o 7 := by rw [eσ68]; exact up2_n _ _ (fun q => absurd q.2 (by decide))
    have kp165 : gI σ68 o 8 = gI σ65 o 8 := by rw [eσ68]; exact up2_n _ _ (fun q => absurd q.2 (by decide))
    have kp166 : gP σ68 J 0 = gP σ65 J 0 := by rw [eσ68]
    have kp167 : gP σ68 b (gI σ43 o 7).toNat = gP σ65 b (gI σ43 o 7).toNat := by rw [eσ68]
    have kp168 : gP σ68 th 0 = gP σ65 th 0 := by rw [eσ68]
    have kp169 : gP σ68 th 7 = gP σ65 th 7 := by rw [eσ68]
    have kp170 : gP σ68 th 8 = gP σ65 th 8 := by rw [eσ68]
    have kp171 : gI σ68 th 2 = gI σ65 th 2 := by rw [eσ68]; exact up2_n _ _ (fun q => absurd q.2 (by decide))
    have kp172 : gI σ68 th 3 = gI σ65 th 3 := by rw [eσ68]; exact up2_n _ _ (fun q => absurd q.2 (by decide))
    have kp173 : gI σ68 th 5 = gI σ65 th 5 := by rw [eσ68]; exact up2_n _ _ (fun q => absurd q.2 (by decide))
    have kp174 : gI σ68 J 2 = gI σ65 J 2 := by rw [eσ68]; exact up2_n _ _ (fun q => absurd q.2 (by decide))
    have kp175 : gI σ68 o 3 = gI σ65 o 3 := by rw [eσ68]; exact up2_n _ _ (fun q => absurd q.2 (by decide))
    have kp176 : gI σ68 o 6 = gI σ65 o 6 := by rw [eσ68]; exact up2_n _ _ (fun q => absurd q.2 (by decide))
    have kp177 : gI σ68 o 9 = gI σ65 o 9 := by rw [eσ68]; exact up2_n _ _ (fun q => absurd q.2 (by decide))
    refine i_X6_next iσ68 (kth.up (xσ40.trans (xσ41.trans (xσ42.trans (xσ43.trans (xσ47.trans (xσ49.trans (xσ50.trans (xσ52.trans (xσ64.trans (xσ65.trans xσ68))))))))))) (kp168.trans (kp150.trans (kp135.trans (kp119.trans (kp102.trans (kp85.trans (kp68.trans (kp52.trans (kp40.trans (kp27.trans (kp16.trans hX0))))))))))) (kX.up (xσ40.trans (xσ41.trans (xσ42.trans (xσ43.trans (xσ47.trans (xσ49.trans (xσ50.trans (xσ52.trans (xσ64.trans (xσ65.trans xσ68))))))))))) (((xσ40.trans (xσ41.trans (xσ42.trans (xσ43.trans (xσ47.trans (xσ49.trans (xσ50.trans (xσ52.trans (xσ64.trans (xσ65.trans xσ68)))))))))) tx kX.1).2.2.trans gX) (by (first | omega | with_reducible assumption | with_reducible exact rng_toInt _ | with_reducible exact rng_wr _ | (unfold rng; omega) | (unfold rng at *; omega) | assumption)) (by (first | omega | with_reducible assumption | with_reducible exact rng_toInt _ | with_reducible exact rng_wr _ | (unfold rng; omega) | (unfold rng at *; omega) | assumption)) (fun σ69 _ iσ69 cσ69 pσ69 => ?_) (fun σx LLx Nx nux E ix cx ux px => hX σx LLx Nx nux E ix (fσ68.tr (cx.mo (by decide))) (ux) (by first | exact px | exact ⟨by have := px.1; omega, px.2⟩ | (first | omega | with_reducible assumption | with_reducible exact rng_toInt _ | with_reducible exact rng_wr _ | (unfold rng; omega) | (unfold rng at *; omega) | assumption)))
    intro xσ69
    have fσ69 : Fx [323, 326, 327, 331, 332, 333, 386, 387, 388, 389, 390, 6464] gr σ σ69 := fσ68.tr (cσ69.mo (by decide))
    have oxcσ69 : OX o σ σ69 := oxcσ68.tr (OX.fx cσ69 (by decide) (by decide)) (xσ40.trans (xσ41.trans (xσ42.trans (xσ43.trans (xσ47.trans (xσ49.trans (xσ50.trans (xσ52.trans (xσ64.trans (xσ65.trans xσ68))))))))))
    have kp178 : gI σ69 J 1 = gI σ68 J 1 := (cσ69.O (kJ.up (xσ40.trans (xσ41.trans (xσ42.trans (xσ43.trans (xσ47.trans (xσ49.trans (xσ50.trans (xσ52.trans (xσ64.trans (xσ65.trans xσ68))))))))))) (by decide)).1
    have kp179 : gI σ69 J 7 = gI σ68 J 7 := (cσ69.O (kJ.up (xσ40.trans (xσ41.trans (xσ42.trans (xσ43.trans (xσ47.trans (xσ49.trans (xσ50.trans (xσ52.trans (xσ64.trans (xσ65.trans xσ68))))))))))) (by decide)).1
    have kp180 : gI σ69 o 11 = gI σ68 o 11 := (cσ69.O (ko.up (xσ40.trans (xσ41.trans (xσ42.trans (xσ43.trans (xσ47.trans (xσ49.trans (xσ50.trans (xσ52.trans (xσ64.trans (xσ65.trans xσ68))))))))))) (by decide)).1
    have kp181 : gI σ69 o 13 = gI σ68 o 13 := (cσ69.O (ko.up (xσ40.trans (xσ41.trans (xσ42.trans (xσ43.trans (xσ47.trans (xσ49.trans (xσ50.trans (xσ52.trans (xσ64.trans (xσ65.trans xσ68))))))))))) (by decide)).1
    have kp182 : gI σ69 o 4 = gI σ68 o 4 := (cσ69.O (ko.up (xσ40.trans (xσ41.trans (xσ42.trans (xσ43.trans (xσ47.trans (xσ49.trans (xσ50.trans (xσ52.trans (xσ64.trans (xσ65.trans xσ68))))))))))) (by decide)).1
    have kp183 : gI σ69 o 7 = gI σ68 o 7 := (cσ69.O (ko.up (xσ40.trans (xσ41.trans (xσ42.trans (xσ43.trans (xσ47.trans (xσ49.trans (xσ50.trans (xσ52.trans (xσ64.trans (xσ65.trans xσ68))))))))))) (by decide)).1
    have kp184 : gI σ69 o 8 = gI σ68 o 8 := (cσ69.O (ko.up (xσ40.trans (xσ41.trans (xσ42.trans (xσ43.trans (xσ47.trans (xσ49.trans (xσ50.trans (xσ52.trans (xσ64.trans (xσ65.trans xσ68))))))))))) (by decide)).1
    have kp185 : gP σ69 J 0 = gP σ68 J 0 := (cσ69.O (kJ.up (xσ40.trans (xσ41.trans (xσ42.trans (xσ43.trans (xσ47.trans (xσ49.trans (xσ50.trans (xσ52.trans (xσ64.trans (xσ65.trans xσ68))))))))))) (by decide)).2.1
    have kp186 : gP σ69 b (gI σ43 o 7).toNat = gP σ68 b (gI σ43 o 7).toNat := (cσ69.A (mb.up (xσ47.trans (xσ49.trans (xσ50.trans (xσ52.trans (xσ64.trans (xσ65.trans xσ68))))))) (by decide)).2.1
    have kp187 : gP σ69 th 0 = gP σ68 th 0 := (cσ69.O (kth.up (xσ40.trans (xσ41.trans (xσ42.trans (xσ43.trans (xσ47.trans (xσ49.trans (xσ50.trans (xσ52.trans (xσ64.trans (xσ65.trans xσ68))))))))))) (by decide)).2.1
    have kp188 : gP σ69 th 7 = gP σ68 th 7 := (cσ69.O (kth.up (xσ40.trans (xσ41.trans (xσ42.trans (xσ43.trans (xσ47.trans (xσ49.trans (xσ50.trans (xσ52.trans (xσ64.trans (xσ65.trans xσ68))))))))))) (by decide)).2.1
    have kp189 : gP σ69 th 8 = gP σ68 th 8 := (cσ69.O (kth.up (xσ40.trans (xσ41.trans (xσ42.trans (xσ43.trans (xσ47.trans (xσ49.trans (xσ50.trans (xσ52.trans (xσ64.trans (xσ65.trans xσ68))))))))))) (by decide)).2.1
    have kp190 : gI σ69 J 2 = gI σ68 J 2 := (cσ69.O (kJ.up (xσ40.trans (xσ41.trans (xσ42.trans (xσ43.trans (xσ47.trans (xσ49.trans (xσ50.trans (xσ52.trans (xσ64.trans (xσ65.trans xσ68))))))))))) (by decide)).1
    have kp191 : gI σ69 o 3 = gI σ68 o 3 := (cσ69.O (ko.up (xσ40.trans (xσ41.trans (xσ42.trans (xσ43.trans (xσ47.trans (xσ49.trans (xσ50.trans (xσ52.trans (xσ64.trans (xσ65.trans xσ68))))))))))) (by decide)).1
    have kp192 : gI σ69 o 6 = gI σ68 o 6 := (cσ69.O (ko.up (xσ40.trans (xσ41.trans (xσ42.trans (xσ43.trans (xσ47.trans (xσ49.trans (xσ50.trans (xσ52.trans (xσ64.trans (xσ65.trans xσ68))))))))))) (by decide)).1
    have kp193 : gI σ69 o 9 = gI σ68 o 9 := (cσ69.O (ko.up (xσ40.trans (xσ41.trans (xσ42.trans (xσ43.trans (xσ47.trans (xσ49.trans (xσ50.trans (xσ52.trans (xσ64.trans (xσ65.trans xσ68))))))))))) (by decide)).1
    have r5σ69 := I_6_5 iσ69.1 (kth.up (xσ40.trans (xσ41.trans (xσ42.trans (xσ43.trans (xσ47.trans (xσ49.trans (xσ50.trans (xσ52.trans (xσ64.trans (xσ65.trans (xσ68.trans xσ69))))))))))))
    refine i_X6_wantWord iσ69 (kth.up (xσ40.trans (xσ41.trans (xσ42.trans (xσ43.trans (xσ47.trans (xσ49.trans (xσ50.trans (xσ52.trans (xσ64.trans (xσ65.trans (xσ68.trans xσ69)))))))))))) (kp187.trans (kp168.trans (kp150.trans (kp135.trans (kp119.trans (kp102.trans (kp85.trans (kp68.trans (kp52.trans (kp40.trans (kp27.trans (kp16.trans hX0)))))))))))) (kX.up (xσ40.trans (xσ41.trans (xσ42.trans (xσ43.trans (xσ47.trans (xσ49.trans (xσ50.trans (xσ52.trans (xσ64.trans (xσ65.trans (xσ68.trans xσ69)))))))))))) (((xσ40.trans (xσ41.trans (xσ42.trans (xσ43.trans (xσ47.trans (xσ49.trans (xσ50.trans (xσ52.trans (xσ64.trans (xσ65.trans (xσ68.trans xσ69))))))))))) tx kX.1).2.2.trans gX) (by (first | omega | with_reducible assumption | with_reducible exact rng_toInt _ | with_reducible exact rng_wr _ | (unfold rng; omega) | (unfold rng at *; omega) | assumption)) (by (first | omega | with_reducible assumption | with_reducible exact rng_toInt _ | with_reducible exact rng_wr _ | (unfold rng; omega) | (unfold rng at *; omega) | assumption)) (fun σ70 _ iσ70 cσ70 pσ70 => ?_) (fun σx LLx Nx nux E ix cx ux px => hX σx LLx Nx nux E ix (fσ69.tr (cx.mo (by decide))) (ux) (by first | exact px | exact ⟨by have := px.1; omega, px.2⟩ | (first | omega | with_reducible assumption | with_reducible exact rng_toInt _ | with_reducible exact rng_wr _ | (unfold rng; omega) | (unfold rng at *; omega) | assumption)))
    intro xσ70
    have fσ70 : Fx [323, 326, 327, 331, 332, 333, 386, 387, 388, 389, 390, 6464] gr σ σ70 := fσ69.tr (cσ70.mo (by decide))
    have oxcσ70 : OX o σ σ70 := oxcσ69.tr (OX.fx cσ70 (by decide) (by decide)) (xσ40.trans (xσ41.trans (xσ42.trans (xσ43.trans (xσ47.trans (xσ49.trans (xσ50.trans (xσ52.trans (xσ64.trans (xσ65.trans (xσ68.trans xσ69)))))))))))
    have kp194 : gI σ70 J 1 = gI σ69 J 1 := (cσ70.O (kJ.up (xσ40.trans (xσ41.trans (xσ42.trans (xσ43.trans (xσ47.trans (xσ49.trans (xσ50.trans (xσ52.trans (xσ64.trans (xσ65.trans (xσ68.trans xσ69)))))))))))) (by decide)).1
    have kp195 : gI σ70 J 7 = gI σ69 J 7 := (cσ70.O (kJ.up (xσ40.trans (xσ41.trans (xσ42.trans (xσ43.trans (xσ47.trans (xσ49.trans (xσ50.trans (xσ52.trans (xσ64.trans (xσ65.trans (xσ68.trans xσ69)))))))))))) (by decide)).1
    have kp196 : gI σ70 o 11 = gI σ69 o 11 := (cσ70.O (ko.up (xσ40.trans (xσ41.trans (xσ42.trans (xσ43.trans (xσ47.trans (xσ49.trans (xσ50.trans (xσ52.trans (xσ64.trans (xσ65.trans (xσ68.trans xσ69)))))))))))) (by decide)).1
    have kp197 : gI σ70 o 13 = gI σ69 o 13 := (cσ70.O (ko.up (xσ40.trans (xσ41.trans (xσ42.trans (xσ43.trans (xσ47.trans (xσ49.trans (xσ50.trans (xσ52.trans (xσ64.trans (xσ65.trans (xσ68.trans xσ69)))))))))))) (by decide)).1
    have kp198 : gI σ70 o 4 = gI σ69 o 4 := (cσ70.O (ko.up (xσ40.trans (xσ41.trans (xσ42.trans (xσ43.trans (xσ47.trans (xσ49.trans (xσ50.trans (xσ52.trans (xσ64.trans (xσ65.trans (xσ68.trans xσ69)))))))))))) (by decide)).1
    have kp199 : gI σ70 o 7 = gI σ69 o 7 := (cσ70.O (ko.up (xσ40.trans (xσ41.trans (xσ42.trans (xσ43.trans (xσ47.trans (xσ49.trans (xσ50.trans (xσ52.trans (xσ64.trans (xσ65.trans (xσ68.trans xσ69)))))))))))) (by decide)).1
    have kp200 : gI σ70 o 8 = gI σ69 o 8 := (cσ70.O (ko.up (xσ40.trans (xσ41.trans (xσ42.trans (xσ43.trans (xσ47.trans (xσ49.trans (xσ50.trans (xσ52.trans (xσ64.trans (xσ65.trans (xσ68.trans xσ69)))))))))))) (by decide)).1
    have kp201 : gP σ70 J 0 = gP σ69 J 0 := (cσ70.O (kJ.up (xσ40.trans (xσ41.trans (xσ42.trans (xσ43.trans (xσ47.trans (xσ49.trans (xσ50.trans (xσ52.trans (xσ64.trans (xσ65.trans (xσ68.trans xσ69)))))))))))) (by decide)).2.1
    have kp202 : gP σ70 b (gI σ43 o 7).toNat = gP σ69 b (gI σ43 o 7).toNat := (cσ70.A (mb.up (xσ47.trans (xσ49.trans (xσ50.trans (xσ52.trans (xσ64.trans (xσ65.trans (xσ68.trans xσ69)))))))) (by decide)).2.1
    have kp203 : gP σ70 th 0 = gP σ69 th 0 := (cσ70.O (kth.up (xσ40.trans (xσ41.trans (xσ42.trans (xσ43.trans (xσ47.trans (xσ49.trans (xσ50.trans (xσ52.trans (xσ64.trans (xσ65.trans (xσ68.trans xσ69)))))))))))) (by decide)).2.1
    have kp204 : gP σ70 th 7 = gP σ69 th 7 := (cσ70.O (kth.up (xσ40.trans (xσ41.trans (xσ42.trans (xσ43.trans (xσ47.trans (xσ49.trans (xσ50.trans (xσ52.trans (xσ64.trans (xσ65.trans (xσ68.trans xσ69)))))))))))) (by decide)).2.1
    have kp205 : gP σ70 th 8 = gP σ69 th 8 := (cσ70.O (kth.up (xσ40.trans (xσ41.trans (xσ42.trans (xσ43.trans (xσ47.trans (xσ49.trans (xσ50.trans (xσ52.trans (xσ64.trans (xσ65.trans (xσ68.trans xσ69)))))))))))) (by decide)).2.1
    have kp206 : gI σ70 J 2 = gI σ69 J 2 := (cσ70.O (kJ.up (xσ40.trans (xσ41.trans (xσ42.trans (xσ43.trans (xσ47.trans (xσ49.trans (xσ50.trans (xσ52.trans (xσ64.trans (xσ65.trans (xσ68.trans xσ69)))))))))))) (by decide)).1
    have kp207 : gI σ70 o 3 = gI σ69 o 3 := (cσ70.O (ko.up (xσ40.trans (xσ41.trans (xσ42.trans (xσ43.trans (xσ47.trans (xσ49.trans (xσ50.trans (xσ52.trans (xσ64.trans (xσ65.trans (xσ68.trans xσ69)))))))))))) (by decide)).1
    have kp208 : gI σ70 o 6 = gI σ69 o 6 := (cσ70.O (ko.up (xσ40.trans (xσ41.trans (xσ42.trans (xσ43.trans (xσ47.trans (xσ49.trans (xσ50.trans (xσ52.trans (xσ64.trans (xσ65.trans (xσ68.trans xσ69)))))))))))) (by decide)).1
    have kp209 : gI σ70 o 9 = gI σ69 o 9 := (cσ70.O (ko.up (xσ40.trans (xσ41.trans (xσ42.trans (xσ43.trans (xσ47.trans (xσ49.trans (xσ50.trans (xσ52.trans (xσ64.trans (xσ65.trans (xσ68.trans xσ69)))))))))))) (by decide)).1
    have r5σ70 := I_6_5 iσ70.1 (kth.up (xσ40.trans (xσ41.trans (xσ42.trans (xσ43.trans (xσ47.trans (xσ49.trans (xσ50.trans (xσ52.trans (xσ64.trans (xσ65.trans (xσ68.trans (xσ69.trans xσ70)))))))))))))
    refine i_X6_number iσ70 (kth.up (xσ40.trans (xσ41.trans (xσ42.trans (xσ43.trans (xσ47.trans (xσ49.trans (xσ50.trans (xσ52.trans (xσ64.trans (xσ65.trans (xσ68.trans (xσ69.trans xσ70))))))))))))) (by (first | omega | with_reducible assumption | with_reducible exact rng_toInt _ | with_reducible exact rng_wr _ | (unfold rng; omega) | (unfold rng at *; omega) | assumption)) (by (first | omega | with_reducible assumption | with_reducible exact rng_toInt _ | with_reducible exact rng_wr _ | (unfold rng; omega) | (unfold rng at *; omega) | assumption)) (fun σ71 r72 iσ71 cσ71 pσ71 => ?_) (fun σx LLx Nx nux E ix cx ux px => hX σx LLx Nx nux E ix (fσ70.tr (cx.mo (by decide))) (ux) (by first | exact px | exact ⟨by have := px.1; omega, px.2⟩ | (first | omega | with_reducible assumption | with_reducible exact rng_toInt _ | with_reducible exact rng_wr _ | (unfold rng; omega) | (unfold rng at *; omega) | assumption)))
    intro xσ71
    have fσ71 : Fx [323, 326, 327, 331, 332, 333, 386, 387, 388, 389, 390, 6464] gr σ σ71 := fσ70.tr (cσ71.mo (by decide))
    have oxcσ71 : OX o σ σ71 := oxcσ70.tr (OX.fx cσ71 (by decide) (by decide)) (xσ40.trans (xσ41.trans (xσ42.trans (xσ43.trans (xσ47.trans (xσ49.trans (xσ50.trans (xσ52.trans (xσ64.trans (xσ65.trans (xσ68.trans (xσ69.trans xσ70))))))))))))
    have kp210 : gI σ71 J 1 = gI σ70 J 1 := (cσ71.O (kJ.up (xσ40.trans (xσ41.trans (xσ42.trans (xσ43.trans (xσ47.trans (xσ49.trans (xσ50.trans (xσ52.trans (xσ64.trans (xσ65.trans (xσ68.trans (xσ69.trans xσ70))))))))))))) (by decide)).1
    have kp211 : gI σ71 J 7 = gI σ70 J 7 := (cσ71.O (kJ.up (xσ40.trans (xσ41.trans (xσ42.trans (xσ43.trans (xσ47.trans (xσ49.trans (xσ50.trans (xσ52.trans (xσ64.trans (xσ65.trans (xσ68.trans (xσ69.trans xσ70))))))))))))) (by decide)).1
    have kp212 : gI σ71 o 11 = gI σ70 o 11 := (cσ71.O (ko.up (xσ40.trans (xσ41.trans (xσ42.trans (xσ43.trans (xσ47.trans (xσ49.trans (xσ50.trans (xσ52.trans (xσ64.trans (xσ65.trans (xσ68.trans (xσ69.trans xσ70))))))))))))) (by decide)).1
    have kp213 : gI σ71 o 13 = gI σ70 o 13 := (cσ71.O (ko.up (xσ40.trans (xσ41.trans (xσ42.trans (xσ43.trans (xσ47.trans (xσ49.trans (xσ50.trans (xσ52.trans (xσ64.trans (xσ65.trans (xσ68.trans (xσ69.trans xσ70))))))))))))) (by decide)).1
    have kp214 : gI σ71 o 4 = gI σ70 o 4 := (cσ71.O (ko.up (xσ40.trans (xσ41.trans (xσ42.trans (xσ43.trans (xσ47.trans (xσ49.trans (xσ50.trans (xσ52.trans (xσ64.trans (xσ65.trans (xσ68.trans (xσ69.trans xσ70))))))))))))) (by decide)).1
    have kp215 : gI σ71 o 7 = gI σ70 o 7 := (cσ71.O (ko.up (xσ40.trans (xσ41.trans (xσ42.trans (xσ43.trans (xσ47.trans (xσ49.trans (xσ50.trans (xσ52.trans (xσ64.trans (xσ65.trans (xσ68.trans (xσ69.trans xσ70))))))))))))) (by decide)).1
    have kp216 : gI σ71 o 8 = gI σ70 o 8 := (cσ71.O (ko.up (xσ40.trans (xσ41.trans (xσ42.trans (xσ43.trans (xσ47.trans (xσ49.trans (xσ50.trans (xσ52.trans (xσ64.trans (xσ65.trans (xσ68.trans (xσ69.trans xσ70))))))))))))) (by decide)).1
    have kp217 : gP σ71 J 0 = gP σ70 J 0 := (cσ71.O (kJ.up (xσ40.trans (xσ41.trans (xσ42.trans (xσ43.trans (xσ47.trans (xσ49.trans (xσ50.trans (xσ52.trans (xσ64.trans (xσ65.trans (xσ68.trans (xσ69.trans xσ70))))))))))))) (by decide)).2.1
    have kp218 : gP σ71 b (gI σ43 o 7).toNat = gP σ70 b (gI σ43 o 7).toNat := (cσ71.A (mb.up (xσ47.trans (xσ49.trans (xσ50.trans (xσ52.trans (xσ64.trans (xσ65.trans (xσ68.trans (xσ69.trans xσ70))))))))) (by decide)).2.1
    have kp219 : gP σ71 th 0 = gP σ70 th 0 := (cσ71.O (kth.up (xσ40.trans (xσ41.trans (xσ42.trans (xσ43.trans (xσ47.trans (xσ49.trans (xσ50.trans (xσ52.trans (xσ64.trans (xσ65.trans (xσ68.trans (xσ69.trans xσ70))))))))))))) (by decide)).2.1
    have kp220 : gP σ71 th 7 = gP σ70 th 7 := (cσ71.O (kth.up (xσ40.trans (xσ41.trans (xσ42.trans (xσ43.trans (xσ47.trans (xσ49.trans (xσ50.trans (xσ52.trans (xσ64.trans (xσ65.trans (xσ68.trans (xσ69.trans xσ70))))))))))))) (by decide)).2.1
    have kp221 : gP σ71 th 8 = gP σ70 th 8 := (cσ71.O (kth.up (xσ40.trans (xσ41.trans (xσ42.trans (xσ43.trans (xσ47.trans (xσ49.trans (xσ50.trans (xσ52.trans (xσ64.trans (xσ65.trans (xσ68.trans (xσ69.trans xσ70))))))))))))) (by decide)).2.1
    have kp222 : gI σ71 th 2 = gI σ70 th 2 := (cσ71.O (kth.up (xσ40.trans (xσ41.trans (xσ42.trans (xσ43.trans (xσ47.trans (xσ49.trans (xσ50.trans (xσ52.trans (xσ64.trans (xσ65.trans (xσ68.trans (xσ69.trans xσ70))))))))))))) (by decide)).1
    have kp223 : gI σ71 th 3 = gI σ70 th 3 := (cσ71.O (kth.up (xσ40.trans (xσ41.trans (xσ42.trans (xσ43.trans (xσ47.trans (xσ49.trans (xσ50.trans (xσ52.trans (xσ64.trans (xσ65.trans (xσ68.trans (xσ69.trans xσ70))))))))))))) (by decide)).1
    have kp224 : gI σ71 th 5 = gI σ70 th 5 := (cσ71.O (kth.up (xσ40.trans (xσ41.trans (xσ42.trans (xσ43.trans (xσ47.trans (xσ49.trans (xσ50.trans (xσ52.trans (xσ64.trans (xσ65.trans (xσ68.trans (xσ69.trans xσ70))))))))))))) (by decide)).1
    have kp225 : gI σ71 J 2 = gI σ70 J 2 := (cσ71.O (kJ.up (xσ40.trans (xσ41.trans (xσ42.trans (xσ43.trans (xσ47.trans (xσ49.trans (xσ50.trans (xσ52.trans (xσ64.trans (xσ65.trans (xσ68.trans (xσ69.trans xσ70))))))))))))) (by decide)).1
    have kp226 : gI σ71 o 3 = gI σ70 o 3 := (cσ71.O (ko.up (xσ40.trans (xσ41.trans (xσ42.trans (xσ43.trans (xσ47.trans (xσ49.trans (xσ50.trans (xσ52.trans (xσ64.trans (xσ65.trans (xσ68.trans (xσ69.trans xσ70))))))))))))) (by decide)).1
    have kp227 : gI σ71 o 6 = gI σ70 o 6 := (cσ71.O (ko.up (xσ40.trans (xσ41.trans (xσ42.trans (xσ43.trans (xσ47.trans (xσ49.trans (xσ50.trans (xσ52.trans (xσ64.trans (xσ65.trans (xσ68.trans (xσ69.trans xσ70))))))))))))) (by decide)).1
    have kp228 : gI σ71 o 9 = gI σ70 o 9 := (cσ71.O (ko.up (xσ40.trans (xσ41.trans (xσ42.trans (xσ43.trans (xσ47.trans (xσ49.trans (xσ50.trans (xσ52.trans (xσ64.trans (xσ65.trans (xσ68.trans (xσ69.trans xσ70))))))))))))) (by decide)).1
    refine ⟨o, (kp205.trans (kp189.trans (kp170.trans (kp152.trans (kp137.trans (kp121.trans (kp104.trans (kp87.trans (kp70.trans (kp54.trans (kp42.trans (kp29.trans (kp18.trans h8))))))))))))), fun kk_o_3 => ?_⟩
    intro σ74 eσ74
    have xσ74 : Ext σ71 σ74 := by rw [eσ74]; exact fun _ h => ⟨h, rfl, rfl⟩
    have iσ74 : IV σ74 pl gq ci gr nc ot LL N nu := by rw [eσ74]; exact iσ71.wSp (ko.up (xσ40.trans (xσ41.trans (xσ42.trans (xσ43.trans (xσ47.trans (xσ49.trans (xσ50.trans (xσ52.trans (xσ64.trans (xσ65.trans (xσ68.trans (xσ69.trans (xσ70.trans xσ71)))))))))))))) (fun i hi => by omega) (by decide) (show (1 : Int) ≤ r72 ∧ r72 ≤ 1000 from ⟨by omega, by omega⟩)
    have fσ74 : Fx [323, 326, 327, 331, 332, 333, 386, 387, 388, 389, 390, 6464] gr σ σ74 := fσ71.tr (Sk.fx (by rw [eσ74]; exact Sk.pI (by rw [fcdO (ko.up (xσ40.trans (xσ41.trans (xσ42.trans (xσ43.trans (xσ47.trans (xσ49.trans (xσ50.trans (xσ52.trans (xσ64.trans (xσ65.trans (xσ68.trans (xσ69.trans (xσ70.trans xσ71)))))))))))))) (by decide)]; decide)))
    have oxcσ74 : OX o σ σ74 := oxcσ71.tr (by rw [eσ74]; exact OX.pI (ko.up (xσ40.trans (xσ41.trans (xσ42.trans (xσ43.trans (xσ47.trans (xσ49.trans (xσ50.trans (xσ52.trans (xσ64.trans (xσ65.trans (xσ68.trans (xσ69.trans (xσ70.trans xσ71)))))))))))))) (Or.inr rfl)) (xσ40.trans (xσ41.trans (xσ42.trans (xσ43.trans (xσ47.trans (xσ49.trans (xσ50.trans (xσ52.trans (xσ64.trans (xσ65.trans (xσ68.trans (xσ69.trans (xσ70.trans xσ71)))))))))))))
    have wσ74 : gI σ74 o 12 = r72 := by rw [eσ74]; exact up2_s _ _ _ _
    have kp229 : gI σ74 J 1 = gI σ71 J 1 := by rw [eσ74]; exact up2_n _ _ (fun q => absurd q.2 (by decide))
    have kp230 : gI σ74 J 7 = gI σ71 J 7 := by rw [eσ74]; exact up2_n _ _ (fun q => absurd q.2 (by decide))
    have kp231 : gI σ74 o 11 = gI σ71 o 11 := by rw [eσ74]; exact up2_n _ _ (fun q => absurd q.2 (by decide))
    have kp232 : gI σ74 o 13 = gI σ71 o 13 := by rw [eσ74]; exact up2_n _ _ (fun q => absurd q.2 (by decide))
    have kp233 : gI σ74 o 4 = gI σ71 o 4 := by rw [eσ74]; exact up2_n _ _ (fun q => absurd q.2 (by decide))
    have kp234 : gI σ74 o 7 = gI σ71 o 7 := by rw [eσ74]; exact up2_n _ _ (fun q => absurd q.2 (by decide))
    have kp235 : gI σ74 o 8 = gI σ71 o 8 := by rw [eσ74]; exact up2_n _ _ (fun q => absurd q.2 (by decide))
    have kp236 : gP σ74 J 0 = gP σ71 J 0 := by rw [eσ74]
    have kp237 : gP σ74 b (gI σ43 o 7).toNat = gP σ71 b (gI σ43 o 7).toNat := by rw [eσ74]
    have kp238 : gP σ74 th 0 = gP σ71 th 0 := by rw [eσ74]
    have kp239 : gP σ74 th 7 = gP σ71 th 7 := by rw [eσ74]
    have kp240 : gP σ74 th 8 = gP σ71 th 8 := by rw [eσ74]
    have kp241 : gI σ74 th 2 = gI σ71 th 2 := by rw [eσ74]; exact up2_n _ _ (fun q => absurd q.2 (by decide))
    have kp242 : gI σ74 th 3 = gI σ71 th 3 := by rw [eσ74]; exact up2_n _ _ (fun q => absurd q.2 (by decide))
    have kp243 : gI σ74 th 5 = gI σ71 th 5 := by rw [eσ74]; exact up2_n _ _ (fun q => absurd q.2 (by decide))
    have kp244 : gI σ74 J 2 = gI σ71 J 2 := by rw [eσ74]; exact up2_n _ _ (fun q => absurd q.2 (by decide))
    have kp245 : gI σ74 o 3 = gI σ71 o 3 := by rw [eσ74]; exact up2_n _ _ (fun q => absurd q.2 (by decide))
    have kp246 : gI σ74 o 6 = gI σ71 o 6 := by rw [eσ74]; exact up2_n _ _ (fun q => absurd q.2 (by decide))
    have kp247 : gI σ74 o 9 = gI σ71 o 9 := by rw [eσ74]; exact up2_n _ _ (fun q => absurd q.2 (by decide))
    refine ⟨o, (kp240.trans (kp221.trans (kp205.trans (kp189.trans (kp170.trans (kp152.trans (kp137.trans (kp121.trans (kp104.trans (kp87.trans (kp70.trans (kp54.trans (kp42.trans (kp29.trans (kp18.trans h8))))))))))))))), fun kk_o_4 => ?_⟩
    by_cases hc248 : gI σ74 o 12 > gI σ74 o 11
    · rw [if_pos hc248]
      unfold w_X6_foldText_186
      refine i_X6_refuse iσ74 (kth.up (xσ40.trans (xσ41.trans (xσ42.trans (xσ43.trans (xσ47.trans (xσ49.trans (xσ50.trans (xσ52.trans (xσ64.trans (xσ65.trans (xσ68.trans (xσ69.trans (xσ70.trans (xσ71.trans xσ74))))))))))))))) (by (first | omega | with_reducible assumption | with_reducible exact rng_toInt _ | with_reducible exact rng_wr _ | (unfold rng; omega) | (unfold rng at *; omega) | assumption)) (by (first | omega | with_reducible assumption | with_reducible exact rng_toInt _ | with_reducible exact rng_wr _ | (unfold rng; omega) | (unfold rng at *; omega) | assumption)) (by (first | omega | with_reducible assumption | with_reducible exact rng_toInt _ | with_reducible exact rng_wr _ | (unfold rng; omega) | (unfold rng at *; omega) | assumption)) (fun σ77 _ iσ77 cσ77 pσ77 => ?_) (fun σx LLx Nx nux E ix cx ux px => hX σx LLx Nx nux E ix (fσ74.tr (cx.mo (by decide))) (ux) (by first | exact px | exact ⟨by have := px.1; omega, px.2⟩ | (first | omega | with_reducible assumption | with_reducible exact rng_toInt _ | with_reducible exact rng_wr _ | (unfold rng; omega) | (unfold rng at *; omega) | assumption)))
      intro xσ77
      exact pσ77.elim
    · rw [if_neg hc248]
      unfold w_X6_foldText_166
      refine ⟨o, (kp240.trans (kp221.trans (kp205.trans (kp189.trans (kp170.trans (kp152.trans (kp137.trans (kp121.trans (kp104.trans (kp87.trans (kp70.trans (kp54.trans (kp42.trans (kp29.trans (kp18.trans h8))))))))))))))), fun kk_o_5 => ?_⟩
      by_cases hc249 : gI σ74 o 11 ≤ (wr (8 * gI σ74 o 12))
      · rw [if_pos hc249]
        unfold w_X6_foldText_192
        refine i_X6_next iσ74 (kth.up (xσ40.trans (xσ41.trans (xσ42.trans (xσ43.trans (xσ47.trans (xσ49.trans (xσ50.trans (xσ52.trans (xσ64.trans (xσ65.trans (xσ68.trans (xσ69.trans (xσ70.trans (xσ71.trans xσ74))))))))))))))) (kp238.trans (kp219.trans (kp203.trans (kp187.trans (kp168.trans (kp150.trans (kp135.trans (kp119.trans (kp102.trans (kp85.trans (kp68.trans (kp52.trans (kp40.trans (kp27.trans (kp16.trans hX0))))))))))))))) (kX.up (xσ40.trans (xσ41.trans (xσ42.trans (xσ43.trans (xσ47.trans (xσ49.trans (xσ50.trans (xσ52.trans (xσ64.trans (xσ65.trans (xσ68.trans (xσ69.trans (xσ70.trans (xσ71.trans xσ74))))))))))))))) (((xσ40.trans (xσ41.trans (xσ42.trans (xσ43.trans (xσ47.trans (xσ49.trans (xσ50.trans (xσ52.trans (xσ64.trans (xσ65.trans (xσ68.trans (xσ69.trans (xσ70.trans (xσ71.trans xσ74)))))))))))))) tx kX.1).2.2.trans gX) (by (first | omega | with_reducible assumption | with_reducible exact rng_toInt _ | with_reducible exact rng_wr _ | (unfold rng; omega) | (unfold rng at *; omega) | assumption)) (by (first | omega | with_reducible assumption | with_reducible exact rng_toInt _ | with_reducible exact rng_wr _ | (unfold rng; omega) | (unfold rng at *; omega) | assumption)) (fun σ78 _ iσ78 cσ78 pσ78 => ?_) (fun σx LLx Nx nux E ix cx ux px => hX σx LLx Nx nux E ix (fσ74.tr (cx.mo (by decide))) (ux) (by first | exact px | exact ⟨by have := px.1; omega, px.2⟩ | (first | omega | with_reducible assumption | with_reducible exact rng_toInt _ | with_reducible exact rng_wr _ | (unfold rng; omega) | (unfold rng at *; omega) | assumption)))
        intro xσ78
        have fσ78 : Fx [323, 326, 327, 331, 332, 333, 386, 387, 388, 389, 390, 6464] gr σ σ78 := fσ74.tr (cσ78.mo (by decide))
        have oxcσ78 : OX o σ σ78 := oxcσ74.tr (OX.fx cσ78 (by decide) (by decide)) (xσ40.trans (xσ41.trans (xσ42.trans (xσ43.trans (xσ47.trans (xσ49.trans (xσ50.trans (xσ52.trans (xσ64.trans (xσ65.trans (xσ68.trans (xσ69.trans (xσ70.trans (xσ71.trans xσ74))))))))))))))
        have kp250 : gI σ78 J 1 = gI σ74 J 1 := (cσ78.O (kJ.up (xσ40.trans (xσ41.trans (xσ42.trans (xσ43.trans (xσ47.trans (xσ49.trans (xσ50.trans (xσ52.trans (xσ64.trans (xσ65.trans (xσ68.trans (xσ69.trans (xσ70.trans (xσ71.trans xσ74))))))))))))))) (by decide)).1
        have kp251 : gI σ78 J 7 = gI σ74 J 7 := (cσ78.O (kJ.up (xσ40.trans (xσ41.trans (xσ42.trans (xσ43.trans (xσ47.trans (xσ49.trans (xσ50.trans (xσ52.trans (xσ64.trans (xσ65.trans (xσ68.trans (xσ69.trans (xσ70.trans (xσ71.trans xσ74))))))))))))))) (by decide)).1
        have kp252 : gI σ78 o 11 = gI σ74 o 11 := (cσ78.O (ko.up (xσ40.trans (xσ41.trans (xσ42.trans (xσ43.trans (xσ47.trans (xσ49.trans (xσ50.trans (xσ52.trans (xσ64.trans (xσ65.trans (xσ68.trans (xσ69.trans (xσ70.trans (xσ71.trans xσ74))))))))))))))) (by decide)).1
        have kp253 : gI σ78 o 12 = gI σ74 o 12 := (cσ78.O (ko.up (xσ40.trans (xσ41.trans (xσ42.trans (xσ43.trans (xσ47.trans (xσ49.trans (xσ50.trans (xσ52.trans (xσ64.trans (xσ65.trans (xσ68.trans (xσ69.trans (xσ70.trans (xσ71.trans xσ74))))))))))))))) (by decide)).1
        have kp254 : gI σ78 o 13 = gI σ74 o 13 := (cσ78.O (ko.up (xσ40.trans (xσ41.trans (xσ42.trans (xσ43.trans (xσ47.trans (xσ49.trans (xσ50.trans (xσ52.trans (xσ64.trans (xσ65.trans (xσ68.trans (xσ69.trans (xσ70.trans (xσ71.trans xσ74))))))))))))))) (by decide)).1
        have kp255 : gI σ78 o 4 = gI σ74 o 4 := (cσ78.O (ko.up (xσ40.trans (xσ41.trans (xσ42.trans (xσ43.trans (xσ47.trans (xσ49.trans (xσ50.trans (xσ52.trans (xσ64.trans (xσ65.trans (xσ68.trans (xσ69.trans (xσ70.trans (xσ71.trans xσ74))))))))))))))) (by decide)).1
        have kp256 : gI σ78 o 7 = gI σ74 o 7 := (cσ78.O (ko.up (xσ40.trans (xσ41.trans (xσ42.trans (xσ43.trans (xσ47.trans (xσ49.trans (xσ50.trans (xσ52.trans (xσ64.trans (xσ65.trans (xσ68.trans (xσ69.trans (xσ70.trans (xσ71.trans xσ74))))))))))))))) (by decide)).1
        have kp257 : gI σ78 o 8 = gI σ74 o 8 := (cσ78.O (ko.up (xσ40.trans (xσ41.trans (xσ42.trans (xσ43.trans (xσ47.trans (xσ49.trans (xσ50.trans (xσ52.trans (xσ64.trans (xσ65.trans (xσ68.trans (xσ69.trans (xσ70.trans (xσ71.trans xσ74))))))))))))))) (by decide)).1
        have kp258 : gP σ78 J 0 = gP σ74 J 0 := (cσ78.O (kJ.up (xσ40.trans (xσ41.trans (xσ42.trans (xσ43.trans (xσ47.trans (xσ49.trans (xσ50.trans (xσ52.trans (xσ64.trans (xσ65.trans (xσ68.trans (xσ69.trans (xσ70.trans (xσ71.trans xσ74))))))))))))))) (by decide)).2.1
        have kp259 : gP σ78 b (gI σ43 o 7).toNat = gP σ74 b (gI σ43 o 7).toNat := (cσ78.A (mb.up (xσ47.trans (xσ49.trans (xσ50.trans (xσ52.trans (xσ64.trans (xσ65.trans (xσ68.trans (xσ69.trans (xσ70.trans (xσ71.trans xσ74))))))))))) (by decide)).2.1
        have kp260 : gP σ78 th 0 = gP σ74 th 0 := (cσ78.O (kth.up (xσ40.trans (xσ41.trans (xσ42.trans (xσ43.trans (xσ47.trans (xσ49.trans (xσ50.trans (xσ52.trans (xσ64.trans (xσ65.trans (xσ68.trans (xσ69.trans (xσ70.trans (xσ71.trans xσ74))))))))))))))) (by decide)).2.1
        have kp261 : gP σ78 th 7 = gP σ74 th 7 := (cσ78.O (kth.up (xσ40.trans (xσ41.trans (xσ42.trans (xσ43.trans (xσ47.trans (xσ49.trans (xσ50.trans (xσ52.trans (xσ64.trans (xσ65.trans (xσ68.trans (xσ69.trans (xσ70.trans (xσ71.trans xσ74))))))))))))))) (by decide)).2.1
        have kp262 : gP σ78 th 8 = gP σ74 th 8 := (cσ78.O (kth.up (xσ40.trans (xσ41.trans (xσ42.trans (xσ43.trans (xσ47.trans (xσ49.trans (xσ50.trans (xσ52.trans (xσ64.trans (xσ65.trans (xσ68.trans (xσ69.trans (xσ70.trans (xσ71.trans xσ74))))))))))))))) (by decide)).2.1
        have kp263 : gI σ78 J 2 = gI σ74 J 2 := (cσ78.O (kJ.up (xσ40.trans (xσ41.trans (xσ42.trans (xσ43.trans (xσ47.trans (xσ49.trans (xσ50.trans (xσ52.trans (xσ64.trans (xσ65.trans (xσ68.trans (xσ69.trans (xσ70.trans (xσ71.trans xσ74))))))))))))))) (by decide)).1
        have kp264 : gI σ78 o 3 = gI σ74 o 3 := (cσ78.O (ko.up (xσ40.trans (xσ41.trans (xσ42.trans (xσ43.trans (xσ47.trans (xσ49.trans (xσ50.trans (xσ52.trans (xσ64.trans (xσ65.trans (xσ68.trans (xσ69.trans (xσ70.trans (xσ71.trans xσ74))))))))))))))) (by decide)).1
        have kp265 : gI σ78 o 6 = gI σ74 o 6 := (cσ78.O (ko.up (xσ40.trans (xσ41.trans (xσ42.trans (xσ43.trans (xσ47.trans (xσ49.trans (xσ50.trans (xσ52.trans (xσ64.trans (xσ65.trans (xσ68.trans (xσ69.trans (xσ70.trans (xσ71.trans xσ74))))))))))))))) (by decide)).1
        have kp266 : gI σ78 o 9 = gI σ74 o 9 := (cσ78.O (ko.up (xσ40.trans (xσ41.trans (xσ42.trans (xσ43.trans (xσ47.trans (xσ49.trans (xσ50.trans (xσ52.trans (xσ64.trans (xσ65.trans (xσ68.trans (xσ69.trans (xσ70.trans (xσ71.trans xσ74))))))))))))))) (by decide)).1
        have r5σ78 := I_6_5 iσ78.1 (kth.up (xσ40.trans (xσ41.trans (xσ42.trans (xσ43.trans (xσ47.trans (xσ49.trans (xσ50.trans (xσ52.trans (xσ64.trans (xσ65.trans (xσ68.trans (xσ69.trans (xσ70.trans (xσ71.trans (xσ74.trans xσ78))))))))))))))))
        unfold w_X6_foldText_196
        refine i_X6_wantSign iσ78 (kth.up (xσ40.trans (xσ41.trans (xσ42.trans (xσ43.trans (xσ47.trans (xσ49.trans (xσ50.trans (xσ52.trans (xσ64.trans (xσ65.trans (xσ68.trans (xσ69.trans (xσ70.trans (xσ71.trans (xσ74.trans xσ78)))))))))))))))) (kp260.trans (kp238.trans (kp219.trans (kp203.trans (kp187.trans (kp168.trans (kp150.trans (kp135.trans (kp119.trans (kp102.trans (kp85.trans (kp68.trans (kp52.trans (kp40.trans (kp27.trans (kp16.trans hX0)))))))))))))))) (kX.up (xσ40.trans (xσ41.trans (xσ42.trans (xσ43.trans (xσ47.trans (xσ49.trans (xσ50.trans (xσ52.trans (xσ64.trans (xσ65.trans (xσ68.trans (xσ69.trans (xσ70.trans (xσ71.trans (xσ74.trans xσ78)))))))))))))))) (((xσ40.trans (xσ41.trans (xσ42.trans (xσ43.trans (xσ47.trans (xσ49.trans (xσ50.trans (xσ52.trans (xσ64.trans (xσ65.trans (xσ68.trans (xσ69.trans (xσ70.trans (xσ71.trans (xσ74.trans xσ78))))))))))))))) tx kX.1).2.2.trans gX) (by (first | omega | with_reducible assumption | with_reducible exact rng_toInt _ | with_reducible exact rng_wr _ | (unfold rng; omega) | (unfold rng at *; omega) | assumption)) (by (first | omega | with_reducible assumption | with_reducible exact rng_toInt _ | with_reducible exact rng_wr _ | (unfold rng; omega) | (unfold rng at *; omega) | assumption)) (fun σ63 _ iσ63 cσ63 pσ63 => ?_) (fun σx LLx Nx nux E ix cx ux px => hX σx LLx Nx nux E ix (fσ78.tr (cx.mo (by decide))) (ux) (by first | exact px | exact ⟨by have := px.1; omega, px.2⟩ | (first | omega | with_reducible assumption | with_reducible exact rng_toInt _ | with_reducible exact rng_wr _ | (unfold rng; omega) | (unfold rng at *; omega) | assumption)))
        intro xσ63
        have fσ63 : Fx [323, 326, 327, 331, 332, 333, 386, 387, 388, 389, 390, 6464] gr σ σ63 := fσ78.tr (cσ63.mo (by decide))
        have oxcσ63 : OX o σ σ63 := oxcσ78.tr (OX.fx cσ63 (by decide) (by decide)) (xσ40.trans (xσ41.trans (xσ42.trans (xσ43.trans (xσ47.trans (xσ49.trans (xσ50.trans (xσ52.trans (xσ64.trans (xσ65.trans (xσ68.trans (xσ69.trans (xσ70.trans (xσ71.trans (xσ74.trans xσ78)))))))))))))))
        have kp267 : gI σ63 J 1 = gI σ78 J 1 := (cσ63.O (kJ.up (xσ40.trans (xσ41.trans (xσ42.trans (xσ43.trans (xσ47.trans (xσ49.trans (xσ50.trans (xσ52.trans (xσ64.trans (xσ65.trans (xσ68.trans (xσ69.trans (xσ70.trans (xσ71.trans (xσ74.trans xσ78)))))))))))))))) (by decide)).1
        have kp268 : gI σ63 J 7 = gI σ78 J 7 := (cσ63.O (kJ.up (xσ40.trans (xσ41.trans (xσ42.trans (xσ43.trans (xσ47.trans (xσ49.trans (xσ50.trans (xσ52.trans (xσ64.trans (xσ65.trans (xσ68.trans (xσ69.trans (xσ70.trans (xσ71.trans (xσ74.trans xσ78)))))))))))))))) (by decide)).1
        have kp269 : gI σ63 o 11 = gI σ78 o 11 := (cσ63.O (ko.up (xσ40.trans (xσ41.trans (xσ42.trans (xσ43.trans (xσ47.trans (xσ49.trans (xσ50.trans (xσ52.trans (xσ64.trans (xσ65.trans (xσ68.trans (xσ69.trans (xσ70.trans (xσ71.trans (xσ74.trans xσ78)))))))))))))))) (by decide)).1
        have kp270 : gI σ63 o 12 = gI σ78 o 12 := (cσ63.O (ko.up (xσ40.trans (xσ41.trans (xσ42.trans (xσ43.trans (xσ47.trans (xσ49.trans (xσ50.trans (xσ52.trans (xσ64.trans (xσ65.trans (xσ68.trans (xσ69.trans (xσ70.trans (xσ71.trans (xσ74.trans xσ78)))))))))))))))) (by decide)).1
        have kp271 : gI σ63 o 13 = gI σ78 o 13 := (cσ63.O (ko.up (xσ40.trans (xσ41.trans (xσ42.trans (xσ43.trans (xσ47.trans (xσ49.trans (xσ50.trans (xσ52.trans (xσ64.trans (xσ65.trans (xσ68.trans (xσ69.trans (xσ70.trans (xσ71.trans (xσ74.trans xσ78)))))))))))))))) (by decide)).1
        have kp272 : gI σ63 o 4 = gI σ78 o 4 := (cσ63.O (ko.up (xσ40.trans (xσ41.trans (xσ42.trans (xσ43.trans (xσ47.trans (xσ49.trans (xσ50.trans (xσ52.trans (xσ64.trans (xσ65.trans (xσ68.trans (xσ69.trans (xσ70.trans (xσ71.trans (xσ74.trans xσ78)))))))))))))))) (by decide)).1
        have kp273 : gI σ63 o 7 = gI σ78 o 7 := (cσ63.O (ko.up (xσ40.trans (xσ41.trans (xσ42.trans (xσ43.trans (xσ47.trans (xσ49.trans (xσ50.trans (xσ52.trans (xσ64.trans (xσ65.trans (xσ68.trans (xσ69.trans (xσ70.trans (xσ71.trans (xσ74.trans xσ78)))))))))))))))) (by decide)).1
        have kp274 : gI σ63 o 8 = gI σ78 o 8 := (cσ63.O (ko.up (xσ40.trans (xσ41.trans (xσ42.trans (xσ43.trans (xσ47.trans (xσ49.trans (xσ50.trans (xσ52.trans (xσ64.trans (xσ65.trans (xσ68.trans (xσ69.trans (xσ70.trans (xσ71.trans (xσ74.trans xσ78)))))))))))))))) (by decide)).1
        have kp275 : gP σ63 J 0 = gP σ78 J 0 := (cσ63.O (kJ.up (xσ40.trans (xσ41.trans (xσ42.trans (xσ43.trans (xσ47.trans (xσ49.trans (xσ50.trans (xσ52.trans (xσ64.trans (xσ65.trans (xσ68.trans (xσ69.trans (xσ70.trans (xσ71.trans (xσ74.trans xσ78)))))))))))))))) (by decide)).2.1
        have kp276 : gP σ63 b (gI σ43 o 7).toNat = gP σ78 b (gI σ43 o 7).toNat := (cσ63.A (mb.up (xσ47.trans (xσ49.trans (xσ50.trans (xσ52.trans (xσ64.trans (xσ65.trans (xσ68.trans (xσ69.trans (xσ70.trans (xσ71.trans (xσ74.trans xσ78)))))))))))) (by decide)).2.1
        have kp277 : gP σ63 th 0 = gP σ78 th 0 := (cσ63.O (kth.up (xσ40.trans (xσ41.trans (xσ42.trans (xσ43.trans (xσ47.trans (xσ49.trans (xσ50.trans (xσ52.trans (xσ64.trans (xσ65.trans (xσ68.trans (xσ69.trans (xσ70.trans (xσ71.trans (xσ74.trans xσ78)))))))))))))))) (by decide)).2.1
        have kp278 : gP σ63 th 7 = gP σ78 th 7 := (cσ63.O (kth.up (xσ40.trans (xσ41.trans (xσ42.trans (xσ43.trans (xσ47.trans (xσ49.trans (xσ50.trans (xσ52.trans (xσ64.trans (xσ65.trans (xσ68.trans (xσ69.trans (xσ70.trans (xσ71.trans (xσ74.trans xσ78)))))))))))))))) (by decide)).2.1
        have kp279 : gP σ63 th 8 = gP σ78 th 8 := (cσ63.O (kth.up (xσ40.trans (xσ41.trans (xσ42.trans (xσ43.trans (xσ47.trans (xσ49.trans (xσ50.trans (xσ52.trans (xσ64.trans (xσ65.trans (xσ68.trans (xσ69.trans (xσ70.trans (xσ71.trans (xσ74.trans xσ78)))))))))))))))) (by decide)).2.1
        have kp280 : gI σ63 J 2 = gI σ78 J 2 := (cσ63.O (kJ.up (xσ40.trans (xσ41.trans (xσ42.trans (xσ43.trans (xσ47.trans (xσ49.trans (xσ50.trans (xσ52.trans (xσ64.trans (xσ65.trans (xσ68.trans (xσ69.trans (xσ70.trans (xσ71.trans (xσ74.trans xσ78)))))))))))))))) (by decide)).1
        have kp281 : gI σ63 o 3 = gI σ78 o 3 := (cσ63.O (ko.up (xσ40.trans (xσ41.trans (xσ42.trans (xσ43.trans (xσ47.trans (xσ49.trans (xσ50.trans (xσ52.trans (xσ64.trans (xσ65.trans (xσ68.trans (xσ69.trans (xσ70.trans (xσ71.trans (xσ74.trans xσ78)))))))))))))))) (by decide)).1
        have kp282 : gI σ63 o 6 = gI σ78 o 6 := (cσ63.O (ko.up (xσ40.trans (xσ41.trans (xσ42.trans (xσ43.trans (xσ47.trans (xσ49.trans (xσ50.trans (xσ52.trans (xσ64.trans (xσ65.trans (xσ68.trans (xσ69.trans (xσ70.trans (xσ71.trans (xσ74.trans xσ78)))))))))))))))) (by decide)).1
        have kp283 : gI σ63 o 9 = gI σ78 o 9 := (cσ63.O (ko.up (xσ40.trans (xσ41.trans (xσ42.trans (xσ43.trans (xσ47.trans (xσ49.trans (xσ50.trans (xσ52.trans (xσ64.trans (xσ65.trans (xσ68.trans (xσ69.trans (xσ70.trans (xσ71.trans (xσ74.trans xσ78)))))))))))))))) (by decide)).1
        have r5σ63 := I_6_5 iσ63.1 (kth.up (xσ40.trans (xσ41.trans (xσ42.trans (xσ43.trans (xσ47.trans (xσ49.trans (xσ50.trans (xσ52.trans (xσ64.trans (xσ65.trans (xσ68.trans (xσ69.trans (xσ70.trans (xσ71.trans (xσ74.trans (xσ78.trans xσ63)))))))))))))))))
        exact hQ σ63 () iσ63 fσ63 oxcσ63 (by omega)
      · rw [if_neg hc249]
        unfold w_X6_foldText_186
        refine i_X6_refuse iσ74 (kth.up (xσ40.trans (xσ41.trans (xσ42.trans (xσ43.trans (xσ47.trans (xσ49.trans (xσ50.trans (xσ52.trans (xσ64.trans (xσ65.trans (xσ68.trans (xσ69.trans (xσ70.trans (xσ71.trans xσ74))))))))))))))) (by (first | omega | with_reducible assumption | with_reducible exact rng_toInt _ | with_reducible exact rng_wr _ | (unfold rng; omega) | (unfold rng at *; omega) | assumption)) (by (first | omega | with_reducible assumption | with_reducible exact rng_toInt _ | with_reducible exact rng_wr _ | (unfold rng; omega) | (unfold rng at *; omega) | assumption)) (by (first | omega | with_reducible assumption | with_reducible exact rng_toInt _ | with_reducible exact rng_wr _ | (unfold rng; omega) | (unfold rng at *; omega) | assumption)) (fun σ77_1 _ iσ77_1 cσ77_1 pσ77_1 => ?_) (fun σx LLx Nx nux E ix cx ux px => hX σx LLx Nx nux E ix (fσ74.tr (cx.mo (by decide))) (ux) (by first | exact px | exact ⟨by have := px.1; omega, px.2⟩ | (first | omega | with_reducible assumption | with_reducible exact rng_toInt _ | with_reducible exact rng_wr _ | (unfold rng; omega) | (unfold rng at *; omega) | assumption)))
        intro xσ77_1
        exact pσ77_1.elim
  · rw [if_neg hc126]
    unfold w_X6_foldText_69
    refine i_X6_next iσ52 (kth.up (xσ40.trans (xσ41.trans (xσ42.trans (xσ43.trans (xσ47.trans (xσ49.trans (xσ50.trans xσ52)))))))) (kp119.trans (kp102.trans (kp85.trans (kp68.trans (kp52.trans (kp40.trans (kp27.trans (kp16.trans hX0)))))))) (kX.up (xσ40.trans (xσ41.trans (xσ42.trans (xσ43.trans (xσ47.trans (xσ49.trans (xσ50.trans xσ52)))))))) (((xσ40.trans (xσ41.trans (xσ42.trans (xσ43.trans (xσ47.trans (xσ49.trans (xσ50.trans xσ52))))))) tx kX.1).2.2.trans gX) (by (first | omega | with_reducible assumption | with_reducible exact rng_toInt _ | with_reducible exact rng_wr _ | (unfold rng; omega) | (unfold rng at *; omega) | assumption)) (by (first | omega | with_reducible assumption | with_reducible exact rng_toInt _ | with_reducible exact rng_wr _ | (unfold rng; omega) | (unfold rng at *; omega) | assumption)) (fun σ55 _ iσ55 cσ55 pσ55 => ?_) (fun σx LLx Nx nux E ix cx ux px => hX σx LLx Nx nux E ix (fσ52.tr (cx.mo (by decide))) (ux) (by first | exact px | exact ⟨by have := px.1; omega, px.2⟩ | (first | omega | with_reducible assumption | with_reducible exact rng_toInt _ | with_reducible exact rng_wr _ | (unfold rng; omega) | (unfold rng at *; omega) | assumption)))
    intro xσ55
    have fσ55 : Fx [323, 326, 327, 331, 332, 333, 386, 387, 388, 389, 390, 6464] gr σ σ55 := fσ52.tr (cσ55.mo (by decide))
    have oxcσ55 : OX o σ σ55 := oxcσ52.tr (OX.fx cσ55 (by decide) (by decide)) (xσ40.trans (xσ41.trans (xσ42.trans (xσ43.trans (xσ47.trans (xσ49.trans (xσ50.trans xσ52)))))))
    have kp284 : gI σ55 J 1 = gI σ52 J 1 := (cσ55.O (kJ.up (xσ40.trans (xσ41.trans (xσ42.trans (xσ43.trans (xσ47.trans (xσ49.trans (xσ50.trans xσ52)))))))) (by decide)).1
    have kp285 : gI σ55 J 7 = gI σ52 J 7 := (cσ55.O (kJ.up (xσ40.trans (xσ41.trans (xσ42.trans (xσ43.trans (xσ47.trans (xσ49.trans (xσ50.trans xσ52)))))))) (by decide)).1
    have kp286 : gI σ55 o 13 = gI σ52 o 13 := (cσ55.O (ko.up (xσ40.trans (xσ41.trans (xσ42.trans (xσ43.trans (xσ47.trans (xσ49.trans (xσ50.trans xσ52)))))))) (by decide)).1
    have kp287 : gI σ55 o 4 = gI σ52 o 4 := (cσ55.O (ko.up (xσ40.trans (xσ41.trans (xσ42.trans (xσ43.trans (xσ47.trans (xσ49.trans (xσ50.trans xσ52)))))))) (by decide)).1
    have kp288 : gI σ55 o 7 = gI σ52 o 7 := (cσ55.O (ko.up (xσ40.trans (xσ41.trans (xσ42.trans (xσ43.trans (xσ47.trans (xσ49.trans (xσ50.trans xσ52)))))))) (by decide)).1
    have kp289 : gI σ55 o 8 = gI σ52 o 8 := (cσ55.O (ko.up (xσ40.trans (xσ41.trans (xσ42.trans (xσ43.trans (xσ47.trans (xσ49.trans (xσ50.trans xσ52)))))))) (by decide)).1
    have kp290 : gP σ55 J 0 = gP σ52 J 0 := (cσ55.O (kJ.up (xσ40.trans (xσ41.trans (xσ42.trans (xσ43.trans (xσ47.trans (xσ49.trans (xσ50.trans xσ52)))))))) (by decide)).2.1
    have kp291 : gP σ55 b (gI σ43 o 7).toNat = gP σ52 b (gI σ43 o 7).toNat := (cσ55.A (mb.up (xσ47.trans (xσ49.trans (xσ50.trans xσ52)))) (by decide)).2.1
    have kp292 : gP σ55 th 0 = gP σ52 th 0 := (cσ55.O (kth.up (xσ40.trans (xσ41.trans (xσ42.trans (xσ43.trans (xσ47.trans (xσ49.trans (xσ50.trans xσ52)))))))) (by decide)).2.1
    have kp293 : gP σ55 th 7 = gP σ52 th 7 := (cσ55.O (kth.up (xσ40.trans (xσ41.trans (xσ42.trans (xσ43.trans (xσ47.trans (xσ49.trans (xσ50.trans xσ52)))))))) (by decide)).2.1
    have kp294 : gP σ55 th 8 = gP σ52 th 8 := (cσ55.O (kth.up (xσ40.trans (xσ41.trans (xσ42.trans (xσ43.trans (xσ47.trans (xσ49.trans (xσ50.trans xσ52)))))))) (by decide)).2.1
    have kp295 : gI σ55 J 2 = gI σ52 J 2 := (cσ55.O (kJ.up (xσ40.trans (xσ41.trans (xσ42.trans (xσ43.trans (xσ47.trans (xσ49.trans (xσ50.trans xσ52)))))))) (by decide)).1
    have kp296 : gI σ55 o 3 = gI σ52 o 3 := (cσ55.O (ko.up (xσ40.trans (xσ41.trans (xσ42.trans (xσ43.trans (xσ47.trans (xσ49.trans (xσ50.trans xσ52)))))))) (by decide)).1
    have kp297 : gI σ55 o 6 = gI σ52 o 6 := (cσ55.O (ko.up (xσ40.trans (xσ41.trans (xσ42.trans (xσ43.trans (xσ47.trans (xσ49.trans (xσ50.trans xσ52)))))))) (by decide)).1
    have kp298 : gI σ55 o 9 = gI σ52 o 9 := (cσ55.O (ko.up (xσ40.trans (xσ41.trans (xσ42.trans (xσ43.trans (xσ47.trans (xσ49.trans (xσ50.trans xσ52)))))))) (by decide)).1
    have r5σ55 := I_6_5 iσ55.1 (kth.up (xσ40.trans (xσ41.trans (xσ42.trans (xσ43.trans (xσ47.trans (xσ49.trans (xσ50.trans (xσ52.trans xσ55)))))))))
    refine ⟨o, (kp294.trans (kp121.trans (kp104.trans (kp87.trans (kp70.trans (kp54.trans (kp42.trans (kp29.trans (kp18.trans h8))))))))), fun kk_o_6 => ?_⟩
    intro σ57 eσ57
    have xσ57 : Ext σ55 σ57 := by rw [eσ57]; exact fun _ h => ⟨h, rfl, rfl⟩
    have iσ57 : IV σ57 pl gq ci gr nc ot LL N nu := by rw [eσ57]; exact iσ55.wSp (ko.up (xσ40.trans (xσ41.trans (xσ42.trans (xσ43.trans (xσ47.trans (xσ49.trans (xσ50.trans (xσ52.trans xσ55))))))))) (fun i hi => by omega) (by decide) (show (0 : Int) ≤ 5 ∧ 5 ≤ 11 from ⟨by omega, by omega⟩)
    have fσ57 : Fx [323, 326, 327, 331, 332, 333, 386, 387, 388, 389, 390, 6464] gr σ σ57 := fσ55.tr (Sk.fx (by rw [eσ57]; exact Sk.pI (by rw [fcdO (ko.up (xσ40.trans (xσ41.trans (xσ42.trans (xσ43.trans (xσ47.trans (xσ49.trans (xσ50.trans (xσ52.trans xσ55))))))))) (by decide)]; decide)))
    have oxcσ57 : OX o σ σ57 := oxcσ55.tr (by rw [eσ57]; exact OX.pI (ko.up (xσ40.trans (xσ41.trans (xσ42.trans (xσ43.trans (xσ47.trans (xσ49.trans (xσ50.trans (xσ52.trans xσ55))))))))) (Or.inr rfl)) (xσ40.trans (xσ41.trans (xσ42.trans (xσ43.trans (xσ47.trans (xσ49.trans (xσ50.trans (xσ52.trans xσ55))))))))
    have wσ57 : gI σ57 o 6 = 5 := by rw [eσ57]; exact up2_s _ _ _ _
    have kp299 : gI σ57 J 1 = gI σ55 J 1 := by rw [eσ57]; exact up2_n _ _ (fun q => absurd q.2 (by decide))
    have kp300 : gI σ57 J 7 = gI σ55 J 7 := by rw [eσ57]; exact up2_n _ _ (fun q => absurd q.2 (by decide))
    have kp301 : gI σ57 o 13 = gI σ55 o 13 := by rw [eσ57]; exact up2_n _ _ (fun q => absurd q.2 (by decide))
    have kp302 : gI σ57 o 4 = gI σ55 o 4 := by rw [eσ57]; exact up2_n _ _ (fun q => absurd q.2 (by decide))
    have kp303 : gI σ57 o 7 = gI σ55 o 7 := by rw [eσ57]; exact up2_n _ _ (fun q => absurd q.2 (by decide))
    have kp304 : gI σ57 o 8 = gI σ55 o 8 := by rw [eσ57]; exact up2_n _ _ (fun q => absurd q.2 (by decide))
    have kp305 : gP σ57 J 0 = gP σ55 J 0 := by rw [eσ57]
    have kp306 : gP σ57 b (gI σ43 o 7).toNat = gP σ55 b (gI σ43 o 7).toNat := by rw [eσ57]
    have kp307 : gP σ57 th 0 = gP σ55 th 0 := by rw [eσ57]
    have kp308 : gP σ57 th 7 = gP σ55 th 7 := by rw [eσ57]
    have kp309 : gP σ57 th 8 = gP σ55 th 8 := by rw [eσ57]
    have kp310 : gI σ57 th 2 = gI σ55 th 2 := by rw [eσ57]; exact up2_n _ _ (fun q => absurd q.2 (by decide))
    have kp311 : gI σ57 th 3 = gI σ55 th 3 := by rw [eσ57]; exact up2_n _ _ (fun q => absurd q.2 (by decide))
    have kp312 : gI σ57 th 5 = gI σ55 th 5 := by rw [eσ57]; exact up2_n _ _ (fun q => absurd q.2 (by decide))
    have kp313 : gI σ57 J 2 = gI σ55 J 2 := by rw [eσ57]; exact up2_n _ _ (fun q => absurd q.2 (by decide))
    have kp314 : gI σ57 o 3 = gI σ55 o 3 := by rw [eσ57]; exact up2_n _ _ (fun q => absurd q.2 (by decide))
    have kp315 : gI σ57 o 9 = gI σ55 o 9 := by rw [eσ57]; exact up2_n _ _ (fun q => absurd q.2 (by decide))
    refine i_X6_number iσ57 (kth.up (xσ40.trans (xσ41.trans (xσ42.trans (xσ43.trans (xσ47.trans (xσ49.trans (xσ50.trans (xσ52.trans (xσ55.trans xσ57)))))))))) (by (first | omega | with_reducible assumption | with_reducible exact rng_toInt _ | with_reducible exact rng_wr _ | (unfold rng; omega) | (unfold rng at *; omega) | assumption)) (by (first | omega | with_reducible assumption | with_reducible exact rng_toInt _ | with_reducible exact rng_wr _ | (unfold rng; omega) | (unfold rng at *; omega) | assumption)) (fun σ58 r59 iσ58 cσ58 pσ58 => ?_) (fun σx LLx Nx nux E ix cx ux px => hX σx LLx Nx nux E ix (fσ57.tr (cx.mo (by decide))) (ux) (by first | exact px | exact ⟨by have := px.1; omega, px.2⟩ | (first | omega | with_reducible assumption | with_reducible exact rng_toInt _ | with_reducible exact rng_wr _ | (unfold rng; omega) | (unfold rng at *; omega) | assumption)))
    intro xσ58
    have fσ58 : Fx [323, 326, 327, 331, 332, 333, 386, 387, 388, 389, 390, 6464] gr σ σ58 := fσ57.tr (cσ58.mo (by decide))
    have oxcσ58 : OX o σ σ58 := oxcσ57.tr (OX.fx cσ58 (by decide) (by decide)) (xσ40.trans (xσ41.trans (xσ42.trans (xσ43.trans (xσ47.trans (xσ49.trans (xσ50.trans (xσ52.trans (xσ55.trans xσ57)))))))))
    have kp316 : gI σ58 J 1 = gI σ57 J 1 := (cσ58.O (kJ.up (xσ40.trans (xσ41.trans (xσ42.trans (xσ43.trans (xσ47.trans (xσ49.trans (xσ50.trans (xσ52.trans (xσ55.trans xσ57)))))))))) (by decide)).1
    have kp317 : gI σ58 J 7 = gI σ57 J 7 := (cσ58.O (kJ.up (xσ40.trans (xσ41.trans (xσ42.trans (xσ43.trans (xσ47.trans (xσ49.trans (xσ50.trans (xσ52.trans (xσ55.trans xσ57)))))))))) (by decide)).1
    have kp318 : gI σ58 o 13 = gI σ57 o 13 := (cσ58.O (ko.up (xσ40.trans (xσ41.trans (xσ42.trans (xσ43.trans (xσ47.trans (xσ49.trans (xσ50.trans (xσ52.trans (xσ55.trans xσ57)))))))))) (by decide)).1
    have kp319 : gI σ58 o 4 = gI σ57 o 4 := (cσ58.O (ko.up (xσ40.trans (xσ41.trans (xσ42.trans (xσ43.trans (xσ47.trans (xσ49.trans (xσ50.trans (xσ52.trans (xσ55.trans xσ57)))))))))) (by decide)).1
    have kp320 : gI σ58 o 6 = gI σ57 o 6 := (cσ58.O (ko.up (xσ40.trans (xσ41.trans (xσ42.trans (xσ43.trans (xσ47.trans (xσ49.trans (xσ50.trans (xσ52.trans (xσ55.trans xσ57)))))))))) (by decide)).1
    have kp321 : gI σ58 o 7 = gI σ57 o 7 := (cσ58.O (ko.up (xσ40.trans (xσ41.trans (xσ42.trans (xσ43.trans (xσ47.trans (xσ49.trans (xσ50.trans (xσ52.trans (xσ55.trans xσ57)))))))))) (by decide)).1
    have kp322 : gI σ58 o 8 = gI σ57 o 8 := (cσ58.O (ko.up (xσ40.trans (xσ41.trans (xσ42.trans (xσ43.trans (xσ47.trans (xσ49.trans (xσ50.trans (xσ52.trans (xσ55.trans xσ57)))))))))) (by decide)).1
    have kp323 : gP σ58 J 0 = gP σ57 J 0 := (cσ58.O (kJ.up (xσ40.trans (xσ41.trans (xσ42.trans (xσ43.trans (xσ47.trans (xσ49.trans (xσ50.trans (xσ52.trans (xσ55.trans xσ57)))))))))) (by decide)).2.1
    have kp324 : gP σ58 b (gI σ43 o 7).toNat = gP σ57 b (gI σ43 o 7).toNat := (cσ58.A (mb.up (xσ47.trans (xσ49.trans (xσ50.trans (xσ52.trans (xσ55.trans xσ57)))))) (by decide)).2.1
    have kp325 : gP σ58 th 0 = gP σ57 th 0 := (cσ58.O (kth.up (xσ40.trans (xσ41.trans (xσ42.trans (xσ43.trans (xσ47.trans (xσ49.trans (xσ50.trans (xσ52.trans (xσ55.trans xσ57)))))))))) (by decide)).2.1
    have kp326 : gP σ58 th 7 = gP σ57 th 7 := (cσ58.O (kth.up (xσ40.trans (xσ41.trans (xσ42.trans (xσ43.trans (xσ47.trans (xσ49.trans (xσ50.trans (xσ52.trans (xσ55.trans xσ57)))))))))) (by decide)).2.1
    have kp327 : gP σ58 th 8 = gP σ57 th 8 := (cσ58.O (kth.up (xσ40.trans (xσ41.trans (xσ42.trans (xσ43.trans (xσ47.trans (xσ49.trans (xσ50.trans (xσ52.trans (xσ55.trans xσ57)))))))))) (by decide)).2.1
    have kp328 : gI σ58 th 2 = gI σ57 th 2 := (cσ58.O (kth.up (xσ40.trans (xσ41.trans (xσ42.trans (xσ43.trans (xσ47.trans (xσ49.trans (xσ50.trans (xσ52.trans (xσ55.trans xσ57)))))))))) (by decide)).1
    have kp329 : gI σ58 th 3 = gI σ57 th 3 := (cσ58.O (kth.up (xσ40.trans (xσ41.trans (xσ42.trans (xσ43.trans (xσ47.trans (xσ49.trans (xσ50.trans (xσ52.trans (xσ55.trans xσ57)))))))))) (by decide)).1
    have kp330 : gI σ58 th 5 = gI σ57 th 5 := (cσ58.O (kth.up (xσ40.trans (xσ41.trans (xσ42.trans (xσ43.trans (xσ47.trans (xσ49.trans (xσ50.trans (xσ52.trans (xσ55.trans xσ57)))))))))) (by decide)).1
    have kp331 : gI σ58 J 2 = gI σ57 J 2 := (cσ58.O (kJ.up (xσ40.trans (xσ41.trans (xσ42.trans (xσ43.trans (xσ47.trans (xσ49.trans (xσ50.trans (xσ52.trans (xσ55.trans xσ57)))))))))) (by decide)).1
    have kp332 : gI σ58 o 3 = gI σ57 o 3 := (cσ58.O (ko.up (xσ40.trans (xσ41.trans (xσ42.trans (xσ43.trans (xσ47.trans (xσ49.trans (xσ50.trans (xσ52.trans (xσ55.trans xσ57)))))))))) (by decide)).1
    have kp333 : gI σ58 o 9 = gI σ57 o 9 := (cσ58.O (ko.up (xσ40.trans (xσ41.trans (xσ42.trans (xσ43.trans (xσ47.trans (xσ49.trans (xσ50.trans (xσ52.trans (xσ55.trans xσ57)))))))))) (by decide)).1
    refine ⟨o, (kp309.trans (kp294.trans (kp121.trans (kp104.trans (kp87.trans (kp70.trans (kp54.trans (kp42.trans (kp29.trans (kp18.trans h8)))))))))), fun kk_o_7 => ?_⟩
    intro σ61 eσ61
    have xσ61 : Ext σ58 σ61 := by rw [eσ61]; exact fun _ h => ⟨h, rfl, rfl⟩
    have iσ61 : IV σ61 pl gq ci gr nc ot LL N nu := by rw [eσ61]; exact iσ58.wSp (ko.up (xσ40.trans (xσ41.trans (xσ42.trans (xσ43.trans (xσ47.trans (xσ49.trans (xσ50.trans (xσ52.trans (xσ55.trans (xσ57.trans xσ58))))))))))) (fun i hi => by omega) (by decide) (show (1 : Int) ≤ r59 ∧ r59 ≤ 1000 from ⟨by omega, by omega⟩)
    have fσ61 : Fx [323, 326, 327, 331, 332, 333, 386, 387, 388, 389, 390, 6464] gr σ σ61 := fσ58.tr (Sk.fx (by rw [eσ61]; exact Sk.pI (by rw [fcdO (ko.up (xσ40.trans (xσ41.trans (xσ42.trans (xσ43.trans (xσ47.trans (xσ49.trans (xσ50.trans (xσ52.trans (xσ55.trans (xσ57.trans xσ58))))))))))) (by decide)]; decide)))
    have oxcσ61 : OX o σ σ61 := oxcσ58.tr (by rw [eσ61]; exact OX.pI (ko.up (xσ40.trans (xσ41.trans (xσ42.trans (xσ43.trans (xσ47.trans (xσ49.trans (xσ50.trans (xσ52.trans (xσ55.trans (xσ57.trans xσ58))))))))))) (Or.inr rfl)) (xσ40.trans (xσ41.trans (xσ42.trans (xσ43.trans (xσ47.trans (xσ49.trans (xσ50.trans (xσ52.trans (xσ55.trans (xσ57.trans xσ58))))))))))
    have wσ61 : gI σ61 o 11 = r59 := by rw [eσ61]; exact up2_s _ _ _ _
    have kp334 : gI σ61 J 1 = gI σ58 J 1 := by rw [eσ61]; exact up2_n _ _ (fun q => absurd q.2 (by decide))
    have kp335 : gI σ61 J 7 = gI σ58 J 7 := by rw [eσ61]; exact up2_n _ _ (fun q => absurd q.2 (by decide))
    have kp336 : gI σ61 o 13 = gI σ58 o 13 := by rw [eσ61]; exact up2_n _ _ (fun q => absurd q.2 (by decide))
    have kp337 : gI σ61 o 4 = gI σ58 o 4 := by rw [eσ61]; exact up2_n _ _ (fun q => absurd q.2 (by decide))
    have kp338 : gI σ61 o 6 = gI σ58 o 6 := by rw [eσ61]; exact up2_n _ _ (fun q => absurd q.2 (by decide))
    have kp339 : gI σ61 o 7 = gI σ58 o 7 := by rw [eσ61]; exact up2_n _ _ (fun q => absurd q.2 (by decide))
    have kp340 : gI σ61 o 8 = gI σ58 o 8 := by rw [eσ61]; exact up2_n _ _ (fun q => absurd q.2 (by decide))
    have kp341 : gP σ61 J 0 = gP σ58 J 0 := by rw [eσ61]
    have kp342 : gP σ61 b (gI σ43 o 7).toNat = gP σ58 b (gI σ43 o 7).toNat := by rw [eσ61]
    have kp343 : gP σ61 th 0 = gP σ58 th 0 := by rw [eσ61]
    have kp344 : gP σ61 th 7 = gP σ58 th 7 := by rw [eσ61]
    have kp345 : gP σ61 th 8 = gP σ58 th 8 := by rw [eσ61]
    have kp346 : gI σ61 th 2 = gI σ58 th 2 := by rw [eσ61]; exact up2_n _ _ (fun q => absurd q.2 (by decide))
    have kp347 : gI σ61 th 3 = gI σ58 th 3 := by rw [eσ61]; exact up2_n _ _ (fun q => absurd q.2 (by decide))
    have kp348 : gI σ61 th 5 = gI σ58 th 5 := by rw [eσ61]; exact up2_n _ _ (fun q => absurd q.2 (by decide))
    have kp349 : gI σ61 J 2 = gI σ58 J 2 := by rw [eσ61]; exact up2_n _ _ (fun q => absurd q.2 (by decide))
    have kp350 : gI σ61 o 3 = gI σ58 o 3 := by rw [eσ61]; exact up2_n _ _ (fun q => absurd q.2 (by decide))
    have kp351 : gI σ61 o 9 = gI σ58 o 9 := by rw [eσ61]; exact up2_n _ _ (fun q => absurd q.2 (by decide))
    refine i_X6_next iσ61 (kth.up (xσ40.trans (xσ41.trans (xσ42.trans (xσ43.trans (xσ47.trans (xσ49.trans (xσ50.trans (xσ52.trans (xσ55.trans (xσ57.trans (xσ58.trans xσ61)))))))))))) (kp343.trans (kp325.trans (kp307.trans (kp292.trans (kp119.trans (kp102.trans (kp85.trans (kp68.trans (kp52.trans (kp40.trans (kp27.trans (kp16.trans hX0)))))))))))) (kX.up (xσ40.trans (xσ41.trans (xσ42.trans (xσ43.trans (xσ47.trans (xσ49.trans (xσ50.trans (xσ52.trans (xσ55.trans (xσ57.trans (xσ58.trans xσ61)))))))))))) (((xσ40.trans (xσ41.trans (xσ42.trans (xσ43.trans (xσ47.trans (xσ49.trans (xσ50.trans (xσ52.trans (xσ55.trans (xσ57.trans (xσ58.trans xσ61))))))))))) tx kX.1).2.2.trans gX) (by (first | omega | with_reducible assumption | with_reducible exact rng_toInt _ | with_reducible exact rng_wr _ | (unfold rng; omega) | (unfold rng at *; omega) | assumption)) (by (first | omega | with_reducible assumption | with_reducible exact rng_toInt _ | with_reducible exact rng_wr _ | (unfold rng; omega) | (unfold rng at *; omega) | assumption)) (fun σ62 _ iσ62 cσ62 pσ62 => ?_) (fun σx LLx Nx nux E ix cx ux px => hX σx LLx Nx nux E ix (fσ61.tr (cx.mo (by decide))) (ux) (by first | exact px | exact ⟨by have := px.1; omega, px.2⟩ | (first | omega | with_reducible assumption | with_reducible exact rng_toInt _ | with_reducible exact rng_wr _ | (unfold rng; omega) | (unfold rng at *; omega) | assumption)))
    intro xσ62
    have fσ62 : Fx [323, 326, 327, 331, 332, 333, 386, 387, 388, 389, 390, 6464] gr σ σ62 := fσ61.tr (cσ62.mo (by decide))
    have oxcσ62 : OX o σ σ62 := oxcσ61.tr (OX.fx cσ62 (by decide) (by decide)) (xσ40.trans (xσ41.trans (xσ42.trans (xσ43.trans (xσ47.trans (xσ49.trans (xσ50.trans (xσ52.trans (xσ55.trans (xσ57.trans (xσ58.trans xσ61)))))))))))
    have kp352 : gI σ62 J 1 = gI σ61 J 1 := (cσ62.O (kJ.up (xσ40.trans (xσ41.trans (xσ42.trans (xσ43.trans (xσ47.trans (xσ49.trans (xσ50.trans (xσ52.trans (xσ55.trans (xσ57.trans (xσ58.trans xσ61)))))))))))) (by decide)).1
    have kp353 : gI σ62 J 7 = gI σ61 J 7 := (cσ62.O (kJ.up (xσ40.trans (xσ41.trans (xσ42.trans (xσ43.trans (xσ47.trans (xσ49.trans (xσ50.trans (xσ52.trans (xσ55.trans (xσ57.trans (xσ58.trans xσ61)))))))))))) (by decide)).1
    have kp354 : gI σ62 o 11 = gI σ61 o 11 := (cσ62.O (ko.up (xσ40.trans (xσ41.trans (xσ42.trans (xσ43.trans (xσ47.trans (xσ49.trans (xσ50.trans (xσ52.trans (xσ55.trans (xσ57.trans (xσ58.trans xσ61)))))))))))) (by decide)).1
    have kp355 : gI σ62 o 13 = gI σ61 o 13 := (cσ62.O (ko.up (xσ40.trans (xσ41.trans (xσ42.trans (xσ43.trans (xσ47.trans (xσ49.trans (xσ50.trans (xσ52.trans (xσ55.trans (xσ57.trans (xσ58.trans xσ61)))))))))))) (by decide)).1
    have kp356 : gI σ62 o 4 = gI σ61 o 4 := (cσ62.O (ko.up (xσ40.trans (xσ41.trans (xσ42.trans (xσ43.trans (xσ47.trans (xσ49.trans (xσ50.trans (xσ52.trans (xσ55.trans (xσ57.trans (xσ58.trans xσ61)))))))))))) (by decide)).1
    have kp357 : gI σ62 o 6 = gI σ61 o 6 := (cσ62.O (ko.up (xσ40.trans (xσ41.trans (xσ42.trans (xσ43.trans (xσ47.trans (xσ49.trans (xσ50.trans (xσ52.trans (xσ55.trans (xσ57.trans (xσ58.trans xσ61)))))))))))) (by decide)).1
    have kp358 : gI σ62 o 7 = gI σ61 o 7 := (cσ62.O (ko.up (xσ40.trans (xσ41.trans (xσ42.trans (xσ43.trans (xσ47.trans (xσ49.trans (xσ50.trans (xσ52.trans (xσ55.trans (xσ57.trans (xσ58.trans xσ61)))))))))))) (by decide)).1
    have kp359 : gI σ62 o 8 = gI σ61 o 8 := (cσ62.O (ko.up (xσ40.trans (xσ41.trans (xσ42.trans (xσ43.trans (xσ47.trans (xσ49.trans (xσ50.trans (xσ52.trans (xσ55.trans (xσ57.trans (xσ58.trans xσ61)))))))))))) (by decide)).1
    have kp360 : gP σ62 J 0 = gP σ61 J 0 := (cσ62.O (kJ.up (xσ40.trans (xσ41.trans (xσ42.trans (xσ43.trans (xσ47.trans (xσ49.trans (xσ50.trans (xσ52.trans (xσ55.trans (xσ57.trans (xσ58.trans xσ61)))))))))))) (by decide)).2.1
    have kp361 : gP σ62 b (gI σ43 o 7).toNat = gP σ61 b (gI σ43 o 7).toNat := (cσ62.A (mb.up (xσ47.trans (xσ49.trans (xσ50.trans (xσ52.trans (xσ55.trans (xσ57.trans (xσ58.trans xσ61)))))))) (by decide)).2.1
    have kp362 : gP σ62 th 0 = gP σ61 th 0 := (cσ62.O (kth.up (xσ40.trans (xσ41.trans (xσ42.trans (xσ43.trans (xσ47.trans (xσ49.trans (xσ50.trans (xσ52.trans (xσ55.trans (xσ57.trans (xσ58.trans xσ61)))))))))))) (by decide)).2.1
    have kp363 : gP σ62 th 7 = gP σ61 th 7 := (cσ62.O (kth.up (xσ40.trans (xσ41.trans (xσ42.trans (xσ43.trans (xσ47.trans (xσ49.trans (xσ50.trans (xσ52.trans (xσ55.trans (xσ57.trans (xσ58.trans xσ61)))))))))))) (by decide)).2.1
    have kp364 : gP σ62 th 8 = gP σ61 th 8 := (cσ62.O (kth.up (xσ40.trans (xσ41.trans (xσ42.trans (xσ43.trans (xσ47.trans (xσ49.trans (xσ50.trans (xσ52.trans (xσ55.trans (xσ57.trans (xσ58.trans xσ61)))))))))))) (by decide)).2.1
    have kp365 : gI σ62 J 2 = gI σ61 J 2 := (cσ62.O (kJ.up (xσ40.trans (xσ41.trans (xσ42.trans (xσ43.trans (xσ47.trans (xσ49.trans (xσ50.trans (xσ52.trans (xσ55.trans (xσ57.trans (xσ58.trans xσ61)))))))))))) (by decide)).1
    have kp366 : gI σ62 o 3 = gI σ61 o 3 := (cσ62.O (ko.up (xσ40.trans (xσ41.trans (xσ42.trans (xσ43.trans (xσ47.trans (xσ49.trans (xσ50.trans (xσ52.trans (xσ55.trans (xσ57.trans (xσ58.trans xσ61)))))))))))) (by decide)).1
    have kp367 : gI σ62 o 9 = gI σ61 o 9 := (cσ62.O (ko.up (xσ40.trans (xσ41.trans (xσ42.trans (xσ43.trans (xσ47.trans (xσ49.trans (xσ50.trans (xσ52.trans (xσ55.trans (xσ57.trans (xσ58.trans xσ61)))))))))))) (by decide)).1
    have r5σ62 := I_6_5 iσ62.1 (kth.up (xσ40.trans (xσ41.trans (xσ42.trans (xσ43.trans (xσ47.trans (xσ49.trans (xσ50.trans (xσ52.trans (xσ55.trans (xσ57.trans (xσ58.trans (xσ61.trans xσ62)))))))))))))
    unfold w_X6_foldText_196
    refine i_X6_wantSign iσ62 (kth.up (xσ40.trans (xσ41.trans (xσ42.trans (xσ43.trans (xσ47.trans (xσ49.trans (xσ50.trans (xσ52.trans (xσ55.trans (xσ57.trans (xσ58.trans (xσ61.trans xσ62))))))))))))) (kp362.trans (kp343.trans (kp325.trans (kp307.trans (kp292.trans (kp119.trans (kp102.trans (kp85.trans (kp68.trans (kp52.trans (kp40.trans (kp27.trans (kp16.trans hX0))))))))))))) (kX.up (xσ40.trans (xσ41.trans (xσ42.trans (xσ43.trans (xσ47.trans (xσ49.trans (xσ50.trans (xσ52.trans (xσ55.trans (xσ57.trans (xσ58.trans (xσ61.trans xσ62))))))))))))) (((xσ40.trans (xσ41.trans (xσ42.trans (xσ43.trans (xσ47.trans (xσ49.trans (xσ50.trans (xσ52.trans (xσ55.trans (xσ57.trans (xσ58.trans (xσ61.trans xσ62)))))))))))) tx kX.1).2.2.trans gX) (by (first | omega | with_reducible assumption | with_reducible exact rng_toInt _ | with_reducible exact rng_wr _ | (unfold rng; omega) | (unfold rng at *; omega) | assumption)) (by (first | omega | with_reducible assumption | with_reducible exact rng_toInt _ | with_reducible exact rng_wr _ | (unfold rng; omega) | (unfold rng at *; omega) | assumption)) (fun σ63_1 _ iσ63_1 cσ63_1 pσ63_1 => ?_) (fun σx LLx Nx nux E ix cx ux px => hX σx LLx Nx nux E ix (fσ62.tr (cx.mo (by decide))) (ux) (by first | exact px | exact ⟨by have := px.1; omega, px.2⟩ | (first | omega | with_reducible assumption | with_reducible exact rng_toInt _ | with_reducible exact rng_wr _ | (unfold rng; omega) | (unfold rng at *; omega) | assumption)))
    intro xσ63_1
    have fσ63_1 : Fx [323, 326, 327, 331, 332, 333, 386, 387, 388, 389, 390, 6464] gr σ σ63_1 := fσ62.tr (cσ63_1.mo (by decide))
    have oxcσ63_1 : OX o σ σ63_1 := oxcσ62.tr (OX.fx cσ63_1 (by decide) (by decide)) (xσ40.trans (xσ41.trans (xσ42.trans (xσ43.trans (xσ47.trans (xσ49.trans (xσ50.trans (xσ52.trans (xσ55.trans (xσ57.trans (xσ58.trans (xσ61.trans xσ62))))))))))))
    have kp368 : gI σ63_1 J 1 = gI σ62 J 1 := (cσ63_1.O (kJ.up (xσ40.trans (xσ41.trans (xσ42.trans (xσ43.trans (xσ47.trans (xσ49.trans (xσ50.trans (xσ52.trans (xσ55.trans (xσ57.trans (xσ58.trans (xσ61.trans xσ62))))))))))))) (by decide)).1
    have kp369 : gI σ63_1 J 7 = gI σ62 J 7 := (cσ63_1.O (kJ.up (xσ40.trans (xσ41.trans (xσ42.trans (xσ43.trans (xσ47.trans (xσ49.trans (xσ50.trans (xσ52.trans (xσ55.trans (xσ57.trans (xσ58.trans (xσ61.trans xσ62))))))))))))) (by decide)).1
    have kp370 : gI σ63_1 o 11 = gI σ62 o 11 := (cσ63_1.O (ko.up (xσ40.trans (xσ41.trans (xσ42.trans (xσ43.trans (xσ47.trans (xσ49.trans (xσ50.trans (xσ52.trans (xσ55.trans (xσ57.trans (xσ58.trans (xσ61.trans xσ62))))))))))))) (by decide)).1
    have kp371 : gI σ63_1 o 13 = gI σ62 o 13 := (cσ63_1.O (ko.up (xσ40.trans (xσ41.trans (xσ42.trans (xσ43.trans (xσ47.trans (xσ49.trans (xσ50.trans (xσ52.trans (xσ55.trans (xσ57.trans (xσ58.trans (xσ61.trans xσ62))))))))))))) (by decide)).1
    have kp372 : gI σ63_1 o 4 = gI σ62 o 4 := (cσ63_1.O (ko.up (xσ40.trans (xσ41.trans (xσ42.trans (xσ43.trans (xσ47.trans (xσ49.trans (xσ50.trans (xσ52.trans (xσ55.trans (xσ57.trans (xσ58.trans (xσ61.trans xσ62))))))))))))) (by decide)).1
    have kp373 : gI σ63_1 o 6 = gI σ62 o 6 := (cσ63_1.O (ko.up (xσ40.trans (xσ41.trans (xσ42.trans (xσ43.trans (xσ47.trans (xσ49.trans (xσ50.trans (xσ52.trans (xσ55.trans (xσ57.trans (xσ58.trans (xσ61.trans xσ62))))))))))))) (by decide)).1
    have kp374 : gI σ63_1 o 7 = gI σ62 o 7 := (cσ63_1.O (ko.up (xσ40.trans (xσ41.trans (xσ42.trans (xσ43.trans (xσ47.trans (xσ49.trans (xσ50.trans (xσ52.trans (xσ55.trans (xσ57.trans (xσ58.trans (xσ61.trans xσ62))))))))))))) (by decide)).1
    have kp375 : gI σ63_1 o 8 = gI σ62 o 8 := (cσ63_1.O (ko.up (xσ40.trans (xσ41.trans (xσ42.trans (xσ43.trans (xσ47.trans (xσ49.trans (xσ50.trans (xσ52.trans (xσ55.trans (xσ57.trans (xσ58.trans (xσ61.trans xσ62))))))))))))) (by decide)).1
    have kp376 : gP σ63_1 J 0 = gP σ62 J 0 := (cσ63_1.O (kJ.up (xσ40.trans (xσ41.trans (xσ42.trans (xσ43.trans (xσ47.trans (xσ49.trans (xσ50.trans (xσ52.trans (xσ55.trans (xσ57.trans (xσ58.trans (xσ61.trans xσ62))))))))))))) (by decide)).2.1
    have kp377 : gP σ63_1 b (gI σ43 o 7).toNat = gP σ62 b (gI σ43 o 7).toNat := (cσ63_1.A (mb.up (xσ47.trans (xσ49.trans (xσ50.trans (xσ52.trans (xσ55.trans (xσ57.trans (xσ58.trans (xσ61.trans xσ62))))))))) (by decide)).2.1
    have kp378 : gP σ63_1 th 0 = gP σ62 th 0 := (cσ63_1.O (kth.up (xσ40.trans (xσ41.trans (xσ42.trans (xσ43.trans (xσ47.trans (xσ49.trans (xσ50.trans (xσ52.trans (xσ55.trans (xσ57.trans (xσ58.trans (xσ61.trans xσ62))))))))))))) (by decide)).2.1
    have kp379 : gP σ63_1 th 7 = gP σ62 th 7 := (cσ63_1.O (kth.up (xσ40.trans (xσ41.trans (xσ42.trans (xσ43.trans (xσ47.trans (xσ49.trans (xσ50.trans (xσ52.trans (xσ55.trans (xσ57.trans (xσ58.trans (xσ61.trans xσ62))))))))))))) (by decide)).2.1
    have kp380 : gP σ63_1 th 8 = gP σ62 th 8 := (cσ63_1.O (kth.up (xσ40.trans (xσ41.trans (xσ42.trans (xσ43.trans (xσ47.trans (xσ49.trans (xσ50.trans (xσ52.trans (xσ55.trans (xσ57.trans (xσ58.trans (xσ61.trans xσ62))))))))))))) (by decide)).2.1
    have kp381 : gI σ63_1 J 2 = gI σ62 J 2 := (cσ63_1.O (kJ.up (xσ40.trans (xσ41.trans (xσ42.trans (xσ43.trans (xσ47.trans (xσ49.trans (xσ50.trans (xσ52.trans (xσ55.trans (xσ57.trans (xσ58.trans (xσ61.trans xσ62))))))))))))) (by decide)).1
    have kp382 : gI σ63_1 o 3 = gI σ62 o 3 := (cσ63_1.O (ko.up (xσ40.trans (xσ41.trans (xσ42.trans (xσ43.trans (xσ47.trans (xσ49.trans (xσ50.trans (xσ52.trans (xσ55.trans (xσ57.trans (xσ58.trans (xσ61.trans xσ62))))))))))))) (by decide)).1
    have kp383 : gI σ63_1 o 9 = gI σ62 o 9 := (cσ63_1.O (ko.up (xσ40.trans (xσ41.trans (xσ42.trans (xσ43.trans (xσ47.trans (xσ49.trans (xσ50.trans (xσ52.trans (xσ55.trans (xσ57.trans (xσ58.trans (xσ61.trans xσ62))))))))))))) (by decide)).1
    have r5σ63_1 := I_6_5 iσ63_1.1 (kth.up (xσ40.trans (xσ41.trans (xσ42.trans (xσ43.trans (xσ47.trans (xσ49.trans (xσ50.trans (xσ52.trans (xσ55.trans (xσ57.trans (xσ58.trans (xσ61.trans (xσ62.trans xσ63_1))))))))))))))
    exact hQ σ63_1 () iσ63_1 fσ63_1 oxcσ63_1 (by omega)

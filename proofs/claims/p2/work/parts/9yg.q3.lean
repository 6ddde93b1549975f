set_option maxHeartbeats 1000000 in
theorem i_X6_firstInput {σ : Sg} {pl : Nat} {gq ci gr nc : Nat → Nat} {ot : Nat → Nat → Int} {LL : Nat → List Nat} {N nu : Nat → Nat} {th : Nat} {v1 : Int} {J o q c : Nat} (iσ : IV σ pl gq ci gr nc ot LL N nu) (kth : kO σ th 6) (h7 : gP σ th 7 = some J) (kJ : kO σ J 4) (h8 : gP σ th 8 = some o) (ko : kO σ o 5) (hJq : gq J = q) (hq : q ≠ nc 0 ∧ q ≤ 1) (go : gq o = 16 * q + c) (hc : c < 16) (h5 : nu 5 < 24000) (hk : 0 ≤ v1 ∧ v1 ≤ 11) {Q : Sg → Unit → Prop} {X : Sg → String → Prop} (hQ : ∀ (σ' : Sg) (r : Unit), IV σ' pl gq ci gr nc ot LL N nu → Fx [326, 327, 390] gr σ σ' → OX o σ σ' → (gI σ' o 6 = v1 ∧ (0 ≤ gI σ' o 7 ∧ gI σ' o 7 < gI σ J 1) ∧ gI σ' th 3 = gI σ th 3 ∧ gI σ' th 2 = gI σ th 2 ∧ gI σ' th 5 = gI σ th 5) → Q σ' r) (hX : ∀ (σ' : Sg) (LL' : Nat → List Nat) (N' nu' : Nat → Nat) (E : String), IV σ' pl gq ci gr nc ot LL' N' nu' → Fx [326, 327, 390] gr σ σ' → NCX nu nu' → (LL' = LL ∧ N' = N ∧ E = "java/lang/IllegalArgumentException" ∧ gI σ' th 6 ≠ 0) → X σ' E) : wp_X6_firstInput th v1 σ Q X := by
  have fσ : Fx [326, 327, 390] gr σ σ := Fx.rf
  have oxσ : OX o σ σ := OX.rf
  have ncb := iσ.ncb
  have r71 := I_4_1 iσ.1 kJ
  unfold wp_X6_firstInput
  unfold w_X6_firstInput_0
  refine ⟨o, h8, fun kk_o => ?_⟩
  intro σ8 eσ8
  have xσ8 : Ext σ σ8 := by rw [eσ8]; exact fun _ h => ⟨h, rfl, rfl⟩
  have iσ8 : IV σ8 pl gq ci gr nc ot LL N nu := by rw [eσ8]; exact iσ.wSp ko (fun i hi => by omega) (by decide) (show (0 : Int) ≤ v1 ∧ v1 ≤ 11 from ⟨by omega, by omega⟩)
  have fσ8 : Fx [326, 327, 390] gr σ σ8 := fσ.tr (Sk.fx (by rw [eσ8]; exact Sk.pI (by rw [fcdO ko (by decide)]; decide)))
  have oxcσ8 : OX o σ σ8 := oxσ.tr (by rw [eσ8]; exact OX.pI ko (Or.inr rfl)) (Ext.rfl' _)
  have wσ8 : gI σ8 o 6 = v1 := by rw [eσ8]; exact up2_s _ _ _ _
  have kp1 : gP σ8 th 7 = gP σ th 7 := by rw [eσ8]
  have kp2 : gP σ8 th 8 = gP σ th 8 := by rw [eσ8]
  have kp3 : gI σ8 th 2 = gI σ th 2 := by rw [eσ8]; exact up2_n _ _ (fun q => absurd q.2 (by decide))
  have kp4 : gI σ8 th 3 = gI σ th 3 := by rw [eσ8]; exact up2_n _ _ (fun q => absurd q.2 (by decide))
  have kp5 : gI σ8 th 5 = gI σ th 5 := by rw [eσ8]; exact up2_n _ _ (fun q => absurd q.2 (by decide))
  have kp6 : gI σ8 J 7 = gI σ J 7 := by rw [eσ8]; exact up2_n _ _ (fun q => absurd q.2 (by decide))
  have kp7 : gI σ8 J 1 = gI σ J 1 := by rw [eσ8]; exact up2_n _ _ (fun q => absurd q.2 (by decide))
  have kp8 : gI σ8 J 2 = gI σ J 2 := by rw [eσ8]; exact up2_n _ _ (fun q => absurd q.2 (by decide))
  have kp9 : gI σ8 o 3 = gI σ o 3 := by rw [eσ8]; exact up2_n _ _ (fun q => absurd q.2 (by decide))
  have kp10 : gI σ8 o 4 = gI σ o 4 := by rw [eσ8]; exact up2_n _ _ (fun q => absurd q.2 (by decide))
  have kp11 : gI σ8 o 7 = gI σ o 7 := by rw [eσ8]; exact up2_n _ _ (fun q => absurd q.2 (by decide))
  have kp12 : gI σ8 o 8 = gI σ o 8 := by rw [eσ8]; exact up2_n _ _ (fun q => absurd q.2 (by decide))
  have kp13 : gI σ8 o 9 = gI σ o 9 := by rw [eσ8]; exact up2_n _ _ (fun q => absurd q.2 (by decide))
  refine i_X6_input iσ8 (kth.up xσ8) (kp1.trans h7) (kJ.up xσ8) (by (first | omega | with_reducible assumption | with_reducible exact rng_toInt _ | with_reducible exact rng_wr _ | (unfold rng; omega) | (unfold rng at *; omega) | assumption)) (fun σ9 r10 iσ9 cσ9 pσ9 => ?_) (fun σx LLx Nx nux E ix cx ux px => hX σx LLx Nx nux E ix (fσ8.tr (cx.mo (by decide))) (ux) (by first | exact px | exact ⟨by have := px.1; omega, px.2⟩ | (first | omega | with_reducible assumption | with_reducible exact rng_toInt _ | with_reducible exact rng_wr _ | (unfold rng; omega) | (unfold rng at *; omega) | assumption)))
  intro xσ9
  have fσ9 : Fx [326, 327, 390] gr σ σ9 := fσ8.tr (cσ9.mo (by decide))
  have oxcσ9 : OX o σ σ9 := oxcσ8.tr (OX.fx cσ9 (by decide) (by decide)) (xσ8)
  have kp14 : gI σ9 o 6 = gI σ8 o 6 := (cσ9.O (ko.up xσ8) (by decide)).1
  have kp15 : gP σ9 th 7 = gP σ8 th 7 := (cσ9.O (kth.up xσ8) (by decide)).2.1
  have kp16 : gP σ9 th 8 = gP σ8 th 8 := (cσ9.O (kth.up xσ8) (by decide)).2.1
  have kp17 : gI σ9 th 2 = gI σ8 th 2 := (cσ9.O (kth.up xσ8) (by decide)).1
  have kp18 : gI σ9 th 3 = gI σ8 th 3 := (cσ9.O (kth.up xσ8) (by decide)).1
  have kp19 : gI σ9 th 5 = gI σ8 th 5 := (cσ9.O (kth.up xσ8) (by decide)).1
  have kp20 : gI σ9 J 7 = gI σ8 J 7 := (cσ9.O (kJ.up xσ8) (by decide)).1
  have kp21 : gI σ9 J 1 = gI σ8 J 1 := (cσ9.O (kJ.up xσ8) (by decide)).1
  have kp22 : gI σ9 J 2 = gI σ8 J 2 := (cσ9.O (kJ.up xσ8) (by decide)).1
  have kp23 : gI σ9 o 3 = gI σ8 o 3 := (cσ9.O (ko.up xσ8) (by decide)).1
  have kp24 : gI σ9 o 4 = gI σ8 o 4 := (cσ9.O (ko.up xσ8) (by decide)).1
  have kp25 : gI σ9 o 7 = gI σ8 o 7 := (cσ9.O (ko.up xσ8) (by decide)).1
  have kp26 : gI σ9 o 8 = gI σ8 o 8 := (cσ9.O (ko.up xσ8) (by decide)).1
  have kp27 : gI σ9 o 9 = gI σ8 o 9 := (cσ9.O (ko.up xσ8) (by decide)).1
  refine ⟨o, (kp2.trans h8), fun kk_o_1 => ?_⟩
  intro σ12 eσ12
  have xσ12 : Ext σ9 σ12 := by rw [eσ12]; exact fun _ h => ⟨h, rfl, rfl⟩
  have iσ12 : IV σ12 pl gq ci gr nc ot LL N nu := by rw [eσ12]; exact iσ9.wSp (ko.up (xσ8.trans xσ9)) (fun i hi => by omega) (by decide) (show (-1 : Int) ≤ r10 ∧ r10 ≤ 15 from ⟨by omega, by omega⟩)
  have fσ12 : Fx [326, 327, 390] gr σ σ12 := fσ9.tr (Sk.fx (by rw [eσ12]; exact Sk.pI (by rw [fcdO (ko.up (xσ8.trans xσ9)) (by decide)]; decide)))
  have oxcσ12 : OX o σ σ12 := oxcσ9.tr (by rw [eσ12]; exact OX.pI (ko.up (xσ8.trans xσ9)) (Or.inr rfl)) (xσ8.trans xσ9)
  have wσ12 : gI σ12 o 7 = r10 := by rw [eσ12]; exact up2_s _ _ _ _
  have kp28 : gI σ12 o 6 = gI σ9 o 6 := by rw [eσ12]; exact up2_n _ _ (fun q => absurd q.2 (by decide))
  have kp29 : gP σ12 th 7 = gP σ9 th 7 := by rw [eσ12]
  have kp30 : gP σ12 th 8 = gP σ9 th 8 := by rw [eσ12]
  have kp31 : gI σ12 th 2 = gI σ9 th 2 := by rw [eσ12]; exact up2_n _ _ (fun q => absurd q.2 (by decide))
  have kp32 : gI σ12 th 3 = gI σ9 th 3 := by rw [eσ12]; exact up2_n _ _ (fun q => absurd q.2 (by decide))
  have kp33 : gI σ12 th 5 = gI σ9 th 5 := by rw [eσ12]; exact up2_n _ _ (fun q => absurd q.2 (by decide))
  have kp34 : gI σ12 J 7 = gI σ9 J 7 := by rw [eσ12]; exact up2_n _ _ (fun q => absurd q.1 (kO.ne (kJ.up (xσ8.trans xσ9)) (ko.up (xσ8.trans xσ9)) (by decide)))
  have kp35 : gI σ12 J 1 = gI σ9 J 1 := by rw [eσ12]; exact up2_n _ _ (fun q => absurd q.2 (by decide))
  have kp36 : gI σ12 J 2 = gI σ9 J 2 := by rw [eσ12]; exact up2_n _ _ (fun q => absurd q.2 (by decide))
  have kp37 : gI σ12 o 3 = gI σ9 o 3 := by rw [eσ12]; exact up2_n _ _ (fun q => absurd q.2 (by decide))
  have kp38 : gI σ12 o 4 = gI σ9 o 4 := by rw [eσ12]; exact up2_n _ _ (fun q => absurd q.2 (by decide))
  have kp39 : gI σ12 o 8 = gI σ9 o 8 := by rw [eσ12]; exact up2_n _ _ (fun q => absurd q.2 (by decide))
  have kp40 : gI σ12 o 9 = gI σ9 o 9 := by rw [eσ12]; exact up2_n _ _ (fun q => absurd q.2 (by decide))
  exact hQ σ12 () iσ12 fσ12 oxcσ12 (by (first | omega | with_reducible assumption | with_reducible exact rng_toInt _ | with_reducible exact rng_wr _ | (unfold rng; omega) | (unfold rng at *; omega) | assumption))
set_option maxHeartbeats 4000000 in
theorem i_X6_sourceText {σ : Sg} {pl : Nat} {gq ci gr nc : Nat → Nat} {ot : Nat → Nat → Int} {LL : Nat → List Nat} {N nu : Nat → Nat} {th : Nat} {tx J o q c : Nat} (iσ : IV σ pl gq ci gr nc ot LL N nu) (kth : kO σ th 6) (hX0 : gP σ th 0 = some tx) (kX : kO σ tx 102) (gX : gn σ tx = 1500) (h7 : gP σ th 7 = some J) (kJ : kO σ J 4) (h8 : gP σ th 8 = some o) (ko : kO σ o 5) (hJq : gq J = q) (hq : q ≠ nc 0 ∧ q ≤ 1) (go : gq o = 16 * q + c) (hc : c < 16) (cJ : gI σ J 1 = (c : Int)) (tf : gI σ th 5 ≤ gI σ th 2 ∧ (gI σ th 3 ≠ 0 → gI σ th 5 + 1 ≤ gI σ th 2)) (h5 : nu 5 < 24000) (lp : gI σ J 7 ≤ 2 * gI σ th 5) (f0 : gI σ o 3 = 0 ∧ gI σ o 4 = 0 ∧ gI σ o 7 = -1 ∧ gI σ o 8 = -1) {Q : Sg → Unit → Prop} {X : Sg → String → Prop} (hQ : ∀ (σ' : Sg) (r : Unit), IV σ' pl gq ci gr nc ot LL N nu → Fx [323, 326, 329, 330, 386, 387, 388, 389, 390, 6464, 8320] gr σ σ' → OX o σ σ' → ((gI σ' th 5 ≤ gI σ' th 2 ∧ (gI σ' th 3 ≠ 0 → gI σ' th 5 + 1 ≤ gI σ' th 2)) ∧ gI σ' J 7 ≤ 2 * gI σ' th 5 ∧ OPR σ σ' gq q c o) → Q σ' r) (hX : ∀ (σ' : Sg) (LL' : Nat → List Nat) (N' nu' : Nat → Nat) (E : String), IV σ' pl gq ci gr nc ot LL' N' nu' → Fx [323, 326, 329, 330, 386, 387, 388, 389, 390, 6464, 8320] gr σ σ' → NCX nu nu' → (LL' = LL ∧ N' = N ∧ E = "java/lang/IllegalArgumentException" ∧ gI σ' th 6 ≠ 0) → X σ' E) : wp_X6_sourceText th σ Q X := by
  have fσ : Fx [323, 326, 329, 330, 386, 387, 388, 389, 390, 6464, 8320] gr σ σ := Fx.rf
  have oxσ : OX o σ σ := OX.rf
  have q1 := I_4_1 iσ.1 kJ
  have q2 := I_6_5 iσ.1 kth
  have q3 := I_6_2 iσ.1 kth
  have q4 := iσ.rg th 3; unfold rng at q4
  have q5 := I_4_7 iσ.1 kJ
  have q6 := I_5_3 iσ.1 ko
  have q7 := I_5_4 iσ.1 ko
  have q8 := I_5_7 iσ.1 ko
  have q9 := I_5_8 iσ.1 ko
  have ncb := iσ.ncb
  have r70 := I_4_7 iσ.1 kJ
  have r71 := I_4_1 iσ.1 kJ
  unfold wp_X6_sourceText
  unfold w_X6_sourceText_0
  refine i_X6_next iσ kth hX0 kX (((Ext.rfl' _) tx kX.1).2.2.trans gX) (by (first | omega | with_reducible assumption | with_reducible exact rng_toInt _ | with_reducible exact rng_wr _ | (unfold rng; omega) | (unfold rng at *; omega) | assumption)) (by (first | omega | with_reducible assumption | with_reducible exact rng_toInt _ | with_reducible exact rng_wr _ | (unfold rng; omega) | (unfold rng at *; omega) | assumption)) (fun σ27 _ iσ27 cσ27 pσ27 => ?_) (fun σx LLx Nx nux E ix cx ux px => hX σx LLx Nx nux E ix (fσ.tr (cx.mo (by decide))) (ux) (by first | exact px | exact ⟨by have := px.1; omega, px.2⟩ | (first | omega | with_reducible assumption | with_reducible exact rng_toInt _ | with_reducible exact rng_wr _ | (unfold rng; omega) | (unfold rng at *; omega) | assumption)))
  intro xσ27
  have fσ27 : Fx [323, 326, 329, 330, 386, 387, 388, 389, 390, 6464, 8320] gr σ σ27 := fσ.tr (cσ27.mo (by decide))
  have oxcσ27 : OX o σ σ27 := oxσ.tr (OX.fx cσ27 (by decide) (by decide)) (Ext.rfl' _)
  have kp10 : Kpt (gI σ27 J 1 = gI σ J 1) := (show gI σ27 J 1 = gI σ J 1 from (cσ27.O kJ (by decide)).1)
  have kp11 : Kpt (gI σ27 J 7 = gI σ J 7) := (show gI σ27 J 7 = gI σ J 7 from (cσ27.O kJ (by decide)).1)
  have kp12 : Kpt (gI σ27 o 3 = gI σ o 3) := (show gI σ27 o 3 = gI σ o 3 from (cσ27.O ko (by decide)).1)
  have kp13 : Kpt (gI σ27 o 4 = gI σ o 4) := (show gI σ27 o 4 = gI σ o 4 from (cσ27.O ko (by decide)).1)
  have kp14 : Kpt (gI σ27 o 7 = gI σ o 7) := (show gI σ27 o 7 = gI σ o 7 from (cσ27.O ko (by decide)).1)
  have kp15 : Kpt (gI σ27 o 8 = gI σ o 8) := (show gI σ27 o 8 = gI σ o 8 from (cσ27.O ko (by decide)).1)
  have kp16 : gP σ27 th 0 = gP σ th 0 := (cσ27.O kth (by decide)).2.1
  have kp17 : gP σ27 th 7 = gP σ th 7 := (cσ27.O kth (by decide)).2.1
  have kp18 : gP σ27 th 8 = gP σ th 8 := (cσ27.O kth (by decide)).2.1
  have kp19 : Kpt (gI σ27 J 2 = gI σ J 2) := (show gI σ27 J 2 = gI σ J 2 from (cσ27.O kJ (by decide)).1)
  have kp20 : Kpt (gI σ27 o 6 = gI σ o 6) := (show gI σ27 o 6 = gI σ o 6 from (cσ27.O ko (by decide)).1)
  have kp21 : Kpt (gI σ27 o 9 = gI σ o 9) := (show gI σ27 o 9 = gI σ o 9 from (cσ27.O ko (by decide)).1)
  have r5σ27 := I_6_5 iσ27.1 (kth.up xσ27)
  have ho22 : gI σ27 J 7 = gI σ J 7 := kp11
  have cp23 : (gI σ27 th 5 ≤ gI σ27 th 2 ∧ (gI σ27 th 3 ≠ 0 → gI σ27 th 5 + 1 ≤ gI σ27 th 2)) ∧ gI σ27 J 7 ≤ 2 * gI σ27 th 5 ∧ 0 ≤ gI σ27 th 5 := by omega
  clear pσ27 q3 q2
  refine ⟨o, (kp18.trans h8), fun kk_o => ?_⟩
  intro σ29 eσ29
  have xσ29 : Ext σ27 σ29 := by rw [eσ29]; exact fun _ h => ⟨h, rfl, rfl⟩
  have iσ29 : IV σ29 pl gq ci gr nc ot LL N nu := by rw [eσ29]; exact iσ27.wSp (ko.up xσ27) (fun i hi => by omega) (by decide) (show (0 : Int) ≤ 0 ∧ 0 ≤ 11 from ⟨by omega, by omega⟩)
  have fσ29 : Fx [323, 326, 329, 330, 386, 387, 388, 389, 390, 6464, 8320] gr σ σ29 := fσ27.tr (Sk.fx (by rw [eσ29]; exact Sk.pI (by rw [fcdO (ko.up xσ27) (by decide)]; decide)))
  have oxcσ29 : OX o σ σ29 := oxcσ27.tr (by rw [eσ29]; exact OX.pI (ko.up xσ27) (Or.inr rfl)) (xσ27)
  have wσ29 : gI σ29 o 6 = 0 := by rw [eσ29]; exact up2_s _ _ _ _
  have kp24 : gP σ29 th 0 = gP σ27 th 0 := by rw [eσ29]
  have kp25 : gP σ29 th 7 = gP σ27 th 7 := by rw [eσ29]
  have kp26 : gP σ29 th 8 = gP σ27 th 8 := by rw [eσ29]
  have kp27 : gI σ29 th 2 = gI σ27 th 2 := by rw [eσ29]; exact up2_n _ _ (fun q => absurd q.2 (by decide))
  have kp28 : gI σ29 th 3 = gI σ27 th 3 := by rw [eσ29]; exact up2_n _ _ (fun q => absurd q.2 (by decide))
  have kp29 : gI σ29 th 5 = gI σ27 th 5 := by rw [eσ29]; exact up2_n _ _ (fun q => absurd q.2 (by decide))
  have kp30 : Kpt (gI σ29 J 7 = gI σ J 7) := Eq.trans (show gI σ29 J 7 = gI σ27 J 7 from by rw [eσ29]; exact up2_n _ _ (fun q => absurd q.2 (by decide))) kp11
  have kp31 : Kpt (gI σ29 J 1 = gI σ J 1) := Eq.trans (show gI σ29 J 1 = gI σ27 J 1 from by rw [eσ29]; exact up2_n _ _ (fun q => absurd q.2 (by decide))) kp10
  have kp32 : Kpt (gI σ29 J 2 = gI σ J 2) := Eq.trans (show gI σ29 J 2 = gI σ27 J 2 from by rw [eσ29]; exact up2_n _ _ (fun q => absurd q.2 (by decide))) kp19
  have kp33 : Kpt (gI σ29 o 3 = gI σ o 3) := Eq.trans (show gI σ29 o 3 = gI σ27 o 3 from by rw [eσ29]; exact up2_n _ _ (fun q => absurd q.2 (by decide))) kp12
  have kp34 : Kpt (gI σ29 o 4 = gI σ o 4) := Eq.trans (show gI σ29 o 4 = gI σ27 o 4 from by rw [eσ29]; exact up2_n _ _ (fun q => absurd q.2 (by decide))) kp13
  have kp35 : Kpt (gI σ29 o 7 = gI σ o 7) := Eq.trans (show gI σ29 o 7 = gI σ27 o 7 from by rw [eσ29]; exact up2_n _ _ (fun q => absurd q.2 (by decide))) kp14
  have kp36 : Kpt (gI σ29 o 8 = gI σ o 8) := Eq.trans (show gI σ29 o 8 = gI σ27 o 8 from by rw [eσ29]; exact up2_n _ _ (fun q => absurd q.2 (by decide))) kp15
  have kp37 : Kpt (gI σ29 o 9 = gI σ o 9) := Eq.trans (show gI σ29 o 9 = gI σ27 o 9 from by rw [eσ29]; exact up2_n _ _ (fun q => absurd q.2 (by decide))) kp21
  refine i_X6_number iσ29 (kth.up (xσ27.trans xσ29)) (by (first | omega | with_reducible assumption | with_reducible exact rng_toInt _ | with_reducible exact rng_wr _ | (unfold rng; omega) | (unfold rng at *; omega) | assumption)) (by (first | omega | with_reducible assumption | with_reducible exact rng_toInt _ | with_reducible exact rng_wr _ | (unfold rng; omega) | (unfold rng at *; omega) | assumption)) (fun σ30 r31 iσ30 cσ30 pσ30 => ?_) (fun σx LLx Nx nux E ix cx ux px => hX σx LLx Nx nux E ix (fσ29.tr (cx.mo (by decide))) (ux) (by first | exact px | exact ⟨by have := px.1; omega, px.2⟩ | (first | omega | with_reducible assumption | with_reducible exact rng_toInt _ | with_reducible exact rng_wr _ | (unfold rng; omega) | (unfold rng at *; omega) | assumption)))
  intro xσ30
  have fσ30 : Fx [323, 326, 329, 330, 386, 387, 388, 389, 390, 6464, 8320] gr σ σ30 := fσ29.tr (cσ30.mo (by decide))
  have oxcσ30 : OX o σ σ30 := oxcσ29.tr (OX.fx cσ30 (by decide) (by decide)) (xσ27.trans xσ29)
  have kp38 : Kpt (gI σ30 o 6 = gI σ29 o 6) := (show gI σ30 o 6 = gI σ29 o 6 from (cσ30.O (ko.up (xσ27.trans xσ29)) (by decide)).1)
  have kp39 : gP σ30 th 0 = gP σ29 th 0 := (cσ30.O (kth.up (xσ27.trans xσ29)) (by decide)).2.1
  have kp40 : gP σ30 th 7 = gP σ29 th 7 := (cσ30.O (kth.up (xσ27.trans xσ29)) (by decide)).2.1
  have kp41 : gP σ30 th 8 = gP σ29 th 8 := (cσ30.O (kth.up (xσ27.trans xσ29)) (by decide)).2.1
  have kp42 : gI σ30 th 2 = gI σ29 th 2 := (cσ30.O (kth.up (xσ27.trans xσ29)) (by decide)).1
  have kp43 : gI σ30 th 3 = gI σ29 th 3 := (cσ30.O (kth.up (xσ27.trans xσ29)) (by decide)).1
  have kp44 : gI σ30 th 5 = gI σ29 th 5 := (cσ30.O (kth.up (xσ27.trans xσ29)) (by decide)).1
  have kp45 : Kpt (gI σ30 J 7 = gI σ J 7) := Eq.trans (show gI σ30 J 7 = gI σ29 J 7 from (cσ30.O (kJ.up (xσ27.trans xσ29)) (by decide)).1) kp30
  have kp46 : Kpt (gI σ30 J 1 = gI σ J 1) := Eq.trans (show gI σ30 J 1 = gI σ29 J 1 from (cσ30.O (kJ.up (xσ27.trans xσ29)) (by decide)).1) kp31
  have kp47 : Kpt (gI σ30 J 2 = gI σ J 2) := Eq.trans (show gI σ30 J 2 = gI σ29 J 2 from (cσ30.O (kJ.up (xσ27.trans xσ29)) (by decide)).1) kp32
  have kp48 : Kpt (gI σ30 o 3 = gI σ o 3) := Eq.trans (show gI σ30 o 3 = gI σ29 o 3 from (cσ30.O (ko.up (xσ27.trans xσ29)) (by decide)).1) kp33
  have kp49 : Kpt (gI σ30 o 4 = gI σ o 4) := Eq.trans (show gI σ30 o 4 = gI σ29 o 4 from (cσ30.O (ko.up (xσ27.trans xσ29)) (by decide)).1) kp34
  have kp50 : Kpt (gI σ30 o 7 = gI σ o 7) := Eq.trans (show gI σ30 o 7 = gI σ29 o 7 from (cσ30.O (ko.up (xσ27.trans xσ29)) (by decide)).1) kp35
  have kp51 : Kpt (gI σ30 o 8 = gI σ o 8) := Eq.trans (show gI σ30 o 8 = gI σ29 o 8 from (cσ30.O (ko.up (xσ27.trans xσ29)) (by decide)).1) kp36
  have kp52 : Kpt (gI σ30 o 9 = gI σ o 9) := Eq.trans (show gI σ30 o 9 = gI σ29 o 9 from (cσ30.O (ko.up (xσ27.trans xσ29)) (by decide)).1) kp37
  refine ⟨o, (kp26.trans (kp18.trans h8)), fun kk_o_1 => ?_⟩
  intro σ33 eσ33
  have xσ33 : Ext σ30 σ33 := by rw [eσ33]; exact fun _ h => ⟨h, rfl, rfl⟩
  have iσ33 : IV σ33 pl gq ci gr nc ot LL N nu := by rw [eσ33]; exact iσ30.wSp (ko.up (xσ27.trans (xσ29.trans xσ30))) (fun i hi => by omega) (by decide) (show (0 : Int) ≤ r31 ∧ r31 ≤ 9 from ⟨by omega, by omega⟩)
  have fσ33 : Fx [323, 326, 329, 330, 386, 387, 388, 389, 390, 6464, 8320] gr σ σ33 := fσ30.tr (Sk.fx (by rw [eσ33]; exact Sk.pI (by rw [fcdO (ko.up (xσ27.trans (xσ29.trans xσ30))) (by decide)]; decide)))
  have oxcσ33 : OX o σ σ33 := oxcσ30.tr (by rw [eσ33]; exact OX.pI (ko.up (xσ27.trans (xσ29.trans xσ30))) (Or.inr rfl)) (xσ27.trans (xσ29.trans xσ30))
  have wσ33 : gI σ33 o 9 = r31 := by rw [eσ33]; exact up2_s _ _ _ _
  have kp53 : gP σ33 th 0 = gP σ30 th 0 := by rw [eσ33]
  have kp54 : gP σ33 th 7 = gP σ30 th 7 := by rw [eσ33]
  have kp55 : gP σ33 th 8 = gP σ30 th 8 := by rw [eσ33]
  have kp56 : gI σ33 th 2 = gI σ30 th 2 := by rw [eσ33]; exact up2_n _ _ (fun q => absurd q.2 (by decide))
  have kp57 : gI σ33 th 3 = gI σ30 th 3 := by rw [eσ33]; exact up2_n _ _ (fun q => absurd q.2 (by decide))
  have kp58 : gI σ33 th 5 = gI σ30 th 5 := by rw [eσ33]; exact up2_n _ _ (fun q => absurd q.2 (by decide))
  have kp59 : Kpt (gI σ33 J 7 = gI σ J 7) := Eq.trans (show gI σ33 J 7 = gI σ30 J 7 from by rw [eσ33]; exact up2_n _ _ (fun q => absurd q.2 (by decide))) kp45
  have kp60 : Kpt (gI σ33 J 1 = gI σ J 1) := Eq.trans (show gI σ33 J 1 = gI σ30 J 1 from by rw [eσ33]; exact up2_n _ _ (fun q => absurd q.2 (by decide))) kp46
  have kp61 : Kpt (gI σ33 J 2 = gI σ J 2) := Eq.trans (show gI σ33 J 2 = gI σ30 J 2 from by rw [eσ33]; exact up2_n _ _ (fun q => absurd q.2 (by decide))) kp47
  have kp62 : Kpt (gI σ33 o 3 = gI σ o 3) := Eq.trans (show gI σ33 o 3 = gI σ30 o 3 from by rw [eσ33]; exact up2_n _ _ (fun q => absurd q.2 (by decide))) kp48
  have kp63 : Kpt (gI σ33 o 4 = gI σ o 4) := Eq.trans (show gI σ33 o 4 = gI σ30 o 4 from by rw [eσ33]; exact up2_n _ _ (fun q => absurd q.2 (by decide))) kp49
  have kp64 : Kpt (gI σ33 o 6 = gI σ29 o 6) := Eq.trans (show gI σ33 o 6 = gI σ30 o 6 from by rw [eσ33]; exact up2_n _ _ (fun q => absurd q.2 (by decide))) kp38
  have kp65 : Kpt (gI σ33 o 7 = gI σ o 7) := Eq.trans (show gI σ33 o 7 = gI σ30 o 7 from by rw [eσ33]; exact up2_n _ _ (fun q => absurd q.2 (by decide))) kp50
  have kp66 : Kpt (gI σ33 o 8 = gI σ o 8) := Eq.trans (show gI σ33 o 8 = gI σ30 o 8 from by rw [eσ33]; exact up2_n _ _ (fun q => absurd q.2 (by decide))) kp51
  refine ⟨J, (kp54.trans (kp40.trans (kp25.trans (kp17.trans h7)))), fun kk_J => ?_⟩
  refine ⟨o, (kp55.trans (kp41.trans (kp26.trans (kp18.trans h8)))), fun kk_o_2 => ?_⟩
  obtain ⟨b, eb, fb⟩ := P_4_4 iσ33.1 (kJ.up (xσ27.trans (xσ29.trans (xσ30.trans xσ33))))
  have mb : kO σ33 b 100 := iσ33.1.kd (kJ.up (xσ27.trans (xσ29.trans (xσ30.trans xσ33)))) rfl eb rfl
  refine ⟨b, eb, fun kk_b => ?_⟩
  refine ⟨⟨by (first | omega | with_reducible assumption | with_reducible exact rng_toInt _ | with_reducible exact rng_wr _ | (unfold rng; omega) | (unfold rng at *; omega) | assumption), by (first | omega | with_reducible assumption | with_reducible exact rng_toInt _ | with_reducible exact rng_wr _ | (unfold rng; omega) | (unfold rng at *; omega) | assumption)⟩, ?_⟩
  have q68 := iσ33.rg b (gI σ33 o 9).toNat; unfold rng at q68
  by_cases hc67 : (gI σ33 b (gI σ33 o 9).toNat) = (-1)
  · rw [if_pos hc67]
    unfold w_X6_sourceText_50
    refine ⟨J, (kp54.trans (kp40.trans (kp25.trans (kp17.trans h7)))), fun kk_J_1 => ?_⟩
    refine ⟨o, (kp55.trans (kp41.trans (kp26.trans (kp18.trans h8)))), fun kk_o_3 => ?_⟩
    refine ⟨b, eb, fun kk_b_1 => ?_⟩
    refine ⟨⟨by (first | omega | with_reducible assumption | with_reducible exact rng_toInt _ | with_reducible exact rng_wr _ | (unfold rng; omega) | (unfold rng at *; omega) | assumption), by (first | omega | with_reducible assumption | with_reducible exact rng_toInt _ | with_reducible exact rng_wr _ | (unfold rng; omega) | (unfold rng at *; omega) | assumption)⟩, ?_⟩
    intro σ41 eσ41
    have xσ41 : Ext σ33 σ41 := by rw [eσ41]; exact fun _ h => ⟨h, rfl, rfl⟩
    have ho69 : gI σ33 J 1 = gI σ J 1 := kp60
    have q70 := I_4_1 iσ33.1 (kJ.up (xσ27.trans (xσ29.trans (xσ30.trans xσ33))))
    have iσ41 : IV σ41 pl gq ci gr nc ot LL N nu := by rw [eσ41]; exact iσ33.wA0 mb (by (first | omega | with_reducible assumption | with_reducible exact rng_toInt _ | with_reducible exact rng_wr _ | (unfold rng; omega) | (unfold rng at *; omega) | assumption)) (by first | exact rng_wr _ | (first | omega | with_reducible assumption | with_reducible exact rng_toInt _ | with_reducible exact rng_wr _ | (unfold rng; omega) | (unfold rng at *; omega) | assumption))
    have fσ41 : Fx [323, 326, 329, 330, 386, 387, 388, 389, 390, 6464, 8320] gr σ σ41 := fσ33.tr (Sk.fx (by rw [eσ41]; exact Sk.pI (by rw [fcdI mb, show gr b = 0 from by (first | omega | with_reducible assumption | with_reducible exact rng_toInt _ | with_reducible exact rng_wr _ | (unfold rng; omega) | (unfold rng at *; omega) | assumption)]; decide)))
    have oxcσ41 : OX o σ σ41 := oxcσ33.tr (by rw [eσ41]; exact OX.pI mb (Or.inl (by decide))) (xσ27.trans (xσ29.trans (xσ30.trans xσ33)))
    have wσ41 : gI σ41 b (gI σ33 o 9).toNat = (gI σ33 J 1) := by rw [eσ41]; exact up2_s _ _ _ _
    have kp71 : Kpt (gI σ41 J 1 = gI σ J 1) := Eq.trans (show gI σ41 J 1 = gI σ33 J 1 from by rw [eσ41]; exact up2_n _ _ (fun q => absurd q.1 (kO.ne (kJ.up (xσ27.trans (xσ29.trans (xσ30.trans xσ33)))) mb (by decide)))) kp60
    have kp72 : Kpt (gI σ41 o 9 = gI σ33 o 9) := (show gI σ41 o 9 = gI σ33 o 9 from by rw [eσ41]; exact up2_n _ _ (fun q => absurd q.1 (kO.ne (ko.up (xσ27.trans (xσ29.trans (xσ30.trans xσ33)))) mb (by decide))))
    have kp73 : gP σ41 J 4 = gP σ33 J 4 := by rw [eσ41]
    have kp74 : gP σ41 th 0 = gP σ33 th 0 := by rw [eσ41]
    have kp75 : gP σ41 th 7 = gP σ33 th 7 := by rw [eσ41]
    have kp76 : gP σ41 th 8 = gP σ33 th 8 := by rw [eσ41]
    have kp77 : gI σ41 th 2 = gI σ33 th 2 := by rw [eσ41]; exact up2_n _ _ (fun q => absurd q.1 (kO.ne (kth.up (xσ27.trans (xσ29.trans (xσ30.trans xσ33)))) mb (by decide)))
    have kp78 : gI σ41 th 3 = gI σ33 th 3 := by rw [eσ41]; exact up2_n _ _ (fun q => absurd q.1 (kO.ne (kth.up (xσ27.trans (xσ29.trans (xσ30.trans xσ33)))) mb (by decide)))
    have kp79 : gI σ41 th 5 = gI σ33 th 5 := by rw [eσ41]; exact up2_n _ _ (fun q => absurd q.1 (kO.ne (kth.up (xσ27.trans (xσ29.trans (xσ30.trans xσ33)))) mb (by decide)))
    have kp80 : Kpt (gI σ41 J 7 = gI σ J 7) := Eq.trans (show gI σ41 J 7 = gI σ33 J 7 from by rw [eσ41]; exact up2_n _ _ (fun q => absurd q.1 (kO.ne (kJ.up (xσ27.trans (xσ29.trans (xσ30.trans xσ33)))) mb (by decide)))) kp59
    have kp81 : Kpt (gI σ41 J 2 = gI σ J 2) := Eq.trans (show gI σ41 J 2 = gI σ33 J 2 from by rw [eσ41]; exact up2_n _ _ (fun q => absurd q.1 (kO.ne (kJ.up (xσ27.trans (xσ29.trans (xσ30.trans xσ33)))) mb (by decide)))) kp61
    have kp82 : Kpt (gI σ41 o 3 = gI σ o 3) := Eq.trans (show gI σ41 o 3 = gI σ33 o 3 from by rw [eσ41]; exact up2_n _ _ (fun q => absurd q.1 (kO.ne (ko.up (xσ27.trans (xσ29.trans (xσ30.trans xσ33)))) mb (by decide)))) kp62
    have kp83 : Kpt (gI σ41 o 4 = gI σ o 4) := Eq.trans (show gI σ41 o 4 = gI σ33 o 4 from by rw [eσ41]; exact up2_n _ _ (fun q => absurd q.1 (kO.ne (ko.up (xσ27.trans (xσ29.trans (xσ30.trans xσ33)))) mb (by decide)))) kp63
    have kp84 : Kpt (gI σ41 o 6 = gI σ29 o 6) := Eq.trans (show gI σ41 o 6 = gI σ33 o 6 from by rw [eσ41]; exact up2_n _ _ (fun q => absurd q.1 (kO.ne (ko.up (xσ27.trans (xσ29.trans (xσ30.trans xσ33)))) mb (by decide)))) kp64
    have kp85 : Kpt (gI σ41 o 7 = gI σ o 7) := Eq.trans (show gI σ41 o 7 = gI σ33 o 7 from by rw [eσ41]; exact up2_n _ _ (fun q => absurd q.1 (kO.ne (ko.up (xσ27.trans (xσ29.trans (xσ30.trans xσ33)))) mb (by decide)))) kp65
    have kp86 : Kpt (gI σ41 o 8 = gI σ o 8) := Eq.trans (show gI σ41 o 8 = gI σ33 o 8 from by rw [eσ41]; exact up2_n _ _ (fun q => absurd q.1 (kO.ne (ko.up (xσ27.trans (xσ29.trans (xσ30.trans xσ33)))) mb (by decide)))) kp66
    refine i_X6_next iσ41 (kth.up (xσ27.trans (xσ29.trans (xσ30.trans (xσ33.trans xσ41))))) (kp74.trans (kp53.trans (kp39.trans (kp24.trans (kp16.trans hX0))))) (kX.up (xσ27.trans (xσ29.trans (xσ30.trans (xσ33.trans xσ41))))) (((xσ27.trans (xσ29.trans (xσ30.trans (xσ33.trans xσ41)))) tx kX.1).2.2.trans gX) (by (first | omega | with_reducible assumption | with_reducible exact rng_toInt _ | with_reducible exact rng_wr _ | (unfold rng; omega) | (unfold rng at *; omega) | assumption)) (by (first | omega | with_reducible assumption | with_reducible exact rng_toInt _ | with_reducible exact rng_wr _ | (unfold rng; omega) | (unfold rng at *; omega) | assumption)) (fun σ42 _ iσ42 cσ42 pσ42 => ?_) (fun σx LLx Nx nux E ix cx ux px => hX σx LLx Nx nux E ix (fσ41.tr (cx.mo (by decide))) (ux) (by first | exact px | exact ⟨by have := px.1; omega, px.2⟩ | (first | omega | with_reducible assumption | with_reducible exact rng_toInt _ | with_reducible exact rng_wr _ | (unfold rng; omega) | (unfold rng at *; omega) | assumption)))
    intro xσ42
    have fσ42 : Fx [323, 326, 329, 330, 386, 387, 388, 389, 390, 6464, 8320] gr σ σ42 := fσ41.tr (cσ42.mo (by decide))
    have oxcσ42 : OX o σ σ42 := oxcσ41.tr (OX.fx cσ42 (by decide) (by decide)) (xσ27.trans (xσ29.trans (xσ30.trans (xσ33.trans xσ41))))
    have kp87 : gP σ42 J 4 = gP σ41 J 4 := (cσ42.O (kJ.up (xσ27.trans (xσ29.trans (xσ30.trans (xσ33.trans xσ41))))) (by decide)).2.1
    have kp88 : gP σ42 th 0 = gP σ41 th 0 := (cσ42.O (kth.up (xσ27.trans (xσ29.trans (xσ30.trans (xσ33.trans xσ41))))) (by decide)).2.1
    have kp89 : gP σ42 th 7 = gP σ41 th 7 := (cσ42.O (kth.up (xσ27.trans (xσ29.trans (xσ30.trans (xσ33.trans xσ41))))) (by decide)).2.1
    have kp90 : gP σ42 th 8 = gP σ41 th 8 := (cσ42.O (kth.up (xσ27.trans (xσ29.trans (xσ30.trans (xσ33.trans xσ41))))) (by decide)).2.1
    have kp91 : Kpt (gI σ42 J 7 = gI σ J 7) := Eq.trans (show gI σ42 J 7 = gI σ41 J 7 from (cσ42.O (kJ.up (xσ27.trans (xσ29.trans (xσ30.trans (xσ33.trans xσ41))))) (by decide)).1) kp80
    have kp92 : Kpt (gI σ42 J 1 = gI σ J 1) := Eq.trans (show gI σ42 J 1 = gI σ41 J 1 from (cσ42.O (kJ.up (xσ27.trans (xσ29.trans (xσ30.trans (xσ33.trans xσ41))))) (by decide)).1) kp71
    have kp93 : Kpt (gI σ42 J 2 = gI σ J 2) := Eq.trans (show gI σ42 J 2 = gI σ41 J 2 from (cσ42.O (kJ.up (xσ27.trans (xσ29.trans (xσ30.trans (xσ33.trans xσ41))))) (by decide)).1) kp81
    have kp94 : Kpt (gI σ42 o 3 = gI σ o 3) := Eq.trans (show gI σ42 o 3 = gI σ41 o 3 from (cσ42.O (ko.up (xσ27.trans (xσ29.trans (xσ30.trans (xσ33.trans xσ41))))) (by decide)).1) kp82
    have kp95 : Kpt (gI σ42 o 4 = gI σ o 4) := Eq.trans (show gI σ42 o 4 = gI σ41 o 4 from (cσ42.O (ko.up (xσ27.trans (xσ29.trans (xσ30.trans (xσ33.trans xσ41))))) (by decide)).1) kp83
    have kp96 : Kpt (gI σ42 o 6 = gI σ29 o 6) := Eq.trans (show gI σ42 o 6 = gI σ41 o 6 from (cσ42.O (ko.up (xσ27.trans (xσ29.trans (xσ30.trans (xσ33.trans xσ41))))) (by decide)).1) kp84
    have kp97 : Kpt (gI σ42 o 7 = gI σ o 7) := Eq.trans (show gI σ42 o 7 = gI σ41 o 7 from (cσ42.O (ko.up (xσ27.trans (xσ29.trans (xσ30.trans (xσ33.trans xσ41))))) (by decide)).1) kp85
    have kp98 : Kpt (gI σ42 o 8 = gI σ o 8) := Eq.trans (show gI σ42 o 8 = gI σ41 o 8 from (cσ42.O (ko.up (xσ27.trans (xσ29.trans (xσ30.trans (xσ33.trans xσ41))))) (by decide)).1) kp86
    have kp99 : Kpt (gI σ42 o 9 = gI σ33 o 9) := Eq.trans (show gI σ42 o 9 = gI σ41 o 9 from (cσ42.O (ko.up (xσ27.trans (xσ29.trans (xσ30.trans (xσ33.trans xσ41))))) (by decide)).1) kp72
    have r5σ42 := I_6_5 iσ42.1 (kth.up (xσ27.trans (xσ29.trans (xσ30.trans (xσ33.trans (xσ41.trans xσ42))))))
    have ho100 : gI σ42 J 7 = gI σ J 7 := kp91
    have cp101 : (gI σ42 th 5 ≤ gI σ42 th 2 ∧ (gI σ42 th 3 ≠ 0 → gI σ42 th 5 + 1 ≤ gI σ42 th 2)) ∧ gI σ42 J 7 ≤ 2 * gI σ42 th 5 ∧ 0 ≤ gI σ42 th 5 := by omega
    clear pσ42 kp79 kp78 kp77 kp58 kp57 kp56 kp44 kp43 kp42 kp29 kp28 kp27 cp23
    refine i_X6_wantSign iσ42 (kth.up (xσ27.trans (xσ29.trans (xσ30.trans (xσ33.trans (xσ41.trans xσ42)))))) (kp88.trans (kp74.trans (kp53.trans (kp39.trans (kp24.trans (kp16.trans hX0)))))) (kX.up (xσ27.trans (xσ29.trans (xσ30.trans (xσ33.trans (xσ41.trans xσ42)))))) (((xσ27.trans (xσ29.trans (xσ30.trans (xσ33.trans (xσ41.trans xσ42))))) tx kX.1).2.2.trans gX) (by (first | omega | with_reducible assumption | with_reducible exact rng_toInt _ | with_reducible exact rng_wr _ | (unfold rng; omega) | (unfold rng at *; omega) | assumption)) (by (first | omega | with_reducible assumption | with_reducible exact rng_toInt _ | with_reducible exact rng_wr _ | (unfold rng; omega) | (unfold rng at *; omega) | assumption)) (fun σ43 _ iσ43 cσ43 pσ43 => ?_) (fun σx LLx Nx nux E ix cx ux px => hX σx LLx Nx nux E ix (fσ42.tr (cx.mo (by decide))) (ux) (by first | exact px | exact ⟨by have := px.1; omega, px.2⟩ | (first | omega | with_reducible assumption | with_reducible exact rng_toInt _ | with_reducible exact rng_wr _ | (unfold rng; omega) | (unfold rng at *; omega) | assumption)))
    intro xσ43
    have fσ43 : Fx [323, 326, 329, 330, 386, 387, 388, 389, 390, 6464, 8320] gr σ σ43 := fσ42.tr (cσ43.mo (by decide))
    have oxcσ43 : OX o σ σ43 := oxcσ42.tr (OX.fx cσ43 (by decide) (by decide)) (xσ27.trans (xσ29.trans (xσ30.trans (xσ33.trans (xσ41.trans xσ42)))))
    have kp102 : gP σ43 J 4 = gP σ42 J 4 := (cσ43.O (kJ.up (xσ27.trans (xσ29.trans (xσ30.trans (xσ33.trans (xσ41.trans xσ42)))))) (by decide)).2.1
    have kp103 : gP σ43 th 0 = gP σ42 th 0 := (cσ43.O (kth.up (xσ27.trans (xσ29.trans (xσ30.trans (xσ33.trans (xσ41.trans xσ42)))))) (by decide)).2.1
    have kp104 : gP σ43 th 7 = gP σ42 th 7 := (cσ43.O (kth.up (xσ27.trans (xσ29.trans (xσ30.trans (xσ33.trans (xσ41.trans xσ42)))))) (by decide)).2.1
    have kp105 : gP σ43 th 8 = gP σ42 th 8 := (cσ43.O (kth.up (xσ27.trans (xσ29.trans (xσ30.trans (xσ33.trans (xσ41.trans xσ42)))))) (by decide)).2.1
    have kp106 : Kpt (gI σ43 J 7 = gI σ J 7) := Eq.trans (show gI σ43 J 7 = gI σ42 J 7 from (cσ43.O (kJ.up (xσ27.trans (xσ29.trans (xσ30.trans (xσ33.trans (xσ41.trans xσ42)))))) (by decide)).1) kp91
    have kp107 : Kpt (gI σ43 J 1 = gI σ J 1) := Eq.trans (show gI σ43 J 1 = gI σ42 J 1 from (cσ43.O (kJ.up (xσ27.trans (xσ29.trans (xσ30.trans (xσ33.trans (xσ41.trans xσ42)))))) (by decide)).1) kp92
    have kp108 : Kpt (gI σ43 J 2 = gI σ J 2) := Eq.trans (show gI σ43 J 2 = gI σ42 J 2 from (cσ43.O (kJ.up (xσ27.trans (xσ29.trans (xσ30.trans (xσ33.trans (xσ41.trans xσ42)))))) (by decide)).1) kp93
    have kp109 : Kpt (gI σ43 o 3 = gI σ o 3) := Eq.trans (show gI σ43 o 3 = gI σ42 o 3 from (cσ43.O (ko.up (xσ27.trans (xσ29.trans (xσ30.trans (xσ33.trans (xσ41.trans xσ42)))))) (by decide)).1) kp94
    have kp110 : Kpt (gI σ43 o 4 = gI σ o 4) := Eq.trans (show gI σ43 o 4 = gI σ42 o 4 from (cσ43.O (ko.up (xσ27.trans (xσ29.trans (xσ30.trans (xσ33.trans (xσ41.trans xσ42)))))) (by decide)).1) kp95
    have kp111 : Kpt (gI σ43 o 6 = gI σ29 o 6) := Eq.trans (show gI σ43 o 6 = gI σ42 o 6 from (cσ43.O (ko.up (xσ27.trans (xσ29.trans (xσ30.trans (xσ33.trans (xσ41.trans xσ42)))))) (by decide)).1) kp96
    have kp112 : Kpt (gI σ43 o 7 = gI σ o 7) := Eq.trans (show gI σ43 o 7 = gI σ42 o 7 from (cσ43.O (ko.up (xσ27.trans (xσ29.trans (xσ30.trans (xσ33.trans (xσ41.trans xσ42)))))) (by decide)).1) kp97
    have kp113 : Kpt (gI σ43 o 8 = gI σ o 8) := Eq.trans (show gI σ43 o 8 = gI σ42 o 8 from (cσ43.O (ko.up (xσ27.trans (xσ29.trans (xσ30.trans (xσ33.trans (xσ41.trans xσ42)))))) (by decide)).1) kp98
    have kp114 : Kpt (gI σ43 o 9 = gI σ33 o 9) := Eq.trans (show gI σ43 o 9 = gI σ42 o 9 from (cσ43.O (ko.up (xσ27.trans (xσ29.trans (xσ30.trans (xσ33.trans (xσ41.trans xσ42)))))) (by decide)).1) kp99
    have r5σ43 := I_6_5 iσ43.1 (kth.up (xσ27.trans (xσ29.trans (xσ30.trans (xσ33.trans (xσ41.trans (xσ42.trans xσ43)))))))
    have ho115 : gI σ43 J 7 = gI σ J 7 := kp106
    have cp116 : (gI σ43 th 5 ≤ gI σ43 th 2 ∧ (gI σ43 th 3 ≠ 0 → gI σ43 th 5 + 1 ≤ gI σ43 th 2)) ∧ gI σ43 J 7 ≤ 2 * gI σ43 th 5 ∧ 0 ≤ gI σ43 th 5 := by omega
    clear pσ43 cp101
    have ho117 : gI σ43 o 3 = gI σ o 3 := kp109
    refine i_X6_newColumn iσ43 (kth.up (xσ27.trans (xσ29.trans (xσ30.trans (xσ33.trans (xσ41.trans (xσ42.trans xσ43))))))) (kp103.trans (kp88.trans (kp74.trans (kp53.trans (kp39.trans (kp24.trans (kp16.trans hX0))))))) (kX.up (xσ27.trans (xσ29.trans (xσ30.trans (xσ33.trans (xσ41.trans (xσ42.trans xσ43))))))) (((xσ27.trans (xσ29.trans (xσ30.trans (xσ33.trans (xσ41.trans (xσ42.trans xσ43)))))) tx kX.1).2.2.trans gX) (kp105.trans (kp90.trans (kp76.trans (kp55.trans (kp41.trans (kp26.trans (kp18.trans h8))))))) (ko.up (xσ27.trans (xσ29.trans (xσ30.trans (xσ33.trans (xσ41.trans (xσ42.trans xσ43))))))) (by (first | omega | with_reducible assumption | with_reducible exact rng_toInt _ | with_reducible exact rng_wr _ | (unfold rng; omega) | (unfold rng at *; omega) | assumption)) (by (first | omega | with_reducible assumption | with_reducible exact rng_toInt _ | with_reducible exact rng_wr _ | (unfold rng; omega) | (unfold rng at *; omega) | assumption)) (by (first | omega | with_reducible assumption | with_reducible exact rng_toInt _ | with_reducible exact rng_wr _ | (unfold rng; omega) | (unfold rng at *; omega) | assumption)) (by (first | omega | with_reducible assumption | with_reducible exact rng_toInt _ | with_reducible exact rng_wr _ | (unfold rng; omega) | (unfold rng at *; omega) | assumption)) (by (first | omega | with_reducible assumption | with_reducible exact rng_toInt _ | with_reducible exact rng_wr _ | (unfold rng; omega) | (unfold rng at *; omega) | assumption)) (fun σ44 _ iσ44 cσ44 oxσ44 pσ44 => ?_) (fun σx LLx Nx nux E ix cx ux px => hX σx LLx Nx nux E ix (fσ43.tr (cx.mo (by decide))) (ux) (by first | exact px | exact ⟨by have := px.1; omega, px.2⟩ | (first | omega | with_reducible assumption | with_reducible exact rng_toInt _ | with_reducible exact rng_wr _ | (unfold rng; omega) | (unfold rng at *; omega) | assumption)))
    intro xσ44
    have fσ44 : Fx [323, 326, 329, 330, 386, 387, 388, 389, 390, 6464, 8320] gr σ σ44 := fσ43.tr (cσ44.mo (by decide))
    have oxcσ44 : OX o σ σ44 := oxcσ43.tr oxσ44 (xσ27.trans (xσ29.trans (xσ30.trans (xσ33.trans (xσ41.trans (xσ42.trans xσ43))))))
    have kp118 : gP σ44 J 4 = gP σ43 J 4 := (cσ44.O (kJ.up (xσ27.trans (xσ29.trans (xσ30.trans (xσ33.trans (xσ41.trans (xσ42.trans xσ43))))))) (by decide)).2.1
    have kp119 : gP σ44 th 0 = gP σ43 th 0 := (cσ44.O (kth.up (xσ27.trans (xσ29.trans (xσ30.trans (xσ33.trans (xσ41.trans (xσ42.trans xσ43))))))) (by decide)).2.1
    have kp120 : gP σ44 th 7 = gP σ43 th 7 := (cσ44.O (kth.up (xσ27.trans (xσ29.trans (xσ30.trans (xσ33.trans (xσ41.trans (xσ42.trans xσ43))))))) (by decide)).2.1
    have kp121 : gP σ44 th 8 = gP σ43 th 8 := (cσ44.O (kth.up (xσ27.trans (xσ29.trans (xσ30.trans (xσ33.trans (xσ41.trans (xσ42.trans xσ43))))))) (by decide)).2.1
    have kp122 : Kpt (gI σ44 J 7 = gI σ J 7) := Eq.trans (show gI σ44 J 7 = gI σ43 J 7 from (cσ44.O (kJ.up (xσ27.trans (xσ29.trans (xσ30.trans (xσ33.trans (xσ41.trans (xσ42.trans xσ43))))))) (by decide)).1) kp106
    have kp123 : Kpt (gI σ44 J 1 = gI σ J 1) := Eq.trans (show gI σ44 J 1 = gI σ43 J 1 from (cσ44.O (kJ.up (xσ27.trans (xσ29.trans (xσ30.trans (xσ33.trans (xσ41.trans (xσ42.trans xσ43))))))) (by decide)).1) kp107
    have kp124 : Kpt (gI σ44 J 2 = gI σ J 2) := Eq.trans (show gI σ44 J 2 = gI σ43 J 2 from (cσ44.O (kJ.up (xσ27.trans (xσ29.trans (xσ30.trans (xσ33.trans (xσ41.trans (xσ42.trans xσ43))))))) (by decide)).1) kp108
    have kp125 : Kpt (gI σ44 o 4 = gI σ o 4) := Eq.trans (show gI σ44 o 4 = gI σ43 o 4 from (cσ44.O (ko.up (xσ27.trans (xσ29.trans (xσ30.trans (xσ33.trans (xσ41.trans (xσ42.trans xσ43))))))) (by decide)).1) kp110
    have kp126 : Kpt (gI σ44 o 6 = gI σ29 o 6) := Eq.trans (show gI σ44 o 6 = gI σ43 o 6 from (cσ44.O (ko.up (xσ27.trans (xσ29.trans (xσ30.trans (xσ33.trans (xσ41.trans (xσ42.trans xσ43))))))) (by decide)).1) kp111
    have kp127 : Kpt (gI σ44 o 7 = gI σ o 7) := Eq.trans (show gI σ44 o 7 = gI σ43 o 7 from (cσ44.O (ko.up (xσ27.trans (xσ29.trans (xσ30.trans (xσ33.trans (xσ41.trans (xσ42.trans xσ43))))))) (by decide)).1) kp112
    have kp128 : Kpt (gI σ44 o 8 = gI σ o 8) := Eq.trans (show gI σ44 o 8 = gI σ43 o 8 from (cσ44.O (ko.up (xσ27.trans (xσ29.trans (xσ30.trans (xσ33.trans (xσ41.trans (xσ42.trans xσ43))))))) (by decide)).1) kp113
    have kp129 : Kpt (gI σ44 o 9 = gI σ33 o 9) := Eq.trans (show gI σ44 o 9 = gI σ43 o 9 from (cσ44.O (ko.up (xσ27.trans (xσ29.trans (xσ30.trans (xσ33.trans (xσ41.trans (xσ42.trans xσ43))))))) (by decide)).1) kp114
    have r5σ44 := I_6_5 iσ44.1 (kth.up (xσ27.trans (xσ29.trans (xσ30.trans (xσ33.trans (xσ41.trans (xσ42.trans (xσ43.trans xσ44))))))))
    have Lp89 : ∀ (fu89 : Nat) (τ89 : Sg) (v1 : Int), IV τ89 pl gq ci gr nc ot LL N nu → Fx [323, 326, 329, 330, 386, 387, 388, 389, 390, 6464, 8320] gr σ τ89 → Ext σ44 τ89 → OX o σ τ89 → ((0 ≤ v1 ∧ v1 ≤ 4) ∧ (gI τ89 th 5 ≤ gI τ89 th 2 ∧ (gI τ89 th 3 ≠ 0 → gI τ89 th 5 + 1 ≤ gI τ89 th 2)) ∧ gI τ89 J 7 ≤ 2 * gI τ89 th 5 ∧ gI τ89 o 6 = 0 ∧ gI τ89 o 7 = -1 ∧ gI τ89 o 8 = -1 ∧ 0 ≤ gI τ89 o 9 ∧ gI τ89 o 9 ≤ 3) → ((4 - v1).toNat) < fu89 → wl_X6_sourceText_89 th Q X fu89 τ89 v1 := by
      intro fu89
      induction fu89 with
      | zero => intro _ _ _ _ _ _ _ h9; omega
      | succ fu89 ih89 =>
        intro τ89 v1 iτ89 fτ89 xτ89 oxcτ89 hi89 hm89
        unfold wl_X6_sourceText_89
        have kp130 : Kpt (gI τ89 J 1 = gI σ J 1) := (show gI τ89 J 1 = gI σ J 1 from (fτ89.O kJ (by decide)).1)
        have kp131 : Kpt (gI τ89 J 7 = gI σ J 7) := (show gI τ89 J 7 = gI σ J 7 from (fτ89.O kJ (by decide)).1)
        have kp132 : Kpt (gI τ89 o 4 = gI σ o 4) := (show gI τ89 o 4 = gI σ o 4 from (fτ89.O ko (by decide)).1)
        have kp133 : Kpt (gI τ89 o 7 = gI σ o 7) := (show gI τ89 o 7 = gI σ o 7 from (fτ89.O ko (by decide)).1)
        have kp134 : Kpt (gI τ89 o 8 = gI σ o 8) := (show gI τ89 o 8 = gI σ o 8 from (fτ89.O ko (by decide)).1)
        have kp135 : gP τ89 th 0 = gP σ th 0 := (fτ89.O kth (by decide)).2.1
        have kp136 : gP τ89 th 7 = gP σ th 7 := (fτ89.O kth (by decide)).2.1
        have kp137 : gP τ89 th 8 = gP σ th 8 := (fτ89.O kth (by decide)).2.1
        have kp138 : Kpt (gI τ89 J 2 = gI σ J 2) := (show gI τ89 J 2 = gI σ J 2 from (fτ89.O kJ (by decide)).1)
        have kp139 : gP τ89 J 4 = gP σ44 J 4 := (fτ89.O kJ (by decide)).2.1.trans (fσ44.O kJ (by decide)).2.1.symm
        have kp140 : Kpt (gI τ89 J 7 = gI σ J 7) := Eq.trans (show gI τ89 J 7 = gI σ44 J 7 from (fτ89.O kJ (by decide)).1.trans (fσ44.O kJ (by decide)).1.symm) kp122
        have kp141 : Kpt (gI τ89 J 1 = gI σ J 1) := Eq.trans (show gI τ89 J 1 = gI σ44 J 1 from (fτ89.O kJ (by decide)).1.trans (fσ44.O kJ (by decide)).1.symm) kp123
        have kp142 : Kpt (gI τ89 J 2 = gI σ J 2) := Eq.trans (show gI τ89 J 2 = gI σ44 J 2 from (fτ89.O kJ (by decide)).1.trans (fσ44.O kJ (by decide)).1.symm) kp124
        have kp143 : Kpt (gI τ89 o 4 = gI σ o 4) := Eq.trans (show gI τ89 o 4 = gI σ44 o 4 from (fτ89.O ko (by decide)).1.trans (fσ44.O ko (by decide)).1.symm) kp125
        have kp144 : Kpt (gI τ89 o 7 = gI σ o 7) := Eq.trans (show gI τ89 o 7 = gI σ44 o 7 from (fτ89.O ko (by decide)).1.trans (fσ44.O ko (by decide)).1.symm) kp127
        have kp145 : Kpt (gI τ89 o 8 = gI σ o 8) := Eq.trans (show gI τ89 o 8 = gI σ44 o 8 from (fτ89.O ko (by decide)).1.trans (fσ44.O ko (by decide)).1.symm) kp128
        have ho146 : gI τ89 J 1 = gI σ J 1 := kp141
        have ho147 : gI τ89 J 7 = gI σ J 7 := kp140
        have ho148 : gI τ89 o 4 = gI σ o 4 := kp143
        have ho149 : gI τ89 o 7 = gI σ o 7 := kp144
        have ho150 : gI τ89 o 8 = gI σ o 8 := kp145
        have ho151 : gI τ89 J 2 = gI σ J 2 := kp142
        unfold w_X6_sourceText_89
        by_cases hc152 : v1 ≥ 4
        · rw [if_pos hc152]
          unfold w_X6_sourceText_113
          refine i_X6_wantSign iτ89 (kth.up (xσ27.trans (xσ29.trans (xσ30.trans (xσ33.trans (xσ41.trans (xσ42.trans (xσ43.trans (xσ44.trans xτ89))))))))) (kp135.trans hX0) (kX.up (xσ27.trans (xσ29.trans (xσ30.trans (xσ33.trans (xσ41.trans (xσ42.trans (xσ43.trans (xσ44.trans xτ89))))))))) (((xσ27.trans (xσ29.trans (xσ30.trans (xσ33.trans (xσ41.trans (xσ42.trans (xσ43.trans (xσ44.trans xτ89)))))))) tx kX.1).2.2.trans gX) (by (first | omega | with_reducible assumption | with_reducible exact rng_toInt _ | with_reducible exact rng_wr _ | (unfold rng; omega) | (unfold rng at *; omega) | assumption)) (by (first | omega | with_reducible assumption | with_reducible exact rng_toInt _ | with_reducible exact rng_wr _ | (unfold rng; omega) | (unfold rng at *; omega) | assumption)) (fun σ46 _ iσ46 cσ46 pσ46 => ?_) (fun σx LLx Nx nux E ix cx ux px => hX σx LLx Nx nux E ix (fτ89.tr (cx.mo (by decide))) (ux) (by first | exact px | exact ⟨by have := px.1; omega, px.2⟩ | (first | omega | with_reducible assumption | with_reducible exact rng_toInt _ | with_reducible exact rng_wr _ | (unfold rng; omega) | (unfold rng at *; omega) | assumption)))
          intro xσ46
          have fσ46 : Fx [323, 326, 329, 330, 386, 387, 388, 389, 390, 6464, 8320] gr σ σ46 := fτ89.tr (cσ46.mo (by decide))
          have oxcσ46 : OX o σ σ46 := oxcτ89.tr (OX.fx cσ46 (by decide) (by decide)) (xσ27.trans (xσ29.trans (xσ30.trans (xσ33.trans (xσ41.trans (xσ42.trans (xσ43.trans (xσ44.trans xτ89))))))))
          have kp153 : gP σ46 J 4 = gP τ89 J 4 := (cσ46.O (kJ.up (xσ27.trans (xσ29.trans (xσ30.trans (xσ33.trans (xσ41.trans (xσ42.trans (xσ43.trans (xσ44.trans xτ89))))))))) (by decide)).2.1
          have kp154 : gP σ46 th 0 = gP τ89 th 0 := (cσ46.O (kth.up (xσ27.trans (xσ29.trans (xσ30.trans (xσ33.trans (xσ41.trans (xσ42.trans (xσ43.trans (xσ44.trans xτ89))))))))) (by decide)).2.1
          have kp155 : gP σ46 th 7 = gP τ89 th 7 := (cσ46.O (kth.up (xσ27.trans (xσ29.trans (xσ30.trans (xσ33.trans (xσ41.trans (xσ42.trans (xσ43.trans (xσ44.trans xτ89))))))))) (by decide)).2.1
          have kp156 : gP σ46 th 8 = gP τ89 th 8 := (cσ46.O (kth.up (xσ27.trans (xσ29.trans (xσ30.trans (xσ33.trans (xσ41.trans (xσ42.trans (xσ43.trans (xσ44.trans xτ89))))))))) (by decide)).2.1
          have kp157 : Kpt (gI σ46 J 7 = gI σ J 7) := Eq.trans (show gI σ46 J 7 = gI τ89 J 7 from (cσ46.O (kJ.up (xσ27.trans (xσ29.trans (xσ30.trans (xσ33.trans (xσ41.trans (xσ42.trans (xσ43.trans (xσ44.trans xτ89))))))))) (by decide)).1) kp140
          have kp158 : Kpt (gI σ46 J 1 = gI σ J 1) := Eq.trans (show gI σ46 J 1 = gI τ89 J 1 from (cσ46.O (kJ.up (xσ27.trans (xσ29.trans (xσ30.trans (xσ33.trans (xσ41.trans (xσ42.trans (xσ43.trans (xσ44.trans xτ89))))))))) (by decide)).1) kp141
          have kp159 : Kpt (gI σ46 J 2 = gI σ J 2) := Eq.trans (show gI σ46 J 2 = gI τ89 J 2 from (cσ46.O (kJ.up (xσ27.trans (xσ29.trans (xσ30.trans (xσ33.trans (xσ41.trans (xσ42.trans (xσ43.trans (xσ44.trans xτ89))))))))) (by decide)).1) kp142
          have kp160 : Kpt (gI σ46 o 3 = gI τ89 o 3) := (show gI σ46 o 3 = gI τ89 o 3 from (cσ46.O (ko.up (xσ27.trans (xσ29.trans (xσ30.trans (xσ33.trans (xσ41.trans (xσ42.trans (xσ43.trans (xσ44.trans xτ89))))))))) (by decide)).1)
          have kp161 : Kpt (gI σ46 o 4 = gI σ o 4) := Eq.trans (show gI σ46 o 4 = gI τ89 o 4 from (cσ46.O (ko.up (xσ27.trans (xσ29.trans (xσ30.trans (xσ33.trans (xσ41.trans (xσ42.trans (xσ43.trans (xσ44.trans xτ89))))))))) (by decide)).1) kp143
          have kp162 : Kpt (gI σ46 o 6 = gI τ89 o 6) := (show gI σ46 o 6 = gI τ89 o 6 from (cσ46.O (ko.up (xσ27.trans (xσ29.trans (xσ30.trans (xσ33.trans (xσ41.trans (xσ42.trans (xσ43.trans (xσ44.trans xτ89))))))))) (by decide)).1)
          have kp163 : Kpt (gI σ46 o 7 = gI σ o 7) := Eq.trans (show gI σ46 o 7 = gI τ89 o 7 from (cσ46.O (ko.up (xσ27.trans (xσ29.trans (xσ30.trans (xσ33.trans (xσ41.trans (xσ42.trans (xσ43.trans (xσ44.trans xτ89))))))))) (by decide)).1) kp144
          have kp164 : Kpt (gI σ46 o 8 = gI σ o 8) := Eq.trans (show gI σ46 o 8 = gI τ89 o 8 from (cσ46.O (ko.up (xσ27.trans (xσ29.trans (xσ30.trans (xσ33.trans (xσ41.trans (xσ42.trans (xσ43.trans (xσ44.trans xτ89))))))))) (by decide)).1) kp145
          have kp165 : Kpt (gI σ46 o 9 = gI τ89 o 9) := (show gI σ46 o 9 = gI τ89 o 9 from (cσ46.O (ko.up (xσ27.trans (xσ29.trans (xσ30.trans (xσ33.trans (xσ41.trans (xσ42.trans (xσ43.trans (xσ44.trans xτ89))))))))) (by decide)).1)
          have r5σ46 := I_6_5 iσ46.1 (kth.up (xσ27.trans (xσ29.trans (xσ30.trans (xσ33.trans (xσ41.trans (xσ42.trans (xσ43.trans (xσ44.trans (xτ89.trans xσ46))))))))))
          have ho166 : gI σ46 J 7 = gI σ J 7 := kp157
          have cp167 : (gI σ46 th 5 ≤ gI σ46 th 2 ∧ (gI σ46 th 3 ≠ 0 → gI σ46 th 5 + 1 ≤ gI σ46 th 2)) ∧ gI σ46 J 7 ≤ 2 * gI σ46 th 5 ∧ 0 ≤ gI σ46 th 5 := by omega
          clear pσ46 cp116
          refine i_X6_wantWord iσ46 (kth.up (xσ27.trans (xσ29.trans (xσ30.trans (xσ33.trans (xσ41.trans (xσ42.trans (xσ43.trans (xσ44.trans (xτ89.trans xσ46)))))))))) (kp154.trans (kp135.trans hX0)) (kX.up (xσ27.trans (xσ29.trans (xσ30.trans (xσ33.trans (xσ41.trans (xσ42.trans (xσ43.trans (xσ44.trans (xτ89.trans xσ46)))))))))) (((xσ27.trans (xσ29.trans (xσ30.trans (xσ33.trans (xσ41.trans (xσ42.trans (xσ43.trans (xσ44.trans (xτ89.trans xσ46))))))))) tx kX.1).2.2.trans gX) (by (first | omega | with_reducible assumption | with_reducible exact rng_toInt _ | with_reducible exact rng_wr _ | (unfold rng; omega) | (unfold rng at *; omega) | assumption)) (by (first | omega | with_reducible assumption | with_reducible exact rng_toInt _ | with_reducible exact rng_wr _ | (unfold rng; omega) | (unfold rng at *; omega) | assumption)) (fun σ47 _ iσ47 cσ47 pσ47 => ?_) (fun σx LLx Nx nux E ix cx ux px => hX σx LLx Nx nux E ix (fσ46.tr (cx.mo (by decide))) (ux) (by first | exact px | exact ⟨by have := px.1; omega, px.2⟩ | (first | omega | with_reducible assumption | with_reducible exact rng_toInt _ | with_reducible exact rng_wr _ | (unfold rng; omega) | (unfold rng at *; omega) | assumption)))
          intro xσ47
          have fσ47 : Fx [323, 326, 329, 330, 386, 387, 388, 389, 390, 6464, 8320] gr σ σ47 := fσ46.tr (cσ47.mo (by decide))
          have oxcσ47 : OX o σ σ47 := oxcσ46.tr (OX.fx cσ47 (by decide) (by decide)) (xσ27.trans (xσ29.trans (xσ30.trans (xσ33.trans (xσ41.trans (xσ42.trans (xσ43.trans (xσ44.trans (xτ89.trans xσ46)))))))))
          have kp168 : gP σ47 J 4 = gP σ46 J 4 := (cσ47.O (kJ.up (xσ27.trans (xσ29.trans (xσ30.trans (xσ33.trans (xσ41.trans (xσ42.trans (xσ43.trans (xσ44.trans (xτ89.trans xσ46)))))))))) (by decide)).2.1
          have kp169 : gP σ47 th 0 = gP σ46 th 0 := (cσ47.O (kth.up (xσ27.trans (xσ29.trans (xσ30.trans (xσ33.trans (xσ41.trans (xσ42.trans (xσ43.trans (xσ44.trans (xτ89.trans xσ46)))))))))) (by decide)).2.1
          have kp170 : gP σ47 th 7 = gP σ46 th 7 := (cσ47.O (kth.up (xσ27.trans (xσ29.trans (xσ30.trans (xσ33.trans (xσ41.trans (xσ42.trans (xσ43.trans (xσ44.trans (xτ89.trans xσ46)))))))))) (by decide)).2.1
          have kp171 : gP σ47 th 8 = gP σ46 th 8 := (cσ47.O (kth.up (xσ27.trans (xσ29.trans (xσ30.trans (xσ33.trans (xσ41.trans (xσ42.trans (xσ43.trans (xσ44.trans (xτ89.trans xσ46)))))))))) (by decide)).2.1
          have kp172 : Kpt (gI σ47 J 7 = gI σ J 7) := Eq.trans (show gI σ47 J 7 = gI σ46 J 7 from (cσ47.O (kJ.up (xσ27.trans (xσ29.trans (xσ30.trans (xσ33.trans (xσ41.trans (xσ42.trans (xσ43.trans (xσ44.trans (xτ89.trans xσ46)))))))))) (by decide)).1) kp157
          have kp173 : Kpt (gI σ47 J 1 = gI σ J 1) := Eq.trans (show gI σ47 J 1 = gI σ46 J 1 from (cσ47.O (kJ.up (xσ27.trans (xσ29.trans (xσ30.trans (xσ33.trans (xσ41.trans (xσ42.trans (xσ43.trans (xσ44.trans (xτ89.trans xσ46)))))))))) (by decide)).1) kp158
          have kp174 : Kpt (gI σ47 J 2 = gI σ J 2) := Eq.trans (show gI σ47 J 2 = gI σ46 J 2 from (cσ47.O (kJ.up (xσ27.trans (xσ29.trans (xσ30.trans (xσ33.trans (xσ41.trans (xσ42.trans (xσ43.trans (xσ44.trans (xτ89.trans xσ46)))))))))) (by decide)).1) kp159
          have kp175 : Kpt (gI σ47 o 3 = gI τ89 o 3) := Eq.trans (show gI σ47 o 3 = gI σ46 o 3 from (cσ47.O (ko.up (xσ27.trans (xσ29.trans (xσ30.trans (xσ33.trans (xσ41.trans (xσ42.trans (xσ43.trans (xσ44.trans (xτ89.trans xσ46)))))))))) (by decide)).1) kp160
          have kp176 : Kpt (gI σ47 o 4 = gI σ o 4) := Eq.trans (show gI σ47 o 4 = gI σ46 o 4 from (cσ47.O (ko.up (xσ27.trans (xσ29.trans (xσ30.trans (xσ33.trans (xσ41.trans (xσ42.trans (xσ43.trans (xσ44.trans (xτ89.trans xσ46)))))))))) (by decide)).1) kp161
          have kp177 : Kpt (gI σ47 o 6 = gI τ89 o 6) := Eq.trans (show gI σ47 o 6 = gI σ46 o 6 from (cσ47.O (ko.up (xσ27.trans (xσ29.trans (xσ30.trans (xσ33.trans (xσ41.trans (xσ42.trans (xσ43.trans (xσ44.trans (xτ89.trans xσ46)))))))))) (by decide)).1) kp162
          have kp178 : Kpt (gI σ47 o 7 = gI σ o 7) := Eq.trans (show gI σ47 o 7 = gI σ46 o 7 from (cσ47.O (ko.up (xσ27.trans (xσ29.trans (xσ30.trans (xσ33.trans (xσ41.trans (xσ42.trans (xσ43.trans (xσ44.trans (xτ89.trans xσ46)))))))))) (by decide)).1) kp163
          have kp179 : Kpt (gI σ47 o 8 = gI σ o 8) := Eq.trans (show gI σ47 o 8 = gI σ46 o 8 from (cσ47.O (ko.up (xσ27.trans (xσ29.trans (xσ30.trans (xσ33.trans (xσ41.trans (xσ42.trans (xσ43.trans (xσ44.trans (xτ89.trans xσ46)))))))))) (by decide)).1) kp164
          have kp180 : Kpt (gI σ47 o 9 = gI τ89 o 9) := Eq.trans (show gI σ47 o 9 = gI σ46 o 9 from (cσ47.O (ko.up (xσ27.trans (xσ29.trans (xσ30.trans (xσ33.trans (xσ41.trans (xσ42.trans (xσ43.trans (xσ44.trans (xτ89.trans xσ46)))))))))) (by decide)).1) kp165
          have r5σ47 := I_6_5 iσ47.1 (kth.up (xσ27.trans (xσ29.trans (xσ30.trans (xσ33.trans (xσ41.trans (xσ42.trans (xσ43.trans (xσ44.trans (xτ89.trans (xσ46.trans xσ47)))))))))))
          have ho181 : gI σ47 J 7 = gI σ J 7 := kp172
          have cp182 : (gI σ47 th 5 ≤ gI σ47 th 2 ∧ (gI σ47 th 3 ≠ 0 → gI σ47 th 5 + 1 ≤ gI σ47 th 2)) ∧ gI σ47 J 7 ≤ 2 * gI σ47 th 5 ∧ 0 ≤ gI σ47 th 5 := by omega
          clear pσ47 cp167
          refine i_X6_number iσ47 (kth.up (xσ27.trans (xσ29.trans (xσ30.trans (xσ33.trans (xσ41.trans (xσ42.trans (xσ43.trans (xσ44.trans (xτ89.trans (xσ46.trans xσ47))))))))))) (by (first | omega | with_reducible assumption | with_reducible exact rng_toInt _ | with_reducible exact rng_wr _ | (unfold rng; omega) | (unfold rng at *; omega) | assumption)) (by (first | omega | with_reducible assumption | with_reducible exact rng_toInt _ | with_reducible exact rng_wr _ | (unfold rng; omega) | (unfold rng at *; omega) | assumption)) (fun σ48 r49 iσ48 cσ48 pσ48 => ?_) (fun σx LLx Nx nux E ix cx ux px => hX σx LLx Nx nux E ix (fσ47.tr (cx.mo (by decide))) (ux) (by first | exact px | exact ⟨by have := px.1; omega, px.2⟩ | (first | omega | with_reducible assumption | with_reducible exact rng_toInt _ | with_reducible exact rng_wr _ | (unfold rng; omega) | (unfold rng at *; omega) | assumption)))
          intro xσ48
          have fσ48 : Fx [323, 326, 329, 330, 386, 387, 388, 389, 390, 6464, 8320] gr σ σ48 := fσ47.tr (cσ48.mo (by decide))
          have oxcσ48 : OX o σ σ48 := oxcσ47.tr (OX.fx cσ48 (by decide) (by decide)) (xσ27.trans (xσ29.trans (xσ30.trans (xσ33.trans (xσ41.trans (xσ42.trans (xσ43.trans (xσ44.trans (xτ89.trans (xσ46.trans xσ47))))))))))
          have kp183 : gP σ48 J 4 = gP σ47 J 4 := (cσ48.O (kJ.up (xσ27.trans (xσ29.trans (xσ30.trans (xσ33.trans (xσ41.trans (xσ42.trans (xσ43.trans (xσ44.trans (xτ89.trans (xσ46.trans xσ47))))))))))) (by decide)).2.1
          have kp184 : gP σ48 th 0 = gP σ47 th 0 := (cσ48.O (kth.up (xσ27.trans (xσ29.trans (xσ30.trans (xσ33.trans (xσ41.trans (xσ42.trans (xσ43.trans (xσ44.trans (xτ89.trans (xσ46.trans xσ47))))))))))) (by decide)).2.1
          have kp185 : gP σ48 th 7 = gP σ47 th 7 := (cσ48.O (kth.up (xσ27.trans (xσ29.trans (xσ30.trans (xσ33.trans (xσ41.trans (xσ42.trans (xσ43.trans (xσ44.trans (xτ89.trans (xσ46.trans xσ47))))))))))) (by decide)).2.1
          have kp186 : gP σ48 th 8 = gP σ47 th 8 := (cσ48.O (kth.up (xσ27.trans (xσ29.trans (xσ30.trans (xσ33.trans (xσ41.trans (xσ42.trans (xσ43.trans (xσ44.trans (xτ89.trans (xσ46.trans xσ47))))))))))) (by decide)).2.1
          have kp187 : gI σ48 th 2 = gI σ47 th 2 := (cσ48.O (kth.up (xσ27.trans (xσ29.trans (xσ30.trans (xσ33.trans (xσ41.trans (xσ42.trans (xσ43.trans (xσ44.trans (xτ89.trans (xσ46.trans xσ47))))))))))) (by decide)).1
          have kp188 : gI σ48 th 3 = gI σ47 th 3 := (cσ48.O (kth.up (xσ27.trans (xσ29.trans (xσ30.trans (xσ33.trans (xσ41.trans (xσ42.trans (xσ43.trans (xσ44.trans (xτ89.trans (xσ46.trans xσ47))))))))))) (by decide)).1
          have kp189 : gI σ48 th 5 = gI σ47 th 5 := (cσ48.O (kth.up (xσ27.trans (xσ29.trans (xσ30.trans (xσ33.trans (xσ41.trans (xσ42.trans (xσ43.trans (xσ44.trans (xτ89.trans (xσ46.trans xσ47))))))))))) (by decide)).1
          have kp190 : Kpt (gI σ48 J 7 = gI σ J 7) := Eq.trans (show gI σ48 J 7 = gI σ47 J 7 from (cσ48.O (kJ.up (xσ27.trans (xσ29.trans (xσ30.trans (xσ33.trans (xσ41.trans (xσ42.trans (xσ43.trans (xσ44.trans (xτ89.trans (xσ46.trans xσ47))))))))))) (by decide)).1) kp172
          have kp191 : Kpt (gI σ48 J 1 = gI σ J 1) := Eq.trans (show gI σ48 J 1 = gI σ47 J 1 from (cσ48.O (kJ.up (xσ27.trans (xσ29.trans (xσ30.trans (xσ33.trans (xσ41.trans (xσ42.trans (xσ43.trans (xσ44.trans (xτ89.trans (xσ46.trans xσ47))))))))))) (by decide)).1) kp173
          have kp192 : Kpt (gI σ48 J 2 = gI σ J 2) := Eq.trans (show gI σ48 J 2 = gI σ47 J 2 from (cσ48.O (kJ.up (xσ27.trans (xσ29.trans (xσ30.trans (xσ33.trans (xσ41.trans (xσ42.trans (xσ43.trans (xσ44.trans (xτ89.trans (xσ46.trans xσ47))))))))))) (by decide)).1) kp174
          have kp193 : Kpt (gI σ48 o 3 = gI τ89 o 3) := Eq.trans (show gI σ48 o 3 = gI σ47 o 3 from (cσ48.O (ko.up (xσ27.trans (xσ29.trans (xσ30.trans (xσ33.trans (xσ41.trans (xσ42.trans (xσ43.trans (xσ44.trans (xτ89.trans (xσ46.trans xσ47))))))))))) (by decide)).1) kp175
          have kp194 : Kpt (gI σ48 o 4 = gI σ o 4) := Eq.trans (show gI σ48 o 4 = gI σ47 o 4 from (cσ48.O (ko.up (xσ27.trans (xσ29.trans (xσ30.trans (xσ33.trans (xσ41.trans (xσ42.trans (xσ43.trans (xσ44.trans (xτ89.trans (xσ46.trans xσ47))))))))))) (by decide)).1) kp176
          have kp195 : Kpt (gI σ48 o 6 = gI τ89 o 6) := Eq.trans (show gI σ48 o 6 = gI σ47 o 6 from (cσ48.O (ko.up (xσ27.trans (xσ29.trans (xσ30.trans (xσ33.trans (xσ41.trans (xσ42.trans (xσ43.trans (xσ44.trans (xτ89.trans (xσ46.trans xσ47))))))))))) (by decide)).1) kp177
          have kp196 : Kpt (gI σ48 o 7 = gI σ o 7) := Eq.trans (show gI σ48 o 7 = gI σ47 o 7 from (cσ48.O (ko.up (xσ27.trans (xσ29.trans (xσ30.trans (xσ33.trans (xσ41.trans (xσ42.trans (xσ43.trans (xσ44.trans (xτ89.trans (xσ46.trans xσ47))))))))))) (by decide)).1) kp178
          have kp197 : Kpt (gI σ48 o 8 = gI σ o 8) := Eq.trans (show gI σ48 o 8 = gI σ47 o 8 from (cσ48.O (ko.up (xσ27.trans (xσ29.trans (xσ30.trans (xσ33.trans (xσ41.trans (xσ42.trans (xσ43.trans (xσ44.trans (xτ89.trans (xσ46.trans xσ47))))))))))) (by decide)).1) kp179
          have kp198 : Kpt (gI σ48 o 9 = gI τ89 o 9) := Eq.trans (show gI σ48 o 9 = gI σ47 o 9 from (cσ48.O (ko.up (xσ27.trans (xσ29.trans (xσ30.trans (xσ33.trans (xσ41.trans (xσ42.trans (xσ43.trans (xσ44.trans (xτ89.trans (xσ46.trans xσ47))))))))))) (by decide)).1) kp180
          refine ⟨o, (kp171.trans (kp156.trans (kp137.trans h8))), fun kk_o_4 => ?_⟩
          intro σ51 eσ51
          have xσ51 : Ext σ48 σ51 := by rw [eσ51]; exact fun _ h => ⟨h, rfl, rfl⟩
          have iσ51 : IV σ51 pl gq ci gr nc ot LL N nu := by rw [eσ51]; exact iσ48.wSp (ko.up (xσ27.trans (xσ29.trans (xσ30.trans (xσ33.trans (xσ41.trans (xσ42.trans (xσ43.trans (xσ44.trans (xτ89.trans (xσ46.trans (xσ47.trans xσ48)))))))))))) (fun i hi => by omega) (by decide) (show (0 : Int) ≤ r49 ∧ r49 ≤ 1000 from ⟨by omega, by omega⟩)
          have fσ51 : Fx [323, 326, 329, 330, 386, 387, 388, 389, 390, 6464, 8320] gr σ σ51 := fσ48.tr (Sk.fx (by rw [eσ51]; exact Sk.pI (by rw [fcdO (ko.up (xσ27.trans (xσ29.trans (xσ30.trans (xσ33.trans (xσ41.trans (xσ42.trans (xσ43.trans (xσ44.trans (xτ89.trans (xσ46.trans (xσ47.trans xσ48)))))))))))) (by decide)]; decide)))
          have oxcσ51 : OX o σ σ51 := oxcσ48.tr (by rw [eσ51]; exact OX.pI (ko.up (xσ27.trans (xσ29.trans (xσ30.trans (xσ33.trans (xσ41.trans (xσ42.trans (xσ43.trans (xσ44.trans (xτ89.trans (xσ46.trans (xσ47.trans xσ48)))))))))))) (Or.inr rfl)) (xσ27.trans (xσ29.trans (xσ30.trans (xσ33.trans (xσ41.trans (xσ42.trans (xσ43.trans (xσ44.trans (xτ89.trans (xσ46.trans (xσ47.trans xσ48)))))))))))
          have wσ51 : gI σ51 o 10 = r49 := by rw [eσ51]; exact up2_s _ _ _ _
          have kp199 : gP σ51 J 4 = gP σ48 J 4 := by rw [eσ51]
          have kp200 : gP σ51 th 0 = gP σ48 th 0 := by rw [eσ51]
          have kp201 : gP σ51 th 7 = gP σ48 th 7 := by rw [eσ51]
          have kp202 : gP σ51 th 8 = gP σ48 th 8 := by rw [eσ51]
          have kp203 : gI σ51 th 2 = gI σ48 th 2 := by rw [eσ51]; exact up2_n _ _ (fun q => absurd q.2 (by decide))
          have kp204 : gI σ51 th 3 = gI σ48 th 3 := by rw [eσ51]; exact up2_n _ _ (fun q => absurd q.2 (by decide))
          have kp205 : gI σ51 th 5 = gI σ48 th 5 := by rw [eσ51]; exact up2_n _ _ (fun q => absurd q.2 (by decide))
          have kp206 : Kpt (gI σ51 J 7 = gI σ J 7) := Eq.trans (show gI σ51 J 7 = gI σ48 J 7 from by rw [eσ51]; exact up2_n _ _ (fun q => absurd q.2 (by decide))) kp190
          have kp207 : Kpt (gI σ51 J 1 = gI σ J 1) := Eq.trans (show gI σ51 J 1 = gI σ48 J 1 from by rw [eσ51]; exact up2_n _ _ (fun q => absurd q.2 (by decide))) kp191
          have kp208 : Kpt (gI σ51 J 2 = gI σ J 2) := Eq.trans (show gI σ51 J 2 = gI σ48 J 2 from by rw [eσ51]; exact up2_n _ _ (fun q => absurd q.2 (by decide))) kp192
          have kp209 : Kpt (gI σ51 o 3 = gI τ89 o 3) := Eq.trans (show gI σ51 o 3 = gI σ48 o 3 from by rw [eσ51]; exact up2_n _ _ (fun q => absurd q.2 (by decide))) kp193
          have kp210 : Kpt (gI σ51 o 4 = gI σ o 4) := Eq.trans (show gI σ51 o 4 = gI σ48 o 4 from by rw [eσ51]; exact up2_n _ _ (fun q => absurd q.2 (by decide))) kp194
          have kp211 : Kpt (gI σ51 o 6 = gI τ89 o 6) := Eq.trans (show gI σ51 o 6 = gI σ48 o 6 from by rw [eσ51]; exact up2_n _ _ (fun q => absurd q.2 (by decide))) kp195
          have kp212 : Kpt (gI σ51 o 7 = gI σ o 7) := Eq.trans (show gI σ51 o 7 = gI σ48 o 7 from by rw [eσ51]; exact up2_n _ _ (fun q => absurd q.2 (by decide))) kp196
          have kp213 : Kpt (gI σ51 o 8 = gI σ o 8) := Eq.trans (show gI σ51 o 8 = gI σ48 o 8 from by rw [eσ51]; exact up2_n _ _ (fun q => absurd q.2 (by decide))) kp197
          have kp214 : Kpt (gI σ51 o 9 = gI τ89 o 9) := Eq.trans (show gI σ51 o 9 = gI σ48 o 9 from by rw [eσ51]; exact up2_n _ _ (fun q => absurd q.2 (by decide))) kp198
          refine i_X6_next iσ51 (kth.up (xσ27.trans (xσ29.trans (xσ30.trans (xσ33.trans (xσ41.trans (xσ42.trans (xσ43.trans (xσ44.trans (xτ89.trans (xσ46.trans (xσ47.trans (xσ48.trans xσ51))))))))))))) (kp200.trans (kp184.trans (kp169.trans (kp154.trans (kp135.trans hX0))))) (kX.up (xσ27.trans (xσ29.trans (xσ30.trans (xσ33.trans (xσ41.trans (xσ42.trans (xσ43.trans (xσ44.trans (xτ89.trans (xσ46.trans (xσ47.trans (xσ48.trans xσ51))))))))))))) (((xσ27.trans (xσ29.trans (xσ30.trans (xσ33.trans (xσ41.trans (xσ42.trans (xσ43.trans (xσ44.trans (xτ89.trans (xσ46.trans (xσ47.trans (xσ48.trans xσ51)))))))))))) tx kX.1).2.2.trans gX) (by (first | omega | with_reducible assumption | with_reducible exact rng_toInt _ | with_reducible exact rng_wr _ | (unfold rng; omega) | (unfold rng at *; omega) | assumption)) (by (first | omega | with_reducible assumption | with_reducible exact rng_toInt _ | with_reducible exact rng_wr _ | (unfold rng; omega) | (unfold rng at *; omega) | assumption)) (fun σ52 _ iσ52 cσ52 pσ52 => ?_) (fun σx LLx Nx nux E ix cx ux px => hX σx LLx Nx nux E ix (fσ51.tr (cx.mo (by decide))) (ux) (by first | exact px | exact ⟨by have := px.1; omega, px.2⟩ | (first | omega | with_reducible assumption | with_reducible exact rng_toInt _ | with_reducible exact rng_wr _ | (unfold rng; omega) | (unfold rng at *; omega) | assumption)))
          intro xσ52
          have fσ52 : Fx [323, 326, 329, 330, 386, 387, 388, 389, 390, 6464, 8320] gr σ σ52 := fσ51.tr (cσ52.mo (by decide))
          have oxcσ52 : OX o σ σ52 := oxcσ51.tr (OX.fx cσ52 (by decide) (by decide)) (xσ27.trans (xσ29.trans (xσ30.trans (xσ33.trans (xσ41.trans (xσ42.trans (xσ43.trans (xσ44.trans (xτ89.trans (xσ46.trans (xσ47.trans (xσ48.trans xσ51))))))))))))
          have kp215 : gI σ52 o 10 = gI σ51 o 10 := (cσ52.O (ko.up (xσ27.trans (xσ29.trans (xσ30.trans (xσ33.trans (xσ41.trans (xσ42.trans (xσ43.trans (xσ44.trans (xτ89.trans (xσ46.trans (xσ47.trans (xσ48.trans xσ51))))))))))))) (by decide)).1
          have kp216 : gP σ52 J 4 = gP σ51 J 4 := (cσ52.O (kJ.up (xσ27.trans (xσ29.trans (xσ30.trans (xσ33.trans (xσ41.trans (xσ42.trans (xσ43.trans (xσ44.trans (xτ89.trans (xσ46.trans (xσ47.trans (xσ48.trans xσ51))))))))))))) (by decide)).2.1
          have kp217 : gP σ52 th 0 = gP σ51 th 0 := (cσ52.O (kth.up (xσ27.trans (xσ29.trans (xσ30.trans (xσ33.trans (xσ41.trans (xσ42.trans (xσ43.trans (xσ44.trans (xτ89.trans (xσ46.trans (xσ47.trans (xσ48.trans xσ51))))))))))))) (by decide)).2.1
          have kp218 : gP σ52 th 7 = gP σ51 th 7 := (cσ52.O (kth.up (xσ27.trans (xσ29.trans (xσ30.trans (xσ33.trans (xσ41.trans (xσ42.trans (xσ43.trans (xσ44.trans (xτ89.trans (xσ46.trans (xσ47.trans (xσ48.trans xσ51))))))))))))) (by decide)).2.1
          have kp219 : gP σ52 th 8 = gP σ51 th 8 := (cσ52.O (kth.up (xσ27.trans (xσ29.trans (xσ30.trans (xσ33.trans (xσ41.trans (xσ42.trans (xσ43.trans (xσ44.trans (xτ89.trans (xσ46.trans (xσ47.trans (xσ48.trans xσ51))))))))))))) (by decide)).2.1
          have kp220 : Kpt (gI σ52 J 7 = gI σ J 7) := Eq.trans (show gI σ52 J 7 = gI σ51 J 7 from (cσ52.O (kJ.up (xσ27.trans (xσ29.trans (xσ30.trans (xσ33.trans (xσ41.trans (xσ42.trans (xσ43.trans (xσ44.trans (xτ89.trans (xσ46.trans (xσ47.trans (xσ48.trans xσ51))))))))))))) (by decide)).1) kp206
          have kp221 : Kpt (gI σ52 J 1 = gI σ J 1) := Eq.trans (show gI σ52 J 1 = gI σ51 J 1 from (cσ52.O (kJ.up (xσ27.trans (xσ29.trans (xσ30.trans (xσ33.trans (xσ41.trans (xσ42.trans (xσ43.trans (xσ44.trans (xτ89.trans (xσ46.trans (xσ47.trans (xσ48.trans xσ51))))))))))))) (by decide)).1) kp207
          have kp222 : Kpt (gI σ52 J 2 = gI σ J 2) := Eq.trans (show gI σ52 J 2 = gI σ51 J 2 from (cσ52.O (kJ.up (xσ27.trans (xσ29.trans (xσ30.trans (xσ33.trans (xσ41.trans (xσ42.trans (xσ43.trans (xσ44.trans (xτ89.trans (xσ46.trans (xσ47.trans (xσ48.trans xσ51))))))))))))) (by decide)).1) kp208
          have kp223 : Kpt (gI σ52 o 3 = gI τ89 o 3) := Eq.trans (show gI σ52 o 3 = gI σ51 o 3 from (cσ52.O (ko.up (xσ27.trans (xσ29.trans (xσ30.trans (xσ33.trans (xσ41.trans (xσ42.trans (xσ43.trans (xσ44.trans (xτ89.trans (xσ46.trans (xσ47.trans (xσ48.trans xσ51))))))))))))) (by decide)).1) kp209
          have kp224 : Kpt (gI σ52 o 4 = gI σ o 4) := Eq.trans (show gI σ52 o 4 = gI σ51 o 4 from (cσ52.O (ko.up (xσ27.trans (xσ29.trans (xσ30.trans (xσ33.trans (xσ41.trans (xσ42.trans (xσ43.trans (xσ44.trans (xτ89.trans (xσ46.trans (xσ47.trans (xσ48.trans xσ51))))))))))))) (by decide)).1) kp210
          have kp225 : Kpt (gI σ52 o 6 = gI τ89 o 6) := Eq.trans (show gI σ52 o 6 = gI σ51 o 6 from (cσ52.O (ko.up (xσ27.trans (xσ29.trans (xσ30.trans (xσ33.trans (xσ41.trans (xσ42.trans (xσ43.trans (xσ44.trans (xτ89.trans (xσ46.trans (xσ47.trans (xσ48.trans xσ51))))))))))))) (by decide)).1) kp211
          have kp226 : Kpt (gI σ52 o 7 = gI σ o 7) := Eq.trans (show gI σ52 o 7 = gI σ51 o 7 from (cσ52.O (ko.up (xσ27.trans (xσ29.trans (xσ30.trans (xσ33.trans (xσ41.trans (xσ42.trans (xσ43.trans (xσ44.trans (xτ89.trans (xσ46.trans (xσ47.trans (xσ48.trans xσ51))))))))))))) (by decide)).1) kp212
          have kp227 : Kpt (gI σ52 o 8 = gI σ o 8) := Eq.trans (show gI σ52 o 8 = gI σ51 o 8 from (cσ52.O (ko.up (xσ27.trans (xσ29.trans (xσ30.trans (xσ33.trans (xσ41.trans (xσ42.trans (xσ43.trans (xσ44.trans (xτ89.trans (xσ46.trans (xσ47.trans (xσ48.trans xσ51))))))))))))) (by decide)).1) kp213
          have kp228 : Kpt (gI σ52 o 9 = gI τ89 o 9) := Eq.trans (show gI σ52 o 9 = gI σ51 o 9 from (cσ52.O (ko.up (xσ27.trans (xσ29.trans (xσ30.trans (xσ33.trans (xσ41.trans (xσ42.trans (xσ43.trans (xσ44.trans (xτ89.trans (xσ46.trans (xσ47.trans (xσ48.trans xσ51))))))))))))) (by decide)).1) kp214
          have r5σ52 := I_6_5 iσ52.1 (kth.up (xσ27.trans (xσ29.trans (xσ30.trans (xσ33.trans (xσ41.trans (xσ42.trans (xσ43.trans (xσ44.trans (xτ89.trans (xσ46.trans (xσ47.trans (xσ48.trans (xσ51.trans xσ52))))))))))))))
          have ho229 : gI σ52 J 7 = gI σ J 7 := kp220
          have cp230 : (gI σ52 th 5 ≤ gI σ52 th 2 ∧ (gI σ52 th 3 ≠ 0 → gI σ52 th 5 + 1 ≤ gI σ52 th 2)) ∧ gI σ52 J 7 ≤ 2 * gI σ52 th 5 ∧ 0 ≤ gI σ52 th 5 := by omega
          clear pσ52 kp205 kp204 kp203 kp189 kp188 kp187 cp182
          have ho231 : gI σ52 J 1 = gI σ J 1 := kp221
          have ho232 : gI σ52 J 2 = gI σ J 2 := kp222
          have ho233 : gI σ52 o 3 = gI τ89 o 3 := kp223
          have ho234 : gI σ52 o 4 = gI σ o 4 := kp224
          have ho235 : gI σ52 o 6 = gI τ89 o 6 := kp225
          have ho236 : gI σ52 o 7 = gI σ o 7 := kp226
          have ho237 : gI σ52 o 8 = gI σ o 8 := kp227
          have ho238 : gI σ52 o 9 = gI τ89 o 9 := kp228
          exact hQ σ52 () iσ52 fσ52 oxcσ52 (⟨by omega, by omega, ⟨by omega, (fun h => absurd h (by omega)), (fun h => absurd h (by omega))⟩⟩)
        · rw [if_neg hc152]
          unfold w_X6_sourceText_94
          have q240 := iτ89.rg th 3; unfold rng at q240
          by_cases hc239 : gI τ89 th 3 ≠ 1
          · rw [if_pos hc239]
            unfold w_X6_sourceText_113
            refine i_X6_wantSign iτ89 (kth.up (xσ27.trans (xσ29.trans (xσ30.trans (xσ33.trans (xσ41.trans (xσ42.trans (xσ43.trans (xσ44.trans xτ89))))))))) (kp135.trans hX0) (kX.up (xσ27.trans (xσ29.trans (xσ30.trans (xσ33.trans (xσ41.trans (xσ42.trans (xσ43.trans (xσ44.trans xτ89))))))))) (((xσ27.trans (xσ29.trans (xσ30.trans (xσ33.trans (xσ41.trans (xσ42.trans (xσ43.trans (xσ44.trans xτ89)))))))) tx kX.1).2.2.trans gX) (by (first | omega | with_reducible assumption | with_reducible exact rng_toInt _ | with_reducible exact rng_wr _ | (unfold rng; omega) | (unfold rng at *; omega) | assumption)) (by (first | omega | with_reducible assumption | with_reducible exact rng_toInt _ | with_reducible exact rng_wr _ | (unfold rng; omega) | (unfold rng at *; omega) | assumption)) (fun σ46_1 _ iσ46_1 cσ46_1 pσ46_1 => ?_) (fun σx LLx Nx nux E ix cx ux px => hX σx LLx Nx nux E ix (fτ89.tr (cx.mo (by decide))) (ux) (by first | exact px | exact ⟨by have := px.1; omega, px.2⟩ | (first | omega | with_reducible assumption | with_reducible exact rng_toInt _ | with_reducible exact rng_wr _ | (unfold rng; omega) | (unfold rng at *; omega) | assumption)))
            intro xσ46_1
            have fσ46_1 : Fx [323, 326, 329, 330, 386, 387, 388, 389, 390, 6464, 8320] gr σ σ46_1 := fτ89.tr (cσ46_1.mo (by decide))
            have oxcσ46_1 : OX o σ σ46_1 := oxcτ89.tr (OX.fx cσ46_1 (by decide) (by decide)) (xσ27.trans (xσ29.trans (xσ30.trans (xσ33.trans (xσ41.trans (xσ42.trans (xσ43.trans (xσ44.trans xτ89))))))))
            have kp241 : gP σ46_1 J 4 = gP τ89 J 4 := (cσ46_1.O (kJ.up (xσ27.trans (xσ29.trans (xσ30.trans (xσ33.trans (xσ41.trans (xσ42.trans (xσ43.trans (xσ44.trans xτ89))))))))) (by decide)).2.1
            have kp242 : gP σ46_1 th 0 = gP τ89 th 0 := (cσ46_1.O (kth.up (xσ27.trans (xσ29.trans (xσ30.trans (xσ33.trans (xσ41.trans (xσ42.trans (xσ43.trans (xσ44.trans xτ89))))))))) (by decide)).2.1
            have kp243 : gP σ46_1 th 7 = gP τ89 th 7 := (cσ46_1.O (kth.up (xσ27.trans (xσ29.trans (xσ30.trans (xσ33.trans (xσ41.trans (xσ42.trans (xσ43.trans (xσ44.trans xτ89))))))))) (by decide)).2.1
            have kp244 : gP σ46_1 th 8 = gP τ89 th 8 := (cσ46_1.O (kth.up (xσ27.trans (xσ29.trans (xσ30.trans (xσ33.trans (xσ41.trans (xσ42.trans (xσ43.trans (xσ44.trans xτ89))))))))) (by decide)).2.1
            have kp245 : Kpt (gI σ46_1 J 7 = gI σ J 7) := Eq.trans (show gI σ46_1 J 7 = gI τ89 J 7 from (cσ46_1.O (kJ.up (xσ27.trans (xσ29.trans (xσ30.trans (xσ33.trans (xσ41.trans (xσ42.trans (xσ43.trans (xσ44.trans xτ89))))))))) (by decide)).1) kp140
            have kp246 : Kpt (gI σ46_1 J 1 = gI σ J 1) := Eq.trans (show gI σ46_1 J 1 = gI τ89 J 1 from (cσ46_1.O (kJ.up (xσ27.trans (xσ29.trans (xσ30.trans (xσ33.trans (xσ41.trans (xσ42.trans (xσ43.trans (xσ44.trans xτ89))))))))) (by decide)).1) kp141
            have kp247 : Kpt (gI σ46_1 J 2 = gI σ J 2) := Eq.trans (show gI σ46_1 J 2 = gI τ89 J 2 from (cσ46_1.O (kJ.up (xσ27.trans (xσ29.trans (xσ30.trans (xσ33.trans (xσ41.trans (xσ42.trans (xσ43.trans (xσ44.trans xτ89))))))))) (by decide)).1) kp142
            have kp248 : Kpt (gI σ46_1 o 3 = gI τ89 o 3) := (show gI σ46_1 o 3 = gI τ89 o 3 from (cσ46_1.O (ko.up (xσ27.trans (xσ29.trans (xσ30.trans (xσ33.trans (xσ41.trans (xσ42.trans (xσ43.trans (xσ44.trans xτ89))))))))) (by decide)).1)
            have kp249 : Kpt (gI σ46_1 o 4 = gI σ o 4) := Eq.trans (show gI σ46_1 o 4 = gI τ89 o 4 from (cσ46_1.O (ko.up (xσ27.trans (xσ29.trans (xσ30.trans (xσ33.trans (xσ41.trans (xσ42.trans (xσ43.trans (xσ44.trans xτ89))))))))) (by decide)).1) kp143
            have kp250 : Kpt (gI σ46_1 o 6 = gI τ89 o 6) := (show gI σ46_1 o 6 = gI τ89 o 6 from (cσ46_1.O (ko.up (xσ27.trans (xσ29.trans (xσ30.trans (xσ33.trans (xσ41.trans (xσ42.trans (xσ43.trans (xσ44.trans xτ89))))))))) (by decide)).1)
            have kp251 : Kpt (gI σ46_1 o 7 = gI σ o 7) := Eq.trans (show gI σ46_1 o 7 = gI τ89 o 7 from (cσ46_1.O (ko.up (xσ27.trans (xσ29.trans (xσ30.trans (xσ33.trans (xσ41.trans (xσ42.trans (xσ43.trans (xσ44.trans xτ89))))))))) (by decide)).1) kp144
            have kp252 : Kpt (gI σ46_1 o 8 = gI σ o 8) := Eq.trans (show gI σ46_1 o 8 = gI τ89 o 8 from (cσ46_1.O (ko.up (xσ27.trans (xσ29.trans (xσ30.trans (xσ33.trans (xσ41.trans (xσ42.trans (xσ43.trans (xσ44.trans xτ89))))))))) (by decide)).1) kp145
            have kp253 : Kpt (gI σ46_1 o 9 = gI τ89 o 9) := (show gI σ46_1 o 9 = gI τ89 o 9 from (cσ46_1.O (ko.up (xσ27.trans (xσ29.trans (xσ30.trans (xσ33.trans (xσ41.trans (xσ42.trans (xσ43.trans (xσ44.trans xτ89))))))))) (by decide)).1)
            have r5σ46_1 := I_6_5 iσ46_1.1 (kth.up (xσ27.trans (xσ29.trans (xσ30.trans (xσ33.trans (xσ41.trans (xσ42.trans (xσ43.trans (xσ44.trans (xτ89.trans xσ46_1))))))))))
            have ho254 : gI σ46_1 J 7 = gI σ J 7 := kp245
            have cp255 : (gI σ46_1 th 5 ≤ gI σ46_1 th 2 ∧ (gI σ46_1 th 3 ≠ 0 → gI σ46_1 th 5 + 1 ≤ gI σ46_1 th 2)) ∧ gI σ46_1 J 7 ≤ 2 * gI σ46_1 th 5 ∧ 0 ≤ gI σ46_1 th 5 := by omega
            clear pσ46_1 cp116
            refine i_X6_wantWord iσ46_1 (kth.up (xσ27.trans (xσ29.trans (xσ30.trans (xσ33.trans (xσ41.trans (xσ42.trans (xσ43.trans (xσ44.trans (xτ89.trans xσ46_1)))))))))) (kp242.trans (kp135.trans hX0)) (kX.up (xσ27.trans (xσ29.trans (xσ30.trans (xσ33.trans (xσ41.trans (xσ42.trans (xσ43.trans (xσ44.trans (xτ89.trans xσ46_1)))))))))) (((xσ27.trans (xσ29.trans (xσ30.trans (xσ33.trans (xσ41.trans (xσ42.trans (xσ43.trans (xσ44.trans (xτ89.trans xσ46_1))))))))) tx kX.1).2.2.trans gX) (by (first | omega | with_reducible assumption | with_reducible exact rng_toInt _ | with_reducible exact rng_wr _ | (unfold rng; omega) | (unfold rng at *; omega) | assumption)) (by (first | omega | with_reducible assumption | with_reducible exact rng_toInt _ | with_reducible exact rng_wr _ | (unfold rng; omega) | (unfold rng at *; omega) | assumption)) (fun σ47_1 _ iσ47_1 cσ47_1 pσ47_1 => ?_) (fun σx LLx Nx nux E ix cx ux px => hX σx LLx Nx nux E ix (fσ46_1.tr (cx.mo (by decide))) (ux) (by first | exact px | exact ⟨by have := px.1; omega, px.2⟩ | (first | omega | with_reducible assumption | with_reducible exact rng_toInt _ | with_reducible exact rng_wr _ | (unfold rng; omega) | (unfold rng at *; omega) | assumption)))
            intro xσ47_1
            have fσ47_1 : Fx [323, 326, 329, 330, 386, 387, 388, 389, 390, 6464, 8320] gr σ σ47_1 := fσ46_1.tr (cσ47_1.mo (by decide))
            have oxcσ47_1 : OX o σ σ47_1 := oxcσ46_1.tr (OX.fx cσ47_1 (by decide) (by decide)) (xσ27.trans (xσ29.trans (xσ30.trans (xσ33.trans (xσ41.trans (xσ42.trans (xσ43.trans (xσ44.trans (xτ89.trans xσ46_1)))))))))
            have kp256 : gP σ47_1 J 4 = gP σ46_1 J 4 := (cσ47_1.O (kJ.up (xσ27.trans (xσ29.trans (xσ30.trans (xσ33.trans (xσ41.trans (xσ42.trans (xσ43.trans (xσ44.trans (xτ89.trans xσ46_1)))))))))) (by decide)).2.1
            have kp257 : gP σ47_1 th 0 = gP σ46_1 th 0 := (cσ47_1.O (kth.up (xσ27.trans (xσ29.trans (xσ30.trans (xσ33.trans (xσ41.trans (xσ42.trans (xσ43.trans (xσ44.trans (xτ89.trans xσ46_1)))))))))) (by decide)).2.1
            have kp258 : gP σ47_1 th 7 = gP σ46_1 th 7 := (cσ47_1.O (kth.up (xσ27.trans (xσ29.trans (xσ30.trans (xσ33.trans (xσ41.trans (xσ42.trans (xσ43.trans (xσ44.trans (xτ89.trans xσ46_1)))))))))) (by decide)).2.1
            have kp259 : gP σ47_1 th 8 = gP σ46_1 th 8 := (cσ47_1.O (kth.up (xσ27.trans (xσ29.trans (xσ30.trans (xσ33.trans (xσ41.trans (xσ42.trans (xσ43.trans (xσ44.trans (xτ89.trans xσ46_1)))))))))) (by decide)).2.1
            have kp260 : Kpt (gI σ47_1 J 7 = gI σ J 7) := Eq.trans (show gI σ47_1 J 7 = gI σ46_1 J 7 from (cσ47_1.O (kJ.up (xσ27.trans (xσ29.trans (xσ30.trans (xσ33.trans (xσ41.trans (xσ42.trans (xσ43.trans (xσ44.trans (xτ89.trans xσ46_1)))))))))) (by decide)).1) kp245
            have kp261 : Kpt (gI σ47_1 J 1 = gI σ J 1) := Eq.trans (show gI σ47_1 J 1 = gI σ46_1 J 1 from (cσ47_1.O (kJ.up (xσ27.trans (xσ29.trans (xσ30.trans (xσ33.trans (xσ41.trans (xσ42.trans (xσ43.trans (xσ44.trans (xτ89.trans xσ46_1)))))))))) (by decide)).1) kp246
            have kp262 : Kpt (gI σ47_1 J 2 = gI σ J 2) := Eq.trans (show gI σ47_1 J 2 = gI σ46_1 J 2 from (cσ47_1.O (kJ.up (xσ27.trans (xσ29.trans (xσ30.trans (xσ33.trans (xσ41.trans (xσ42.trans (xσ43.trans (xσ44.trans (xτ89.trans xσ46_1)))))))))) (by decide)).1) kp247
            have kp263 : Kpt (gI σ47_1 o 3 = gI τ89 o 3) := Eq.trans (show gI σ47_1 o 3 = gI σ46_1 o 3 from (cσ47_1.O (ko.up (xσ27.trans (xσ29.trans (xσ30.trans (xσ33.trans (xσ41.trans (xσ42.trans (xσ43.trans (xσ44.trans (xτ89.trans xσ46_1)))))))))) (by decide)).1) kp248
            have kp264 : Kpt (gI σ47_1 o 4 = gI σ o 4) := Eq.trans (show gI σ47_1 o 4 = gI σ46_1 o 4 from (cσ47_1.O (ko.up (xσ27.trans (xσ29.trans (xσ30.trans (xσ33.trans (xσ41.trans (xσ42.trans (xσ43.trans (xσ44.trans (xτ89.trans xσ46_1)))))))))) (by decide)).1) kp249
            have kp265 : Kpt (gI σ47_1 o 6 = gI τ89 o 6) := Eq.trans (show gI σ47_1 o 6 = gI σ46_1 o 6 from (cσ47_1.O (ko.up (xσ27.trans (xσ29.trans (xσ30.trans (xσ33.trans (xσ41.trans (xσ42.trans (xσ43.trans (xσ44.trans (xτ89.trans xσ46_1)))))))))) (by decide)).1) kp250
            have kp266 : Kpt (gI σ47_1 o 7 = gI σ o 7) := Eq.trans (show gI σ47_1 o 7 = gI σ46_1 o 7 from (cσ47_1.O (ko.up (xσ27.trans (xσ29.trans (xσ30.trans (xσ33.trans (xσ41.trans (xσ42.trans (xσ43.trans (xσ44.trans (xτ89.trans xσ46_1)))))))))) (by decide)).1) kp251
            have kp267 : Kpt (gI σ47_1 o 8 = gI σ o 8) := Eq.trans (show gI σ47_1 o 8 = gI σ46_1 o 8 from (cσ47_1.O (ko.up (xσ27.trans (xσ29.trans (xσ30.trans (xσ33.trans (xσ41.trans (xσ42.trans (xσ43.trans (xσ44.trans (xτ89.trans xσ46_1)))))))))) (by decide)).1) kp252
            have kp268 : Kpt (gI σ47_1 o 9 = gI τ89 o 9) := Eq.trans (show gI σ47_1 o 9 = gI σ46_1 o 9 from (cσ47_1.O (ko.up (xσ27.trans (xσ29.trans (xσ30.trans (xσ33.trans (xσ41.trans (xσ42.trans (xσ43.trans (xσ44.trans (xτ89.trans xσ46_1)))))))))) (by decide)).1) kp253
            have r5σ47_1 := I_6_5 iσ47_1.1 (kth.up (xσ27.trans (xσ29.trans (xσ30.trans (xσ33.trans (xσ41.trans (xσ42.trans (xσ43.trans (xσ44.trans (xτ89.trans (xσ46_1.trans xσ47_1)))))))))))
            have ho269 : gI σ47_1 J 7 = gI σ J 7 := kp260
            have cp270 : (gI σ47_1 th 5 ≤ gI σ47_1 th 2 ∧ (gI σ47_1 th 3 ≠ 0 → gI σ47_1 th 5 + 1 ≤ gI σ47_1 th 2)) ∧ gI σ47_1 J 7 ≤ 2 * gI σ47_1 th 5 ∧ 0 ≤ gI σ47_1 th 5 := by omega
            clear pσ47_1 cp255
            refine i_X6_number iσ47_1 (kth.up (xσ27.trans (xσ29.trans (xσ30.trans (xσ33.trans (xσ41.trans (xσ42.trans (xσ43.trans (xσ44.trans (xτ89.trans (xσ46_1.trans xσ47_1))))))))))) (by (first | omega | with_reducible assumption | with_reducible exact rng_toInt _ | with_reducible exact rng_wr _ | (unfold rng; omega) | (unfold rng at *; omega) | assumption)) (by (first | omega | with_reducible assumption | with_reducible exact rng_toInt _ | with_reducible exact rng_wr _ | (unfold rng; omega) | (unfold rng at *; omega) | assumption)) (fun σ48_1 r49_1 iσ48_1 cσ48_1 pσ48_1 => ?_) (fun σx LLx Nx nux E ix cx ux px => hX σx LLx Nx nux E ix (fσ47_1.tr (cx.mo (by decide))) (ux) (by first | exact px | exact ⟨by have := px.1; omega, px.2⟩ | (first | omega | with_reducible assumption | with_reducible exact rng_toInt _ | with_reducible exact rng_wr _ | (unfold rng; omega) | (unfold rng at *; omega) | assumption)))
            intro xσ48_1
            have fσ48_1 : Fx [323, 326, 329, 330, 386, 387, 388, 389, 390, 6464, 8320] gr σ σ48_1 := fσ47_1.tr (cσ48_1.mo (by decide))
            have oxcσ48_1 : OX o σ σ48_1 := oxcσ47_1.tr (OX.fx cσ48_1 (by decide) (by decide)) (xσ27.trans (xσ29.trans (xσ30.trans (xσ33.trans (xσ41.trans (xσ42.trans (xσ43.trans (xσ44.trans (xτ89.trans (xσ46_1.trans xσ47_1))))))))))
            have kp271 : gP σ48_1 J 4 = gP σ47_1 J 4 := (cσ48_1.O (kJ.up (xσ27.trans (xσ29.trans (xσ30.trans (xσ33.trans (xσ41.trans (xσ42.trans (xσ43.trans (xσ44.trans (xτ89.trans (xσ46_1.trans xσ47_1))))))))))) (by decide)).2.1
            have kp272 : gP σ48_1 th 0 = gP σ47_1 th 0 := (cσ48_1.O (kth.up (xσ27.trans (xσ29.trans (xσ30.trans (xσ33.trans (xσ41.trans (xσ42.trans (xσ43.trans (xσ44.trans (xτ89.trans (xσ46_1.trans xσ47_1))))))))))) (by decide)).2.1
            have kp273 : gP σ48_1 th 7 = gP σ47_1 th 7 := (cσ48_1.O (kth.up (xσ27.trans (xσ29.trans (xσ30.trans (xσ33.trans (xσ41.trans (xσ42.trans (xσ43.trans (xσ44.trans (xτ89.trans (xσ46_1.trans xσ47_1))))))))))) (by decide)).2.1
            have kp274 : gP σ48_1 th 8 = gP σ47_1 th 8 := (cσ48_1.O (kth.up (xσ27.trans (xσ29.trans (xσ30.trans (xσ33.trans (xσ41.trans (xσ42.trans (xσ43.trans (xσ44.trans (xτ89.trans (xσ46_1.trans xσ47_1))))))))))) (by decide)).2.1
            have kp275 : gI σ48_1 th 2 = gI σ47_1 th 2 := (cσ48_1.O (kth.up (xσ27.trans (xσ29.trans (xσ30.trans (xσ33.trans (xσ41.trans (xσ42.trans (xσ43.trans (xσ44.trans (xτ89.trans (xσ46_1.trans xσ47_1))))))))))) (by decide)).1
            have kp276 : gI σ48_1 th 3 = gI σ47_1 th 3 := (cσ48_1.O (kth.up (xσ27.trans (xσ29.trans (xσ30.trans (xσ33.trans (xσ41.trans (xσ42.trans (xσ43.trans (xσ44.trans (xτ89.trans (xσ46_1.trans xσ47_1))))))))))) (by decide)).1
            have kp277 : gI σ48_1 th 5 = gI σ47_1 th 5 := (cσ48_1.O (kth.up (xσ27.trans (xσ29.trans (xσ30.trans (xσ33.trans (xσ41.trans (xσ42.trans (xσ43.trans (xσ44.trans (xτ89.trans (xσ46_1.trans xσ47_1))))))))))) (by decide)).1
            have kp278 : Kpt (gI σ48_1 J 7 = gI σ J 7) := Eq.trans (show gI σ48_1 J 7 = gI σ47_1 J 7 from (cσ48_1.O (kJ.up (xσ27.trans (xσ29.trans (xσ30.trans (xσ33.trans (xσ41.trans (xσ42.trans (xσ43.trans (xσ44.trans (xτ89.trans (xσ46_1.trans xσ47_1))))))))))) (by decide)).1) kp260
            have kp279 : Kpt (gI σ48_1 J 1 = gI σ J 1) := Eq.trans (show gI σ48_1 J 1 = gI σ47_1 J 1 from (cσ48_1.O (kJ.up (xσ27.trans (xσ29.trans (xσ30.trans (xσ33.trans (xσ41.trans (xσ42.trans (xσ43.trans (xσ44.trans (xτ89.trans (xσ46_1.trans xσ47_1))))))))))) (by decide)).1) kp261
            have kp280 : Kpt (gI σ48_1 J 2 = gI σ J 2) := Eq.trans (show gI σ48_1 J 2 = gI σ47_1 J 2 from (cσ48_1.O (kJ.up (xσ27.trans (xσ29.trans (xσ30.trans (xσ33.trans (xσ41.trans (xσ42.trans (xσ43.trans (xσ44.trans (xτ89.trans (xσ46_1.trans xσ47_1))))))))))) (by decide)).1) kp262
            have kp281 : Kpt (gI σ48_1 o 3 = gI τ89 o 3) := Eq.trans (show gI σ48_1 o 3 = gI σ47_1 o 3 from (cσ48_1.O (ko.up (xσ27.trans (xσ29.trans (xσ30.trans (xσ33.trans (xσ41.trans (xσ42.trans (xσ43.trans (xσ44.trans (xτ89.trans (xσ46_1.trans xσ47_1))))))))))) (by decide)).1) kp263
            have kp282 : Kpt (gI σ48_1 o 4 = gI σ o 4) := Eq.trans (show gI σ48_1 o 4 = gI σ47_1 o 4 from (cσ48_1.O (ko.up (xσ27.trans (xσ29.trans (xσ30.trans (xσ33.trans (xσ41.trans (xσ42.trans (xσ43.trans (xσ44.trans (xτ89.trans (xσ46_1.trans xσ47_1))))))))))) (by decide)).1) kp264
            have kp283 : Kpt (gI σ48_1 o 6 = gI τ89 o 6) := Eq.trans (show gI σ48_1 o 6 = gI σ47_1 o 6 from (cσ48_1.O (ko.up (xσ27.trans (xσ29.trans (xσ30.trans (xσ33.trans (xσ41.trans (xσ42.trans (xσ43.trans (xσ44.trans (xτ89.trans (xσ46_1.trans xσ47_1))))))))))) (by decide)).1) kp265
            have kp284 : Kpt (gI σ48_1 o 7 = gI σ o 7) := Eq.trans (show gI σ48_1 o 7 = gI σ47_1 o 7 from (cσ48_1.O (ko.up (xσ27.trans (xσ29.trans (xσ30.trans (xσ33.trans (xσ41.trans (xσ42.trans (xσ43.trans (xσ44.trans (xτ89.trans (xσ46_1.trans xσ47_1))))))))))) (by decide)).1) kp266
            have kp285 : Kpt (gI σ48_1 o 8 = gI σ o 8) := Eq.trans (show gI σ48_1 o 8 = gI σ47_1 o 8 from (cσ48_1.O (ko.up (xσ27.trans (xσ29.trans (xσ30.trans (xσ33.trans (xσ41.trans (xσ42.trans (xσ43.trans (xσ44.trans (xτ89.trans (xσ46_1.trans xσ47_1))))))))))) (by decide)).1) kp267
            have kp286 : Kpt (gI σ48_1 o 9 = gI τ89 o 9) := Eq.trans (show gI σ48_1 o 9 = gI σ47_1 o 9 from (cσ48_1.O (ko.up (xσ27.trans (xσ29.trans (xσ30.trans (xσ33.trans (xσ41.trans (xσ42.trans (xσ43.trans (xσ44.trans (xτ89.trans (xσ46_1.trans xσ47_1))))))))))) (by decide)).1) kp268
            refine ⟨o, (kp259.trans (kp244.trans (kp137.trans h8))), fun kk_o_5 => ?_⟩
            intro σ51_1 eσ51_1
            have xσ51_1 : Ext σ48_1 σ51_1 := by rw [eσ51_1]; exact fun _ h => ⟨h, rfl, rfl⟩
            have iσ51_1 : IV σ51_1 pl gq ci gr nc ot LL N nu := by rw [eσ51_1]; exact iσ48_1.wSp (ko.up (xσ27.trans (xσ29.trans (xσ30.trans (xσ33.trans (xσ41.trans (xσ42.trans (xσ43.trans (xσ44.trans (xτ89.trans (xσ46_1.trans (xσ47_1.trans xσ48_1)))))))))))) (fun i hi => by omega) (by decide) (show (0 : Int) ≤ r49_1 ∧ r49_1 ≤ 1000 from ⟨by omega, by omega⟩)
            have fσ51_1 : Fx [323, 326, 329, 330, 386, 387, 388, 389, 390, 6464, 8320] gr σ σ51_1 := fσ48_1.tr (Sk.fx (by rw [eσ51_1]; exact Sk.pI (by rw [fcdO (ko.up (xσ27.trans (xσ29.trans (xσ30.trans (xσ33.trans (xσ41.trans (xσ42.trans (xσ43.trans (xσ44.trans (xτ89.trans (xσ46_1.trans (xσ47_1.trans xσ48_1)))))))))))) (by decide)]; decide)))
            have oxcσ51_1 : OX o σ σ51_1 := oxcσ48_1.tr (by rw [eσ51_1]; exact OX.pI (ko.up (xσ27.trans (xσ29.trans (xσ30.trans (xσ33.trans (xσ41.trans (xσ42.trans (xσ43.trans (xσ44.trans (xτ89.trans (xσ46_1.trans (xσ47_1.trans xσ48_1)))))))))))) (Or.inr rfl)) (xσ27.trans (xσ29.trans (xσ30.trans (xσ33.trans (xσ41.trans (xσ42.trans (xσ43.trans (xσ44.trans (xτ89.trans (xσ46_1.trans (xσ47_1.trans xσ48_1)))))))))))
            have wσ51_1 : gI σ51_1 o 10 = r49_1 := by rw [eσ51_1]; exact up2_s _ _ _ _
            have kp287 : gP σ51_1 J 4 = gP σ48_1 J 4 := by rw [eσ51_1]
            have kp288 : gP σ51_1 th 0 = gP σ48_1 th 0 := by rw [eσ51_1]
            have kp289 : gP σ51_1 th 7 = gP σ48_1 th 7 := by rw [eσ51_1]
            have kp290 : gP σ51_1 th 8 = gP σ48_1 th 8 := by rw [eσ51_1]
            have kp291 : gI σ51_1 th 2 = gI σ48_1 th 2 := by rw [eσ51_1]; exact up2_n _ _ (fun q => absurd q.2 (by decide))
            have kp292 : gI σ51_1 th 3 = gI σ48_1 th 3 := by rw [eσ51_1]; exact up2_n _ _ (fun q => absurd q.2 (by decide))
            have kp293 : gI σ51_1 th 5 = gI σ48_1 th 5 := by rw [eσ51_1]; exact up2_n _ _ (fun q => absurd q.2 (by decide))
            have kp294 : Kpt (gI σ51_1 J 7 = gI σ J 7) := Eq.trans (show gI σ51_1 J 7 = gI σ48_1 J 7 from by rw [eσ51_1]; exact up2_n _ _ (fun q => absurd q.2 (by decide))) kp278
            have kp295 : Kpt (gI σ51_1 J 1 = gI σ J 1) := Eq.trans (show gI σ51_1 J 1 = gI σ48_1 J 1 from by rw [eσ51_1]; exact up2_n _ _ (fun q => absurd q.2 (by decide))) kp279
            have kp296 : Kpt (gI σ51_1 J 2 = gI σ J 2) := Eq.trans (show gI σ51_1 J 2 = gI σ48_1 J 2 from by rw [eσ51_1]; exact up2_n _ _ (fun q => absurd q.2 (by decide))) kp280
            have kp297 : Kpt (gI σ51_1 o 3 = gI τ89 o 3) := Eq.trans (show gI σ51_1 o 3 = gI σ48_1 o 3 from by rw [eσ51_1]; exact up2_n _ _ (fun q => absurd q.2 (by decide))) kp281
            have kp298 : Kpt (gI σ51_1 o 4 = gI σ o 4) := Eq.trans (show gI σ51_1 o 4 = gI σ48_1 o 4 from by rw [eσ51_1]; exact up2_n _ _ (fun q => absurd q.2 (by decide))) kp282
            have kp299 : Kpt (gI σ51_1 o 6 = gI τ89 o 6) := Eq.trans (show gI σ51_1 o 6 = gI σ48_1 o 6 from by rw [eσ51_1]; exact up2_n _ _ (fun q => absurd q.2 (by decide))) kp283
            have kp300 : Kpt (gI σ51_1 o 7 = gI σ o 7) := Eq.trans (show gI σ51_1 o 7 = gI σ48_1 o 7 from by rw [eσ51_1]; exact up2_n _ _ (fun q => absurd q.2 (by decide))) kp284
            have kp301 : Kpt (gI σ51_1 o 8 = gI σ o 8) := Eq.trans (show gI σ51_1 o 8 = gI σ48_1 o 8 from by rw [eσ51_1]; exact up2_n _ _ (fun q => absurd q.2 (by decide))) kp285
            have kp302 : Kpt (gI σ51_1 o 9 = gI τ89 o 9) := Eq.trans (show gI σ51_1 o 9 = gI σ48_1 o 9 from by rw [eσ51_1]; exact up2_n _ _ (fun q => absurd q.2 (by decide))) kp286
            refine i_X6_next iσ51_1 (kth.up (xσ27.trans (xσ29.trans (xσ30.trans (xσ33.trans (xσ41.trans (xσ42.trans (xσ43.trans (xσ44.trans (xτ89.trans (xσ46_1.trans (xσ47_1.trans (xσ48_1.trans xσ51_1))))))))))))) (kp288.trans (kp272.trans (kp257.trans (kp242.trans (kp135.trans hX0))))) (kX.up (xσ27.trans (xσ29.trans (xσ30.trans (xσ33.trans (xσ41.trans (xσ42.trans (xσ43.trans (xσ44.trans (xτ89.trans (xσ46_1.trans (xσ47_1.trans (xσ48_1.trans xσ51_1))))))))))))) (((xσ27.trans (xσ29.trans (xσ30.trans (xσ33.trans (xσ41.trans (xσ42.trans (xσ43.trans (xσ44.trans (xτ89.trans (xσ46_1.trans (xσ47_1.trans (xσ48_1.trans xσ51_1)))))))))))) tx kX.1).2.2.trans gX) (by (first | omega | with_reducible assumption | with_reducible exact rng_toInt _ | with_reducible exact rng_wr _ | (unfold rng; omega) | (unfold rng at *; omega) | assumption)) (by (first | omega | with_reducible assumption | with_reducible exact rng_toInt _ | with_reducible exact rng_wr _ | (unfold rng; omega) | (unfold rng at *; omega) | assumption)) (fun σ52_1 _ iσ52_1 cσ52_1 pσ52_1 => ?_) (fun σx LLx Nx nux E ix cx ux px => hX σx LLx Nx nux E ix (fσ51_1.tr (cx.mo (by decide))) (ux) (by first | exact px | exact ⟨by have := px.1; omega, px.2⟩ | (first | omega | with_reducible assumption | with_reducible exact rng_toInt _ | with_reducible exact rng_wr _ | (unfold rng; omega) | (unfold rng at *; omega) | assumption)))
            intro xσ52_1
            have fσ52_1 : Fx [323, 326, 329, 330, 386, 387, 388, 389, 390, 6464, 8320] gr σ σ52_1 := fσ51_1.tr (cσ52_1.mo (by decide))
            have oxcσ52_1 : OX o σ σ52_1 := oxcσ51_1.tr (OX.fx cσ52_1 (by decide) (by decide)) (xσ27.trans (xσ29.trans (xσ30.trans (xσ33.trans (xσ41.trans (xσ42.trans (xσ43.trans (xσ44.trans (xτ89.trans (xσ46_1.trans (xσ47_1.trans (xσ48_1.trans xσ51_1))))))))))))
            have kp303 : gI σ52_1 o 10 = gI σ51_1 o 10 := (cσ52_1.O (ko.up (xσ27.trans (xσ29.trans (xσ30.trans (xσ33.trans (xσ41.trans (xσ42.trans (xσ43.trans (xσ44.trans (xτ89.trans (xσ46_1.trans (xσ47_1.trans (xσ48_1.trans xσ51_1))))))))))))) (by decide)).1
            have kp304 : gP σ52_1 J 4 = gP σ51_1 J 4 := (cσ52_1.O (kJ.up (xσ27.trans (xσ29.trans (xσ30.trans (xσ33.trans (xσ41.trans (xσ42.trans (xσ43.trans (xσ44.trans (xτ89.trans (xσ46_1.trans (xσ47_1.trans (xσ48_1.trans xσ51_1))))))))))))) (by decide)).2.1
            have kp305 : gP σ52_1 th 0 = gP σ51_1 th 0 := (cσ52_1.O (kth.up (xσ27.trans (xσ29.trans (xσ30.trans (xσ33.trans (xσ41.trans (xσ42.trans (xσ43.trans (xσ44.trans (xτ89.trans (xσ46_1.trans (xσ47_1.trans (xσ48_1.trans xσ51_1))))))))))))) (by decide)).2.1
            have kp306 : gP σ52_1 th 7 = gP σ51_1 th 7 := (cσ52_1.O (kth.up (xσ27.trans (xσ29.trans (xσ30.trans (xσ33.trans (xσ41.trans (xσ42.trans (xσ43.trans (xσ44.trans (xτ89.trans (xσ46_1.trans (xσ47_1.trans (xσ48_1.trans xσ51_1))))))))))))) (by decide)).2.1
            have kp307 : gP σ52_1 th 8 = gP σ51_1 th 8 := (cσ52_1.O (kth.up (xσ27.trans (xσ29.trans (xσ30.trans (xσ33.trans (xσ41.trans (xσ42.trans (xσ43.trans (xσ44.trans (xτ89.trans (xσ46_1.trans (xσ47_1.trans (xσ48_1.trans xσ51_1))))))))))))) (by decide)).2.1
            have kp308 : Kpt (gI σ52_1 J 7 = gI σ J 7) := Eq.trans (show gI σ52_1 J 7 = gI σ51_1 J 7 from (cσ52_1.O (kJ.up (xσ27.trans (xσ29.trans (xσ30.trans (xσ33.trans (xσ41.trans (xσ42.trans (xσ43.trans (xσ44.trans (xτ89.trans (xσ46_1.trans (xσ47_1.trans (xσ48_1.trans xσ51_1))))))))))))) (by decide)).1) kp294
            have kp309 : Kpt (gI σ52_1 J 1 = gI σ J 1) := Eq.trans (show gI σ52_1 J 1 = gI σ51_1 J 1 from (cσ52_1.O (kJ.up (xσ27.trans (xσ29.trans (xσ30.trans (xσ33.trans (xσ41.trans (xσ42.trans (xσ43.trans (xσ44.trans (xτ89.trans (xσ46_1.trans (xσ47_1.trans (xσ48_1.trans xσ51_1))))))))))))) (by decide)).1) kp295
            have kp310 : Kpt (gI σ52_1 J 2 = gI σ J 2) := Eq.trans (show gI σ52_1 J 2 = gI σ51_1 J 2 from (cσ52_1.O (kJ.up (xσ27.trans (xσ29.trans (xσ30.trans (xσ33.trans (xσ41.trans (xσ42.trans (xσ43.trans (xσ44.trans (xτ89.trans (xσ46_1.trans (xσ47_1.trans (xσ48_1.trans xσ51_1))))))))))))) (by decide)).1) kp296
            have kp311 : Kpt (gI σ52_1 o 3 = gI τ89 o 3) := Eq.trans (show gI σ52_1 o 3 = gI σ51_1 o 3 from (cσ52_1.O (ko.up (xσ27.trans (xσ29.trans (xσ30.trans (xσ33.trans (xσ41.trans (xσ42.trans (xσ43.trans (xσ44.trans (xτ89.trans (xσ46_1.trans (xσ47_1.trans (xσ48_1.trans xσ51_1))))))))))))) (by decide)).1) kp297
            have kp312 : Kpt (gI σ52_1 o 4 = gI σ o 4) := Eq.trans (show gI σ52_1 o 4 = gI σ51_1 o 4 from (cσ52_1.O (ko.up (xσ27.trans (xσ29.trans (xσ30.trans (xσ33.trans (xσ41.trans (xσ42.trans (xσ43.trans (xσ44.trans (xτ89.trans (xσ46_1.trans (xσ47_1.trans (xσ48_1.trans xσ51_1))))))))))))) (by decide)).1) kp298
            have kp313 : Kpt (gI σ52_1 o 6 = gI τ89 o 6) := Eq.trans (show gI σ52_1 o 6 = gI σ51_1 o 6 from (cσ52_1.O (ko.up (xσ27.trans (xσ29.trans (xσ30.trans (xσ33.trans (xσ41.trans (xσ42.trans (xσ43.trans (xσ44.trans (xτ89.trans (xσ46_1.trans (xσ47_1.trans (xσ48_1.trans xσ51_1))))))))))))) (by decide)).1) kp299
            have kp314 : Kpt (gI σ52_1 o 7 = gI σ o 7) := Eq.trans (show gI σ52_1 o 7 = gI σ51_1 o 7 from (cσ52_1.O (ko.up (xσ27.trans (xσ29.trans (xσ30.trans (xσ33.trans (xσ41.trans (xσ42.trans (xσ43.trans (xσ44.trans (xτ89.trans (xσ46_1.trans (xσ47_1.trans (xσ48_1.trans xσ51_1))))))))))))) (by decide)).1) kp300
            have kp315 : Kpt (gI σ52_1 o 8 = gI σ o 8) := Eq.trans (show gI σ52_1 o 8 = gI σ51_1 o 8 from (cσ52_1.O (ko.up (xσ27.trans (xσ29.trans (xσ30.trans (xσ33.trans (xσ41.trans (xσ42.trans (xσ43.trans (xσ44.trans (xτ89.trans (xσ46_1.trans (xσ47_1.trans (xσ48_1.trans xσ51_1))))))))))))) (by decide)).1) kp301
            have kp316 : Kpt (gI σ52_1 o 9 = gI τ89 o 9) := Eq.trans (show gI σ52_1 o 9 = gI σ51_1 o 9 from (cσ52_1.O (ko.up (xσ27.trans (xσ29.trans (xσ30.trans (xσ33.trans (xσ41.trans (xσ42.trans (xσ43.trans (xσ44.trans (xτ89.trans (xσ46_1.trans (xσ47_1.trans (xσ48_1.trans xσ51_1))))))))))))) (by decide)).1) kp302
            have r5σ52_1 := I_6_5 iσ52_1.1 (kth.up (xσ27.trans (xσ29.trans (xσ30.trans (xσ33.trans (xσ41.trans (xσ42.trans (xσ43.trans (xσ44.trans (xτ89.trans (xσ46_1.trans (xσ47_1.trans (xσ48_1.trans (xσ51_1.trans xσ52_1))))))))))))))
            have ho317 : gI σ52_1 J 7 = gI σ J 7 := kp308
            have cp318 : (gI σ52_1 th 5 ≤ gI σ52_1 th 2 ∧ (gI σ52_1 th 3 ≠ 0 → gI σ52_1 th 5 + 1 ≤ gI σ52_1 th 2)) ∧ gI σ52_1 J 7 ≤ 2 * gI σ52_1 th 5 ∧ 0 ≤ gI σ52_1 th 5 := by omega
            clear pσ52_1 kp293 kp292 kp291 kp277 kp276 kp275 cp270
            have ho319 : gI σ52_1 J 1 = gI σ J 1 := kp309
            have ho320 : gI σ52_1 J 2 = gI σ J 2 := kp310
            have ho321 : gI σ52_1 o 3 = gI τ89 o 3 := kp311
            have ho322 : gI σ52_1 o 4 = gI σ o 4 := kp312
            have ho323 : gI σ52_1 o 6 = gI τ89 o 6 := kp313
            have ho324 : gI σ52_1 o 7 = gI σ o 7 := kp314
            have ho325 : gI σ52_1 o 8 = gI σ o 8 := kp315
            have ho326 : gI σ52_1 o 9 = gI τ89 o 9 := kp316
            exact hQ σ52_1 () iσ52_1 fσ52_1 oxcσ52_1 (⟨by omega, by omega, ⟨by omega, (fun h => absurd h (by omega)), (fun h => absurd h (by omega))⟩⟩)
          · rw [if_neg hc239]
            have hc239q := Classical.not_not.mp hc239
            unfold w_X6_sourceText_102
            refine i_X6_newColumn iτ89 (kth.up (xσ27.trans (xσ29.trans (xσ30.trans (xσ33.trans (xσ41.trans (xσ42.trans (xσ43.trans (xσ44.trans xτ89))))))))) (kp135.trans hX0) (kX.up (xσ27.trans (xσ29.trans (xσ30.trans (xσ33.trans (xσ41.trans (xσ42.trans (xσ43.trans (xσ44.trans xτ89))))))))) (((xσ27.trans (xσ29.trans (xσ30.trans (xσ33.trans (xσ41.trans (xσ42.trans (xσ43.trans (xσ44.trans xτ89)))))))) tx kX.1).2.2.trans gX) (kp137.trans h8) (ko.up (xσ27.trans (xσ29.trans (xσ30.trans (xσ33.trans (xσ41.trans (xσ42.trans (xσ43.trans (xσ44.trans xτ89))))))))) (by (first | omega | with_reducible assumption | with_reducible exact rng_toInt _ | with_reducible exact rng_wr _ | (unfold rng; omega) | (unfold rng at *; omega) | assumption)) (by (first | omega | with_reducible assumption | with_reducible exact rng_toInt _ | with_reducible exact rng_wr _ | (unfold rng; omega) | (unfold rng at *; omega) | assumption)) (by (first | omega | with_reducible assumption | with_reducible exact rng_toInt _ | with_reducible exact rng_wr _ | (unfold rng; omega) | (unfold rng at *; omega) | assumption)) (by (first | omega | with_reducible assumption | with_reducible exact rng_toInt _ | with_reducible exact rng_wr _ | (unfold rng; omega) | (unfold rng at *; omega) | assumption)) (by (first | omega | with_reducible assumption | with_reducible exact rng_toInt _ | with_reducible exact rng_wr _ | (unfold rng; omega) | (unfold rng at *; omega) | assumption)) (fun σ45 _ iσ45 cσ45 oxσ45 pσ45 => ?_) (fun σx LLx Nx nux E ix cx ux px => hX σx LLx Nx nux E ix (fτ89.tr (cx.mo (by decide))) (ux) (by first | exact px | exact ⟨by have := px.1; omega, px.2⟩ | (first | omega | with_reducible assumption | with_reducible exact rng_toInt _ | with_reducible exact rng_wr _ | (unfold rng; omega) | (unfold rng at *; omega) | assumption)))
            intro xσ45
            have fσ45 : Fx [323, 326, 329, 330, 386, 387, 388, 389, 390, 6464, 8320] gr σ σ45 := fτ89.tr (cσ45.mo (by decide))
            have oxcσ45 : OX o σ σ45 := oxcτ89.tr oxσ45 (xσ27.trans (xσ29.trans (xσ30.trans (xσ33.trans (xσ41.trans (xσ42.trans (xσ43.trans (xσ44.trans xτ89))))))))
            have kp327 : gP σ45 J 4 = gP τ89 J 4 := (cσ45.O (kJ.up (xσ27.trans (xσ29.trans (xσ30.trans (xσ33.trans (xσ41.trans (xσ42.trans (xσ43.trans (xσ44.trans xτ89))))))))) (by decide)).2.1
            have kp328 : gP σ45 th 0 = gP τ89 th 0 := (cσ45.O (kth.up (xσ27.trans (xσ29.trans (xσ30.trans (xσ33.trans (xσ41.trans (xσ42.trans (xσ43.trans (xσ44.trans xτ89))))))))) (by decide)).2.1
            have kp329 : gP σ45 th 7 = gP τ89 th 7 := (cσ45.O (kth.up (xσ27.trans (xσ29.trans (xσ30.trans (xσ33.trans (xσ41.trans (xσ42.trans (xσ43.trans (xσ44.trans xτ89))))))))) (by decide)).2.1
            have kp330 : gP σ45 th 8 = gP τ89 th 8 := (cσ45.O (kth.up (xσ27.trans (xσ29.trans (xσ30.trans (xσ33.trans (xσ41.trans (xσ42.trans (xσ43.trans (xσ44.trans xτ89))))))))) (by decide)).2.1
            have kp331 : Kpt (gI σ45 J 7 = gI σ J 7) := Eq.trans (show gI σ45 J 7 = gI τ89 J 7 from (cσ45.O (kJ.up (xσ27.trans (xσ29.trans (xσ30.trans (xσ33.trans (xσ41.trans (xσ42.trans (xσ43.trans (xσ44.trans xτ89))))))))) (by decide)).1) kp140
            have kp332 : Kpt (gI σ45 J 1 = gI σ J 1) := Eq.trans (show gI σ45 J 1 = gI τ89 J 1 from (cσ45.O (kJ.up (xσ27.trans (xσ29.trans (xσ30.trans (xσ33.trans (xσ41.trans (xσ42.trans (xσ43.trans (xσ44.trans xτ89))))))))) (by decide)).1) kp141
            have kp333 : Kpt (gI σ45 J 2 = gI σ J 2) := Eq.trans (show gI σ45 J 2 = gI τ89 J 2 from (cσ45.O (kJ.up (xσ27.trans (xσ29.trans (xσ30.trans (xσ33.trans (xσ41.trans (xσ42.trans (xσ43.trans (xσ44.trans xτ89))))))))) (by decide)).1) kp142
            have kp334 : Kpt (gI σ45 o 4 = gI σ o 4) := Eq.trans (show gI σ45 o 4 = gI τ89 o 4 from (cσ45.O (ko.up (xσ27.trans (xσ29.trans (xσ30.trans (xσ33.trans (xσ41.trans (xσ42.trans (xσ43.trans (xσ44.trans xτ89))))))))) (by decide)).1) kp143
            have kp335 : Kpt (gI σ45 o 6 = gI τ89 o 6) := (show gI σ45 o 6 = gI τ89 o 6 from (cσ45.O (ko.up (xσ27.trans (xσ29.trans (xσ30.trans (xσ33.trans (xσ41.trans (xσ42.trans (xσ43.trans (xσ44.trans xτ89))))))))) (by decide)).1)
            have kp336 : Kpt (gI σ45 o 7 = gI σ o 7) := Eq.trans (show gI σ45 o 7 = gI τ89 o 7 from (cσ45.O (ko.up (xσ27.trans (xσ29.trans (xσ30.trans (xσ33.trans (xσ41.trans (xσ42.trans (xσ43.trans (xσ44.trans xτ89))))))))) (by decide)).1) kp144
            have kp337 : Kpt (gI σ45 o 8 = gI σ o 8) := Eq.trans (show gI σ45 o 8 = gI τ89 o 8 from (cσ45.O (ko.up (xσ27.trans (xσ29.trans (xσ30.trans (xσ33.trans (xσ41.trans (xσ42.trans (xσ43.trans (xσ44.trans xτ89))))))))) (by decide)).1) kp145
            have kp338 : Kpt (gI σ45 o 9 = gI τ89 o 9) := (show gI σ45 o 9 = gI τ89 o 9 from (cσ45.O (ko.up (xσ27.trans (xσ29.trans (xσ30.trans (xσ33.trans (xσ41.trans (xσ42.trans (xσ43.trans (xσ44.trans xτ89))))))))) (by decide)).1)
            have r5σ45 := I_6_5 iσ45.1 (kth.up (xσ27.trans (xσ29.trans (xσ30.trans (xσ33.trans (xσ41.trans (xσ42.trans (xσ43.trans (xσ44.trans (xτ89.trans xσ45))))))))))
            refine ⟨by (first | omega | with_reducible assumption | with_reducible exact rng_toInt _ | with_reducible exact rng_wr _ | (unfold rng; omega) | (unfold rng at *; omega) | assumption), ?_⟩
            have ho339 : gI σ45 J 7 = gI σ J 7 := kp331
            have ho340 : gI σ45 J 1 = gI σ J 1 := kp332
            have ho341 : gI σ45 J 2 = gI σ J 2 := kp333
            have ho342 : gI σ45 o 4 = gI σ o 4 := kp334
            have ho343 : gI σ45 o 6 = gI τ89 o 6 := kp335
            have ho344 : gI σ45 o 7 = gI σ o 7 := kp336
            have ho345 : gI σ45 o 8 = gI σ o 8 := kp337
            have ho346 : gI σ45 o 9 = gI τ89 o 9 := kp338
            exact ih89 σ45 (v1 + 1) iσ45 fσ45 (xτ89.trans xσ45) oxcσ45 (by (first | omega | with_reducible assumption | with_reducible exact rng_toInt _ | with_reducible exact rng_wr _ | (unfold rng; omega) | (unfold rng at *; omega) | assumption)) (by (first | omega | with_reducible assumption | with_reducible exact rng_toInt _ | with_reducible exact rng_wr _ | (unfold rng; omega) | (unfold rng at *; omega) | assumption))
    have ho347 : gI σ44 J 7 = gI σ J 7 := kp122
    have ho348 : gI σ44 J 1 = gI σ J 1 := kp123
    have ho349 : gI σ44 J 2 = gI σ J 2 := kp124
    have ho350 : gI σ44 o 4 = gI σ o 4 := kp125
    have ho351 : gI σ44 o 6 = gI σ29 o 6 := kp126
    have ho352 : gI σ44 o 7 = gI σ o 7 := kp127
    have ho353 : gI σ44 o 8 = gI σ o 8 := kp128
    have ho354 : gI σ44 o 9 = gI σ33 o 9 := kp129
    exact ⟨_, Lp89 _ σ44 _ iσ44 fσ44 (Ext.rfl' _) oxcσ44 (by (first | omega | with_reducible assumption | with_reducible exact rng_toInt _ | with_reducible exact rng_wr _ | (unfold rng; omega) | (unfold rng at *; omega) | assumption)) (Nat.lt_succ_self _)⟩
  · rw [if_neg hc67]
    unfold w_X6_sourceText_44
    refine i_X6_refuse iσ33 (kth.up (xσ27.trans (xσ29.trans (xσ30.trans xσ33)))) (by (first | omega | with_reducible assumption | with_reducible exact rng_toInt _ | with_reducible exact rng_wr _ | (unfold rng; omega) | (unfold rng at *; omega) | assumption)) (by (first | omega | with_reducible assumption | with_reducible exact rng_toInt _ | with_reducible exact rng_wr _ | (unfold rng; omega) | (unfold rng at *; omega) | assumption)) (by (first | omega | with_reducible assumption | with_reducible exact rng_toInt _ | with_reducible exact rng_wr _ | (unfold rng; omega) | (unfold rng at *; omega) | assumption)) (fun σ37 _ iσ37 cσ37 pσ37 => ?_) (fun σx LLx Nx nux E ix cx ux px => hX σx LLx Nx nux E ix (fσ33.tr (cx.mo (by decide))) (ux) (by first | exact px | exact ⟨by have := px.1; omega, px.2⟩ | (first | omega | with_reducible assumption | with_reducible exact rng_toInt _ | with_reducible exact rng_wr _ | (unfold rng; omega) | (unfold rng at *; omega) | assumption)))
    intro xσ37
    exact pσ37.elim
set_option maxHeartbeats 4000000 in
theorem i_X6_filterText {σ : Sg} {pl : Nat} {gq ci gr nc : Nat → Nat} {ot : Nat → Nat → Int} {LL : Nat → List Nat} {N nu : Nat → Nat} {th : Nat} {tx J o q c : Nat} (iσ : IV σ pl gq ci gr nc ot LL N nu) (kth : kO σ th 6) (hX0 : gP σ th 0 = some tx) (kX : kO σ tx 102) (gX : gn σ tx = 1500) (h7 : gP σ th 7 = some J) (kJ : kO σ J 4) (h8 : gP σ th 8 = some o) (ko : kO σ o 5) (hJq : gq J = q) (hq : q ≠ nc 0 ∧ q ≤ 1) (go : gq o = 16 * q + c) (hc : c < 16) (cJ : gI σ J 1 = (c : Int)) (tf : gI σ th 5 ≤ gI σ th 2 ∧ (gI σ th 3 ≠ 0 → gI σ th 5 + 1 ≤ gI σ th 2)) (h5 : nu 5 < 24000) (lp : gI σ J 7 ≤ 2 * gI σ th 5) (f0 : gI σ o 3 = 0 ∧ gI σ o 4 = 0 ∧ gI σ o 7 = -1 ∧ gI σ o 8 = -1) {Q : Sg → Unit → Prop} {X : Sg → String → Prop} (hQ : ∀ (σ' : Sg) (nu' : Nat → Nat) (r : Unit), IV σ' pl gq ci gr nc ot LL N nu' → Fx [261, 262, 263, 323, 324, 326, 327, 386, 387, 388, 389, 390, 6464, 8320] gr σ σ' → NC nu nu' → OX o σ σ' → ((gI σ' th 5 ≤ gI σ' th 2 ∧ (gI σ' th 3 ≠ 0 → gI σ' th 5 + 1 ≤ gI σ' th 2)) ∧ gI σ' J 7 ≤ 2 * gI σ' th 5 ∧ OPR σ σ' gq q c o) → Q σ' r) (hX : ∀ (σ' : Sg) (LL' : Nat → List Nat) (N' nu' : Nat → Nat) (E : String), IV σ' pl gq ci gr nc ot LL' N' nu' → Fx [261, 262, 263, 323, 324, 326, 327, 386, 387, 388, 389, 390, 6464, 8320] gr σ σ' → NCX nu nu' → (LL' = LL ∧ N' = N ∧ E = "java/lang/IllegalArgumentException" ∧ gI σ' th 6 ≠ 0) → X σ' E) : wp_X6_filterText th σ Q X := by
  have fσ : Fx [261, 262, 263, 323, 324, 326, 327, 386, 387, 388, 389, 390, 6464, 8320] gr σ σ := Fx.rf
  have oxσ : OX o σ σ := OX.rf
  have q1 := I_4_1 iσ.1 kJ
  have q2 := I_6_5 iσ.1 kth
  have q3 := I_6_2 iσ.1 kth
  have q4 := iσ.rg th 3; unfold rng at q4
  have q5 := I_4_7 iσ.1 kJ
  have q6 := I_5_3 iσ.1 ko
  have q7 := I_5_4 iσ.1 ko
  have q8 := I_5_7 iσ.1 ko
  have q9 := I_5_8 iσ.1 ko
  have ncb := iσ.ncb
  have r70 := I_4_7 iσ.1 kJ
  have r71 := I_4_1 iσ.1 kJ
  unfold wp_X6_filterText
  unfold w_X6_filterText_0
  refine i_X6_next iσ kth hX0 kX (((Ext.rfl' _) tx kX.1).2.2.trans gX) (by (first | omega | with_reducible assumption | with_reducible exact rng_toInt _ | with_reducible exact rng_wr _ | (unfold rng; omega) | (unfold rng at *; omega) | assumption)) (by (first | omega | with_reducible assumption | with_reducible exact rng_toInt _ | with_reducible exact rng_wr _ | (unfold rng; omega) | (unfold rng at *; omega) | assumption)) (fun σ14 _ iσ14 cσ14 pσ14 => ?_) (fun σx LLx Nx nux E ix cx ux px => hX σx LLx Nx nux E ix (fσ.tr (cx.mo (by decide))) (ux) (by first | exact px | exact ⟨by have := px.1; omega, px.2⟩ | (first | omega | with_reducible assumption | with_reducible exact rng_toInt _ | with_reducible exact rng_wr _ | (unfold rng; omega) | (unfold rng at *; omega) | assumption)))
  intro xσ14
  have fσ14 : Fx [261, 262, 263, 323, 324, 326, 327, 386, 387, 388, 389, 390, 6464, 8320] gr σ σ14 := fσ.tr (cσ14.mo (by decide))
  have oxcσ14 : OX o σ σ14 := oxσ.tr (OX.fx cσ14 (by decide) (by decide)) (Ext.rfl' _)
  have kp10 : Kpt (gI σ14 J 1 = gI σ J 1) := (show gI σ14 J 1 = gI σ J 1 from (cσ14.O kJ (by decide)).1)
  have kp11 : Kpt (gI σ14 J 7 = gI σ J 7) := (show gI σ14 J 7 = gI σ J 7 from (cσ14.O kJ (by decide)).1)
  have kp12 : Kpt (gI σ14 o 3 = gI σ o 3) := (show gI σ14 o 3 = gI σ o 3 from (cσ14.O ko (by decide)).1)
  have kp13 : Kpt (gI σ14 o 4 = gI σ o 4) := (show gI σ14 o 4 = gI σ o 4 from (cσ14.O ko (by decide)).1)
  have kp14 : Kpt (gI σ14 o 7 = gI σ o 7) := (show gI σ14 o 7 = gI σ o 7 from (cσ14.O ko (by decide)).1)
  have kp15 : Kpt (gI σ14 o 8 = gI σ o 8) := (show gI σ14 o 8 = gI σ o 8 from (cσ14.O ko (by decide)).1)
  have kp16 : gP σ14 th 0 = gP σ th 0 := (cσ14.O kth (by decide)).2.1
  have kp17 : gP σ14 th 7 = gP σ th 7 := (cσ14.O kth (by decide)).2.1
  have kp18 : gP σ14 th 8 = gP σ th 8 := (cσ14.O kth (by decide)).2.1
  have kp19 : Kpt (gI σ14 J 2 = gI σ J 2) := (show gI σ14 J 2 = gI σ J 2 from (cσ14.O kJ (by decide)).1)
  have kp20 : Kpt (gI σ14 o 6 = gI σ o 6) := (show gI σ14 o 6 = gI σ o 6 from (cσ14.O ko (by decide)).1)
  have kp21 : Kpt (gI σ14 o 9 = gI σ o 9) := (show gI σ14 o 9 = gI σ o 9 from (cσ14.O ko (by decide)).1)
  have r5σ14 := I_6_5 iσ14.1 (kth.up xσ14)
  have ho22 : gI σ14 J 7 = gI σ J 7 := kp11
  have cp23 : (gI σ14 th 5 ≤ gI σ14 th 2 ∧ (gI σ14 th 3 ≠ 0 → gI σ14 th 5 + 1 ≤ gI σ14 th 2)) ∧ gI σ14 J 7 ≤ 2 * gI σ14 th 5 ∧ 0 ≤ gI σ14 th 5 := by omega
  clear pσ14 q3 q2
  have ho24 : gI σ14 J 1 = gI σ J 1 := kp10
  refine i_X6_firstInput iσ14 (kth.up xσ14) (kp17.trans h7) (kJ.up xσ14) (kp18.trans h8) (ko.up xσ14) (by (first | omega | with_reducible assumption | with_reducible exact rng_toInt _ | with_reducible exact rng_wr _ | (unfold rng; omega) | (unfold rng at *; omega) | assumption)) (by (first | omega | with_reducible assumption | with_reducible exact rng_toInt _ | with_reducible exact rng_wr _ | (unfold rng; omega) | (unfold rng at *; omega) | assumption)) (by (first | omega | with_reducible assumption | with_reducible exact rng_toInt _ | with_reducible exact rng_wr _ | (unfold rng; omega) | (unfold rng at *; omega) | assumption)) (by (first | omega | with_reducible assumption | with_reducible exact rng_toInt _ | with_reducible exact rng_wr _ | (unfold rng; omega) | (unfold rng at *; omega) | assumption)) (by (first | omega | with_reducible assumption | with_reducible exact rng_toInt _ | with_reducible exact rng_wr _ | (unfold rng; omega) | (unfold rng at *; omega) | assumption)) (by (first | omega | with_reducible assumption | with_reducible exact rng_toInt _ | with_reducible exact rng_wr _ | (unfold rng; omega) | (unfold rng at *; omega) | assumption)) (fun σ15 _ iσ15 cσ15 oxσ15 pσ15 => ?_) (fun σx LLx Nx nux E ix cx ux px => hX σx LLx Nx nux E ix (fσ14.tr (cx.mo (by decide))) (ux) (by first | exact px | exact ⟨by have := px.1; omega, px.2⟩ | (first | omega | with_reducible assumption | with_reducible exact rng_toInt _ | with_reducible exact rng_wr _ | (unfold rng; omega) | (unfold rng at *; omega) | assumption)))
  intro xσ15
  have fσ15 : Fx [261, 262, 263, 323, 324, 326, 327, 386, 387, 388, 389, 390, 6464, 8320] gr σ σ15 := fσ14.tr (cσ15.mo (by decide))
  have oxcσ15 : OX o σ σ15 := oxcσ14.tr oxσ15 (xσ14)
  have kp25 : gP σ15 th 0 = gP σ14 th 0 := (cσ15.O (kth.up xσ14) (by decide)).2.1
  have kp26 : gP σ15 th 7 = gP σ14 th 7 := (cσ15.O (kth.up xσ14) (by decide)).2.1
  have kp27 : gP σ15 th 8 = gP σ14 th 8 := (cσ15.O (kth.up xσ14) (by decide)).2.1
  have kp28 : gI σ15 th 2 = gI σ14 th 2 := (cσ15.O (kth.up xσ14) (by decide)).1
  have kp29 : gI σ15 th 3 = gI σ14 th 3 := (cσ15.O (kth.up xσ14) (by decide)).1
  have kp30 : gI σ15 th 5 = gI σ14 th 5 := (cσ15.O (kth.up xσ14) (by decide)).1
  have kp31 : Kpt (gI σ15 J 7 = gI σ J 7) := Eq.trans (show gI σ15 J 7 = gI σ14 J 7 from (cσ15.O (kJ.up xσ14) (by decide)).1) kp11
  have kp32 : Kpt (gI σ15 J 1 = gI σ J 1) := Eq.trans (show gI σ15 J 1 = gI σ14 J 1 from (cσ15.O (kJ.up xσ14) (by decide)).1) kp10
  have kp33 : Kpt (gI σ15 J 2 = gI σ J 2) := Eq.trans (show gI σ15 J 2 = gI σ14 J 2 from (cσ15.O (kJ.up xσ14) (by decide)).1) kp19
  have kp34 : Kpt (gI σ15 o 3 = gI σ o 3) := Eq.trans (show gI σ15 o 3 = gI σ14 o 3 from (cσ15.O (ko.up xσ14) (by decide)).1) kp12
  have kp35 : Kpt (gI σ15 o 4 = gI σ o 4) := Eq.trans (show gI σ15 o 4 = gI σ14 o 4 from (cσ15.O (ko.up xσ14) (by decide)).1) kp13
  have kp36 : Kpt (gI σ15 o 8 = gI σ o 8) := Eq.trans (show gI σ15 o 8 = gI σ14 o 8 from (cσ15.O (ko.up xσ14) (by decide)).1) kp15
  have kp37 : Kpt (gI σ15 o 9 = gI σ o 9) := Eq.trans (show gI σ15 o 9 = gI σ14 o 9 from (cσ15.O (ko.up xσ14) (by decide)).1) kp21
  refine i_X6_next iσ15 (kth.up (xσ14.trans xσ15)) (kp25.trans (kp16.trans hX0)) (kX.up (xσ14.trans xσ15)) (((xσ14.trans xσ15) tx kX.1).2.2.trans gX) (by (first | omega | with_reducible assumption | with_reducible exact rng_toInt _ | with_reducible exact rng_wr _ | (unfold rng; omega) | (unfold rng at *; omega) | assumption)) (by (first | omega | with_reducible assumption | with_reducible exact rng_toInt _ | with_reducible exact rng_wr _ | (unfold rng; omega) | (unfold rng at *; omega) | assumption)) (fun σ16 _ iσ16 cσ16 pσ16 => ?_) (fun σx LLx Nx nux E ix cx ux px => hX σx LLx Nx nux E ix (fσ15.tr (cx.mo (by decide))) (ux) (by first | exact px | exact ⟨by have := px.1; omega, px.2⟩ | (first | omega | with_reducible assumption | with_reducible exact rng_toInt _ | with_reducible exact rng_wr _ | (unfold rng; omega) | (unfold rng at *; omega) | assumption)))
  intro xσ16
  have fσ16 : Fx [261, 262, 263, 323, 324, 326, 327, 386, 387, 388, 389, 390, 6464, 8320] gr σ σ16 := fσ15.tr (cσ16.mo (by decide))
  have oxcσ16 : OX o σ σ16 := oxcσ15.tr (OX.fx cσ16 (by decide) (by decide)) (xσ14.trans xσ15)
  have kp38 : gP σ16 th 0 = gP σ15 th 0 := (cσ16.O (kth.up (xσ14.trans xσ15)) (by decide)).2.1
  have kp39 : gP σ16 th 7 = gP σ15 th 7 := (cσ16.O (kth.up (xσ14.trans xσ15)) (by decide)).2.1
  have kp40 : gP σ16 th 8 = gP σ15 th 8 := (cσ16.O (kth.up (xσ14.trans xσ15)) (by decide)).2.1
  have kp41 : Kpt (gI σ16 J 7 = gI σ J 7) := Eq.trans (show gI σ16 J 7 = gI σ15 J 7 from (cσ16.O (kJ.up (xσ14.trans xσ15)) (by decide)).1) kp31
  have kp42 : Kpt (gI σ16 J 1 = gI σ J 1) := Eq.trans (show gI σ16 J 1 = gI σ15 J 1 from (cσ16.O (kJ.up (xσ14.trans xσ15)) (by decide)).1) kp32
  have kp43 : Kpt (gI σ16 J 2 = gI σ J 2) := Eq.trans (show gI σ16 J 2 = gI σ15 J 2 from (cσ16.O (kJ.up (xσ14.trans xσ15)) (by decide)).1) kp33
  have kp44 : Kpt (gI σ16 o 3 = gI σ o 3) := Eq.trans (show gI σ16 o 3 = gI σ15 o 3 from (cσ16.O (ko.up (xσ14.trans xσ15)) (by decide)).1) kp34
  have kp45 : Kpt (gI σ16 o 4 = gI σ o 4) := Eq.trans (show gI σ16 o 4 = gI σ15 o 4 from (cσ16.O (ko.up (xσ14.trans xσ15)) (by decide)).1) kp35
  have kp46 : Kpt (gI σ16 o 6 = gI σ15 o 6) := (show gI σ16 o 6 = gI σ15 o 6 from (cσ16.O (ko.up (xσ14.trans xσ15)) (by decide)).1)
  have kp47 : Kpt (gI σ16 o 7 = gI σ15 o 7) := (show gI σ16 o 7 = gI σ15 o 7 from (cσ16.O (ko.up (xσ14.trans xσ15)) (by decide)).1)
  have kp48 : Kpt (gI σ16 o 8 = gI σ o 8) := Eq.trans (show gI σ16 o 8 = gI σ15 o 8 from (cσ16.O (ko.up (xσ14.trans xσ15)) (by decide)).1) kp36
  have kp49 : Kpt (gI σ16 o 9 = gI σ o 9) := Eq.trans (show gI σ16 o 9 = gI σ15 o 9 from (cσ16.O (ko.up (xσ14.trans xσ15)) (by decide)).1) kp37
  have r5σ16 := I_6_5 iσ16.1 (kth.up (xσ14.trans (xσ15.trans xσ16)))
  have ho50 : gI σ16 J 7 = gI σ J 7 := kp41
  have cp51 : (gI σ16 th 5 ≤ gI σ16 th 2 ∧ (gI σ16 th 3 ≠ 0 → gI σ16 th 5 + 1 ≤ gI σ16 th 2)) ∧ gI σ16 J 7 ≤ 2 * gI σ16 th 5 ∧ 0 ≤ gI σ16 th 5 := by omega
  clear pσ16 kp30 kp29 kp28 cp23
  refine ⟨J, (kp39.trans (kp26.trans (kp17.trans h7))), fun kk_J => ?_⟩
  refine ⟨o, (kp40.trans (kp27.trans (kp18.trans h8))), fun kk_o => ?_⟩
  obtain ⟨b, eb, fb⟩ := P_4_0 iσ16.1 (kJ.up (xσ14.trans (xσ15.trans xσ16)))
  have mb : kO σ16 b 115 := iσ16.1.kd (kJ.up (xσ14.trans (xσ15.trans xσ16))) rfl eb rfl
  refine ⟨b, eb, fun kk_b => ?_⟩
  have ho52 : gI σ16 o 7 = gI σ15 o 7 := kp47
  have q53 := I_5_7 iσ16.1 (ko.up (xσ14.trans (xσ15.trans xσ16)))
  refine ⟨⟨by (first | omega | with_reducible assumption | with_reducible exact rng_toInt _ | with_reducible exact rng_wr _ | (unfold rng; omega) | (unfold rng at *; omega) | assumption), by (first | omega | with_reducible assumption | with_reducible exact rng_toInt _ | with_reducible exact rng_wr _ | (unfold rng; omega) | (unfold rng at *; omega) | assumption)⟩, ?_⟩
  have ho54 : gI σ16 J 1 = gI σ J 1 := kp42
  have ho55 : gI σ16 J 2 = gI σ J 2 := kp43
  have ho56 : gI σ16 o 3 = gI σ o 3 := kp44
  have ho57 : gI σ16 o 4 = gI σ o 4 := kp45
  have ho58 : gI σ16 o 6 = gI σ15 o 6 := kp46
  have ho59 : gI σ16 o 8 = gI σ o 8 := kp48
  have ho60 : gI σ16 o 9 = gI σ o 9 := kp49
  obtain ⟨b_1, eb_1⟩ := P_115 iσ16.1 mb (k := (gI σ16 o 7).toNat) (by (first | omega | with_reducible assumption | with_reducible exact rng_toInt _ | with_reducible exact rng_wr _ | (unfold rng; omega) | (unfold rng at *; omega) | assumption))
  have fb_1 := T_115 iσ16.1 mb eb_1
  have mb_1 : kO σ16 b_1 5 := iσ16.1.kd mb rfl eb_1 rfl
  refine i_X5_addColumnsOf iσ16 (ko.up (xσ14.trans (xσ15.trans xσ16))) eb_1 mb_1 (by (first | omega | with_reducible assumption | with_reducible exact rng_toInt _ | with_reducible exact rng_wr _ | (unfold rng; omega) | (unfold rng at *; omega) | assumption)) (by (first | omega | with_reducible assumption | with_reducible exact rng_toInt _ | with_reducible exact rng_wr _ | (unfold rng; omega) | (unfold rng at *; omega) | assumption)) (by (first | omega | with_reducible assumption | with_reducible exact rng_toInt _ | with_reducible exact rng_wr _ | (unfold rng; omega) | (unfold rng at *; omega) | assumption)) (fun e => absurd (congrArg gq e) (by omega)) (fun σ20 _ iσ20 cσ20 oxσ20 pσ20 => ?_)
  intro xσ20
  have fσ20 : Fx [261, 262, 263, 323, 324, 326, 327, 386, 387, 388, 389, 390, 6464, 8320] gr σ σ20 := fσ16.tr (cσ20.mo (by decide))
  have oxcσ20 : OX o σ σ20 := oxcσ16.tr oxσ20 (xσ14.trans (xσ15.trans xσ16))
  have kp61 : Kpt (gI σ20 o 7 = gI σ15 o 7) := Eq.trans (show gI σ20 o 7 = gI σ16 o 7 from (cσ20.O (ko.up (xσ14.trans (xσ15.trans xσ16))) (by decide)).1) kp47
  have kp62 : gP σ20 J 0 = gP σ16 J 0 := (cσ20.O (kJ.up (xσ14.trans (xσ15.trans xσ16))) (by decide)).2.1
  have kp63 : gP σ20 b (gI σ16 o 7).toNat = gP σ16 b (gI σ16 o 7).toNat := (cσ20.A mb (by decide)).2.1
  have kp64 : gP σ20 th 0 = gP σ16 th 0 := (cσ20.O (kth.up (xσ14.trans (xσ15.trans xσ16))) (by decide)).2.1
  have kp65 : gP σ20 th 7 = gP σ16 th 7 := (cσ20.O (kth.up (xσ14.trans (xσ15.trans xσ16))) (by decide)).2.1
  have kp66 : gP σ20 th 8 = gP σ16 th 8 := (cσ20.O (kth.up (xσ14.trans (xσ15.trans xσ16))) (by decide)).2.1
  have kp67 : gI σ20 th 2 = gI σ16 th 2 := (cσ20.O (kth.up (xσ14.trans (xσ15.trans xσ16))) (by decide)).1
  have kp68 : gI σ20 th 3 = gI σ16 th 3 := (cσ20.O (kth.up (xσ14.trans (xσ15.trans xσ16))) (by decide)).1
  have kp69 : gI σ20 th 5 = gI σ16 th 5 := (cσ20.O (kth.up (xσ14.trans (xσ15.trans xσ16))) (by decide)).1
  have kp70 : Kpt (gI σ20 J 7 = gI σ J 7) := Eq.trans (show gI σ20 J 7 = gI σ16 J 7 from (cσ20.O (kJ.up (xσ14.trans (xσ15.trans xσ16))) (by decide)).1) kp41
  have kp71 : Kpt (gI σ20 J 1 = gI σ J 1) := Eq.trans (show gI σ20 J 1 = gI σ16 J 1 from (cσ20.O (kJ.up (xσ14.trans (xσ15.trans xσ16))) (by decide)).1) kp42
  have kp72 : Kpt (gI σ20 J 2 = gI σ J 2) := Eq.trans (show gI σ20 J 2 = gI σ16 J 2 from (cσ20.O (kJ.up (xσ14.trans (xσ15.trans xσ16))) (by decide)).1) kp43
  have kp73 : Kpt (gI σ20 o 4 = gI σ o 4) := Eq.trans (show gI σ20 o 4 = gI σ16 o 4 from (cσ20.O (ko.up (xσ14.trans (xσ15.trans xσ16))) (by decide)).1) kp45
  have kp74 : Kpt (gI σ20 o 6 = gI σ15 o 6) := Eq.trans (show gI σ20 o 6 = gI σ16 o 6 from (cσ20.O (ko.up (xσ14.trans (xσ15.trans xσ16))) (by decide)).1) kp46
  have kp75 : Kpt (gI σ20 o 8 = gI σ o 8) := Eq.trans (show gI σ20 o 8 = gI σ16 o 8 from (cσ20.O (ko.up (xσ14.trans (xσ15.trans xσ16))) (by decide)).1) kp48
  have kp76 : Kpt (gI σ20 o 9 = gI σ o 9) := Eq.trans (show gI σ20 o 9 = gI σ16 o 9 from (cσ20.O (ko.up (xσ14.trans (xσ15.trans xσ16))) (by decide)).1) kp49
  refine i_X6_wantSign iσ20 (kth.up (xσ14.trans (xσ15.trans (xσ16.trans xσ20)))) (kp64.trans (kp38.trans (kp25.trans (kp16.trans hX0)))) (kX.up (xσ14.trans (xσ15.trans (xσ16.trans xσ20)))) (((xσ14.trans (xσ15.trans (xσ16.trans xσ20))) tx kX.1).2.2.trans gX) (by (first | omega | with_reducible assumption | with_reducible exact rng_toInt _ | with_reducible exact rng_wr _ | (unfold rng; omega) | (unfold rng at *; omega) | assumption)) (by (first | omega | with_reducible assumption | with_reducible exact rng_toInt _ | with_reducible exact rng_wr _ | (unfold rng; omega) | (unfold rng at *; omega) | assumption)) (fun σ21 _ iσ21 cσ21 pσ21 => ?_) (fun σx LLx Nx nux E ix cx ux px => hX σx LLx Nx nux E ix (fσ20.tr (cx.mo (by decide))) (ux) (by first | exact px | exact ⟨by have := px.1; omega, px.2⟩ | (first | omega | with_reducible assumption | with_reducible exact rng_toInt _ | with_reducible exact rng_wr _ | (unfold rng; omega) | (unfold rng at *; omega) | assumption)))
  intro xσ21
  have fσ21 : Fx [261, 262, 263, 323, 324, 326, 327, 386, 387, 388, 389, 390, 6464, 8320] gr σ σ21 := fσ20.tr (cσ21.mo (by decide))
  have oxcσ21 : OX o σ σ21 := oxcσ20.tr (OX.fx cσ21 (by decide) (by decide)) (xσ14.trans (xσ15.trans (xσ16.trans xσ20)))
  have kp77 : gP σ21 J 0 = gP σ20 J 0 := (cσ21.O (kJ.up (xσ14.trans (xσ15.trans (xσ16.trans xσ20)))) (by decide)).2.1
  have kp78 : gP σ21 b (gI σ16 o 7).toNat = gP σ20 b (gI σ16 o 7).toNat := (cσ21.A (mb.up xσ20) (by decide)).2.1
  have kp79 : gP σ21 th 0 = gP σ20 th 0 := (cσ21.O (kth.up (xσ14.trans (xσ15.trans (xσ16.trans xσ20)))) (by decide)).2.1
  have kp80 : gP σ21 th 7 = gP σ20 th 7 := (cσ21.O (kth.up (xσ14.trans (xσ15.trans (xσ16.trans xσ20)))) (by decide)).2.1
  have kp81 : gP σ21 th 8 = gP σ20 th 8 := (cσ21.O (kth.up (xσ14.trans (xσ15.trans (xσ16.trans xσ20)))) (by decide)).2.1
  have kp82 : Kpt (gI σ21 J 7 = gI σ J 7) := Eq.trans (show gI σ21 J 7 = gI σ20 J 7 from (cσ21.O (kJ.up (xσ14.trans (xσ15.trans (xσ16.trans xσ20)))) (by decide)).1) kp70
  have kp83 : Kpt (gI σ21 J 1 = gI σ J 1) := Eq.trans (show gI σ21 J 1 = gI σ20 J 1 from (cσ21.O (kJ.up (xσ14.trans (xσ15.trans (xσ16.trans xσ20)))) (by decide)).1) kp71
  have kp84 : Kpt (gI σ21 J 2 = gI σ J 2) := Eq.trans (show gI σ21 J 2 = gI σ20 J 2 from (cσ21.O (kJ.up (xσ14.trans (xσ15.trans (xσ16.trans xσ20)))) (by decide)).1) kp72
  have kp85 : Kpt (gI σ21 o 3 = gI σ20 o 3) := (show gI σ21 o 3 = gI σ20 o 3 from (cσ21.O (ko.up (xσ14.trans (xσ15.trans (xσ16.trans xσ20)))) (by decide)).1)
  have kp86 : Kpt (gI σ21 o 4 = gI σ o 4) := Eq.trans (show gI σ21 o 4 = gI σ20 o 4 from (cσ21.O (ko.up (xσ14.trans (xσ15.trans (xσ16.trans xσ20)))) (by decide)).1) kp73
  have kp87 : Kpt (gI σ21 o 6 = gI σ15 o 6) := Eq.trans (show gI σ21 o 6 = gI σ20 o 6 from (cσ21.O (ko.up (xσ14.trans (xσ15.trans (xσ16.trans xσ20)))) (by decide)).1) kp74
  have kp88 : Kpt (gI σ21 o 7 = gI σ15 o 7) := Eq.trans (show gI σ21 o 7 = gI σ20 o 7 from (cσ21.O (ko.up (xσ14.trans (xσ15.trans (xσ16.trans xσ20)))) (by decide)).1) kp61
  have kp89 : Kpt (gI σ21 o 8 = gI σ o 8) := Eq.trans (show gI σ21 o 8 = gI σ20 o 8 from (cσ21.O (ko.up (xσ14.trans (xσ15.trans (xσ16.trans xσ20)))) (by decide)).1) kp75
  have kp90 : Kpt (gI σ21 o 9 = gI σ o 9) := Eq.trans (show gI σ21 o 9 = gI σ20 o 9 from (cσ21.O (ko.up (xσ14.trans (xσ15.trans (xσ16.trans xσ20)))) (by decide)).1) kp76
  have r5σ21 := I_6_5 iσ21.1 (kth.up (xσ14.trans (xσ15.trans (xσ16.trans (xσ20.trans xσ21)))))
  have ho91 : gI σ21 J 7 = gI σ J 7 := kp82
  have cp92 : (gI σ21 th 5 ≤ gI σ21 th 2 ∧ (gI σ21 th 3 ≠ 0 → gI σ21 th 5 + 1 ≤ gI σ21 th 2)) ∧ gI σ21 J 7 ≤ 2 * gI σ21 th 5 ∧ 0 ≤ gI σ21 th 5 := by omega
  clear pσ21 kp69 kp68 kp67 cp51
  have ho93 : gI σ21 o 4 = gI σ o 4 := kp86
  refine i_X6_newValue iσ21 (kth.up (xσ14.trans (xσ15.trans (xσ16.trans (xσ20.trans xσ21))))) (kp80.trans (kp65.trans (kp39.trans (kp26.trans (kp17.trans h7))))) (kJ.up (xσ14.trans (xσ15.trans (xσ16.trans (xσ20.trans xσ21))))) (kp81.trans (kp66.trans (kp40.trans (kp27.trans (kp18.trans h8))))) (ko.up (xσ14.trans (xσ15.trans (xσ16.trans (xσ20.trans xσ21))))) (by (first | omega | with_reducible assumption | with_reducible exact rng_toInt _ | with_reducible exact rng_wr _ | (unfold rng; omega) | (unfold rng at *; omega) | assumption)) (by (first | omega | with_reducible assumption | with_reducible exact rng_toInt _ | with_reducible exact rng_wr _ | (unfold rng; omega) | (unfold rng at *; omega) | assumption)) (by (first | omega | with_reducible assumption | with_reducible exact rng_toInt _ | with_reducible exact rng_wr _ | (unfold rng; omega) | (unfold rng at *; omega) | assumption)) (by (first | omega | with_reducible assumption | with_reducible exact rng_toInt _ | with_reducible exact rng_wr _ | (unfold rng; omega) | (unfold rng at *; omega) | assumption)) (fun σ22 _ iσ22 cσ22 oxσ22 pσ22 => ?_)
  intro xσ22
  have fσ22 : Fx [261, 262, 263, 323, 324, 326, 327, 386, 387, 388, 389, 390, 6464, 8320] gr σ σ22 := fσ21.tr (cσ22.mo (by decide))
  have oxcσ22 : OX o σ σ22 := oxcσ21.tr oxσ22 (xσ14.trans (xσ15.trans (xσ16.trans (xσ20.trans xσ21))))
  have kp94 : gP σ22 J 0 = gP σ21 J 0 := (cσ22.O (kJ.up (xσ14.trans (xσ15.trans (xσ16.trans (xσ20.trans xσ21))))) (by decide)).2.1
  have kp95 : gP σ22 b (gI σ16 o 7).toNat = gP σ21 b (gI σ16 o 7).toNat := (cσ22.A (mb.up (xσ20.trans xσ21)) (by decide)).2.1
  have kp96 : gP σ22 th 0 = gP σ21 th 0 := (cσ22.O (kth.up (xσ14.trans (xσ15.trans (xσ16.trans (xσ20.trans xσ21))))) (by decide)).2.1
  have kp97 : gP σ22 th 7 = gP σ21 th 7 := (cσ22.O (kth.up (xσ14.trans (xσ15.trans (xσ16.trans (xσ20.trans xσ21))))) (by decide)).2.1
  have kp98 : gP σ22 th 8 = gP σ21 th 8 := (cσ22.O (kth.up (xσ14.trans (xσ15.trans (xσ16.trans (xσ20.trans xσ21))))) (by decide)).2.1
  have kp99 : gI σ22 th 2 = gI σ21 th 2 := (cσ22.O (kth.up (xσ14.trans (xσ15.trans (xσ16.trans (xσ20.trans xσ21))))) (by decide)).1
  have kp100 : gI σ22 th 3 = gI σ21 th 3 := (cσ22.O (kth.up (xσ14.trans (xσ15.trans (xσ16.trans (xσ20.trans xσ21))))) (by decide)).1
  have kp101 : gI σ22 th 5 = gI σ21 th 5 := (cσ22.O (kth.up (xσ14.trans (xσ15.trans (xσ16.trans (xσ20.trans xσ21))))) (by decide)).1
  have kp102 : Kpt (gI σ22 J 7 = gI σ J 7) := Eq.trans (show gI σ22 J 7 = gI σ21 J 7 from (cσ22.O (kJ.up (xσ14.trans (xσ15.trans (xσ16.trans (xσ20.trans xσ21))))) (by decide)).1) kp82
  have kp103 : Kpt (gI σ22 J 1 = gI σ J 1) := Eq.trans (show gI σ22 J 1 = gI σ21 J 1 from (cσ22.O (kJ.up (xσ14.trans (xσ15.trans (xσ16.trans (xσ20.trans xσ21))))) (by decide)).1) kp83
  have kp104 : Kpt (gI σ22 J 2 = gI σ J 2) := Eq.trans (show gI σ22 J 2 = gI σ21 J 2 from (cσ22.O (kJ.up (xσ14.trans (xσ15.trans (xσ16.trans (xσ20.trans xσ21))))) (by decide)).1) kp84
  have kp105 : Kpt (gI σ22 o 3 = gI σ20 o 3) := Eq.trans (show gI σ22 o 3 = gI σ21 o 3 from (cσ22.O (ko.up (xσ14.trans (xσ15.trans (xσ16.trans (xσ20.trans xσ21))))) (by decide)).1) kp85
  have kp106 : Kpt (gI σ22 o 6 = gI σ15 o 6) := Eq.trans (show gI σ22 o 6 = gI σ21 o 6 from (cσ22.O (ko.up (xσ14.trans (xσ15.trans (xσ16.trans (xσ20.trans xσ21))))) (by decide)).1) kp87
  have kp107 : Kpt (gI σ22 o 7 = gI σ15 o 7) := Eq.trans (show gI σ22 o 7 = gI σ21 o 7 from (cσ22.O (ko.up (xσ14.trans (xσ15.trans (xσ16.trans (xσ20.trans xσ21))))) (by decide)).1) kp88
  have kp108 : Kpt (gI σ22 o 8 = gI σ o 8) := Eq.trans (show gI σ22 o 8 = gI σ21 o 8 from (cσ22.O (ko.up (xσ14.trans (xσ15.trans (xσ16.trans (xσ20.trans xσ21))))) (by decide)).1) kp89
  have kp109 : Kpt (gI σ22 o 9 = gI σ o 9) := Eq.trans (show gI σ22 o 9 = gI σ21 o 9 from (cσ22.O (ko.up (xσ14.trans (xσ15.trans (xσ16.trans (xσ20.trans xσ21))))) (by decide)).1) kp90
  have ho110 : gI σ22 J 7 = gI σ J 7 := kp102
  have ho111 : gI σ22 o 7 = gI σ15 o 7 := kp107
  refine i_X6_value iσ22 (kth.up (xσ14.trans (xσ15.trans (xσ16.trans (xσ20.trans (xσ21.trans xσ22)))))) (kp96.trans (kp79.trans (kp64.trans (kp38.trans (kp25.trans (kp16.trans hX0)))))) (kX.up (xσ14.trans (xσ15.trans (xσ16.trans (xσ20.trans (xσ21.trans xσ22)))))) (((xσ14.trans (xσ15.trans (xσ16.trans (xσ20.trans (xσ21.trans xσ22))))) tx kX.1).2.2.trans gX) (kp97.trans (kp80.trans (kp65.trans (kp39.trans (kp26.trans (kp17.trans h7)))))) (kJ.up (xσ14.trans (xσ15.trans (xσ16.trans (xσ20.trans (xσ21.trans xσ22)))))) (kp98.trans (kp81.trans (kp66.trans (kp40.trans (kp27.trans (kp18.trans h8)))))) (ko.up (xσ14.trans (xσ15.trans (xσ16.trans (xσ20.trans (xσ21.trans xσ22)))))) (by (first | omega | with_reducible assumption | with_reducible exact rng_toInt _ | with_reducible exact rng_wr _ | (unfold rng; omega) | (unfold rng at *; omega) | assumption)) (by (first | omega | with_reducible assumption | with_reducible exact rng_toInt _ | with_reducible exact rng_wr _ | (unfold rng; omega) | (unfold rng at *; omega) | assumption)) (by (first | omega | with_reducible assumption | with_reducible exact rng_toInt _ | with_reducible exact rng_wr _ | (unfold rng; omega) | (unfold rng at *; omega) | assumption)) (by (first | omega | with_reducible assumption | with_reducible exact rng_toInt _ | with_reducible exact rng_wr _ | (unfold rng; omega) | (unfold rng at *; omega) | assumption)) (by (first | omega | with_reducible assumption | with_reducible exact rng_toInt _ | with_reducible exact rng_wr _ | (unfold rng; omega) | (unfold rng at *; omega) | assumption)) (by (first | omega | with_reducible assumption | with_reducible exact rng_toInt _ | with_reducible exact rng_wr _ | (unfold rng; omega) | (unfold rng at *; omega) | assumption)) (by (first | omega | with_reducible assumption | with_reducible exact rng_toInt _ | with_reducible exact rng_wr _ | (unfold rng; omega) | (unfold rng at *; omega) | assumption)) (by (first | omega | with_reducible assumption | with_reducible exact rng_toInt _ | with_reducible exact rng_wr _ | (unfold rng; omega) | (unfold rng at *; omega) | assumption)) (by (first | omega | with_reducible assumption | with_reducible exact rng_toInt _ | with_reducible exact rng_wr _ | (unfold rng; omega) | (unfold rng at *; omega) | assumption)) (fun σ23 nuσ23 _ iσ23 cσ23 uσ23 pσ23 => ?_) (fun σx LLx Nx nux E ix cx ux px => hX σx LLx Nx nux E ix (fσ22.tr (cx.mo (by decide))) (ux) (by first | exact px | exact ⟨by have := px.1; omega, px.2⟩ | (first | omega | with_reducible assumption | with_reducible exact rng_toInt _ | with_reducible exact rng_wr _ | (unfold rng; omega) | (unfold rng at *; omega) | assumption)))
  intro xσ23
  have fσ23 : Fx [261, 262, 263, 323, 324, 326, 327, 386, 387, 388, 389, 390, 6464, 8320] gr σ σ23 := fσ22.tr (cσ23.mo (by decide))
  have oxcσ23 : OX o σ σ23 := oxcσ22.tr (OX.fx cσ23 (by decide) (by decide)) (xσ14.trans (xσ15.trans (xσ16.trans (xσ20.trans (xσ21.trans xσ22)))))
  have nu_σ23 : NC nu nuσ23 := uσ23
  have uσ23_5 := uσ23 5 (by decide) (by decide)
  have kp112 : gP σ23 J 0 = gP σ22 J 0 := (cσ23.O (kJ.up (xσ14.trans (xσ15.trans (xσ16.trans (xσ20.trans (xσ21.trans xσ22)))))) (by decide)).2.1
  have kp113 : gP σ23 b (gI σ16 o 7).toNat = gP σ22 b (gI σ16 o 7).toNat := (cσ23.A (mb.up (xσ20.trans (xσ21.trans xσ22))) (by decide)).2.1
  have kp114 : gP σ23 th 0 = gP σ22 th 0 := (cσ23.O (kth.up (xσ14.trans (xσ15.trans (xσ16.trans (xσ20.trans (xσ21.trans xσ22)))))) (by decide)).2.1
  have kp115 : gP σ23 th 7 = gP σ22 th 7 := (cσ23.O (kth.up (xσ14.trans (xσ15.trans (xσ16.trans (xσ20.trans (xσ21.trans xσ22)))))) (by decide)).2.1
  have kp116 : gP σ23 th 8 = gP σ22 th 8 := (cσ23.O (kth.up (xσ14.trans (xσ15.trans (xσ16.trans (xσ20.trans (xσ21.trans xσ22)))))) (by decide)).2.1
  have kp117 : Kpt (gI σ23 J 1 = gI σ J 1) := Eq.trans (show gI σ23 J 1 = gI σ22 J 1 from (cσ23.O (kJ.up (xσ14.trans (xσ15.trans (xσ16.trans (xσ20.trans (xσ21.trans xσ22)))))) (by decide)).1) kp103
  have kp118 : Kpt (gI σ23 J 2 = gI σ J 2) := Eq.trans (show gI σ23 J 2 = gI σ22 J 2 from (cσ23.O (kJ.up (xσ14.trans (xσ15.trans (xσ16.trans (xσ20.trans (xσ21.trans xσ22)))))) (by decide)).1) kp104
  have kp119 : Kpt (gI σ23 o 3 = gI σ20 o 3) := Eq.trans (show gI σ23 o 3 = gI σ22 o 3 from (cσ23.O (ko.up (xσ14.trans (xσ15.trans (xσ16.trans (xσ20.trans (xσ21.trans xσ22)))))) (by decide)).1) kp105
  have kp120 : Kpt (gI σ23 o 4 = gI σ22 o 4) := (show gI σ23 o 4 = gI σ22 o 4 from (cσ23.O (ko.up (xσ14.trans (xσ15.trans (xσ16.trans (xσ20.trans (xσ21.trans xσ22)))))) (by decide)).1)
  have kp121 : Kpt (gI σ23 o 6 = gI σ15 o 6) := Eq.trans (show gI σ23 o 6 = gI σ22 o 6 from (cσ23.O (ko.up (xσ14.trans (xσ15.trans (xσ16.trans (xσ20.trans (xσ21.trans xσ22)))))) (by decide)).1) kp106
  have kp122 : Kpt (gI σ23 o 7 = gI σ15 o 7) := Eq.trans (show gI σ23 o 7 = gI σ22 o 7 from (cσ23.O (ko.up (xσ14.trans (xσ15.trans (xσ16.trans (xσ20.trans (xσ21.trans xσ22)))))) (by decide)).1) kp107
  have kp123 : Kpt (gI σ23 o 8 = gI σ o 8) := Eq.trans (show gI σ23 o 8 = gI σ22 o 8 from (cσ23.O (ko.up (xσ14.trans (xσ15.trans (xσ16.trans (xσ20.trans (xσ21.trans xσ22)))))) (by decide)).1) kp108
  have kp124 : Kpt (gI σ23 o 9 = gI σ o 9) := Eq.trans (show gI σ23 o 9 = gI σ22 o 9 from (cσ23.O (ko.up (xσ14.trans (xσ15.trans (xσ16.trans (xσ20.trans (xσ21.trans xσ22)))))) (by decide)).1) kp109
  have r5σ23 := I_6_5 iσ23.1 (kth.up (xσ14.trans (xσ15.trans (xσ16.trans (xσ20.trans (xσ21.trans (xσ22.trans xσ23)))))))
  refine ⟨J, (kp115.trans (kp97.trans (kp80.trans (kp65.trans (kp39.trans (kp26.trans (kp17.trans h7))))))), fun kk_J_1 => ?_⟩
  refine i_X4_emit iσ23 (kJ.up (xσ14.trans (xσ15.trans (xσ16.trans (xσ20.trans (xσ21.trans (xσ22.trans xσ23))))))) (by (first | omega | with_reducible assumption | with_reducible exact rng_toInt _ | with_reducible exact rng_wr _ | (unfold rng; omega) | (unfold rng at *; omega) | assumption)) (by (first | omega | with_reducible assumption | with_reducible exact rng_toInt _ | with_reducible exact rng_wr _ | (unfold rng; omega) | (unfold rng at *; omega) | assumption)) (by (first | omega | with_reducible assumption | with_reducible exact rng_toInt _ | with_reducible exact rng_wr _ | (unfold rng; omega) | (unfold rng at *; omega) | assumption)) (by (first | omega | with_reducible assumption | with_reducible exact rng_toInt _ | with_reducible exact rng_wr _ | (unfold rng; omega) | (unfold rng at *; omega) | assumption)) (fun σ24 nuσ24 r25 iσ24 cσ24 uσ24 pσ24 => ?_)
  intro xσ24
  have fσ24 : Fx [261, 262, 263, 323, 324, 326, 327, 386, 387, 388, 389, 390, 6464, 8320] gr σ σ24 := fσ23.tr (cσ24.mo (by decide))
  have oxcσ24 : OX o σ σ24 := oxcσ23.tr (OX.fx cσ24 (by decide) (by decide)) (xσ14.trans (xσ15.trans (xσ16.trans (xσ20.trans (xσ21.trans (xσ22.trans xσ23))))))
  have nu_σ24 : NC nu nuσ24 := nu_σ23.tr uσ24
  have uσ24_5 := uσ24 5 (by decide) (by decide)
  have kp125 : gP σ24 J 0 = gP σ23 J 0 := (cσ24.O (kJ.up (xσ14.trans (xσ15.trans (xσ16.trans (xσ20.trans (xσ21.trans (xσ22.trans xσ23))))))) (by decide)).2.1
  have kp126 : gP σ24 b (gI σ16 o 7).toNat = gP σ23 b (gI σ16 o 7).toNat := (cσ24.A (mb.up (xσ20.trans (xσ21.trans (xσ22.trans xσ23)))) (by decide)).2.1
  have kp127 : gP σ24 th 0 = gP σ23 th 0 := (cσ24.O (kth.up (xσ14.trans (xσ15.trans (xσ16.trans (xσ20.trans (xσ21.trans (xσ22.trans xσ23))))))) (by decide)).2.1
  have kp128 : gP σ24 th 7 = gP σ23 th 7 := (cσ24.O (kth.up (xσ14.trans (xσ15.trans (xσ16.trans (xσ20.trans (xσ21.trans (xσ22.trans xσ23))))))) (by decide)).2.1
  have kp129 : gP σ24 th 8 = gP σ23 th 8 := (cσ24.O (kth.up (xσ14.trans (xσ15.trans (xσ16.trans (xσ20.trans (xσ21.trans (xσ22.trans xσ23))))))) (by decide)).2.1
  have kp130 : gI σ24 th 2 = gI σ23 th 2 := (cσ24.O (kth.up (xσ14.trans (xσ15.trans (xσ16.trans (xσ20.trans (xσ21.trans (xσ22.trans xσ23))))))) (by decide)).1
  have kp131 : gI σ24 th 3 = gI σ23 th 3 := (cσ24.O (kth.up (xσ14.trans (xσ15.trans (xσ16.trans (xσ20.trans (xσ21.trans (xσ22.trans xσ23))))))) (by decide)).1
  have kp132 : gI σ24 th 5 = gI σ23 th 5 := (cσ24.O (kth.up (xσ14.trans (xσ15.trans (xσ16.trans (xσ20.trans (xσ21.trans (xσ22.trans xσ23))))))) (by decide)).1
  have kp133 : Kpt (gI σ24 J 1 = gI σ J 1) := Eq.trans (show gI σ24 J 1 = gI σ23 J 1 from (cσ24.O (kJ.up (xσ14.trans (xσ15.trans (xσ16.trans (xσ20.trans (xσ21.trans (xσ22.trans xσ23))))))) (by decide)).1) kp117
  have kp134 : Kpt (gI σ24 J 2 = gI σ J 2) := Eq.trans (show gI σ24 J 2 = gI σ23 J 2 from (cσ24.O (kJ.up (xσ14.trans (xσ15.trans (xσ16.trans (xσ20.trans (xσ21.trans (xσ22.trans xσ23))))))) (by decide)).1) kp118
  have kp135 : Kpt (gI σ24 o 3 = gI σ20 o 3) := Eq.trans (show gI σ24 o 3 = gI σ23 o 3 from (cσ24.O (ko.up (xσ14.trans (xσ15.trans (xσ16.trans (xσ20.trans (xσ21.trans (xσ22.trans xσ23))))))) (by decide)).1) kp119
  have kp136 : Kpt (gI σ24 o 4 = gI σ22 o 4) := Eq.trans (show gI σ24 o 4 = gI σ23 o 4 from (cσ24.O (ko.up (xσ14.trans (xσ15.trans (xσ16.trans (xσ20.trans (xσ21.trans (xσ22.trans xσ23))))))) (by decide)).1) kp120
  have kp137 : Kpt (gI σ24 o 6 = gI σ15 o 6) := Eq.trans (show gI σ24 o 6 = gI σ23 o 6 from (cσ24.O (ko.up (xσ14.trans (xσ15.trans (xσ16.trans (xσ20.trans (xσ21.trans (xσ22.trans xσ23))))))) (by decide)).1) kp121
  have kp138 : Kpt (gI σ24 o 7 = gI σ15 o 7) := Eq.trans (show gI σ24 o 7 = gI σ23 o 7 from (cσ24.O (ko.up (xσ14.trans (xσ15.trans (xσ16.trans (xσ20.trans (xσ21.trans (xσ22.trans xσ23))))))) (by decide)).1) kp122
  have kp139 : Kpt (gI σ24 o 8 = gI σ o 8) := Eq.trans (show gI σ24 o 8 = gI σ23 o 8 from (cσ24.O (ko.up (xσ14.trans (xσ15.trans (xσ16.trans (xσ20.trans (xσ21.trans (xσ22.trans xσ23))))))) (by decide)).1) kp123
  have kp140 : Kpt (gI σ24 o 9 = gI σ o 9) := Eq.trans (show gI σ24 o 9 = gI σ23 o 9 from (cσ24.O (ko.up (xσ14.trans (xσ15.trans (xσ16.trans (xσ20.trans (xσ21.trans (xσ22.trans xσ23))))))) (by decide)).1) kp124
  have ho141 : gI σ24 J 1 = gI σ J 1 := kp133
  have ho142 : gI σ24 J 2 = gI σ J 2 := kp134
  have ho143 : gI σ24 o 3 = gI σ20 o 3 := kp135
  have ho144 : gI σ24 o 4 = gI σ22 o 4 := kp136
  have ho145 : gI σ24 o 6 = gI σ15 o 6 := kp137
  have ho146 : gI σ24 o 7 = gI σ15 o 7 := kp138
  have ho147 : gI σ24 o 8 = gI σ o 8 := kp139
  have ho148 : gI σ24 o 9 = gI σ o 9 := kp140
  exact hQ σ24 nuσ24 () iσ24 fσ24 (nu_σ24) oxcσ24 (⟨by omega, by omega, ⟨by omega, (fun h => absurd h (by omega)), (fun h => absurd h (by omega))⟩⟩)

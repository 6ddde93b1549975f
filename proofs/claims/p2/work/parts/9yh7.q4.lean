set_option maxHeartbeats 4000000 in
theorem i_X6_pairText_154 {σ : Sg} {pl : Nat} {gq ci gr nc : Nat → Nat} {ot : Nat → Nat → Int} {LL : Nat → List Nat} {N nu : Nat → Nat} {th : Nat} {tx J o q c : Nat} (iσ : IV σ pl gq ci gr nc ot LL N nu) (kth : kO σ th 6) (hX0 : gP σ th 0 = some tx) (kX : kO σ tx 102) (gX : gn σ tx = 1500) (h7 : gP σ th 7 = some J) (kJ : kO σ J 4) (h8 : gP σ th 8 = some o) (ko : kO σ o 5) (hJq : gq J = q) (hq : q ≠ nc 0 ∧ q ≤ 1) (go : gq o = 16 * q + c) (hc : c < 16) (tf : gI σ th 5 ≤ gI σ th 2 ∧ (gI σ th 3 ≠ 0 → gI σ th 5 + 1 ≤ gI σ th 2)) (h5 : nu 5 < 24000) (lp : gI σ J 7 ≤ 2 * gI σ th 5) {Q : Sg → Unit → Prop} {X : Sg → String → Prop} (hQ : ∀ (σ' : Sg) (r : Unit), IV σ' pl gq ci gr nc ot LL N nu → Fx [323, 326, 327, 328, 333, 334, 335, 336, 386, 387, 388, 389, 390, 6464] gr σ σ' → OX o σ σ' → ((gI σ' th 5 ≤ gI σ' th 2 ∧ (gI σ' th 3 ≠ 0 → gI σ' th 5 + 1 ≤ gI σ' th 2)) ∧ gI σ' J 7 ≤ 2 * gI σ' th 5 ∧ gI σ' o 3 = gI σ o 3 ∧ gI σ' o 6 = gI σ o 6 ∧ gI σ' o 7 = gI σ o 7 ∧ gI σ' o 8 = gI σ o 8) → Q σ' r) (hX : ∀ (σ' : Sg) (LL' : Nat → List Nat) (N' nu' : Nat → Nat) (E : String), IV σ' pl gq ci gr nc ot LL' N' nu' → Fx [323, 326, 327, 328, 333, 334, 335, 336, 386, 387, 388, 389, 390, 6464] gr σ σ' → NCX nu nu' → (LL' = LL ∧ N' = N ∧ E = "java/lang/IllegalArgumentException" ∧ gI σ' th 6 ≠ 0) → X σ' E) : w_X6_pairText_154 th Q X σ := by
  have fσ : Fx [323, 326, 327, 328, 333, 334, 335, 336, 386, 387, 388, 389, 390, 6464] gr σ σ := Fx.rf
  have oxσ : OX o σ σ := OX.rf
  have q1 := I_6_5 iσ.1 kth
  have q2 := I_6_2 iσ.1 kth
  have q3 := iσ.rg th 3; unfold rng at q3
  have q4 := I_4_7 iσ.1 kJ
  have ncb := iσ.ncb
  have r70 := I_4_7 iσ.1 kJ
  have r71 := I_4_1 iσ.1 kJ
  unfold w_X6_pairText_154
  refine i_X6_wantWord iσ kth hX0 kX (((Ext.rfl' _) tx kX.1).2.2.trans gX) (by (first | omega | with_reducible assumption | with_reducible exact rng_toInt _ | with_reducible exact rng_wr _ | (unfold rng; omega) | (unfold rng at *; omega) | assumption)) (by (first | omega | with_reducible assumption | with_reducible exact rng_toInt _ | with_reducible exact rng_wr _ | (unfold rng; omega) | (unfold rng at *; omega) | assumption)) (fun σ84 _ iσ84 cσ84 pσ84 => ?_) (fun σx LLx Nx nux E ix cx ux px => hX σx LLx Nx nux E ix (fσ.tr (cx.mo (by decide))) (ux) (by first | exact px | exact ⟨by have := px.1; omega, px.2⟩ | (first | omega | with_reducible assumption | with_reducible exact rng_toInt _ | with_reducible exact rng_wr _ | (unfold rng; omega) | (unfold rng at *; omega) | assumption)))
  intro xσ84
  have fσ84 : Fx [323, 326, 327, 328, 333, 334, 335, 336, 386, 387, 388, 389, 390, 6464] gr σ σ84 := fσ.tr (cσ84.mo (by decide))
  have oxcσ84 : OX o σ σ84 := oxσ.tr (OX.fx cσ84 (by decide) (by decide)) (Ext.rfl' _)
  have kp5 : Kpt (gI σ84 J 7 = gI σ J 7) := (show gI σ84 J 7 = gI σ J 7 from (cσ84.O kJ (by decide)).1)
  have kp6 : gP σ84 th 0 = gP σ th 0 := (cσ84.O kth (by decide)).2.1
  have kp7 : gP σ84 th 7 = gP σ th 7 := (cσ84.O kth (by decide)).2.1
  have kp8 : gP σ84 th 8 = gP σ th 8 := (cσ84.O kth (by decide)).2.1
  have kp9 : Kpt (gI σ84 J 1 = gI σ J 1) := (show gI σ84 J 1 = gI σ J 1 from (cσ84.O kJ (by decide)).1)
  have kp10 : Kpt (gI σ84 J 2 = gI σ J 2) := (show gI σ84 J 2 = gI σ J 2 from (cσ84.O kJ (by decide)).1)
  have kp11 : Kpt (gI σ84 o 3 = gI σ o 3) := (show gI σ84 o 3 = gI σ o 3 from (cσ84.O ko (by decide)).1)
  have kp12 : Kpt (gI σ84 o 4 = gI σ o 4) := (show gI σ84 o 4 = gI σ o 4 from (cσ84.O ko (by decide)).1)
  have kp13 : Kpt (gI σ84 o 6 = gI σ o 6) := (show gI σ84 o 6 = gI σ o 6 from (cσ84.O ko (by decide)).1)
  have kp14 : Kpt (gI σ84 o 7 = gI σ o 7) := (show gI σ84 o 7 = gI σ o 7 from (cσ84.O ko (by decide)).1)
  have kp15 : Kpt (gI σ84 o 8 = gI σ o 8) := (show gI σ84 o 8 = gI σ o 8 from (cσ84.O ko (by decide)).1)
  have kp16 : Kpt (gI σ84 o 9 = gI σ o 9) := (show gI σ84 o 9 = gI σ o 9 from (cσ84.O ko (by decide)).1)
  have r5σ84 := I_6_5 iσ84.1 (kth.up xσ84)
  have ho17 : gI σ84 J 7 = gI σ J 7 := kp5
  have cp18 : (gI σ84 th 5 ≤ gI σ84 th 2 ∧ (gI σ84 th 3 ≠ 0 → gI σ84 th 5 + 1 ≤ gI σ84 th 2)) ∧ gI σ84 J 7 ≤ 2 * gI σ84 th 5 ∧ 0 ≤ gI σ84 th 5 := by omega
  clear pσ84 q2 q1
  refine i_X6_signedNumber iσ84 (kth.up xσ84) (kp6.trans hX0) (kX.up xσ84) (((xσ84) tx kX.1).2.2.trans gX) (by (first | omega | with_reducible assumption | with_reducible exact rng_toInt _ | with_reducible exact rng_wr _ | (unfold rng; omega) | (unfold rng at *; omega) | assumption)) (by (first | omega | with_reducible assumption | with_reducible exact rng_toInt _ | with_reducible exact rng_wr _ | (unfold rng; omega) | (unfold rng at *; omega) | assumption)) (fun σ85 r86 iσ85 cσ85 pσ85 => ?_) (fun σx LLx Nx nux E ix cx ux px => hX σx LLx Nx nux E ix (fσ84.tr (cx.mo (by decide))) (ux) (by first | exact px | exact ⟨by have := px.1; omega, px.2⟩ | (first | omega | with_reducible assumption | with_reducible exact rng_toInt _ | with_reducible exact rng_wr _ | (unfold rng; omega) | (unfold rng at *; omega) | assumption)))
  intro xσ85
  have fσ85 : Fx [323, 326, 327, 328, 333, 334, 335, 336, 386, 387, 388, 389, 390, 6464] gr σ σ85 := fσ84.tr (cσ85.mo (by decide))
  have oxcσ85 : OX o σ σ85 := oxcσ84.tr (OX.fx cσ85 (by decide) (by decide)) (xσ84)
  have kp19 : gP σ85 th 0 = gP σ84 th 0 := (cσ85.O (kth.up xσ84) (by decide)).2.1
  have kp20 : gP σ85 th 7 = gP σ84 th 7 := (cσ85.O (kth.up xσ84) (by decide)).2.1
  have kp21 : gP σ85 th 8 = gP σ84 th 8 := (cσ85.O (kth.up xσ84) (by decide)).2.1
  have kp22 : Kpt (gI σ85 J 7 = gI σ J 7) := Eq.trans (show gI σ85 J 7 = gI σ84 J 7 from (cσ85.O (kJ.up xσ84) (by decide)).1) kp5
  have kp23 : Kpt (gI σ85 J 1 = gI σ J 1) := Eq.trans (show gI σ85 J 1 = gI σ84 J 1 from (cσ85.O (kJ.up xσ84) (by decide)).1) kp9
  have kp24 : Kpt (gI σ85 J 2 = gI σ J 2) := Eq.trans (show gI σ85 J 2 = gI σ84 J 2 from (cσ85.O (kJ.up xσ84) (by decide)).1) kp10
  have kp25 : Kpt (gI σ85 o 3 = gI σ o 3) := Eq.trans (show gI σ85 o 3 = gI σ84 o 3 from (cσ85.O (ko.up xσ84) (by decide)).1) kp11
  have kp26 : Kpt (gI σ85 o 4 = gI σ o 4) := Eq.trans (show gI σ85 o 4 = gI σ84 o 4 from (cσ85.O (ko.up xσ84) (by decide)).1) kp12
  have kp27 : Kpt (gI σ85 o 6 = gI σ o 6) := Eq.trans (show gI σ85 o 6 = gI σ84 o 6 from (cσ85.O (ko.up xσ84) (by decide)).1) kp13
  have kp28 : Kpt (gI σ85 o 7 = gI σ o 7) := Eq.trans (show gI σ85 o 7 = gI σ84 o 7 from (cσ85.O (ko.up xσ84) (by decide)).1) kp14
  have kp29 : Kpt (gI σ85 o 8 = gI σ o 8) := Eq.trans (show gI σ85 o 8 = gI σ84 o 8 from (cσ85.O (ko.up xσ84) (by decide)).1) kp15
  have kp30 : Kpt (gI σ85 o 9 = gI σ o 9) := Eq.trans (show gI σ85 o 9 = gI σ84 o 9 from (cσ85.O (ko.up xσ84) (by decide)).1) kp16
  have r5σ85 := I_6_5 iσ85.1 (kth.up (xσ84.trans xσ85))
  refine ⟨o, (kp8.trans h8), fun kk_o => ?_⟩
  intro σ88 eσ88
  have xσ88 : Ext σ85 σ88 := by rw [eσ88]; exact fun _ h => ⟨h, rfl, rfl⟩
  have iσ88 : IV σ88 pl gq ci gr nc ot LL N nu := by rw [eσ88]; exact iσ85.wSp (ko.up (xσ84.trans xσ85)) (fun i hi => by omega) (by decide) (show (-1000 : Int) ≤ r86 ∧ r86 ≤ 1000 from ⟨by omega, by omega⟩)
  have fσ88 : Fx [323, 326, 327, 328, 333, 334, 335, 336, 386, 387, 388, 389, 390, 6464] gr σ σ88 := fσ85.tr (Sk.fx (by rw [eσ88]; exact Sk.pI (by rw [fcdO (ko.up (xσ84.trans xσ85)) (by decide)]; decide)))
  have oxcσ88 : OX o σ σ88 := oxcσ85.tr (by rw [eσ88]; exact OX.pI (ko.up (xσ84.trans xσ85)) (Or.inr rfl)) (xσ84.trans xσ85)
  have wσ88 : gI σ88 o 15 = r86 := by rw [eσ88]; exact up2_s _ _ _ _
  have kp31 : gP σ88 th 0 = gP σ85 th 0 := by rw [eσ88]
  have kp32 : gP σ88 th 7 = gP σ85 th 7 := by rw [eσ88]
  have kp33 : gP σ88 th 8 = gP σ85 th 8 := by rw [eσ88]
  have kp34 : gI σ88 th 2 = gI σ85 th 2 := by rw [eσ88]; exact up2_n _ _ (fun q => absurd q.2 (by decide))
  have kp35 : gI σ88 th 3 = gI σ85 th 3 := by rw [eσ88]; exact up2_n _ _ (fun q => absurd q.2 (by decide))
  have kp36 : gI σ88 th 5 = gI σ85 th 5 := by rw [eσ88]; exact up2_n _ _ (fun q => absurd q.2 (by decide))
  have kp37 : Kpt (gI σ88 J 7 = gI σ J 7) := Eq.trans (show gI σ88 J 7 = gI σ85 J 7 from by rw [eσ88]; exact up2_n _ _ (fun q => absurd q.2 (by decide))) kp22
  have kp38 : Kpt (gI σ88 J 1 = gI σ J 1) := Eq.trans (show gI σ88 J 1 = gI σ85 J 1 from by rw [eσ88]; exact up2_n _ _ (fun q => absurd q.2 (by decide))) kp23
  have kp39 : Kpt (gI σ88 J 2 = gI σ J 2) := Eq.trans (show gI σ88 J 2 = gI σ85 J 2 from by rw [eσ88]; exact up2_n _ _ (fun q => absurd q.2 (by decide))) kp24
  have kp40 : Kpt (gI σ88 o 3 = gI σ o 3) := Eq.trans (show gI σ88 o 3 = gI σ85 o 3 from by rw [eσ88]; exact up2_n _ _ (fun q => absurd q.2 (by decide))) kp25
  have kp41 : Kpt (gI σ88 o 4 = gI σ o 4) := Eq.trans (show gI σ88 o 4 = gI σ85 o 4 from by rw [eσ88]; exact up2_n _ _ (fun q => absurd q.2 (by decide))) kp26
  have kp42 : Kpt (gI σ88 o 6 = gI σ o 6) := Eq.trans (show gI σ88 o 6 = gI σ85 o 6 from by rw [eσ88]; exact up2_n _ _ (fun q => absurd q.2 (by decide))) kp27
  have kp43 : Kpt (gI σ88 o 7 = gI σ o 7) := Eq.trans (show gI σ88 o 7 = gI σ85 o 7 from by rw [eσ88]; exact up2_n _ _ (fun q => absurd q.2 (by decide))) kp28
  have kp44 : Kpt (gI σ88 o 8 = gI σ o 8) := Eq.trans (show gI σ88 o 8 = gI σ85 o 8 from by rw [eσ88]; exact up2_n _ _ (fun q => absurd q.2 (by decide))) kp29
  have kp45 : Kpt (gI σ88 o 9 = gI σ o 9) := Eq.trans (show gI σ88 o 9 = gI σ85 o 9 from by rw [eσ88]; exact up2_n _ _ (fun q => absurd q.2 (by decide))) kp30
  refine i_X6_next iσ88 (kth.up (xσ84.trans (xσ85.trans xσ88))) (kp31.trans (kp19.trans (kp6.trans hX0))) (kX.up (xσ84.trans (xσ85.trans xσ88))) (((xσ84.trans (xσ85.trans xσ88)) tx kX.1).2.2.trans gX) (by (first | omega | with_reducible assumption | with_reducible exact rng_toInt _ | with_reducible exact rng_wr _ | (unfold rng; omega) | (unfold rng at *; omega) | assumption)) (by (first | omega | with_reducible assumption | with_reducible exact rng_toInt _ | with_reducible exact rng_wr _ | (unfold rng; omega) | (unfold rng at *; omega) | assumption)) (fun σ89 _ iσ89 cσ89 pσ89 => ?_) (fun σx LLx Nx nux E ix cx ux px => hX σx LLx Nx nux E ix (fσ88.tr (cx.mo (by decide))) (ux) (by first | exact px | exact ⟨by have := px.1; omega, px.2⟩ | (first | omega | with_reducible assumption | with_reducible exact rng_toInt _ | with_reducible exact rng_wr _ | (unfold rng; omega) | (unfold rng at *; omega) | assumption)))
  intro xσ89
  have fσ89 : Fx [323, 326, 327, 328, 333, 334, 335, 336, 386, 387, 388, 389, 390, 6464] gr σ σ89 := fσ88.tr (cσ89.mo (by decide))
  have oxcσ89 : OX o σ σ89 := oxcσ88.tr (OX.fx cσ89 (by decide) (by decide)) (xσ84.trans (xσ85.trans xσ88))
  have kp46 : gI σ89 o 15 = gI σ88 o 15 := (cσ89.O (ko.up (xσ84.trans (xσ85.trans xσ88))) (by decide)).1
  have kp47 : gP σ89 th 0 = gP σ88 th 0 := (cσ89.O (kth.up (xσ84.trans (xσ85.trans xσ88))) (by decide)).2.1
  have kp48 : gP σ89 th 7 = gP σ88 th 7 := (cσ89.O (kth.up (xσ84.trans (xσ85.trans xσ88))) (by decide)).2.1
  have kp49 : gP σ89 th 8 = gP σ88 th 8 := (cσ89.O (kth.up (xσ84.trans (xσ85.trans xσ88))) (by decide)).2.1
  have kp50 : Kpt (gI σ89 J 7 = gI σ J 7) := Eq.trans (show gI σ89 J 7 = gI σ88 J 7 from (cσ89.O (kJ.up (xσ84.trans (xσ85.trans xσ88))) (by decide)).1) kp37
  have kp51 : Kpt (gI σ89 J 1 = gI σ J 1) := Eq.trans (show gI σ89 J 1 = gI σ88 J 1 from (cσ89.O (kJ.up (xσ84.trans (xσ85.trans xσ88))) (by decide)).1) kp38
  have kp52 : Kpt (gI σ89 J 2 = gI σ J 2) := Eq.trans (show gI σ89 J 2 = gI σ88 J 2 from (cσ89.O (kJ.up (xσ84.trans (xσ85.trans xσ88))) (by decide)).1) kp39
  have kp53 : Kpt (gI σ89 o 3 = gI σ o 3) := Eq.trans (show gI σ89 o 3 = gI σ88 o 3 from (cσ89.O (ko.up (xσ84.trans (xσ85.trans xσ88))) (by decide)).1) kp40
  have kp54 : Kpt (gI σ89 o 4 = gI σ o 4) := Eq.trans (show gI σ89 o 4 = gI σ88 o 4 from (cσ89.O (ko.up (xσ84.trans (xσ85.trans xσ88))) (by decide)).1) kp41
  have kp55 : Kpt (gI σ89 o 6 = gI σ o 6) := Eq.trans (show gI σ89 o 6 = gI σ88 o 6 from (cσ89.O (ko.up (xσ84.trans (xσ85.trans xσ88))) (by decide)).1) kp42
  have kp56 : Kpt (gI σ89 o 7 = gI σ o 7) := Eq.trans (show gI σ89 o 7 = gI σ88 o 7 from (cσ89.O (ko.up (xσ84.trans (xσ85.trans xσ88))) (by decide)).1) kp43
  have kp57 : Kpt (gI σ89 o 8 = gI σ o 8) := Eq.trans (show gI σ89 o 8 = gI σ88 o 8 from (cσ89.O (ko.up (xσ84.trans (xσ85.trans xσ88))) (by decide)).1) kp44
  have kp58 : Kpt (gI σ89 o 9 = gI σ o 9) := Eq.trans (show gI σ89 o 9 = gI σ88 o 9 from (cσ89.O (ko.up (xσ84.trans (xσ85.trans xσ88))) (by decide)).1) kp45
  have r5σ89 := I_6_5 iσ89.1 (kth.up (xσ84.trans (xσ85.trans (xσ88.trans xσ89))))
  have ho59 : gI σ89 J 7 = gI σ J 7 := kp50
  have cp60 : (gI σ89 th 5 ≤ gI σ89 th 2 ∧ (gI σ89 th 3 ≠ 0 → gI σ89 th 5 + 1 ≤ gI σ89 th 2)) ∧ gI σ89 J 7 ≤ 2 * gI σ89 th 5 ∧ 0 ≤ gI σ89 th 5 := by omega
  clear pσ89 kp36 kp35 kp34 cp18
  refine i_X6_signedNumber iσ89 (kth.up (xσ84.trans (xσ85.trans (xσ88.trans xσ89)))) (kp47.trans (kp31.trans (kp19.trans (kp6.trans hX0)))) (kX.up (xσ84.trans (xσ85.trans (xσ88.trans xσ89)))) (((xσ84.trans (xσ85.trans (xσ88.trans xσ89))) tx kX.1).2.2.trans gX) (by (first | omega | with_reducible assumption | with_reducible exact rng_toInt _ | with_reducible exact rng_wr _ | (unfold rng; omega) | (unfold rng at *; omega) | assumption)) (by (first | omega | with_reducible assumption | with_reducible exact rng_toInt _ | with_reducible exact rng_wr _ | (unfold rng; omega) | (unfold rng at *; omega) | assumption)) (fun σ90 r91 iσ90 cσ90 pσ90 => ?_) (fun σx LLx Nx nux E ix cx ux px => hX σx LLx Nx nux E ix (fσ89.tr (cx.mo (by decide))) (ux) (by first | exact px | exact ⟨by have := px.1; omega, px.2⟩ | (first | omega | with_reducible assumption | with_reducible exact rng_toInt _ | with_reducible exact rng_wr _ | (unfold rng; omega) | (unfold rng at *; omega) | assumption)))
  intro xσ90
  have fσ90 : Fx [323, 326, 327, 328, 333, 334, 335, 336, 386, 387, 388, 389, 390, 6464] gr σ σ90 := fσ89.tr (cσ90.mo (by decide))
  have oxcσ90 : OX o σ σ90 := oxcσ89.tr (OX.fx cσ90 (by decide) (by decide)) (xσ84.trans (xσ85.trans (xσ88.trans xσ89)))
  have kp61 : gI σ90 o 15 = gI σ89 o 15 := (cσ90.O (ko.up (xσ84.trans (xσ85.trans (xσ88.trans xσ89)))) (by decide)).1
  have kp62 : gP σ90 th 0 = gP σ89 th 0 := (cσ90.O (kth.up (xσ84.trans (xσ85.trans (xσ88.trans xσ89)))) (by decide)).2.1
  have kp63 : gP σ90 th 7 = gP σ89 th 7 := (cσ90.O (kth.up (xσ84.trans (xσ85.trans (xσ88.trans xσ89)))) (by decide)).2.1
  have kp64 : gP σ90 th 8 = gP σ89 th 8 := (cσ90.O (kth.up (xσ84.trans (xσ85.trans (xσ88.trans xσ89)))) (by decide)).2.1
  have kp65 : Kpt (gI σ90 J 7 = gI σ J 7) := Eq.trans (show gI σ90 J 7 = gI σ89 J 7 from (cσ90.O (kJ.up (xσ84.trans (xσ85.trans (xσ88.trans xσ89)))) (by decide)).1) kp50
  have kp66 : Kpt (gI σ90 J 1 = gI σ J 1) := Eq.trans (show gI σ90 J 1 = gI σ89 J 1 from (cσ90.O (kJ.up (xσ84.trans (xσ85.trans (xσ88.trans xσ89)))) (by decide)).1) kp51
  have kp67 : Kpt (gI σ90 J 2 = gI σ J 2) := Eq.trans (show gI σ90 J 2 = gI σ89 J 2 from (cσ90.O (kJ.up (xσ84.trans (xσ85.trans (xσ88.trans xσ89)))) (by decide)).1) kp52
  have kp68 : Kpt (gI σ90 o 3 = gI σ o 3) := Eq.trans (show gI σ90 o 3 = gI σ89 o 3 from (cσ90.O (ko.up (xσ84.trans (xσ85.trans (xσ88.trans xσ89)))) (by decide)).1) kp53
  have kp69 : Kpt (gI σ90 o 4 = gI σ o 4) := Eq.trans (show gI σ90 o 4 = gI σ89 o 4 from (cσ90.O (ko.up (xσ84.trans (xσ85.trans (xσ88.trans xσ89)))) (by decide)).1) kp54
  have kp70 : Kpt (gI σ90 o 6 = gI σ o 6) := Eq.trans (show gI σ90 o 6 = gI σ89 o 6 from (cσ90.O (ko.up (xσ84.trans (xσ85.trans (xσ88.trans xσ89)))) (by decide)).1) kp55
  have kp71 : Kpt (gI σ90 o 7 = gI σ o 7) := Eq.trans (show gI σ90 o 7 = gI σ89 o 7 from (cσ90.O (ko.up (xσ84.trans (xσ85.trans (xσ88.trans xσ89)))) (by decide)).1) kp56
  have kp72 : Kpt (gI σ90 o 8 = gI σ o 8) := Eq.trans (show gI σ90 o 8 = gI σ89 o 8 from (cσ90.O (ko.up (xσ84.trans (xσ85.trans (xσ88.trans xσ89)))) (by decide)).1) kp57
  have kp73 : Kpt (gI σ90 o 9 = gI σ o 9) := Eq.trans (show gI σ90 o 9 = gI σ89 o 9 from (cσ90.O (ko.up (xσ84.trans (xσ85.trans (xσ88.trans xσ89)))) (by decide)).1) kp58
  have r5σ90 := I_6_5 iσ90.1 (kth.up (xσ84.trans (xσ85.trans (xσ88.trans (xσ89.trans xσ90)))))
  refine ⟨o, (kp49.trans (kp33.trans (kp21.trans (kp8.trans h8)))), fun kk_o_1 => ?_⟩
  intro σ93 eσ93
  have xσ93 : Ext σ90 σ93 := by rw [eσ93]; exact fun _ h => ⟨h, rfl, rfl⟩
  have iσ93 : IV σ93 pl gq ci gr nc ot LL N nu := by rw [eσ93]; exact iσ90.wSp (ko.up (xσ84.trans (xσ85.trans (xσ88.trans (xσ89.trans xσ90))))) (fun i hi => by omega) (by decide) (show (-1000 : Int) ≤ r91 ∧ r91 ≤ 1000 from ⟨by omega, by omega⟩)
  have fσ93 : Fx [323, 326, 327, 328, 333, 334, 335, 336, 386, 387, 388, 389, 390, 6464] gr σ σ93 := fσ90.tr (Sk.fx (by rw [eσ93]; exact Sk.pI (by rw [fcdO (ko.up (xσ84.trans (xσ85.trans (xσ88.trans (xσ89.trans xσ90))))) (by decide)]; decide)))
  have oxcσ93 : OX o σ σ93 := oxcσ90.tr (by rw [eσ93]; exact OX.pI (ko.up (xσ84.trans (xσ85.trans (xσ88.trans (xσ89.trans xσ90))))) (Or.inr rfl)) (xσ84.trans (xσ85.trans (xσ88.trans (xσ89.trans xσ90))))
  have wσ93 : gI σ93 o 16 = r91 := by rw [eσ93]; exact up2_s _ _ _ _
  have kp74 : gI σ93 o 15 = gI σ90 o 15 := by rw [eσ93]; exact up2_n _ _ (fun q => absurd q.2 (by decide))
  have kp75 : gP σ93 th 0 = gP σ90 th 0 := by rw [eσ93]
  have kp76 : gP σ93 th 7 = gP σ90 th 7 := by rw [eσ93]
  have kp77 : gP σ93 th 8 = gP σ90 th 8 := by rw [eσ93]
  have kp78 : gI σ93 th 2 = gI σ90 th 2 := by rw [eσ93]; exact up2_n _ _ (fun q => absurd q.2 (by decide))
  have kp79 : gI σ93 th 3 = gI σ90 th 3 := by rw [eσ93]; exact up2_n _ _ (fun q => absurd q.2 (by decide))
  have kp80 : gI σ93 th 5 = gI σ90 th 5 := by rw [eσ93]; exact up2_n _ _ (fun q => absurd q.2 (by decide))
  have kp81 : Kpt (gI σ93 J 7 = gI σ J 7) := Eq.trans (show gI σ93 J 7 = gI σ90 J 7 from by rw [eσ93]; exact up2_n _ _ (fun q => absurd q.2 (by decide))) kp65
  have kp82 : Kpt (gI σ93 J 1 = gI σ J 1) := Eq.trans (show gI σ93 J 1 = gI σ90 J 1 from by rw [eσ93]; exact up2_n _ _ (fun q => absurd q.2 (by decide))) kp66
  have kp83 : Kpt (gI σ93 J 2 = gI σ J 2) := Eq.trans (show gI σ93 J 2 = gI σ90 J 2 from by rw [eσ93]; exact up2_n _ _ (fun q => absurd q.2 (by decide))) kp67
  have kp84 : Kpt (gI σ93 o 3 = gI σ o 3) := Eq.trans (show gI σ93 o 3 = gI σ90 o 3 from by rw [eσ93]; exact up2_n _ _ (fun q => absurd q.2 (by decide))) kp68
  have kp85 : Kpt (gI σ93 o 4 = gI σ o 4) := Eq.trans (show gI σ93 o 4 = gI σ90 o 4 from by rw [eσ93]; exact up2_n _ _ (fun q => absurd q.2 (by decide))) kp69
  have kp86 : Kpt (gI σ93 o 6 = gI σ o 6) := Eq.trans (show gI σ93 o 6 = gI σ90 o 6 from by rw [eσ93]; exact up2_n _ _ (fun q => absurd q.2 (by decide))) kp70
  have kp87 : Kpt (gI σ93 o 7 = gI σ o 7) := Eq.trans (show gI σ93 o 7 = gI σ90 o 7 from by rw [eσ93]; exact up2_n _ _ (fun q => absurd q.2 (by decide))) kp71
  have kp88 : Kpt (gI σ93 o 8 = gI σ o 8) := Eq.trans (show gI σ93 o 8 = gI σ90 o 8 from by rw [eσ93]; exact up2_n _ _ (fun q => absurd q.2 (by decide))) kp72
  have kp89 : Kpt (gI σ93 o 9 = gI σ o 9) := Eq.trans (show gI σ93 o 9 = gI σ90 o 9 from by rw [eσ93]; exact up2_n _ _ (fun q => absurd q.2 (by decide))) kp73
  refine ⟨o, (kp77.trans (kp64.trans (kp49.trans (kp33.trans (kp21.trans (kp8.trans h8)))))), fun kk_o_2 => ?_⟩
  by_cases hc90 : gI σ93 o 15 ≤ gI σ93 o 16
  · rw [if_pos hc90]
    unfold w_X6_pairText_209
    refine i_X6_next iσ93 (kth.up (xσ84.trans (xσ85.trans (xσ88.trans (xσ89.trans (xσ90.trans xσ93)))))) (kp75.trans (kp62.trans (kp47.trans (kp31.trans (kp19.trans (kp6.trans hX0)))))) (kX.up (xσ84.trans (xσ85.trans (xσ88.trans (xσ89.trans (xσ90.trans xσ93)))))) (((xσ84.trans (xσ85.trans (xσ88.trans (xσ89.trans (xσ90.trans xσ93))))) tx kX.1).2.2.trans gX) (by (first | omega | with_reducible assumption | with_reducible exact rng_toInt _ | with_reducible exact rng_wr _ | (unfold rng; omega) | (unfold rng at *; omega) | assumption)) (by (first | omega | with_reducible assumption | with_reducible exact rng_toInt _ | with_reducible exact rng_wr _ | (unfold rng; omega) | (unfold rng at *; omega) | assumption)) (fun σ96 _ iσ96 cσ96 pσ96 => ?_) (fun σx LLx Nx nux E ix cx ux px => hX σx LLx Nx nux E ix (fσ93.tr (cx.mo (by decide))) (ux) (by first | exact px | exact ⟨by have := px.1; omega, px.2⟩ | (first | omega | with_reducible assumption | with_reducible exact rng_toInt _ | with_reducible exact rng_wr _ | (unfold rng; omega) | (unfold rng at *; omega) | assumption)))
    intro xσ96
    have fσ96 : Fx [323, 326, 327, 328, 333, 334, 335, 336, 386, 387, 388, 389, 390, 6464] gr σ σ96 := fσ93.tr (cσ96.mo (by decide))
    have oxcσ96 : OX o σ σ96 := oxcσ93.tr (OX.fx cσ96 (by decide) (by decide)) (xσ84.trans (xσ85.trans (xσ88.trans (xσ89.trans (xσ90.trans xσ93)))))
    have kp91 : gI σ96 o 15 = gI σ93 o 15 := (cσ96.O (ko.up (xσ84.trans (xσ85.trans (xσ88.trans (xσ89.trans (xσ90.trans xσ93)))))) (by decide)).1
    have kp92 : gI σ96 o 16 = gI σ93 o 16 := (cσ96.O (ko.up (xσ84.trans (xσ85.trans (xσ88.trans (xσ89.trans (xσ90.trans xσ93)))))) (by decide)).1
    have kp93 : gP σ96 th 0 = gP σ93 th 0 := (cσ96.O (kth.up (xσ84.trans (xσ85.trans (xσ88.trans (xσ89.trans (xσ90.trans xσ93)))))) (by decide)).2.1
    have kp94 : gP σ96 th 7 = gP σ93 th 7 := (cσ96.O (kth.up (xσ84.trans (xσ85.trans (xσ88.trans (xσ89.trans (xσ90.trans xσ93)))))) (by decide)).2.1
    have kp95 : gP σ96 th 8 = gP σ93 th 8 := (cσ96.O (kth.up (xσ84.trans (xσ85.trans (xσ88.trans (xσ89.trans (xσ90.trans xσ93)))))) (by decide)).2.1
    have kp96 : Kpt (gI σ96 J 7 = gI σ J 7) := Eq.trans (show gI σ96 J 7 = gI σ93 J 7 from (cσ96.O (kJ.up (xσ84.trans (xσ85.trans (xσ88.trans (xσ89.trans (xσ90.trans xσ93)))))) (by decide)).1) kp81
    have kp97 : Kpt (gI σ96 J 1 = gI σ J 1) := Eq.trans (show gI σ96 J 1 = gI σ93 J 1 from (cσ96.O (kJ.up (xσ84.trans (xσ85.trans (xσ88.trans (xσ89.trans (xσ90.trans xσ93)))))) (by decide)).1) kp82
    have kp98 : Kpt (gI σ96 J 2 = gI σ J 2) := Eq.trans (show gI σ96 J 2 = gI σ93 J 2 from (cσ96.O (kJ.up (xσ84.trans (xσ85.trans (xσ88.trans (xσ89.trans (xσ90.trans xσ93)))))) (by decide)).1) kp83
    have kp99 : Kpt (gI σ96 o 3 = gI σ o 3) := Eq.trans (show gI σ96 o 3 = gI σ93 o 3 from (cσ96.O (ko.up (xσ84.trans (xσ85.trans (xσ88.trans (xσ89.trans (xσ90.trans xσ93)))))) (by decide)).1) kp84
    have kp100 : Kpt (gI σ96 o 4 = gI σ o 4) := Eq.trans (show gI σ96 o 4 = gI σ93 o 4 from (cσ96.O (ko.up (xσ84.trans (xσ85.trans (xσ88.trans (xσ89.trans (xσ90.trans xσ93)))))) (by decide)).1) kp85
    have kp101 : Kpt (gI σ96 o 6 = gI σ o 6) := Eq.trans (show gI σ96 o 6 = gI σ93 o 6 from (cσ96.O (ko.up (xσ84.trans (xσ85.trans (xσ88.trans (xσ89.trans (xσ90.trans xσ93)))))) (by decide)).1) kp86
    have kp102 : Kpt (gI σ96 o 7 = gI σ o 7) := Eq.trans (show gI σ96 o 7 = gI σ93 o 7 from (cσ96.O (ko.up (xσ84.trans (xσ85.trans (xσ88.trans (xσ89.trans (xσ90.trans xσ93)))))) (by decide)).1) kp87
    have kp103 : Kpt (gI σ96 o 8 = gI σ o 8) := Eq.trans (show gI σ96 o 8 = gI σ93 o 8 from (cσ96.O (ko.up (xσ84.trans (xσ85.trans (xσ88.trans (xσ89.trans (xσ90.trans xσ93)))))) (by decide)).1) kp88
    have kp104 : Kpt (gI σ96 o 9 = gI σ o 9) := Eq.trans (show gI σ96 o 9 = gI σ93 o 9 from (cσ96.O (ko.up (xσ84.trans (xσ85.trans (xσ88.trans (xσ89.trans (xσ90.trans xσ93)))))) (by decide)).1) kp89
    have r5σ96 := I_6_5 iσ96.1 (kth.up (xσ84.trans (xσ85.trans (xσ88.trans (xσ89.trans (xσ90.trans (xσ93.trans xσ96)))))))
    have ho105 : gI σ96 J 7 = gI σ J 7 := kp96
    have cp106 : (gI σ96 th 5 ≤ gI σ96 th 2 ∧ (gI σ96 th 3 ≠ 0 → gI σ96 th 5 + 1 ≤ gI σ96 th 2)) ∧ gI σ96 J 7 ≤ 2 * gI σ96 th 5 ∧ 0 ≤ gI σ96 th 5 := by omega
    clear pσ96 kp80 kp79 kp78 cp60
    unfold w_X6_pairText_213
    have ho107 : gI σ96 J 1 = gI σ J 1 := kp97
    have ho108 : gI σ96 J 2 = gI σ J 2 := kp98
    have ho109 : gI σ96 o 3 = gI σ o 3 := kp99
    have ho110 : gI σ96 o 4 = gI σ o 4 := kp100
    have ho111 : gI σ96 o 6 = gI σ o 6 := kp101
    have ho112 : gI σ96 o 7 = gI σ o 7 := kp102
    have ho113 : gI σ96 o 8 = gI σ o 8 := kp103
    have ho114 : gI σ96 o 9 = gI σ o 9 := kp104
    exact hQ σ96 () iσ96 fσ96 oxcσ96 (⟨by omega, by omega, by omega, by omega, by omega, by omega⟩)
  · rw [if_neg hc90]
    unfold w_X6_pairText_203
    refine i_X6_refuse iσ93 (kth.up (xσ84.trans (xσ85.trans (xσ88.trans (xσ89.trans (xσ90.trans xσ93)))))) (by (first | omega | with_reducible assumption | with_reducible exact rng_toInt _ | with_reducible exact rng_wr _ | (unfold rng; omega) | (unfold rng at *; omega) | assumption)) (by (first | omega | with_reducible assumption | with_reducible exact rng_toInt _ | with_reducible exact rng_wr _ | (unfold rng; omega) | (unfold rng at *; omega) | assumption)) (by (first | omega | with_reducible assumption | with_reducible exact rng_toInt _ | with_reducible exact rng_wr _ | (unfold rng; omega) | (unfold rng at *; omega) | assumption)) (fun σ95 _ iσ95 cσ95 pσ95 => ?_) (fun σx LLx Nx nux E ix cx ux px => hX σx LLx Nx nux E ix (fσ93.tr (cx.mo (by decide))) (ux) (by first | exact px | exact ⟨by have := px.1; omega, px.2⟩ | (first | omega | with_reducible assumption | with_reducible exact rng_toInt _ | with_reducible exact rng_wr _ | (unfold rng; omega) | (unfold rng at *; omega) | assumption)))
    intro xσ95
    exact pσ95.elim
set_option maxHeartbeats 4000000 in
theorem i_X6_pairText {σ : Sg} {pl : Nat} {gq ci gr nc : Nat → Nat} {ot : Nat → Nat → Int} {LL : Nat → List Nat} {N nu : Nat → Nat} {th : Nat} {v1 : Int} {tx J o q c : Nat} (iσ : IV σ pl gq ci gr nc ot LL N nu) (kth : kO σ th 6) (hX0 : gP σ th 0 = some tx) (kX : kO σ tx 102) (gX : gn σ tx = 1500) (h7 : gP σ th 7 = some J) (kJ : kO σ J 4) (h8 : gP σ th 8 = some o) (ko : kO σ o 5) (hJq : gq J = q) (hq : q ≠ nc 0 ∧ q ≤ 1) (go : gq o = 16 * q + c) (hc : c < 16) (cJ : gI σ J 1 = (c : Int)) (tf : gI σ th 5 ≤ gI σ th 2 ∧ (gI σ th 3 ≠ 0 → gI σ th 5 + 1 ≤ gI σ th 2)) (h5 : nu 5 < 24000) (lp : gI σ J 7 ≤ 2 * gI σ th 5) (f0 : gI σ o 3 = 0 ∧ gI σ o 4 = 0 ∧ gI σ o 7 = -1 ∧ gI σ o 8 = -1) (hk : v1 = 6 ∨ v1 = 7) {Q : Sg → Unit → Prop} {X : Sg → String → Prop} (hQ : ∀ (σ' : Sg) (r : Unit), IV σ' pl gq ci gr nc ot LL N nu → Fx [323, 326, 327, 328, 333, 334, 335, 336, 386, 387, 388, 389, 390, 6464] gr σ σ' → OX o σ σ' → ((gI σ' th 5 ≤ gI σ' th 2 ∧ (gI σ' th 3 ≠ 0 → gI σ' th 5 + 1 ≤ gI σ' th 2)) ∧ gI σ' J 7 ≤ 2 * gI σ' th 5 ∧ OPR σ σ' gq q c o) → Q σ' r) (hX : ∀ (σ' : Sg) (LL' : Nat → List Nat) (N' nu' : Nat → Nat) (E : String), IV σ' pl gq ci gr nc ot LL' N' nu' → Fx [323, 326, 327, 328, 333, 334, 335, 336, 386, 387, 388, 389, 390, 6464] gr σ σ' → NCX nu nu' → (LL' = LL ∧ N' = N ∧ E = "java/lang/IllegalArgumentException" ∧ gI σ' th 6 ≠ 0) → X σ' E) : wp_X6_pairText th v1 σ Q X := by
  have fσ : Fx [323, 326, 327, 328, 333, 334, 335, 336, 386, 387, 388, 389, 390, 6464] gr σ σ := Fx.rf
  have oxσ : OX o σ σ := OX.rf
  have q1 := I_4_1 iσ.1 kJ
  have q2 := I_6_5 iσ.1 kth
  have q3 := I_6_2 iσ.1 kth
  have q4 := iσ.rg th 3; unfold rng at q4
  have q5 := I_4_7 iσ.1 kJ
  have q6 := I_5_3 iσ.1 ko
  have q7 := I_5_4 iσ.1 ko
  have q8 := I_5_7 iσ.1 ko
  have q9 := I_5_8 iσ.1 ko
  have ncb := iσ.ncb
  have r70 := I_4_7 iσ.1 kJ
  have r71 := I_4_1 iσ.1 kJ
  unfold wp_X6_pairText
  unfold w_X6_pairText_0
  refine i_X6_next iσ kth hX0 kX (((Ext.rfl' _) tx kX.1).2.2.trans gX) (by (first | omega | with_reducible assumption | with_reducible exact rng_toInt _ | with_reducible exact rng_wr _ | (unfold rng; omega) | (unfold rng at *; omega) | assumption)) (by (first | omega | with_reducible assumption | with_reducible exact rng_toInt _ | with_reducible exact rng_wr _ | (unfold rng; omega) | (unfold rng at *; omega) | assumption)) (fun σ49 _ iσ49 cσ49 pσ49 => ?_) (fun σx LLx Nx nux E ix cx ux px => hX σx LLx Nx nux E ix (fσ.tr (cx.mo (by decide))) (ux) (by first | exact px | exact ⟨by have := px.1; omega, px.2⟩ | (first | omega | with_reducible assumption | with_reducible exact rng_toInt _ | with_reducible exact rng_wr _ | (unfold rng; omega) | (unfold rng at *; omega) | assumption)))
  intro xσ49
  have fσ49 : Fx [323, 326, 327, 328, 333, 334, 335, 336, 386, 387, 388, 389, 390, 6464] gr σ σ49 := fσ.tr (cσ49.mo (by decide))
  have oxcσ49 : OX o σ σ49 := oxσ.tr (OX.fx cσ49 (by decide) (by decide)) (Ext.rfl' _)
  have kp10 : Kpt (gI σ49 J 1 = gI σ J 1) := (show gI σ49 J 1 = gI σ J 1 from (cσ49.O kJ (by decide)).1)
  have kp11 : Kpt (gI σ49 J 7 = gI σ J 7) := (show gI σ49 J 7 = gI σ J 7 from (cσ49.O kJ (by decide)).1)
  have kp12 : Kpt (gI σ49 o 3 = gI σ o 3) := (show gI σ49 o 3 = gI σ o 3 from (cσ49.O ko (by decide)).1)
  have kp13 : Kpt (gI σ49 o 4 = gI σ o 4) := (show gI σ49 o 4 = gI σ o 4 from (cσ49.O ko (by decide)).1)
  have kp14 : Kpt (gI σ49 o 7 = gI σ o 7) := (show gI σ49 o 7 = gI σ o 7 from (cσ49.O ko (by decide)).1)
  have kp15 : Kpt (gI σ49 o 8 = gI σ o 8) := (show gI σ49 o 8 = gI σ o 8 from (cσ49.O ko (by decide)).1)
  have kp16 : gP σ49 th 0 = gP σ th 0 := (cσ49.O kth (by decide)).2.1
  have kp17 : gP σ49 th 7 = gP σ th 7 := (cσ49.O kth (by decide)).2.1
  have kp18 : gP σ49 th 8 = gP σ th 8 := (cσ49.O kth (by decide)).2.1
  have kp19 : Kpt (gI σ49 J 2 = gI σ J 2) := (show gI σ49 J 2 = gI σ J 2 from (cσ49.O kJ (by decide)).1)
  have kp20 : Kpt (gI σ49 o 6 = gI σ o 6) := (show gI σ49 o 6 = gI σ o 6 from (cσ49.O ko (by decide)).1)
  have kp21 : Kpt (gI σ49 o 9 = gI σ o 9) := (show gI σ49 o 9 = gI σ o 9 from (cσ49.O ko (by decide)).1)
  have r5σ49 := I_6_5 iσ49.1 (kth.up xσ49)
  have ho22 : gI σ49 J 7 = gI σ J 7 := kp11
  have cp23 : (gI σ49 th 5 ≤ gI σ49 th 2 ∧ (gI σ49 th 3 ≠ 0 → gI σ49 th 5 + 1 ≤ gI σ49 th 2)) ∧ gI σ49 J 7 ≤ 2 * gI σ49 th 5 ∧ 0 ≤ gI σ49 th 5 := by omega
  clear pσ49 q3 q2
  have ho24 : gI σ49 J 1 = gI σ J 1 := kp10
  refine i_X6_firstInput iσ49 (kth.up xσ49) (kp17.trans h7) (kJ.up xσ49) (kp18.trans h8) (ko.up xσ49) (by (first | omega | with_reducible assumption | with_reducible exact rng_toInt _ | with_reducible exact rng_wr _ | (unfold rng; omega) | (unfold rng at *; omega) | assumption)) (by (first | omega | with_reducible assumption | with_reducible exact rng_toInt _ | with_reducible exact rng_wr _ | (unfold rng; omega) | (unfold rng at *; omega) | assumption)) (by (first | omega | with_reducible assumption | with_reducible exact rng_toInt _ | with_reducible exact rng_wr _ | (unfold rng; omega) | (unfold rng at *; omega) | assumption)) (by (first | omega | with_reducible assumption | with_reducible exact rng_toInt _ | with_reducible exact rng_wr _ | (unfold rng; omega) | (unfold rng at *; omega) | assumption)) (by (first | omega | with_reducible assumption | with_reducible exact rng_toInt _ | with_reducible exact rng_wr _ | (unfold rng; omega) | (unfold rng at *; omega) | assumption)) (by (first | omega | with_reducible assumption | with_reducible exact rng_toInt _ | with_reducible exact rng_wr _ | (unfold rng; omega) | (unfold rng at *; omega) | assumption)) (fun σ50 _ iσ50 cσ50 oxσ50 pσ50 => ?_) (fun σx LLx Nx nux E ix cx ux px => hX σx LLx Nx nux E ix (fσ49.tr (cx.mo (by decide))) (ux) (by first | exact px | exact ⟨by have := px.1; omega, px.2⟩ | (first | omega | with_reducible assumption | with_reducible exact rng_toInt _ | with_reducible exact rng_wr _ | (unfold rng; omega) | (unfold rng at *; omega) | assumption)))
  intro xσ50
  have fσ50 : Fx [323, 326, 327, 328, 333, 334, 335, 336, 386, 387, 388, 389, 390, 6464] gr σ σ50 := fσ49.tr (cσ50.mo (by decide))
  have oxcσ50 : OX o σ σ50 := oxcσ49.tr oxσ50 (xσ49)
  have kp25 : gP σ50 th 0 = gP σ49 th 0 := (cσ50.O (kth.up xσ49) (by decide)).2.1
  have kp26 : gP σ50 th 7 = gP σ49 th 7 := (cσ50.O (kth.up xσ49) (by decide)).2.1
  have kp27 : gP σ50 th 8 = gP σ49 th 8 := (cσ50.O (kth.up xσ49) (by decide)).2.1
  have kp28 : gI σ50 th 2 = gI σ49 th 2 := (cσ50.O (kth.up xσ49) (by decide)).1
  have kp29 : gI σ50 th 3 = gI σ49 th 3 := (cσ50.O (kth.up xσ49) (by decide)).1
  have kp30 : gI σ50 th 5 = gI σ49 th 5 := (cσ50.O (kth.up xσ49) (by decide)).1
  have kp31 : Kpt (gI σ50 J 7 = gI σ J 7) := Eq.trans (show gI σ50 J 7 = gI σ49 J 7 from (cσ50.O (kJ.up xσ49) (by decide)).1) kp11
  have kp32 : Kpt (gI σ50 J 1 = gI σ J 1) := Eq.trans (show gI σ50 J 1 = gI σ49 J 1 from (cσ50.O (kJ.up xσ49) (by decide)).1) kp10
  have kp33 : Kpt (gI σ50 J 2 = gI σ J 2) := Eq.trans (show gI σ50 J 2 = gI σ49 J 2 from (cσ50.O (kJ.up xσ49) (by decide)).1) kp19
  have kp34 : Kpt (gI σ50 o 3 = gI σ o 3) := Eq.trans (show gI σ50 o 3 = gI σ49 o 3 from (cσ50.O (ko.up xσ49) (by decide)).1) kp12
  have kp35 : Kpt (gI σ50 o 4 = gI σ o 4) := Eq.trans (show gI σ50 o 4 = gI σ49 o 4 from (cσ50.O (ko.up xσ49) (by decide)).1) kp13
  have kp36 : Kpt (gI σ50 o 8 = gI σ o 8) := Eq.trans (show gI σ50 o 8 = gI σ49 o 8 from (cσ50.O (ko.up xσ49) (by decide)).1) kp15
  have kp37 : Kpt (gI σ50 o 9 = gI σ o 9) := Eq.trans (show gI σ50 o 9 = gI σ49 o 9 from (cσ50.O (ko.up xσ49) (by decide)).1) kp21
  refine i_X6_next iσ50 (kth.up (xσ49.trans xσ50)) (kp25.trans (kp16.trans hX0)) (kX.up (xσ49.trans xσ50)) (((xσ49.trans xσ50) tx kX.1).2.2.trans gX) (by (first | omega | with_reducible assumption | with_reducible exact rng_toInt _ | with_reducible exact rng_wr _ | (unfold rng; omega) | (unfold rng at *; omega) | assumption)) (by (first | omega | with_reducible assumption | with_reducible exact rng_toInt _ | with_reducible exact rng_wr _ | (unfold rng; omega) | (unfold rng at *; omega) | assumption)) (fun σ51 _ iσ51 cσ51 pσ51 => ?_) (fun σx LLx Nx nux E ix cx ux px => hX σx LLx Nx nux E ix (fσ50.tr (cx.mo (by decide))) (ux) (by first | exact px | exact ⟨by have := px.1; omega, px.2⟩ | (first | omega | with_reducible assumption | with_reducible exact rng_toInt _ | with_reducible exact rng_wr _ | (unfold rng; omega) | (unfold rng at *; omega) | assumption)))
  intro xσ51
  have fσ51 : Fx [323, 326, 327, 328, 333, 334, 335, 336, 386, 387, 388, 389, 390, 6464] gr σ σ51 := fσ50.tr (cσ51.mo (by decide))
  have oxcσ51 : OX o σ σ51 := oxcσ50.tr (OX.fx cσ51 (by decide) (by decide)) (xσ49.trans xσ50)
  have kp38 : gP σ51 th 0 = gP σ50 th 0 := (cσ51.O (kth.up (xσ49.trans xσ50)) (by decide)).2.1
  have kp39 : gP σ51 th 7 = gP σ50 th 7 := (cσ51.O (kth.up (xσ49.trans xσ50)) (by decide)).2.1
  have kp40 : gP σ51 th 8 = gP σ50 th 8 := (cσ51.O (kth.up (xσ49.trans xσ50)) (by decide)).2.1
  have kp41 : Kpt (gI σ51 J 7 = gI σ J 7) := Eq.trans (show gI σ51 J 7 = gI σ50 J 7 from (cσ51.O (kJ.up (xσ49.trans xσ50)) (by decide)).1) kp31
  have kp42 : Kpt (gI σ51 J 1 = gI σ J 1) := Eq.trans (show gI σ51 J 1 = gI σ50 J 1 from (cσ51.O (kJ.up (xσ49.trans xσ50)) (by decide)).1) kp32
  have kp43 : Kpt (gI σ51 J 2 = gI σ J 2) := Eq.trans (show gI σ51 J 2 = gI σ50 J 2 from (cσ51.O (kJ.up (xσ49.trans xσ50)) (by decide)).1) kp33
  have kp44 : Kpt (gI σ51 o 3 = gI σ o 3) := Eq.trans (show gI σ51 o 3 = gI σ50 o 3 from (cσ51.O (ko.up (xσ49.trans xσ50)) (by decide)).1) kp34
  have kp45 : Kpt (gI σ51 o 4 = gI σ o 4) := Eq.trans (show gI σ51 o 4 = gI σ50 o 4 from (cσ51.O (ko.up (xσ49.trans xσ50)) (by decide)).1) kp35
  have kp46 : Kpt (gI σ51 o 6 = gI σ50 o 6) := (show gI σ51 o 6 = gI σ50 o 6 from (cσ51.O (ko.up (xσ49.trans xσ50)) (by decide)).1)
  have kp47 : Kpt (gI σ51 o 7 = gI σ50 o 7) := (show gI σ51 o 7 = gI σ50 o 7 from (cσ51.O (ko.up (xσ49.trans xσ50)) (by decide)).1)
  have kp48 : Kpt (gI σ51 o 8 = gI σ o 8) := Eq.trans (show gI σ51 o 8 = gI σ50 o 8 from (cσ51.O (ko.up (xσ49.trans xσ50)) (by decide)).1) kp36
  have kp49 : Kpt (gI σ51 o 9 = gI σ o 9) := Eq.trans (show gI σ51 o 9 = gI σ50 o 9 from (cσ51.O (ko.up (xσ49.trans xσ50)) (by decide)).1) kp37
  have r5σ51 := I_6_5 iσ51.1 (kth.up (xσ49.trans (xσ50.trans xσ51)))
  have ho50 : gI σ51 J 7 = gI σ J 7 := kp41
  have cp51 : (gI σ51 th 5 ≤ gI σ51 th 2 ∧ (gI σ51 th 3 ≠ 0 → gI σ51 th 5 + 1 ≤ gI σ51 th 2)) ∧ gI σ51 J 7 ≤ 2 * gI σ51 th 5 ∧ 0 ≤ gI σ51 th 5 := by omega
  clear pσ51 kp30 kp29 kp28 cp23
  refine ⟨J, (kp39.trans (kp26.trans (kp17.trans h7))), fun kk_J => ?_⟩
  refine ⟨o, (kp40.trans (kp27.trans (kp18.trans h8))), fun kk_o => ?_⟩
  obtain ⟨b, eb, fb⟩ := P_4_0 iσ51.1 (kJ.up (xσ49.trans (xσ50.trans xσ51)))
  have mb : kO σ51 b 115 := iσ51.1.kd (kJ.up (xσ49.trans (xσ50.trans xσ51))) rfl eb rfl
  refine ⟨b, eb, fun kk_b => ?_⟩
  have ho52 : gI σ51 o 7 = gI σ50 o 7 := kp47
  have q53 := I_5_7 iσ51.1 (ko.up (xσ49.trans (xσ50.trans xσ51)))
  refine ⟨⟨by (first | omega | with_reducible assumption | with_reducible exact rng_toInt _ | with_reducible exact rng_wr _ | (unfold rng; omega) | (unfold rng at *; omega) | assumption), by (first | omega | with_reducible assumption | with_reducible exact rng_toInt _ | with_reducible exact rng_wr _ | (unfold rng; omega) | (unfold rng at *; omega) | assumption)⟩, ?_⟩
  have ho54 : gI σ51 J 1 = gI σ J 1 := kp42
  refine i_X6_input iσ51 (kth.up (xσ49.trans (xσ50.trans xσ51))) (kp39.trans (kp26.trans (kp17.trans h7))) (kJ.up (xσ49.trans (xσ50.trans xσ51))) (by (first | omega | with_reducible assumption | with_reducible exact rng_toInt _ | with_reducible exact rng_wr _ | (unfold rng; omega) | (unfold rng at *; omega) | assumption)) (fun σ55 r56 iσ55 cσ55 pσ55 => ?_) (fun σx LLx Nx nux E ix cx ux px => hX σx LLx Nx nux E ix (fσ51.tr (cx.mo (by decide))) (ux) (by first | exact px | exact ⟨by have := px.1; omega, px.2⟩ | (first | omega | with_reducible assumption | with_reducible exact rng_toInt _ | with_reducible exact rng_wr _ | (unfold rng; omega) | (unfold rng at *; omega) | assumption)))
  intro xσ55
  have fσ55 : Fx [323, 326, 327, 328, 333, 334, 335, 336, 386, 387, 388, 389, 390, 6464] gr σ σ55 := fσ51.tr (cσ55.mo (by decide))
  have oxcσ55 : OX o σ σ55 := oxcσ51.tr (OX.fx cσ55 (by decide) (by decide)) (xσ49.trans (xσ50.trans xσ51))
  have kp55 : Kpt (gI σ55 o 7 = gI σ50 o 7) := Eq.trans (show gI σ55 o 7 = gI σ51 o 7 from (cσ55.O (ko.up (xσ49.trans (xσ50.trans xσ51))) (by decide)).1) kp47
  have kp56 : gP σ55 J 0 = gP σ51 J 0 := (cσ55.O (kJ.up (xσ49.trans (xσ50.trans xσ51))) (by decide)).2.1
  have kp57 : gP σ55 th 0 = gP σ51 th 0 := (cσ55.O (kth.up (xσ49.trans (xσ50.trans xσ51))) (by decide)).2.1
  have kp58 : gP σ55 th 7 = gP σ51 th 7 := (cσ55.O (kth.up (xσ49.trans (xσ50.trans xσ51))) (by decide)).2.1
  have kp59 : gP σ55 th 8 = gP σ51 th 8 := (cσ55.O (kth.up (xσ49.trans (xσ50.trans xσ51))) (by decide)).2.1
  have kp60 : gI σ55 th 2 = gI σ51 th 2 := (cσ55.O (kth.up (xσ49.trans (xσ50.trans xσ51))) (by decide)).1
  have kp61 : gI σ55 th 3 = gI σ51 th 3 := (cσ55.O (kth.up (xσ49.trans (xσ50.trans xσ51))) (by decide)).1
  have kp62 : gI σ55 th 5 = gI σ51 th 5 := (cσ55.O (kth.up (xσ49.trans (xσ50.trans xσ51))) (by decide)).1
  have kp63 : Kpt (gI σ55 J 7 = gI σ J 7) := Eq.trans (show gI σ55 J 7 = gI σ51 J 7 from (cσ55.O (kJ.up (xσ49.trans (xσ50.trans xσ51))) (by decide)).1) kp41
  have kp64 : Kpt (gI σ55 J 1 = gI σ J 1) := Eq.trans (show gI σ55 J 1 = gI σ51 J 1 from (cσ55.O (kJ.up (xσ49.trans (xσ50.trans xσ51))) (by decide)).1) kp42
  have kp65 : Kpt (gI σ55 J 2 = gI σ J 2) := Eq.trans (show gI σ55 J 2 = gI σ51 J 2 from (cσ55.O (kJ.up (xσ49.trans (xσ50.trans xσ51))) (by decide)).1) kp43
  have kp66 : Kpt (gI σ55 o 3 = gI σ o 3) := Eq.trans (show gI σ55 o 3 = gI σ51 o 3 from (cσ55.O (ko.up (xσ49.trans (xσ50.trans xσ51))) (by decide)).1) kp44
  have kp67 : Kpt (gI σ55 o 4 = gI σ o 4) := Eq.trans (show gI σ55 o 4 = gI σ51 o 4 from (cσ55.O (ko.up (xσ49.trans (xσ50.trans xσ51))) (by decide)).1) kp45
  have kp68 : Kpt (gI σ55 o 6 = gI σ50 o 6) := Eq.trans (show gI σ55 o 6 = gI σ51 o 6 from (cσ55.O (ko.up (xσ49.trans (xσ50.trans xσ51))) (by decide)).1) kp46
  have kp69 : Kpt (gI σ55 o 8 = gI σ o 8) := Eq.trans (show gI σ55 o 8 = gI σ51 o 8 from (cσ55.O (ko.up (xσ49.trans (xσ50.trans xσ51))) (by decide)).1) kp48
  have kp70 : Kpt (gI σ55 o 9 = gI σ o 9) := Eq.trans (show gI σ55 o 9 = gI σ51 o 9 from (cσ55.O (ko.up (xσ49.trans (xσ50.trans xσ51))) (by decide)).1) kp49
  intro σ57 eσ57
  have xσ57 : Ext σ55 σ57 := by rw [eσ57]; exact fun _ h => ⟨h, rfl, rfl⟩
  have iσ57 : IV σ57 pl gq ci gr nc ot LL N nu := by rw [eσ57]; exact iσ55.wSp (ko.up (xσ49.trans (xσ50.trans (xσ51.trans xσ55)))) (fun i hi => by omega) (by decide) (show (-1 : Int) ≤ r56 ∧ r56 ≤ 15 from ⟨by omega, by omega⟩)
  have fσ57 : Fx [323, 326, 327, 328, 333, 334, 335, 336, 386, 387, 388, 389, 390, 6464] gr σ σ57 := fσ55.tr (Sk.fx (by rw [eσ57]; exact Sk.pI (by rw [fcdO (ko.up (xσ49.trans (xσ50.trans (xσ51.trans xσ55)))) (by decide)]; decide)))
  have oxcσ57 : OX o σ σ57 := oxcσ55.tr (by rw [eσ57]; exact OX.pI (ko.up (xσ49.trans (xσ50.trans (xσ51.trans xσ55)))) (Or.inr rfl)) (xσ49.trans (xσ50.trans (xσ51.trans xσ55)))
  have wσ57 : gI σ57 o 8 = r56 := by rw [eσ57]; exact up2_s _ _ _ _
  have kp71 : gP σ57 J 0 = gP σ55 J 0 := by rw [eσ57]
  have kp72 : gP σ57 th 0 = gP σ55 th 0 := by rw [eσ57]
  have kp73 : gP σ57 th 7 = gP σ55 th 7 := by rw [eσ57]
  have kp74 : gP σ57 th 8 = gP σ55 th 8 := by rw [eσ57]
  have kp75 : gI σ57 th 2 = gI σ55 th 2 := by rw [eσ57]; exact up2_n _ _ (fun q => absurd q.2 (by decide))
  have kp76 : gI σ57 th 3 = gI σ55 th 3 := by rw [eσ57]; exact up2_n _ _ (fun q => absurd q.2 (by decide))
  have kp77 : gI σ57 th 5 = gI σ55 th 5 := by rw [eσ57]; exact up2_n _ _ (fun q => absurd q.2 (by decide))
  have kp78 : Kpt (gI σ57 J 7 = gI σ J 7) := Eq.trans (show gI σ57 J 7 = gI σ55 J 7 from by rw [eσ57]; exact up2_n _ _ (fun q => absurd q.2 (by decide))) kp63
  have kp79 : Kpt (gI σ57 J 1 = gI σ J 1) := Eq.trans (show gI σ57 J 1 = gI σ55 J 1 from by rw [eσ57]; exact up2_n _ _ (fun q => absurd q.2 (by decide))) kp64
  have kp80 : Kpt (gI σ57 J 2 = gI σ J 2) := Eq.trans (show gI σ57 J 2 = gI σ55 J 2 from by rw [eσ57]; exact up2_n _ _ (fun q => absurd q.2 (by decide))) kp65
  have kp81 : Kpt (gI σ57 o 3 = gI σ o 3) := Eq.trans (show gI σ57 o 3 = gI σ55 o 3 from by rw [eσ57]; exact up2_n _ _ (fun q => absurd q.2 (by decide))) kp66
  have kp82 : Kpt (gI σ57 o 4 = gI σ o 4) := Eq.trans (show gI σ57 o 4 = gI σ55 o 4 from by rw [eσ57]; exact up2_n _ _ (fun q => absurd q.2 (by decide))) kp67
  have kp83 : Kpt (gI σ57 o 6 = gI σ50 o 6) := Eq.trans (show gI σ57 o 6 = gI σ55 o 6 from by rw [eσ57]; exact up2_n _ _ (fun q => absurd q.2 (by decide))) kp68
  have kp84 : Kpt (gI σ57 o 7 = gI σ50 o 7) := Eq.trans (show gI σ57 o 7 = gI σ55 o 7 from by rw [eσ57]; exact up2_n _ _ (fun q => absurd q.2 (by decide))) kp55
  have kp85 : Kpt (gI σ57 o 9 = gI σ o 9) := Eq.trans (show gI σ57 o 9 = gI σ55 o 9 from by rw [eσ57]; exact up2_n _ _ (fun q => absurd q.2 (by decide))) kp70
  refine ⟨J, (kp73.trans (kp58.trans (kp39.trans (kp26.trans (kp17.trans h7))))), fun kk_J_1 => ?_⟩
  refine ⟨o, (kp74.trans (kp59.trans (kp40.trans (kp27.trans (kp18.trans h8))))), fun kk_o_1 => ?_⟩
  refine ⟨b, (kp71.trans (kp56.trans eb)), fun kk_b_1 => ?_⟩
  have q86 := ((xσ55.trans xσ57) b mb.1).2.2
  refine ⟨⟨by (first | omega | with_reducible assumption | with_reducible exact rng_toInt _ | with_reducible exact rng_wr _ | (unfold rng; omega) | (unfold rng at *; omega) | assumption), by (first | omega | with_reducible assumption | with_reducible exact rng_toInt _ | with_reducible exact rng_wr _ | (unfold rng; omega) | (unfold rng at *; omega) | assumption)⟩, ?_⟩
  obtain ⟨b_1, eb_1⟩ := P_115 iσ51.1 mb (k := (gI σ51 o 7).toNat) (by (first | omega | with_reducible assumption | with_reducible exact rng_toInt _ | with_reducible exact rng_wr _ | (unfold rng; omega) | (unfold rng at *; omega) | assumption))
  have fb_1 := T_115 iσ51.1 mb eb_1
  have mb_1 : kO σ51 b_1 5 := iσ51.1.kd mb rfl eb_1 rfl
  refine ⟨b_1, eb_1, fun kk_b_1_1 => ?_⟩
  obtain ⟨b_2, eb_2⟩ := P_115 iσ57.1 (mb.up (xσ55.trans xσ57)) (k := (gI σ57 o 8).toNat) (by (first | omega | with_reducible assumption | with_reducible exact rng_toInt _ | with_reducible exact rng_wr _ | (unfold rng; omega) | (unfold rng at *; omega) | assumption))
  have fb_2 := T_115 iσ57.1 (mb.up (xσ55.trans xσ57)) eb_2
  have mb_2 : kO σ57 b_2 5 := iσ57.1.kd (mb.up (xσ55.trans xσ57)) rfl eb_2 rfl
  refine i_X5_sharesColumnWith iσ57 (mb_1.up (xσ55.trans xσ57)) eb_2 mb_2 (fun r62 pσ61 => ?_)
  intro xσ61
  have ho87 : gI σ57 J 7 = gI σ J 7 := kp78
  have ho88 : gI σ57 J 1 = gI σ J 1 := kp79
  have ho89 : gI σ57 J 2 = gI σ J 2 := kp80
  have ho90 : gI σ57 o 3 = gI σ o 3 := kp81
  have ho91 : gI σ57 o 4 = gI σ o 4 := kp82
  have ho92 : gI σ57 o 6 = gI σ50 o 6 := kp83
  have ho93 : gI σ57 o 7 = gI σ50 o 7 := kp84
  have ho94 : gI σ57 o 9 = gI σ o 9 := kp85
  have wf : ∀ a, kO σ a 5 → gq a = 16 * q + (gI σ57 o 7).toNat → gI σ a 3 = gI σ57 b_1 3 := fun a ka ga => by have e9 := iσ57.unq (ka.up fσ57.1) (mb_1.up (xσ55.trans xσ57)) rfl rfl (by omega); subst e9; exact (oxcσ57 _ ka (fun e => absurd (congrArg gq e) (by omega)) 3).symm
  have r63 := I_5_3 iσ57.1 (mb_1.up (xσ55.trans xσ57))
  by_cases hc95 : r62 = 0
  · rw [if_pos hc95]
    unfold w_X6_pairText_70
    refine ⟨b_1, eb_1, fun kk_b_1_2 => ?_⟩
    refine ⟨b_2, eb_2, fun kk_b_2 => ?_⟩
    have q96 := I_5_3 iσ57.1 (mb_1.up (xσ55.trans xσ57))
    have q97 := I_5_3 iσ57.1 mb_2
    refine ⟨by (first | omega | with_reducible assumption | with_reducible exact rng_toInt _ | with_reducible exact rng_wr _ | (unfold rng; omega) | (unfold rng at *; omega) | assumption), ?_⟩
    by_cases hc98 : (gI σ57 b_1 3 + gI σ57 b_2 3) ≤ 8
    · rw [if_pos hc98]
      unfold w_X6_pairText_90
      refine ⟨o, (kp74.trans (kp59.trans (kp40.trans (kp27.trans (kp18.trans h8))))), fun kk_o_2 => ?_⟩
      refine i_X5_addColumnsOf iσ57 (ko.up (xσ49.trans (xσ50.trans (xσ51.trans (xσ55.trans xσ57))))) eb_1 (mb_1.up (xσ55.trans xσ57)) (by (first | omega | with_reducible assumption | with_reducible exact rng_toInt _ | with_reducible exact rng_wr _ | (unfold rng; omega) | (unfold rng at *; omega) | assumption)) (by (first | omega | with_reducible assumption | with_reducible exact rng_toInt _ | with_reducible exact rng_wr _ | (unfold rng; omega) | (unfold rng at *; omega) | assumption)) (by (first | omega | with_reducible assumption | with_reducible exact rng_toInt _ | with_reducible exact rng_wr _ | (unfold rng; omega) | (unfold rng at *; omega) | assumption)) (fun e => absurd (congrArg gq e) (by omega)) (fun σ68 _ iσ68 cσ68 oxσ68 pσ68 => ?_)
      intro xσ68
      have fσ68 : Fx [323, 326, 327, 328, 333, 334, 335, 336, 386, 387, 388, 389, 390, 6464] gr σ σ68 := fσ57.tr (cσ68.mo (by decide))
      have oxcσ68 : OX o σ σ68 := oxcσ57.tr oxσ68 (xσ49.trans (xσ50.trans (xσ51.trans (xσ55.trans xσ57))))
      have kp99 : Kpt (gI σ68 o 8 = gI σ57 o 8) := (show gI σ68 o 8 = gI σ57 o 8 from (cσ68.O (ko.up (xσ49.trans (xσ50.trans (xσ51.trans (xσ55.trans xσ57))))) (by decide)).1)
      have kp100 : gP σ68 J 0 = gP σ57 J 0 := (cσ68.O (kJ.up (xσ49.trans (xσ50.trans (xσ51.trans (xσ55.trans xσ57))))) (by decide)).2.1
      have kp101 : gP σ68 b (gI σ57 o 8).toNat = gP σ57 b (gI σ57 o 8).toNat := (cσ68.A (mb.up (xσ55.trans xσ57)) (by decide)).2.1
      have kp102 : gP σ68 th 0 = gP σ57 th 0 := (cσ68.O (kth.up (xσ49.trans (xσ50.trans (xσ51.trans (xσ55.trans xσ57))))) (by decide)).2.1
      have kp103 : gP σ68 th 7 = gP σ57 th 7 := (cσ68.O (kth.up (xσ49.trans (xσ50.trans (xσ51.trans (xσ55.trans xσ57))))) (by decide)).2.1
      have kp104 : gP σ68 th 8 = gP σ57 th 8 := (cσ68.O (kth.up (xσ49.trans (xσ50.trans (xσ51.trans (xσ55.trans xσ57))))) (by decide)).2.1
      have kp105 : gI σ68 th 2 = gI σ57 th 2 := (cσ68.O (kth.up (xσ49.trans (xσ50.trans (xσ51.trans (xσ55.trans xσ57))))) (by decide)).1
      have kp106 : gI σ68 th 3 = gI σ57 th 3 := (cσ68.O (kth.up (xσ49.trans (xσ50.trans (xσ51.trans (xσ55.trans xσ57))))) (by decide)).1
      have kp107 : gI σ68 th 5 = gI σ57 th 5 := (cσ68.O (kth.up (xσ49.trans (xσ50.trans (xσ51.trans (xσ55.trans xσ57))))) (by decide)).1
      have kp108 : Kpt (gI σ68 J 7 = gI σ J 7) := Eq.trans (show gI σ68 J 7 = gI σ57 J 7 from (cσ68.O (kJ.up (xσ49.trans (xσ50.trans (xσ51.trans (xσ55.trans xσ57))))) (by decide)).1) kp78
      have kp109 : Kpt (gI σ68 J 1 = gI σ J 1) := Eq.trans (show gI σ68 J 1 = gI σ57 J 1 from (cσ68.O (kJ.up (xσ49.trans (xσ50.trans (xσ51.trans (xσ55.trans xσ57))))) (by decide)).1) kp79
      have kp110 : Kpt (gI σ68 J 2 = gI σ J 2) := Eq.trans (show gI σ68 J 2 = gI σ57 J 2 from (cσ68.O (kJ.up (xσ49.trans (xσ50.trans (xσ51.trans (xσ55.trans xσ57))))) (by decide)).1) kp80
      have kp111 : Kpt (gI σ68 o 4 = gI σ o 4) := Eq.trans (show gI σ68 o 4 = gI σ57 o 4 from (cσ68.O (ko.up (xσ49.trans (xσ50.trans (xσ51.trans (xσ55.trans xσ57))))) (by decide)).1) kp82
      have kp112 : Kpt (gI σ68 o 6 = gI σ50 o 6) := Eq.trans (show gI σ68 o 6 = gI σ57 o 6 from (cσ68.O (ko.up (xσ49.trans (xσ50.trans (xσ51.trans (xσ55.trans xσ57))))) (by decide)).1) kp83
      have kp113 : Kpt (gI σ68 o 7 = gI σ50 o 7) := Eq.trans (show gI σ68 o 7 = gI σ57 o 7 from (cσ68.O (ko.up (xσ49.trans (xσ50.trans (xσ51.trans (xσ55.trans xσ57))))) (by decide)).1) kp84
      have kp114 : Kpt (gI σ68 o 9 = gI σ o 9) := Eq.trans (show gI σ68 o 9 = gI σ57 o 9 from (cσ68.O (ko.up (xσ49.trans (xσ50.trans (xσ51.trans (xσ55.trans xσ57))))) (by decide)).1) kp85
      refine ⟨o, (kp104.trans (kp74.trans (kp59.trans (kp40.trans (kp27.trans (kp18.trans h8)))))), fun kk_o_3 => ?_⟩
      have ho115 : gI σ68 o 8 = gI σ57 o 8 := kp99
      have ho116 : gI σ68 J 7 = gI σ J 7 := kp108
      have ho117 : gI σ68 J 1 = gI σ J 1 := kp109
      have ho118 : gI σ68 J 2 = gI σ J 2 := kp110
      have ho119 : gI σ68 o 4 = gI σ o 4 := kp111
      have ho120 : gI σ68 o 6 = gI σ50 o 6 := kp112
      have ho121 : gI σ68 o 7 = gI σ50 o 7 := kp113
      have ho122 : gI σ68 o 9 = gI σ o 9 := kp114
      refine i_X5_addColumnsOf iσ68 (ko.up (xσ49.trans (xσ50.trans (xσ51.trans (xσ55.trans (xσ57.trans xσ68)))))) eb_2 (mb_2.up xσ68) (by (first | omega | with_reducible assumption | with_reducible exact rng_toInt _ | with_reducible exact rng_wr _ | (unfold rng; omega) | (unfold rng at *; omega) | assumption)) (by (first | omega | with_reducible assumption | with_reducible exact rng_toInt _ | with_reducible exact rng_wr _ | (unfold rng; omega) | (unfold rng at *; omega) | assumption)) (by (first | omega | with_reducible assumption | with_reducible exact rng_toInt _ | with_reducible exact rng_wr _ | (unfold rng; omega) | (unfold rng at *; omega) | assumption)) (fun e => absurd (congrArg gq e) (by omega)) (fun σ70 _ iσ70 cσ70 oxσ70 pσ70 => ?_)
      intro xσ70
      have fσ70 : Fx [323, 326, 327, 328, 333, 334, 335, 336, 386, 387, 388, 389, 390, 6464] gr σ σ70 := fσ68.tr (cσ70.mo (by decide))
      have oxcσ70 : OX o σ σ70 := oxcσ68.tr oxσ70 (xσ49.trans (xσ50.trans (xσ51.trans (xσ55.trans (xσ57.trans xσ68)))))
      have kp123 : gP σ70 J 0 = gP σ68 J 0 := (cσ70.O (kJ.up (xσ49.trans (xσ50.trans (xσ51.trans (xσ55.trans (xσ57.trans xσ68)))))) (by decide)).2.1
      have kp124 : gP σ70 b (gI σ57 o 8).toNat = gP σ68 b (gI σ57 o 8).toNat := (cσ70.A (mb.up (xσ55.trans (xσ57.trans xσ68))) (by decide)).2.1
      have kp125 : gP σ70 th 0 = gP σ68 th 0 := (cσ70.O (kth.up (xσ49.trans (xσ50.trans (xσ51.trans (xσ55.trans (xσ57.trans xσ68)))))) (by decide)).2.1
      have kp126 : gP σ70 th 7 = gP σ68 th 7 := (cσ70.O (kth.up (xσ49.trans (xσ50.trans (xσ51.trans (xσ55.trans (xσ57.trans xσ68)))))) (by decide)).2.1
      have kp127 : gP σ70 th 8 = gP σ68 th 8 := (cσ70.O (kth.up (xσ49.trans (xσ50.trans (xσ51.trans (xσ55.trans (xσ57.trans xσ68)))))) (by decide)).2.1
      have kp128 : gI σ70 th 2 = gI σ68 th 2 := (cσ70.O (kth.up (xσ49.trans (xσ50.trans (xσ51.trans (xσ55.trans (xσ57.trans xσ68)))))) (by decide)).1
      have kp129 : gI σ70 th 3 = gI σ68 th 3 := (cσ70.O (kth.up (xσ49.trans (xσ50.trans (xσ51.trans (xσ55.trans (xσ57.trans xσ68)))))) (by decide)).1
      have kp130 : gI σ70 th 5 = gI σ68 th 5 := (cσ70.O (kth.up (xσ49.trans (xσ50.trans (xσ51.trans (xσ55.trans (xσ57.trans xσ68)))))) (by decide)).1
      have kp131 : Kpt (gI σ70 J 7 = gI σ J 7) := Eq.trans (show gI σ70 J 7 = gI σ68 J 7 from (cσ70.O (kJ.up (xσ49.trans (xσ50.trans (xσ51.trans (xσ55.trans (xσ57.trans xσ68)))))) (by decide)).1) kp108
      have kp132 : Kpt (gI σ70 J 1 = gI σ J 1) := Eq.trans (show gI σ70 J 1 = gI σ68 J 1 from (cσ70.O (kJ.up (xσ49.trans (xσ50.trans (xσ51.trans (xσ55.trans (xσ57.trans xσ68)))))) (by decide)).1) kp109
      have kp133 : Kpt (gI σ70 J 2 = gI σ J 2) := Eq.trans (show gI σ70 J 2 = gI σ68 J 2 from (cσ70.O (kJ.up (xσ49.trans (xσ50.trans (xσ51.trans (xσ55.trans (xσ57.trans xσ68)))))) (by decide)).1) kp110
      have kp134 : Kpt (gI σ70 o 4 = gI σ o 4) := Eq.trans (show gI σ70 o 4 = gI σ68 o 4 from (cσ70.O (ko.up (xσ49.trans (xσ50.trans (xσ51.trans (xσ55.trans (xσ57.trans xσ68)))))) (by decide)).1) kp111
      have kp135 : Kpt (gI σ70 o 6 = gI σ50 o 6) := Eq.trans (show gI σ70 o 6 = gI σ68 o 6 from (cσ70.O (ko.up (xσ49.trans (xσ50.trans (xσ51.trans (xσ55.trans (xσ57.trans xσ68)))))) (by decide)).1) kp112
      have kp136 : Kpt (gI σ70 o 7 = gI σ50 o 7) := Eq.trans (show gI σ70 o 7 = gI σ68 o 7 from (cσ70.O (ko.up (xσ49.trans (xσ50.trans (xσ51.trans (xσ55.trans (xσ57.trans xσ68)))))) (by decide)).1) kp113
      have kp137 : Kpt (gI σ70 o 8 = gI σ57 o 8) := Eq.trans (show gI σ70 o 8 = gI σ68 o 8 from (cσ70.O (ko.up (xσ49.trans (xσ50.trans (xσ51.trans (xσ55.trans (xσ57.trans xσ68)))))) (by decide)).1) kp99
      have kp138 : Kpt (gI σ70 o 9 = gI σ o 9) := Eq.trans (show gI σ70 o 9 = gI σ68 o 9 from (cσ70.O (ko.up (xσ49.trans (xσ50.trans (xσ51.trans (xσ55.trans (xσ57.trans xσ68)))))) (by decide)).1) kp114
      refine i_X6_next iσ70 (kth.up (xσ49.trans (xσ50.trans (xσ51.trans (xσ55.trans (xσ57.trans (xσ68.trans xσ70))))))) (kp125.trans (kp102.trans (kp72.trans (kp57.trans (kp38.trans (kp25.trans (kp16.trans hX0))))))) (kX.up (xσ49.trans (xσ50.trans (xσ51.trans (xσ55.trans (xσ57.trans (xσ68.trans xσ70))))))) (((xσ49.trans (xσ50.trans (xσ51.trans (xσ55.trans (xσ57.trans (xσ68.trans xσ70)))))) tx kX.1).2.2.trans gX) (by (first | omega | with_reducible assumption | with_reducible exact rng_toInt _ | with_reducible exact rng_wr _ | (unfold rng; omega) | (unfold rng at *; omega) | assumption)) (by (first | omega | with_reducible assumption | with_reducible exact rng_toInt _ | with_reducible exact rng_wr _ | (unfold rng; omega) | (unfold rng at *; omega) | assumption)) (fun σ72 _ iσ72 cσ72 pσ72 => ?_) (fun σx LLx Nx nux E ix cx ux px => hX σx LLx Nx nux E ix (fσ70.tr (cx.mo (by decide))) (ux) (by first | exact px | exact ⟨by have := px.1; omega, px.2⟩ | (first | omega | with_reducible assumption | with_reducible exact rng_toInt _ | with_reducible exact rng_wr _ | (unfold rng; omega) | (unfold rng at *; omega) | assumption)))
      intro xσ72
      have fσ72 : Fx [323, 326, 327, 328, 333, 334, 335, 336, 386, 387, 388, 389, 390, 6464] gr σ σ72 := fσ70.tr (cσ72.mo (by decide))
      have oxcσ72 : OX o σ σ72 := oxcσ70.tr (OX.fx cσ72 (by decide) (by decide)) (xσ49.trans (xσ50.trans (xσ51.trans (xσ55.trans (xσ57.trans (xσ68.trans xσ70))))))
      have kp139 : gP σ72 J 0 = gP σ70 J 0 := (cσ72.O (kJ.up (xσ49.trans (xσ50.trans (xσ51.trans (xσ55.trans (xσ57.trans (xσ68.trans xσ70))))))) (by decide)).2.1
      have kp140 : gP σ72 b (gI σ57 o 8).toNat = gP σ70 b (gI σ57 o 8).toNat := (cσ72.A (mb.up (xσ55.trans (xσ57.trans (xσ68.trans xσ70)))) (by decide)).2.1
      have kp141 : gP σ72 th 0 = gP σ70 th 0 := (cσ72.O (kth.up (xσ49.trans (xσ50.trans (xσ51.trans (xσ55.trans (xσ57.trans (xσ68.trans xσ70))))))) (by decide)).2.1
      have kp142 : gP σ72 th 7 = gP σ70 th 7 := (cσ72.O (kth.up (xσ49.trans (xσ50.trans (xσ51.trans (xσ55.trans (xσ57.trans (xσ68.trans xσ70))))))) (by decide)).2.1
      have kp143 : gP σ72 th 8 = gP σ70 th 8 := (cσ72.O (kth.up (xσ49.trans (xσ50.trans (xσ51.trans (xσ55.trans (xσ57.trans (xσ68.trans xσ70))))))) (by decide)).2.1
      have kp144 : Kpt (gI σ72 J 7 = gI σ J 7) := Eq.trans (show gI σ72 J 7 = gI σ70 J 7 from (cσ72.O (kJ.up (xσ49.trans (xσ50.trans (xσ51.trans (xσ55.trans (xσ57.trans (xσ68.trans xσ70))))))) (by decide)).1) kp131
      have kp145 : Kpt (gI σ72 J 1 = gI σ J 1) := Eq.trans (show gI σ72 J 1 = gI σ70 J 1 from (cσ72.O (kJ.up (xσ49.trans (xσ50.trans (xσ51.trans (xσ55.trans (xσ57.trans (xσ68.trans xσ70))))))) (by decide)).1) kp132
      have kp146 : Kpt (gI σ72 J 2 = gI σ J 2) := Eq.trans (show gI σ72 J 2 = gI σ70 J 2 from (cσ72.O (kJ.up (xσ49.trans (xσ50.trans (xσ51.trans (xσ55.trans (xσ57.trans (xσ68.trans xσ70))))))) (by decide)).1) kp133
      have kp147 : Kpt (gI σ72 o 3 = gI σ70 o 3) := (show gI σ72 o 3 = gI σ70 o 3 from (cσ72.O (ko.up (xσ49.trans (xσ50.trans (xσ51.trans (xσ55.trans (xσ57.trans (xσ68.trans xσ70))))))) (by decide)).1)
      have kp148 : Kpt (gI σ72 o 4 = gI σ o 4) := Eq.trans (show gI σ72 o 4 = gI σ70 o 4 from (cσ72.O (ko.up (xσ49.trans (xσ50.trans (xσ51.trans (xσ55.trans (xσ57.trans (xσ68.trans xσ70))))))) (by decide)).1) kp134
      have kp149 : Kpt (gI σ72 o 6 = gI σ50 o 6) := Eq.trans (show gI σ72 o 6 = gI σ70 o 6 from (cσ72.O (ko.up (xσ49.trans (xσ50.trans (xσ51.trans (xσ55.trans (xσ57.trans (xσ68.trans xσ70))))))) (by decide)).1) kp135
      have kp150 : Kpt (gI σ72 o 7 = gI σ50 o 7) := Eq.trans (show gI σ72 o 7 = gI σ70 o 7 from (cσ72.O (ko.up (xσ49.trans (xσ50.trans (xσ51.trans (xσ55.trans (xσ57.trans (xσ68.trans xσ70))))))) (by decide)).1) kp136
      have kp151 : Kpt (gI σ72 o 8 = gI σ57 o 8) := Eq.trans (show gI σ72 o 8 = gI σ70 o 8 from (cσ72.O (ko.up (xσ49.trans (xσ50.trans (xσ51.trans (xσ55.trans (xσ57.trans (xσ68.trans xσ70))))))) (by decide)).1) kp137
      have kp152 : Kpt (gI σ72 o 9 = gI σ o 9) := Eq.trans (show gI σ72 o 9 = gI σ70 o 9 from (cσ72.O (ko.up (xσ49.trans (xσ50.trans (xσ51.trans (xσ55.trans (xσ57.trans (xσ68.trans xσ70))))))) (by decide)).1) kp138
      have r5σ72 := I_6_5 iσ72.1 (kth.up (xσ49.trans (xσ50.trans (xσ51.trans (xσ55.trans (xσ57.trans (xσ68.trans (xσ70.trans xσ72))))))))
      have ho153 : gI σ72 J 7 = gI σ J 7 := kp144
      have cp154 : (gI σ72 th 5 ≤ gI σ72 th 2 ∧ (gI σ72 th 3 ≠ 0 → gI σ72 th 5 + 1 ≤ gI σ72 th 2)) ∧ gI σ72 J 7 ≤ 2 * gI σ72 th 5 ∧ 0 ≤ gI σ72 th 5 := by omega
      clear pσ72 kp130 kp129 kp128 kp107 kp106 kp105 kp77 kp76 kp75 kp62 kp61 kp60 cp51
      refine i_X6_wantWord iσ72 (kth.up (xσ49.trans (xσ50.trans (xσ51.trans (xσ55.trans (xσ57.trans (xσ68.trans (xσ70.trans xσ72)))))))) (kp141.trans (kp125.trans (kp102.trans (kp72.trans (kp57.trans (kp38.trans (kp25.trans (kp16.trans hX0)))))))) (kX.up (xσ49.trans (xσ50.trans (xσ51.trans (xσ55.trans (xσ57.trans (xσ68.trans (xσ70.trans xσ72)))))))) (((xσ49.trans (xσ50.trans (xσ51.trans (xσ55.trans (xσ57.trans (xσ68.trans (xσ70.trans xσ72))))))) tx kX.1).2.2.trans gX) (by (first | omega | with_reducible assumption | with_reducible exact rng_toInt _ | with_reducible exact rng_wr _ | (unfold rng; omega) | (unfold rng at *; omega) | assumption)) (by (first | omega | with_reducible assumption | with_reducible exact rng_toInt _ | with_reducible exact rng_wr _ | (unfold rng; omega) | (unfold rng at *; omega) | assumption)) (fun σ73 _ iσ73 cσ73 pσ73 => ?_) (fun σx LLx Nx nux E ix cx ux px => hX σx LLx Nx nux E ix (fσ72.tr (cx.mo (by decide))) (ux) (by first | exact px | exact ⟨by have := px.1; omega, px.2⟩ | (first | omega | with_reducible assumption | with_reducible exact rng_toInt _ | with_reducible exact rng_wr _ | (unfold rng; omega) | (unfold rng at *; omega) | assumption)))
      intro xσ73
      have fσ73 : Fx [323, 326, 327, 328, 333, 334, 335, 336, 386, 387, 388, 389, 390, 6464] gr σ σ73 := fσ72.tr (cσ73.mo (by decide))
      have oxcσ73 : OX o σ σ73 := oxcσ72.tr (OX.fx cσ73 (by decide) (by decide)) (xσ49.trans (xσ50.trans (xσ51.trans (xσ55.trans (xσ57.trans (xσ68.trans (xσ70.trans xσ72)))))))
      have kp155 : gP σ73 J 0 = gP σ72 J 0 := (cσ73.O (kJ.up (xσ49.trans (xσ50.trans (xσ51.trans (xσ55.trans (xσ57.trans (xσ68.trans (xσ70.trans xσ72)))))))) (by decide)).2.1
      have kp156 : gP σ73 b (gI σ57 o 8).toNat = gP σ72 b (gI σ57 o 8).toNat := (cσ73.A (mb.up (xσ55.trans (xσ57.trans (xσ68.trans (xσ70.trans xσ72))))) (by decide)).2.1
      have kp157 : gP σ73 th 0 = gP σ72 th 0 := (cσ73.O (kth.up (xσ49.trans (xσ50.trans (xσ51.trans (xσ55.trans (xσ57.trans (xσ68.trans (xσ70.trans xσ72)))))))) (by decide)).2.1
      have kp158 : gP σ73 th 7 = gP σ72 th 7 := (cσ73.O (kth.up (xσ49.trans (xσ50.trans (xσ51.trans (xσ55.trans (xσ57.trans (xσ68.trans (xσ70.trans xσ72)))))))) (by decide)).2.1
      have kp159 : gP σ73 th 8 = gP σ72 th 8 := (cσ73.O (kth.up (xσ49.trans (xσ50.trans (xσ51.trans (xσ55.trans (xσ57.trans (xσ68.trans (xσ70.trans xσ72)))))))) (by decide)).2.1
      have kp160 : Kpt (gI σ73 J 7 = gI σ J 7) := Eq.trans (show gI σ73 J 7 = gI σ72 J 7 from (cσ73.O (kJ.up (xσ49.trans (xσ50.trans (xσ51.trans (xσ55.trans (xσ57.trans (xσ68.trans (xσ70.trans xσ72)))))))) (by decide)).1) kp144
      have kp161 : Kpt (gI σ73 J 1 = gI σ J 1) := Eq.trans (show gI σ73 J 1 = gI σ72 J 1 from (cσ73.O (kJ.up (xσ49.trans (xσ50.trans (xσ51.trans (xσ55.trans (xσ57.trans (xσ68.trans (xσ70.trans xσ72)))))))) (by decide)).1) kp145
      have kp162 : Kpt (gI σ73 J 2 = gI σ J 2) := Eq.trans (show gI σ73 J 2 = gI σ72 J 2 from (cσ73.O (kJ.up (xσ49.trans (xσ50.trans (xσ51.trans (xσ55.trans (xσ57.trans (xσ68.trans (xσ70.trans xσ72)))))))) (by decide)).1) kp146
      have kp163 : Kpt (gI σ73 o 3 = gI σ70 o 3) := Eq.trans (show gI σ73 o 3 = gI σ72 o 3 from (cσ73.O (ko.up (xσ49.trans (xσ50.trans (xσ51.trans (xσ55.trans (xσ57.trans (xσ68.trans (xσ70.trans xσ72)))))))) (by decide)).1) kp147
      have kp164 : Kpt (gI σ73 o 4 = gI σ o 4) := Eq.trans (show gI σ73 o 4 = gI σ72 o 4 from (cσ73.O (ko.up (xσ49.trans (xσ50.trans (xσ51.trans (xσ55.trans (xσ57.trans (xσ68.trans (xσ70.trans xσ72)))))))) (by decide)).1) kp148
      have kp165 : Kpt (gI σ73 o 6 = gI σ50 o 6) := Eq.trans (show gI σ73 o 6 = gI σ72 o 6 from (cσ73.O (ko.up (xσ49.trans (xσ50.trans (xσ51.trans (xσ55.trans (xσ57.trans (xσ68.trans (xσ70.trans xσ72)))))))) (by decide)).1) kp149
      have kp166 : Kpt (gI σ73 o 7 = gI σ50 o 7) := Eq.trans (show gI σ73 o 7 = gI σ72 o 7 from (cσ73.O (ko.up (xσ49.trans (xσ50.trans (xσ51.trans (xσ55.trans (xσ57.trans (xσ68.trans (xσ70.trans xσ72)))))))) (by decide)).1) kp150
      have kp167 : Kpt (gI σ73 o 8 = gI σ57 o 8) := Eq.trans (show gI σ73 o 8 = gI σ72 o 8 from (cσ73.O (ko.up (xσ49.trans (xσ50.trans (xσ51.trans (xσ55.trans (xσ57.trans (xσ68.trans (xσ70.trans xσ72)))))))) (by decide)).1) kp151
      have kp168 : Kpt (gI σ73 o 9 = gI σ o 9) := Eq.trans (show gI σ73 o 9 = gI σ72 o 9 from (cσ73.O (ko.up (xσ49.trans (xσ50.trans (xσ51.trans (xσ55.trans (xσ57.trans (xσ68.trans (xσ70.trans xσ72)))))))) (by decide)).1) kp152
      have r5σ73 := I_6_5 iσ73.1 (kth.up (xσ49.trans (xσ50.trans (xσ51.trans (xσ55.trans (xσ57.trans (xσ68.trans (xσ70.trans (xσ72.trans xσ73)))))))))
      have ho169 : gI σ73 J 7 = gI σ J 7 := kp160
      have cp170 : (gI σ73 th 5 ≤ gI σ73 th 2 ∧ (gI σ73 th 3 ≠ 0 → gI σ73 th 5 + 1 ≤ gI σ73 th 2)) ∧ gI σ73 J 7 ≤ 2 * gI σ73 th 5 ∧ 0 ≤ gI σ73 th 5 := by omega
      clear pσ73 cp154
      refine i_X6_column iσ73 (kth.up (xσ49.trans (xσ50.trans (xσ51.trans (xσ55.trans (xσ57.trans (xσ68.trans (xσ70.trans (xσ72.trans xσ73))))))))) eb_1 (mb_1.up (xσ55.trans (xσ57.trans (xσ68.trans (xσ70.trans (xσ72.trans xσ73)))))) (by (first | omega | with_reducible assumption | with_reducible exact rng_toInt _ | with_reducible exact rng_wr _ | (unfold rng; omega) | (unfold rng at *; omega) | assumption)) (fun σ74 r75 iσ74 cσ74 pσ74 => ?_) (fun σx LLx Nx nux E ix cx ux px => hX σx LLx Nx nux E ix (fσ73.tr (cx.mo (by decide))) (ux) (by first | exact px | exact ⟨by have := px.1; omega, px.2⟩ | (first | omega | with_reducible assumption | with_reducible exact rng_toInt _ | with_reducible exact rng_wr _ | (unfold rng; omega) | (unfold rng at *; omega) | assumption)))
      intro xσ74
      have fσ74 : Fx [323, 326, 327, 328, 333, 334, 335, 336, 386, 387, 388, 389, 390, 6464] gr σ σ74 := fσ73.tr (cσ74.mo (by decide))
      have oxcσ74 : OX o σ σ74 := oxcσ73.tr (OX.fx cσ74 (by decide) (by decide)) (xσ49.trans (xσ50.trans (xσ51.trans (xσ55.trans (xσ57.trans (xσ68.trans (xσ70.trans (xσ72.trans xσ73))))))))
      have kp171 : gP σ74 J 0 = gP σ73 J 0 := (cσ74.O (kJ.up (xσ49.trans (xσ50.trans (xσ51.trans (xσ55.trans (xσ57.trans (xσ68.trans (xσ70.trans (xσ72.trans xσ73))))))))) (by decide)).2.1
      have kp172 : gP σ74 b (gI σ57 o 8).toNat = gP σ73 b (gI σ57 o 8).toNat := (cσ74.A (mb.up (xσ55.trans (xσ57.trans (xσ68.trans (xσ70.trans (xσ72.trans xσ73)))))) (by decide)).2.1
      have kp173 : gP σ74 th 0 = gP σ73 th 0 := (cσ74.O (kth.up (xσ49.trans (xσ50.trans (xσ51.trans (xσ55.trans (xσ57.trans (xσ68.trans (xσ70.trans (xσ72.trans xσ73))))))))) (by decide)).2.1
      have kp174 : gP σ74 th 7 = gP σ73 th 7 := (cσ74.O (kth.up (xσ49.trans (xσ50.trans (xσ51.trans (xσ55.trans (xσ57.trans (xσ68.trans (xσ70.trans (xσ72.trans xσ73))))))))) (by decide)).2.1
      have kp175 : gP σ74 th 8 = gP σ73 th 8 := (cσ74.O (kth.up (xσ49.trans (xσ50.trans (xσ51.trans (xσ55.trans (xσ57.trans (xσ68.trans (xσ70.trans (xσ72.trans xσ73))))))))) (by decide)).2.1
      have kp176 : gI σ74 th 2 = gI σ73 th 2 := (cσ74.O (kth.up (xσ49.trans (xσ50.trans (xσ51.trans (xσ55.trans (xσ57.trans (xσ68.trans (xσ70.trans (xσ72.trans xσ73))))))))) (by decide)).1
      have kp177 : gI σ74 th 3 = gI σ73 th 3 := (cσ74.O (kth.up (xσ49.trans (xσ50.trans (xσ51.trans (xσ55.trans (xσ57.trans (xσ68.trans (xσ70.trans (xσ72.trans xσ73))))))))) (by decide)).1
      have kp178 : gI σ74 th 5 = gI σ73 th 5 := (cσ74.O (kth.up (xσ49.trans (xσ50.trans (xσ51.trans (xσ55.trans (xσ57.trans (xσ68.trans (xσ70.trans (xσ72.trans xσ73))))))))) (by decide)).1
      have kp179 : Kpt (gI σ74 J 7 = gI σ J 7) := Eq.trans (show gI σ74 J 7 = gI σ73 J 7 from (cσ74.O (kJ.up (xσ49.trans (xσ50.trans (xσ51.trans (xσ55.trans (xσ57.trans (xσ68.trans (xσ70.trans (xσ72.trans xσ73))))))))) (by decide)).1) kp160
      have kp180 : Kpt (gI σ74 J 1 = gI σ J 1) := Eq.trans (show gI σ74 J 1 = gI σ73 J 1 from (cσ74.O (kJ.up (xσ49.trans (xσ50.trans (xσ51.trans (xσ55.trans (xσ57.trans (xσ68.trans (xσ70.trans (xσ72.trans xσ73))))))))) (by decide)).1) kp161
      have kp181 : Kpt (gI σ74 J 2 = gI σ J 2) := Eq.trans (show gI σ74 J 2 = gI σ73 J 2 from (cσ74.O (kJ.up (xσ49.trans (xσ50.trans (xσ51.trans (xσ55.trans (xσ57.trans (xσ68.trans (xσ70.trans (xσ72.trans xσ73))))))))) (by decide)).1) kp162
      have kp182 : Kpt (gI σ74 o 3 = gI σ70 o 3) := Eq.trans (show gI σ74 o 3 = gI σ73 o 3 from (cσ74.O (ko.up (xσ49.trans (xσ50.trans (xσ51.trans (xσ55.trans (xσ57.trans (xσ68.trans (xσ70.trans (xσ72.trans xσ73))))))))) (by decide)).1) kp163
      have kp183 : Kpt (gI σ74 o 4 = gI σ o 4) := Eq.trans (show gI σ74 o 4 = gI σ73 o 4 from (cσ74.O (ko.up (xσ49.trans (xσ50.trans (xσ51.trans (xσ55.trans (xσ57.trans (xσ68.trans (xσ70.trans (xσ72.trans xσ73))))))))) (by decide)).1) kp164
      have kp184 : Kpt (gI σ74 o 6 = gI σ50 o 6) := Eq.trans (show gI σ74 o 6 = gI σ73 o 6 from (cσ74.O (ko.up (xσ49.trans (xσ50.trans (xσ51.trans (xσ55.trans (xσ57.trans (xσ68.trans (xσ70.trans (xσ72.trans xσ73))))))))) (by decide)).1) kp165
      have kp185 : Kpt (gI σ74 o 7 = gI σ50 o 7) := Eq.trans (show gI σ74 o 7 = gI σ73 o 7 from (cσ74.O (ko.up (xσ49.trans (xσ50.trans (xσ51.trans (xσ55.trans (xσ57.trans (xσ68.trans (xσ70.trans (xσ72.trans xσ73))))))))) (by decide)).1) kp166
      have kp186 : Kpt (gI σ74 o 8 = gI σ57 o 8) := Eq.trans (show gI σ74 o 8 = gI σ73 o 8 from (cσ74.O (ko.up (xσ49.trans (xσ50.trans (xσ51.trans (xσ55.trans (xσ57.trans (xσ68.trans (xσ70.trans (xσ72.trans xσ73))))))))) (by decide)).1) kp167
      have kp187 : Kpt (gI σ74 o 9 = gI σ o 9) := Eq.trans (show gI σ74 o 9 = gI σ73 o 9 from (cσ74.O (ko.up (xσ49.trans (xσ50.trans (xσ51.trans (xσ55.trans (xσ57.trans (xσ68.trans (xσ70.trans (xσ72.trans xσ73))))))))) (by decide)).1) kp168
      refine ⟨o, (kp159.trans (kp143.trans (kp127.trans (kp104.trans (kp74.trans (kp59.trans (kp40.trans (kp27.trans (kp18.trans h8))))))))), fun kk_o_4 => ?_⟩
      intro σ77 eσ77
      have xσ77 : Ext σ74 σ77 := by rw [eσ77]; exact fun _ h => ⟨h, rfl, rfl⟩
      have iσ77 : IV σ77 pl gq ci gr nc ot LL N nu := by rw [eσ77]; exact iσ74.wSp (ko.up (xσ49.trans (xσ50.trans (xσ51.trans (xσ55.trans (xσ57.trans (xσ68.trans (xσ70.trans (xσ72.trans (xσ73.trans xσ74)))))))))) (fun i hi => by omega) (by decide) (show (0 : Int) ≤ r75 ∧ r75 ≤ 7 from ⟨by omega, by omega⟩)
      have fσ77 : Fx [323, 326, 327, 328, 333, 334, 335, 336, 386, 387, 388, 389, 390, 6464] gr σ σ77 := fσ74.tr (Sk.fx (by rw [eσ77]; exact Sk.pI (by rw [fcdO (ko.up (xσ49.trans (xσ50.trans (xσ51.trans (xσ55.trans (xσ57.trans (xσ68.trans (xσ70.trans (xσ72.trans (xσ73.trans xσ74)))))))))) (by decide)]; decide)))
      have oxcσ77 : OX o σ σ77 := oxcσ74.tr (by rw [eσ77]; exact OX.pI (ko.up (xσ49.trans (xσ50.trans (xσ51.trans (xσ55.trans (xσ57.trans (xσ68.trans (xσ70.trans (xσ72.trans (xσ73.trans xσ74)))))))))) (Or.inr rfl)) (xσ49.trans (xσ50.trans (xσ51.trans (xσ55.trans (xσ57.trans (xσ68.trans (xσ70.trans (xσ72.trans (xσ73.trans xσ74)))))))))
      have wσ77 : gI σ77 o 13 = r75 := by rw [eσ77]; exact up2_s _ _ _ _
      have kp188 : gP σ77 J 0 = gP σ74 J 0 := by rw [eσ77]
      have kp189 : gP σ77 b (gI σ57 o 8).toNat = gP σ74 b (gI σ57 o 8).toNat := by rw [eσ77]
      have kp190 : gP σ77 th 0 = gP σ74 th 0 := by rw [eσ77]
      have kp191 : gP σ77 th 7 = gP σ74 th 7 := by rw [eσ77]
      have kp192 : gP σ77 th 8 = gP σ74 th 8 := by rw [eσ77]
      have kp193 : gI σ77 th 2 = gI σ74 th 2 := by rw [eσ77]; exact up2_n _ _ (fun q => absurd q.2 (by decide))
      have kp194 : gI σ77 th 3 = gI σ74 th 3 := by rw [eσ77]; exact up2_n _ _ (fun q => absurd q.2 (by decide))
      have kp195 : gI σ77 th 5 = gI σ74 th 5 := by rw [eσ77]; exact up2_n _ _ (fun q => absurd q.2 (by decide))
      have kp196 : Kpt (gI σ77 J 7 = gI σ J 7) := Eq.trans (show gI σ77 J 7 = gI σ74 J 7 from by rw [eσ77]; exact up2_n _ _ (fun q => absurd q.2 (by decide))) kp179
      have kp197 : Kpt (gI σ77 J 1 = gI σ J 1) := Eq.trans (show gI σ77 J 1 = gI σ74 J 1 from by rw [eσ77]; exact up2_n _ _ (fun q => absurd q.2 (by decide))) kp180
      have kp198 : Kpt (gI σ77 J 2 = gI σ J 2) := Eq.trans (show gI σ77 J 2 = gI σ74 J 2 from by rw [eσ77]; exact up2_n _ _ (fun q => absurd q.2 (by decide))) kp181
      have kp199 : Kpt (gI σ77 o 3 = gI σ70 o 3) := Eq.trans (show gI σ77 o 3 = gI σ74 o 3 from by rw [eσ77]; exact up2_n _ _ (fun q => absurd q.2 (by decide))) kp182
      have kp200 : Kpt (gI σ77 o 4 = gI σ o 4) := Eq.trans (show gI σ77 o 4 = gI σ74 o 4 from by rw [eσ77]; exact up2_n _ _ (fun q => absurd q.2 (by decide))) kp183
      have kp201 : Kpt (gI σ77 o 6 = gI σ50 o 6) := Eq.trans (show gI σ77 o 6 = gI σ74 o 6 from by rw [eσ77]; exact up2_n _ _ (fun q => absurd q.2 (by decide))) kp184
      have kp202 : Kpt (gI σ77 o 7 = gI σ50 o 7) := Eq.trans (show gI σ77 o 7 = gI σ74 o 7 from by rw [eσ77]; exact up2_n _ _ (fun q => absurd q.2 (by decide))) kp185
      have kp203 : Kpt (gI σ77 o 8 = gI σ57 o 8) := Eq.trans (show gI σ77 o 8 = gI σ74 o 8 from by rw [eσ77]; exact up2_n _ _ (fun q => absurd q.2 (by decide))) kp186
      have kp204 : Kpt (gI σ77 o 9 = gI σ o 9) := Eq.trans (show gI σ77 o 9 = gI σ74 o 9 from by rw [eσ77]; exact up2_n _ _ (fun q => absurd q.2 (by decide))) kp187
      refine i_X6_next iσ77 (kth.up (xσ49.trans (xσ50.trans (xσ51.trans (xσ55.trans (xσ57.trans (xσ68.trans (xσ70.trans (xσ72.trans (xσ73.trans (xσ74.trans xσ77))))))))))) (kp190.trans (kp173.trans (kp157.trans (kp141.trans (kp125.trans (kp102.trans (kp72.trans (kp57.trans (kp38.trans (kp25.trans (kp16.trans hX0))))))))))) (kX.up (xσ49.trans (xσ50.trans (xσ51.trans (xσ55.trans (xσ57.trans (xσ68.trans (xσ70.trans (xσ72.trans (xσ73.trans (xσ74.trans xσ77))))))))))) (((xσ49.trans (xσ50.trans (xσ51.trans (xσ55.trans (xσ57.trans (xσ68.trans (xσ70.trans (xσ72.trans (xσ73.trans (xσ74.trans xσ77)))))))))) tx kX.1).2.2.trans gX) (by (first | omega | with_reducible assumption | with_reducible exact rng_toInt _ | with_reducible exact rng_wr _ | (unfold rng; omega) | (unfold rng at *; omega) | assumption)) (by (first | omega | with_reducible assumption | with_reducible exact rng_toInt _ | with_reducible exact rng_wr _ | (unfold rng; omega) | (unfold rng at *; omega) | assumption)) (fun σ78 _ iσ78 cσ78 pσ78 => ?_) (fun σx LLx Nx nux E ix cx ux px => hX σx LLx Nx nux E ix (fσ77.tr (cx.mo (by decide))) (ux) (by first | exact px | exact ⟨by have := px.1; omega, px.2⟩ | (first | omega | with_reducible assumption | with_reducible exact rng_toInt _ | with_reducible exact rng_wr _ | (unfold rng; omega) | (unfold rng at *; omega) | assumption)))
      intro xσ78
      have fσ78 : Fx [323, 326, 327, 328, 333, 334, 335, 336, 386, 387, 388, 389, 390, 6464] gr σ σ78 := fσ77.tr (cσ78.mo (by decide))
      have oxcσ78 : OX o σ σ78 := oxcσ77.tr (OX.fx cσ78 (by decide) (by decide)) (xσ49.trans (xσ50.trans (xσ51.trans (xσ55.trans (xσ57.trans (xσ68.trans (xσ70.trans (xσ72.trans (xσ73.trans (xσ74.trans xσ77))))))))))
      have kp205 : gI σ78 o 13 = gI σ77 o 13 := (cσ78.O (ko.up (xσ49.trans (xσ50.trans (xσ51.trans (xσ55.trans (xσ57.trans (xσ68.trans (xσ70.trans (xσ72.trans (xσ73.trans (xσ74.trans xσ77))))))))))) (by decide)).1
      have kp206 : gP σ78 J 0 = gP σ77 J 0 := (cσ78.O (kJ.up (xσ49.trans (xσ50.trans (xσ51.trans (xσ55.trans (xσ57.trans (xσ68.trans (xσ70.trans (xσ72.trans (xσ73.trans (xσ74.trans xσ77))))))))))) (by decide)).2.1
      have kp207 : gP σ78 b (gI σ57 o 8).toNat = gP σ77 b (gI σ57 o 8).toNat := (cσ78.A (mb.up (xσ55.trans (xσ57.trans (xσ68.trans (xσ70.trans (xσ72.trans (xσ73.trans (xσ74.trans xσ77)))))))) (by decide)).2.1
      have kp208 : gP σ78 th 0 = gP σ77 th 0 := (cσ78.O (kth.up (xσ49.trans (xσ50.trans (xσ51.trans (xσ55.trans (xσ57.trans (xσ68.trans (xσ70.trans (xσ72.trans (xσ73.trans (xσ74.trans xσ77))))))))))) (by decide)).2.1
      have kp209 : gP σ78 th 7 = gP σ77 th 7 := (cσ78.O (kth.up (xσ49.trans (xσ50.trans (xσ51.trans (xσ55.trans (xσ57.trans (xσ68.trans (xσ70.trans (xσ72.trans (xσ73.trans (xσ74.trans xσ77))))))))))) (by decide)).2.1
      have kp210 : gP σ78 th 8 = gP σ77 th 8 := (cσ78.O (kth.up (xσ49.trans (xσ50.trans (xσ51.trans (xσ55.trans (xσ57.trans (xσ68.trans (xσ70.trans (xσ72.trans (xσ73.trans (xσ74.trans xσ77))))))))))) (by decide)).2.1
      have kp211 : Kpt (gI σ78 J 7 = gI σ J 7) := Eq.trans (show gI σ78 J 7 = gI σ77 J 7 from (cσ78.O (kJ.up (xσ49.trans (xσ50.trans (xσ51.trans (xσ55.trans (xσ57.trans (xσ68.trans (xσ70.trans (xσ72.trans (xσ73.trans (xσ74.trans xσ77))))))))))) (by decide)).1) kp196
      have kp212 : Kpt (gI σ78 J 1 = gI σ J 1) := Eq.trans (show gI σ78 J 1 = gI σ77 J 1 from (cσ78.O (kJ.up (xσ49.trans (xσ50.trans (xσ51.trans (xσ55.trans (xσ57.trans (xσ68.trans (xσ70.trans (xσ72.trans (xσ73.trans (xσ74.trans xσ77))))))))))) (by decide)).1) kp197
      have kp213 : Kpt (gI σ78 J 2 = gI σ J 2) := Eq.trans (show gI σ78 J 2 = gI σ77 J 2 from (cσ78.O (kJ.up (xσ49.trans (xσ50.trans (xσ51.trans (xσ55.trans (xσ57.trans (xσ68.trans (xσ70.trans (xσ72.trans (xσ73.trans (xσ74.trans xσ77))))))))))) (by decide)).1) kp198
      have kp214 : Kpt (gI σ78 o 3 = gI σ70 o 3) := Eq.trans (show gI σ78 o 3 = gI σ77 o 3 from (cσ78.O (ko.up (xσ49.trans (xσ50.trans (xσ51.trans (xσ55.trans (xσ57.trans (xσ68.trans (xσ70.trans (xσ72.trans (xσ73.trans (xσ74.trans xσ77))))))))))) (by decide)).1) kp199
      have kp215 : Kpt (gI σ78 o 4 = gI σ o 4) := Eq.trans (show gI σ78 o 4 = gI σ77 o 4 from (cσ78.O (ko.up (xσ49.trans (xσ50.trans (xσ51.trans (xσ55.trans (xσ57.trans (xσ68.trans (xσ70.trans (xσ72.trans (xσ73.trans (xσ74.trans xσ77))))))))))) (by decide)).1) kp200
      have kp216 : Kpt (gI σ78 o 6 = gI σ50 o 6) := Eq.trans (show gI σ78 o 6 = gI σ77 o 6 from (cσ78.O (ko.up (xσ49.trans (xσ50.trans (xσ51.trans (xσ55.trans (xσ57.trans (xσ68.trans (xσ70.trans (xσ72.trans (xσ73.trans (xσ74.trans xσ77))))))))))) (by decide)).1) kp201
      have kp217 : Kpt (gI σ78 o 7 = gI σ50 o 7) := Eq.trans (show gI σ78 o 7 = gI σ77 o 7 from (cσ78.O (ko.up (xσ49.trans (xσ50.trans (xσ51.trans (xσ55.trans (xσ57.trans (xσ68.trans (xσ70.trans (xσ72.trans (xσ73.trans (xσ74.trans xσ77))))))))))) (by decide)).1) kp202
      have kp218 : Kpt (gI σ78 o 8 = gI σ57 o 8) := Eq.trans (show gI σ78 o 8 = gI σ77 o 8 from (cσ78.O (ko.up (xσ49.trans (xσ50.trans (xσ51.trans (xσ55.trans (xσ57.trans (xσ68.trans (xσ70.trans (xσ72.trans (xσ73.trans (xσ74.trans xσ77))))))))))) (by decide)).1) kp203
      have kp219 : Kpt (gI σ78 o 9 = gI σ o 9) := Eq.trans (show gI σ78 o 9 = gI σ77 o 9 from (cσ78.O (ko.up (xσ49.trans (xσ50.trans (xσ51.trans (xσ55.trans (xσ57.trans (xσ68.trans (xσ70.trans (xσ72.trans (xσ73.trans (xσ74.trans xσ77))))))))))) (by decide)).1) kp204
      have r5σ78 := I_6_5 iσ78.1 (kth.up (xσ49.trans (xσ50.trans (xσ51.trans (xσ55.trans (xσ57.trans (xσ68.trans (xσ70.trans (xσ72.trans (xσ73.trans (xσ74.trans (xσ77.trans xσ78))))))))))))
      have ho220 : gI σ78 J 7 = gI σ J 7 := kp211
      have cp221 : (gI σ78 th 5 ≤ gI σ78 th 2 ∧ (gI σ78 th 3 ≠ 0 → gI σ78 th 5 + 1 ≤ gI σ78 th 2)) ∧ gI σ78 J 7 ≤ 2 * gI σ78 th 5 ∧ 0 ≤ gI σ78 th 5 := by omega
      clear pσ78 kp195 kp194 kp193 kp178 kp177 kp176 cp170
      refine i_X6_column iσ78 (kth.up (xσ49.trans (xσ50.trans (xσ51.trans (xσ55.trans (xσ57.trans (xσ68.trans (xσ70.trans (xσ72.trans (xσ73.trans (xσ74.trans (xσ77.trans xσ78)))))))))))) eb_2 (mb_2.up (xσ68.trans (xσ70.trans (xσ72.trans (xσ73.trans (xσ74.trans (xσ77.trans xσ78))))))) (by (first | omega | with_reducible assumption | with_reducible exact rng_toInt _ | with_reducible exact rng_wr _ | (unfold rng; omega) | (unfold rng at *; omega) | assumption)) (fun σ79 r80 iσ79 cσ79 pσ79 => ?_) (fun σx LLx Nx nux E ix cx ux px => hX σx LLx Nx nux E ix (fσ78.tr (cx.mo (by decide))) (ux) (by first | exact px | exact ⟨by have := px.1; omega, px.2⟩ | (first | omega | with_reducible assumption | with_reducible exact rng_toInt _ | with_reducible exact rng_wr _ | (unfold rng; omega) | (unfold rng at *; omega) | assumption)))
      intro xσ79
      have fσ79 : Fx [323, 326, 327, 328, 333, 334, 335, 336, 386, 387, 388, 389, 390, 6464] gr σ σ79 := fσ78.tr (cσ79.mo (by decide))
      have oxcσ79 : OX o σ σ79 := oxcσ78.tr (OX.fx cσ79 (by decide) (by decide)) (xσ49.trans (xσ50.trans (xσ51.trans (xσ55.trans (xσ57.trans (xσ68.trans (xσ70.trans (xσ72.trans (xσ73.trans (xσ74.trans (xσ77.trans xσ78)))))))))))
      have kp222 : gI σ79 o 13 = gI σ78 o 13 := (cσ79.O (ko.up (xσ49.trans (xσ50.trans (xσ51.trans (xσ55.trans (xσ57.trans (xσ68.trans (xσ70.trans (xσ72.trans (xσ73.trans (xσ74.trans (xσ77.trans xσ78)))))))))))) (by decide)).1
      have kp223 : gP σ79 J 0 = gP σ78 J 0 := (cσ79.O (kJ.up (xσ49.trans (xσ50.trans (xσ51.trans (xσ55.trans (xσ57.trans (xσ68.trans (xσ70.trans (xσ72.trans (xσ73.trans (xσ74.trans (xσ77.trans xσ78)))))))))))) (by decide)).2.1
      have kp224 : gP σ79 b (gI σ57 o 8).toNat = gP σ78 b (gI σ57 o 8).toNat := (cσ79.A (mb.up (xσ55.trans (xσ57.trans (xσ68.trans (xσ70.trans (xσ72.trans (xσ73.trans (xσ74.trans (xσ77.trans xσ78))))))))) (by decide)).2.1
      have kp225 : gP σ79 th 0 = gP σ78 th 0 := (cσ79.O (kth.up (xσ49.trans (xσ50.trans (xσ51.trans (xσ55.trans (xσ57.trans (xσ68.trans (xσ70.trans (xσ72.trans (xσ73.trans (xσ74.trans (xσ77.trans xσ78)))))))))))) (by decide)).2.1
      have kp226 : gP σ79 th 7 = gP σ78 th 7 := (cσ79.O (kth.up (xσ49.trans (xσ50.trans (xσ51.trans (xσ55.trans (xσ57.trans (xσ68.trans (xσ70.trans (xσ72.trans (xσ73.trans (xσ74.trans (xσ77.trans xσ78)))))))))))) (by decide)).2.1
      have kp227 : gP σ79 th 8 = gP σ78 th 8 := (cσ79.O (kth.up (xσ49.trans (xσ50.trans (xσ51.trans (xσ55.trans (xσ57.trans (xσ68.trans (xσ70.trans (xσ72.trans (xσ73.trans (xσ74.trans (xσ77.trans xσ78)))))))))))) (by decide)).2.1
      have kp228 : gI σ79 th 2 = gI σ78 th 2 := (cσ79.O (kth.up (xσ49.trans (xσ50.trans (xσ51.trans (xσ55.trans (xσ57.trans (xσ68.trans (xσ70.trans (xσ72.trans (xσ73.trans (xσ74.trans (xσ77.trans xσ78)))))))))))) (by decide)).1
      have kp229 : gI σ79 th 3 = gI σ78 th 3 := (cσ79.O (kth.up (xσ49.trans (xσ50.trans (xσ51.trans (xσ55.trans (xσ57.trans (xσ68.trans (xσ70.trans (xσ72.trans (xσ73.trans (xσ74.trans (xσ77.trans xσ78)))))))))))) (by decide)).1
      have kp230 : gI σ79 th 5 = gI σ78 th 5 := (cσ79.O (kth.up (xσ49.trans (xσ50.trans (xσ51.trans (xσ55.trans (xσ57.trans (xσ68.trans (xσ70.trans (xσ72.trans (xσ73.trans (xσ74.trans (xσ77.trans xσ78)))))))))))) (by decide)).1
      have kp231 : Kpt (gI σ79 J 7 = gI σ J 7) := Eq.trans (show gI σ79 J 7 = gI σ78 J 7 from (cσ79.O (kJ.up (xσ49.trans (xσ50.trans (xσ51.trans (xσ55.trans (xσ57.trans (xσ68.trans (xσ70.trans (xσ72.trans (xσ73.trans (xσ74.trans (xσ77.trans xσ78)))))))))))) (by decide)).1) kp211
      have kp232 : Kpt (gI σ79 J 1 = gI σ J 1) := Eq.trans (show gI σ79 J 1 = gI σ78 J 1 from (cσ79.O (kJ.up (xσ49.trans (xσ50.trans (xσ51.trans (xσ55.trans (xσ57.trans (xσ68.trans (xσ70.trans (xσ72.trans (xσ73.trans (xσ74.trans (xσ77.trans xσ78)))))))))))) (by decide)).1) kp212
      have kp233 : Kpt (gI σ79 J 2 = gI σ J 2) := Eq.trans (show gI σ79 J 2 = gI σ78 J 2 from (cσ79.O (kJ.up (xσ49.trans (xσ50.trans (xσ51.trans (xσ55.trans (xσ57.trans (xσ68.trans (xσ70.trans (xσ72.trans (xσ73.trans (xσ74.trans (xσ77.trans xσ78)))))))))))) (by decide)).1) kp213
      have kp234 : Kpt (gI σ79 o 3 = gI σ70 o 3) := Eq.trans (show gI σ79 o 3 = gI σ78 o 3 from (cσ79.O (ko.up (xσ49.trans (xσ50.trans (xσ51.trans (xσ55.trans (xσ57.trans (xσ68.trans (xσ70.trans (xσ72.trans (xσ73.trans (xσ74.trans (xσ77.trans xσ78)))))))))))) (by decide)).1) kp214
      have kp235 : Kpt (gI σ79 o 4 = gI σ o 4) := Eq.trans (show gI σ79 o 4 = gI σ78 o 4 from (cσ79.O (ko.up (xσ49.trans (xσ50.trans (xσ51.trans (xσ55.trans (xσ57.trans (xσ68.trans (xσ70.trans (xσ72.trans (xσ73.trans (xσ74.trans (xσ77.trans xσ78)))))))))))) (by decide)).1) kp215
      have kp236 : Kpt (gI σ79 o 6 = gI σ50 o 6) := Eq.trans (show gI σ79 o 6 = gI σ78 o 6 from (cσ79.O (ko.up (xσ49.trans (xσ50.trans (xσ51.trans (xσ55.trans (xσ57.trans (xσ68.trans (xσ70.trans (xσ72.trans (xσ73.trans (xσ74.trans (xσ77.trans xσ78)))))))))))) (by decide)).1) kp216
      have kp237 : Kpt (gI σ79 o 7 = gI σ50 o 7) := Eq.trans (show gI σ79 o 7 = gI σ78 o 7 from (cσ79.O (ko.up (xσ49.trans (xσ50.trans (xσ51.trans (xσ55.trans (xσ57.trans (xσ68.trans (xσ70.trans (xσ72.trans (xσ73.trans (xσ74.trans (xσ77.trans xσ78)))))))))))) (by decide)).1) kp217
      have kp238 : Kpt (gI σ79 o 8 = gI σ57 o 8) := Eq.trans (show gI σ79 o 8 = gI σ78 o 8 from (cσ79.O (ko.up (xσ49.trans (xσ50.trans (xσ51.trans (xσ55.trans (xσ57.trans (xσ68.trans (xσ70.trans (xσ72.trans (xσ73.trans (xσ74.trans (xσ77.trans xσ78)))))))))))) (by decide)).1) kp218
      have kp239 : Kpt (gI σ79 o 9 = gI σ o 9) := Eq.trans (show gI σ79 o 9 = gI σ78 o 9 from (cσ79.O (ko.up (xσ49.trans (xσ50.trans (xσ51.trans (xσ55.trans (xσ57.trans (xσ68.trans (xσ70.trans (xσ72.trans (xσ73.trans (xσ74.trans (xσ77.trans xσ78)))))))))))) (by decide)).1) kp219
      refine ⟨o, (kp210.trans (kp192.trans (kp175.trans (kp159.trans (kp143.trans (kp127.trans (kp104.trans (kp74.trans (kp59.trans (kp40.trans (kp27.trans (kp18.trans h8)))))))))))), fun kk_o_5 => ?_⟩
      intro σ82 eσ82
      have xσ82 : Ext σ79 σ82 := by rw [eσ82]; exact fun _ h => ⟨h, rfl, rfl⟩
      have iσ82 : IV σ82 pl gq ci gr nc ot LL N nu := by rw [eσ82]; exact iσ79.wSp (ko.up (xσ49.trans (xσ50.trans (xσ51.trans (xσ55.trans (xσ57.trans (xσ68.trans (xσ70.trans (xσ72.trans (xσ73.trans (xσ74.trans (xσ77.trans (xσ78.trans xσ79))))))))))))) (fun i hi => by omega) (by decide) (show (0 : Int) ≤ r80 ∧ r80 ≤ 7 from ⟨by omega, by omega⟩)
      have fσ82 : Fx [323, 326, 327, 328, 333, 334, 335, 336, 386, 387, 388, 389, 390, 6464] gr σ σ82 := fσ79.tr (Sk.fx (by rw [eσ82]; exact Sk.pI (by rw [fcdO (ko.up (xσ49.trans (xσ50.trans (xσ51.trans (xσ55.trans (xσ57.trans (xσ68.trans (xσ70.trans (xσ72.trans (xσ73.trans (xσ74.trans (xσ77.trans (xσ78.trans xσ79))))))))))))) (by decide)]; decide)))
      have oxcσ82 : OX o σ σ82 := oxcσ79.tr (by rw [eσ82]; exact OX.pI (ko.up (xσ49.trans (xσ50.trans (xσ51.trans (xσ55.trans (xσ57.trans (xσ68.trans (xσ70.trans (xσ72.trans (xσ73.trans (xσ74.trans (xσ77.trans (xσ78.trans xσ79))))))))))))) (Or.inr rfl)) (xσ49.trans (xσ50.trans (xσ51.trans (xσ55.trans (xσ57.trans (xσ68.trans (xσ70.trans (xσ72.trans (xσ73.trans (xσ74.trans (xσ77.trans (xσ78.trans xσ79))))))))))))
      have wσ82 : gI σ82 o 14 = r80 := by rw [eσ82]; exact up2_s _ _ _ _
      have kp240 : gI σ82 o 13 = gI σ79 o 13 := by rw [eσ82]; exact up2_n _ _ (fun q => absurd q.2 (by decide))
      have kp241 : gP σ82 J 0 = gP σ79 J 0 := by rw [eσ82]
      have kp242 : gP σ82 b (gI σ57 o 8).toNat = gP σ79 b (gI σ57 o 8).toNat := by rw [eσ82]
      have kp243 : gP σ82 th 0 = gP σ79 th 0 := by rw [eσ82]
      have kp244 : gP σ82 th 7 = gP σ79 th 7 := by rw [eσ82]
      have kp245 : gP σ82 th 8 = gP σ79 th 8 := by rw [eσ82]
      have kp246 : gI σ82 th 2 = gI σ79 th 2 := by rw [eσ82]; exact up2_n _ _ (fun q => absurd q.2 (by decide))
      have kp247 : gI σ82 th 3 = gI σ79 th 3 := by rw [eσ82]; exact up2_n _ _ (fun q => absurd q.2 (by decide))
      have kp248 : gI σ82 th 5 = gI σ79 th 5 := by rw [eσ82]; exact up2_n _ _ (fun q => absurd q.2 (by decide))
      have kp249 : Kpt (gI σ82 J 7 = gI σ J 7) := Eq.trans (show gI σ82 J 7 = gI σ79 J 7 from by rw [eσ82]; exact up2_n _ _ (fun q => absurd q.2 (by decide))) kp231
      have kp250 : Kpt (gI σ82 J 1 = gI σ J 1) := Eq.trans (show gI σ82 J 1 = gI σ79 J 1 from by rw [eσ82]; exact up2_n _ _ (fun q => absurd q.2 (by decide))) kp232
      have kp251 : Kpt (gI σ82 J 2 = gI σ J 2) := Eq.trans (show gI σ82 J 2 = gI σ79 J 2 from by rw [eσ82]; exact up2_n _ _ (fun q => absurd q.2 (by decide))) kp233
      have kp252 : Kpt (gI σ82 o 3 = gI σ70 o 3) := Eq.trans (show gI σ82 o 3 = gI σ79 o 3 from by rw [eσ82]; exact up2_n _ _ (fun q => absurd q.2 (by decide))) kp234
      have kp253 : Kpt (gI σ82 o 4 = gI σ o 4) := Eq.trans (show gI σ82 o 4 = gI σ79 o 4 from by rw [eσ82]; exact up2_n _ _ (fun q => absurd q.2 (by decide))) kp235
      have kp254 : Kpt (gI σ82 o 6 = gI σ50 o 6) := Eq.trans (show gI σ82 o 6 = gI σ79 o 6 from by rw [eσ82]; exact up2_n _ _ (fun q => absurd q.2 (by decide))) kp236
      have kp255 : Kpt (gI σ82 o 7 = gI σ50 o 7) := Eq.trans (show gI σ82 o 7 = gI σ79 o 7 from by rw [eσ82]; exact up2_n _ _ (fun q => absurd q.2 (by decide))) kp237
      have kp256 : Kpt (gI σ82 o 8 = gI σ57 o 8) := Eq.trans (show gI σ82 o 8 = gI σ79 o 8 from by rw [eσ82]; exact up2_n _ _ (fun q => absurd q.2 (by decide))) kp238
      have kp257 : Kpt (gI σ82 o 9 = gI σ o 9) := Eq.trans (show gI σ82 o 9 = gI σ79 o 9 from by rw [eσ82]; exact up2_n _ _ (fun q => absurd q.2 (by decide))) kp239
      refine i_X6_next iσ82 (kth.up (xσ49.trans (xσ50.trans (xσ51.trans (xσ55.trans (xσ57.trans (xσ68.trans (xσ70.trans (xσ72.trans (xσ73.trans (xσ74.trans (xσ77.trans (xσ78.trans (xσ79.trans xσ82)))))))))))))) (kp243.trans (kp225.trans (kp208.trans (kp190.trans (kp173.trans (kp157.trans (kp141.trans (kp125.trans (kp102.trans (kp72.trans (kp57.trans (kp38.trans (kp25.trans (kp16.trans hX0)))))))))))))) (kX.up (xσ49.trans (xσ50.trans (xσ51.trans (xσ55.trans (xσ57.trans (xσ68.trans (xσ70.trans (xσ72.trans (xσ73.trans (xσ74.trans (xσ77.trans (xσ78.trans (xσ79.trans xσ82)))))))))))))) (((xσ49.trans (xσ50.trans (xσ51.trans (xσ55.trans (xσ57.trans (xσ68.trans (xσ70.trans (xσ72.trans (xσ73.trans (xσ74.trans (xσ77.trans (xσ78.trans (xσ79.trans xσ82))))))))))))) tx kX.1).2.2.trans gX) (by (first | omega | with_reducible assumption | with_reducible exact rng_toInt _ | with_reducible exact rng_wr _ | (unfold rng; omega) | (unfold rng at *; omega) | assumption)) (by (first | omega | with_reducible assumption | with_reducible exact rng_toInt _ | with_reducible exact rng_wr _ | (unfold rng; omega) | (unfold rng at *; omega) | assumption)) (fun σ83 _ iσ83 cσ83 pσ83 => ?_) (fun σx LLx Nx nux E ix cx ux px => hX σx LLx Nx nux E ix (fσ82.tr (cx.mo (by decide))) (ux) (by first | exact px | exact ⟨by have := px.1; omega, px.2⟩ | (first | omega | with_reducible assumption | with_reducible exact rng_toInt _ | with_reducible exact rng_wr _ | (unfold rng; omega) | (unfold rng at *; omega) | assumption)))
      intro xσ83
      have fσ83 : Fx [323, 326, 327, 328, 333, 334, 335, 336, 386, 387, 388, 389, 390, 6464] gr σ σ83 := fσ82.tr (cσ83.mo (by decide))
      have oxcσ83 : OX o σ σ83 := oxcσ82.tr (OX.fx cσ83 (by decide) (by decide)) (xσ49.trans (xσ50.trans (xσ51.trans (xσ55.trans (xσ57.trans (xσ68.trans (xσ70.trans (xσ72.trans (xσ73.trans (xσ74.trans (xσ77.trans (xσ78.trans (xσ79.trans xσ82)))))))))))))
      have kp258 : gI σ83 o 13 = gI σ82 o 13 := (cσ83.O (ko.up (xσ49.trans (xσ50.trans (xσ51.trans (xσ55.trans (xσ57.trans (xσ68.trans (xσ70.trans (xσ72.trans (xσ73.trans (xσ74.trans (xσ77.trans (xσ78.trans (xσ79.trans xσ82)))))))))))))) (by decide)).1
      have kp259 : gI σ83 o 14 = gI σ82 o 14 := (cσ83.O (ko.up (xσ49.trans (xσ50.trans (xσ51.trans (xσ55.trans (xσ57.trans (xσ68.trans (xσ70.trans (xσ72.trans (xσ73.trans (xσ74.trans (xσ77.trans (xσ78.trans (xσ79.trans xσ82)))))))))))))) (by decide)).1
      have kp260 : gP σ83 J 0 = gP σ82 J 0 := (cσ83.O (kJ.up (xσ49.trans (xσ50.trans (xσ51.trans (xσ55.trans (xσ57.trans (xσ68.trans (xσ70.trans (xσ72.trans (xσ73.trans (xσ74.trans (xσ77.trans (xσ78.trans (xσ79.trans xσ82)))))))))))))) (by decide)).2.1
      have kp261 : gP σ83 b (gI σ57 o 8).toNat = gP σ82 b (gI σ57 o 8).toNat := (cσ83.A (mb.up (xσ55.trans (xσ57.trans (xσ68.trans (xσ70.trans (xσ72.trans (xσ73.trans (xσ74.trans (xσ77.trans (xσ78.trans (xσ79.trans xσ82))))))))))) (by decide)).2.1
      have kp262 : gP σ83 th 0 = gP σ82 th 0 := (cσ83.O (kth.up (xσ49.trans (xσ50.trans (xσ51.trans (xσ55.trans (xσ57.trans (xσ68.trans (xσ70.trans (xσ72.trans (xσ73.trans (xσ74.trans (xσ77.trans (xσ78.trans (xσ79.trans xσ82)))))))))))))) (by decide)).2.1
      have kp263 : gP σ83 th 7 = gP σ82 th 7 := (cσ83.O (kth.up (xσ49.trans (xσ50.trans (xσ51.trans (xσ55.trans (xσ57.trans (xσ68.trans (xσ70.trans (xσ72.trans (xσ73.trans (xσ74.trans (xσ77.trans (xσ78.trans (xσ79.trans xσ82)))))))))))))) (by decide)).2.1
      have kp264 : gP σ83 th 8 = gP σ82 th 8 := (cσ83.O (kth.up (xσ49.trans (xσ50.trans (xσ51.trans (xσ55.trans (xσ57.trans (xσ68.trans (xσ70.trans (xσ72.trans (xσ73.trans (xσ74.trans (xσ77.trans (xσ78.trans (xσ79.trans xσ82)))))))))))))) (by decide)).2.1
      have kp265 : Kpt (gI σ83 J 7 = gI σ J 7) := Eq.trans (show gI σ83 J 7 = gI σ82 J 7 from (cσ83.O (kJ.up (xσ49.trans (xσ50.trans (xσ51.trans (xσ55.trans (xσ57.trans (xσ68.trans (xσ70.trans (xσ72.trans (xσ73.trans (xσ74.trans (xσ77.trans (xσ78.trans (xσ79.trans xσ82)))))))))))))) (by decide)).1) kp249
      have kp266 : Kpt (gI σ83 J 1 = gI σ J 1) := Eq.trans (show gI σ83 J 1 = gI σ82 J 1 from (cσ83.O (kJ.up (xσ49.trans (xσ50.trans (xσ51.trans (xσ55.trans (xσ57.trans (xσ68.trans (xσ70.trans (xσ72.trans (xσ73.trans (xσ74.trans (xσ77.trans (xσ78.trans (xσ79.trans xσ82)))))))))))))) (by decide)).1) kp250
      have kp267 : Kpt (gI σ83 J 2 = gI σ J 2) := Eq.trans (show gI σ83 J 2 = gI σ82 J 2 from (cσ83.O (kJ.up (xσ49.trans (xσ50.trans (xσ51.trans (xσ55.trans (xσ57.trans (xσ68.trans (xσ70.trans (xσ72.trans (xσ73.trans (xσ74.trans (xσ77.trans (xσ78.trans (xσ79.trans xσ82)))))))))))))) (by decide)).1) kp251
      have kp268 : Kpt (gI σ83 o 3 = gI σ70 o 3) := Eq.trans (show gI σ83 o 3 = gI σ82 o 3 from (cσ83.O (ko.up (xσ49.trans (xσ50.trans (xσ51.trans (xσ55.trans (xσ57.trans (xσ68.trans (xσ70.trans (xσ72.trans (xσ73.trans (xσ74.trans (xσ77.trans (xσ78.trans (xσ79.trans xσ82)))))))))))))) (by decide)).1) kp252
      have kp269 : Kpt (gI σ83 o 4 = gI σ o 4) := Eq.trans (show gI σ83 o 4 = gI σ82 o 4 from (cσ83.O (ko.up (xσ49.trans (xσ50.trans (xσ51.trans (xσ55.trans (xσ57.trans (xσ68.trans (xσ70.trans (xσ72.trans (xσ73.trans (xσ74.trans (xσ77.trans (xσ78.trans (xσ79.trans xσ82)))))))))))))) (by decide)).1) kp253
      have kp270 : Kpt (gI σ83 o 6 = gI σ50 o 6) := Eq.trans (show gI σ83 o 6 = gI σ82 o 6 from (cσ83.O (ko.up (xσ49.trans (xσ50.trans (xσ51.trans (xσ55.trans (xσ57.trans (xσ68.trans (xσ70.trans (xσ72.trans (xσ73.trans (xσ74.trans (xσ77.trans (xσ78.trans (xσ79.trans xσ82)))))))))))))) (by decide)).1) kp254
      have kp271 : Kpt (gI σ83 o 7 = gI σ50 o 7) := Eq.trans (show gI σ83 o 7 = gI σ82 o 7 from (cσ83.O (ko.up (xσ49.trans (xσ50.trans (xσ51.trans (xσ55.trans (xσ57.trans (xσ68.trans (xσ70.trans (xσ72.trans (xσ73.trans (xσ74.trans (xσ77.trans (xσ78.trans (xσ79.trans xσ82)))))))))))))) (by decide)).1) kp255
      have kp272 : Kpt (gI σ83 o 8 = gI σ57 o 8) := Eq.trans (show gI σ83 o 8 = gI σ82 o 8 from (cσ83.O (ko.up (xσ49.trans (xσ50.trans (xσ51.trans (xσ55.trans (xσ57.trans (xσ68.trans (xσ70.trans (xσ72.trans (xσ73.trans (xσ74.trans (xσ77.trans (xσ78.trans (xσ79.trans xσ82)))))))))))))) (by decide)).1) kp256
      have kp273 : Kpt (gI σ83 o 9 = gI σ o 9) := Eq.trans (show gI σ83 o 9 = gI σ82 o 9 from (cσ83.O (ko.up (xσ49.trans (xσ50.trans (xσ51.trans (xσ55.trans (xσ57.trans (xσ68.trans (xσ70.trans (xσ72.trans (xσ73.trans (xσ74.trans (xσ77.trans (xσ78.trans (xσ79.trans xσ82)))))))))))))) (by decide)).1) kp257
      have r5σ83 := I_6_5 iσ83.1 (kth.up (xσ49.trans (xσ50.trans (xσ51.trans (xσ55.trans (xσ57.trans (xσ68.trans (xσ70.trans (xσ72.trans (xσ73.trans (xσ74.trans (xσ77.trans (xσ78.trans (xσ79.trans (xσ82.trans xσ83)))))))))))))))
      have ho274 : gI σ83 J 7 = gI σ J 7 := kp265
      have cp275 : (gI σ83 th 5 ≤ gI σ83 th 2 ∧ (gI σ83 th 3 ≠ 0 → gI σ83 th 5 + 1 ≤ gI σ83 th 2)) ∧ gI σ83 J 7 ≤ 2 * gI σ83 th 5 ∧ 0 ≤ gI σ83 th 5 := by omega
      clear pσ83 kp248 kp247 kp246 kp230 kp229 kp228 cp221
      by_cases hc276 : v1 ≠ 6
      · rw [if_pos hc276]
        unfold w_X6_pairText_213
        have ho277 : gI σ83 J 1 = gI σ J 1 := kp266
        have ho278 : gI σ83 J 2 = gI σ J 2 := kp267
        have ho279 : gI σ83 o 3 = gI σ70 o 3 := kp268
        have ho280 : gI σ83 o 4 = gI σ o 4 := kp269
        have ho281 : gI σ83 o 6 = gI σ50 o 6 := kp270
        have ho282 : gI σ83 o 7 = gI σ50 o 7 := kp271
        have ho283 : gI σ83 o 8 = gI σ57 o 8 := kp272
        have ho284 : gI σ83 o 9 = gI σ o 9 := kp273
        exact hQ σ83 () iσ83 fσ83 oxcσ83 (⟨by omega, by omega, ⟨by omega, (fun _ a ka ga => by have w9 := wf a ka (by omega); omega), (fun h => absurd h (by omega))⟩⟩)
      · rw [if_neg hc276]
        have hc276q := Classical.not_not.mp hc276
        have ho285 : gI σ83 J 1 = gI σ J 1 := kp266
        have ho286 : gI σ83 J 2 = gI σ J 2 := kp267
        have ho287 : gI σ83 o 3 = gI σ70 o 3 := kp268
        have ho288 : gI σ83 o 4 = gI σ o 4 := kp269
        have ho289 : gI σ83 o 6 = gI σ50 o 6 := kp270
        have ho290 : gI σ83 o 7 = gI σ50 o 7 := kp271
        have ho291 : gI σ83 o 8 = gI σ57 o 8 := kp272
        have ho292 : gI σ83 o 9 = gI σ o 9 := kp273
        refine i_X6_pairText_154 iσ83 (kth.up (xσ49.trans (xσ50.trans (xσ51.trans (xσ55.trans (xσ57.trans (xσ68.trans (xσ70.trans (xσ72.trans (xσ73.trans (xσ74.trans (xσ77.trans (xσ78.trans (xσ79.trans (xσ82.trans xσ83))))))))))))))) (kp262.trans (kp243.trans (kp225.trans (kp208.trans (kp190.trans (kp173.trans (kp157.trans (kp141.trans (kp125.trans (kp102.trans (kp72.trans (kp57.trans (kp38.trans (kp25.trans (kp16.trans hX0))))))))))))))) (kX.up (xσ49.trans (xσ50.trans (xσ51.trans (xσ55.trans (xσ57.trans (xσ68.trans (xσ70.trans (xσ72.trans (xσ73.trans (xσ74.trans (xσ77.trans (xσ78.trans (xσ79.trans (xσ82.trans xσ83))))))))))))))) (by rw [(fσ83.1 tx kX.1).2.2]; exact gX) (kp263.trans (kp244.trans (kp226.trans (kp209.trans (kp191.trans (kp174.trans (kp158.trans (kp142.trans (kp126.trans (kp103.trans (kp73.trans (kp58.trans (kp39.trans (kp26.trans (kp17.trans h7))))))))))))))) (kJ.up (xσ49.trans (xσ50.trans (xσ51.trans (xσ55.trans (xσ57.trans (xσ68.trans (xσ70.trans (xσ72.trans (xσ73.trans (xσ74.trans (xσ77.trans (xσ78.trans (xσ79.trans (xσ82.trans xσ83))))))))))))))) (kp264.trans (kp245.trans (kp227.trans (kp210.trans (kp192.trans (kp175.trans (kp159.trans (kp143.trans (kp127.trans (kp104.trans (kp74.trans (kp59.trans (kp40.trans (kp27.trans (kp18.trans h8))))))))))))))) (ko.up (xσ49.trans (xσ50.trans (xσ51.trans (xσ55.trans (xσ57.trans (xσ68.trans (xσ70.trans (xσ72.trans (xσ73.trans (xσ74.trans (xσ77.trans (xσ78.trans (xσ79.trans (xσ82.trans xσ83))))))))))))))) hJq hq go hc (by omega) (by omega) (by omega) (fun σ9 r9 i9 c9 ox9 p9 => ?_) (fun σx LLx Nx nux E ix cx ux px => hX σx LLx Nx nux E ix (fσ83.tr cx) ux px)
        exact hQ σ9 r9 i9 (fσ83.tr c9) (oxcσ83.tr ox9 fσ83.1) ⟨p9.1, p9.2.1, ⟨by have q9 := p9.2.2; omega, (fun _ a ka ga => by have q9 := p9.2.2; have w9 := wf a ka (by omega); omega), (fun h => absurd h (by have q9 := p9.2.2; omega))⟩⟩
    · rw [if_neg hc98]
      unfold w_X6_pairText_84
      refine i_X6_refuse iσ57 (kth.up (xσ49.trans (xσ50.trans (xσ51.trans (xσ55.trans xσ57))))) (by (first | omega | with_reducible assumption | with_reducible exact rng_toInt _ | with_reducible exact rng_wr _ | (unfold rng; omega) | (unfold rng at *; omega) | assumption)) (by (first | omega | with_reducible assumption | with_reducible exact rng_toInt _ | with_reducible exact rng_wr _ | (unfold rng; omega) | (unfold rng at *; omega) | assumption)) (by (first | omega | with_reducible assumption | with_reducible exact rng_toInt _ | with_reducible exact rng_wr _ | (unfold rng; omega) | (unfold rng at *; omega) | assumption)) (fun σ67 _ iσ67 cσ67 pσ67 => ?_) (fun σx LLx Nx nux E ix cx ux px => hX σx LLx Nx nux E ix (fσ57.tr (cx.mo (by decide))) (ux) (by first | exact px | exact ⟨by have := px.1; omega, px.2⟩ | (first | omega | with_reducible assumption | with_reducible exact rng_toInt _ | with_reducible exact rng_wr _ | (unfold rng; omega) | (unfold rng at *; omega) | assumption)))
      intro xσ67
      exact pσ67.elim
  · rw [if_neg hc95]
    unfold w_X6_pairText_64
    refine i_X6_refuse iσ57 (kth.up (xσ49.trans (xσ50.trans (xσ51.trans (xσ55.trans xσ57))))) (by (first | omega | with_reducible assumption | with_reducible exact rng_toInt _ | with_reducible exact rng_wr _ | (unfold rng; omega) | (unfold rng at *; omega) | assumption)) (by (first | omega | with_reducible assumption | with_reducible exact rng_toInt _ | with_reducible exact rng_wr _ | (unfold rng; omega) | (unfold rng at *; omega) | assumption)) (by (first | omega | with_reducible assumption | with_reducible exact rng_toInt _ | with_reducible exact rng_wr _ | (unfold rng; omega) | (unfold rng at *; omega) | assumption)) (fun σ64 _ iσ64 cσ64 pσ64 => ?_) (fun σx LLx Nx nux E ix cx ux px => hX σx LLx Nx nux E ix (fσ57.tr (cx.mo (by decide))) (ux) (by first | exact px | exact ⟨by have := px.1; omega, px.2⟩ | (first | omega | with_reducible assumption | with_reducible exact rng_toInt _ | with_reducible exact rng_wr _ | (unfold rng; omega) | (unfold rng at *; omega) | assumption)))
    intro xσ64
    exact pσ64.elim

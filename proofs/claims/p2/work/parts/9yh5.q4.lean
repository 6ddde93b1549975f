set_option maxHeartbeats 4000000 in
theorem i_X6_topText {σ : Sg} {pl : Nat} {gq ci gr nc : Nat → Nat} {ot : Nat → Nat → Int} {LL : Nat → List Nat} {N nu : Nat → Nat} {th : Nat} {tx J o q c : Nat} (iσ : IV σ pl gq ci gr nc ot LL N nu) (kth : kO σ th 6) (hX0 : gP σ th 0 = some tx) (kX : kO σ tx 102) (gX : gn σ tx = 1500) (h7 : gP σ th 7 = some J) (kJ : kO σ J 4) (h8 : gP σ th 8 = some o) (ko : kO σ o 5) (hJq : gq J = q) (hq : q ≠ nc 0 ∧ q ≤ 1) (go : gq o = 16 * q + c) (hc : c < 16) (cJ : gI σ J 1 = (c : Int)) (tf : gI σ th 5 ≤ gI σ th 2 ∧ (gI σ th 3 ≠ 0 → gI σ th 5 + 1 ≤ gI σ th 2)) (h5 : nu 5 < 24000) (lp : gI σ J 7 ≤ 2 * gI σ th 5) (f0 : gI σ o 3 = 0 ∧ gI σ o 4 = 0 ∧ gI σ o 7 = -1 ∧ gI σ o 8 = -1) {Q : Sg → Unit → Prop} {X : Sg → String → Prop} (hQ : ∀ (σ' : Sg) (r : Unit), IV σ' pl gq ci gr nc ot LL N nu → Fx [323, 326, 327, 329, 331, 333, 386, 387, 388, 389, 390, 6464] gr σ σ' → OX o σ σ' → ((gI σ' th 5 ≤ gI σ' th 2 ∧ (gI σ' th 3 ≠ 0 → gI σ' th 5 + 1 ≤ gI σ' th 2)) ∧ gI σ' J 7 ≤ 2 * gI σ' th 5 ∧ OPR σ σ' gq q c o) → Q σ' r) (hX : ∀ (σ' : Sg) (LL' : Nat → List Nat) (N' nu' : Nat → Nat) (E : String), IV σ' pl gq ci gr nc ot LL' N' nu' → Fx [323, 326, 327, 329, 331, 333, 386, 387, 388, 389, 390, 6464] gr σ σ' → NCX nu nu' → (LL' = LL ∧ N' = N ∧ E = "java/lang/IllegalArgumentException" ∧ gI σ' th 6 ≠ 0) → X σ' E) : wp_X6_topText th σ Q X := by
  have fσ : Fx [323, 326, 327, 329, 331, 333, 386, 387, 388, 389, 390, 6464] gr σ σ := Fx.rf
  have oxσ : OX o σ σ := OX.rf
  have q1 := I_4_1 iσ.1 kJ
  have q2 := I_6_5 iσ.1 kth
  have q3 := I_6_2 iσ.1 kth
  have q4 := iσ.rg th 3; unfold rng at q4
  have q5 := I_4_7 iσ.1 kJ
  have q6 := I_5_3 iσ.1 ko
  have q7 := I_5_4 iσ.1 ko
  have q8 := I_5_7 iσ.1 ko
  have q9 := I_5_8 iσ.1 ko
  have ncb := iσ.ncb
  have r70 := I_4_7 iσ.1 kJ
  have r71 := I_4_1 iσ.1 kJ
  unfold wp_X6_topText
  unfold w_X6_topText_0
  refine i_X6_next iσ kth hX0 kX (((Ext.rfl' _) tx kX.1).2.2.trans gX) (by (first | omega | with_reducible assumption | with_reducible exact rng_toInt _ | with_reducible exact rng_wr _ | (unfold rng; omega) | (unfold rng at *; omega) | assumption)) (by (first | omega | with_reducible assumption | with_reducible exact rng_toInt _ | with_reducible exact rng_wr _ | (unfold rng; omega) | (unfold rng at *; omega) | assumption)) (fun σ34 _ iσ34 cσ34 pσ34 => ?_) (fun σx LLx Nx nux E ix cx ux px => hX σx LLx Nx nux E ix (fσ.tr (cx.mo (by decide))) (ux) (by first | exact px | exact ⟨by have := px.1; omega, px.2⟩ | (first | omega | with_reducible assumption | with_reducible exact rng_toInt _ | with_reducible exact rng_wr _ | (unfold rng; omega) | (unfold rng at *; omega) | assumption)))
  intro xσ34
  have fσ34 : Fx [323, 326, 327, 329, 331, 333, 386, 387, 388, 389, 390, 6464] gr σ σ34 := fσ.tr (cσ34.mo (by decide))
  have oxcσ34 : OX o σ σ34 := oxσ.tr (OX.fx cσ34 (by decide) (by decide)) (Ext.rfl' _)
  have kp10 : Kpt (gI σ34 J 1 = gI σ J 1) := (show gI σ34 J 1 = gI σ J 1 from (cσ34.O kJ (by decide)).1)
  have kp11 : Kpt (gI σ34 J 7 = gI σ J 7) := (show gI σ34 J 7 = gI σ J 7 from (cσ34.O kJ (by decide)).1)
  have kp12 : Kpt (gI σ34 o 3 = gI σ o 3) := (show gI σ34 o 3 = gI σ o 3 from (cσ34.O ko (by decide)).1)
  have kp13 : Kpt (gI σ34 o 4 = gI σ o 4) := (show gI σ34 o 4 = gI σ o 4 from (cσ34.O ko (by decide)).1)
  have kp14 : Kpt (gI σ34 o 7 = gI σ o 7) := (show gI σ34 o 7 = gI σ o 7 from (cσ34.O ko (by decide)).1)
  have kp15 : Kpt (gI σ34 o 8 = gI σ o 8) := (show gI σ34 o 8 = gI σ o 8 from (cσ34.O ko (by decide)).1)
  have kp16 : gP σ34 th 0 = gP σ th 0 := (cσ34.O kth (by decide)).2.1
  have kp17 : gP σ34 th 7 = gP σ th 7 := (cσ34.O kth (by decide)).2.1
  have kp18 : gP σ34 th 8 = gP σ th 8 := (cσ34.O kth (by decide)).2.1
  have kp19 : Kpt (gI σ34 J 2 = gI σ J 2) := (show gI σ34 J 2 = gI σ J 2 from (cσ34.O kJ (by decide)).1)
  have kp20 : Kpt (gI σ34 o 6 = gI σ o 6) := (show gI σ34 o 6 = gI σ o 6 from (cσ34.O ko (by decide)).1)
  have kp21 : Kpt (gI σ34 o 9 = gI σ o 9) := (show gI σ34 o 9 = gI σ o 9 from (cσ34.O ko (by decide)).1)
  have r5σ34 := I_6_5 iσ34.1 (kth.up xσ34)
  have ho22 : gI σ34 J 7 = gI σ J 7 := kp11
  have cp23 : (gI σ34 th 5 ≤ gI σ34 th 2 ∧ (gI σ34 th 3 ≠ 0 → gI σ34 th 5 + 1 ≤ gI σ34 th 2)) ∧ gI σ34 J 7 ≤ 2 * gI σ34 th 5 ∧ 0 ≤ gI σ34 th 5 := by omega
  clear pσ34 q3 q2
  refine i_X6_number iσ34 (kth.up xσ34) (by (first | omega | with_reducible assumption | with_reducible exact rng_toInt _ | with_reducible exact rng_wr _ | (unfold rng; omega) | (unfold rng at *; omega) | assumption)) (by (first | omega | with_reducible assumption | with_reducible exact rng_toInt _ | with_reducible exact rng_wr _ | (unfold rng; omega) | (unfold rng at *; omega) | assumption)) (fun σ35 r36 iσ35 cσ35 pσ35 => ?_) (fun σx LLx Nx nux E ix cx ux px => hX σx LLx Nx nux E ix (fσ34.tr (cx.mo (by decide))) (ux) (by first | exact px | exact ⟨by have := px.1; omega, px.2⟩ | (first | omega | with_reducible assumption | with_reducible exact rng_toInt _ | with_reducible exact rng_wr _ | (unfold rng; omega) | (unfold rng at *; omega) | assumption)))
  intro xσ35
  have fσ35 : Fx [323, 326, 327, 329, 331, 333, 386, 387, 388, 389, 390, 6464] gr σ σ35 := fσ34.tr (cσ35.mo (by decide))
  have oxcσ35 : OX o σ σ35 := oxcσ34.tr (OX.fx cσ35 (by decide) (by decide)) (xσ34)
  have kp24 : gP σ35 th 0 = gP σ34 th 0 := (cσ35.O (kth.up xσ34) (by decide)).2.1
  have kp25 : gP σ35 th 7 = gP σ34 th 7 := (cσ35.O (kth.up xσ34) (by decide)).2.1
  have kp26 : gP σ35 th 8 = gP σ34 th 8 := (cσ35.O (kth.up xσ34) (by decide)).2.1
  have kp27 : gI σ35 th 2 = gI σ34 th 2 := (cσ35.O (kth.up xσ34) (by decide)).1
  have kp28 : gI σ35 th 3 = gI σ34 th 3 := (cσ35.O (kth.up xσ34) (by decide)).1
  have kp29 : gI σ35 th 5 = gI σ34 th 5 := (cσ35.O (kth.up xσ34) (by decide)).1
  have kp30 : Kpt (gI σ35 J 7 = gI σ J 7) := Eq.trans (show gI σ35 J 7 = gI σ34 J 7 from (cσ35.O (kJ.up xσ34) (by decide)).1) kp11
  have kp31 : Kpt (gI σ35 J 1 = gI σ J 1) := Eq.trans (show gI σ35 J 1 = gI σ34 J 1 from (cσ35.O (kJ.up xσ34) (by decide)).1) kp10
  have kp32 : Kpt (gI σ35 J 2 = gI σ J 2) := Eq.trans (show gI σ35 J 2 = gI σ34 J 2 from (cσ35.O (kJ.up xσ34) (by decide)).1) kp19
  have kp33 : Kpt (gI σ35 o 3 = gI σ o 3) := Eq.trans (show gI σ35 o 3 = gI σ34 o 3 from (cσ35.O (ko.up xσ34) (by decide)).1) kp12
  have kp34 : Kpt (gI σ35 o 4 = gI σ o 4) := Eq.trans (show gI σ35 o 4 = gI σ34 o 4 from (cσ35.O (ko.up xσ34) (by decide)).1) kp13
  have kp35 : Kpt (gI σ35 o 6 = gI σ o 6) := Eq.trans (show gI σ35 o 6 = gI σ34 o 6 from (cσ35.O (ko.up xσ34) (by decide)).1) kp20
  have kp36 : Kpt (gI σ35 o 7 = gI σ o 7) := Eq.trans (show gI σ35 o 7 = gI σ34 o 7 from (cσ35.O (ko.up xσ34) (by decide)).1) kp14
  have kp37 : Kpt (gI σ35 o 8 = gI σ o 8) := Eq.trans (show gI σ35 o 8 = gI σ34 o 8 from (cσ35.O (ko.up xσ34) (by decide)).1) kp15
  have kp38 : Kpt (gI σ35 o 9 = gI σ o 9) := Eq.trans (show gI σ35 o 9 = gI σ34 o 9 from (cσ35.O (ko.up xσ34) (by decide)).1) kp21
  refine ⟨o, (kp18.trans h8), fun kk_o => ?_⟩
  intro σ38 eσ38
  have xσ38 : Ext σ35 σ38 := by rw [eσ38]; exact fun _ h => ⟨h, rfl, rfl⟩
  have iσ38 : IV σ38 pl gq ci gr nc ot LL N nu := by rw [eσ38]; exact iσ35.wSp (ko.up (xσ34.trans xσ35)) (fun i hi => by omega) (by decide) (show (0 : Int) ≤ r36 ∧ r36 ≤ 9 from ⟨by omega, by omega⟩)
  have fσ38 : Fx [323, 326, 327, 329, 331, 333, 386, 387, 388, 389, 390, 6464] gr σ σ38 := fσ35.tr (Sk.fx (by rw [eσ38]; exact Sk.pI (by rw [fcdO (ko.up (xσ34.trans xσ35)) (by decide)]; decide)))
  have oxcσ38 : OX o σ σ38 := oxcσ35.tr (by rw [eσ38]; exact OX.pI (ko.up (xσ34.trans xσ35)) (Or.inr rfl)) (xσ34.trans xσ35)
  have wσ38 : gI σ38 o 9 = r36 := by rw [eσ38]; exact up2_s _ _ _ _
  have kp39 : gP σ38 th 0 = gP σ35 th 0 := by rw [eσ38]
  have kp40 : gP σ38 th 7 = gP σ35 th 7 := by rw [eσ38]
  have kp41 : gP σ38 th 8 = gP σ35 th 8 := by rw [eσ38]
  have kp42 : gI σ38 th 2 = gI σ35 th 2 := by rw [eσ38]; exact up2_n _ _ (fun q => absurd q.2 (by decide))
  have kp43 : gI σ38 th 3 = gI σ35 th 3 := by rw [eσ38]; exact up2_n _ _ (fun q => absurd q.2 (by decide))
  have kp44 : gI σ38 th 5 = gI σ35 th 5 := by rw [eσ38]; exact up2_n _ _ (fun q => absurd q.2 (by decide))
  have kp45 : Kpt (gI σ38 J 7 = gI σ J 7) := Eq.trans (show gI σ38 J 7 = gI σ35 J 7 from by rw [eσ38]; exact up2_n _ _ (fun q => absurd q.2 (by decide))) kp30
  have kp46 : Kpt (gI σ38 J 1 = gI σ J 1) := Eq.trans (show gI σ38 J 1 = gI σ35 J 1 from by rw [eσ38]; exact up2_n _ _ (fun q => absurd q.2 (by decide))) kp31
  have kp47 : Kpt (gI σ38 J 2 = gI σ J 2) := Eq.trans (show gI σ38 J 2 = gI σ35 J 2 from by rw [eσ38]; exact up2_n _ _ (fun q => absurd q.2 (by decide))) kp32
  have kp48 : Kpt (gI σ38 o 3 = gI σ o 3) := Eq.trans (show gI σ38 o 3 = gI σ35 o 3 from by rw [eσ38]; exact up2_n _ _ (fun q => absurd q.2 (by decide))) kp33
  have kp49 : Kpt (gI σ38 o 4 = gI σ o 4) := Eq.trans (show gI σ38 o 4 = gI σ35 o 4 from by rw [eσ38]; exact up2_n _ _ (fun q => absurd q.2 (by decide))) kp34
  have kp50 : Kpt (gI σ38 o 6 = gI σ o 6) := Eq.trans (show gI σ38 o 6 = gI σ35 o 6 from by rw [eσ38]; exact up2_n _ _ (fun q => absurd q.2 (by decide))) kp35
  have kp51 : Kpt (gI σ38 o 7 = gI σ o 7) := Eq.trans (show gI σ38 o 7 = gI σ35 o 7 from by rw [eσ38]; exact up2_n _ _ (fun q => absurd q.2 (by decide))) kp36
  have kp52 : Kpt (gI σ38 o 8 = gI σ o 8) := Eq.trans (show gI σ38 o 8 = gI σ35 o 8 from by rw [eσ38]; exact up2_n _ _ (fun q => absurd q.2 (by decide))) kp37
  refine i_X6_next iσ38 (kth.up (xσ34.trans (xσ35.trans xσ38))) (kp39.trans (kp24.trans (kp16.trans hX0))) (kX.up (xσ34.trans (xσ35.trans xσ38))) (((xσ34.trans (xσ35.trans xσ38)) tx kX.1).2.2.trans gX) (by (first | omega | with_reducible assumption | with_reducible exact rng_toInt _ | with_reducible exact rng_wr _ | (unfold rng; omega) | (unfold rng at *; omega) | assumption)) (by (first | omega | with_reducible assumption | with_reducible exact rng_toInt _ | with_reducible exact rng_wr _ | (unfold rng; omega) | (unfold rng at *; omega) | assumption)) (fun σ39 _ iσ39 cσ39 pσ39 => ?_) (fun σx LLx Nx nux E ix cx ux px => hX σx LLx Nx nux E ix (fσ38.tr (cx.mo (by decide))) (ux) (by first | exact px | exact ⟨by have := px.1; omega, px.2⟩ | (first | omega | with_reducible assumption | with_reducible exact rng_toInt _ | with_reducible exact rng_wr _ | (unfold rng; omega) | (unfold rng at *; omega) | assumption)))
  intro xσ39
  have fσ39 : Fx [323, 326, 327, 329, 331, 333, 386, 387, 388, 389, 390, 6464] gr σ σ39 := fσ38.tr (cσ39.mo (by decide))
  have oxcσ39 : OX o σ σ39 := oxcσ38.tr (OX.fx cσ39 (by decide) (by decide)) (xσ34.trans (xσ35.trans xσ38))
  have kp53 : Kpt (gI σ39 o 9 = gI σ38 o 9) := (show gI σ39 o 9 = gI σ38 o 9 from (cσ39.O (ko.up (xσ34.trans (xσ35.trans xσ38))) (by decide)).1)
  have kp54 : gP σ39 th 0 = gP σ38 th 0 := (cσ39.O (kth.up (xσ34.trans (xσ35.trans xσ38))) (by decide)).2.1
  have kp55 : gP σ39 th 7 = gP σ38 th 7 := (cσ39.O (kth.up (xσ34.trans (xσ35.trans xσ38))) (by decide)).2.1
  have kp56 : gP σ39 th 8 = gP σ38 th 8 := (cσ39.O (kth.up (xσ34.trans (xσ35.trans xσ38))) (by decide)).2.1
  have kp57 : Kpt (gI σ39 J 7 = gI σ J 7) := Eq.trans (show gI σ39 J 7 = gI σ38 J 7 from (cσ39.O (kJ.up (xσ34.trans (xσ35.trans xσ38))) (by decide)).1) kp45
  have kp58 : Kpt (gI σ39 J 1 = gI σ J 1) := Eq.trans (show gI σ39 J 1 = gI σ38 J 1 from (cσ39.O (kJ.up (xσ34.trans (xσ35.trans xσ38))) (by decide)).1) kp46
  have kp59 : Kpt (gI σ39 J 2 = gI σ J 2) := Eq.trans (show gI σ39 J 2 = gI σ38 J 2 from (cσ39.O (kJ.up (xσ34.trans (xσ35.trans xσ38))) (by decide)).1) kp47
  have kp60 : Kpt (gI σ39 o 3 = gI σ o 3) := Eq.trans (show gI σ39 o 3 = gI σ38 o 3 from (cσ39.O (ko.up (xσ34.trans (xσ35.trans xσ38))) (by decide)).1) kp48
  have kp61 : Kpt (gI σ39 o 4 = gI σ o 4) := Eq.trans (show gI σ39 o 4 = gI σ38 o 4 from (cσ39.O (ko.up (xσ34.trans (xσ35.trans xσ38))) (by decide)).1) kp49
  have kp62 : Kpt (gI σ39 o 6 = gI σ o 6) := Eq.trans (show gI σ39 o 6 = gI σ38 o 6 from (cσ39.O (ko.up (xσ34.trans (xσ35.trans xσ38))) (by decide)).1) kp50
  have kp63 : Kpt (gI σ39 o 7 = gI σ o 7) := Eq.trans (show gI σ39 o 7 = gI σ38 o 7 from (cσ39.O (ko.up (xσ34.trans (xσ35.trans xσ38))) (by decide)).1) kp51
  have kp64 : Kpt (gI σ39 o 8 = gI σ o 8) := Eq.trans (show gI σ39 o 8 = gI σ38 o 8 from (cσ39.O (ko.up (xσ34.trans (xσ35.trans xσ38))) (by decide)).1) kp52
  have r5σ39 := I_6_5 iσ39.1 (kth.up (xσ34.trans (xσ35.trans (xσ38.trans xσ39))))
  have ho65 : gI σ39 J 7 = gI σ J 7 := kp57
  have cp66 : (gI σ39 th 5 ≤ gI σ39 th 2 ∧ (gI σ39 th 3 ≠ 0 → gI σ39 th 5 + 1 ≤ gI σ39 th 2)) ∧ gI σ39 J 7 ≤ 2 * gI σ39 th 5 ∧ 0 ≤ gI σ39 th 5 := by omega
  clear pσ39 kp44 kp43 kp42 kp29 kp28 kp27 cp23
  have ho67 : gI σ39 J 1 = gI σ J 1 := kp58
  refine i_X6_firstInput iσ39 (kth.up (xσ34.trans (xσ35.trans (xσ38.trans xσ39)))) (kp55.trans (kp40.trans (kp25.trans (kp17.trans h7)))) (kJ.up (xσ34.trans (xσ35.trans (xσ38.trans xσ39)))) (kp56.trans (kp41.trans (kp26.trans (kp18.trans h8)))) (ko.up (xσ34.trans (xσ35.trans (xσ38.trans xσ39)))) (by (first | omega | with_reducible assumption | with_reducible exact rng_toInt _ | with_reducible exact rng_wr _ | (unfold rng; omega) | (unfold rng at *; omega) | assumption)) (by (first | omega | with_reducible assumption | with_reducible exact rng_toInt _ | with_reducible exact rng_wr _ | (unfold rng; omega) | (unfold rng at *; omega) | assumption)) (by (first | omega | with_reducible assumption | with_reducible exact rng_toInt _ | with_reducible exact rng_wr _ | (unfold rng; omega) | (unfold rng at *; omega) | assumption)) (by (first | omega | with_reducible assumption | with_reducible exact rng_toInt _ | with_reducible exact rng_wr _ | (unfold rng; omega) | (unfold rng at *; omega) | assumption)) (by (first | omega | with_reducible assumption | with_reducible exact rng_toInt _ | with_reducible exact rng_wr _ | (unfold rng; omega) | (unfold rng at *; omega) | assumption)) (by (first | omega | with_reducible assumption | with_reducible exact rng_toInt _ | with_reducible exact rng_wr _ | (unfold rng; omega) | (unfold rng at *; omega) | assumption)) (fun σ40 _ iσ40 cσ40 oxσ40 pσ40 => ?_) (fun σx LLx Nx nux E ix cx ux px => hX σx LLx Nx nux E ix (fσ39.tr (cx.mo (by decide))) (ux) (by first | exact px | exact ⟨by have := px.1; omega, px.2⟩ | (first | omega | with_reducible assumption | with_reducible exact rng_toInt _ | with_reducible exact rng_wr _ | (unfold rng; omega) | (unfold rng at *; omega) | assumption)))
  intro xσ40
  have fσ40 : Fx [323, 326, 327, 329, 331, 333, 386, 387, 388, 389, 390, 6464] gr σ σ40 := fσ39.tr (cσ40.mo (by decide))
  have oxcσ40 : OX o σ σ40 := oxcσ39.tr oxσ40 (xσ34.trans (xσ35.trans (xσ38.trans xσ39)))
  have kp68 : gP σ40 th 0 = gP σ39 th 0 := (cσ40.O (kth.up (xσ34.trans (xσ35.trans (xσ38.trans xσ39)))) (by decide)).2.1
  have kp69 : gP σ40 th 7 = gP σ39 th 7 := (cσ40.O (kth.up (xσ34.trans (xσ35.trans (xσ38.trans xσ39)))) (by decide)).2.1
  have kp70 : gP σ40 th 8 = gP σ39 th 8 := (cσ40.O (kth.up (xσ34.trans (xσ35.trans (xσ38.trans xσ39)))) (by decide)).2.1
  have kp71 : gI σ40 th 2 = gI σ39 th 2 := (cσ40.O (kth.up (xσ34.trans (xσ35.trans (xσ38.trans xσ39)))) (by decide)).1
  have kp72 : gI σ40 th 3 = gI σ39 th 3 := (cσ40.O (kth.up (xσ34.trans (xσ35.trans (xσ38.trans xσ39)))) (by decide)).1
  have kp73 : gI σ40 th 5 = gI σ39 th 5 := (cσ40.O (kth.up (xσ34.trans (xσ35.trans (xσ38.trans xσ39)))) (by decide)).1
  have kp74 : Kpt (gI σ40 J 7 = gI σ J 7) := Eq.trans (show gI σ40 J 7 = gI σ39 J 7 from (cσ40.O (kJ.up (xσ34.trans (xσ35.trans (xσ38.trans xσ39)))) (by decide)).1) kp57
  have kp75 : Kpt (gI σ40 J 1 = gI σ J 1) := Eq.trans (show gI σ40 J 1 = gI σ39 J 1 from (cσ40.O (kJ.up (xσ34.trans (xσ35.trans (xσ38.trans xσ39)))) (by decide)).1) kp58
  have kp76 : Kpt (gI σ40 J 2 = gI σ J 2) := Eq.trans (show gI σ40 J 2 = gI σ39 J 2 from (cσ40.O (kJ.up (xσ34.trans (xσ35.trans (xσ38.trans xσ39)))) (by decide)).1) kp59
  have kp77 : Kpt (gI σ40 o 3 = gI σ o 3) := Eq.trans (show gI σ40 o 3 = gI σ39 o 3 from (cσ40.O (ko.up (xσ34.trans (xσ35.trans (xσ38.trans xσ39)))) (by decide)).1) kp60
  have kp78 : Kpt (gI σ40 o 4 = gI σ o 4) := Eq.trans (show gI σ40 o 4 = gI σ39 o 4 from (cσ40.O (ko.up (xσ34.trans (xσ35.trans (xσ38.trans xσ39)))) (by decide)).1) kp61
  have kp79 : Kpt (gI σ40 o 8 = gI σ o 8) := Eq.trans (show gI σ40 o 8 = gI σ39 o 8 from (cσ40.O (ko.up (xσ34.trans (xσ35.trans (xσ38.trans xσ39)))) (by decide)).1) kp64
  have kp80 : Kpt (gI σ40 o 9 = gI σ38 o 9) := Eq.trans (show gI σ40 o 9 = gI σ39 o 9 from (cσ40.O (ko.up (xσ34.trans (xσ35.trans (xσ38.trans xσ39)))) (by decide)).1) kp53
  refine ⟨J, (kp69.trans (kp55.trans (kp40.trans (kp25.trans (kp17.trans h7))))), fun kk_J => ?_⟩
  refine ⟨o, (kp70.trans (kp56.trans (kp41.trans (kp26.trans (kp18.trans h8))))), fun kk_o_1 => ?_⟩
  obtain ⟨b, eb, fb⟩ := P_4_0 iσ40.1 (kJ.up (xσ34.trans (xσ35.trans (xσ38.trans (xσ39.trans xσ40)))))
  have mb : kO σ40 b 115 := iσ40.1.kd (kJ.up (xσ34.trans (xσ35.trans (xσ38.trans (xσ39.trans xσ40))))) rfl eb rfl
  refine ⟨b, eb, fun kk_b => ?_⟩
  have q81 := I_5_7 iσ40.1 (ko.up (xσ34.trans (xσ35.trans (xσ38.trans (xσ39.trans xσ40)))))
  refine ⟨⟨by (first | omega | with_reducible assumption | with_reducible exact rng_toInt _ | with_reducible exact rng_wr _ | (unfold rng; omega) | (unfold rng at *; omega) | assumption), by (first | omega | with_reducible assumption | with_reducible exact rng_toInt _ | with_reducible exact rng_wr _ | (unfold rng; omega) | (unfold rng at *; omega) | assumption)⟩, ?_⟩
  obtain ⟨b_1, eb_1⟩ := P_115 iσ40.1 mb (k := (gI σ40 o 7).toNat) (by (first | omega | with_reducible assumption | with_reducible exact rng_toInt _ | with_reducible exact rng_wr _ | (unfold rng; omega) | (unfold rng at *; omega) | assumption))
  have fb_1 := T_115 iσ40.1 mb eb_1
  have mb_1 : kO σ40 b_1 5 := iσ40.1.kd mb rfl eb_1 rfl
  refine ⟨b_1, eb_1, fun kk_b_1 => ?_⟩
  refine i_X5_find iσ40 mb_1 (fun r45 pσ44 => ?_)
  intro xσ44
  have ho82 : gI σ40 J 7 = gI σ J 7 := kp74
  have ho83 : gI σ40 J 1 = gI σ J 1 := kp75
  have ho84 : gI σ40 J 2 = gI σ J 2 := kp76
  have ho85 : gI σ40 o 3 = gI σ o 3 := kp77
  have ho86 : gI σ40 o 4 = gI σ o 4 := kp78
  have ho87 : gI σ40 o 8 = gI σ o 8 := kp79
  have ho88 : gI σ40 o 9 = gI σ38 o 9 := kp80
  have wf : ∀ a, kO σ a 5 → gq a = 16 * q + (gI σ40 o 7).toNat → gI σ a 3 = gI σ40 b_1 3 := fun a ka ga => by have e9 := iσ40.unq (ka.up fσ40.1) mb_1 rfl rfl (by omega); subst e9; exact (oxcσ40 _ ka (fun e => absurd (congrArg gq e) (by omega)) 3).symm
  have r46 := I_5_3 iσ40.1 mb_1
  by_cases hc89 : r45 = (-1)
  · rw [if_pos hc89]
    unfold w_X6_topText_61
    refine ⟨b_1, eb_1, fun kk_b_1_1 => ?_⟩
    have q91 := I_5_3 iσ40.1 mb_1
    by_cases hc90 : gI σ40 b_1 3 ≠ 8
    · rw [if_pos hc90]
      unfold w_X6_topText_76
      refine ⟨o, (kp70.trans (kp56.trans (kp41.trans (kp26.trans (kp18.trans h8))))), fun kk_o_2 => ?_⟩
      refine i_X5_addColumnsOf iσ40 (ko.up (xσ34.trans (xσ35.trans (xσ38.trans (xσ39.trans xσ40))))) eb_1 mb_1 (by (first | omega | with_reducible assumption | with_reducible exact rng_toInt _ | with_reducible exact rng_wr _ | (unfold rng; omega) | (unfold rng at *; omega) | assumption)) (by (first | omega | with_reducible assumption | with_reducible exact rng_toInt _ | with_reducible exact rng_wr _ | (unfold rng; omega) | (unfold rng at *; omega) | assumption)) (by (first | omega | with_reducible assumption | with_reducible exact rng_toInt _ | with_reducible exact rng_wr _ | (unfold rng; omega) | (unfold rng at *; omega) | assumption)) (fun e => absurd (congrArg gq e) (by omega)) (fun σ50 _ iσ50 cσ50 oxσ50 pσ50 => ?_)
      intro xσ50
      have fσ50 : Fx [323, 326, 327, 329, 331, 333, 386, 387, 388, 389, 390, 6464] gr σ σ50 := fσ40.tr (cσ50.mo (by decide))
      have oxcσ50 : OX o σ σ50 := oxcσ40.tr oxσ50 (xσ34.trans (xσ35.trans (xσ38.trans (xσ39.trans xσ40))))
      have kp92 : Kpt (gI σ50 o 7 = gI σ40 o 7) := (show gI σ50 o 7 = gI σ40 o 7 from (cσ50.O (ko.up (xσ34.trans (xσ35.trans (xσ38.trans (xσ39.trans xσ40))))) (by decide)).1)
      have kp93 : gP σ50 J 0 = gP σ40 J 0 := (cσ50.O (kJ.up (xσ34.trans (xσ35.trans (xσ38.trans (xσ39.trans xσ40))))) (by decide)).2.1
      have kp94 : gP σ50 b (gI σ40 o 7).toNat = gP σ40 b (gI σ40 o 7).toNat := (cσ50.A mb (by decide)).2.1
      have kp95 : gP σ50 th 0 = gP σ40 th 0 := (cσ50.O (kth.up (xσ34.trans (xσ35.trans (xσ38.trans (xσ39.trans xσ40))))) (by decide)).2.1
      have kp96 : gP σ50 th 7 = gP σ40 th 7 := (cσ50.O (kth.up (xσ34.trans (xσ35.trans (xσ38.trans (xσ39.trans xσ40))))) (by decide)).2.1
      have kp97 : gP σ50 th 8 = gP σ40 th 8 := (cσ50.O (kth.up (xσ34.trans (xσ35.trans (xσ38.trans (xσ39.trans xσ40))))) (by decide)).2.1
      have kp98 : gI σ50 th 2 = gI σ40 th 2 := (cσ50.O (kth.up (xσ34.trans (xσ35.trans (xσ38.trans (xσ39.trans xσ40))))) (by decide)).1
      have kp99 : gI σ50 th 3 = gI σ40 th 3 := (cσ50.O (kth.up (xσ34.trans (xσ35.trans (xσ38.trans (xσ39.trans xσ40))))) (by decide)).1
      have kp100 : gI σ50 th 5 = gI σ40 th 5 := (cσ50.O (kth.up (xσ34.trans (xσ35.trans (xσ38.trans (xσ39.trans xσ40))))) (by decide)).1
      have kp101 : Kpt (gI σ50 J 7 = gI σ J 7) := Eq.trans (show gI σ50 J 7 = gI σ40 J 7 from (cσ50.O (kJ.up (xσ34.trans (xσ35.trans (xσ38.trans (xσ39.trans xσ40))))) (by decide)).1) kp74
      have kp102 : Kpt (gI σ50 J 1 = gI σ J 1) := Eq.trans (show gI σ50 J 1 = gI σ40 J 1 from (cσ50.O (kJ.up (xσ34.trans (xσ35.trans (xσ38.trans (xσ39.trans xσ40))))) (by decide)).1) kp75
      have kp103 : Kpt (gI σ50 J 2 = gI σ J 2) := Eq.trans (show gI σ50 J 2 = gI σ40 J 2 from (cσ50.O (kJ.up (xσ34.trans (xσ35.trans (xσ38.trans (xσ39.trans xσ40))))) (by decide)).1) kp76
      have kp104 : Kpt (gI σ50 o 4 = gI σ o 4) := Eq.trans (show gI σ50 o 4 = gI σ40 o 4 from (cσ50.O (ko.up (xσ34.trans (xσ35.trans (xσ38.trans (xσ39.trans xσ40))))) (by decide)).1) kp78
      have kp105 : Kpt (gI σ50 o 6 = gI σ40 o 6) := (show gI σ50 o 6 = gI σ40 o 6 from (cσ50.O (ko.up (xσ34.trans (xσ35.trans (xσ38.trans (xσ39.trans xσ40))))) (by decide)).1)
      have kp106 : Kpt (gI σ50 o 8 = gI σ o 8) := Eq.trans (show gI σ50 o 8 = gI σ40 o 8 from (cσ50.O (ko.up (xσ34.trans (xσ35.trans (xσ38.trans (xσ39.trans xσ40))))) (by decide)).1) kp79
      have kp107 : Kpt (gI σ50 o 9 = gI σ38 o 9) := Eq.trans (show gI σ50 o 9 = gI σ40 o 9 from (cσ50.O (ko.up (xσ34.trans (xσ35.trans (xσ38.trans (xσ39.trans xσ40))))) (by decide)).1) kp80
      refine ⟨o, (kp97.trans (kp70.trans (kp56.trans (kp41.trans (kp26.trans (kp18.trans h8)))))), fun kk_o_3 => ?_⟩
      refine i_X5_addColumn iσ50 (ko.up (xσ34.trans (xσ35.trans (xσ38.trans (xσ39.trans (xσ40.trans xσ50)))))) (by (first | omega | with_reducible assumption | with_reducible exact rng_toInt _ | with_reducible exact rng_wr _ | (unfold rng; omega) | (unfold rng at *; omega) | assumption)) (by (first | omega | with_reducible assumption | with_reducible exact rng_toInt _ | with_reducible exact rng_wr _ | (unfold rng; omega) | (unfold rng at *; omega) | assumption)) (by (first | omega | with_reducible assumption | with_reducible exact rng_toInt _ | with_reducible exact rng_wr _ | (unfold rng; omega) | (unfold rng at *; omega) | assumption)) (fun σ52 _ iσ52 cσ52 oxσ52 pσ52 => ?_)
      intro xσ52
      have fσ52 : Fx [323, 326, 327, 329, 331, 333, 386, 387, 388, 389, 390, 6464] gr σ σ52 := fσ50.tr (cσ52.mo (by decide))
      have oxcσ52 : OX o σ σ52 := oxcσ50.tr oxσ52 (xσ34.trans (xσ35.trans (xσ38.trans (xσ39.trans (xσ40.trans xσ50)))))
      have kp108 : gP σ52 J 0 = gP σ50 J 0 := (cσ52.O (kJ.up (xσ34.trans (xσ35.trans (xσ38.trans (xσ39.trans (xσ40.trans xσ50)))))) (by decide)).2.1
      have kp109 : gP σ52 b (gI σ40 o 7).toNat = gP σ50 b (gI σ40 o 7).toNat := (cσ52.A (mb.up xσ50) (by decide)).2.1
      have kp110 : gP σ52 th 0 = gP σ50 th 0 := (cσ52.O (kth.up (xσ34.trans (xσ35.trans (xσ38.trans (xσ39.trans (xσ40.trans xσ50)))))) (by decide)).2.1
      have kp111 : gP σ52 th 7 = gP σ50 th 7 := (cσ52.O (kth.up (xσ34.trans (xσ35.trans (xσ38.trans (xσ39.trans (xσ40.trans xσ50)))))) (by decide)).2.1
      have kp112 : gP σ52 th 8 = gP σ50 th 8 := (cσ52.O (kth.up (xσ34.trans (xσ35.trans (xσ38.trans (xσ39.trans (xσ40.trans xσ50)))))) (by decide)).2.1
      have kp113 : gI σ52 th 2 = gI σ50 th 2 := (cσ52.O (kth.up (xσ34.trans (xσ35.trans (xσ38.trans (xσ39.trans (xσ40.trans xσ50)))))) (by decide)).1
      have kp114 : gI σ52 th 3 = gI σ50 th 3 := (cσ52.O (kth.up (xσ34.trans (xσ35.trans (xσ38.trans (xσ39.trans (xσ40.trans xσ50)))))) (by decide)).1
      have kp115 : gI σ52 th 5 = gI σ50 th 5 := (cσ52.O (kth.up (xσ34.trans (xσ35.trans (xσ38.trans (xσ39.trans (xσ40.trans xσ50)))))) (by decide)).1
      have kp116 : Kpt (gI σ52 J 7 = gI σ J 7) := Eq.trans (show gI σ52 J 7 = gI σ50 J 7 from (cσ52.O (kJ.up (xσ34.trans (xσ35.trans (xσ38.trans (xσ39.trans (xσ40.trans xσ50)))))) (by decide)).1) kp101
      have kp117 : Kpt (gI σ52 J 1 = gI σ J 1) := Eq.trans (show gI σ52 J 1 = gI σ50 J 1 from (cσ52.O (kJ.up (xσ34.trans (xσ35.trans (xσ38.trans (xσ39.trans (xσ40.trans xσ50)))))) (by decide)).1) kp102
      have kp118 : Kpt (gI σ52 J 2 = gI σ J 2) := Eq.trans (show gI σ52 J 2 = gI σ50 J 2 from (cσ52.O (kJ.up (xσ34.trans (xσ35.trans (xσ38.trans (xσ39.trans (xσ40.trans xσ50)))))) (by decide)).1) kp103
      have kp119 : Kpt (gI σ52 o 4 = gI σ o 4) := Eq.trans (show gI σ52 o 4 = gI σ50 o 4 from (cσ52.O (ko.up (xσ34.trans (xσ35.trans (xσ38.trans (xσ39.trans (xσ40.trans xσ50)))))) (by decide)).1) kp104
      have kp120 : Kpt (gI σ52 o 6 = gI σ40 o 6) := Eq.trans (show gI σ52 o 6 = gI σ50 o 6 from (cσ52.O (ko.up (xσ34.trans (xσ35.trans (xσ38.trans (xσ39.trans (xσ40.trans xσ50)))))) (by decide)).1) kp105
      have kp121 : Kpt (gI σ52 o 7 = gI σ40 o 7) := Eq.trans (show gI σ52 o 7 = gI σ50 o 7 from (cσ52.O (ko.up (xσ34.trans (xσ35.trans (xσ38.trans (xσ39.trans (xσ40.trans xσ50)))))) (by decide)).1) kp92
      have kp122 : Kpt (gI σ52 o 8 = gI σ o 8) := Eq.trans (show gI σ52 o 8 = gI σ50 o 8 from (cσ52.O (ko.up (xσ34.trans (xσ35.trans (xσ38.trans (xσ39.trans (xσ40.trans xσ50)))))) (by decide)).1) kp106
      have kp123 : Kpt (gI σ52 o 9 = gI σ38 o 9) := Eq.trans (show gI σ52 o 9 = gI σ50 o 9 from (cσ52.O (ko.up (xσ34.trans (xσ35.trans (xσ38.trans (xσ39.trans (xσ40.trans xσ50)))))) (by decide)).1) kp107
      refine i_X6_next iσ52 (kth.up (xσ34.trans (xσ35.trans (xσ38.trans (xσ39.trans (xσ40.trans (xσ50.trans xσ52))))))) (kp110.trans (kp95.trans (kp68.trans (kp54.trans (kp39.trans (kp24.trans (kp16.trans hX0))))))) (kX.up (xσ34.trans (xσ35.trans (xσ38.trans (xσ39.trans (xσ40.trans (xσ50.trans xσ52))))))) (((xσ34.trans (xσ35.trans (xσ38.trans (xσ39.trans (xσ40.trans (xσ50.trans xσ52)))))) tx kX.1).2.2.trans gX) (by (first | omega | with_reducible assumption | with_reducible exact rng_toInt _ | with_reducible exact rng_wr _ | (unfold rng; omega) | (unfold rng at *; omega) | assumption)) (by (first | omega | with_reducible assumption | with_reducible exact rng_toInt _ | with_reducible exact rng_wr _ | (unfold rng; omega) | (unfold rng at *; omega) | assumption)) (fun σ54 _ iσ54 cσ54 pσ54 => ?_) (fun σx LLx Nx nux E ix cx ux px => hX σx LLx Nx nux E ix (fσ52.tr (cx.mo (by decide))) (ux) (by first | exact px | exact ⟨by have := px.1; omega, px.2⟩ | (first | omega | with_reducible assumption | with_reducible exact rng_toInt _ | with_reducible exact rng_wr _ | (unfold rng; omega) | (unfold rng at *; omega) | assumption)))
      intro xσ54
      have fσ54 : Fx [323, 326, 327, 329, 331, 333, 386, 387, 388, 389, 390, 6464] gr σ σ54 := fσ52.tr (cσ54.mo (by decide))
      have oxcσ54 : OX o σ σ54 := oxcσ52.tr (OX.fx cσ54 (by decide) (by decide)) (xσ34.trans (xσ35.trans (xσ38.trans (xσ39.trans (xσ40.trans (xσ50.trans xσ52))))))
      have kp124 : gP σ54 J 0 = gP σ52 J 0 := (cσ54.O (kJ.up (xσ34.trans (xσ35.trans (xσ38.trans (xσ39.trans (xσ40.trans (xσ50.trans xσ52))))))) (by decide)).2.1
      have kp125 : gP σ54 b (gI σ40 o 7).toNat = gP σ52 b (gI σ40 o 7).toNat := (cσ54.A (mb.up (xσ50.trans xσ52)) (by decide)).2.1
      have kp126 : gP σ54 th 0 = gP σ52 th 0 := (cσ54.O (kth.up (xσ34.trans (xσ35.trans (xσ38.trans (xσ39.trans (xσ40.trans (xσ50.trans xσ52))))))) (by decide)).2.1
      have kp127 : gP σ54 th 7 = gP σ52 th 7 := (cσ54.O (kth.up (xσ34.trans (xσ35.trans (xσ38.trans (xσ39.trans (xσ40.trans (xσ50.trans xσ52))))))) (by decide)).2.1
      have kp128 : gP σ54 th 8 = gP σ52 th 8 := (cσ54.O (kth.up (xσ34.trans (xσ35.trans (xσ38.trans (xσ39.trans (xσ40.trans (xσ50.trans xσ52))))))) (by decide)).2.1
      have kp129 : Kpt (gI σ54 J 7 = gI σ J 7) := Eq.trans (show gI σ54 J 7 = gI σ52 J 7 from (cσ54.O (kJ.up (xσ34.trans (xσ35.trans (xσ38.trans (xσ39.trans (xσ40.trans (xσ50.trans xσ52))))))) (by decide)).1) kp116
      have kp130 : Kpt (gI σ54 J 1 = gI σ J 1) := Eq.trans (show gI σ54 J 1 = gI σ52 J 1 from (cσ54.O (kJ.up (xσ34.trans (xσ35.trans (xσ38.trans (xσ39.trans (xσ40.trans (xσ50.trans xσ52))))))) (by decide)).1) kp117
      have kp131 : Kpt (gI σ54 J 2 = gI σ J 2) := Eq.trans (show gI σ54 J 2 = gI σ52 J 2 from (cσ54.O (kJ.up (xσ34.trans (xσ35.trans (xσ38.trans (xσ39.trans (xσ40.trans (xσ50.trans xσ52))))))) (by decide)).1) kp118
      have kp132 : Kpt (gI σ54 o 3 = gI σ52 o 3) := (show gI σ54 o 3 = gI σ52 o 3 from (cσ54.O (ko.up (xσ34.trans (xσ35.trans (xσ38.trans (xσ39.trans (xσ40.trans (xσ50.trans xσ52))))))) (by decide)).1)
      have kp133 : Kpt (gI σ54 o 4 = gI σ o 4) := Eq.trans (show gI σ54 o 4 = gI σ52 o 4 from (cσ54.O (ko.up (xσ34.trans (xσ35.trans (xσ38.trans (xσ39.trans (xσ40.trans (xσ50.trans xσ52))))))) (by decide)).1) kp119
      have kp134 : Kpt (gI σ54 o 6 = gI σ40 o 6) := Eq.trans (show gI σ54 o 6 = gI σ52 o 6 from (cσ54.O (ko.up (xσ34.trans (xσ35.trans (xσ38.trans (xσ39.trans (xσ40.trans (xσ50.trans xσ52))))))) (by decide)).1) kp120
      have kp135 : Kpt (gI σ54 o 7 = gI σ40 o 7) := Eq.trans (show gI σ54 o 7 = gI σ52 o 7 from (cσ54.O (ko.up (xσ34.trans (xσ35.trans (xσ38.trans (xσ39.trans (xσ40.trans (xσ50.trans xσ52))))))) (by decide)).1) kp121
      have kp136 : Kpt (gI σ54 o 8 = gI σ o 8) := Eq.trans (show gI σ54 o 8 = gI σ52 o 8 from (cσ54.O (ko.up (xσ34.trans (xσ35.trans (xσ38.trans (xσ39.trans (xσ40.trans (xσ50.trans xσ52))))))) (by decide)).1) kp122
      have kp137 : Kpt (gI σ54 o 9 = gI σ38 o 9) := Eq.trans (show gI σ54 o 9 = gI σ52 o 9 from (cσ54.O (ko.up (xσ34.trans (xσ35.trans (xσ38.trans (xσ39.trans (xσ40.trans (xσ50.trans xσ52))))))) (by decide)).1) kp123
      have r5σ54 := I_6_5 iσ54.1 (kth.up (xσ34.trans (xσ35.trans (xσ38.trans (xσ39.trans (xσ40.trans (xσ50.trans (xσ52.trans xσ54))))))))
      have ho138 : gI σ54 J 7 = gI σ J 7 := kp129
      have cp139 : (gI σ54 th 5 ≤ gI σ54 th 2 ∧ (gI σ54 th 3 ≠ 0 → gI σ54 th 5 + 1 ≤ gI σ54 th 2)) ∧ gI σ54 J 7 ≤ 2 * gI σ54 th 5 ∧ 0 ≤ gI σ54 th 5 := by omega
      clear pσ54 kp115 kp114 kp113 kp100 kp99 kp98 kp73 kp72 kp71 cp66
      refine i_X6_wantWord iσ54 (kth.up (xσ34.trans (xσ35.trans (xσ38.trans (xσ39.trans (xσ40.trans (xσ50.trans (xσ52.trans xσ54)))))))) (kp126.trans (kp110.trans (kp95.trans (kp68.trans (kp54.trans (kp39.trans (kp24.trans (kp16.trans hX0)))))))) (kX.up (xσ34.trans (xσ35.trans (xσ38.trans (xσ39.trans (xσ40.trans (xσ50.trans (xσ52.trans xσ54)))))))) (((xσ34.trans (xσ35.trans (xσ38.trans (xσ39.trans (xσ40.trans (xσ50.trans (xσ52.trans xσ54))))))) tx kX.1).2.2.trans gX) (by (first | omega | with_reducible assumption | with_reducible exact rng_toInt _ | with_reducible exact rng_wr _ | (unfold rng; omega) | (unfold rng at *; omega) | assumption)) (by (first | omega | with_reducible assumption | with_reducible exact rng_toInt _ | with_reducible exact rng_wr _ | (unfold rng; omega) | (unfold rng at *; omega) | assumption)) (fun σ55 _ iσ55 cσ55 pσ55 => ?_) (fun σx LLx Nx nux E ix cx ux px => hX σx LLx Nx nux E ix (fσ54.tr (cx.mo (by decide))) (ux) (by first | exact px | exact ⟨by have := px.1; omega, px.2⟩ | (first | omega | with_reducible assumption | with_reducible exact rng_toInt _ | with_reducible exact rng_wr _ | (unfold rng; omega) | (unfold rng at *; omega) | assumption)))
      intro xσ55
      have fσ55 : Fx [323, 326, 327, 329, 331, 333, 386, 387, 388, 389, 390, 6464] gr σ σ55 := fσ54.tr (cσ55.mo (by decide))
      have oxcσ55 : OX o σ σ55 := oxcσ54.tr (OX.fx cσ55 (by decide) (by decide)) (xσ34.trans (xσ35.trans (xσ38.trans (xσ39.trans (xσ40.trans (xσ50.trans (xσ52.trans xσ54)))))))
      have kp140 : gP σ55 J 0 = gP σ54 J 0 := (cσ55.O (kJ.up (xσ34.trans (xσ35.trans (xσ38.trans (xσ39.trans (xσ40.trans (xσ50.trans (xσ52.trans xσ54)))))))) (by decide)).2.1
      have kp141 : gP σ55 b (gI σ40 o 7).toNat = gP σ54 b (gI σ40 o 7).toNat := (cσ55.A (mb.up (xσ50.trans (xσ52.trans xσ54))) (by decide)).2.1
      have kp142 : gP σ55 th 0 = gP σ54 th 0 := (cσ55.O (kth.up (xσ34.trans (xσ35.trans (xσ38.trans (xσ39.trans (xσ40.trans (xσ50.trans (xσ52.trans xσ54)))))))) (by decide)).2.1
      have kp143 : gP σ55 th 7 = gP σ54 th 7 := (cσ55.O (kth.up (xσ34.trans (xσ35.trans (xσ38.trans (xσ39.trans (xσ40.trans (xσ50.trans (xσ52.trans xσ54)))))))) (by decide)).2.1
      have kp144 : gP σ55 th 8 = gP σ54 th 8 := (cσ55.O (kth.up (xσ34.trans (xσ35.trans (xσ38.trans (xσ39.trans (xσ40.trans (xσ50.trans (xσ52.trans xσ54)))))))) (by decide)).2.1
      have kp145 : Kpt (gI σ55 J 7 = gI σ J 7) := Eq.trans (show gI σ55 J 7 = gI σ54 J 7 from (cσ55.O (kJ.up (xσ34.trans (xσ35.trans (xσ38.trans (xσ39.trans (xσ40.trans (xσ50.trans (xσ52.trans xσ54)))))))) (by decide)).1) kp129
      have kp146 : Kpt (gI σ55 J 1 = gI σ J 1) := Eq.trans (show gI σ55 J 1 = gI σ54 J 1 from (cσ55.O (kJ.up (xσ34.trans (xσ35.trans (xσ38.trans (xσ39.trans (xσ40.trans (xσ50.trans (xσ52.trans xσ54)))))))) (by decide)).1) kp130
      have kp147 : Kpt (gI σ55 J 2 = gI σ J 2) := Eq.trans (show gI σ55 J 2 = gI σ54 J 2 from (cσ55.O (kJ.up (xσ34.trans (xσ35.trans (xσ38.trans (xσ39.trans (xσ40.trans (xσ50.trans (xσ52.trans xσ54)))))))) (by decide)).1) kp131
      have kp148 : Kpt (gI σ55 o 3 = gI σ52 o 3) := Eq.trans (show gI σ55 o 3 = gI σ54 o 3 from (cσ55.O (ko.up (xσ34.trans (xσ35.trans (xσ38.trans (xσ39.trans (xσ40.trans (xσ50.trans (xσ52.trans xσ54)))))))) (by decide)).1) kp132
      have kp149 : Kpt (gI σ55 o 4 = gI σ o 4) := Eq.trans (show gI σ55 o 4 = gI σ54 o 4 from (cσ55.O (ko.up (xσ34.trans (xσ35.trans (xσ38.trans (xσ39.trans (xσ40.trans (xσ50.trans (xσ52.trans xσ54)))))))) (by decide)).1) kp133
      have kp150 : Kpt (gI σ55 o 6 = gI σ40 o 6) := Eq.trans (show gI σ55 o 6 = gI σ54 o 6 from (cσ55.O (ko.up (xσ34.trans (xσ35.trans (xσ38.trans (xσ39.trans (xσ40.trans (xσ50.trans (xσ52.trans xσ54)))))))) (by decide)).1) kp134
      have kp151 : Kpt (gI σ55 o 7 = gI σ40 o 7) := Eq.trans (show gI σ55 o 7 = gI σ54 o 7 from (cσ55.O (ko.up (xσ34.trans (xσ35.trans (xσ38.trans (xσ39.trans (xσ40.trans (xσ50.trans (xσ52.trans xσ54)))))))) (by decide)).1) kp135
      have kp152 : Kpt (gI σ55 o 8 = gI σ o 8) := Eq.trans (show gI σ55 o 8 = gI σ54 o 8 from (cσ55.O (ko.up (xσ34.trans (xσ35.trans (xσ38.trans (xσ39.trans (xσ40.trans (xσ50.trans (xσ52.trans xσ54)))))))) (by decide)).1) kp136
      have kp153 : Kpt (gI σ55 o 9 = gI σ38 o 9) := Eq.trans (show gI σ55 o 9 = gI σ54 o 9 from (cσ55.O (ko.up (xσ34.trans (xσ35.trans (xσ38.trans (xσ39.trans (xσ40.trans (xσ50.trans (xσ52.trans xσ54)))))))) (by decide)).1) kp137
      have r5σ55 := I_6_5 iσ55.1 (kth.up (xσ34.trans (xσ35.trans (xσ38.trans (xσ39.trans (xσ40.trans (xσ50.trans (xσ52.trans (xσ54.trans xσ55)))))))))
      have ho154 : gI σ55 J 7 = gI σ J 7 := kp145
      have cp155 : (gI σ55 th 5 ≤ gI σ55 th 2 ∧ (gI σ55 th 3 ≠ 0 → gI σ55 th 5 + 1 ≤ gI σ55 th 2)) ∧ gI σ55 J 7 ≤ 2 * gI σ55 th 5 ∧ 0 ≤ gI σ55 th 5 := by omega
      clear pσ55 cp139
      refine i_X6_column iσ55 (kth.up (xσ34.trans (xσ35.trans (xσ38.trans (xσ39.trans (xσ40.trans (xσ50.trans (xσ52.trans (xσ54.trans xσ55))))))))) eb_1 (mb_1.up (xσ50.trans (xσ52.trans (xσ54.trans xσ55)))) (by (first | omega | with_reducible assumption | with_reducible exact rng_toInt _ | with_reducible exact rng_wr _ | (unfold rng; omega) | (unfold rng at *; omega) | assumption)) (fun σ56 r57 iσ56 cσ56 pσ56 => ?_) (fun σx LLx Nx nux E ix cx ux px => hX σx LLx Nx nux E ix (fσ55.tr (cx.mo (by decide))) (ux) (by first | exact px | exact ⟨by have := px.1; omega, px.2⟩ | (first | omega | with_reducible assumption | with_reducible exact rng_toInt _ | with_reducible exact rng_wr _ | (unfold rng; omega) | (unfold rng at *; omega) | assumption)))
      intro xσ56
      have fσ56 : Fx [323, 326, 327, 329, 331, 333, 386, 387, 388, 389, 390, 6464] gr σ σ56 := fσ55.tr (cσ56.mo (by decide))
      have oxcσ56 : OX o σ σ56 := oxcσ55.tr (OX.fx cσ56 (by decide) (by decide)) (xσ34.trans (xσ35.trans (xσ38.trans (xσ39.trans (xσ40.trans (xσ50.trans (xσ52.trans (xσ54.trans xσ55))))))))
      have kp156 : gP σ56 J 0 = gP σ55 J 0 := (cσ56.O (kJ.up (xσ34.trans (xσ35.trans (xσ38.trans (xσ39.trans (xσ40.trans (xσ50.trans (xσ52.trans (xσ54.trans xσ55))))))))) (by decide)).2.1
      have kp157 : gP σ56 b (gI σ40 o 7).toNat = gP σ55 b (gI σ40 o 7).toNat := (cσ56.A (mb.up (xσ50.trans (xσ52.trans (xσ54.trans xσ55)))) (by decide)).2.1
      have kp158 : gP σ56 th 0 = gP σ55 th 0 := (cσ56.O (kth.up (xσ34.trans (xσ35.trans (xσ38.trans (xσ39.trans (xσ40.trans (xσ50.trans (xσ52.trans (xσ54.trans xσ55))))))))) (by decide)).2.1
      have kp159 : gP σ56 th 7 = gP σ55 th 7 := (cσ56.O (kth.up (xσ34.trans (xσ35.trans (xσ38.trans (xσ39.trans (xσ40.trans (xσ50.trans (xσ52.trans (xσ54.trans xσ55))))))))) (by decide)).2.1
      have kp160 : gP σ56 th 8 = gP σ55 th 8 := (cσ56.O (kth.up (xσ34.trans (xσ35.trans (xσ38.trans (xσ39.trans (xσ40.trans (xσ50.trans (xσ52.trans (xσ54.trans xσ55))))))))) (by decide)).2.1
      have kp161 : gI σ56 th 2 = gI σ55 th 2 := (cσ56.O (kth.up (xσ34.trans (xσ35.trans (xσ38.trans (xσ39.trans (xσ40.trans (xσ50.trans (xσ52.trans (xσ54.trans xσ55))))))))) (by decide)).1
      have kp162 : gI σ56 th 3 = gI σ55 th 3 := (cσ56.O (kth.up (xσ34.trans (xσ35.trans (xσ38.trans (xσ39.trans (xσ40.trans (xσ50.trans (xσ52.trans (xσ54.trans xσ55))))))))) (by decide)).1
      have kp163 : gI σ56 th 5 = gI σ55 th 5 := (cσ56.O (kth.up (xσ34.trans (xσ35.trans (xσ38.trans (xσ39.trans (xσ40.trans (xσ50.trans (xσ52.trans (xσ54.trans xσ55))))))))) (by decide)).1
      have kp164 : Kpt (gI σ56 J 7 = gI σ J 7) := Eq.trans (show gI σ56 J 7 = gI σ55 J 7 from (cσ56.O (kJ.up (xσ34.trans (xσ35.trans (xσ38.trans (xσ39.trans (xσ40.trans (xσ50.trans (xσ52.trans (xσ54.trans xσ55))))))))) (by decide)).1) kp145
      have kp165 : Kpt (gI σ56 J 1 = gI σ J 1) := Eq.trans (show gI σ56 J 1 = gI σ55 J 1 from (cσ56.O (kJ.up (xσ34.trans (xσ35.trans (xσ38.trans (xσ39.trans (xσ40.trans (xσ50.trans (xσ52.trans (xσ54.trans xσ55))))))))) (by decide)).1) kp146
      have kp166 : Kpt (gI σ56 J 2 = gI σ J 2) := Eq.trans (show gI σ56 J 2 = gI σ55 J 2 from (cσ56.O (kJ.up (xσ34.trans (xσ35.trans (xσ38.trans (xσ39.trans (xσ40.trans (xσ50.trans (xσ52.trans (xσ54.trans xσ55))))))))) (by decide)).1) kp147
      have kp167 : Kpt (gI σ56 o 3 = gI σ52 o 3) := Eq.trans (show gI σ56 o 3 = gI σ55 o 3 from (cσ56.O (ko.up (xσ34.trans (xσ35.trans (xσ38.trans (xσ39.trans (xσ40.trans (xσ50.trans (xσ52.trans (xσ54.trans xσ55))))))))) (by decide)).1) kp148
      have kp168 : Kpt (gI σ56 o 4 = gI σ o 4) := Eq.trans (show gI σ56 o 4 = gI σ55 o 4 from (cσ56.O (ko.up (xσ34.trans (xσ35.trans (xσ38.trans (xσ39.trans (xσ40.trans (xσ50.trans (xσ52.trans (xσ54.trans xσ55))))))))) (by decide)).1) kp149
      have kp169 : Kpt (gI σ56 o 6 = gI σ40 o 6) := Eq.trans (show gI σ56 o 6 = gI σ55 o 6 from (cσ56.O (ko.up (xσ34.trans (xσ35.trans (xσ38.trans (xσ39.trans (xσ40.trans (xσ50.trans (xσ52.trans (xσ54.trans xσ55))))))))) (by decide)).1) kp150
      have kp170 : Kpt (gI σ56 o 7 = gI σ40 o 7) := Eq.trans (show gI σ56 o 7 = gI σ55 o 7 from (cσ56.O (ko.up (xσ34.trans (xσ35.trans (xσ38.trans (xσ39.trans (xσ40.trans (xσ50.trans (xσ52.trans (xσ54.trans xσ55))))))))) (by decide)).1) kp151
      have kp171 : Kpt (gI σ56 o 8 = gI σ o 8) := Eq.trans (show gI σ56 o 8 = gI σ55 o 8 from (cσ56.O (ko.up (xσ34.trans (xσ35.trans (xσ38.trans (xσ39.trans (xσ40.trans (xσ50.trans (xσ52.trans (xσ54.trans xσ55))))))))) (by decide)).1) kp152
      have kp172 : Kpt (gI σ56 o 9 = gI σ38 o 9) := Eq.trans (show gI σ56 o 9 = gI σ55 o 9 from (cσ56.O (ko.up (xσ34.trans (xσ35.trans (xσ38.trans (xσ39.trans (xσ40.trans (xσ50.trans (xσ52.trans (xσ54.trans xσ55))))))))) (by decide)).1) kp153
      refine ⟨o, (kp144.trans (kp128.trans (kp112.trans (kp97.trans (kp70.trans (kp56.trans (kp41.trans (kp26.trans (kp18.trans h8))))))))), fun kk_o_4 => ?_⟩
      intro σ59 eσ59
      have xσ59 : Ext σ56 σ59 := by rw [eσ59]; exact fun _ h => ⟨h, rfl, rfl⟩
      have iσ59 : IV σ59 pl gq ci gr nc ot LL N nu := by rw [eσ59]; exact iσ56.wSp (ko.up (xσ34.trans (xσ35.trans (xσ38.trans (xσ39.trans (xσ40.trans (xσ50.trans (xσ52.trans (xσ54.trans (xσ55.trans xσ56)))))))))) (fun i hi => by omega) (by decide) (show (0 : Int) ≤ r57 ∧ r57 ≤ 7 from ⟨by omega, by omega⟩)
      have fσ59 : Fx [323, 326, 327, 329, 331, 333, 386, 387, 388, 389, 390, 6464] gr σ σ59 := fσ56.tr (Sk.fx (by rw [eσ59]; exact Sk.pI (by rw [fcdO (ko.up (xσ34.trans (xσ35.trans (xσ38.trans (xσ39.trans (xσ40.trans (xσ50.trans (xσ52.trans (xσ54.trans (xσ55.trans xσ56)))))))))) (by decide)]; decide)))
      have oxcσ59 : OX o σ σ59 := oxcσ56.tr (by rw [eσ59]; exact OX.pI (ko.up (xσ34.trans (xσ35.trans (xσ38.trans (xσ39.trans (xσ40.trans (xσ50.trans (xσ52.trans (xσ54.trans (xσ55.trans xσ56)))))))))) (Or.inr rfl)) (xσ34.trans (xσ35.trans (xσ38.trans (xσ39.trans (xσ40.trans (xσ50.trans (xσ52.trans (xσ54.trans (xσ55.trans xσ56)))))))))
      have wσ59 : gI σ59 o 13 = r57 := by rw [eσ59]; exact up2_s _ _ _ _
      have kp173 : gP σ59 J 0 = gP σ56 J 0 := by rw [eσ59]
      have kp174 : gP σ59 b (gI σ40 o 7).toNat = gP σ56 b (gI σ40 o 7).toNat := by rw [eσ59]
      have kp175 : gP σ59 th 0 = gP σ56 th 0 := by rw [eσ59]
      have kp176 : gP σ59 th 7 = gP σ56 th 7 := by rw [eσ59]
      have kp177 : gP σ59 th 8 = gP σ56 th 8 := by rw [eσ59]
      have kp178 : gI σ59 th 2 = gI σ56 th 2 := by rw [eσ59]; exact up2_n _ _ (fun q => absurd q.2 (by decide))
      have kp179 : gI σ59 th 3 = gI σ56 th 3 := by rw [eσ59]; exact up2_n _ _ (fun q => absurd q.2 (by decide))
      have kp180 : gI σ59 th 5 = gI σ56 th 5 := by rw [eσ59]; exact up2_n _ _ (fun q => absurd q.2 (by decide))
      have kp181 : Kpt (gI σ59 J 7 = gI σ J 7) := Eq.trans (show gI σ59 J 7 = gI σ56 J 7 from by rw [eσ59]; exact up2_n _ _ (fun q => absurd q.2 (by decide))) kp164
      have kp182 : Kpt (gI σ59 J 1 = gI σ J 1) := Eq.trans (show gI σ59 J 1 = gI σ56 J 1 from by rw [eσ59]; exact up2_n _ _ (fun q => absurd q.2 (by decide))) kp165
      have kp183 : Kpt (gI σ59 J 2 = gI σ J 2) := Eq.trans (show gI σ59 J 2 = gI σ56 J 2 from by rw [eσ59]; exact up2_n _ _ (fun q => absurd q.2 (by decide))) kp166
      have kp184 : Kpt (gI σ59 o 3 = gI σ52 o 3) := Eq.trans (show gI σ59 o 3 = gI σ56 o 3 from by rw [eσ59]; exact up2_n _ _ (fun q => absurd q.2 (by decide))) kp167
      have kp185 : Kpt (gI σ59 o 4 = gI σ o 4) := Eq.trans (show gI σ59 o 4 = gI σ56 o 4 from by rw [eσ59]; exact up2_n _ _ (fun q => absurd q.2 (by decide))) kp168
      have kp186 : Kpt (gI σ59 o 6 = gI σ40 o 6) := Eq.trans (show gI σ59 o 6 = gI σ56 o 6 from by rw [eσ59]; exact up2_n _ _ (fun q => absurd q.2 (by decide))) kp169
      have kp187 : Kpt (gI σ59 o 7 = gI σ40 o 7) := Eq.trans (show gI σ59 o 7 = gI σ56 o 7 from by rw [eσ59]; exact up2_n _ _ (fun q => absurd q.2 (by decide))) kp170
      have kp188 : Kpt (gI σ59 o 8 = gI σ o 8) := Eq.trans (show gI σ59 o 8 = gI σ56 o 8 from by rw [eσ59]; exact up2_n _ _ (fun q => absurd q.2 (by decide))) kp171
      have kp189 : Kpt (gI σ59 o 9 = gI σ38 o 9) := Eq.trans (show gI σ59 o 9 = gI σ56 o 9 from by rw [eσ59]; exact up2_n _ _ (fun q => absurd q.2 (by decide))) kp172
      refine i_X6_next iσ59 (kth.up (xσ34.trans (xσ35.trans (xσ38.trans (xσ39.trans (xσ40.trans (xσ50.trans (xσ52.trans (xσ54.trans (xσ55.trans (xσ56.trans xσ59))))))))))) (kp175.trans (kp158.trans (kp142.trans (kp126.trans (kp110.trans (kp95.trans (kp68.trans (kp54.trans (kp39.trans (kp24.trans (kp16.trans hX0))))))))))) (kX.up (xσ34.trans (xσ35.trans (xσ38.trans (xσ39.trans (xσ40.trans (xσ50.trans (xσ52.trans (xσ54.trans (xσ55.trans (xσ56.trans xσ59))))))))))) (((xσ34.trans (xσ35.trans (xσ38.trans (xσ39.trans (xσ40.trans (xσ50.trans (xσ52.trans (xσ54.trans (xσ55.trans (xσ56.trans xσ59)))))))))) tx kX.1).2.2.trans gX) (by (first | omega | with_reducible assumption | with_reducible exact rng_toInt _ | with_reducible exact rng_wr _ | (unfold rng; omega) | (unfold rng at *; omega) | assumption)) (by (first | omega | with_reducible assumption | with_reducible exact rng_toInt _ | with_reducible exact rng_wr _ | (unfold rng; omega) | (unfold rng at *; omega) | assumption)) (fun σ60 _ iσ60 cσ60 pσ60 => ?_) (fun σx LLx Nx nux E ix cx ux px => hX σx LLx Nx nux E ix (fσ59.tr (cx.mo (by decide))) (ux) (by first | exact px | exact ⟨by have := px.1; omega, px.2⟩ | (first | omega | with_reducible assumption | with_reducible exact rng_toInt _ | with_reducible exact rng_wr _ | (unfold rng; omega) | (unfold rng at *; omega) | assumption)))
      intro xσ60
      have fσ60 : Fx [323, 326, 327, 329, 331, 333, 386, 387, 388, 389, 390, 6464] gr σ σ60 := fσ59.tr (cσ60.mo (by decide))
      have oxcσ60 : OX o σ σ60 := oxcσ59.tr (OX.fx cσ60 (by decide) (by decide)) (xσ34.trans (xσ35.trans (xσ38.trans (xσ39.trans (xσ40.trans (xσ50.trans (xσ52.trans (xσ54.trans (xσ55.trans (xσ56.trans xσ59))))))))))
      have kp190 : gI σ60 o 13 = gI σ59 o 13 := (cσ60.O (ko.up (xσ34.trans (xσ35.trans (xσ38.trans (xσ39.trans (xσ40.trans (xσ50.trans (xσ52.trans (xσ54.trans (xσ55.trans (xσ56.trans xσ59))))))))))) (by decide)).1
      have kp191 : gP σ60 J 0 = gP σ59 J 0 := (cσ60.O (kJ.up (xσ34.trans (xσ35.trans (xσ38.trans (xσ39.trans (xσ40.trans (xσ50.trans (xσ52.trans (xσ54.trans (xσ55.trans (xσ56.trans xσ59))))))))))) (by decide)).2.1
      have kp192 : gP σ60 b (gI σ40 o 7).toNat = gP σ59 b (gI σ40 o 7).toNat := (cσ60.A (mb.up (xσ50.trans (xσ52.trans (xσ54.trans (xσ55.trans (xσ56.trans xσ59)))))) (by decide)).2.1
      have kp193 : gP σ60 th 0 = gP σ59 th 0 := (cσ60.O (kth.up (xσ34.trans (xσ35.trans (xσ38.trans (xσ39.trans (xσ40.trans (xσ50.trans (xσ52.trans (xσ54.trans (xσ55.trans (xσ56.trans xσ59))))))))))) (by decide)).2.1
      have kp194 : gP σ60 th 7 = gP σ59 th 7 := (cσ60.O (kth.up (xσ34.trans (xσ35.trans (xσ38.trans (xσ39.trans (xσ40.trans (xσ50.trans (xσ52.trans (xσ54.trans (xσ55.trans (xσ56.trans xσ59))))))))))) (by decide)).2.1
      have kp195 : gP σ60 th 8 = gP σ59 th 8 := (cσ60.O (kth.up (xσ34.trans (xσ35.trans (xσ38.trans (xσ39.trans (xσ40.trans (xσ50.trans (xσ52.trans (xσ54.trans (xσ55.trans (xσ56.trans xσ59))))))))))) (by decide)).2.1
      have kp196 : Kpt (gI σ60 J 7 = gI σ J 7) := Eq.trans (show gI σ60 J 7 = gI σ59 J 7 from (cσ60.O (kJ.up (xσ34.trans (xσ35.trans (xσ38.trans (xσ39.trans (xσ40.trans (xσ50.trans (xσ52.trans (xσ54.trans (xσ55.trans (xσ56.trans xσ59))))))))))) (by decide)).1) kp181
      have kp197 : Kpt (gI σ60 J 1 = gI σ J 1) := Eq.trans (show gI σ60 J 1 = gI σ59 J 1 from (cσ60.O (kJ.up (xσ34.trans (xσ35.trans (xσ38.trans (xσ39.trans (xσ40.trans (xσ50.trans (xσ52.trans (xσ54.trans (xσ55.trans (xσ56.trans xσ59))))))))))) (by decide)).1) kp182
      have kp198 : Kpt (gI σ60 J 2 = gI σ J 2) := Eq.trans (show gI σ60 J 2 = gI σ59 J 2 from (cσ60.O (kJ.up (xσ34.trans (xσ35.trans (xσ38.trans (xσ39.trans (xσ40.trans (xσ50.trans (xσ52.trans (xσ54.trans (xσ55.trans (xσ56.trans xσ59))))))))))) (by decide)).1) kp183
      have kp199 : Kpt (gI σ60 o 3 = gI σ52 o 3) := Eq.trans (show gI σ60 o 3 = gI σ59 o 3 from (cσ60.O (ko.up (xσ34.trans (xσ35.trans (xσ38.trans (xσ39.trans (xσ40.trans (xσ50.trans (xσ52.trans (xσ54.trans (xσ55.trans (xσ56.trans xσ59))))))))))) (by decide)).1) kp184
      have kp200 : Kpt (gI σ60 o 4 = gI σ o 4) := Eq.trans (show gI σ60 o 4 = gI σ59 o 4 from (cσ60.O (ko.up (xσ34.trans (xσ35.trans (xσ38.trans (xσ39.trans (xσ40.trans (xσ50.trans (xσ52.trans (xσ54.trans (xσ55.trans (xσ56.trans xσ59))))))))))) (by decide)).1) kp185
      have kp201 : Kpt (gI σ60 o 6 = gI σ40 o 6) := Eq.trans (show gI σ60 o 6 = gI σ59 o 6 from (cσ60.O (ko.up (xσ34.trans (xσ35.trans (xσ38.trans (xσ39.trans (xσ40.trans (xσ50.trans (xσ52.trans (xσ54.trans (xσ55.trans (xσ56.trans xσ59))))))))))) (by decide)).1) kp186
      have kp202 : Kpt (gI σ60 o 7 = gI σ40 o 7) := Eq.trans (show gI σ60 o 7 = gI σ59 o 7 from (cσ60.O (ko.up (xσ34.trans (xσ35.trans (xσ38.trans (xσ39.trans (xσ40.trans (xσ50.trans (xσ52.trans (xσ54.trans (xσ55.trans (xσ56.trans xσ59))))))))))) (by decide)).1) kp187
      have kp203 : Kpt (gI σ60 o 8 = gI σ o 8) := Eq.trans (show gI σ60 o 8 = gI σ59 o 8 from (cσ60.O (ko.up (xσ34.trans (xσ35.trans (xσ38.trans (xσ39.trans (xσ40.trans (xσ50.trans (xσ52.trans (xσ54.trans (xσ55.trans (xσ56.trans xσ59))))))))))) (by decide)).1) kp188
      have kp204 : Kpt (gI σ60 o 9 = gI σ38 o 9) := Eq.trans (show gI σ60 o 9 = gI σ59 o 9 from (cσ60.O (ko.up (xσ34.trans (xσ35.trans (xσ38.trans (xσ39.trans (xσ40.trans (xσ50.trans (xσ52.trans (xσ54.trans (xσ55.trans (xσ56.trans xσ59))))))))))) (by decide)).1) kp189
      have r5σ60 := I_6_5 iσ60.1 (kth.up (xσ34.trans (xσ35.trans (xσ38.trans (xσ39.trans (xσ40.trans (xσ50.trans (xσ52.trans (xσ54.trans (xσ55.trans (xσ56.trans (xσ59.trans xσ60))))))))))))
      have ho205 : gI σ60 J 7 = gI σ J 7 := kp196
      have cp206 : (gI σ60 th 5 ≤ gI σ60 th 2 ∧ (gI σ60 th 3 ≠ 0 → gI σ60 th 5 + 1 ≤ gI σ60 th 2)) ∧ gI σ60 J 7 ≤ 2 * gI σ60 th 5 ∧ 0 ≤ gI σ60 th 5 := by omega
      clear pσ60 kp180 kp179 kp178 kp163 kp162 kp161 cp155
      refine i_X6_wantWord iσ60 (kth.up (xσ34.trans (xσ35.trans (xσ38.trans (xσ39.trans (xσ40.trans (xσ50.trans (xσ52.trans (xσ54.trans (xσ55.trans (xσ56.trans (xσ59.trans xσ60)))))))))))) (kp193.trans (kp175.trans (kp158.trans (kp142.trans (kp126.trans (kp110.trans (kp95.trans (kp68.trans (kp54.trans (kp39.trans (kp24.trans (kp16.trans hX0)))))))))))) (kX.up (xσ34.trans (xσ35.trans (xσ38.trans (xσ39.trans (xσ40.trans (xσ50.trans (xσ52.trans (xσ54.trans (xσ55.trans (xσ56.trans (xσ59.trans xσ60)))))))))))) (((xσ34.trans (xσ35.trans (xσ38.trans (xσ39.trans (xσ40.trans (xσ50.trans (xσ52.trans (xσ54.trans (xσ55.trans (xσ56.trans (xσ59.trans xσ60))))))))))) tx kX.1).2.2.trans gX) (by (first | omega | with_reducible assumption | with_reducible exact rng_toInt _ | with_reducible exact rng_wr _ | (unfold rng; omega) | (unfold rng at *; omega) | assumption)) (by (first | omega | with_reducible assumption | with_reducible exact rng_toInt _ | with_reducible exact rng_wr _ | (unfold rng; omega) | (unfold rng at *; omega) | assumption)) (fun σ61 _ iσ61 cσ61 pσ61 => ?_) (fun σx LLx Nx nux E ix cx ux px => hX σx LLx Nx nux E ix (fσ60.tr (cx.mo (by decide))) (ux) (by first | exact px | exact ⟨by have := px.1; omega, px.2⟩ | (first | omega | with_reducible assumption | with_reducible exact rng_toInt _ | with_reducible exact rng_wr _ | (unfold rng; omega) | (unfold rng at *; omega) | assumption)))
      intro xσ61
      have fσ61 : Fx [323, 326, 327, 329, 331, 333, 386, 387, 388, 389, 390, 6464] gr σ σ61 := fσ60.tr (cσ61.mo (by decide))
      have oxcσ61 : OX o σ σ61 := oxcσ60.tr (OX.fx cσ61 (by decide) (by decide)) (xσ34.trans (xσ35.trans (xσ38.trans (xσ39.trans (xσ40.trans (xσ50.trans (xσ52.trans (xσ54.trans (xσ55.trans (xσ56.trans (xσ59.trans xσ60)))))))))))
      have kp207 : gI σ61 o 13 = gI σ60 o 13 := (cσ61.O (ko.up (xσ34.trans (xσ35.trans (xσ38.trans (xσ39.trans (xσ40.trans (xσ50.trans (xσ52.trans (xσ54.trans (xσ55.trans (xσ56.trans (xσ59.trans xσ60)))))))))))) (by decide)).1
      have kp208 : gP σ61 J 0 = gP σ60 J 0 := (cσ61.O (kJ.up (xσ34.trans (xσ35.trans (xσ38.trans (xσ39.trans (xσ40.trans (xσ50.trans (xσ52.trans (xσ54.trans (xσ55.trans (xσ56.trans (xσ59.trans xσ60)))))))))))) (by decide)).2.1
      have kp209 : gP σ61 b (gI σ40 o 7).toNat = gP σ60 b (gI σ40 o 7).toNat := (cσ61.A (mb.up (xσ50.trans (xσ52.trans (xσ54.trans (xσ55.trans (xσ56.trans (xσ59.trans xσ60))))))) (by decide)).2.1
      have kp210 : gP σ61 th 0 = gP σ60 th 0 := (cσ61.O (kth.up (xσ34.trans (xσ35.trans (xσ38.trans (xσ39.trans (xσ40.trans (xσ50.trans (xσ52.trans (xσ54.trans (xσ55.trans (xσ56.trans (xσ59.trans xσ60)))))))))))) (by decide)).2.1
      have kp211 : gP σ61 th 7 = gP σ60 th 7 := (cσ61.O (kth.up (xσ34.trans (xσ35.trans (xσ38.trans (xσ39.trans (xσ40.trans (xσ50.trans (xσ52.trans (xσ54.trans (xσ55.trans (xσ56.trans (xσ59.trans xσ60)))))))))))) (by decide)).2.1
      have kp212 : gP σ61 th 8 = gP σ60 th 8 := (cσ61.O (kth.up (xσ34.trans (xσ35.trans (xσ38.trans (xσ39.trans (xσ40.trans (xσ50.trans (xσ52.trans (xσ54.trans (xσ55.trans (xσ56.trans (xσ59.trans xσ60)))))))))))) (by decide)).2.1
      have kp213 : Kpt (gI σ61 J 7 = gI σ J 7) := Eq.trans (show gI σ61 J 7 = gI σ60 J 7 from (cσ61.O (kJ.up (xσ34.trans (xσ35.trans (xσ38.trans (xσ39.trans (xσ40.trans (xσ50.trans (xσ52.trans (xσ54.trans (xσ55.trans (xσ56.trans (xσ59.trans xσ60)))))))))))) (by decide)).1) kp196
      have kp214 : Kpt (gI σ61 J 1 = gI σ J 1) := Eq.trans (show gI σ61 J 1 = gI σ60 J 1 from (cσ61.O (kJ.up (xσ34.trans (xσ35.trans (xσ38.trans (xσ39.trans (xσ40.trans (xσ50.trans (xσ52.trans (xσ54.trans (xσ55.trans (xσ56.trans (xσ59.trans xσ60)))))))))))) (by decide)).1) kp197
      have kp215 : Kpt (gI σ61 J 2 = gI σ J 2) := Eq.trans (show gI σ61 J 2 = gI σ60 J 2 from (cσ61.O (kJ.up (xσ34.trans (xσ35.trans (xσ38.trans (xσ39.trans (xσ40.trans (xσ50.trans (xσ52.trans (xσ54.trans (xσ55.trans (xσ56.trans (xσ59.trans xσ60)))))))))))) (by decide)).1) kp198
      have kp216 : Kpt (gI σ61 o 3 = gI σ52 o 3) := Eq.trans (show gI σ61 o 3 = gI σ60 o 3 from (cσ61.O (ko.up (xσ34.trans (xσ35.trans (xσ38.trans (xσ39.trans (xσ40.trans (xσ50.trans (xσ52.trans (xσ54.trans (xσ55.trans (xσ56.trans (xσ59.trans xσ60)))))))))))) (by decide)).1) kp199
      have kp217 : Kpt (gI σ61 o 4 = gI σ o 4) := Eq.trans (show gI σ61 o 4 = gI σ60 o 4 from (cσ61.O (ko.up (xσ34.trans (xσ35.trans (xσ38.trans (xσ39.trans (xσ40.trans (xσ50.trans (xσ52.trans (xσ54.trans (xσ55.trans (xσ56.trans (xσ59.trans xσ60)))))))))))) (by decide)).1) kp200
      have kp218 : Kpt (gI σ61 o 6 = gI σ40 o 6) := Eq.trans (show gI σ61 o 6 = gI σ60 o 6 from (cσ61.O (ko.up (xσ34.trans (xσ35.trans (xσ38.trans (xσ39.trans (xσ40.trans (xσ50.trans (xσ52.trans (xσ54.trans (xσ55.trans (xσ56.trans (xσ59.trans xσ60)))))))))))) (by decide)).1) kp201
      have kp219 : Kpt (gI σ61 o 7 = gI σ40 o 7) := Eq.trans (show gI σ61 o 7 = gI σ60 o 7 from (cσ61.O (ko.up (xσ34.trans (xσ35.trans (xσ38.trans (xσ39.trans (xσ40.trans (xσ50.trans (xσ52.trans (xσ54.trans (xσ55.trans (xσ56.trans (xσ59.trans xσ60)))))))))))) (by decide)).1) kp202
      have kp220 : Kpt (gI σ61 o 8 = gI σ o 8) := Eq.trans (show gI σ61 o 8 = gI σ60 o 8 from (cσ61.O (ko.up (xσ34.trans (xσ35.trans (xσ38.trans (xσ39.trans (xσ40.trans (xσ50.trans (xσ52.trans (xσ54.trans (xσ55.trans (xσ56.trans (xσ59.trans xσ60)))))))))))) (by decide)).1) kp203
      have kp221 : Kpt (gI σ61 o 9 = gI σ38 o 9) := Eq.trans (show gI σ61 o 9 = gI σ60 o 9 from (cσ61.O (ko.up (xσ34.trans (xσ35.trans (xσ38.trans (xσ39.trans (xσ40.trans (xσ50.trans (xσ52.trans (xσ54.trans (xσ55.trans (xσ56.trans (xσ59.trans xσ60)))))))))))) (by decide)).1) kp204
      have r5σ61 := I_6_5 iσ61.1 (kth.up (xσ34.trans (xσ35.trans (xσ38.trans (xσ39.trans (xσ40.trans (xσ50.trans (xσ52.trans (xσ54.trans (xσ55.trans (xσ56.trans (xσ59.trans (xσ60.trans xσ61)))))))))))))
      have ho222 : gI σ61 J 7 = gI σ J 7 := kp213
      have cp223 : (gI σ61 th 5 ≤ gI σ61 th 2 ∧ (gI σ61 th 3 ≠ 0 → gI σ61 th 5 + 1 ≤ gI σ61 th 2)) ∧ gI σ61 J 7 ≤ 2 * gI σ61 th 5 ∧ 0 ≤ gI σ61 th 5 := by omega
      clear pσ61 cp206
      refine i_X6_number iσ61 (kth.up (xσ34.trans (xσ35.trans (xσ38.trans (xσ39.trans (xσ40.trans (xσ50.trans (xσ52.trans (xσ54.trans (xσ55.trans (xσ56.trans (xσ59.trans (xσ60.trans xσ61))))))))))))) (by (first | omega | with_reducible assumption | with_reducible exact rng_toInt _ | with_reducible exact rng_wr _ | (unfold rng; omega) | (unfold rng at *; omega) | assumption)) (by (first | omega | with_reducible assumption | with_reducible exact rng_toInt _ | with_reducible exact rng_wr _ | (unfold rng; omega) | (unfold rng at *; omega) | assumption)) (fun σ62 r63 iσ62 cσ62 pσ62 => ?_) (fun σx LLx Nx nux E ix cx ux px => hX σx LLx Nx nux E ix (fσ61.tr (cx.mo (by decide))) (ux) (by first | exact px | exact ⟨by have := px.1; omega, px.2⟩ | (first | omega | with_reducible assumption | with_reducible exact rng_toInt _ | with_reducible exact rng_wr _ | (unfold rng; omega) | (unfold rng at *; omega) | assumption)))
      intro xσ62
      have fσ62 : Fx [323, 326, 327, 329, 331, 333, 386, 387, 388, 389, 390, 6464] gr σ σ62 := fσ61.tr (cσ62.mo (by decide))
      have oxcσ62 : OX o σ σ62 := oxcσ61.tr (OX.fx cσ62 (by decide) (by decide)) (xσ34.trans (xσ35.trans (xσ38.trans (xσ39.trans (xσ40.trans (xσ50.trans (xσ52.trans (xσ54.trans (xσ55.trans (xσ56.trans (xσ59.trans (xσ60.trans xσ61))))))))))))
      have kp224 : gI σ62 o 13 = gI σ61 o 13 := (cσ62.O (ko.up (xσ34.trans (xσ35.trans (xσ38.trans (xσ39.trans (xσ40.trans (xσ50.trans (xσ52.trans (xσ54.trans (xσ55.trans (xσ56.trans (xσ59.trans (xσ60.trans xσ61))))))))))))) (by decide)).1
      have kp225 : gP σ62 J 0 = gP σ61 J 0 := (cσ62.O (kJ.up (xσ34.trans (xσ35.trans (xσ38.trans (xσ39.trans (xσ40.trans (xσ50.trans (xσ52.trans (xσ54.trans (xσ55.trans (xσ56.trans (xσ59.trans (xσ60.trans xσ61))))))))))))) (by decide)).2.1
      have kp226 : gP σ62 b (gI σ40 o 7).toNat = gP σ61 b (gI σ40 o 7).toNat := (cσ62.A (mb.up (xσ50.trans (xσ52.trans (xσ54.trans (xσ55.trans (xσ56.trans (xσ59.trans (xσ60.trans xσ61)))))))) (by decide)).2.1
      have kp227 : gP σ62 th 0 = gP σ61 th 0 := (cσ62.O (kth.up (xσ34.trans (xσ35.trans (xσ38.trans (xσ39.trans (xσ40.trans (xσ50.trans (xσ52.trans (xσ54.trans (xσ55.trans (xσ56.trans (xσ59.trans (xσ60.trans xσ61))))))))))))) (by decide)).2.1
      have kp228 : gP σ62 th 7 = gP σ61 th 7 := (cσ62.O (kth.up (xσ34.trans (xσ35.trans (xσ38.trans (xσ39.trans (xσ40.trans (xσ50.trans (xσ52.trans (xσ54.trans (xσ55.trans (xσ56.trans (xσ59.trans (xσ60.trans xσ61))))))))))))) (by decide)).2.1
      have kp229 : gP σ62 th 8 = gP σ61 th 8 := (cσ62.O (kth.up (xσ34.trans (xσ35.trans (xσ38.trans (xσ39.trans (xσ40.trans (xσ50.trans (xσ52.trans (xσ54.trans (xσ55.trans (xσ56.trans (xσ59.trans (xσ60.trans xσ61))))))))))))) (by decide)).2.1
      have kp230 : gI σ62 th 2 = gI σ61 th 2 := (cσ62.O (kth.up (xσ34.trans (xσ35.trans (xσ38.trans (xσ39.trans (xσ40.trans (xσ50.trans (xσ52.trans (xσ54.trans (xσ55.trans (xσ56.trans (xσ59.trans (xσ60.trans xσ61))))))))))))) (by decide)).1
      have kp231 : gI σ62 th 3 = gI σ61 th 3 := (cσ62.O (kth.up (xσ34.trans (xσ35.trans (xσ38.trans (xσ39.trans (xσ40.trans (xσ50.trans (xσ52.trans (xσ54.trans (xσ55.trans (xσ56.trans (xσ59.trans (xσ60.trans xσ61))))))))))))) (by decide)).1
      have kp232 : gI σ62 th 5 = gI σ61 th 5 := (cσ62.O (kth.up (xσ34.trans (xσ35.trans (xσ38.trans (xσ39.trans (xσ40.trans (xσ50.trans (xσ52.trans (xσ54.trans (xσ55.trans (xσ56.trans (xσ59.trans (xσ60.trans xσ61))))))))))))) (by decide)).1
      have kp233 : Kpt (gI σ62 J 7 = gI σ J 7) := Eq.trans (show gI σ62 J 7 = gI σ61 J 7 from (cσ62.O (kJ.up (xσ34.trans (xσ35.trans (xσ38.trans (xσ39.trans (xσ40.trans (xσ50.trans (xσ52.trans (xσ54.trans (xσ55.trans (xσ56.trans (xσ59.trans (xσ60.trans xσ61))))))))))))) (by decide)).1) kp213
      have kp234 : Kpt (gI σ62 J 1 = gI σ J 1) := Eq.trans (show gI σ62 J 1 = gI σ61 J 1 from (cσ62.O (kJ.up (xσ34.trans (xσ35.trans (xσ38.trans (xσ39.trans (xσ40.trans (xσ50.trans (xσ52.trans (xσ54.trans (xσ55.trans (xσ56.trans (xσ59.trans (xσ60.trans xσ61))))))))))))) (by decide)).1) kp214
      have kp235 : Kpt (gI σ62 J 2 = gI σ J 2) := Eq.trans (show gI σ62 J 2 = gI σ61 J 2 from (cσ62.O (kJ.up (xσ34.trans (xσ35.trans (xσ38.trans (xσ39.trans (xσ40.trans (xσ50.trans (xσ52.trans (xσ54.trans (xσ55.trans (xσ56.trans (xσ59.trans (xσ60.trans xσ61))))))))))))) (by decide)).1) kp215
      have kp236 : Kpt (gI σ62 o 3 = gI σ52 o 3) := Eq.trans (show gI σ62 o 3 = gI σ61 o 3 from (cσ62.O (ko.up (xσ34.trans (xσ35.trans (xσ38.trans (xσ39.trans (xσ40.trans (xσ50.trans (xσ52.trans (xσ54.trans (xσ55.trans (xσ56.trans (xσ59.trans (xσ60.trans xσ61))))))))))))) (by decide)).1) kp216
      have kp237 : Kpt (gI σ62 o 4 = gI σ o 4) := Eq.trans (show gI σ62 o 4 = gI σ61 o 4 from (cσ62.O (ko.up (xσ34.trans (xσ35.trans (xσ38.trans (xσ39.trans (xσ40.trans (xσ50.trans (xσ52.trans (xσ54.trans (xσ55.trans (xσ56.trans (xσ59.trans (xσ60.trans xσ61))))))))))))) (by decide)).1) kp217
      have kp238 : Kpt (gI σ62 o 6 = gI σ40 o 6) := Eq.trans (show gI σ62 o 6 = gI σ61 o 6 from (cσ62.O (ko.up (xσ34.trans (xσ35.trans (xσ38.trans (xσ39.trans (xσ40.trans (xσ50.trans (xσ52.trans (xσ54.trans (xσ55.trans (xσ56.trans (xσ59.trans (xσ60.trans xσ61))))))))))))) (by decide)).1) kp218
      have kp239 : Kpt (gI σ62 o 7 = gI σ40 o 7) := Eq.trans (show gI σ62 o 7 = gI σ61 o 7 from (cσ62.O (ko.up (xσ34.trans (xσ35.trans (xσ38.trans (xσ39.trans (xσ40.trans (xσ50.trans (xσ52.trans (xσ54.trans (xσ55.trans (xσ56.trans (xσ59.trans (xσ60.trans xσ61))))))))))))) (by decide)).1) kp219
      have kp240 : Kpt (gI σ62 o 8 = gI σ o 8) := Eq.trans (show gI σ62 o 8 = gI σ61 o 8 from (cσ62.O (ko.up (xσ34.trans (xσ35.trans (xσ38.trans (xσ39.trans (xσ40.trans (xσ50.trans (xσ52.trans (xσ54.trans (xσ55.trans (xσ56.trans (xσ59.trans (xσ60.trans xσ61))))))))))))) (by decide)).1) kp220
      have kp241 : Kpt (gI σ62 o 9 = gI σ38 o 9) := Eq.trans (show gI σ62 o 9 = gI σ61 o 9 from (cσ62.O (ko.up (xσ34.trans (xσ35.trans (xσ38.trans (xσ39.trans (xσ40.trans (xσ50.trans (xσ52.trans (xσ54.trans (xσ55.trans (xσ56.trans (xσ59.trans (xσ60.trans xσ61))))))))))))) (by decide)).1) kp221
      refine ⟨o, (kp212.trans (kp195.trans (kp177.trans (kp160.trans (kp144.trans (kp128.trans (kp112.trans (kp97.trans (kp70.trans (kp56.trans (kp41.trans (kp26.trans (kp18.trans h8))))))))))))), fun kk_o_5 => ?_⟩
      intro σ65 eσ65
      have xσ65 : Ext σ62 σ65 := by rw [eσ65]; exact fun _ h => ⟨h, rfl, rfl⟩
      have iσ65 : IV σ65 pl gq ci gr nc ot LL N nu := by rw [eσ65]; exact iσ62.wSp (ko.up (xσ34.trans (xσ35.trans (xσ38.trans (xσ39.trans (xσ40.trans (xσ50.trans (xσ52.trans (xσ54.trans (xσ55.trans (xσ56.trans (xσ59.trans (xσ60.trans (xσ61.trans xσ62)))))))))))))) (fun i hi => by omega) (by decide) (show (0 : Int) ≤ r63 ∧ r63 ≤ 1000 from ⟨by omega, by omega⟩)
      have fσ65 : Fx [323, 326, 327, 329, 331, 333, 386, 387, 388, 389, 390, 6464] gr σ σ65 := fσ62.tr (Sk.fx (by rw [eσ65]; exact Sk.pI (by rw [fcdO (ko.up (xσ34.trans (xσ35.trans (xσ38.trans (xσ39.trans (xσ40.trans (xσ50.trans (xσ52.trans (xσ54.trans (xσ55.trans (xσ56.trans (xσ59.trans (xσ60.trans (xσ61.trans xσ62)))))))))))))) (by decide)]; decide)))
      have oxcσ65 : OX o σ σ65 := oxcσ62.tr (by rw [eσ65]; exact OX.pI (ko.up (xσ34.trans (xσ35.trans (xσ38.trans (xσ39.trans (xσ40.trans (xσ50.trans (xσ52.trans (xσ54.trans (xσ55.trans (xσ56.trans (xσ59.trans (xσ60.trans (xσ61.trans xσ62)))))))))))))) (Or.inr rfl)) (xσ34.trans (xσ35.trans (xσ38.trans (xσ39.trans (xσ40.trans (xσ50.trans (xσ52.trans (xσ54.trans (xσ55.trans (xσ56.trans (xσ59.trans (xσ60.trans (xσ61.trans xσ62)))))))))))))
      have wσ65 : gI σ65 o 11 = r63 := by rw [eσ65]; exact up2_s _ _ _ _
      have kp242 : gI σ65 o 13 = gI σ62 o 13 := by rw [eσ65]; exact up2_n _ _ (fun q => absurd q.2 (by decide))
      have kp243 : gP σ65 J 0 = gP σ62 J 0 := by rw [eσ65]
      have kp244 : gP σ65 b (gI σ40 o 7).toNat = gP σ62 b (gI σ40 o 7).toNat := by rw [eσ65]
      have kp245 : gP σ65 th 0 = gP σ62 th 0 := by rw [eσ65]
      have kp246 : gP σ65 th 7 = gP σ62 th 7 := by rw [eσ65]
      have kp247 : gP σ65 th 8 = gP σ62 th 8 := by rw [eσ65]
      have kp248 : gI σ65 th 2 = gI σ62 th 2 := by rw [eσ65]; exact up2_n _ _ (fun q => absurd q.2 (by decide))
      have kp249 : gI σ65 th 3 = gI σ62 th 3 := by rw [eσ65]; exact up2_n _ _ (fun q => absurd q.2 (by decide))
      have kp250 : gI σ65 th 5 = gI σ62 th 5 := by rw [eσ65]; exact up2_n _ _ (fun q => absurd q.2 (by decide))
      have kp251 : Kpt (gI σ65 J 7 = gI σ J 7) := Eq.trans (show gI σ65 J 7 = gI σ62 J 7 from by rw [eσ65]; exact up2_n _ _ (fun q => absurd q.2 (by decide))) kp233
      have kp252 : Kpt (gI σ65 J 1 = gI σ J 1) := Eq.trans (show gI σ65 J 1 = gI σ62 J 1 from by rw [eσ65]; exact up2_n _ _ (fun q => absurd q.2 (by decide))) kp234
      have kp253 : Kpt (gI σ65 J 2 = gI σ J 2) := Eq.trans (show gI σ65 J 2 = gI σ62 J 2 from by rw [eσ65]; exact up2_n _ _ (fun q => absurd q.2 (by decide))) kp235
      have kp254 : Kpt (gI σ65 o 3 = gI σ52 o 3) := Eq.trans (show gI σ65 o 3 = gI σ62 o 3 from by rw [eσ65]; exact up2_n _ _ (fun q => absurd q.2 (by decide))) kp236
      have kp255 : Kpt (gI σ65 o 4 = gI σ o 4) := Eq.trans (show gI σ65 o 4 = gI σ62 o 4 from by rw [eσ65]; exact up2_n _ _ (fun q => absurd q.2 (by decide))) kp237
      have kp256 : Kpt (gI σ65 o 6 = gI σ40 o 6) := Eq.trans (show gI σ65 o 6 = gI σ62 o 6 from by rw [eσ65]; exact up2_n _ _ (fun q => absurd q.2 (by decide))) kp238
      have kp257 : Kpt (gI σ65 o 7 = gI σ40 o 7) := Eq.trans (show gI σ65 o 7 = gI σ62 o 7 from by rw [eσ65]; exact up2_n _ _ (fun q => absurd q.2 (by decide))) kp239
      have kp258 : Kpt (gI σ65 o 8 = gI σ o 8) := Eq.trans (show gI σ65 o 8 = gI σ62 o 8 from by rw [eσ65]; exact up2_n _ _ (fun q => absurd q.2 (by decide))) kp240
      have kp259 : Kpt (gI σ65 o 9 = gI σ38 o 9) := Eq.trans (show gI σ65 o 9 = gI σ62 o 9 from by rw [eσ65]; exact up2_n _ _ (fun q => absurd q.2 (by decide))) kp241
      refine i_X6_next iσ65 (kth.up (xσ34.trans (xσ35.trans (xσ38.trans (xσ39.trans (xσ40.trans (xσ50.trans (xσ52.trans (xσ54.trans (xσ55.trans (xσ56.trans (xσ59.trans (xσ60.trans (xσ61.trans (xσ62.trans xσ65))))))))))))))) (kp245.trans (kp227.trans (kp210.trans (kp193.trans (kp175.trans (kp158.trans (kp142.trans (kp126.trans (kp110.trans (kp95.trans (kp68.trans (kp54.trans (kp39.trans (kp24.trans (kp16.trans hX0))))))))))))))) (kX.up (xσ34.trans (xσ35.trans (xσ38.trans (xσ39.trans (xσ40.trans (xσ50.trans (xσ52.trans (xσ54.trans (xσ55.trans (xσ56.trans (xσ59.trans (xσ60.trans (xσ61.trans (xσ62.trans xσ65))))))))))))))) (((xσ34.trans (xσ35.trans (xσ38.trans (xσ39.trans (xσ40.trans (xσ50.trans (xσ52.trans (xσ54.trans (xσ55.trans (xσ56.trans (xσ59.trans (xσ60.trans (xσ61.trans (xσ62.trans xσ65)))))))))))))) tx kX.1).2.2.trans gX) (by (first | omega | with_reducible assumption | with_reducible exact rng_toInt _ | with_reducible exact rng_wr _ | (unfold rng; omega) | (unfold rng at *; omega) | assumption)) (by (first | omega | with_reducible assumption | with_reducible exact rng_toInt _ | with_reducible exact rng_wr _ | (unfold rng; omega) | (unfold rng at *; omega) | assumption)) (fun σ66 _ iσ66 cσ66 pσ66 => ?_) (fun σx LLx Nx nux E ix cx ux px => hX σx LLx Nx nux E ix (fσ65.tr (cx.mo (by decide))) (ux) (by first | exact px | exact ⟨by have := px.1; omega, px.2⟩ | (first | omega | with_reducible assumption | with_reducible exact rng_toInt _ | with_reducible exact rng_wr _ | (unfold rng; omega) | (unfold rng at *; omega) | assumption)))
      intro xσ66
      have fσ66 : Fx [323, 326, 327, 329, 331, 333, 386, 387, 388, 389, 390, 6464] gr σ σ66 := fσ65.tr (cσ66.mo (by decide))
      have oxcσ66 : OX o σ σ66 := oxcσ65.tr (OX.fx cσ66 (by decide) (by decide)) (xσ34.trans (xσ35.trans (xσ38.trans (xσ39.trans (xσ40.trans (xσ50.trans (xσ52.trans (xσ54.trans (xσ55.trans (xσ56.trans (xσ59.trans (xσ60.trans (xσ61.trans (xσ62.trans xσ65))))))))))))))
      have kp260 : gI σ66 o 11 = gI σ65 o 11 := (cσ66.O (ko.up (xσ34.trans (xσ35.trans (xσ38.trans (xσ39.trans (xσ40.trans (xσ50.trans (xσ52.trans (xσ54.trans (xσ55.trans (xσ56.trans (xσ59.trans (xσ60.trans (xσ61.trans (xσ62.trans xσ65))))))))))))))) (by decide)).1
      have kp261 : gI σ66 o 13 = gI σ65 o 13 := (cσ66.O (ko.up (xσ34.trans (xσ35.trans (xσ38.trans (xσ39.trans (xσ40.trans (xσ50.trans (xσ52.trans (xσ54.trans (xσ55.trans (xσ56.trans (xσ59.trans (xσ60.trans (xσ61.trans (xσ62.trans xσ65))))))))))))))) (by decide)).1
      have kp262 : gP σ66 J 0 = gP σ65 J 0 := (cσ66.O (kJ.up (xσ34.trans (xσ35.trans (xσ38.trans (xσ39.trans (xσ40.trans (xσ50.trans (xσ52.trans (xσ54.trans (xσ55.trans (xσ56.trans (xσ59.trans (xσ60.trans (xσ61.trans (xσ62.trans xσ65))))))))))))))) (by decide)).2.1
      have kp263 : gP σ66 b (gI σ40 o 7).toNat = gP σ65 b (gI σ40 o 7).toNat := (cσ66.A (mb.up (xσ50.trans (xσ52.trans (xσ54.trans (xσ55.trans (xσ56.trans (xσ59.trans (xσ60.trans (xσ61.trans (xσ62.trans xσ65)))))))))) (by decide)).2.1
      have kp264 : gP σ66 th 0 = gP σ65 th 0 := (cσ66.O (kth.up (xσ34.trans (xσ35.trans (xσ38.trans (xσ39.trans (xσ40.trans (xσ50.trans (xσ52.trans (xσ54.trans (xσ55.trans (xσ56.trans (xσ59.trans (xσ60.trans (xσ61.trans (xσ62.trans xσ65))))))))))))))) (by decide)).2.1
      have kp265 : gP σ66 th 7 = gP σ65 th 7 := (cσ66.O (kth.up (xσ34.trans (xσ35.trans (xσ38.trans (xσ39.trans (xσ40.trans (xσ50.trans (xσ52.trans (xσ54.trans (xσ55.trans (xσ56.trans (xσ59.trans (xσ60.trans (xσ61.trans (xσ62.trans xσ65))))))))))))))) (by decide)).2.1
      have kp266 : gP σ66 th 8 = gP σ65 th 8 := (cσ66.O (kth.up (xσ34.trans (xσ35.trans (xσ38.trans (xσ39.trans (xσ40.trans (xσ50.trans (xσ52.trans (xσ54.trans (xσ55.trans (xσ56.trans (xσ59.trans (xσ60.trans (xσ61.trans (xσ62.trans xσ65))))))))))))))) (by decide)).2.1
      have kp267 : Kpt (gI σ66 J 7 = gI σ J 7) := Eq.trans (show gI σ66 J 7 = gI σ65 J 7 from (cσ66.O (kJ.up (xσ34.trans (xσ35.trans (xσ38.trans (xσ39.trans (xσ40.trans (xσ50.trans (xσ52.trans (xσ54.trans (xσ55.trans (xσ56.trans (xσ59.trans (xσ60.trans (xσ61.trans (xσ62.trans xσ65))))))))))))))) (by decide)).1) kp251
      have kp268 : Kpt (gI σ66 J 1 = gI σ J 1) := Eq.trans (show gI σ66 J 1 = gI σ65 J 1 from (cσ66.O (kJ.up (xσ34.trans (xσ35.trans (xσ38.trans (xσ39.trans (xσ40.trans (xσ50.trans (xσ52.trans (xσ54.trans (xσ55.trans (xσ56.trans (xσ59.trans (xσ60.trans (xσ61.trans (xσ62.trans xσ65))))))))))))))) (by decide)).1) kp252
      have kp269 : Kpt (gI σ66 J 2 = gI σ J 2) := Eq.trans (show gI σ66 J 2 = gI σ65 J 2 from (cσ66.O (kJ.up (xσ34.trans (xσ35.trans (xσ38.trans (xσ39.trans (xσ40.trans (xσ50.trans (xσ52.trans (xσ54.trans (xσ55.trans (xσ56.trans (xσ59.trans (xσ60.trans (xσ61.trans (xσ62.trans xσ65))))))))))))))) (by decide)).1) kp253
      have kp270 : Kpt (gI σ66 o 3 = gI σ52 o 3) := Eq.trans (show gI σ66 o 3 = gI σ65 o 3 from (cσ66.O (ko.up (xσ34.trans (xσ35.trans (xσ38.trans (xσ39.trans (xσ40.trans (xσ50.trans (xσ52.trans (xσ54.trans (xσ55.trans (xσ56.trans (xσ59.trans (xσ60.trans (xσ61.trans (xσ62.trans xσ65))))))))))))))) (by decide)).1) kp254
      have kp271 : Kpt (gI σ66 o 4 = gI σ o 4) := Eq.trans (show gI σ66 o 4 = gI σ65 o 4 from (cσ66.O (ko.up (xσ34.trans (xσ35.trans (xσ38.trans (xσ39.trans (xσ40.trans (xσ50.trans (xσ52.trans (xσ54.trans (xσ55.trans (xσ56.trans (xσ59.trans (xσ60.trans (xσ61.trans (xσ62.trans xσ65))))))))))))))) (by decide)).1) kp255
      have kp272 : Kpt (gI σ66 o 6 = gI σ40 o 6) := Eq.trans (show gI σ66 o 6 = gI σ65 o 6 from (cσ66.O (ko.up (xσ34.trans (xσ35.trans (xσ38.trans (xσ39.trans (xσ40.trans (xσ50.trans (xσ52.trans (xσ54.trans (xσ55.trans (xσ56.trans (xσ59.trans (xσ60.trans (xσ61.trans (xσ62.trans xσ65))))))))))))))) (by decide)).1) kp256
      have kp273 : Kpt (gI σ66 o 7 = gI σ40 o 7) := Eq.trans (show gI σ66 o 7 = gI σ65 o 7 from (cσ66.O (ko.up (xσ34.trans (xσ35.trans (xσ38.trans (xσ39.trans (xσ40.trans (xσ50.trans (xσ52.trans (xσ54.trans (xσ55.trans (xσ56.trans (xσ59.trans (xσ60.trans (xσ61.trans (xσ62.trans xσ65))))))))))))))) (by decide)).1) kp257
      have kp274 : Kpt (gI σ66 o 8 = gI σ o 8) := Eq.trans (show gI σ66 o 8 = gI σ65 o 8 from (cσ66.O (ko.up (xσ34.trans (xσ35.trans (xσ38.trans (xσ39.trans (xσ40.trans (xσ50.trans (xσ52.trans (xσ54.trans (xσ55.trans (xσ56.trans (xσ59.trans (xσ60.trans (xσ61.trans (xσ62.trans xσ65))))))))))))))) (by decide)).1) kp258
      have kp275 : Kpt (gI σ66 o 9 = gI σ38 o 9) := Eq.trans (show gI σ66 o 9 = gI σ65 o 9 from (cσ66.O (ko.up (xσ34.trans (xσ35.trans (xσ38.trans (xσ39.trans (xσ40.trans (xσ50.trans (xσ52.trans (xσ54.trans (xσ55.trans (xσ56.trans (xσ59.trans (xσ60.trans (xσ61.trans (xσ62.trans xσ65))))))))))))))) (by decide)).1) kp259
      have r5σ66 := I_6_5 iσ66.1 (kth.up (xσ34.trans (xσ35.trans (xσ38.trans (xσ39.trans (xσ40.trans (xσ50.trans (xσ52.trans (xσ54.trans (xσ55.trans (xσ56.trans (xσ59.trans (xσ60.trans (xσ61.trans (xσ62.trans (xσ65.trans xσ66))))))))))))))))
      have ho276 : gI σ66 J 7 = gI σ J 7 := kp267
      have cp277 : (gI σ66 th 5 ≤ gI σ66 th 2 ∧ (gI σ66 th 3 ≠ 0 → gI σ66 th 5 + 1 ≤ gI σ66 th 2)) ∧ gI σ66 J 7 ≤ 2 * gI σ66 th 5 ∧ 0 ≤ gI σ66 th 5 := by omega
      clear pσ66 kp250 kp249 kp248 kp232 kp231 kp230 cp223
      have ho278 : gI σ66 J 1 = gI σ J 1 := kp268
      have ho279 : gI σ66 J 2 = gI σ J 2 := kp269
      have ho280 : gI σ66 o 3 = gI σ52 o 3 := kp270
      have ho281 : gI σ66 o 4 = gI σ o 4 := kp271
      have ho282 : gI σ66 o 6 = gI σ40 o 6 := kp272
      have ho283 : gI σ66 o 7 = gI σ40 o 7 := kp273
      have ho284 : gI σ66 o 8 = gI σ o 8 := kp274
      have ho285 : gI σ66 o 9 = gI σ38 o 9 := kp275
      exact hQ σ66 () iσ66 fσ66 oxcσ66 (⟨by omega, by omega, ⟨by omega, (fun h => absurd h (by omega)), (fun _ a ka ga => by have w9 := wf a ka (by omega); omega)⟩⟩)
    · rw [if_neg hc90]
      have hc90q := Classical.not_not.mp hc90
      unfold w_X6_topText_70
      refine i_X6_refuse iσ40 (kth.up (xσ34.trans (xσ35.trans (xσ38.trans (xσ39.trans xσ40))))) (by (first | omega | with_reducible assumption | with_reducible exact rng_toInt _ | with_reducible exact rng_wr _ | (unfold rng; omega) | (unfold rng at *; omega) | assumption)) (by (first | omega | with_reducible assumption | with_reducible exact rng_toInt _ | with_reducible exact rng_wr _ | (unfold rng; omega) | (unfold rng at *; omega) | assumption)) (by (first | omega | with_reducible assumption | with_reducible exact rng_toInt _ | with_reducible exact rng_wr _ | (unfold rng; omega) | (unfold rng at *; omega) | assumption)) (fun σ49 _ iσ49 cσ49 pσ49 => ?_) (fun σx LLx Nx nux E ix cx ux px => hX σx LLx Nx nux E ix (fσ40.tr (cx.mo (by decide))) (ux) (by first | exact px | exact ⟨by have := px.1; omega, px.2⟩ | (first | omega | with_reducible assumption | with_reducible exact rng_toInt _ | with_reducible exact rng_wr _ | (unfold rng; omega) | (unfold rng at *; omega) | assumption)))
      intro xσ49
      exact pσ49.elim
  · rw [if_neg hc89]
    unfold w_X6_topText_55
    refine i_X6_refuse iσ40 (kth.up (xσ34.trans (xσ35.trans (xσ38.trans (xσ39.trans xσ40))))) (by (first | omega | with_reducible assumption | with_reducible exact rng_toInt _ | with_reducible exact rng_wr _ | (unfold rng; omega) | (unfold rng at *; omega) | assumption)) (by (first | omega | with_reducible assumption | with_reducible exact rng_toInt _ | with_reducible exact rng_wr _ | (unfold rng; omega) | (unfold rng at *; omega) | assumption)) (by (first | omega | with_reducible assumption | with_reducible exact rng_toInt _ | with_reducible exact rng_wr _ | (unfold rng; omega) | (unfold rng at *; omega) | assumption)) (fun σ47 _ iσ47 cσ47 pσ47 => ?_) (fun σx LLx Nx nux E ix cx ux px => hX σx LLx Nx nux E ix (fσ40.tr (cx.mo (by decide))) (ux) (by first | exact px | exact ⟨by have := px.1; omega, px.2⟩ | (first | omega | with_reducible assumption | with_reducible exact rng_toInt _ | with_reducible exact rng_wr _ | (unfold rng; omega) | (unfold rng at *; omega) | assumption)))
    intro xσ47
    exact pσ47.elim

set_option maxHeartbeats 1000000 in
theorem i_X6_read {σ : Sg} {pl : Nat} {gq ci gr nc : Nat → Nat} {ot : Nat → Nat → Int} {LL : Nat → List Nat} {N nu : Nat → Nat} {th : Nat} {v1 : Option Nat} {v2 : Int} {v3 : Option Nat} {q : Nat} (iσ : IV σ pl gq ci gr nc ot LL N nu) (kth : kO σ th 6) {tx : Nat} (hv1 : v1 = some tx) (ktx : kO σ tx 102) {J : Nat} (hv3 : v3 = some J) (kJ : kO σ J 4) (gX : gn σ tx = 1500) (hJq : gq J = q) (hq : q ≠ nc 0 ∧ q ≤ 1) (h2 : 0 ≤ v2) (h5 : nu 5 < 24000) {Q : Sg → Int → Prop} {X : Sg → String → Prop} (hQ : ∀ (σ' : Sg) (nu' : Nat → Nat) (r : Int), IV σ' pl gq ci gr nc ot LL N nu' → Fx [257, 258, 261, 262, 263, 323, 324, 325, 326, 327, 328, 329, 330, 331, 332, 333, 334, 335, 336, 384, 385, 386, 387, 388, 389, 390, 391, 392, 6464, 6592, 8320, 8384, 8448] gr σ σ' → NCX nu nu' → (rng r ∧ (r ≠ 0 ∨ ∃ ot' c u, SO σ' gq gr (ncq q c u) ot')) → Q σ' r) : wp_X6_read th v1 v2 v3 σ Q X := by
  have fσ : Fx [257, 258, 261, 262, 263, 323, 324, 325, 326, 327, 328, 329, 330, 331, 332, 333, 334, 335, 336, 384, 385, 386, 387, 388, 389, 390, 391, 392, 6464, 6592, 8320, 8384, 8448] gr σ σ := Fx.rf
  unfold wp_X6_read
  unfold w_X6_read_0
  intro σ19 eσ19
  have xσ19 : Ext σ σ19 := by rw [eσ19]; exact fun _ h => ⟨h, rfl, rfl⟩
  have iσ19 : IV σ19 pl gq ci gr nc ot LL N nu := by rw [eσ19]; exact iσ.wP kth (by decide) (by intro q; exact absurd q (by simp [lbN])) (by intro _ _; trivial) (by intro q; exact absurd q (by decide))
  have fσ19 : Fx [257, 258, 261, 262, 263, 323, 324, 325, 326, 327, 328, 329, 330, 331, 332, 333, 334, 335, 336, 384, 385, 386, 387, 388, 389, 390, 391, 392, 6464, 6592, 8320, 8384, 8448] gr σ σ19 := fσ.tr (Sk.fx (by rw [eσ19]; exact Sk.pP (by rw [fcdO kth (by decide)]; decide)))
  have wσ19 : gP σ19 th 0 = v1 := by rw [eσ19]; exact up2_s _ _ _ _
  have kp1 : gI σ19 th 2 = gI σ th 2 := by rw [eσ19]
  have kp2 : gI σ19 th 3 = gI σ th 3 := by rw [eσ19]
  have kp3 : gI σ19 th 5 = gI σ th 5 := by rw [eσ19]
  have kp4 : gI σ19 J 7 = gI σ J 7 := by rw [eσ19]
  have kp5 : gI σ19 J 1 = gI σ J 1 := by rw [eσ19]
  have kp6 : gI σ19 J 2 = gI σ J 2 := by rw [eσ19]
  refine ⟨tx, hv1, fun kk_tx => ?_⟩
  have q7 := (xσ19 tx ktx.1).2.2
  refine i_J9_min_7cf53 iσ19 (fun r22 pσ21 => ?_)
  intro xσ21
  intro σ23 eσ23
  have xσ23 : Ext σ19 σ23 := by rw [eσ23]; exact fun _ h => ⟨h, rfl, rfl⟩
  have iσ23 : IV σ23 pl gq ci gr nc ot LL N nu := by rw [eσ23]; exact iσ19.wO (kth.up xσ19) (by decide) (show (0 : Int) ≤ r22 ∧ r22 ≤ 1500 from ⟨by (first | omega | with_reducible assumption | with_reducible exact rng_toInt _ | with_reducible exact rng_wr _ | (unfold rng; omega) | (unfold rng at *; omega) | assumption), by (first | omega | with_reducible assumption | with_reducible exact rng_toInt _ | with_reducible exact rng_wr _ | (unfold rng; omega) | (unfold rng at *; omega) | assumption)⟩)
  have fσ23 : Fx [257, 258, 261, 262, 263, 323, 324, 325, 326, 327, 328, 329, 330, 331, 332, 333, 334, 335, 336, 384, 385, 386, 387, 388, 389, 390, 391, 392, 6464, 6592, 8320, 8384, 8448] gr σ σ23 := fσ19.tr (Sk.fx (by rw [eσ23]; exact Sk.pI (by rw [fcdO (kth.up xσ19) (by decide)]; decide)))
  have wσ23 : gI σ23 th 1 = r22 := by rw [eσ23]; exact up2_s _ _ _ _
  have kp8 : gI σ23 th 0 = gI σ19 th 0 := by rw [eσ23]; exact up2_n _ _ (fun q => absurd q.2 (by decide))
  have kp9 : gP σ23 th 0 = gP σ19 th 0 := by rw [eσ23]
  have kp10 : gI σ23 th 2 = gI σ19 th 2 := by rw [eσ23]; exact up2_n _ _ (fun q => absurd q.2 (by decide))
  have kp11 : gI σ23 th 3 = gI σ19 th 3 := by rw [eσ23]; exact up2_n _ _ (fun q => absurd q.2 (by decide))
  have kp12 : gI σ23 th 5 = gI σ19 th 5 := by rw [eσ23]; exact up2_n _ _ (fun q => absurd q.2 (by decide))
  have kp13 : gI σ23 J 7 = gI σ19 J 7 := by rw [eσ23]; exact up2_n _ _ (fun q => absurd q.2 (by decide))
  have kp14 : gI σ23 J 1 = gI σ19 J 1 := by rw [eσ23]; exact up2_n _ _ (fun q => absurd q.1 (kO.ne (kJ.up xσ19) (kth.up xσ19) (by decide)))
  have kp15 : gI σ23 J 2 = gI σ19 J 2 := by rw [eσ23]; exact up2_n _ _ (fun q => absurd q.2 (by decide))
  intro σ24 eσ24
  have xσ24 : Ext σ23 σ24 := by rw [eσ24]; exact fun _ h => ⟨h, rfl, rfl⟩
  have iσ24 : IV σ24 pl gq ci gr nc ot LL N nu := by rw [eσ24]; exact iσ23.wO (kth.up (xσ19.trans xσ23)) (by decide) (show (0 : Int) ≤ 0 ∧ 0 ≤ 1500 from ⟨by (first | omega | with_reducible assumption | with_reducible exact rng_toInt _ | with_reducible exact rng_wr _ | (unfold rng; omega) | (unfold rng at *; omega) | assumption), by (first | omega | with_reducible assumption | with_reducible exact rng_toInt _ | with_reducible exact rng_wr _ | (unfold rng; omega) | (unfold rng at *; omega) | assumption)⟩)
  have fσ24 : Fx [257, 258, 261, 262, 263, 323, 324, 325, 326, 327, 328, 329, 330, 331, 332, 333, 334, 335, 336, 384, 385, 386, 387, 388, 389, 390, 391, 392, 6464, 6592, 8320, 8384, 8448] gr σ σ24 := fσ23.tr (Sk.fx (by rw [eσ24]; exact Sk.pI (by rw [fcdO (kth.up (xσ19.trans xσ23)) (by decide)]; decide)))
  have wσ24 : gI σ24 th 2 = 0 := by rw [eσ24]; exact up2_s _ _ _ _
  have kp16 : gI σ24 th 0 = gI σ23 th 0 := by rw [eσ24]; exact up2_n _ _ (fun q => absurd q.2 (by decide))
  have kp17 : gI σ24 th 1 = gI σ23 th 1 := by rw [eσ24]; exact up2_n _ _ (fun q => absurd q.2 (by decide))
  have kp18 : gP σ24 th 0 = gP σ23 th 0 := by rw [eσ24]
  have kp19 : gI σ24 th 3 = gI σ23 th 3 := by rw [eσ24]; exact up2_n _ _ (fun q => absurd q.2 (by decide))
  have kp20 : gI σ24 th 5 = gI σ23 th 5 := by rw [eσ24]; exact up2_n _ _ (fun q => absurd q.2 (by decide))
  have kp21 : gI σ24 J 7 = gI σ23 J 7 := by rw [eσ24]; exact up2_n _ _ (fun q => absurd q.2 (by decide))
  have kp22 : gI σ24 J 1 = gI σ23 J 1 := by rw [eσ24]; exact up2_n _ _ (fun q => absurd q.2 (by decide))
  have kp23 : gI σ24 J 2 = gI σ23 J 2 := by rw [eσ24]; exact up2_n _ _ (fun q => absurd q.1 (kO.ne (kJ.up (xσ19.trans xσ23)) (kth.up (xσ19.trans xσ23)) (by decide)))
  intro σ25 eσ25
  have xσ25 : Ext σ24 σ25 := by rw [eσ25]; exact fun _ h => ⟨h, rfl, rfl⟩
  have iσ25 : IV σ25 pl gq ci gr nc ot LL N nu := by rw [eσ25]; exact iσ24.wO (kth.up (xσ19.trans (xσ23.trans xσ24))) (by decide) (rngb (by first | exact rng_wr _ | (first | omega | with_reducible assumption | with_reducible exact rng_toInt _ | with_reducible exact rng_wr _ | (unfold rng; omega) | (unfold rng at *; omega) | assumption)))
  have fσ25 : Fx [257, 258, 261, 262, 263, 323, 324, 325, 326, 327, 328, 329, 330, 331, 332, 333, 334, 335, 336, 384, 385, 386, 387, 388, 389, 390, 391, 392, 6464, 6592, 8320, 8384, 8448] gr σ σ25 := fσ24.tr (Sk.fx (by rw [eσ25]; exact Sk.pI (by rw [fcdO (kth.up (xσ19.trans (xσ23.trans xσ24))) (by decide)]; decide)))
  have wσ25 : gI σ25 th 6 = 0 := by rw [eσ25]; exact up2_s _ _ _ _
  have kp24 : gI σ25 th 0 = gI σ24 th 0 := by rw [eσ25]; exact up2_n _ _ (fun q => absurd q.2 (by decide))
  have kp25 : gI σ25 th 1 = gI σ24 th 1 := by rw [eσ25]; exact up2_n _ _ (fun q => absurd q.2 (by decide))
  have kp26 : gI σ25 th 2 = gI σ24 th 2 := by rw [eσ25]; exact up2_n _ _ (fun q => absurd q.2 (by decide))
  have kp27 : gP σ25 th 0 = gP σ24 th 0 := by rw [eσ25]
  have kp28 : gI σ25 th 3 = gI σ24 th 3 := by rw [eσ25]; exact up2_n _ _ (fun q => absurd q.2 (by decide))
  have kp29 : gI σ25 th 5 = gI σ24 th 5 := by rw [eσ25]; exact up2_n _ _ (fun q => absurd q.2 (by decide))
  have kp30 : gI σ25 J 7 = gI σ24 J 7 := by rw [eσ25]; exact up2_n _ _ (fun q => absurd q.2 (by decide))
  have kp31 : gI σ25 J 1 = gI σ24 J 1 := by rw [eσ25]; exact up2_n _ _ (fun q => absurd q.2 (by decide))
  have kp32 : gI σ25 J 2 = gI σ24 J 2 := by rw [eσ25]; exact up2_n _ _ (fun q => absurd q.2 (by decide))
  intro σ26 eσ26
  have xσ26 : Ext σ25 σ26 := by rw [eσ26]; exact fun _ h => ⟨h, rfl, rfl⟩
  have iσ26 : IV σ26 pl gq ci gr nc ot LL N nu := by rw [eσ26]; exact iσ25.wP (kth.up (xσ19.trans (xσ23.trans (xσ24.trans xσ25)))) (by decide) (by intro q; exact absurd q (by simp [lbN])) (by intro _ _; trivial) (by intro q; exact absurd q (by decide))
  have fσ26 : Fx [257, 258, 261, 262, 263, 323, 324, 325, 326, 327, 328, 329, 330, 331, 332, 333, 334, 335, 336, 384, 385, 386, 387, 388, 389, 390, 391, 392, 6464, 6592, 8320, 8384, 8448] gr σ σ26 := fσ25.tr (Sk.fx (by rw [eσ26]; exact Sk.pP (by rw [fcdO (kth.up (xσ19.trans (xσ23.trans (xσ24.trans xσ25)))) (by decide)]; decide)))
  have wσ26 : gP σ26 th 7 = v3 := by rw [eσ26]; exact up2_s _ _ _ _
  have kp33 : gI σ26 th 0 = gI σ25 th 0 := by rw [eσ26]
  have kp34 : gI σ26 th 1 = gI σ25 th 1 := by rw [eσ26]
  have kp35 : gI σ26 th 2 = gI σ25 th 2 := by rw [eσ26]
  have kp36 : gI σ26 th 6 = gI σ25 th 6 := by rw [eσ26]
  have kp37 : gP σ26 th 0 = gP σ25 th 0 := by rw [eσ26]; exact up2_n _ _ (fun q => absurd q.2 (by decide))
  have kp38 : gI σ26 th 3 = gI σ25 th 3 := by rw [eσ26]
  have kp39 : gI σ26 th 5 = gI σ25 th 5 := by rw [eσ26]
  have kp40 : gI σ26 J 7 = gI σ25 J 7 := by rw [eσ26]
  have kp41 : gI σ26 J 1 = gI σ25 J 1 := by rw [eσ26]
  have kp42 : gI σ26 J 2 = gI σ25 J 2 := by rw [eσ26]
  refine ⟨J, (wσ26.trans hv3), fun kk_J => ?_⟩
  refine i_X4_forget iσ26 (kJ.up (xσ19.trans (xσ23.trans (xσ24.trans (xσ25.trans xσ26))))) (by (first | omega | with_reducible assumption | with_reducible exact rng_toInt _ | with_reducible exact rng_wr _ | (unfold rng; omega) | (unfold rng at *; omega) | assumption)) (by (first | omega | with_reducible assumption | with_reducible exact rng_toInt _ | with_reducible exact rng_wr _ | (unfold rng; omega) | (unfold rng at *; omega) | assumption)) (fun σ27 _ iσ27 cσ27 pσ27 => ?_)
  intro xσ27
  have fσ27 : Fx [257, 258, 261, 262, 263, 323, 324, 325, 326, 327, 328, 329, 330, 331, 332, 333, 334, 335, 336, 384, 385, 386, 387, 388, 389, 390, 391, 392, 6464, 6592, 8320, 8384, 8448] gr σ σ27 := fσ26.tr (cσ27.mo (by decide))
  have kp43 : gI σ27 th 0 = gI σ26 th 0 := (cσ27.O (kth.up (xσ19.trans (xσ23.trans (xσ24.trans (xσ25.trans xσ26))))) (by decide)).1
  have kp44 : gI σ27 th 1 = gI σ26 th 1 := (cσ27.O (kth.up (xσ19.trans (xσ23.trans (xσ24.trans (xσ25.trans xσ26))))) (by decide)).1
  have kp45 : gI σ27 th 2 = gI σ26 th 2 := (cσ27.O (kth.up (xσ19.trans (xσ23.trans (xσ24.trans (xσ25.trans xσ26))))) (by decide)).1
  have kp46 : gI σ27 th 6 = gI σ26 th 6 := (cσ27.O (kth.up (xσ19.trans (xσ23.trans (xσ24.trans (xσ25.trans xσ26))))) (by decide)).1
  have kp47 : gI σ27 th 7 = gI σ26 th 7 := (cσ27.O (kth.up (xσ19.trans (xσ23.trans (xσ24.trans (xσ25.trans xσ26))))) (by decide)).1
  have kp48 : gP σ27 th 0 = gP σ26 th 0 := (cσ27.O (kth.up (xσ19.trans (xσ23.trans (xσ24.trans (xσ25.trans xσ26))))) (by decide)).2.1
  have kp49 : gP σ27 th 7 = gP σ26 th 7 := (cσ27.O (kth.up (xσ19.trans (xσ23.trans (xσ24.trans (xσ25.trans xσ26))))) (by decide)).2.1
  have kp50 : gI σ27 th 3 = gI σ26 th 3 := (cσ27.O (kth.up (xσ19.trans (xσ23.trans (xσ24.trans (xσ25.trans xσ26))))) (by decide)).1
  have kp51 : gI σ27 th 5 = gI σ26 th 5 := (cσ27.O (kth.up (xσ19.trans (xσ23.trans (xσ24.trans (xσ25.trans xσ26))))) (by decide)).1
  unfold w_X6_read_37
  refine i0_X6_next iσ27 (kth.up (xσ19.trans (xσ23.trans (xσ24.trans (xσ25.trans (xσ26.trans xσ27)))))) (kp48.trans (kp37.trans (kp27.trans (kp18.trans (kp9.trans (wσ19.trans hv1)))))) (ktx.up (xσ19.trans (xσ23.trans (xσ24.trans (xσ25.trans (xσ26.trans xσ27)))))) (((xσ19.trans (xσ23.trans (xσ24.trans (xσ25.trans (xσ26.trans xσ27))))) tx ktx.1).2.2.trans gX) (by (first | omega | with_reducible assumption | with_reducible exact rng_toInt _ | with_reducible exact rng_wr _ | (unfold rng; omega) | (unfold rng at *; omega) | assumption)) (fun σ29 _ iσ29 cσ29 pσ29 => ?_) ?_
  · skip
    intro xσ29
    have fσ29 : Fx [257, 258, 261, 262, 263, 323, 324, 325, 326, 327, 328, 329, 330, 331, 332, 333, 334, 335, 336, 384, 385, 386, 387, 388, 389, 390, 391, 392, 6464, 6592, 8320, 8384, 8448] gr σ σ29 := fσ27.tr (cσ29.mo (by decide))
    have kp52 : gI σ29 th 0 = gI σ27 th 0 := (cσ29.O (kth.up (xσ19.trans (xσ23.trans (xσ24.trans (xσ25.trans (xσ26.trans xσ27)))))) (by decide)).1
    have kp53 : gI σ29 th 1 = gI σ27 th 1 := (cσ29.O (kth.up (xσ19.trans (xσ23.trans (xσ24.trans (xσ25.trans (xσ26.trans xσ27)))))) (by decide)).1
    have kp54 : gI σ29 th 7 = gI σ27 th 7 := (cσ29.O (kth.up (xσ19.trans (xσ23.trans (xσ24.trans (xσ25.trans (xσ26.trans xσ27)))))) (by decide)).1
    have kp55 : gP σ29 th 0 = gP σ27 th 0 := (cσ29.O (kth.up (xσ19.trans (xσ23.trans (xσ24.trans (xσ25.trans (xσ26.trans xσ27)))))) (by decide)).2.1
    have kp56 : gP σ29 th 7 = gP σ27 th 7 := (cσ29.O (kth.up (xσ19.trans (xσ23.trans (xσ24.trans (xσ25.trans (xσ26.trans xσ27)))))) (by decide)).2.1
    have kp57 : gI σ29 J 7 = gI σ27 J 7 := (cσ29.O (kJ.up (xσ19.trans (xσ23.trans (xσ24.trans (xσ25.trans (xσ26.trans xσ27)))))) (by decide)).1
    have kp58 : gI σ29 J 1 = gI σ27 J 1 := (cσ29.O (kJ.up (xσ19.trans (xσ23.trans (xσ24.trans (xσ25.trans (xσ26.trans xσ27)))))) (by decide)).1
    have kp59 : gI σ29 J 2 = gI σ27 J 2 := (cσ29.O (kJ.up (xσ19.trans (xσ23.trans (xσ24.trans (xσ25.trans (xσ26.trans xσ27)))))) (by decide)).1
    have r5σ29 := I_6_5 iσ29.1 (kth.up (xσ19.trans (xσ23.trans (xσ24.trans (xσ25.trans (xσ26.trans (xσ27.trans xσ29)))))))
    have Lp44 : ∀ (fu44 : Nat) (τ44 : Sg) (nut44 : Nat → Nat) (v4 : Int), IV τ44 pl gq ci gr nc ot LL N nut44 → Fx [257, 258, 261, 262, 263, 323, 324, 325, 326, 327, 328, 329, 330, 331, 332, 333, 334, 335, 336, 384, 385, 386, 387, 388, 389, 390, 391, 392, 6464, 6592, 8320, 8384, 8448] gr σ τ44 → Ext σ29 τ44 → NC nu nut44 → (∃ (ot2 : Nat → Nat → Int) (u : Nat), (((0 ≤ v4 ∧ v4 ≤ 16) ∧ gI τ44 J 1 = v4 ∧ (gI τ44 th 5 ≤ gI τ44 th 2 ∧ (gI τ44 th 3 ≠ 0 → gI τ44 th 5 + 1 ≤ gI τ44 th 2)) ∧ gI τ44 J 7 ≤ 2 * gI τ44 th 5) ∧ SO τ44 gq gr (ncq q v4.toNat u) ot2 ∧ KV τ44 th ∧ gP τ44 th 0 = some tx ∧ gP τ44 th 7 = some J) ∧ ((17 - v4).toNat) < fu44) → wl_X6_read_44 th Q X fu44 τ44 v4 := by
      intro fu44
      induction fu44 with
      | zero => intro _ _ _ _ _ _ _ h9; obtain ⟨_, _, _, h9⟩ := h9; omega
      | succ fu44 ih44 =>
        intro τ44 nut44 v4 iτ44 fτ44 xτ44 nu_τ44 hi44
        obtain ⟨ot2, u, hi44, hm44⟩ := hi44
        have uτ44_0 := nu_τ44 0 (by decide) (by decide)
        have uτ44_1 := nu_τ44 1 (by decide) (by decide)
        have uτ44_2 := nu_τ44 2 (by decide) (by decide)
        have uτ44_5 := nu_τ44 5 (by decide) (by decide)
        have uτ44_15 := nu_τ44 15 (by decide) (by decide)
        have uτ44_16 := nu_τ44 16 (by decide) (by decide)
        unfold wl_X6_read_44
        have hi8 := hi44.1
        obtain ⟨o9, ho9⟩ := iτ44.opAt (kJ.up (xσ19.trans (xσ23.trans (xσ24.trans (xσ25.trans (xσ26.trans (xσ27.trans (xσ29.trans xτ44)))))))) hJq v4.toNat
        have r71 := I_4_1 iτ44.1 (kJ.up (xσ19.trans (xσ23.trans (xσ24.trans (xσ25.trans (xσ26.trans (xσ27.trans (xσ29.trans xτ44))))))))
        unfold w_X6_read_44
        by_cases hc60 : v4 > 16
        · rw [if_pos hc60]
          unfold w_X6_read_101
          unfold w_X6_read_111
          exact hQ τ44 nut44 0 iτ44 fτ44 (nu_τ44.nx) (⟨by unfold rng; omega, Or.inr ⟨_, _, _, hi44.2.1⟩⟩)
        · rw [if_neg hc60]
          unfold w_X6_read_51
          have q62 := iτ44.rg th 3; unfold rng at q62
          by_cases hc61 : gI τ44 th 3 ≠ 0
          · rw [if_pos hc61]
            unfold w_X6_read_68
            refine i_X6_statementHead (c := v4.toNat) (o := o9) iτ44 (kth.up (xσ19.trans (xσ23.trans (xσ24.trans (xσ25.trans (xσ26.trans (xσ27.trans (xσ29.trans xτ44)))))))) hi44.2.2.2.1 (ktx.up (xσ19.trans (xσ23.trans (xσ24.trans (xσ25.trans (xσ26.trans (xσ27.trans (xσ29.trans xτ44)))))))) (((xσ19.trans (xσ23.trans (xσ24.trans (xσ25.trans (xσ26.trans (xσ27.trans (xσ29.trans xτ44))))))) tx ktx.1).2.2.trans gX) hi44.2.2.2.2 (kJ.up (xσ19.trans (xσ23.trans (xσ24.trans (xσ25.trans (xσ26.trans (xσ27.trans (xσ29.trans xτ44)))))))) (by (first | omega | with_reducible assumption | with_reducible exact rng_toInt _ | with_reducible exact rng_wr _ | (unfold rng; omega) | (unfold rng at *; omega) | assumption)) (by (first | omega | with_reducible assumption | with_reducible exact rng_toInt _ | with_reducible exact rng_wr _ | (unfold rng; omega) | (unfold rng at *; omega) | assumption)) (by (first | omega | with_reducible assumption | with_reducible exact rng_toInt _ | with_reducible exact rng_wr _ | (unfold rng; omega) | (unfold rng at *; omega) | assumption)) (by (first | omega | with_reducible assumption | with_reducible exact rng_toInt _ | with_reducible exact rng_wr _ | (unfold rng; omega) | (unfold rng at *; omega) | assumption)) (by (first | omega | with_reducible assumption | with_reducible exact rng_toInt _ | with_reducible exact rng_wr _ | (unfold rng; omega) | (unfold rng at *; omega) | assumption)) (by (first | omega | with_reducible assumption | with_reducible exact rng_toInt _ | with_reducible exact rng_wr _ | (unfold rng; omega) | (unfold rng at *; omega) | assumption)) hi44.2.2.1 ho9 (fun σ31 r32 iσ31 cσ31 oxσ31 pσ31 => ?_) ?_
            · skip
              intro xσ31
              have fσ31 : Fx [257, 258, 261, 262, 263, 323, 324, 325, 326, 327, 328, 329, 330, 331, 332, 333, 334, 335, 336, 384, 385, 386, 387, 388, 389, 390, 391, 392, 6464, 6592, 8320, 8384, 8448] gr σ σ31 := fτ44.tr (cσ31.mo (by decide))
              have kp63 : gP σ31 th 0 = gP τ44 th 0 := (cσ31.O (kth.up (xσ19.trans (xσ23.trans (xσ24.trans (xσ25.trans (xσ26.trans (xσ27.trans (xσ29.trans xτ44)))))))) (by decide)).2.1
              have kp64 : gP σ31 th 7 = gP τ44 th 7 := (cσ31.O (kth.up (xσ19.trans (xσ23.trans (xσ24.trans (xσ25.trans (xσ26.trans (xσ27.trans (xσ29.trans xτ44)))))))) (by decide)).2.1
              have kp65 : gI σ31 J 7 = gI τ44 J 7 := (cσ31.O (kJ.up (xσ19.trans (xσ23.trans (xσ24.trans (xσ25.trans (xσ26.trans (xσ27.trans (xσ29.trans xτ44)))))))) (by decide)).1
              have kp66 : gI σ31 J 1 = gI τ44 J 1 := (cσ31.O (kJ.up (xσ19.trans (xσ23.trans (xσ24.trans (xσ25.trans (xσ26.trans (xσ27.trans (xσ29.trans xτ44)))))))) (by decide)).1
              have kp67 : gI σ31 J 2 = gI τ44 J 2 := (cσ31.O (kJ.up (xσ19.trans (xσ23.trans (xσ24.trans (xσ25.trans (xσ26.trans (xσ27.trans (xσ29.trans xτ44)))))))) (by decide)).1
              have ho8 := ho9 pσ31.2.1.1
              have ko9 : kO σ31 o9 5 := ho8.1.up xσ31
              refine i_X6_operatorText (c := v4.toNat) (o := o9) iσ31 (kth.up (xσ19.trans (xσ23.trans (xσ24.trans (xσ25.trans (xσ26.trans (xσ27.trans (xσ29.trans (xτ44.trans xσ31))))))))) (kp63.trans hi44.2.2.2.1) (ktx.up (xσ19.trans (xσ23.trans (xσ24.trans (xσ25.trans (xσ26.trans (xσ27.trans (xσ29.trans (xτ44.trans xσ31))))))))) (((xσ19.trans (xσ23.trans (xσ24.trans (xσ25.trans (xσ26.trans (xσ27.trans (xσ29.trans (xτ44.trans xσ31)))))))) tx ktx.1).2.2.trans gX) (kp64.trans hi44.2.2.2.2) (kJ.up (xσ19.trans (xσ23.trans (xσ24.trans (xσ25.trans (xσ26.trans (xσ27.trans (xσ29.trans (xτ44.trans xσ31))))))))) pσ31.2.1.2 (by (first | omega | with_reducible assumption | with_reducible exact rng_toInt _ | with_reducible exact rng_wr _ | (unfold rng; omega) | (unfold rng at *; omega) | assumption)) (by (first | omega | with_reducible assumption | with_reducible exact rng_toInt _ | with_reducible exact rng_wr _ | (unfold rng; omega) | (unfold rng at *; omega) | assumption)) (by (first | omega | with_reducible assumption | with_reducible exact rng_toInt _ | with_reducible exact rng_wr _ | (unfold rng; omega) | (unfold rng at *; omega) | assumption)) (by (first | omega | with_reducible assumption | with_reducible exact rng_toInt _ | with_reducible exact rng_wr _ | (unfold rng; omega) | (unfold rng at *; omega) | assumption)) (by (first | omega | with_reducible assumption | with_reducible exact rng_toInt _ | with_reducible exact rng_wr _ | (unfold rng; omega) | (unfold rng at *; omega) | assumption)) (by (first | omega | with_reducible assumption | with_reducible exact rng_toInt _ | with_reducible exact rng_wr _ | (unfold rng; omega) | (unfold rng at *; omega) | assumption)) (by (first | omega | with_reducible assumption | with_reducible exact rng_toInt _ | with_reducible exact rng_wr _ | (unfold rng; omega) | (unfold rng at *; omega) | assumption)) (by (first | omega | with_reducible assumption | with_reducible exact rng_toInt _ | with_reducible exact rng_wr _ | (unfold rng; omega) | (unfold rng at *; omega) | assumption)) (by (first | omega | with_reducible assumption | with_reducible exact rng_toInt _ | with_reducible exact rng_wr _ | (unfold rng; omega) | (unfold rng at *; omega) | assumption)) (by (first | omega | with_reducible assumption | with_reducible exact rng_toInt _ | with_reducible exact rng_wr _ | (unfold rng; omega) | (unfold rng at *; omega) | assumption)) pσ31.2.2.1 (by (first | omega | with_reducible assumption | with_reducible exact rng_toInt _ | with_reducible exact rng_wr _ | (unfold rng; omega) | (unfold rng at *; omega) | assumption)) (fun σ33 nuσ33 _ iσ33 cσ33 uσ33 oxσ33 pσ33 => ?_) ?_
              · skip
                intro xσ33
                have fσ33 : Fx [257, 258, 261, 262, 263, 323, 324, 325, 326, 327, 328, 329, 330, 331, 332, 333, 334, 335, 336, 384, 385, 386, 387, 388, 389, 390, 391, 392, 6464, 6592, 8320, 8384, 8448] gr σ σ33 := fσ31.tr (cσ33.mo (by decide))
                have nu_σ33 : NC nu nuσ33 := nu_τ44.tr uσ33
                have uσ33_0 := uσ33 0 (by decide) (by decide)
                have uσ33_1 := uσ33 1 (by decide) (by decide)
                have uσ33_2 := uσ33 2 (by decide) (by decide)
                have uσ33_5 := uσ33 5 (by decide) (by decide)
                have uσ33_15 := uσ33 15 (by decide) (by decide)
                have uσ33_16 := uσ33 16 (by decide) (by decide)
                have kp68 : gP σ33 th 0 = gP σ31 th 0 := (cσ33.O (kth.up (xσ19.trans (xσ23.trans (xσ24.trans (xσ25.trans (xσ26.trans (xσ27.trans (xσ29.trans (xτ44.trans xσ31))))))))) (by decide)).2.1
                have kp69 : gP σ33 th 7 = gP σ31 th 7 := (cσ33.O (kth.up (xσ19.trans (xσ23.trans (xσ24.trans (xσ25.trans (xσ26.trans (xσ27.trans (xσ29.trans (xτ44.trans xσ31))))))))) (by decide)).2.1
                have kp70 : gP σ33 th 8 = gP σ31 th 8 := (cσ33.O (kth.up (xσ19.trans (xσ23.trans (xσ24.trans (xσ25.trans (xσ26.trans (xσ27.trans (xσ29.trans (xτ44.trans xσ31))))))))) (by decide)).2.1
                have kp71 : gI σ33 J 1 = gI σ31 J 1 := (cσ33.O (kJ.up (xσ19.trans (xσ23.trans (xσ24.trans (xσ25.trans (xσ26.trans (xσ27.trans (xσ29.trans (xτ44.trans xσ31))))))))) (by decide)).1
                have lp33 := pσ33.2.1
                have tf33 := pσ33.1
                have go9 := ho8.2.1
                refine i_X6_wantSign iσ33 (kth.up (xσ19.trans (xσ23.trans (xσ24.trans (xσ25.trans (xσ26.trans (xσ27.trans (xσ29.trans (xτ44.trans (xσ31.trans xσ33)))))))))) (kp68.trans (kp63.trans hi44.2.2.2.1)) (ktx.up (xσ19.trans (xσ23.trans (xσ24.trans (xσ25.trans (xσ26.trans (xσ27.trans (xσ29.trans (xτ44.trans (xσ31.trans xσ33)))))))))) (((xσ19.trans (xσ23.trans (xσ24.trans (xσ25.trans (xσ26.trans (xσ27.trans (xσ29.trans (xτ44.trans (xσ31.trans xσ33))))))))) tx ktx.1).2.2.trans gX) (by (first | omega | with_reducible assumption | with_reducible exact rng_toInt _ | with_reducible exact rng_wr _ | (unfold rng; omega) | (unfold rng at *; omega) | assumption)) (by (first | omega | with_reducible assumption | with_reducible exact rng_toInt _ | with_reducible exact rng_wr _ | (unfold rng; omega) | (unfold rng at *; omega) | assumption)) (fun σ34 _ iσ34 cσ34 pσ34 => ?_) ?_
                · skip
                  intro xσ34
                  have fσ34 : Fx [257, 258, 261, 262, 263, 323, 324, 325, 326, 327, 328, 329, 330, 331, 332, 333, 334, 335, 336, 384, 385, 386, 387, 388, 389, 390, 391, 392, 6464, 6592, 8320, 8384, 8448] gr σ σ34 := fσ33.tr (cσ34.mo (by decide))
                  have kp72 : gP σ34 th 0 = gP σ33 th 0 := (cσ34.O (kth.up (xσ19.trans (xσ23.trans (xσ24.trans (xσ25.trans (xσ26.trans (xσ27.trans (xσ29.trans (xτ44.trans (xσ31.trans xσ33)))))))))) (by decide)).2.1
                  have kp73 : gP σ34 th 7 = gP σ33 th 7 := (cσ34.O (kth.up (xσ19.trans (xσ23.trans (xσ24.trans (xσ25.trans (xσ26.trans (xσ27.trans (xσ29.trans (xτ44.trans (xσ31.trans xσ33)))))))))) (by decide)).2.1
                  have kp74 : gP σ34 th 8 = gP σ33 th 8 := (cσ34.O (kth.up (xσ19.trans (xσ23.trans (xσ24.trans (xσ25.trans (xσ26.trans (xσ27.trans (xσ29.trans (xτ44.trans (xσ31.trans xσ33)))))))))) (by decide)).2.1
                  have kp75 : gI σ34 J 7 = gI σ33 J 7 := (cσ34.O (kJ.up (xσ19.trans (xσ23.trans (xσ24.trans (xσ25.trans (xσ26.trans (xσ27.trans (xσ29.trans (xτ44.trans (xσ31.trans xσ33)))))))))) (by decide)).1
                  have kp76 : gI σ34 J 1 = gI σ33 J 1 := (cσ34.O (kJ.up (xσ19.trans (xσ23.trans (xσ24.trans (xσ25.trans (xσ26.trans (xσ27.trans (xσ29.trans (xτ44.trans (xσ31.trans xσ33)))))))))) (by decide)).1
                  have kp77 : gI σ34 J 2 = gI σ33 J 2 := (cσ34.O (kJ.up (xσ19.trans (xσ23.trans (xσ24.trans (xσ25.trans (xσ26.trans (xσ27.trans (xσ29.trans (xτ44.trans (xσ31.trans xσ33)))))))))) (by decide)).1
                  have kv34 := pσ34.1
                  have r5σ34 := I_6_5 iσ34.1 (kth.up (xσ19.trans (xσ23.trans (xσ24.trans (xσ25.trans (xσ26.trans (xσ27.trans (xσ29.trans (xτ44.trans (xσ31.trans (xσ33.trans xσ34)))))))))))
                  refine ⟨J, (kp73.trans (kp69.trans (kp64.trans hi44.2.2.2.2))), fun kk_J_1 => ?_⟩
                  have q78 := I_4_1 iσ34.1 (kJ.up (xσ19.trans (xσ23.trans (xσ24.trans (xσ25.trans (xσ26.trans (xσ27.trans (xσ29.trans (xτ44.trans (xσ31.trans (xσ33.trans xσ34)))))))))))
                  refine ⟨by (first | omega | with_reducible assumption | with_reducible exact rng_toInt _ | with_reducible exact rng_wr _ | (unfold rng; omega) | (unfold rng at *; omega) | assumption), ?_⟩
                  intro σ36 eσ36
                  have xσ36 : Ext σ34 σ36 := by rw [eσ36]; exact fun _ h => ⟨h, rfl, rfl⟩
                  have iσ36 : IV σ36 pl gq ci gr nc ot LL N nuσ33 := by rw [eσ36]; exact iσ34.wSj (kJ.up (xσ19.trans (xσ23.trans (xσ24.trans (xσ25.trans (xσ26.trans (xσ27.trans (xσ29.trans (xτ44.trans (xσ31.trans (xσ33.trans xσ34))))))))))) (by omega) (Or.inl rfl) (show (0 : Int) ≤ (gI σ34 J 1 + 1) ∧ (gI σ34 J 1 + 1) ≤ 16 from ⟨by omega, by omega⟩)
                  have fσ36 : Fx [257, 258, 261, 262, 263, 323, 324, 325, 326, 327, 328, 329, 330, 331, 332, 333, 334, 335, 336, 384, 385, 386, 387, 388, 389, 390, 391, 392, 6464, 6592, 8320, 8384, 8448] gr σ σ36 := fσ34.tr (Sk.fx (by rw [eσ36]; exact Sk.pI (by rw [fcdO (kJ.up (xσ19.trans (xσ23.trans (xσ24.trans (xσ25.trans (xσ26.trans (xσ27.trans (xσ29.trans (xτ44.trans (xσ31.trans (xσ33.trans xσ34))))))))))) (by decide)]; decide)))
                  have wσ36 : gI σ36 J 1 = (gI σ34 J 1 + 1) := by rw [eσ36]; exact up2_s _ _ _ _
                  have kp79 : gP σ36 th 0 = gP σ34 th 0 := by rw [eσ36]
                  have kp80 : gP σ36 th 7 = gP σ34 th 7 := by rw [eσ36]
                  have kp81 : gP σ36 th 8 = gP σ34 th 8 := by rw [eσ36]
                  have kp82 : gI σ36 th 2 = gI σ34 th 2 := by rw [eσ36]; exact up2_n _ _ (fun q => absurd q.2 (by decide))
                  have kp83 : gI σ36 th 3 = gI σ34 th 3 := by rw [eσ36]; exact up2_n _ _ (fun q => absurd q.2 (by decide))
                  have kp84 : gI σ36 th 5 = gI σ34 th 5 := by rw [eσ36]; exact up2_n _ _ (fun q => absurd q.2 (by decide))
                  have kp85 : gI σ36 J 7 = gI σ34 J 7 := by rw [eσ36]; exact up2_n _ _ (fun q => absurd q.2 (by decide))
                  have kp86 : gI σ36 J 2 = gI σ34 J 2 := by rw [eσ36]; exact up2_n _ _ (fun q => absurd q.2 (by decide))
                  obtain ⟨ot3, u3, so3⟩ := SO.next iτ44 iσ36 hi44.2.1 (kJ.up (xσ19.trans (xσ23.trans (xσ24.trans (xσ25.trans (xσ26.trans (xσ27.trans (xσ29.trans xτ44)))))))) hJq pσ31.2.1.1 ho8.1 go9 oxσ31 cσ31 (by decide) oxσ33 cσ33 (by decide) pσ33.2.2.1 pσ33.2.2.2 cσ34 (by decide) eσ36 (by omega)
                  have kv36 : KV σ36 th := kv34.mov (by rw [eσ36]; exact up2_n _ _ (fun q => absurd q.1 (kO.ne (kth.up (xσ19.trans (xσ23.trans (xσ24.trans (xσ25.trans (xσ26.trans (xσ27.trans (xσ29.trans (xτ44.trans (xσ31.trans (xσ33.trans xσ34))))))))))) (kJ.up (xσ19.trans (xσ23.trans (xσ24.trans (xσ25.trans (xσ26.trans (xσ27.trans (xσ29.trans (xτ44.trans (xσ31.trans (xσ33.trans xσ34))))))))))) (by decide)))) (by rw [eσ36])
                  refine ⟨by (first | omega | with_reducible assumption | with_reducible exact rng_toInt _ | with_reducible exact rng_wr _ | (unfold rng; omega) | (unfold rng at *; omega) | assumption), ?_⟩
                  exact ih44 σ36 nuσ33 (v4 + 1) iσ36 fσ36 (xτ44.trans (xσ31.trans (xσ33.trans (xσ34.trans xσ36)))) nu_σ33 (⟨ot3, u3, ⟨by omega, by rw [show (v4 + 1).toNat = v4.toNat + 1 by omega]; exact so3, kv36, (kp79.trans (kp72.trans (kp68.trans (kp63.trans hi44.2.2.2.1)))), (kp80.trans (kp73.trans (kp69.trans (kp64.trans hi44.2.2.2.2))))⟩, by omega⟩)
                · intro σx LLσx Nσx nuσx Eσx iσx cσx uσx pσx xσx
                  unfold wx_X6_read_104
                  refine ⟨by first | exact pσx | exact pσx.1 | exact pσx.2 | exact pσx.2.2.1 | exact pσx.2.2 | (first | omega | with_reducible assumption | with_reducible exact rng_toInt _ | with_reducible exact rng_wr _ | (unfold rng; omega) | (unfold rng at *; omega) | assumption), fun u0 => ?_⟩
                  have px6σx := pσx.2.2.2
                  have jσx := iσx
                  rw [pσx.1, pσx.2.1] at jσx
                  have iσx := jσx
                  have hnuσx : NCX nu nuσx := nu_σ33.x uσx
                  have fσx : Fx [257, 258, 261, 262, 263, 323, 324, 325, 326, 327, 328, 329, 330, 331, 332, 333, 334, 335, 336, 384, 385, 386, 387, 388, 389, 390, 391, 392, 6464, 6592, 8320, 8384, 8448] gr σ σx := fσ33.tr (cσx.mo (by decide))
                  unfold w_X6_read_104
                  have q87 := iσx.rg th 6; unfold rng at q87
                  exact hQ σx nuσx (gI σx th 6) iσx fσx (hnuσx) (⟨iσx.rg _ _, Or.inl px6σx⟩)
              · intro σx_1 LLσx_1 Nσx_1 nuσx_1 Eσx_1 iσx_1 cσx_1 uσx_1 pσx_1 xσx_1
                unfold wx_X6_read_104
                refine ⟨by first | exact pσx_1 | exact pσx_1.1 | exact pσx_1.2 | exact pσx_1.2.2.1 | exact pσx_1.2.2 | (first | omega | with_reducible assumption | with_reducible exact rng_toInt _ | with_reducible exact rng_wr _ | (unfold rng; omega) | (unfold rng at *; omega) | assumption), fun u0 => ?_⟩
                have px6σx_1 := pσx_1.2.2.2
                have jσx_1 := iσx_1
                rw [pσx_1.1, pσx_1.2.1] at jσx_1
                have iσx_1 := jσx_1
                have hnuσx_1 : NCX nu nuσx_1 := nu_τ44.x uσx_1
                have fσx_1 : Fx [257, 258, 261, 262, 263, 323, 324, 325, 326, 327, 328, 329, 330, 331, 332, 333, 334, 335, 336, 384, 385, 386, 387, 388, 389, 390, 391, 392, 6464, 6592, 8320, 8384, 8448] gr σ σx_1 := fσ31.tr (cσx_1.mo (by decide))
                unfold w_X6_read_104
                have q88 := iσx_1.rg th 6; unfold rng at q88
                exact hQ σx_1 nuσx_1 (gI σx_1 th 6) iσx_1 fσx_1 (hnuσx_1) (⟨iσx_1.rg _ _, Or.inl px6σx_1⟩)
            · intro σx_2 LLσx_2 Nσx_2 nuσx_2 Eσx_2 iσx_2 cσx_2 uσx_2 pσx_2 xσx_2
              unfold wx_X6_read_104
              refine ⟨by first | exact pσx_2 | exact pσx_2.1 | exact pσx_2.2 | exact pσx_2.2.2.1 | exact pσx_2.2.2 | (first | omega | with_reducible assumption | with_reducible exact rng_toInt _ | with_reducible exact rng_wr _ | (unfold rng; omega) | (unfold rng at *; omega) | assumption), fun u0 => ?_⟩
              have px6σx_2 := pσx_2.2.2.2
              have jσx_2 := iσx_2
              rw [pσx_2.1, pσx_2.2.1] at jσx_2
              have iσx_2 := jσx_2
              have hnuσx_2 : NCX nu nuσx_2 := nu_τ44.x uσx_2
              have fσx_2 : Fx [257, 258, 261, 262, 263, 323, 324, 325, 326, 327, 328, 329, 330, 331, 332, 333, 334, 335, 336, 384, 385, 386, 387, 388, 389, 390, 391, 392, 6464, 6592, 8320, 8384, 8448] gr σ σx_2 := fτ44.tr (cσx_2.mo (by decide))
              unfold w_X6_read_104
              have q89 := iσx_2.rg th 6; unfold rng at q89
              exact hQ σx_2 nuσx_2 (gI σx_2 th 6) iσx_2 fσx_2 (hnuσx_2) (⟨iσx_2.rg _ _, Or.inl px6σx_2⟩)
          · rw [if_neg hc61]
            have hc61q := Classical.not_not.mp hc61
            unfold w_X6_read_58
            refine ⟨J, hi44.2.2.2.2, fun kk_J_2 => ?_⟩
            have q91 := I_4_2 iτ44.1 (kJ.up (xσ19.trans (xσ23.trans (xσ24.trans (xσ25.trans (xσ26.trans (xσ27.trans (xσ29.trans xτ44))))))))
            by_cases hc90 : gI τ44 J 2 ≠ 0
            · rw [if_pos hc90]
              unfold w_X6_read_101
              unfold w_X6_read_111
              exact hQ τ44 nut44 0 iτ44 fτ44 (nu_τ44.nx) (⟨by unfold rng; omega, Or.inr ⟨_, _, _, hi44.2.1⟩⟩)
            · rw [if_neg hc90]
              have hc90q := Classical.not_not.mp hc90
              unfold w_X6_read_68
              refine i_X6_statementHead (c := v4.toNat) (o := o9) iτ44 (kth.up (xσ19.trans (xσ23.trans (xσ24.trans (xσ25.trans (xσ26.trans (xσ27.trans (xσ29.trans xτ44)))))))) hi44.2.2.2.1 (ktx.up (xσ19.trans (xσ23.trans (xσ24.trans (xσ25.trans (xσ26.trans (xσ27.trans (xσ29.trans xτ44)))))))) (((xσ19.trans (xσ23.trans (xσ24.trans (xσ25.trans (xσ26.trans (xσ27.trans (xσ29.trans xτ44))))))) tx ktx.1).2.2.trans gX) hi44.2.2.2.2 (kJ.up (xσ19.trans (xσ23.trans (xσ24.trans (xσ25.trans (xσ26.trans (xσ27.trans (xσ29.trans xτ44)))))))) (by (first | omega | with_reducible assumption | with_reducible exact rng_toInt _ | with_reducible exact rng_wr _ | (unfold rng; omega) | (unfold rng at *; omega) | assumption)) (by (first | omega | with_reducible assumption | with_reducible exact rng_toInt _ | with_reducible exact rng_wr _ | (unfold rng; omega) | (unfold rng at *; omega) | assumption)) (by (first | omega | with_reducible assumption | with_reducible exact rng_toInt _ | with_reducible exact rng_wr _ | (unfold rng; omega) | (unfold rng at *; omega) | assumption)) (by (first | omega | with_reducible assumption | with_reducible exact rng_toInt _ | with_reducible exact rng_wr _ | (unfold rng; omega) | (unfold rng at *; omega) | assumption)) (by (first | omega | with_reducible assumption | with_reducible exact rng_toInt _ | with_reducible exact rng_wr _ | (unfold rng; omega) | (unfold rng at *; omega) | assumption)) (by (first | omega | with_reducible assumption | with_reducible exact rng_toInt _ | with_reducible exact rng_wr _ | (unfold rng; omega) | (unfold rng at *; omega) | assumption)) hi44.2.2.1 ho9 (fun σ31_1 r32_1 iσ31_1 cσ31_1 oxσ31_1 pσ31_1 => ?_) ?_
              · skip
                intro xσ31_1
                have fσ31_1 : Fx [257, 258, 261, 262, 263, 323, 324, 325, 326, 327, 328, 329, 330, 331, 332, 333, 334, 335, 336, 384, 385, 386, 387, 388, 389, 390, 391, 392, 6464, 6592, 8320, 8384, 8448] gr σ σ31_1 := fτ44.tr (cσ31_1.mo (by decide))
                have kp92 : gI σ31_1 J 2 = gI τ44 J 2 := (cσ31_1.O (kJ.up (xσ19.trans (xσ23.trans (xσ24.trans (xσ25.trans (xσ26.trans (xσ27.trans (xσ29.trans xτ44)))))))) (by decide)).1
                have kp93 : gP σ31_1 th 0 = gP τ44 th 0 := (cσ31_1.O (kth.up (xσ19.trans (xσ23.trans (xσ24.trans (xσ25.trans (xσ26.trans (xσ27.trans (xσ29.trans xτ44)))))))) (by decide)).2.1
                have kp94 : gP σ31_1 th 7 = gP τ44 th 7 := (cσ31_1.O (kth.up (xσ19.trans (xσ23.trans (xσ24.trans (xσ25.trans (xσ26.trans (xσ27.trans (xσ29.trans xτ44)))))))) (by decide)).2.1
                have kp95 : gI σ31_1 J 7 = gI τ44 J 7 := (cσ31_1.O (kJ.up (xσ19.trans (xσ23.trans (xσ24.trans (xσ25.trans (xσ26.trans (xσ27.trans (xσ29.trans xτ44)))))))) (by decide)).1
                have kp96 : gI σ31_1 J 1 = gI τ44 J 1 := (cσ31_1.O (kJ.up (xσ19.trans (xσ23.trans (xσ24.trans (xσ25.trans (xσ26.trans (xσ27.trans (xσ29.trans xτ44)))))))) (by decide)).1
                have ho8 := ho9 pσ31_1.2.1.1
                have ko9 : kO σ31_1 o9 5 := ho8.1.up xσ31_1
                refine i_X6_operatorText (c := v4.toNat) (o := o9) iσ31_1 (kth.up (xσ19.trans (xσ23.trans (xσ24.trans (xσ25.trans (xσ26.trans (xσ27.trans (xσ29.trans (xτ44.trans xσ31_1))))))))) (kp93.trans hi44.2.2.2.1) (ktx.up (xσ19.trans (xσ23.trans (xσ24.trans (xσ25.trans (xσ26.trans (xσ27.trans (xσ29.trans (xτ44.trans xσ31_1))))))))) (((xσ19.trans (xσ23.trans (xσ24.trans (xσ25.trans (xσ26.trans (xσ27.trans (xσ29.trans (xτ44.trans xσ31_1)))))))) tx ktx.1).2.2.trans gX) (kp94.trans hi44.2.2.2.2) (kJ.up (xσ19.trans (xσ23.trans (xσ24.trans (xσ25.trans (xσ26.trans (xσ27.trans (xσ29.trans (xτ44.trans xσ31_1))))))))) pσ31_1.2.1.2 (by (first | omega | with_reducible assumption | with_reducible exact rng_toInt _ | with_reducible exact rng_wr _ | (unfold rng; omega) | (unfold rng at *; omega) | assumption)) (by (first | omega | with_reducible assumption | with_reducible exact rng_toInt _ | with_reducible exact rng_wr _ | (unfold rng; omega) | (unfold rng at *; omega) | assumption)) (by (first | omega | with_reducible assumption | with_reducible exact rng_toInt _ | with_reducible exact rng_wr _ | (unfold rng; omega) | (unfold rng at *; omega) | assumption)) (by (first | omega | with_reducible assumption | with_reducible exact rng_toInt _ | with_reducible exact rng_wr _ | (unfold rng; omega) | (unfold rng at *; omega) | assumption)) (by (first | omega | with_reducible assumption | with_reducible exact rng_toInt _ | with_reducible exact rng_wr _ | (unfold rng; omega) | (unfold rng at *; omega) | assumption)) (by (first | omega | with_reducible assumption | with_reducible exact rng_toInt _ | with_reducible exact rng_wr _ | (unfold rng; omega) | (unfold rng at *; omega) | assumption)) (by (first | omega | with_reducible assumption | with_reducible exact rng_toInt _ | with_reducible exact rng_wr _ | (unfold rng; omega) | (unfold rng at *; omega) | assumption)) (by (first | omega | with_reducible assumption | with_reducible exact rng_toInt _ | with_reducible exact rng_wr _ | (unfold rng; omega) | (unfold rng at *; omega) | assumption)) (by (first | omega | with_reducible assumption | with_reducible exact rng_toInt _ | with_reducible exact rng_wr _ | (unfold rng; omega) | (unfold rng at *; omega) | assumption)) (by (first | omega | with_reducible assumption | with_reducible exact rng_toInt _ | with_reducible exact rng_wr _ | (unfold rng; omega) | (unfold rng at *; omega) | assumption)) pσ31_1.2.2.1 (by (first | omega | with_reducible assumption | with_reducible exact rng_toInt _ | with_reducible exact rng_wr _ | (unfold rng; omega) | (unfold rng at *; omega) | assumption)) (fun σ33_1 nuσ33_1 _ iσ33_1 cσ33_1 uσ33_1 oxσ33_1 pσ33_1 => ?_) ?_
                · skip
                  intro xσ33_1
                  have fσ33_1 : Fx [257, 258, 261, 262, 263, 323, 324, 325, 326, 327, 328, 329, 330, 331, 332, 333, 334, 335, 336, 384, 385, 386, 387, 388, 389, 390, 391, 392, 6464, 6592, 8320, 8384, 8448] gr σ σ33_1 := fσ31_1.tr (cσ33_1.mo (by decide))
                  have nu_σ33_1 : NC nu nuσ33_1 := nu_τ44.tr uσ33_1
                  have uσ33_1_0 := uσ33_1 0 (by decide) (by decide)
                  have uσ33_1_1 := uσ33_1 1 (by decide) (by decide)
                  have uσ33_1_2 := uσ33_1 2 (by decide) (by decide)
                  have uσ33_1_5 := uσ33_1 5 (by decide) (by decide)
                  have uσ33_1_15 := uσ33_1 15 (by decide) (by decide)
                  have uσ33_1_16 := uσ33_1 16 (by decide) (by decide)
                  have kp97 : gP σ33_1 th 0 = gP σ31_1 th 0 := (cσ33_1.O (kth.up (xσ19.trans (xσ23.trans (xσ24.trans (xσ25.trans (xσ26.trans (xσ27.trans (xσ29.trans (xτ44.trans xσ31_1))))))))) (by decide)).2.1
                  have kp98 : gP σ33_1 th 7 = gP σ31_1 th 7 := (cσ33_1.O (kth.up (xσ19.trans (xσ23.trans (xσ24.trans (xσ25.trans (xσ26.trans (xσ27.trans (xσ29.trans (xτ44.trans xσ31_1))))))))) (by decide)).2.1
                  have kp99 : gP σ33_1 th 8 = gP σ31_1 th 8 := (cσ33_1.O (kth.up (xσ19.trans (xσ23.trans (xσ24.trans (xσ25.trans (xσ26.trans (xσ27.trans (xσ29.trans (xτ44.trans xσ31_1))))))))) (by decide)).2.1
                  have kp100 : gI σ33_1 J 1 = gI σ31_1 J 1 := (cσ33_1.O (kJ.up (xσ19.trans (xσ23.trans (xσ24.trans (xσ25.trans (xσ26.trans (xσ27.trans (xσ29.trans (xτ44.trans xσ31_1))))))))) (by decide)).1
                  have lp33 := pσ33_1.2.1
                  have tf33 := pσ33_1.1
                  have go9 := ho8.2.1
                  refine i_X6_wantSign iσ33_1 (kth.up (xσ19.trans (xσ23.trans (xσ24.trans (xσ25.trans (xσ26.trans (xσ27.trans (xσ29.trans (xτ44.trans (xσ31_1.trans xσ33_1)))))))))) (kp97.trans (kp93.trans hi44.2.2.2.1)) (ktx.up (xσ19.trans (xσ23.trans (xσ24.trans (xσ25.trans (xσ26.trans (xσ27.trans (xσ29.trans (xτ44.trans (xσ31_1.trans xσ33_1)))))))))) (((xσ19.trans (xσ23.trans (xσ24.trans (xσ25.trans (xσ26.trans (xσ27.trans (xσ29.trans (xτ44.trans (xσ31_1.trans xσ33_1))))))))) tx ktx.1).2.2.trans gX) (by (first | omega | with_reducible assumption | with_reducible exact rng_toInt _ | with_reducible exact rng_wr _ | (unfold rng; omega) | (unfold rng at *; omega) | assumption)) (by (first | omega | with_reducible assumption | with_reducible exact rng_toInt _ | with_reducible exact rng_wr _ | (unfold rng; omega) | (unfold rng at *; omega) | assumption)) (fun σ34_1 _ iσ34_1 cσ34_1 pσ34_1 => ?_) ?_
                  · skip
                    intro xσ34_1
                    have fσ34_1 : Fx [257, 258, 261, 262, 263, 323, 324, 325, 326, 327, 328, 329, 330, 331, 332, 333, 334, 335, 336, 384, 385, 386, 387, 388, 389, 390, 391, 392, 6464, 6592, 8320, 8384, 8448] gr σ σ34_1 := fσ33_1.tr (cσ34_1.mo (by decide))
                    have kp101 : gP σ34_1 th 0 = gP σ33_1 th 0 := (cσ34_1.O (kth.up (xσ19.trans (xσ23.trans (xσ24.trans (xσ25.trans (xσ26.trans (xσ27.trans (xσ29.trans (xτ44.trans (xσ31_1.trans xσ33_1)))))))))) (by decide)).2.1
                    have kp102 : gP σ34_1 th 7 = gP σ33_1 th 7 := (cσ34_1.O (kth.up (xσ19.trans (xσ23.trans (xσ24.trans (xσ25.trans (xσ26.trans (xσ27.trans (xσ29.trans (xτ44.trans (xσ31_1.trans xσ33_1)))))))))) (by decide)).2.1
                    have kp103 : gP σ34_1 th 8 = gP σ33_1 th 8 := (cσ34_1.O (kth.up (xσ19.trans (xσ23.trans (xσ24.trans (xσ25.trans (xσ26.trans (xσ27.trans (xσ29.trans (xτ44.trans (xσ31_1.trans xσ33_1)))))))))) (by decide)).2.1
                    have kp104 : gI σ34_1 J 7 = gI σ33_1 J 7 := (cσ34_1.O (kJ.up (xσ19.trans (xσ23.trans (xσ24.trans (xσ25.trans (xσ26.trans (xσ27.trans (xσ29.trans (xτ44.trans (xσ31_1.trans xσ33_1)))))))))) (by decide)).1
                    have kp105 : gI σ34_1 J 1 = gI σ33_1 J 1 := (cσ34_1.O (kJ.up (xσ19.trans (xσ23.trans (xσ24.trans (xσ25.trans (xσ26.trans (xσ27.trans (xσ29.trans (xτ44.trans (xσ31_1.trans xσ33_1)))))))))) (by decide)).1
                    have kp106 : gI σ34_1 J 2 = gI σ33_1 J 2 := (cσ34_1.O (kJ.up (xσ19.trans (xσ23.trans (xσ24.trans (xσ25.trans (xσ26.trans (xσ27.trans (xσ29.trans (xτ44.trans (xσ31_1.trans xσ33_1)))))))))) (by decide)).1
                    have kv34 := pσ34_1.1
                    have r5σ34_1 := I_6_5 iσ34_1.1 (kth.up (xσ19.trans (xσ23.trans (xσ24.trans (xσ25.trans (xσ26.trans (xσ27.trans (xσ29.trans (xτ44.trans (xσ31_1.trans (xσ33_1.trans xσ34_1)))))))))))
                    refine ⟨J, (kp102.trans (kp98.trans (kp94.trans hi44.2.2.2.2))), fun kk_J_3 => ?_⟩
                    have q107 := I_4_1 iσ34_1.1 (kJ.up (xσ19.trans (xσ23.trans (xσ24.trans (xσ25.trans (xσ26.trans (xσ27.trans (xσ29.trans (xτ44.trans (xσ31_1.trans (xσ33_1.trans xσ34_1)))))))))))
                    refine ⟨by (first | omega | with_reducible assumption | with_reducible exact rng_toInt _ | with_reducible exact rng_wr _ | (unfold rng; omega) | (unfold rng at *; omega) | assumption), ?_⟩
                    intro σ36_1 eσ36_1
                    have xσ36_1 : Ext σ34_1 σ36_1 := by rw [eσ36_1]; exact fun _ h => ⟨h, rfl, rfl⟩
                    have iσ36_1 : IV σ36_1 pl gq ci gr nc ot LL N nuσ33_1 := by rw [eσ36_1]; exact iσ34_1.wSj (kJ.up (xσ19.trans (xσ23.trans (xσ24.trans (xσ25.trans (xσ26.trans (xσ27.trans (xσ29.trans (xτ44.trans (xσ31_1.trans (xσ33_1.trans xσ34_1))))))))))) (by omega) (Or.inl rfl) (show (0 : Int) ≤ (gI σ34_1 J 1 + 1) ∧ (gI σ34_1 J 1 + 1) ≤ 16 from ⟨by omega, by omega⟩)
                    have fσ36_1 : Fx [257, 258, 261, 262, 263, 323, 324, 325, 326, 327, 328, 329, 330, 331, 332, 333, 334, 335, 336, 384, 385, 386, 387, 388, 389, 390, 391, 392, 6464, 6592, 8320, 8384, 8448] gr σ σ36_1 := fσ34_1.tr (Sk.fx (by rw [eσ36_1]; exact Sk.pI (by rw [fcdO (kJ.up (xσ19.trans (xσ23.trans (xσ24.trans (xσ25.trans (xσ26.trans (xσ27.trans (xσ29.trans (xτ44.trans (xσ31_1.trans (xσ33_1.trans xσ34_1))))))))))) (by decide)]; decide)))
                    have wσ36_1 : gI σ36_1 J 1 = (gI σ34_1 J 1 + 1) := by rw [eσ36_1]; exact up2_s _ _ _ _
                    have kp108 : gP σ36_1 th 0 = gP σ34_1 th 0 := by rw [eσ36_1]
                    have kp109 : gP σ36_1 th 7 = gP σ34_1 th 7 := by rw [eσ36_1]
                    have kp110 : gP σ36_1 th 8 = gP σ34_1 th 8 := by rw [eσ36_1]
                    have kp111 : gI σ36_1 th 2 = gI σ34_1 th 2 := by rw [eσ36_1]; exact up2_n _ _ (fun q => absurd q.2 (by decide))
                    have kp112 : gI σ36_1 th 3 = gI σ34_1 th 3 := by rw [eσ36_1]; exact up2_n _ _ (fun q => absurd q.2 (by decide))
                    have kp113 : gI σ36_1 th 5 = gI σ34_1 th 5 := by rw [eσ36_1]; exact up2_n _ _ (fun q => absurd q.2 (by decide))
                    have kp114 : gI σ36_1 J 7 = gI σ34_1 J 7 := by rw [eσ36_1]; exact up2_n _ _ (fun q => absurd q.2 (by decide))
                    have kp115 : gI σ36_1 J 2 = gI σ34_1 J 2 := by rw [eσ36_1]; exact up2_n _ _ (fun q => absurd q.2 (by decide))
                    obtain ⟨ot3, u3, so3⟩ := SO.next iτ44 iσ36_1 hi44.2.1 (kJ.up (xσ19.trans (xσ23.trans (xσ24.trans (xσ25.trans (xσ26.trans (xσ27.trans (xσ29.trans xτ44)))))))) hJq pσ31_1.2.1.1 ho8.1 go9 oxσ31_1 cσ31_1 (by decide) oxσ33_1 cσ33_1 (by decide) pσ33_1.2.2.1 pσ33_1.2.2.2 cσ34_1 (by decide) eσ36_1 (by omega)
                    have kv36 : KV σ36_1 th := kv34.mov (by rw [eσ36_1]; exact up2_n _ _ (fun q => absurd q.1 (kO.ne (kth.up (xσ19.trans (xσ23.trans (xσ24.trans (xσ25.trans (xσ26.trans (xσ27.trans (xσ29.trans (xτ44.trans (xσ31_1.trans (xσ33_1.trans xσ34_1))))))))))) (kJ.up (xσ19.trans (xσ23.trans (xσ24.trans (xσ25.trans (xσ26.trans (xσ27.trans (xσ29.trans (xτ44.trans (xσ31_1.trans (xσ33_1.trans xσ34_1))))))))))) (by decide)))) (by rw [eσ36_1])
                    refine ⟨by (first | omega | with_reducible assumption | with_reducible exact rng_toInt _ | with_reducible exact rng_wr _ | (unfold rng; omega) | (unfold rng at *; omega) | assumption), ?_⟩
                    exact ih44 σ36_1 nuσ33_1 (v4 + 1) iσ36_1 fσ36_1 (xτ44.trans (xσ31_1.trans (xσ33_1.trans (xσ34_1.trans xσ36_1)))) nu_σ33_1 (⟨ot3, u3, ⟨by omega, by rw [show (v4 + 1).toNat = v4.toNat + 1 by omega]; exact so3, kv36, (kp108.trans (kp101.trans (kp97.trans (kp93.trans hi44.2.2.2.1)))), (kp109.trans (kp102.trans (kp98.trans (kp94.trans hi44.2.2.2.2))))⟩, by omega⟩)
                  · intro σx_3 LLσx_3 Nσx_3 nuσx_3 Eσx_3 iσx_3 cσx_3 uσx_3 pσx_3 xσx_3
                    unfold wx_X6_read_104
                    refine ⟨by first | exact pσx_3 | exact pσx_3.1 | exact pσx_3.2 | exact pσx_3.2.2.1 | exact pσx_3.2.2 | (first | omega | with_reducible assumption | with_reducible exact rng_toInt _ | with_reducible exact rng_wr _ | (unfold rng; omega) | (unfold rng at *; omega) | assumption), fun u0 => ?_⟩
                    have px6σx_3 := pσx_3.2.2.2
                    have jσx_3 := iσx_3
                    rw [pσx_3.1, pσx_3.2.1] at jσx_3
                    have iσx_3 := jσx_3
                    have hnuσx_3 : NCX nu nuσx_3 := nu_σ33_1.x uσx_3
                    have fσx_3 : Fx [257, 258, 261, 262, 263, 323, 324, 325, 326, 327, 328, 329, 330, 331, 332, 333, 334, 335, 336, 384, 385, 386, 387, 388, 389, 390, 391, 392, 6464, 6592, 8320, 8384, 8448] gr σ σx_3 := fσ33_1.tr (cσx_3.mo (by decide))
                    unfold w_X6_read_104
                    have q116 := iσx_3.rg th 6; unfold rng at q116
                    exact hQ σx_3 nuσx_3 (gI σx_3 th 6) iσx_3 fσx_3 (hnuσx_3) (⟨iσx_3.rg _ _, Or.inl px6σx_3⟩)
                · intro σx_4 LLσx_4 Nσx_4 nuσx_4 Eσx_4 iσx_4 cσx_4 uσx_4 pσx_4 xσx_4
                  unfold wx_X6_read_104
                  refine ⟨by first | exact pσx_4 | exact pσx_4.1 | exact pσx_4.2 | exact pσx_4.2.2.1 | exact pσx_4.2.2 | (first | omega | with_reducible assumption | with_reducible exact rng_toInt _ | with_reducible exact rng_wr _ | (unfold rng; omega) | (unfold rng at *; omega) | assumption), fun u0 => ?_⟩
                  have px6σx_4 := pσx_4.2.2.2
                  have jσx_4 := iσx_4
                  rw [pσx_4.1, pσx_4.2.1] at jσx_4
                  have iσx_4 := jσx_4
                  have hnuσx_4 : NCX nu nuσx_4 := nu_τ44.x uσx_4
                  have fσx_4 : Fx [257, 258, 261, 262, 263, 323, 324, 325, 326, 327, 328, 329, 330, 331, 332, 333, 334, 335, 336, 384, 385, 386, 387, 388, 389, 390, 391, 392, 6464, 6592, 8320, 8384, 8448] gr σ σx_4 := fσ31_1.tr (cσx_4.mo (by decide))
                  unfold w_X6_read_104
                  have q117 := iσx_4.rg th 6; unfold rng at q117
                  exact hQ σx_4 nuσx_4 (gI σx_4 th 6) iσx_4 fσx_4 (hnuσx_4) (⟨iσx_4.rg _ _, Or.inl px6σx_4⟩)
              · intro σx_5 LLσx_5 Nσx_5 nuσx_5 Eσx_5 iσx_5 cσx_5 uσx_5 pσx_5 xσx_5
                unfold wx_X6_read_104
                refine ⟨by first | exact pσx_5 | exact pσx_5.1 | exact pσx_5.2 | exact pσx_5.2.2.1 | exact pσx_5.2.2 | (first | omega | with_reducible assumption | with_reducible exact rng_toInt _ | with_reducible exact rng_wr _ | (unfold rng; omega) | (unfold rng at *; omega) | assumption), fun u0 => ?_⟩
                have px6σx_5 := pσx_5.2.2.2
                have jσx_5 := iσx_5
                rw [pσx_5.1, pσx_5.2.1] at jσx_5
                have iσx_5 := jσx_5
                have hnuσx_5 : NCX nu nuσx_5 := nu_τ44.x uσx_5
                have fσx_5 : Fx [257, 258, 261, 262, 263, 323, 324, 325, 326, 327, 328, 329, 330, 331, 332, 333, 334, 335, 336, 384, 385, 386, 387, 388, 389, 390, 391, 392, 6464, 6592, 8320, 8384, 8448] gr σ σx_5 := fτ44.tr (cσx_5.mo (by decide))
                unfold w_X6_read_104
                have q118 := iσx_5.rg th 6; unfold rng at q118
                exact hQ σx_5 nuσx_5 (gI σx_5 th 6) iσx_5 fσx_5 (hnuσx_5) (⟨iσx_5.rg _ _, Or.inl px6σx_5⟩)
    exact ⟨18, Lp44 _ σ29 nu _ iσ29 fσ29 (Ext.rfl' _) NC.rf (⟨fun _ _ => 0, 0, ⟨by omega, SO.nul iσ29 (kJ.up (xσ19.trans (xσ23.trans (xσ24.trans (xσ25.trans (xσ26.trans (xσ27.trans xσ29))))))) hJq (by omega) (by omega), pσ29.1, (kp55.trans (kp48.trans (kp37.trans (kp27.trans (kp18.trans (kp9.trans (wσ19.trans hv1))))))), (kp56.trans (kp49.trans (wσ26.trans hv3)))⟩, by omega⟩)⟩
  · intro σx_6 LLσx_6 Nσx_6 nuσx_6 Eσx_6 iσx_6 cσx_6 uσx_6 pσx_6 xσx_6
    unfold wx_X6_read_104
    refine ⟨by first | exact pσx_6 | exact pσx_6.1 | exact pσx_6.2 | exact pσx_6.2.2.1 | exact pσx_6.2.2 | (first | omega | with_reducible assumption | with_reducible exact rng_toInt _ | with_reducible exact rng_wr _ | (unfold rng; omega) | (unfold rng at *; omega) | assumption), fun u0 => ?_⟩
    have px6σx_6 := pσx_6.2.2.2
    have jσx_6 := iσx_6
    rw [pσx_6.1, pσx_6.2.1] at jσx_6
    have iσx_6 := jσx_6
    have hnuσx_6 : NCX nu nuσx_6 := uσx_6
    have fσx_6 : Fx [257, 258, 261, 262, 263, 323, 324, 325, 326, 327, 328, 329, 330, 331, 332, 333, 334, 335, 336, 384, 385, 386, 387, 388, 389, 390, 391, 392, 6464, 6592, 8320, 8384, 8448] gr σ σx_6 := fσ27.tr (cσx_6.mo (by decide))
    unfold w_X6_read_104
    have q119 := iσx_6.rg th 6; unfold rng at q119
    exact hQ σx_6 nuσx_6 (gI σx_6 th 6) iσx_6 fσx_6 (hnuσx_6) (⟨iσx_6.rg _ _, Or.inl px6σx_6⟩)

set_option maxHeartbeats 1000000 in
theorem rd_body {τ : Sg} {pl : Nat} {gq ci gr nc : Nat → Nat} {ot ot2 : Nat → Nat → Int} {LL : Nat → List Nat} {N nu : Nat → Nat} {th tx J q u : Nat} {v4 : Int} {Q : Sg → Int → Prop} {X : Sg → String → Prop} {K : Sg → Int → Prop} (iτ : IV τ pl gq ci gr nc ot LL N nu) (kth : kO τ th 6) (hX0 : gP τ th 0 = some tx) (kX : kO τ tx 102) (gX : gn τ tx = 1500) (h7 : gP τ th 7 = some J) (kJ : kO τ J 4) (hJq : gq J = q) (hq : q ≠ nc 0 ∧ q ≤ 1) (e1 : gI τ J 1 = v4) (hv : 0 ≤ v4 ∧ v4 ≤ 16)
    (tf : (gI τ th 5 ≤ gI τ th 2 ∧ (gI τ th 3 ≠ 0 → gI τ th 5 + 1 ≤ gI τ th 2))) (h5 : nu 5 < 24000) (lp : gI τ J 7 ≤ 2 * gI τ th 5) (kv : KV τ th) (so : SO τ gq gr (ncq q v4.toNat u) ot2)
    (hK : ∀ (σ' : Sg) (nu' : Nat → Nat) (ot3 : Nat → Nat → Int) (u3 : Nat), IV σ' pl gq ci gr nc ot LL N nu' → Fx [257, 258, 261, 262, 263, 323, 324, 325, 326, 327, 328, 329, 330, 331, 332, 333, 334, 335, 336, 384, 385, 386, 387, 388, 389, 390, 391, 392, 6464, 6592, 8320, 8384, 8448] gr τ σ' → NC nu nu' → ((gI σ' th 5 ≤ gI σ' th 2 ∧ (gI σ' th 3 ≠ 0 → gI σ' th 5 + 1 ≤ gI σ' th 2)) ∧ gI σ' J 7 ≤ 2 * gI σ' th 5 ∧ gI σ' J 1 = v4 + 1 ∧ v4 + 1 ≤ 16) → SO σ' gq gr (ncq q (v4.toNat + 1) u3) ot3 → KV σ' th → gP σ' th 0 = some tx → gP σ' th 7 = some J → K σ' (v4 + 1))
    (hx : ∀ (σ' : Sg) (LL' : Nat → List Nat) (N' nu' : Nat → Nat) (E : String), IV σ' pl gq ci gr nc ot LL' N' nu' → Fx [257, 258, 261, 262, 263, 323, 324, 325, 326, 327, 328, 329, 330, 331, 332, 333, 334, 335, 336, 384, 385, 386, 387, 388, 389, 390, 391, 392, 6464, 6592, 8320, 8384, 8448] gr τ σ' → NCX nu nu' → (LL' = LL ∧ N' = N ∧ E = "java/lang/IllegalArgumentException" ∧ gI σ' th 6 ≠ 0) → wx_X6_read_104 th Q X σ' E) : w_X6_read_68 th K Q X τ v4 := by
  unfold w_X6_read_68
  obtain ⟨o, ho⟩ := iτ.opAt kJ hJq v4.toNat
  have ncb := iτ.ncb
  refine i_X6_statementHead (c := v4.toNat) (o := o) iτ kth hX0 kX gX h7 kJ hJq hq (by omega) tf h5 lp kv ho (fun s1 r1 i1 c1 ox1 p1 => ?_) (fun σx LLx Nx nux E ix cx ux px _ => hx σx LLx Nx nux E ix (cx.mo (by decide)) ux px)
  intro x1
  obtain ⟨p11, ⟨hc, p12⟩, p13, p14, p15, p16, p17⟩ := p1
  obtain ⟨ko, go, _⟩ := ho hc
  have a0 := (c1.O kth (k := 0) (by decide)).2.1.trans hX0
  have a7 := (c1.O kth (k := 7) (by decide)).2.1.trans h7
  have g1 : gn s1 tx = 1500 := (c1.1 tx kX.1).2.2.trans gX
  have b1 := (c1.O kJ (k := 1) (by decide)).1
  have kt1 := kth.up c1.1
  have kX1 := kX.up c1.1
  have kJ1 := kJ.up c1.1
  refine i_X6_operatorText (c := v4.toNat) (o := o) i1 kt1 a0 kX1 g1 a7 kJ1 p12 (ko.up c1.1) hJq hq go hc (by omega) p14 h5 p15 p16 p13 ⟨p11, p17⟩ (fun s3 nu3 r3 i3 c3 u3 ox3 p3 => ?_) (fun σx LLx Nx nux E ix cx ux px _ => hx σx LLx Nx nux E ix ((c1.mo (by decide)).tr (cx.mo (by decide))) ux px)
  intro x3
  obtain ⟨p31, p32, p33, p34⟩ := p3
  have b0 := (c3.O kt1 (k := 0) (by decide)).2.1.trans a0
  have b7 := (c3.O kt1 (k := 7) (by decide)).2.1.trans a7
  have g3 : gn s3 tx = 1500 := (c3.1 tx kX1.1).2.2.trans g1
  have b3 := (c3.O kJ1 (k := 1) (by decide)).1
  have kt3 := kt1.up c3.1
  have kX3 := kX1.up c3.1
  have kJ3 := kJ1.up c3.1
  have u35 := u3 5 (by decide) (by decide)
  refine i_X6_wantSign i3 kt3 b0 kX3 g3 p31 (by omega) (fun s4 r4 i4 c4 p4 => ?_) (fun σx LLx Nx nux E ix cx ux px _ => hx σx LLx Nx nux E ix (((c1.mo (by decide)).tr (c3.mo (by decide))).tr (cx.mo (by decide))) (u3.x ux) px)
  intro x4
  obtain ⟨p41, p42, p43⟩ := p4
  have d0 := (c4.O kt3 (k := 0) (by decide)).2.1.trans b0
  have d7 := (c4.O kt3 (k := 7) (by decide)).2.1.trans b7
  have d1 := (c4.O kJ3 (k := 1) (by decide)).1
  have dj7 := (c4.O kJ3 (k := 7) (by decide)).1
  have kt4 := kt3.up c4.1
  have kJ4 := kJ3.up c4.1
  refine ⟨J, d7, fun _ => ⟨by unfold rng; omega, ?_⟩⟩
  intro s6 e6
  have i6 : IV s6 pl gq ci gr nc ot LL N nu3 := by rw [e6]; exact i4.wSj kJ4 (by omega) (Or.inl rfl) (show (0 : Int) ≤ gI s4 J 1 + 1 ∧ gI s4 J 1 + 1 ≤ 16 from ⟨by omega, by omega⟩)
  have f6 : Fx [257, 258, 261, 262, 263, 323, 324, 325, 326, 327, 328, 329, 330, 331, 332, 333, 334, 335, 336, 384, 385, 386, 387, 388, 389, 390, 391, 392, 6464, 6592, 8320, 8384, 8448] gr s4 s6 := Sk.fx (by rw [e6]; exact Sk.pI (by rw [fcdO kJ4 (by decide)]; decide))
  have kt6 := kt4.up f6.1
  have nt : ∀ k, gI s6 th k = gI s4 th k := fun k => by rw [e6]; exact up2_n _ _ (fun z => absurd z.1 (kt4.ne kJ4 (by decide)))
  have w2 := nt 2; have w3 := nt 3; have w5 := nt 5
  have w1 : gI s6 J 1 = gI s4 J 1 + 1 := by rw [e6]; exact up2_s _ _ _ _
  have w7 : gI s6 J 7 = gI s4 J 7 := by rw [e6]; exact up2_n _ _ (fun z => absurd z.2 (by decide))
  refine ⟨by unfold rng; omega, ?_⟩
  obtain ⟨ot3, u3', so3⟩ := SO.next iτ i6 so kJ hJq hc ko go ox1 c1 (by decide) ox3 c3 (by decide) p33 p34 c4 (by decide) e6 (by omega)
  exact hK s6 nu3 ot3 u3' i6 ((((c1.mo (by decide)).tr (c3.mo (by decide))).tr (c4.mo (by decide))).tr f6) u3 ⟨by omega, by omega, by omega, by omega⟩ so3 (p41.mov w3 (by rw [e6])) (by rw [e6]; exact d0) (by rw [e6]; exact d7)
set_option maxHeartbeats 4000000 in
theorem i_X6_read {σ : Sg} {pl : Nat} {gq ci gr nc : Nat → Nat} {ot : Nat → Nat → Int} {LL : Nat → List Nat} {N nu : Nat → Nat} {th : Nat} {v1 : Option Nat} {v2 : Int} {v3 : Option Nat} {q : Nat} (iσ : IV σ pl gq ci gr nc ot LL N nu) (kth : kO σ th 6) {tx : Nat} (hv1 : v1 = some tx) (ktx : kO σ tx 102) {J : Nat} (hv3 : v3 = some J) (kJ : kO σ J 4) (gX : gn σ tx = 1500) (hJq : gq J = q) (hq : q ≠ nc 0 ∧ q ≤ 1) (h2 : 0 ≤ v2) (h5 : nu 5 < 24000) {Q : Sg → Int → Prop} {X : Sg → String → Prop} (hQ : ∀ (σ' : Sg) (nu' : Nat → Nat) (r : Int), IV σ' pl gq ci gr nc ot LL N nu' → Fx [257, 258, 261, 262, 263, 323, 324, 325, 326, 327, 328, 329, 330, 331, 332, 333, 334, 335, 336, 384, 385, 386, 387, 388, 389, 390, 391, 392, 6464, 6592, 8320, 8384, 8448] gr σ σ' → NCX nu nu' → (rng r ∧ (r ≠ 0 ∨ ∃ ot' c u, SO σ' gq gr (ncq q c u) ot')) → Q σ' r) : wp_X6_read th v1 v2 v3 σ Q X := by
  have fσ : Fx [257, 258, 261, 262, 263, 323, 324, 325, 326, 327, 328, 329, 330, 331, 332, 333, 334, 335, 336, 384, 385, 386, 387, 388, 389, 390, 391, 392, 6464, 6592, 8320, 8384, 8448] gr σ σ := Fx.rf
  unfold wp_X6_read
  unfold w_X6_read_0
  intro σ19 eσ19
  have xσ19 : Ext σ σ19 := by rw [eσ19]; exact fun _ h => ⟨h, rfl, rfl⟩
  have iσ19 : IV σ19 pl gq ci gr nc ot LL N nu := by rw [eσ19]; exact iσ.wP kth (by decide) (by intro q; exact absurd q (by simp [lbN])) (by intro _ _; trivial) (by intro q; exact absurd q (by decide))
  have fσ19 : Fx [257, 258, 261, 262, 263, 323, 324, 325, 326, 327, 328, 329, 330, 331, 332, 333, 334, 335, 336, 384, 385, 386, 387, 388, 389, 390, 391, 392, 6464, 6592, 8320, 8384, 8448] gr σ σ19 := fσ.tr (Sk.fx (by rw [eσ19]; exact Sk.pP (by rw [fcdO kth (by decide)]; decide)))
  have wσ19 : gP σ19 th 0 = v1 := by rw [eσ19]; exact up2_s _ _ _ _
  have kp1 : gI σ19 th 2 = gI σ th 2 := by rw [eσ19]
  have kp2 : gI σ19 th 3 = gI σ th 3 := by rw [eσ19]
  have kp3 : gI σ19 th 5 = gI σ th 5 := by rw [eσ19]
  have kp4 : gI σ19 J 7 = gI σ J 7 := by rw [eσ19]
  have kp5 : gI σ19 J 1 = gI σ J 1 := by rw [eσ19]
  have kp6 : gI σ19 J 2 = gI σ J 2 := by rw [eσ19]
  refine ⟨tx, hv1, fun kk_tx => ?_⟩
  have q7 := (xσ19 tx ktx.1).2.2
  refine i_J9_min_7cf53 iσ19 (fun r22 pσ21 => ?_)
  intro xσ21
  intro σ23 eσ23
  have xσ23 : Ext σ19 σ23 := by rw [eσ23]; exact fun _ h => ⟨h, rfl, rfl⟩
  have iσ23 : IV σ23 pl gq ci gr nc ot LL N nu := by rw [eσ23]; exact iσ19.wO (kth.up xσ19) (by decide) (show (0 : Int) ≤ r22 ∧ r22 ≤ 1500 from ⟨by (first | omega | with_reducible assumption | with_reducible exact rng_toInt _ | with_reducible exact rng_wr _ | (unfold rng; omega) | (unfold rng at *; omega) | assumption), by (first | omega | with_reducible assumption | with_reducible exact rng_toInt _ | with_reducible exact rng_wr _ | (unfold rng; omega) | (unfold rng at *; omega) | assumption)⟩)
  have fσ23 : Fx [257, 258, 261, 262, 263, 323, 324, 325, 326, 327, 328, 329, 330, 331, 332, 333, 334, 335, 336, 384, 385, 386, 387, 388, 389, 390, 391, 392, 6464, 6592, 8320, 8384, 8448] gr σ σ23 := fσ19.tr (Sk.fx (by rw [eσ23]; exact Sk.pI (by rw [fcdO (kth.up xσ19) (by decide)]; decide)))
  have wσ23 : gI σ23 th 1 = r22 := by rw [eσ23]; exact up2_s _ _ _ _
  have kp8 : gI σ23 th 0 = gI σ19 th 0 := by rw [eσ23]; exact up2_n _ _ (fun q => absurd q.2 (by decide))
  have kp9 : gP σ23 th 0 = gP σ19 th 0 := by rw [eσ23]
  have kp10 : gI σ23 th 2 = gI σ19 th 2 := by rw [eσ23]; exact up2_n _ _ (fun q => absurd q.2 (by decide))
  have kp11 : gI σ23 th 3 = gI σ19 th 3 := by rw [eσ23]; exact up2_n _ _ (fun q => absurd q.2 (by decide))
  have kp12 : gI σ23 th 5 = gI σ19 th 5 := by rw [eσ23]; exact up2_n _ _ (fun q => absurd q.2 (by decide))
  have kp13 : gI σ23 J 7 = gI σ19 J 7 := by rw [eσ23]; exact up2_n _ _ (fun q => absurd q.2 (by decide))
  have kp14 : gI σ23 J 1 = gI σ19 J 1 := by rw [eσ23]; exact up2_n _ _ (fun q => absurd q.1 (kO.ne (kJ.up xσ19) (kth.up xσ19) (by decide)))
  have kp15 : gI σ23 J 2 = gI σ19 J 2 := by rw [eσ23]; exact up2_n _ _ (fun q => absurd q.2 (by decide))
  intro σ24 eσ24
  have xσ24 : Ext σ23 σ24 := by rw [eσ24]; exact fun _ h => ⟨h, rfl, rfl⟩
  have iσ24 : IV σ24 pl gq ci gr nc ot LL N nu := by rw [eσ24]; exact iσ23.wO (kth.up (xσ19.trans xσ23)) (by decide) (show (0 : Int) ≤ 0 ∧ 0 ≤ 1500 from ⟨by (first | omega | with_reducible assumption | with_reducible exact rng_toInt _ | with_reducible exact rng_wr _ | (unfold rng; omega) | (unfold rng at *; omega) | assumption), by (first | omega | with_reducible assumption | with_reducible exact rng_toInt _ | with_reducible exact rng_wr _ | (unfold rng; omega) | (unfold rng at *; omega) | assumption)⟩)
  have fσ24 : Fx [257, 258, 261, 262, 263, 323, 324, 325, 326, 327, 328, 329, 330, 331, 332, 333, 334, 335, 336, 384, 385, 386, 387, 388, 389, 390, 391, 392, 6464, 6592, 8320, 8384, 8448] gr σ σ24 := fσ23.tr (Sk.fx (by rw [eσ24]; exact Sk.pI (by rw [fcdO (kth.up (xσ19.trans xσ23)) (by decide)]; decide)))
  have wσ24 : gI σ24 th 2 = 0 := by rw [eσ24]; exact up2_s _ _ _ _
  have kp16 : gI σ24 th 0 = gI σ23 th 0 := by rw [eσ24]; exact up2_n _ _ (fun q => absurd q.2 (by decide))
  have kp17 : gI σ24 th 1 = gI σ23 th 1 := by rw [eσ24]; exact up2_n _ _ (fun q => absurd q.2 (by decide))
  have kp18 : gP σ24 th 0 = gP σ23 th 0 := by rw [eσ24]
  have kp19 : gI σ24 th 3 = gI σ23 th 3 := by rw [eσ24]; exact up2_n _ _ (fun q => absurd q.2 (by decide))
  have kp20 : gI σ24 th 5 = gI σ23 th 5 := by rw [eσ24]; exact up2_n _ _ (fun q => absurd q.2 (by decide))
  have kp21 : gI σ24 J 7 = gI σ23 J 7 := by rw [eσ24]; exact up2_n _ _ (fun q => absurd q.2 (by decide))
  have kp22 : gI σ24 J 1 = gI σ23 J 1 := by rw [eσ24]; exact up2_n _ _ (fun q => absurd q.2 (by decide))
  have kp23 : gI σ24 J 2 = gI σ23 J 2 := by rw [eσ24]; exact up2_n _ _ (fun q => absurd q.1 (kO.ne (kJ.up (xσ19.trans xσ23)) (kth.up (xσ19.trans xσ23)) (by decide)))
  intro σ25 eσ25
  have xσ25 : Ext σ24 σ25 := by rw [eσ25]; exact fun _ h => ⟨h, rfl, rfl⟩
  have iσ25 : IV σ25 pl gq ci gr nc ot LL N nu := by rw [eσ25]; exact iσ24.wO (kth.up (xσ19.trans (xσ23.trans xσ24))) (by decide) (rngb (by first | exact rng_wr _ | (first | omega | with_reducible assumption | with_reducible exact rng_toInt _ | with_reducible exact rng_wr _ | (unfold rng; omega) | (unfold rng at *; omega) | assumption)))
  have fσ25 : Fx [257, 258, 261, 262, 263, 323, 324, 325, 326, 327, 328, 329, 330, 331, 332, 333, 334, 335, 336, 384, 385, 386, 387, 388, 389, 390, 391, 392, 6464, 6592, 8320, 8384, 8448] gr σ σ25 := fσ24.tr (Sk.fx (by rw [eσ25]; exact Sk.pI (by rw [fcdO (kth.up (xσ19.trans (xσ23.trans xσ24))) (by decide)]; decide)))
  have wσ25 : gI σ25 th 6 = 0 := by rw [eσ25]; exact up2_s _ _ _ _
  have kp24 : gI σ25 th 0 = gI σ24 th 0 := by rw [eσ25]; exact up2_n _ _ (fun q => absurd q.2 (by decide))
  have kp25 : gI σ25 th 1 = gI σ24 th 1 := by rw [eσ25]; exact up2_n _ _ (fun q => absurd q.2 (by decide))
  have kp26 : gI σ25 th 2 = gI σ24 th 2 := by rw [eσ25]; exact up2_n _ _ (fun q => absurd q.2 (by decide))
  have kp27 : gP σ25 th 0 = gP σ24 th 0 := by rw [eσ25]
  have kp28 : gI σ25 th 3 = gI σ24 th 3 := by rw [eσ25]; exact up2_n _ _ (fun q => absurd q.2 (by decide))
  have kp29 : gI σ25 th 5 = gI σ24 th 5 := by rw [eσ25]; exact up2_n _ _ (fun q => absurd q.2 (by decide))
  have kp30 : gI σ25 J 7 = gI σ24 J 7 := by rw [eσ25]; exact up2_n _ _ (fun q => absurd q.2 (by decide))
  have kp31 : gI σ25 J 1 = gI σ24 J 1 := by rw [eσ25]; exact up2_n _ _ (fun q => absurd q.2 (by decide))
  have kp32 : gI σ25 J 2 = gI σ24 J 2 := by rw [eσ25]; exact up2_n _ _ (fun q => absurd q.2 (by decide))
  intro σ26 eσ26
  have xσ26 : Ext σ25 σ26 := by rw [eσ26]; exact fun _ h => ⟨h, rfl, rfl⟩
  have iσ26 : IV σ26 pl gq ci gr nc ot LL N nu := by rw [eσ26]; exact iσ25.wP (kth.up (xσ19.trans (xσ23.trans (xσ24.trans xσ25)))) (by decide) (by intro q; exact absurd q (by simp [lbN])) (by intro _ _; trivial) (by intro q; exact absurd q (by decide))
  have fσ26 : Fx [257, 258, 261, 262, 263, 323, 324, 325, 326, 327, 328, 329, 330, 331, 332, 333, 334, 335, 336, 384, 385, 386, 387, 388, 389, 390, 391, 392, 6464, 6592, 8320, 8384, 8448] gr σ σ26 := fσ25.tr (Sk.fx (by rw [eσ26]; exact Sk.pP (by rw [fcdO (kth.up (xσ19.trans (xσ23.trans (xσ24.trans xσ25)))) (by decide)]; decide)))
  have wσ26 : gP σ26 th 7 = v3 := by rw [eσ26]; exact up2_s _ _ _ _
  have kp33 : gI σ26 th 0 = gI σ25 th 0 := by rw [eσ26]
  have kp34 : gI σ26 th 1 = gI σ25 th 1 := by rw [eσ26]
  have kp35 : gI σ26 th 2 = gI σ25 th 2 := by rw [eσ26]
  have kp36 : gI σ26 th 6 = gI σ25 th 6 := by rw [eσ26]
  have kp37 : gP σ26 th 0 = gP σ25 th 0 := by rw [eσ26]; exact up2_n _ _ (fun q => absurd q.2 (by decide))
  have kp38 : gI σ26 th 3 = gI σ25 th 3 := by rw [eσ26]
  have kp39 : gI σ26 th 5 = gI σ25 th 5 := by rw [eσ26]
  have kp40 : gI σ26 J 7 = gI σ25 J 7 := by rw [eσ26]
  have kp41 : gI σ26 J 1 = gI σ25 J 1 := by rw [eσ26]
  have kp42 : gI σ26 J 2 = gI σ25 J 2 := by rw [eσ26]
  refine ⟨J, (wσ26.trans hv3), fun kk_J => ?_⟩
  refine i_X4_forget iσ26 (kJ.up (xσ19.trans (xσ23.trans (xσ24.trans (xσ25.trans xσ26))))) (by (first | omega | with_reducible assumption | with_reducible exact rng_toInt _ | with_reducible exact rng_wr _ | (unfold rng; omega) | (unfold rng at *; omega) | assumption)) (by (first | omega | with_reducible assumption | with_reducible exact rng_toInt _ | with_reducible exact rng_wr _ | (unfold rng; omega) | (unfold rng at *; omega) | assumption)) (fun σ27 _ iσ27 cσ27 pσ27 => ?_)
  intro xσ27
  have fσ27 : Fx [257, 258, 261, 262, 263, 323, 324, 325, 326, 327, 328, 329, 330, 331, 332, 333, 334, 335, 336, 384, 385, 386, 387, 388, 389, 390, 391, 392, 6464, 6592, 8320, 8384, 8448] gr σ σ27 := fσ26.tr (cσ27.mo (by decide))
  have kp43 : gI σ27 th 0 = gI σ26 th 0 := (cσ27.O (kth.up (xσ19.trans (xσ23.trans (xσ24.trans (xσ25.trans xσ26))))) (by decide)).1
  have kp44 : gI σ27 th 1 = gI σ26 th 1 := (cσ27.O (kth.up (xσ19.trans (xσ23.trans (xσ24.trans (xσ25.trans xσ26))))) (by decide)).1
  have kp45 : gI σ27 th 2 = gI σ26 th 2 := (cσ27.O (kth.up (xσ19.trans (xσ23.trans (xσ24.trans (xσ25.trans xσ26))))) (by decide)).1
  have kp46 : gI σ27 th 6 = gI σ26 th 6 := (cσ27.O (kth.up (xσ19.trans (xσ23.trans (xσ24.trans (xσ25.trans xσ26))))) (by decide)).1
  have kp47 : gI σ27 th 7 = gI σ26 th 7 := (cσ27.O (kth.up (xσ19.trans (xσ23.trans (xσ24.trans (xσ25.trans xσ26))))) (by decide)).1
  have kp48 : gP σ27 th 0 = gP σ26 th 0 := (cσ27.O (kth.up (xσ19.trans (xσ23.trans (xσ24.trans (xσ25.trans xσ26))))) (by decide)).2.1
  have kp49 : gP σ27 th 7 = gP σ26 th 7 := (cσ27.O (kth.up (xσ19.trans (xσ23.trans (xσ24.trans (xσ25.trans xσ26))))) (by decide)).2.1
  have kp50 : gI σ27 th 3 = gI σ26 th 3 := (cσ27.O (kth.up (xσ19.trans (xσ23.trans (xσ24.trans (xσ25.trans xσ26))))) (by decide)).1
  have kp51 : gI σ27 th 5 = gI σ26 th 5 := (cσ27.O (kth.up (xσ19.trans (xσ23.trans (xσ24.trans (xσ25.trans xσ26))))) (by decide)).1
  unfold w_X6_read_37
  refine i0_X6_next iσ27 (kth.up (xσ19.trans (xσ23.trans (xσ24.trans (xσ25.trans (xσ26.trans xσ27)))))) (kp48.trans (kp37.trans (kp27.trans (kp18.trans (kp9.trans (wσ19.trans hv1)))))) (ktx.up (xσ19.trans (xσ23.trans (xσ24.trans (xσ25.trans (xσ26.trans xσ27)))))) (((xσ19.trans (xσ23.trans (xσ24.trans (xσ25.trans (xσ26.trans xσ27))))) tx ktx.1).2.2.trans gX) (by (first | omega | with_reducible assumption | with_reducible exact rng_toInt _ | with_reducible exact rng_wr _ | (unfold rng; omega) | (unfold rng at *; omega) | assumption)) (fun σ29 _ iσ29 cσ29 pσ29 => ?_) ?_
  · skip
    intro xσ29
    have fσ29 : Fx [257, 258, 261, 262, 263, 323, 324, 325, 326, 327, 328, 329, 330, 331, 332, 333, 334, 335, 336, 384, 385, 386, 387, 388, 389, 390, 391, 392, 6464, 6592, 8320, 8384, 8448] gr σ σ29 := fσ27.tr (cσ29.mo (by decide))
    have kp52 : gI σ29 th 0 = gI σ27 th 0 := (cσ29.O (kth.up (xσ19.trans (xσ23.trans (xσ24.trans (xσ25.trans (xσ26.trans xσ27)))))) (by decide)).1
    have kp53 : gI σ29 th 1 = gI σ27 th 1 := (cσ29.O (kth.up (xσ19.trans (xσ23.trans (xσ24.trans (xσ25.trans (xσ26.trans xσ27)))))) (by decide)).1
    have kp54 : gI σ29 th 7 = gI σ27 th 7 := (cσ29.O (kth.up (xσ19.trans (xσ23.trans (xσ24.trans (xσ25.trans (xσ26.trans xσ27)))))) (by decide)).1
    have kp55 : gP σ29 th 0 = gP σ27 th 0 := (cσ29.O (kth.up (xσ19.trans (xσ23.trans (xσ24.trans (xσ25.trans (xσ26.trans xσ27)))))) (by decide)).2.1
    have kp56 : gP σ29 th 7 = gP σ27 th 7 := (cσ29.O (kth.up (xσ19.trans (xσ23.trans (xσ24.trans (xσ25.trans (xσ26.trans xσ27)))))) (by decide)).2.1
    have kp57 : gI σ29 J 7 = gI σ27 J 7 := (cσ29.O (kJ.up (xσ19.trans (xσ23.trans (xσ24.trans (xσ25.trans (xσ26.trans xσ27)))))) (by decide)).1
    have kp58 : gI σ29 J 1 = gI σ27 J 1 := (cσ29.O (kJ.up (xσ19.trans (xσ23.trans (xσ24.trans (xσ25.trans (xσ26.trans xσ27)))))) (by decide)).1
    have kp59 : gI σ29 J 2 = gI σ27 J 2 := (cσ29.O (kJ.up (xσ19.trans (xσ23.trans (xσ24.trans (xσ25.trans (xσ26.trans xσ27)))))) (by decide)).1
    have r5σ29 := I_6_5 iσ29.1 (kth.up (xσ19.trans (xσ23.trans (xσ24.trans (xσ25.trans (xσ26.trans (xσ27.trans xσ29)))))))
    have Lp44 : ∀ (fu44 : Nat) (τ44 : Sg) (nut44 : Nat → Nat) (v4 : Int), IV τ44 pl gq ci gr nc ot LL N nut44 → Fx [257, 258, 261, 262, 263, 323, 324, 325, 326, 327, 328, 329, 330, 331, 332, 333, 334, 335, 336, 384, 385, 386, 387, 388, 389, 390, 391, 392, 6464, 6592, 8320, 8384, 8448] gr σ τ44 → Ext σ29 τ44 → NC nu nut44 → (∃ (ot2 : Nat → Nat → Int) (u : Nat), (((0 ≤ v4 ∧ v4 ≤ 16) ∧ gI τ44 J 1 = v4 ∧ (gI τ44 th 5 ≤ gI τ44 th 2 ∧ (gI τ44 th 3 ≠ 0 → gI τ44 th 5 + 1 ≤ gI τ44 th 2)) ∧ gI τ44 J 7 ≤ 2 * gI τ44 th 5) ∧ SO τ44 gq gr (ncq q v4.toNat u) ot2 ∧ KV τ44 th ∧ gP τ44 th 0 = some tx ∧ gP τ44 th 7 = some J) ∧ ((17 - v4).toNat) < fu44) → wl_X6_read_44 th Q X fu44 τ44 v4 := by
      intro fu44
      induction fu44 with
      | zero => intro _ _ _ _ _ _ _ h9; obtain ⟨_, _, _, h9⟩ := h9; omega
      | succ fu44 ih44 =>
        intro τ44 nut44 v4 iτ44 fτ44 xτ44 nu_τ44 hi44
        obtain ⟨ot2, u, hi44, hm44⟩ := hi44
        have uτ44_5 := nu_τ44 5 (by decide) (by decide)
        unfold wl_X6_read_44
        have hi8 := hi44.1
        obtain ⟨o9, ho9⟩ := iτ44.opAt (kJ.up (xσ19.trans (xσ23.trans (xσ24.trans (xσ25.trans (xσ26.trans (xσ27.trans (xσ29.trans xτ44)))))))) hJq v4.toNat
        have r71 := I_4_1 iτ44.1 (kJ.up (xσ19.trans (xσ23.trans (xσ24.trans (xσ25.trans (xσ26.trans (xσ27.trans (xσ29.trans xτ44))))))))
        unfold w_X6_read_44
        by_cases hc60 : v4 > 16
        · rw [if_pos hc60]
          unfold w_X6_read_101
          unfold w_X6_read_111
          exact hQ τ44 nut44 0 iτ44 fτ44 (nu_τ44.nx) (⟨by unfold rng; omega, Or.inr ⟨_, _, _, hi44.2.1⟩⟩)
        · rw [if_neg hc60]
          unfold w_X6_read_51
          have q62 := iτ44.rg th 3; unfold rng at q62
          by_cases hc61 : gI τ44 th 3 ≠ 0
          · rw [if_pos hc61]
            refine rd_body iτ44 (kth.up (xσ19.trans (xσ23.trans (xσ24.trans (xσ25.trans (xσ26.trans (xσ27.trans (xσ29.trans xτ44)))))))) hi44.2.2.2.1 (ktx.up (xσ19.trans (xσ23.trans (xσ24.trans (xσ25.trans (xσ26.trans (xσ27.trans (xσ29.trans xτ44)))))))) (by rw [(fτ44.1 tx ktx.1).2.2]; exact gX) hi44.2.2.2.2 (kJ.up (xσ19.trans (xσ23.trans (xσ24.trans (xσ25.trans (xσ26.trans (xσ27.trans (xσ29.trans xτ44)))))))) hJq hq hi8.2.1 hi8.1 hi8.2.2.1 (by omega) hi8.2.2.2 hi44.2.2.1 hi44.2.1 (fun σ9 nu9 ot3 u3 i9 f9 u9 p9 so9 kv9 e09 e79 => ih44 σ9 nu9 (v4 + 1) i9 (fτ44.tr f9) (xτ44.trans f9.1) (nu_τ44.tr u9) ⟨ot3, u3, ⟨⟨⟨by omega, p9.2.2.2⟩, p9.2.2.1, p9.1, p9.2.1⟩, by rw [show (v4 + 1).toNat = v4.toNat + 1 by omega]; exact so9, kv9, e09, e79⟩, by omega⟩) (fun σx LLx Nx nux E ix cx ux px => ⟨px.2.2.1, fun u0 => hQ σx nux (gI σx th 6) (by rw [px.1, px.2.1] at ix; exact ix) (fτ44.tr cx) (nu_τ44.x ux) ⟨ix.rg _ _, Or.inl px.2.2.2⟩⟩)
          · rw [if_neg hc61]
            have hc61q := Classical.not_not.mp hc61
            unfold w_X6_read_58
            refine ⟨J, hi44.2.2.2.2, fun kk_J_1 => ?_⟩
            have q64 := I_4_2 iτ44.1 (kJ.up (xσ19.trans (xσ23.trans (xσ24.trans (xσ25.trans (xσ26.trans (xσ27.trans (xσ29.trans xτ44))))))))
            by_cases hc63 : gI τ44 J 2 ≠ 0
            · rw [if_pos hc63]
              unfold w_X6_read_101
              unfold w_X6_read_111
              exact hQ τ44 nut44 0 iτ44 fτ44 (nu_τ44.nx) (⟨by unfold rng; omega, Or.inr ⟨_, _, _, hi44.2.1⟩⟩)
            · rw [if_neg hc63]
              have hc63q := Classical.not_not.mp hc63
              refine rd_body iτ44 (kth.up (xσ19.trans (xσ23.trans (xσ24.trans (xσ25.trans (xσ26.trans (xσ27.trans (xσ29.trans xτ44)))))))) hi44.2.2.2.1 (ktx.up (xσ19.trans (xσ23.trans (xσ24.trans (xσ25.trans (xσ26.trans (xσ27.trans (xσ29.trans xτ44)))))))) (by rw [(fτ44.1 tx ktx.1).2.2]; exact gX) hi44.2.2.2.2 (kJ.up (xσ19.trans (xσ23.trans (xσ24.trans (xσ25.trans (xσ26.trans (xσ27.trans (xσ29.trans xτ44)))))))) hJq hq hi8.2.1 hi8.1 hi8.2.2.1 (by omega) hi8.2.2.2 hi44.2.2.1 hi44.2.1 (fun σ9 nu9 ot3 u3 i9 f9 u9 p9 so9 kv9 e09 e79 => ih44 σ9 nu9 (v4 + 1) i9 (fτ44.tr f9) (xτ44.trans f9.1) (nu_τ44.tr u9) ⟨ot3, u3, ⟨⟨⟨by omega, p9.2.2.2⟩, p9.2.2.1, p9.1, p9.2.1⟩, by rw [show (v4 + 1).toNat = v4.toNat + 1 by omega]; exact so9, kv9, e09, e79⟩, by omega⟩) (fun σx LLx Nx nux E ix cx ux px => ⟨px.2.2.1, fun u0 => hQ σx nux (gI σx th 6) (by rw [px.1, px.2.1] at ix; exact ix) (fτ44.tr cx) (nu_τ44.x ux) ⟨ix.rg _ _, Or.inl px.2.2.2⟩⟩)
    exact ⟨18, Lp44 _ σ29 nu _ iσ29 fσ29 (Ext.rfl' _) NC.rf (⟨fun _ _ => 0, 0, ⟨by omega, SO.nul iσ29 (kJ.up (xσ19.trans (xσ23.trans (xσ24.trans (xσ25.trans (xσ26.trans (xσ27.trans xσ29))))))) hJq (by omega) (by omega), pσ29.1, (kp55.trans (kp48.trans (kp37.trans (kp27.trans (kp18.trans (kp9.trans (wσ19.trans hv1))))))), (kp56.trans (kp49.trans (wσ26.trans hv3)))⟩, by omega⟩)⟩
  · intro σx LLσx Nσx nuσx Eσx iσx cσx uσx pσx xσx
    unfold wx_X6_read_104
    refine ⟨by first | exact pσx | exact pσx.1 | exact pσx.2 | exact pσx.2.2.1 | exact pσx.2.2 | (first | omega | with_reducible assumption | with_reducible exact rng_toInt _ | with_reducible exact rng_wr _ | (unfold rng; omega) | (unfold rng at *; omega) | assumption), fun u0 => ?_⟩
    have px6σx := pσx.2.2.2
    have jσx := iσx
    rw [pσx.1, pσx.2.1] at jσx
    have iσx := jσx
    have hnuσx : NCX nu nuσx := uσx
    have fσx : Fx [257, 258, 261, 262, 263, 323, 324, 325, 326, 327, 328, 329, 330, 331, 332, 333, 334, 335, 336, 384, 385, 386, 387, 388, 389, 390, 391, 392, 6464, 6592, 8320, 8384, 8448] gr σ σx := fσ27.tr (cσx.mo (by decide))
    unfold w_X6_read_104
    have q65 := iσx.rg th 6; unfold rng at q65
    exact hQ σx nuσx (gI σx th 6) iσx fσx (hnuσx) (⟨iσx.rg _ _, Or.inl px6σx⟩)

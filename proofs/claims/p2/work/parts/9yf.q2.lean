def RC0 (pl : Nat) (gq ci gr nc : Nat → Nat) (ot : Nat → Nat → Int) (LL : Nat → List Nat) (N : Nat → Nat) (th tx J o q c n : Nat) : Prop := ∀ {σ : Sg} {nu : Nat → Nat} {v1 v2 : Int}, IV σ pl gq ci gr nc ot LL N nu → kO σ th 6 → (gP σ th 0 = some tx) → (kO σ tx 102) → (gn σ tx = 1500) → (gP σ th 7 = some J) → (kO σ J 4) → (gP σ th 8 = some o) → (kO σ o 5) → (gq J = q) → (q ≠ nc 0 ∧ q ≤ 1) → (gq o = 16 * q + c) → (c < 16) → (gI σ th 5 ≤ gI σ th 2 ∧ (gI σ th 3 ≠ 0 → gI σ th 5 + 1 ≤ gI σ th 2)) → (nu 5 < 24000) → (gI σ J 7 ≤ 2 * gI σ th 5) → (0 ≤ gI σ o 7) → ((0 ≤ v1 ∧ v1 ≤ 10) ∧ 8 * (11 - v1) ≤ (n : Int)) → ∀ {Q : Sg → Unit → Prop} {X : Sg → String → Prop}, (∀ (σ' : Sg) (nu' : Nat → Nat) (r : Unit), IV σ' pl gq ci gr nc ot LL N nu' → Fx [261, 262, 263, 386, 387, 388, 389, 390, 6464, 8320] gr σ σ' → NC nu nu' → ((gI σ' th 5 ≤ gI σ' th 2 ∧ (gI σ' th 3 ≠ 0 → gI σ' th 5 + 1 ≤ gI σ' th 2)) ∧ gI σ J 7 ≤ gI σ' J 7 ∧ gI σ' J 7 + 1 + 2 * gI σ th 5 ≤ gI σ J 7 + 2 * gI σ' th 5) → Q σ' r) → (∀ (σ' : Sg) (LL' : Nat → List Nat) (N' nu' : Nat → Nat) (E : String), IV σ' pl gq ci gr nc ot LL' N' nu' → Fx [261, 262, 263, 386, 387, 388, 389, 390, 6464, 8320] gr σ σ' → NCX nu nu' → (LL' = LL ∧ N' = N ∧ E = "java/lang/IllegalArgumentException" ∧ gI σ' th 6 ≠ 0) → X σ' E) → wrecC th n 0 v1 v2 σ Q X
def RC1 (pl : Nat) (gq ci gr nc : Nat → Nat) (ot : Nat → Nat → Int) (LL : Nat → List Nat) (N : Nat → Nat) (th tx J o q c n : Nat) : Prop := ∀ {σ : Sg} {nu : Nat → Nat} {v1 v2 : Int}, IV σ pl gq ci gr nc ot LL N nu → kO σ th 6 → (gP σ th 0 = some tx) → (kO σ tx 102) → (gn σ tx = 1500) → (gP σ th 7 = some J) → (kO σ J 4) → (gP σ th 8 = some o) → (kO σ o 5) → (gq J = q) → (q ≠ nc 0 ∧ q ≤ 1) → (gq o = 16 * q + c) → (c < 16) → (gI σ th 5 ≤ gI σ th 2 ∧ (gI σ th 3 ≠ 0 → gI σ th 5 + 1 ≤ gI σ th 2)) → (nu 5 < 24000) → (gI σ J 7 ≤ 2 * gI σ th 5) → (0 ≤ gI σ o 7) → (((0 ≤ v2 ∧ v2 ≤ 10) ∧ 0 ≤ v1 ∧ v1 ≤ 4) ∧ 8 * (11 - v2) - 1 - v1 ≤ (n : Int)) → ∀ {Q : Sg → Unit → Prop} {X : Sg → String → Prop}, (∀ (σ' : Sg) (nu' : Nat → Nat) (r : Unit), IV σ' pl gq ci gr nc ot LL N nu' → Fx [261, 262, 263, 386, 387, 388, 389, 390, 6464, 8320] gr σ σ' → NC nu nu' → ((gI σ' th 5 ≤ gI σ' th 2 ∧ (gI σ' th 3 ≠ 0 → gI σ' th 5 + 1 ≤ gI σ' th 2)) ∧ gI σ J 7 ≤ gI σ' J 7 ∧ gI σ' J 7 + 1 + 2 * gI σ th 5 ≤ gI σ J 7 + 2 * gI σ' th 5) → Q σ' r) → (∀ (σ' : Sg) (LL' : Nat → List Nat) (N' nu' : Nat → Nat) (E : String), IV σ' pl gq ci gr nc ot LL' N' nu' → Fx [261, 262, 263, 386, 387, 388, 389, 390, 6464, 8320] gr σ σ' → NCX nu nu' → (LL' = LL ∧ N' = N ∧ E = "java/lang/IllegalArgumentException" ∧ gI σ' th 6 ≠ 0) → X σ' E) → wrecC th n 1 v1 v2 σ Q X
def RC2 (pl : Nat) (gq ci gr nc : Nat → Nat) (ot : Nat → Nat → Int) (LL : Nat → List Nat) (N : Nat → Nat) (th tx J o q c n : Nat) : Prop := ∀ {σ : Sg} {nu : Nat → Nat} {v1 v2 : Int}, IV σ pl gq ci gr nc ot LL N nu → kO σ th 6 → (gP σ th 0 = some tx) → (kO σ tx 102) → (gn σ tx = 1500) → (gP σ th 7 = some J) → (kO σ J 4) → (gP σ th 8 = some o) → (kO σ o 5) → (gq J = q) → (q ≠ nc 0 ∧ q ≤ 1) → (gq o = 16 * q + c) → (c < 16) → (gI σ th 5 ≤ gI σ th 2 ∧ (gI σ th 3 ≠ 0 → gI σ th 5 + 1 ≤ gI σ th 2)) → (nu 5 < 24000) → (gI σ J 7 ≤ 2 * gI σ th 5) → (0 ≤ gI σ o 7) → ((0 ≤ v1 ∧ v1 ≤ 10) ∧ 8 * (11 - v1) - 6 ≤ (n : Int)) → ∀ {Q : Sg → Unit → Prop} {X : Sg → String → Prop}, (∀ (σ' : Sg) (nu' : Nat → Nat) (r : Unit), IV σ' pl gq ci gr nc ot LL N nu' → Fx [261, 262, 263, 386, 387, 388, 389, 390, 6464, 8320] gr σ σ' → NC nu nu' → ((gI σ' th 5 ≤ gI σ' th 2 ∧ (gI σ' th 3 ≠ 0 → gI σ' th 5 + 1 ≤ gI σ' th 2)) ∧ gI σ J 7 ≤ gI σ' J 7 ∧ gI σ' J 7 + 1 + 2 * gI σ th 5 ≤ gI σ J 7 + 2 * gI σ' th 5) → Q σ' r) → (∀ (σ' : Sg) (LL' : Nat → List Nat) (N' nu' : Nat → Nat) (E : String), IV σ' pl gq ci gr nc ot LL' N' nu' → Fx [261, 262, 263, 386, 387, 388, 389, 390, 6464, 8320] gr σ σ' → NCX nu nu' → (LL' = LL ∧ N' = N ∧ E = "java/lang/IllegalArgumentException" ∧ gI σ' th 6 ≠ 0) → X σ' E) → wrecC th n 2 v1 v2 σ Q X
def RC3 (pl : Nat) (gq ci gr nc : Nat → Nat) (ot : Nat → Nat → Int) (LL : Nat → List Nat) (N : Nat → Nat) (th tx J o q c n : Nat) : Prop := ∀ {σ : Sg} {nu : Nat → Nat} {v1 v2 : Int}, IV σ pl gq ci gr nc ot LL N nu → kO σ th 6 → (gP σ th 0 = some tx) → (kO σ tx 102) → (gn σ tx = 1500) → (gP σ th 7 = some J) → (kO σ J 4) → (gP σ th 8 = some o) → (kO σ o 5) → (gq J = q) → (q ≠ nc 0 ∧ q ≤ 1) → (gq o = 16 * q + c) → (c < 16) → (gI σ th 5 ≤ gI σ th 2 ∧ (gI σ th 3 ≠ 0 → gI σ th 5 + 1 ≤ gI σ th 2)) → (nu 5 < 24000) → (gI σ J 7 ≤ 2 * gI σ th 5) → (0 ≤ gI σ o 7) → ((0 ≤ v1 ∧ v1 ≤ 10) ∧ 8 * (11 - v1) - 7 ≤ (n : Int)) → ∀ {Q : Sg → Unit → Prop} {X : Sg → String → Prop}, (∀ (σ' : Sg) (nu' : Nat → Nat) (r : Unit), IV σ' pl gq ci gr nc ot LL N nu' → Fx [261, 262, 263, 386, 387, 388, 389, 390, 6464, 8320] gr σ σ' → NC nu nu' → ((gI σ' th 5 ≤ gI σ' th 2 ∧ (gI σ' th 3 ≠ 0 → gI σ' th 5 + 1 ≤ gI σ' th 2)) ∧ gI σ J 7 ≤ gI σ' J 7 ∧ gI σ' J 7 + 1 + 2 * gI σ th 5 ≤ gI σ J 7 + 2 * gI σ' th 5) → Q σ' r) → (∀ (σ' : Sg) (LL' : Nat → List Nat) (N' nu' : Nat → Nat) (E : String), IV σ' pl gq ci gr nc ot LL' N' nu' → Fx [261, 262, 263, 386, 387, 388, 389, 390, 6464, 8320] gr σ σ' → NCX nu nu' → (LL' = LL ∧ N' = N ∧ E = "java/lang/IllegalArgumentException" ∧ gI σ' th 6 ≠ 0) → X σ' E) → wrecC th n 3 v1 v2 σ Q X
set_option maxHeartbeats 1000000 in
theorem s_X6_value {pl : Nat} {gq ci gr nc : Nat → Nat} {ot : Nat → Nat → Int} {LL : Nat → List Nat} {N : Nat → Nat} {th tx J o q c n : Nat} (ih0 : RC0 pl gq ci gr nc ot LL N th tx J o q c n) (ih1 : RC1 pl gq ci gr nc ot LL N th tx J o q c n) (ih2 : RC2 pl gq ci gr nc ot LL N th tx J o q c n) (ih3 : RC3 pl gq ci gr nc ot LL N th tx J o q c n) : RC0 pl gq ci gr nc ot LL N th tx J o q c (n + 1) := by
  intro σ nu v1 v2 iσ kth hX0 kX gX h7 kJ h8 ko hJq hq go hc tf h5 lp ho7 nd Q X hQ hX
  have fσ : Fx [261, 262, 263, 386, 387, 388, 389, 390, 6464, 8320] gr σ σ := Fx.rf
  have q1 := I_6_5 iσ.1 kth
  have q2 := I_6_2 iσ.1 kth
  have q3 := iσ.rg th 3; unfold rng at q3
  have q4 := I_4_7 iσ.1 kJ
  have q5 := I_5_7 iσ.1 ko
  have ncb := iσ.ncb
  have r50 := I_6_5 iσ.1 kth
  have r70 := I_4_7 iσ.1 kJ
  show w_X6_value_0 th (wrecC th n) Q X σ v1
  unfold w_X6_value_0
  refine ih1 iσ kth hX0 kX (((Ext.rfl' _) tx kX.1).2.2.trans gX) h7 kJ h8 ko (by (first | omega | with_reducible assumption | with_reducible exact rng_toInt _ | with_reducible exact rng_wr _ | (unfold rng; omega) | (unfold rng at *; omega) | assumption)) (by (first | omega | with_reducible assumption | with_reducible exact rng_toInt _ | with_reducible exact rng_wr _ | (unfold rng; omega) | (unfold rng at *; omega) | assumption)) (by (first | omega | with_reducible assumption | with_reducible exact rng_toInt _ | with_reducible exact rng_wr _ | (unfold rng; omega) | (unfold rng at *; omega) | assumption)) (by (first | omega | with_reducible assumption | with_reducible exact rng_toInt _ | with_reducible exact rng_wr _ | (unfold rng; omega) | (unfold rng at *; omega) | assumption)) (by (first | omega | with_reducible assumption | with_reducible exact rng_toInt _ | with_reducible exact rng_wr _ | (unfold rng; omega) | (unfold rng at *; omega) | assumption)) (by (first | omega | with_reducible assumption | with_reducible exact rng_toInt _ | with_reducible exact rng_wr _ | (unfold rng; omega) | (unfold rng at *; omega) | assumption)) (by (first | omega | with_reducible assumption | with_reducible exact rng_toInt _ | with_reducible exact rng_wr _ | (unfold rng; omega) | (unfold rng at *; omega) | assumption)) (by (first | omega | with_reducible assumption | with_reducible exact rng_toInt _ | with_reducible exact rng_wr _ | (unfold rng; omega) | (unfold rng at *; omega) | assumption)) (by (first | omega | with_reducible assumption | with_reducible exact rng_toInt _ | with_reducible exact rng_wr _ | (unfold rng; omega) | (unfold rng at *; omega) | assumption)) (fun σ19 nuσ19 _ iσ19 cσ19 uσ19 pσ19 => ?_) (fun σx LLx Nx nux E ix cx ux px => hX σx LLx Nx nux E ix (fσ.tr (cx.mo (by decide))) (ux) (by first | exact px | exact ⟨by have := px.1; omega, px.2⟩ | (first | omega | with_reducible assumption | with_reducible exact rng_toInt _ | with_reducible exact rng_wr _ | (unfold rng; omega) | (unfold rng at *; omega) | assumption)))
  intro xσ19
  have fσ19 : Fx [261, 262, 263, 386, 387, 388, 389, 390, 6464, 8320] gr σ σ19 := fσ.tr (cσ19.mo (by decide))
  have nu_σ19 : NC nu nuσ19 := uσ19
  have uσ19_0 := uσ19 0 (by decide) (by decide)
  have uσ19_1 := uσ19 1 (by decide) (by decide)
  have uσ19_2 := uσ19 2 (by decide) (by decide)
  have uσ19_5 := uσ19 5 (by decide) (by decide)
  have uσ19_15 := uσ19 15 (by decide) (by decide)
  have uσ19_16 := uσ19 16 (by decide) (by decide)
  have kp6 : gI σ19 o 7 = gI σ o 7 := (cσ19.O ko (by decide)).1
  have kp7 : gP σ19 th 0 = gP σ th 0 := (cσ19.O kth (by decide)).2.1
  have kp8 : gP σ19 th 7 = gP σ th 7 := (cσ19.O kth (by decide)).2.1
  have kp9 : gP σ19 th 8 = gP σ th 8 := (cσ19.O kth (by decide)).2.1
  have r5σ19 := I_6_5 iσ19.1 (kth.up xσ19)
  refine i_X6_isSign iσ19 (kth.up xσ19) (fun r21 pσ20 => ?_)
  intro xσ20
  by_cases hc10 : r21 ≠ 0
  · rw [if_pos hc10]
    unfold w_X6_value_16
    refine i_X6_goDeeper iσ19 (kth.up xσ19) (by (first | omega | with_reducible assumption | with_reducible exact rng_toInt _ | with_reducible exact rng_wr _ | (unfold rng; omega) | (unfold rng at *; omega) | assumption)) (fun σ22 _ iσ22 cσ22 pσ22 => ?_) (fun σx LLx Nx nux E ix cx ux px => hX σx LLx Nx nux E ix (fσ19.tr (cx.mo (by decide))) (nu_σ19.x ux) (by first | exact px | exact ⟨by have := px.1; omega, px.2⟩ | (first | omega | with_reducible assumption | with_reducible exact rng_toInt _ | with_reducible exact rng_wr _ | (unfold rng; omega) | (unfold rng at *; omega) | assumption)))
    intro xσ22
    have fσ22 : Fx [261, 262, 263, 386, 387, 388, 389, 390, 6464, 8320] gr σ σ22 := fσ19.tr (cσ22.mo (by decide))
    have kp11 : gI σ22 o 7 = gI σ19 o 7 := (cσ22.O (ko.up xσ19) (by decide)).1
    have kp12 : gP σ22 th 0 = gP σ19 th 0 := (cσ22.O (kth.up xσ19) (by decide)).2.1
    have kp13 : gP σ22 th 7 = gP σ19 th 7 := (cσ22.O (kth.up xσ19) (by decide)).2.1
    have kp14 : gP σ22 th 8 = gP σ19 th 8 := (cσ22.O (kth.up xσ19) (by decide)).2.1
    have kp15 : gI σ22 th 2 = gI σ19 th 2 := (cσ22.O (kth.up xσ19) (by decide)).1
    have kp16 : gI σ22 th 3 = gI σ19 th 3 := (cσ22.O (kth.up xσ19) (by decide)).1
    have kp17 : gI σ22 th 5 = gI σ19 th 5 := (cσ22.O (kth.up xσ19) (by decide)).1
    have kp18 : gI σ22 J 7 = gI σ19 J 7 := (cσ22.O (kJ.up xσ19) (by decide)).1
    refine i_X6_next iσ22 (kth.up (xσ19.trans xσ22)) (kp12.trans (kp7.trans hX0)) (kX.up (xσ19.trans xσ22)) (((xσ19.trans xσ22) tx kX.1).2.2.trans gX) (by (first | omega | with_reducible assumption | with_reducible exact rng_toInt _ | with_reducible exact rng_wr _ | (unfold rng; omega) | (unfold rng at *; omega) | assumption)) (by (first | omega | with_reducible assumption | with_reducible exact rng_toInt _ | with_reducible exact rng_wr _ | (unfold rng; omega) | (unfold rng at *; omega) | assumption)) (fun σ23 _ iσ23 cσ23 pσ23 => ?_) (fun σx LLx Nx nux E ix cx ux px => hX σx LLx Nx nux E ix (fσ22.tr (cx.mo (by decide))) (nu_σ19.x ux) (by first | exact px | exact ⟨by have := px.1; omega, px.2⟩ | (first | omega | with_reducible assumption | with_reducible exact rng_toInt _ | with_reducible exact rng_wr _ | (unfold rng; omega) | (unfold rng at *; omega) | assumption)))
    intro xσ23
    have fσ23 : Fx [261, 262, 263, 386, 387, 388, 389, 390, 6464, 8320] gr σ σ23 := fσ22.tr (cσ23.mo (by decide))
    have kp19 : gI σ23 o 7 = gI σ22 o 7 := (cσ23.O (ko.up (xσ19.trans xσ22)) (by decide)).1
    have kp20 : gP σ23 th 0 = gP σ22 th 0 := (cσ23.O (kth.up (xσ19.trans xσ22)) (by decide)).2.1
    have kp21 : gP σ23 th 7 = gP σ22 th 7 := (cσ23.O (kth.up (xσ19.trans xσ22)) (by decide)).2.1
    have kp22 : gP σ23 th 8 = gP σ22 th 8 := (cσ23.O (kth.up (xσ19.trans xσ22)) (by decide)).2.1
    have kp23 : gI σ23 J 7 = gI σ22 J 7 := (cσ23.O (kJ.up (xσ19.trans xσ22)) (by decide)).1
    have r5σ23 := I_6_5 iσ23.1 (kth.up (xσ19.trans (xσ22.trans xσ23)))
    refine ⟨J, (kp21.trans (kp13.trans (kp8.trans h7))), fun kk_J => ?_⟩
    refine i_X4_emit iσ23 (kJ.up (xσ19.trans (xσ22.trans xσ23))) (by (first | omega | with_reducible assumption | with_reducible exact rng_toInt _ | with_reducible exact rng_wr _ | (unfold rng; omega) | (unfold rng at *; omega) | assumption)) (by (first | omega | with_reducible assumption | with_reducible exact rng_toInt _ | with_reducible exact rng_wr _ | (unfold rng; omega) | (unfold rng at *; omega) | assumption)) (by (first | omega | with_reducible assumption | with_reducible exact rng_toInt _ | with_reducible exact rng_wr _ | (unfold rng; omega) | (unfold rng at *; omega) | assumption)) (by (first | omega | with_reducible assumption | with_reducible exact rng_toInt _ | with_reducible exact rng_wr _ | (unfold rng; omega) | (unfold rng at *; omega) | assumption)) (fun σ24 nuσ24 r25 iσ24 cσ24 uσ24 pσ24 => ?_)
    intro xσ24
    have fσ24 : Fx [261, 262, 263, 386, 387, 388, 389, 390, 6464, 8320] gr σ σ24 := fσ23.tr (cσ24.mo (by decide))
    have nu_σ24 : NC nu nuσ24 := nu_σ19.tr uσ24
    have uσ24_0 := uσ24 0 (by decide) (by decide)
    have uσ24_1 := uσ24 1 (by decide) (by decide)
    have uσ24_2 := uσ24 2 (by decide) (by decide)
    have uσ24_5 := uσ24 5 (by decide) (by decide)
    have uσ24_15 := uσ24 15 (by decide) (by decide)
    have uσ24_16 := uσ24 16 (by decide) (by decide)
    have kp24 : gI σ24 o 7 = gI σ23 o 7 := (cσ24.O (ko.up (xσ19.trans (xσ22.trans xσ23))) (by decide)).1
    have kp25 : gP σ24 th 0 = gP σ23 th 0 := (cσ24.O (kth.up (xσ19.trans (xσ22.trans xσ23))) (by decide)).2.1
    have kp26 : gP σ24 th 7 = gP σ23 th 7 := (cσ24.O (kth.up (xσ19.trans (xσ22.trans xσ23))) (by decide)).2.1
    have kp27 : gP σ24 th 8 = gP σ23 th 8 := (cσ24.O (kth.up (xσ19.trans (xσ22.trans xσ23))) (by decide)).2.1
    have kp28 : gI σ24 th 2 = gI σ23 th 2 := (cσ24.O (kth.up (xσ19.trans (xσ22.trans xσ23))) (by decide)).1
    have kp29 : gI σ24 th 3 = gI σ23 th 3 := (cσ24.O (kth.up (xσ19.trans (xσ22.trans xσ23))) (by decide)).1
    have kp30 : gI σ24 th 5 = gI σ23 th 5 := (cσ24.O (kth.up (xσ19.trans (xσ22.trans xσ23))) (by decide)).1
    refine ⟨by (first | omega | with_reducible assumption | with_reducible exact rng_toInt _ | with_reducible exact rng_wr _ | (unfold rng; omega) | (unfold rng at *; omega) | assumption), ?_⟩
    refine ih0 iσ24 (kth.up (xσ19.trans (xσ22.trans (xσ23.trans xσ24)))) (kp25.trans (kp20.trans (kp12.trans (kp7.trans hX0)))) (kX.up (xσ19.trans (xσ22.trans (xσ23.trans xσ24)))) (((xσ19.trans (xσ22.trans (xσ23.trans xσ24))) tx kX.1).2.2.trans gX) (kp26.trans (kp21.trans (kp13.trans (kp8.trans h7)))) (kJ.up (xσ19.trans (xσ22.trans (xσ23.trans xσ24)))) (kp27.trans (kp22.trans (kp14.trans (kp9.trans h8)))) (ko.up (xσ19.trans (xσ22.trans (xσ23.trans xσ24)))) (by (first | omega | with_reducible assumption | with_reducible exact rng_toInt _ | with_reducible exact rng_wr _ | (unfold rng; omega) | (unfold rng at *; omega) | assumption)) (by (first | omega | with_reducible assumption | with_reducible exact rng_toInt _ | with_reducible exact rng_wr _ | (unfold rng; omega) | (unfold rng at *; omega) | assumption)) (by (first | omega | with_reducible assumption | with_reducible exact rng_toInt _ | with_reducible exact rng_wr _ | (unfold rng; omega) | (unfold rng at *; omega) | assumption)) (by (first | omega | with_reducible assumption | with_reducible exact rng_toInt _ | with_reducible exact rng_wr _ | (unfold rng; omega) | (unfold rng at *; omega) | assumption)) (by (first | omega | with_reducible assumption | with_reducible exact rng_toInt _ | with_reducible exact rng_wr _ | (unfold rng; omega) | (unfold rng at *; omega) | assumption)) (by (first | omega | with_reducible assumption | with_reducible exact rng_toInt _ | with_reducible exact rng_wr _ | (unfold rng; omega) | (unfold rng at *; omega) | assumption)) (by (first | omega | with_reducible assumption | with_reducible exact rng_toInt _ | with_reducible exact rng_wr _ | (unfold rng; omega) | (unfold rng at *; omega) | assumption)) (by (first | omega | with_reducible assumption | with_reducible exact rng_toInt _ | with_reducible exact rng_wr _ | (unfold rng; omega) | (unfold rng at *; omega) | assumption)) (by (first | omega | with_reducible assumption | with_reducible exact rng_toInt _ | with_reducible exact rng_wr _ | (unfold rng; omega) | (unfold rng at *; omega) | assumption)) (fun σ27 nuσ27 _ iσ27 cσ27 uσ27 pσ27 => ?_) (fun σx LLx Nx nux E ix cx ux px => hX σx LLx Nx nux E ix (fσ24.tr (cx.mo (by decide))) (nu_σ24.x ux) (by first | exact px | exact ⟨by have := px.1; omega, px.2⟩ | (first | omega | with_reducible assumption | with_reducible exact rng_toInt _ | with_reducible exact rng_wr _ | (unfold rng; omega) | (unfold rng at *; omega) | assumption)))
    intro xσ27
    have fσ27 : Fx [261, 262, 263, 386, 387, 388, 389, 390, 6464, 8320] gr σ σ27 := fσ24.tr (cσ27.mo (by decide))
    have nu_σ27 : NC nu nuσ27 := nu_σ24.tr uσ27
    have uσ27_0 := uσ27 0 (by decide) (by decide)
    have uσ27_1 := uσ27 1 (by decide) (by decide)
    have uσ27_2 := uσ27 2 (by decide) (by decide)
    have uσ27_5 := uσ27 5 (by decide) (by decide)
    have uσ27_15 := uσ27 15 (by decide) (by decide)
    have uσ27_16 := uσ27 16 (by decide) (by decide)
    have kp31 : gI σ27 o 7 = gI σ24 o 7 := (cσ27.O (ko.up (xσ19.trans (xσ22.trans (xσ23.trans xσ24)))) (by decide)).1
    have kp32 : gP σ27 th 0 = gP σ24 th 0 := (cσ27.O (kth.up (xσ19.trans (xσ22.trans (xσ23.trans xσ24)))) (by decide)).2.1
    have kp33 : gP σ27 th 7 = gP σ24 th 7 := (cσ27.O (kth.up (xσ19.trans (xσ22.trans (xσ23.trans xσ24)))) (by decide)).2.1
    have kp34 : gP σ27 th 8 = gP σ24 th 8 := (cσ27.O (kth.up (xσ19.trans (xσ22.trans (xσ23.trans xσ24)))) (by decide)).2.1
    have r5σ27 := I_6_5 iσ27.1 (kth.up (xσ19.trans (xσ22.trans (xσ23.trans (xσ24.trans xσ27)))))
    refine i_X6_wantSign iσ27 (kth.up (xσ19.trans (xσ22.trans (xσ23.trans (xσ24.trans xσ27))))) (kp32.trans (kp25.trans (kp20.trans (kp12.trans (kp7.trans hX0))))) (kX.up (xσ19.trans (xσ22.trans (xσ23.trans (xσ24.trans xσ27))))) (((xσ19.trans (xσ22.trans (xσ23.trans (xσ24.trans xσ27)))) tx kX.1).2.2.trans gX) (by (first | omega | with_reducible assumption | with_reducible exact rng_toInt _ | with_reducible exact rng_wr _ | (unfold rng; omega) | (unfold rng at *; omega) | assumption)) (by (first | omega | with_reducible assumption | with_reducible exact rng_toInt _ | with_reducible exact rng_wr _ | (unfold rng; omega) | (unfold rng at *; omega) | assumption)) (fun σ28 _ iσ28 cσ28 pσ28 => ?_) (fun σx LLx Nx nux E ix cx ux px => hX σx LLx Nx nux E ix (fσ27.tr (cx.mo (by decide))) (nu_σ27.x ux) (by first | exact px | exact ⟨by have := px.1; omega, px.2⟩ | (first | omega | with_reducible assumption | with_reducible exact rng_toInt _ | with_reducible exact rng_wr _ | (unfold rng; omega) | (unfold rng at *; omega) | assumption)))
    intro xσ28
    have fσ28 : Fx [261, 262, 263, 386, 387, 388, 389, 390, 6464, 8320] gr σ σ28 := fσ27.tr (cσ28.mo (by decide))
    have kp35 : gI σ28 o 7 = gI σ27 o 7 := (cσ28.O (ko.up (xσ19.trans (xσ22.trans (xσ23.trans (xσ24.trans xσ27))))) (by decide)).1
    have kp36 : gP σ28 th 0 = gP σ27 th 0 := (cσ28.O (kth.up (xσ19.trans (xσ22.trans (xσ23.trans (xσ24.trans xσ27))))) (by decide)).2.1
    have kp37 : gP σ28 th 7 = gP σ27 th 7 := (cσ28.O (kth.up (xσ19.trans (xσ22.trans (xσ23.trans (xσ24.trans xσ27))))) (by decide)).2.1
    have kp38 : gP σ28 th 8 = gP σ27 th 8 := (cσ28.O (kth.up (xσ19.trans (xσ22.trans (xσ23.trans (xσ24.trans xσ27))))) (by decide)).2.1
    have kp39 : gI σ28 J 7 = gI σ27 J 7 := (cσ28.O (kJ.up (xσ19.trans (xσ22.trans (xσ23.trans (xσ24.trans xσ27))))) (by decide)).1
    have r5σ28 := I_6_5 iσ28.1 (kth.up (xσ19.trans (xσ22.trans (xσ23.trans (xσ24.trans (xσ27.trans xσ28))))))
    refine ⟨J, (kp37.trans (kp33.trans (kp26.trans (kp21.trans (kp13.trans (kp8.trans h7)))))), fun kk_J_1 => ?_⟩
    refine i_X4_emit iσ28 (kJ.up (xσ19.trans (xσ22.trans (xσ23.trans (xσ24.trans (xσ27.trans xσ28)))))) (by (first | omega | with_reducible assumption | with_reducible exact rng_toInt _ | with_reducible exact rng_wr _ | (unfold rng; omega) | (unfold rng at *; omega) | assumption)) (by (first | omega | with_reducible assumption | with_reducible exact rng_toInt _ | with_reducible exact rng_wr _ | (unfold rng; omega) | (unfold rng at *; omega) | assumption)) (by (first | omega | with_reducible assumption | with_reducible exact rng_toInt _ | with_reducible exact rng_wr _ | (unfold rng; omega) | (unfold rng at *; omega) | assumption)) (by (first | omega | with_reducible assumption | with_reducible exact rng_toInt _ | with_reducible exact rng_wr _ | (unfold rng; omega) | (unfold rng at *; omega) | assumption)) (fun σ29 nuσ29 r30 iσ29 cσ29 uσ29 pσ29 => ?_)
    intro xσ29
    have fσ29 : Fx [261, 262, 263, 386, 387, 388, 389, 390, 6464, 8320] gr σ σ29 := fσ28.tr (cσ29.mo (by decide))
    have nu_σ29 : NC nu nuσ29 := nu_σ27.tr uσ29
    have uσ29_0 := uσ29 0 (by decide) (by decide)
    have uσ29_1 := uσ29 1 (by decide) (by decide)
    have uσ29_2 := uσ29 2 (by decide) (by decide)
    have uσ29_5 := uσ29 5 (by decide) (by decide)
    have uσ29_15 := uσ29 15 (by decide) (by decide)
    have uσ29_16 := uσ29 16 (by decide) (by decide)
    have kp40 : gI σ29 o 7 = gI σ28 o 7 := (cσ29.O (ko.up (xσ19.trans (xσ22.trans (xσ23.trans (xσ24.trans (xσ27.trans xσ28)))))) (by decide)).1
    have kp41 : gP σ29 th 0 = gP σ28 th 0 := (cσ29.O (kth.up (xσ19.trans (xσ22.trans (xσ23.trans (xσ24.trans (xσ27.trans xσ28)))))) (by decide)).2.1
    have kp42 : gP σ29 th 7 = gP σ28 th 7 := (cσ29.O (kth.up (xσ19.trans (xσ22.trans (xσ23.trans (xσ24.trans (xσ27.trans xσ28)))))) (by decide)).2.1
    have kp43 : gP σ29 th 8 = gP σ28 th 8 := (cσ29.O (kth.up (xσ19.trans (xσ22.trans (xσ23.trans (xσ24.trans (xσ27.trans xσ28)))))) (by decide)).2.1
    have kp44 : gI σ29 th 2 = gI σ28 th 2 := (cσ29.O (kth.up (xσ19.trans (xσ22.trans (xσ23.trans (xσ24.trans (xσ27.trans xσ28)))))) (by decide)).1
    have kp45 : gI σ29 th 3 = gI σ28 th 3 := (cσ29.O (kth.up (xσ19.trans (xσ22.trans (xσ23.trans (xσ24.trans (xσ27.trans xσ28)))))) (by decide)).1
    have kp46 : gI σ29 th 5 = gI σ28 th 5 := (cσ29.O (kth.up (xσ19.trans (xσ22.trans (xσ23.trans (xσ24.trans (xσ27.trans xσ28)))))) (by decide)).1
    refine ⟨J, (kp42.trans (kp37.trans (kp33.trans (kp26.trans (kp21.trans (kp13.trans (kp8.trans h7))))))), fun kk_J_2 => ?_⟩
    refine i_X4_landHere iσ29 (kJ.up (xσ19.trans (xσ22.trans (xσ23.trans (xσ24.trans (xσ27.trans (xσ28.trans xσ29))))))) (by (first | omega | with_reducible assumption | with_reducible exact rng_toInt _ | with_reducible exact rng_wr _ | (unfold rng; omega) | (unfold rng at *; omega) | assumption)) (fun σ32 _ iσ32 cσ32 pσ32 => ?_)
    intro xσ32
    have fσ32 : Fx [261, 262, 263, 386, 387, 388, 389, 390, 6464, 8320] gr σ σ32 := fσ29.tr (cσ32.mo (by decide))
    have kp47 : gI σ32 o 7 = gI σ29 o 7 := (cσ32.O (ko.up (xσ19.trans (xσ22.trans (xσ23.trans (xσ24.trans (xσ27.trans (xσ28.trans xσ29))))))) (by decide)).1
    have kp48 : gP σ32 th 0 = gP σ29 th 0 := (cσ32.O (kth.up (xσ19.trans (xσ22.trans (xσ23.trans (xσ24.trans (xσ27.trans (xσ28.trans xσ29))))))) (by decide)).2.1
    have kp49 : gP σ32 th 7 = gP σ29 th 7 := (cσ32.O (kth.up (xσ19.trans (xσ22.trans (xσ23.trans (xσ24.trans (xσ27.trans (xσ28.trans xσ29))))))) (by decide)).2.1
    have kp50 : gP σ32 th 8 = gP σ29 th 8 := (cσ32.O (kth.up (xσ19.trans (xσ22.trans (xσ23.trans (xσ24.trans (xσ27.trans (xσ28.trans xσ29))))))) (by decide)).2.1
    have kp51 : gI σ32 th 2 = gI σ29 th 2 := (cσ32.O (kth.up (xσ19.trans (xσ22.trans (xσ23.trans (xσ24.trans (xσ27.trans (xσ28.trans xσ29))))))) (by decide)).1
    have kp52 : gI σ32 th 3 = gI σ29 th 3 := (cσ32.O (kth.up (xσ19.trans (xσ22.trans (xσ23.trans (xσ24.trans (xσ27.trans (xσ28.trans xσ29))))))) (by decide)).1
    have kp53 : gI σ32 th 5 = gI σ29 th 5 := (cσ32.O (kth.up (xσ19.trans (xσ22.trans (xσ23.trans (xσ24.trans (xσ27.trans (xσ28.trans xσ29))))))) (by decide)).1
    have kp54 : gI σ32 J 7 = gI σ29 J 7 := (cσ32.O (kJ.up (xσ19.trans (xσ22.trans (xσ23.trans (xσ24.trans (xσ27.trans (xσ28.trans xσ29))))))) (by decide)).1
    refine ⟨by (first | omega | with_reducible assumption | with_reducible exact rng_toInt _ | with_reducible exact rng_wr _ | (unfold rng; omega) | (unfold rng at *; omega) | assumption), ?_⟩
    refine ih0 iσ32 (kth.up (xσ19.trans (xσ22.trans (xσ23.trans (xσ24.trans (xσ27.trans (xσ28.trans (xσ29.trans xσ32)))))))) (kp48.trans (kp41.trans (kp36.trans (kp32.trans (kp25.trans (kp20.trans (kp12.trans (kp7.trans hX0)))))))) (kX.up (xσ19.trans (xσ22.trans (xσ23.trans (xσ24.trans (xσ27.trans (xσ28.trans (xσ29.trans xσ32)))))))) (((xσ19.trans (xσ22.trans (xσ23.trans (xσ24.trans (xσ27.trans (xσ28.trans (xσ29.trans xσ32))))))) tx kX.1).2.2.trans gX) (kp49.trans (kp42.trans (kp37.trans (kp33.trans (kp26.trans (kp21.trans (kp13.trans (kp8.trans h7)))))))) (kJ.up (xσ19.trans (xσ22.trans (xσ23.trans (xσ24.trans (xσ27.trans (xσ28.trans (xσ29.trans xσ32)))))))) (kp50.trans (kp43.trans (kp38.trans (kp34.trans (kp27.trans (kp22.trans (kp14.trans (kp9.trans h8)))))))) (ko.up (xσ19.trans (xσ22.trans (xσ23.trans (xσ24.trans (xσ27.trans (xσ28.trans (xσ29.trans xσ32)))))))) (by (first | omega | with_reducible assumption | with_reducible exact rng_toInt _ | with_reducible exact rng_wr _ | (unfold rng; omega) | (unfold rng at *; omega) | assumption)) (by (first | omega | with_reducible assumption | with_reducible exact rng_toInt _ | with_reducible exact rng_wr _ | (unfold rng; omega) | (unfold rng at *; omega) | assumption)) (by (first | omega | with_reducible assumption | with_reducible exact rng_toInt _ | with_reducible exact rng_wr _ | (unfold rng; omega) | (unfold rng at *; omega) | assumption)) (by (first | omega | with_reducible assumption | with_reducible exact rng_toInt _ | with_reducible exact rng_wr _ | (unfold rng; omega) | (unfold rng at *; omega) | assumption)) (by (first | omega | with_reducible assumption | with_reducible exact rng_toInt _ | with_reducible exact rng_wr _ | (unfold rng; omega) | (unfold rng at *; omega) | assumption)) (by (first | omega | with_reducible assumption | with_reducible exact rng_toInt _ | with_reducible exact rng_wr _ | (unfold rng; omega) | (unfold rng at *; omega) | assumption)) (by (first | omega | with_reducible assumption | with_reducible exact rng_toInt _ | with_reducible exact rng_wr _ | (unfold rng; omega) | (unfold rng at *; omega) | assumption)) (by (first | omega | with_reducible assumption | with_reducible exact rng_toInt _ | with_reducible exact rng_wr _ | (unfold rng; omega) | (unfold rng at *; omega) | assumption)) (by (first | omega | with_reducible assumption | with_reducible exact rng_toInt _ | with_reducible exact rng_wr _ | (unfold rng; omega) | (unfold rng at *; omega) | assumption)) (fun σ34 nuσ34 _ iσ34 cσ34 uσ34 pσ34 => ?_) (fun σx LLx Nx nux E ix cx ux px => hX σx LLx Nx nux E ix (fσ32.tr (cx.mo (by decide))) (nu_σ29.x ux) (by first | exact px | exact ⟨by have := px.1; omega, px.2⟩ | (first | omega | with_reducible assumption | with_reducible exact rng_toInt _ | with_reducible exact rng_wr _ | (unfold rng; omega) | (unfold rng at *; omega) | assumption)))
    intro xσ34
    have fσ34 : Fx [261, 262, 263, 386, 387, 388, 389, 390, 6464, 8320] gr σ σ34 := fσ32.tr (cσ34.mo (by decide))
    have nu_σ34 : NC nu nuσ34 := nu_σ29.tr uσ34
    have uσ34_0 := uσ34 0 (by decide) (by decide)
    have uσ34_1 := uσ34 1 (by decide) (by decide)
    have uσ34_2 := uσ34 2 (by decide) (by decide)
    have uσ34_5 := uσ34 5 (by decide) (by decide)
    have uσ34_15 := uσ34 15 (by decide) (by decide)
    have uσ34_16 := uσ34 16 (by decide) (by decide)
    have kp55 : gI σ34 o 7 = gI σ32 o 7 := (cσ34.O (ko.up (xσ19.trans (xσ22.trans (xσ23.trans (xσ24.trans (xσ27.trans (xσ28.trans (xσ29.trans xσ32)))))))) (by decide)).1
    have kp56 : gP σ34 th 0 = gP σ32 th 0 := (cσ34.O (kth.up (xσ19.trans (xσ22.trans (xσ23.trans (xσ24.trans (xσ27.trans (xσ28.trans (xσ29.trans xσ32)))))))) (by decide)).2.1
    have kp57 : gP σ34 th 7 = gP σ32 th 7 := (cσ34.O (kth.up (xσ19.trans (xσ22.trans (xσ23.trans (xσ24.trans (xσ27.trans (xσ28.trans (xσ29.trans xσ32)))))))) (by decide)).2.1
    have kp58 : gP σ34 th 8 = gP σ32 th 8 := (cσ34.O (kth.up (xσ19.trans (xσ22.trans (xσ23.trans (xσ24.trans (xσ27.trans (xσ28.trans (xσ29.trans xσ32)))))))) (by decide)).2.1
    have r5σ34 := I_6_5 iσ34.1 (kth.up (xσ19.trans (xσ22.trans (xσ23.trans (xσ24.trans (xσ27.trans (xσ28.trans (xσ29.trans (xσ32.trans xσ34)))))))))
    refine ⟨J, (kp57.trans (kp49.trans (kp42.trans (kp37.trans (kp33.trans (kp26.trans (kp21.trans (kp13.trans (kp8.trans h7))))))))), fun kk_J_3 => ?_⟩
    refine i_X4_landHere iσ34 (kJ.up (xσ19.trans (xσ22.trans (xσ23.trans (xσ24.trans (xσ27.trans (xσ28.trans (xσ29.trans (xσ32.trans xσ34))))))))) (by (first | omega | with_reducible assumption | with_reducible exact rng_toInt _ | with_reducible exact rng_wr _ | (unfold rng; omega) | (unfold rng at *; omega) | assumption)) (fun σ35 _ iσ35 cσ35 pσ35 => ?_)
    intro xσ35
    have fσ35 : Fx [261, 262, 263, 386, 387, 388, 389, 390, 6464, 8320] gr σ σ35 := fσ34.tr (cσ35.mo (by decide))
    have kp59 : gI σ35 o 7 = gI σ34 o 7 := (cσ35.O (ko.up (xσ19.trans (xσ22.trans (xσ23.trans (xσ24.trans (xσ27.trans (xσ28.trans (xσ29.trans (xσ32.trans xσ34))))))))) (by decide)).1
    have kp60 : gP σ35 th 0 = gP σ34 th 0 := (cσ35.O (kth.up (xσ19.trans (xσ22.trans (xσ23.trans (xσ24.trans (xσ27.trans (xσ28.trans (xσ29.trans (xσ32.trans xσ34))))))))) (by decide)).2.1
    have kp61 : gP σ35 th 7 = gP σ34 th 7 := (cσ35.O (kth.up (xσ19.trans (xσ22.trans (xσ23.trans (xσ24.trans (xσ27.trans (xσ28.trans (xσ29.trans (xσ32.trans xσ34))))))))) (by decide)).2.1
    have kp62 : gP σ35 th 8 = gP σ34 th 8 := (cσ35.O (kth.up (xσ19.trans (xσ22.trans (xσ23.trans (xσ24.trans (xσ27.trans (xσ28.trans (xσ29.trans (xσ32.trans xσ34))))))))) (by decide)).2.1
    have kp63 : gI σ35 th 2 = gI σ34 th 2 := (cσ35.O (kth.up (xσ19.trans (xσ22.trans (xσ23.trans (xσ24.trans (xσ27.trans (xσ28.trans (xσ29.trans (xσ32.trans xσ34))))))))) (by decide)).1
    have kp64 : gI σ35 th 3 = gI σ34 th 3 := (cσ35.O (kth.up (xσ19.trans (xσ22.trans (xσ23.trans (xσ24.trans (xσ27.trans (xσ28.trans (xσ29.trans (xσ32.trans xσ34))))))))) (by decide)).1
    have kp65 : gI σ35 th 5 = gI σ34 th 5 := (cσ35.O (kth.up (xσ19.trans (xσ22.trans (xσ23.trans (xσ24.trans (xσ27.trans (xσ28.trans (xσ29.trans (xσ32.trans xσ34))))))))) (by decide)).1
    have kp66 : gI σ35 J 7 = gI σ34 J 7 := (cσ35.O (kJ.up (xσ19.trans (xσ22.trans (xσ23.trans (xσ24.trans (xσ27.trans (xσ28.trans (xσ29.trans (xσ32.trans xσ34))))))))) (by decide)).1
    exact hQ σ35 nuσ34 () iσ35 fσ35 (nu_σ34) (by (first | omega | with_reducible assumption | with_reducible exact rng_toInt _ | with_reducible exact rng_wr _ | (unfold rng; omega) | (unfold rng at *; omega) | assumption))
  · rw [if_neg hc10]
    have hc10q := Classical.not_not.mp hc10
    unfold w_X6_value_15
    exact hQ σ19 nuσ19 () iσ19 fσ19 (nu_σ19) (by (first | omega | with_reducible assumption | with_reducible exact rng_toInt _ | with_reducible exact rng_wr _ | (unfold rng; omega) | (unfold rng at *; omega) | assumption))
set_option maxHeartbeats 1000000 in
theorem s_X6_binary {pl : Nat} {gq ci gr nc : Nat → Nat} {ot : Nat → Nat → Int} {LL : Nat → List Nat} {N : Nat → Nat} {th tx J o q c n : Nat} (ih0 : RC0 pl gq ci gr nc ot LL N th tx J o q c n) (ih1 : RC1 pl gq ci gr nc ot LL N th tx J o q c n) (ih2 : RC2 pl gq ci gr nc ot LL N th tx J o q c n) (ih3 : RC3 pl gq ci gr nc ot LL N th tx J o q c n) : RC1 pl gq ci gr nc ot LL N th tx J o q c (n + 1) := by
  intro σ nu v1 v2 iσ kth hX0 kX gX h7 kJ h8 ko hJq hq go hc tf h5 lp ho7 nd Q X hQ hX
  have fσ : Fx [261, 262, 263, 386, 387, 388, 389, 390, 6464, 8320] gr σ σ := Fx.rf
  have q1 := I_6_5 iσ.1 kth
  have q2 := I_6_2 iσ.1 kth
  have q3 := iσ.rg th 3; unfold rng at q3
  have q4 := I_4_7 iσ.1 kJ
  have q5 := I_5_7 iσ.1 ko
  have ncb := iσ.ncb
  have r50 := I_6_5 iσ.1 kth
  have r70 := I_4_7 iσ.1 kJ
  show w_X6_binary_0 th (wrecC th n) Q X σ v1 v2
  unfold w_X6_binary_0
  by_cases hc6 : v1 ≤ 3
  · rw [if_pos hc6]
    unfold w_X6_binary_11
    refine ⟨by (first | omega | with_reducible assumption | with_reducible exact rng_toInt _ | with_reducible exact rng_wr _ | (unfold rng; omega) | (unfold rng at *; omega) | assumption), ?_⟩
    refine ih1 iσ kth hX0 kX (((Ext.rfl' _) tx kX.1).2.2.trans gX) h7 kJ h8 ko (by (first | omega | with_reducible assumption | with_reducible exact rng_toInt _ | with_reducible exact rng_wr _ | (unfold rng; omega) | (unfold rng at *; omega) | assumption)) (by (first | omega | with_reducible assumption | with_reducible exact rng_toInt _ | with_reducible exact rng_wr _ | (unfold rng; omega) | (unfold rng at *; omega) | assumption)) (by (first | omega | with_reducible assumption | with_reducible exact rng_toInt _ | with_reducible exact rng_wr _ | (unfold rng; omega) | (unfold rng at *; omega) | assumption)) (by (first | omega | with_reducible assumption | with_reducible exact rng_toInt _ | with_reducible exact rng_wr _ | (unfold rng; omega) | (unfold rng at *; omega) | assumption)) (by (first | omega | with_reducible assumption | with_reducible exact rng_toInt _ | with_reducible exact rng_wr _ | (unfold rng; omega) | (unfold rng at *; omega) | assumption)) (by (first | omega | with_reducible assumption | with_reducible exact rng_toInt _ | with_reducible exact rng_wr _ | (unfold rng; omega) | (unfold rng at *; omega) | assumption)) (by (first | omega | with_reducible assumption | with_reducible exact rng_toInt _ | with_reducible exact rng_wr _ | (unfold rng; omega) | (unfold rng at *; omega) | assumption)) (by (first | omega | with_reducible assumption | with_reducible exact rng_toInt _ | with_reducible exact rng_wr _ | (unfold rng; omega) | (unfold rng at *; omega) | assumption)) (by (first | omega | with_reducible assumption | with_reducible exact rng_toInt _ | with_reducible exact rng_wr _ | (unfold rng; omega) | (unfold rng at *; omega) | assumption)) (fun σ23 nuσ23 _ iσ23 cσ23 uσ23 pσ23 => ?_) (fun σx LLx Nx nux E ix cx ux px => hX σx LLx Nx nux E ix (fσ.tr (cx.mo (by decide))) (ux) (by first | exact px | exact ⟨by have := px.1; omega, px.2⟩ | (first | omega | with_reducible assumption | with_reducible exact rng_toInt _ | with_reducible exact rng_wr _ | (unfold rng; omega) | (unfold rng at *; omega) | assumption)))
    intro xσ23
    have fσ23 : Fx [261, 262, 263, 386, 387, 388, 389, 390, 6464, 8320] gr σ σ23 := fσ.tr (cσ23.mo (by decide))
    have nu_σ23 : NC nu nuσ23 := uσ23
    have uσ23_0 := uσ23 0 (by decide) (by decide)
    have uσ23_1 := uσ23 1 (by decide) (by decide)
    have uσ23_2 := uσ23 2 (by decide) (by decide)
    have uσ23_5 := uσ23 5 (by decide) (by decide)
    have uσ23_15 := uσ23 15 (by decide) (by decide)
    have uσ23_16 := uσ23 16 (by decide) (by decide)
    have kp7 : gI σ23 o 7 = gI σ o 7 := (cσ23.O ko (by decide)).1
    have kp8 : gP σ23 th 0 = gP σ th 0 := (cσ23.O kth (by decide)).2.1
    have kp9 : gP σ23 th 7 = gP σ th 7 := (cσ23.O kth (by decide)).2.1
    have kp10 : gP σ23 th 8 = gP σ th 8 := (cσ23.O kth (by decide)).2.1
    have r5σ23 := I_6_5 iσ23.1 (kth.up xσ23)
    have Lp21 : ∀ (fu21 : Nat) (τ21 : Sg) (nut21 : Nat → Nat) (v3 : Int), IV τ21 pl gq ci gr nc ot LL N nut21 → Fx [261, 262, 263, 386, 387, 388, 389, 390, 6464, 8320] gr σ τ21 → Ext σ23 τ21 → NC nu nut21 → ((0 ≤ v3 ∧ v3 ≤ 1500) ∧ (gI τ21 th 5 ≤ gI τ21 th 2 ∧ (gI τ21 th 3 ≠ 0 → gI τ21 th 5 + 1 ≤ gI τ21 th 2)) ∧ gI σ J 7 ≤ gI τ21 J 7 ∧ gI τ21 J 7 + 1 + 2 * gI σ th 5 ≤ gI σ J 7 + 2 * gI τ21 th 5) → ((1500 - v3).toNat) < fu21 → wl_X6_binary_21 th (wrecC th n) Q X fu21 τ21 v1 v2 v3 := by
      intro fu21
      induction fu21 with
      | zero => intro _ _ _ _ _ _ _ _ h9; omega
      | succ fu21 ih21 =>
        intro τ21 nut21 v3 iτ21 fτ21 xτ21 nu_τ21 hi21 hm21
        have uτ21_0 := nu_τ21 0 (by decide) (by decide)
        have uτ21_1 := nu_τ21 1 (by decide) (by decide)
        have uτ21_2 := nu_τ21 2 (by decide) (by decide)
        have uτ21_5 := nu_τ21 5 (by decide) (by decide)
        have uτ21_15 := nu_τ21 15 (by decide) (by decide)
        have uτ21_16 := nu_τ21 16 (by decide) (by decide)
        unfold wl_X6_binary_21
        have kp11 : gI τ21 o 7 = gI σ o 7 := (fτ21.O ko (by decide)).1
        have kp12 : gP τ21 th 0 = gP σ th 0 := (fτ21.O kth (by decide)).2.1
        have kp13 : gP τ21 th 7 = gP σ th 7 := (fτ21.O kth (by decide)).2.1
        have kp14 : gP τ21 th 8 = gP σ th 8 := (fτ21.O kth (by decide)).2.1
        have kp15 : gI τ21 o 7 = gI σ23 o 7 := (fτ21.O ko (by decide)).1.trans (fσ23.O ko (by decide)).1.symm
        have r5τ21 := I_6_5 iτ21.1 (kth.up (xσ23.trans xτ21))
        have o7τ21 := (fτ21.O ko (k := 7) (by decide)).1
        unfold w_X6_binary_21
        by_cases hc16 : v3 ≥ 1500
        · rw [if_pos hc16]
          unfold w_X6_binary_131
          exact hQ τ21 nut21 () iτ21 fτ21 (nu_τ21) (by (first | omega | with_reducible assumption | with_reducible exact rng_toInt _ | with_reducible exact rng_wr _ | (unfold rng; omega) | (unfold rng at *; omega) | assumption))
        · rw [if_neg hc16]
          unfold w_X6_binary_28
          refine i_X6_levelOfToken iτ21 (kth.up (xσ23.trans xτ21)) (fun r25 pσ24 => ?_)
          intro xσ24
          by_cases hc17 : r25 ≠ v1
          · rw [if_pos hc17]
            unfold w_X6_binary_131
            exact hQ τ21 nut21 () iτ21 fτ21 (nu_τ21) (by (first | omega | with_reducible assumption | with_reducible exact rng_toInt _ | with_reducible exact rng_wr _ | (unfold rng; omega) | (unfold rng at *; omega) | assumption))
          · rw [if_neg hc17]
            have hc17q := Classical.not_not.mp hc17
            unfold w_X6_binary_36
            by_cases hc18 : v1 ≠ 1
            · rw [if_pos hc18]
              unfold w_X6_binary_49
              refine i_X6_instructionOfToken iτ21 (kth.up (xσ23.trans xτ21)) (fun r28 pσ27 => ?_)
              intro xσ27
              refine i_X6_next iτ21 (kth.up (xσ23.trans xτ21)) (kp12.trans hX0) (kX.up (xσ23.trans xτ21)) (((xσ23.trans xτ21) tx kX.1).2.2.trans gX) (by (first | omega | with_reducible assumption | with_reducible exact rng_toInt _ | with_reducible exact rng_wr _ | (unfold rng; omega) | (unfold rng at *; omega) | assumption)) (by (first | omega | with_reducible assumption | with_reducible exact rng_toInt _ | with_reducible exact rng_wr _ | (unfold rng; omega) | (unfold rng at *; omega) | assumption)) (fun σ29 _ iσ29 cσ29 pσ29 => ?_) (fun σx LLx Nx nux E ix cx ux px => hX σx LLx Nx nux E ix (fτ21.tr (cx.mo (by decide))) (nu_τ21.x ux) (by first | exact px | exact ⟨by have := px.1; omega, px.2⟩ | (first | omega | with_reducible assumption | with_reducible exact rng_toInt _ | with_reducible exact rng_wr _ | (unfold rng; omega) | (unfold rng at *; omega) | assumption)))
              intro xσ29
              have fσ29 : Fx [261, 262, 263, 386, 387, 388, 389, 390, 6464, 8320] gr σ σ29 := fτ21.tr (cσ29.mo (by decide))
              have kp19 : gI σ29 o 7 = gI τ21 o 7 := (cσ29.O (ko.up (xσ23.trans xτ21)) (by decide)).1
              have kp20 : gP σ29 th 0 = gP τ21 th 0 := (cσ29.O (kth.up (xσ23.trans xτ21)) (by decide)).2.1
              have kp21 : gP σ29 th 7 = gP τ21 th 7 := (cσ29.O (kth.up (xσ23.trans xτ21)) (by decide)).2.1
              have kp22 : gP σ29 th 8 = gP τ21 th 8 := (cσ29.O (kth.up (xσ23.trans xτ21)) (by decide)).2.1
              have kp23 : gI σ29 J 7 = gI τ21 J 7 := (cσ29.O (kJ.up (xσ23.trans xτ21)) (by decide)).1
              have r5σ29 := I_6_5 iσ29.1 (kth.up (xσ23.trans (xτ21.trans xσ29)))
              by_cases hc24 : v1 ≠ 0
              · rw [if_pos hc24]
                unfold w_X6_binary_106
                refine ⟨by (first | omega | with_reducible assumption | with_reducible exact rng_toInt _ | with_reducible exact rng_wr _ | (unfold rng; omega) | (unfold rng at *; omega) | assumption), ?_⟩
                refine ih1 iσ29 (kth.up (xσ23.trans (xτ21.trans xσ29))) (kp20.trans (kp12.trans hX0)) (kX.up (xσ23.trans (xτ21.trans xσ29))) (((xσ23.trans (xτ21.trans xσ29)) tx kX.1).2.2.trans gX) (kp21.trans (kp13.trans h7)) (kJ.up (xσ23.trans (xτ21.trans xσ29))) (kp22.trans (kp14.trans h8)) (ko.up (xσ23.trans (xτ21.trans xσ29))) (by (first | omega | with_reducible assumption | with_reducible exact rng_toInt _ | with_reducible exact rng_wr _ | (unfold rng; omega) | (unfold rng at *; omega) | assumption)) (by (first | omega | with_reducible assumption | with_reducible exact rng_toInt _ | with_reducible exact rng_wr _ | (unfold rng; omega) | (unfold rng at *; omega) | assumption)) (by (first | omega | with_reducible assumption | with_reducible exact rng_toInt _ | with_reducible exact rng_wr _ | (unfold rng; omega) | (unfold rng at *; omega) | assumption)) (by (first | omega | with_reducible assumption | with_reducible exact rng_toInt _ | with_reducible exact rng_wr _ | (unfold rng; omega) | (unfold rng at *; omega) | assumption)) (by (first | omega | with_reducible assumption | with_reducible exact rng_toInt _ | with_reducible exact rng_wr _ | (unfold rng; omega) | (unfold rng at *; omega) | assumption)) (by (first | omega | with_reducible assumption | with_reducible exact rng_toInt _ | with_reducible exact rng_wr _ | (unfold rng; omega) | (unfold rng at *; omega) | assumption)) (by (first | omega | with_reducible assumption | with_reducible exact rng_toInt _ | with_reducible exact rng_wr _ | (unfold rng; omega) | (unfold rng at *; omega) | assumption)) (by (first | omega | with_reducible assumption | with_reducible exact rng_toInt _ | with_reducible exact rng_wr _ | (unfold rng; omega) | (unfold rng at *; omega) | assumption)) (by (first | omega | with_reducible assumption | with_reducible exact rng_toInt _ | with_reducible exact rng_wr _ | (unfold rng; omega) | (unfold rng at *; omega) | assumption)) (fun σ39 nuσ39 _ iσ39 cσ39 uσ39 pσ39 => ?_) (fun σx LLx Nx nux E ix cx ux px => hX σx LLx Nx nux E ix (fσ29.tr (cx.mo (by decide))) (nu_τ21.x ux) (by first | exact px | exact ⟨by have := px.1; omega, px.2⟩ | (first | omega | with_reducible assumption | with_reducible exact rng_toInt _ | with_reducible exact rng_wr _ | (unfold rng; omega) | (unfold rng at *; omega) | assumption)))
                intro xσ39
                have fσ39 : Fx [261, 262, 263, 386, 387, 388, 389, 390, 6464, 8320] gr σ σ39 := fσ29.tr (cσ39.mo (by decide))
                have nu_σ39 : NC nu nuσ39 := nu_τ21.tr uσ39
                have uσ39_0 := uσ39 0 (by decide) (by decide)
                have uσ39_1 := uσ39 1 (by decide) (by decide)
                have uσ39_2 := uσ39 2 (by decide) (by decide)
                have uσ39_5 := uσ39 5 (by decide) (by decide)
                have uσ39_15 := uσ39 15 (by decide) (by decide)
                have uσ39_16 := uσ39 16 (by decide) (by decide)
                have kp25 : gI σ39 o 7 = gI σ29 o 7 := (cσ39.O (ko.up (xσ23.trans (xτ21.trans xσ29))) (by decide)).1
                have kp26 : gP σ39 th 0 = gP σ29 th 0 := (cσ39.O (kth.up (xσ23.trans (xτ21.trans xσ29))) (by decide)).2.1
                have kp27 : gP σ39 th 7 = gP σ29 th 7 := (cσ39.O (kth.up (xσ23.trans (xτ21.trans xσ29))) (by decide)).2.1
                have kp28 : gP σ39 th 8 = gP σ29 th 8 := (cσ39.O (kth.up (xσ23.trans (xτ21.trans xσ29))) (by decide)).2.1
                have r5σ39 := I_6_5 iσ39.1 (kth.up (xσ23.trans (xτ21.trans (xσ29.trans xσ39))))
                refine ⟨J, (kp27.trans (kp21.trans (kp13.trans h7))), fun kk_J => ?_⟩
                refine i_X4_emit iσ39 (kJ.up (xσ23.trans (xτ21.trans (xσ29.trans xσ39)))) (by (first | omega | with_reducible assumption | with_reducible exact rng_toInt _ | with_reducible exact rng_wr _ | (unfold rng; omega) | (unfold rng at *; omega) | assumption)) (by (first | omega | with_reducible assumption | with_reducible exact rng_toInt _ | with_reducible exact rng_wr _ | (unfold rng; omega) | (unfold rng at *; omega) | assumption)) (by (first | omega | with_reducible assumption | with_reducible exact rng_toInt _ | with_reducible exact rng_wr _ | (unfold rng; omega) | (unfold rng at *; omega) | assumption)) (by (first | omega | with_reducible assumption | with_reducible exact rng_toInt _ | with_reducible exact rng_wr _ | (unfold rng; omega) | (unfold rng at *; omega) | assumption)) (fun σ40 nuσ40 r41 iσ40 cσ40 uσ40 pσ40 => ?_)
                intro xσ40
                have fσ40 : Fx [261, 262, 263, 386, 387, 388, 389, 390, 6464, 8320] gr σ σ40 := fσ39.tr (cσ40.mo (by decide))
                have nu_σ40 : NC nu nuσ40 := nu_σ39.tr uσ40
                have uσ40_0 := uσ40 0 (by decide) (by decide)
                have uσ40_1 := uσ40 1 (by decide) (by decide)
                have uσ40_2 := uσ40 2 (by decide) (by decide)
                have uσ40_5 := uσ40 5 (by decide) (by decide)
                have uσ40_15 := uσ40 15 (by decide) (by decide)
                have uσ40_16 := uσ40 16 (by decide) (by decide)
                have kp29 : gI σ40 o 7 = gI σ39 o 7 := (cσ40.O (ko.up (xσ23.trans (xτ21.trans (xσ29.trans xσ39)))) (by decide)).1
                have kp30 : gP σ40 th 0 = gP σ39 th 0 := (cσ40.O (kth.up (xσ23.trans (xτ21.trans (xσ29.trans xσ39)))) (by decide)).2.1
                have kp31 : gP σ40 th 7 = gP σ39 th 7 := (cσ40.O (kth.up (xσ23.trans (xτ21.trans (xσ29.trans xσ39)))) (by decide)).2.1
                have kp32 : gP σ40 th 8 = gP σ39 th 8 := (cσ40.O (kth.up (xσ23.trans (xτ21.trans (xσ29.trans xσ39)))) (by decide)).2.1
                have kp33 : gI σ40 th 2 = gI σ39 th 2 := (cσ40.O (kth.up (xσ23.trans (xτ21.trans (xσ29.trans xσ39)))) (by decide)).1
                have kp34 : gI σ40 th 3 = gI σ39 th 3 := (cσ40.O (kth.up (xσ23.trans (xτ21.trans (xσ29.trans xσ39)))) (by decide)).1
                have kp35 : gI σ40 th 5 = gI σ39 th 5 := (cσ40.O (kth.up (xσ23.trans (xτ21.trans (xσ29.trans xσ39)))) (by decide)).1
                unfold w_X6_binary_125
                refine ⟨by (first | omega | with_reducible assumption | with_reducible exact rng_toInt _ | with_reducible exact rng_wr _ | (unfold rng; omega) | (unfold rng at *; omega) | assumption), ?_⟩
                exact ih21 σ40 nuσ40 (v3 + 1) iσ40 fσ40 (xτ21.trans (xσ29.trans (xσ39.trans xσ40))) nu_σ40 (by (first | omega | with_reducible assumption | with_reducible exact rng_toInt _ | with_reducible exact rng_wr _ | (unfold rng; omega) | (unfold rng at *; omega) | assumption)) (by (first | omega | with_reducible assumption | with_reducible exact rng_toInt _ | with_reducible exact rng_wr _ | (unfold rng; omega) | (unfold rng at *; omega) | assumption))
              · rw [if_neg hc24]
                have hc24q := Classical.not_not.mp hc24
                unfold w_X6_binary_63
                refine ⟨J, (kp21.trans (kp13.trans h7)), fun kk_J_1 => ?_⟩
                refine i_X4_emit iσ29 (kJ.up (xσ23.trans (xτ21.trans xσ29))) (by (first | omega | with_reducible assumption | with_reducible exact rng_toInt _ | with_reducible exact rng_wr _ | (unfold rng; omega) | (unfold rng at *; omega) | assumption)) (by (first | omega | with_reducible assumption | with_reducible exact rng_toInt _ | with_reducible exact rng_wr _ | (unfold rng; omega) | (unfold rng at *; omega) | assumption)) (by (first | omega | with_reducible assumption | with_reducible exact rng_toInt _ | with_reducible exact rng_wr _ | (unfold rng; omega) | (unfold rng at *; omega) | assumption)) (by (first | omega | with_reducible assumption | with_reducible exact rng_toInt _ | with_reducible exact rng_wr _ | (unfold rng; omega) | (unfold rng at *; omega) | assumption)) (fun σ30 nuσ30 r31 iσ30 cσ30 uσ30 pσ30 => ?_)
                intro xσ30
                have fσ30 : Fx [261, 262, 263, 386, 387, 388, 389, 390, 6464, 8320] gr σ σ30 := fσ29.tr (cσ30.mo (by decide))
                have nu_σ30 : NC nu nuσ30 := nu_τ21.tr uσ30
                have uσ30_0 := uσ30 0 (by decide) (by decide)
                have uσ30_1 := uσ30 1 (by decide) (by decide)
                have uσ30_2 := uσ30 2 (by decide) (by decide)
                have uσ30_5 := uσ30 5 (by decide) (by decide)
                have uσ30_15 := uσ30 15 (by decide) (by decide)
                have uσ30_16 := uσ30 16 (by decide) (by decide)
                have kp36 : gI σ30 o 7 = gI σ29 o 7 := (cσ30.O (ko.up (xσ23.trans (xτ21.trans xσ29))) (by decide)).1
                have kp37 : gP σ30 th 0 = gP σ29 th 0 := (cσ30.O (kth.up (xσ23.trans (xτ21.trans xσ29))) (by decide)).2.1
                have kp38 : gP σ30 th 7 = gP σ29 th 7 := (cσ30.O (kth.up (xσ23.trans (xτ21.trans xσ29))) (by decide)).2.1
                have kp39 : gP σ30 th 8 = gP σ29 th 8 := (cσ30.O (kth.up (xσ23.trans (xτ21.trans xσ29))) (by decide)).2.1
                have kp40 : gI σ30 th 2 = gI σ29 th 2 := (cσ30.O (kth.up (xσ23.trans (xτ21.trans xσ29))) (by decide)).1
                have kp41 : gI σ30 th 3 = gI σ29 th 3 := (cσ30.O (kth.up (xσ23.trans (xτ21.trans xσ29))) (by decide)).1
                have kp42 : gI σ30 th 5 = gI σ29 th 5 := (cσ30.O (kth.up (xσ23.trans (xτ21.trans xσ29))) (by decide)).1
                refine ⟨by (first | omega | with_reducible assumption | with_reducible exact rng_toInt _ | with_reducible exact rng_wr _ | (unfold rng; omega) | (unfold rng at *; omega) | assumption), ?_⟩
                refine ih1 iσ30 (kth.up (xσ23.trans (xτ21.trans (xσ29.trans xσ30)))) (kp37.trans (kp20.trans (kp12.trans hX0))) (kX.up (xσ23.trans (xτ21.trans (xσ29.trans xσ30)))) (((xσ23.trans (xτ21.trans (xσ29.trans xσ30))) tx kX.1).2.2.trans gX) (kp38.trans (kp21.trans (kp13.trans h7))) (kJ.up (xσ23.trans (xτ21.trans (xσ29.trans xσ30)))) (kp39.trans (kp22.trans (kp14.trans h8))) (ko.up (xσ23.trans (xτ21.trans (xσ29.trans xσ30)))) (by (first | omega | with_reducible assumption | with_reducible exact rng_toInt _ | with_reducible exact rng_wr _ | (unfold rng; omega) | (unfold rng at *; omega) | assumption)) (by (first | omega | with_reducible assumption | with_reducible exact rng_toInt _ | with_reducible exact rng_wr _ | (unfold rng; omega) | (unfold rng at *; omega) | assumption)) (by (first | omega | with_reducible assumption | with_reducible exact rng_toInt _ | with_reducible exact rng_wr _ | (unfold rng; omega) | (unfold rng at *; omega) | assumption)) (by (first | omega | with_reducible assumption | with_reducible exact rng_toInt _ | with_reducible exact rng_wr _ | (unfold rng; omega) | (unfold rng at *; omega) | assumption)) (by (first | omega | with_reducible assumption | with_reducible exact rng_toInt _ | with_reducible exact rng_wr _ | (unfold rng; omega) | (unfold rng at *; omega) | assumption)) (by (first | omega | with_reducible assumption | with_reducible exact rng_toInt _ | with_reducible exact rng_wr _ | (unfold rng; omega) | (unfold rng at *; omega) | assumption)) (by (first | omega | with_reducible assumption | with_reducible exact rng_toInt _ | with_reducible exact rng_wr _ | (unfold rng; omega) | (unfold rng at *; omega) | assumption)) (by (first | omega | with_reducible assumption | with_reducible exact rng_toInt _ | with_reducible exact rng_wr _ | (unfold rng; omega) | (unfold rng at *; omega) | assumption)) (by (first | omega | with_reducible assumption | with_reducible exact rng_toInt _ | with_reducible exact rng_wr _ | (unfold rng; omega) | (unfold rng at *; omega) | assumption)) (fun σ33 nuσ33 _ iσ33 cσ33 uσ33 pσ33 => ?_) (fun σx LLx Nx nux E ix cx ux px => hX σx LLx Nx nux E ix (fσ30.tr (cx.mo (by decide))) (nu_σ30.x ux) (by first | exact px | exact ⟨by have := px.1; omega, px.2⟩ | (first | omega | with_reducible assumption | with_reducible exact rng_toInt _ | with_reducible exact rng_wr _ | (unfold rng; omega) | (unfold rng at *; omega) | assumption)))
                intro xσ33
                have fσ33 : Fx [261, 262, 263, 386, 387, 388, 389, 390, 6464, 8320] gr σ σ33 := fσ30.tr (cσ33.mo (by decide))
                have nu_σ33 : NC nu nuσ33 := nu_σ30.tr uσ33
                have uσ33_0 := uσ33 0 (by decide) (by decide)
                have uσ33_1 := uσ33 1 (by decide) (by decide)
                have uσ33_2 := uσ33 2 (by decide) (by decide)
                have uσ33_5 := uσ33 5 (by decide) (by decide)
                have uσ33_15 := uσ33 15 (by decide) (by decide)
                have uσ33_16 := uσ33 16 (by decide) (by decide)
                have kp43 : gI σ33 o 7 = gI σ30 o 7 := (cσ33.O (ko.up (xσ23.trans (xτ21.trans (xσ29.trans xσ30)))) (by decide)).1
                have kp44 : gP σ33 th 0 = gP σ30 th 0 := (cσ33.O (kth.up (xσ23.trans (xτ21.trans (xσ29.trans xσ30)))) (by decide)).2.1
                have kp45 : gP σ33 th 7 = gP σ30 th 7 := (cσ33.O (kth.up (xσ23.trans (xτ21.trans (xσ29.trans xσ30)))) (by decide)).2.1
                have kp46 : gP σ33 th 8 = gP σ30 th 8 := (cσ33.O (kth.up (xσ23.trans (xτ21.trans (xσ29.trans xσ30)))) (by decide)).2.1
                have r5σ33 := I_6_5 iσ33.1 (kth.up (xσ23.trans (xτ21.trans (xσ29.trans (xσ30.trans xσ33)))))
                refine ⟨J, (kp45.trans (kp38.trans (kp21.trans (kp13.trans h7)))), fun kk_J_2 => ?_⟩
                refine i_X4_emit iσ33 (kJ.up (xσ23.trans (xτ21.trans (xσ29.trans (xσ30.trans xσ33))))) (by (first | omega | with_reducible assumption | with_reducible exact rng_toInt _ | with_reducible exact rng_wr _ | (unfold rng; omega) | (unfold rng at *; omega) | assumption)) (by (first | omega | with_reducible assumption | with_reducible exact rng_toInt _ | with_reducible exact rng_wr _ | (unfold rng; omega) | (unfold rng at *; omega) | assumption)) (by (first | omega | with_reducible assumption | with_reducible exact rng_toInt _ | with_reducible exact rng_wr _ | (unfold rng; omega) | (unfold rng at *; omega) | assumption)) (by (first | omega | with_reducible assumption | with_reducible exact rng_toInt _ | with_reducible exact rng_wr _ | (unfold rng; omega) | (unfold rng at *; omega) | assumption)) (fun σ34 nuσ34 r35 iσ34 cσ34 uσ34 pσ34 => ?_)
                intro xσ34
                have fσ34 : Fx [261, 262, 263, 386, 387, 388, 389, 390, 6464, 8320] gr σ σ34 := fσ33.tr (cσ34.mo (by decide))
                have nu_σ34 : NC nu nuσ34 := nu_σ33.tr uσ34
                have uσ34_0 := uσ34 0 (by decide) (by decide)
                have uσ34_1 := uσ34 1 (by decide) (by decide)
                have uσ34_2 := uσ34 2 (by decide) (by decide)
                have uσ34_5 := uσ34 5 (by decide) (by decide)
                have uσ34_15 := uσ34 15 (by decide) (by decide)
                have uσ34_16 := uσ34 16 (by decide) (by decide)
                have kp47 : gI σ34 o 7 = gI σ33 o 7 := (cσ34.O (ko.up (xσ23.trans (xτ21.trans (xσ29.trans (xσ30.trans xσ33))))) (by decide)).1
                have kp48 : gP σ34 th 0 = gP σ33 th 0 := (cσ34.O (kth.up (xσ23.trans (xτ21.trans (xσ29.trans (xσ30.trans xσ33))))) (by decide)).2.1
                have kp49 : gP σ34 th 7 = gP σ33 th 7 := (cσ34.O (kth.up (xσ23.trans (xτ21.trans (xσ29.trans (xσ30.trans xσ33))))) (by decide)).2.1
                have kp50 : gP σ34 th 8 = gP σ33 th 8 := (cσ34.O (kth.up (xσ23.trans (xτ21.trans (xσ29.trans (xσ30.trans xσ33))))) (by decide)).2.1
                have kp51 : gI σ34 th 2 = gI σ33 th 2 := (cσ34.O (kth.up (xσ23.trans (xτ21.trans (xσ29.trans (xσ30.trans xσ33))))) (by decide)).1
                have kp52 : gI σ34 th 3 = gI σ33 th 3 := (cσ34.O (kth.up (xσ23.trans (xτ21.trans (xσ29.trans (xσ30.trans xσ33))))) (by decide)).1
                have kp53 : gI σ34 th 5 = gI σ33 th 5 := (cσ34.O (kth.up (xσ23.trans (xτ21.trans (xσ29.trans (xσ30.trans xσ33))))) (by decide)).1
                refine ⟨J, (kp49.trans (kp45.trans (kp38.trans (kp21.trans (kp13.trans h7))))), fun kk_J_3 => ?_⟩
                refine i_X4_landHere iσ34 (kJ.up (xσ23.trans (xτ21.trans (xσ29.trans (xσ30.trans (xσ33.trans xσ34)))))) (by (first | omega | with_reducible assumption | with_reducible exact rng_toInt _ | with_reducible exact rng_wr _ | (unfold rng; omega) | (unfold rng at *; omega) | assumption)) (fun σ37 _ iσ37 cσ37 pσ37 => ?_)
                intro xσ37
                have fσ37 : Fx [261, 262, 263, 386, 387, 388, 389, 390, 6464, 8320] gr σ σ37 := fσ34.tr (cσ37.mo (by decide))
                have kp54 : gI σ37 o 7 = gI σ34 o 7 := (cσ37.O (ko.up (xσ23.trans (xτ21.trans (xσ29.trans (xσ30.trans (xσ33.trans xσ34)))))) (by decide)).1
                have kp55 : gP σ37 th 0 = gP σ34 th 0 := (cσ37.O (kth.up (xσ23.trans (xτ21.trans (xσ29.trans (xσ30.trans (xσ33.trans xσ34)))))) (by decide)).2.1
                have kp56 : gP σ37 th 7 = gP σ34 th 7 := (cσ37.O (kth.up (xσ23.trans (xτ21.trans (xσ29.trans (xσ30.trans (xσ33.trans xσ34)))))) (by decide)).2.1
                have kp57 : gP σ37 th 8 = gP σ34 th 8 := (cσ37.O (kth.up (xσ23.trans (xτ21.trans (xσ29.trans (xσ30.trans (xσ33.trans xσ34)))))) (by decide)).2.1
                have kp58 : gI σ37 th 2 = gI σ34 th 2 := (cσ37.O (kth.up (xσ23.trans (xτ21.trans (xσ29.trans (xσ30.trans (xσ33.trans xσ34)))))) (by decide)).1
                have kp59 : gI σ37 th 3 = gI σ34 th 3 := (cσ37.O (kth.up (xσ23.trans (xτ21.trans (xσ29.trans (xσ30.trans (xσ33.trans xσ34)))))) (by decide)).1
                have kp60 : gI σ37 th 5 = gI σ34 th 5 := (cσ37.O (kth.up (xσ23.trans (xτ21.trans (xσ29.trans (xσ30.trans (xσ33.trans xσ34)))))) (by decide)).1
                have kp61 : gI σ37 J 7 = gI σ34 J 7 := (cσ37.O (kJ.up (xσ23.trans (xτ21.trans (xσ29.trans (xσ30.trans (xσ33.trans xσ34)))))) (by decide)).1
                unfold w_X6_binary_125
                refine ⟨by (first | omega | with_reducible assumption | with_reducible exact rng_toInt _ | with_reducible exact rng_wr _ | (unfold rng; omega) | (unfold rng at *; omega) | assumption), ?_⟩
                exact ih21 σ37 nuσ34 (v3 + 1) iσ37 fσ37 (xτ21.trans (xσ29.trans (xσ30.trans (xσ33.trans (xσ34.trans xσ37))))) nu_σ34 (by (first | omega | with_reducible assumption | with_reducible exact rng_toInt _ | with_reducible exact rng_wr _ | (unfold rng; omega) | (unfold rng at *; omega) | assumption)) (by (first | omega | with_reducible assumption | with_reducible exact rng_toInt _ | with_reducible exact rng_wr _ | (unfold rng; omega) | (unfold rng at *; omega) | assumption))
            · rw [if_neg hc18]
              have hc18q := Classical.not_not.mp hc18
              unfold w_X6_binary_41
              by_cases hc62 : v3 ≤ 0
              · rw [if_pos hc62]
                unfold w_X6_binary_49
                refine i_X6_instructionOfToken iτ21 (kth.up (xσ23.trans xτ21)) (fun r28_1 pσ27_1 => ?_)
                intro xσ27_1
                refine i_X6_next iτ21 (kth.up (xσ23.trans xτ21)) (kp12.trans hX0) (kX.up (xσ23.trans xτ21)) (((xσ23.trans xτ21) tx kX.1).2.2.trans gX) (by (first | omega | with_reducible assumption | with_reducible exact rng_toInt _ | with_reducible exact rng_wr _ | (unfold rng; omega) | (unfold rng at *; omega) | assumption)) (by (first | omega | with_reducible assumption | with_reducible exact rng_toInt _ | with_reducible exact rng_wr _ | (unfold rng; omega) | (unfold rng at *; omega) | assumption)) (fun σ29_1 _ iσ29_1 cσ29_1 pσ29_1 => ?_) (fun σx LLx Nx nux E ix cx ux px => hX σx LLx Nx nux E ix (fτ21.tr (cx.mo (by decide))) (nu_τ21.x ux) (by first | exact px | exact ⟨by have := px.1; omega, px.2⟩ | (first | omega | with_reducible assumption | with_reducible exact rng_toInt _ | with_reducible exact rng_wr _ | (unfold rng; omega) | (unfold rng at *; omega) | assumption)))
                intro xσ29_1
                have fσ29_1 : Fx [261, 262, 263, 386, 387, 388, 389, 390, 6464, 8320] gr σ σ29_1 := fτ21.tr (cσ29_1.mo (by decide))
                have kp63 : gI σ29_1 o 7 = gI τ21 o 7 := (cσ29_1.O (ko.up (xσ23.trans xτ21)) (by decide)).1
                have kp64 : gP σ29_1 th 0 = gP τ21 th 0 := (cσ29_1.O (kth.up (xσ23.trans xτ21)) (by decide)).2.1
                have kp65 : gP σ29_1 th 7 = gP τ21 th 7 := (cσ29_1.O (kth.up (xσ23.trans xτ21)) (by decide)).2.1
                have kp66 : gP σ29_1 th 8 = gP τ21 th 8 := (cσ29_1.O (kth.up (xσ23.trans xτ21)) (by decide)).2.1
                have kp67 : gI σ29_1 J 7 = gI τ21 J 7 := (cσ29_1.O (kJ.up (xσ23.trans xτ21)) (by decide)).1
                have r5σ29_1 := I_6_5 iσ29_1.1 (kth.up (xσ23.trans (xτ21.trans xσ29_1)))
                by_cases hc68 : v1 ≠ 0
                · rw [if_pos hc68]
                  unfold w_X6_binary_106
                  refine ⟨by (first | omega | with_reducible assumption | with_reducible exact rng_toInt _ | with_reducible exact rng_wr _ | (unfold rng; omega) | (unfold rng at *; omega) | assumption), ?_⟩
                  refine ih1 iσ29_1 (kth.up (xσ23.trans (xτ21.trans xσ29_1))) (kp64.trans (kp12.trans hX0)) (kX.up (xσ23.trans (xτ21.trans xσ29_1))) (((xσ23.trans (xτ21.trans xσ29_1)) tx kX.1).2.2.trans gX) (kp65.trans (kp13.trans h7)) (kJ.up (xσ23.trans (xτ21.trans xσ29_1))) (kp66.trans (kp14.trans h8)) (ko.up (xσ23.trans (xτ21.trans xσ29_1))) (by (first | omega | with_reducible assumption | with_reducible exact rng_toInt _ | with_reducible exact rng_wr _ | (unfold rng; omega) | (unfold rng at *; omega) | assumption)) (by (first | omega | with_reducible assumption | with_reducible exact rng_toInt _ | with_reducible exact rng_wr _ | (unfold rng; omega) | (unfold rng at *; omega) | assumption)) (by (first | omega | with_reducible assumption | with_reducible exact rng_toInt _ | with_reducible exact rng_wr _ | (unfold rng; omega) | (unfold rng at *; omega) | assumption)) (by (first | omega | with_reducible assumption | with_reducible exact rng_toInt _ | with_reducible exact rng_wr _ | (unfold rng; omega) | (unfold rng at *; omega) | assumption)) (by (first | omega | with_reducible assumption | with_reducible exact rng_toInt _ | with_reducible exact rng_wr _ | (unfold rng; omega) | (unfold rng at *; omega) | assumption)) (by (first | omega | with_reducible assumption | with_reducible exact rng_toInt _ | with_reducible exact rng_wr _ | (unfold rng; omega) | (unfold rng at *; omega) | assumption)) (by (first | omega | with_reducible assumption | with_reducible exact rng_toInt _ | with_reducible exact rng_wr _ | (unfold rng; omega) | (unfold rng at *; omega) | assumption)) (by (first | omega | with_reducible assumption | with_reducible exact rng_toInt _ | with_reducible exact rng_wr _ | (unfold rng; omega) | (unfold rng at *; omega) | assumption)) (by (first | omega | with_reducible assumption | with_reducible exact rng_toInt _ | with_reducible exact rng_wr _ | (unfold rng; omega) | (unfold rng at *; omega) | assumption)) (fun σ39_1 nuσ39_1 _ iσ39_1 cσ39_1 uσ39_1 pσ39_1 => ?_) (fun σx LLx Nx nux E ix cx ux px => hX σx LLx Nx nux E ix (fσ29_1.tr (cx.mo (by decide))) (nu_τ21.x ux) (by first | exact px | exact ⟨by have := px.1; omega, px.2⟩ | (first | omega | with_reducible assumption | with_reducible exact rng_toInt _ | with_reducible exact rng_wr _ | (unfold rng; omega) | (unfold rng at *; omega) | assumption)))
                  intro xσ39_1
                  have fσ39_1 : Fx [261, 262, 263, 386, 387, 388, 389, 390, 6464, 8320] gr σ σ39_1 := fσ29_1.tr (cσ39_1.mo (by decide))
                  have nu_σ39_1 : NC nu nuσ39_1 := nu_τ21.tr uσ39_1
                  have uσ39_1_0 := uσ39_1 0 (by decide) (by decide)
                  have uσ39_1_1 := uσ39_1 1 (by decide) (by decide)
                  have uσ39_1_2 := uσ39_1 2 (by decide) (by decide)
                  have uσ39_1_5 := uσ39_1 5 (by decide) (by decide)
                  have uσ39_1_15 := uσ39_1 15 (by decide) (by decide)
                  have uσ39_1_16 := uσ39_1 16 (by decide) (by decide)
                  have kp69 : gI σ39_1 o 7 = gI σ29_1 o 7 := (cσ39_1.O (ko.up (xσ23.trans (xτ21.trans xσ29_1))) (by decide)).1
                  have kp70 : gP σ39_1 th 0 = gP σ29_1 th 0 := (cσ39_1.O (kth.up (xσ23.trans (xτ21.trans xσ29_1))) (by decide)).2.1
                  have kp71 : gP σ39_1 th 7 = gP σ29_1 th 7 := (cσ39_1.O (kth.up (xσ23.trans (xτ21.trans xσ29_1))) (by decide)).2.1
                  have kp72 : gP σ39_1 th 8 = gP σ29_1 th 8 := (cσ39_1.O (kth.up (xσ23.trans (xτ21.trans xσ29_1))) (by decide)).2.1
                  have r5σ39_1 := I_6_5 iσ39_1.1 (kth.up (xσ23.trans (xτ21.trans (xσ29_1.trans xσ39_1))))
                  refine ⟨J, (kp71.trans (kp65.trans (kp13.trans h7))), fun kk_J_4 => ?_⟩
                  refine i_X4_emit iσ39_1 (kJ.up (xσ23.trans (xτ21.trans (xσ29_1.trans xσ39_1)))) (by (first | omega | with_reducible assumption | with_reducible exact rng_toInt _ | with_reducible exact rng_wr _ | (unfold rng; omega) | (unfold rng at *; omega) | assumption)) (by (first | omega | with_reducible assumption | with_reducible exact rng_toInt _ | with_reducible exact rng_wr _ | (unfold rng; omega) | (unfold rng at *; omega) | assumption)) (by (first | omega | with_reducible assumption | with_reducible exact rng_toInt _ | with_reducible exact rng_wr _ | (unfold rng; omega) | (unfold rng at *; omega) | assumption)) (by (first | omega | with_reducible assumption | with_reducible exact rng_toInt _ | with_reducible exact rng_wr _ | (unfold rng; omega) | (unfold rng at *; omega) | assumption)) (fun σ40_1 nuσ40_1 r41_1 iσ40_1 cσ40_1 uσ40_1 pσ40_1 => ?_)
                  intro xσ40_1
                  have fσ40_1 : Fx [261, 262, 263, 386, 387, 388, 389, 390, 6464, 8320] gr σ σ40_1 := fσ39_1.tr (cσ40_1.mo (by decide))
                  have nu_σ40_1 : NC nu nuσ40_1 := nu_σ39_1.tr uσ40_1
                  have uσ40_1_0 := uσ40_1 0 (by decide) (by decide)
                  have uσ40_1_1 := uσ40_1 1 (by decide) (by decide)
                  have uσ40_1_2 := uσ40_1 2 (by decide) (by decide)
                  have uσ40_1_5 := uσ40_1 5 (by decide) (by decide)
                  have uσ40_1_15 := uσ40_1 15 (by decide) (by decide)
                  have uσ40_1_16 := uσ40_1 16 (by decide) (by decide)
                  have kp73 : gI σ40_1 o 7 = gI σ39_1 o 7 := (cσ40_1.O (ko.up (xσ23.trans (xτ21.trans (xσ29_1.trans xσ39_1)))) (by decide)).1
                  have kp74 : gP σ40_1 th 0 = gP σ39_1 th 0 := (cσ40_1.O (kth.up (xσ23.trans (xτ21.trans (xσ29_1.trans xσ39_1)))) (by decide)).2.1
                  have kp75 : gP σ40_1 th 7 = gP σ39_1 th 7 := (cσ40_1.O (kth.up (xσ23.trans (xτ21.trans (xσ29_1.trans xσ39_1)))) (by decide)).2.1
                  have kp76 : gP σ40_1 th 8 = gP σ39_1 th 8 := (cσ40_1.O (kth.up (xσ23.trans (xτ21.trans (xσ29_1.trans xσ39_1)))) (by decide)).2.1
                  have kp77 : gI σ40_1 th 2 = gI σ39_1 th 2 := (cσ40_1.O (kth.up (xσ23.trans (xτ21.trans (xσ29_1.trans xσ39_1)))) (by decide)).1
                  have kp78 : gI σ40_1 th 3 = gI σ39_1 th 3 := (cσ40_1.O (kth.up (xσ23.trans (xτ21.trans (xσ29_1.trans xσ39_1)))) (by decide)).1
                  have kp79 : gI σ40_1 th 5 = gI σ39_1 th 5 := (cσ40_1.O (kth.up (xσ23.trans (xτ21.trans (xσ29_1.trans xσ39_1)))) (by decide)).1
                  unfold w_X6_binary_125
                  refine ⟨by (first | omega | with_reducible assumption | with_reducible exact rng_toInt _ | with_reducible exact rng_wr _ | (unfold rng; omega) | (unfold rng at *; omega) | assumption), ?_⟩
                  exact ih21 σ40_1 nuσ40_1 (v3 + 1) iσ40_1 fσ40_1 (xτ21.trans (xσ29_1.trans (xσ39_1.trans xσ40_1))) nu_σ40_1 (by (first | omega | with_reducible assumption | with_reducible exact rng_toInt _ | with_reducible exact rng_wr _ | (unfold rng; omega) | (unfold rng at *; omega) | assumption)) (by (first | omega | with_reducible assumption | with_reducible exact rng_toInt _ | with_reducible exact rng_wr _ | (unfold rng; omega) | (unfold rng at *; omega) | assumption))
                · rw [if_neg hc68]
                  have hc68q := Classical.not_not.mp hc68
                  unfold w_X6_binary_63
                  refine ⟨J, (kp65.trans (kp13.trans h7)), fun kk_J_5 => ?_⟩
                  refine i_X4_emit iσ29_1 (kJ.up (xσ23.trans (xτ21.trans xσ29_1))) (by (first | omega | with_reducible assumption | with_reducible exact rng_toInt _ | with_reducible exact rng_wr _ | (unfold rng; omega) | (unfold rng at *; omega) | assumption)) (by (first | omega | with_reducible assumption | with_reducible exact rng_toInt _ | with_reducible exact rng_wr _ | (unfold rng; omega) | (unfold rng at *; omega) | assumption)) (by (first | omega | with_reducible assumption | with_reducible exact rng_toInt _ | with_reducible exact rng_wr _ | (unfold rng; omega) | (unfold rng at *; omega) | assumption)) (by (first | omega | with_reducible assumption | with_reducible exact rng_toInt _ | with_reducible exact rng_wr _ | (unfold rng; omega) | (unfold rng at *; omega) | assumption)) (fun σ30_1 nuσ30_1 r31_1 iσ30_1 cσ30_1 uσ30_1 pσ30_1 => ?_)
                  intro xσ30_1
                  have fσ30_1 : Fx [261, 262, 263, 386, 387, 388, 389, 390, 6464, 8320] gr σ σ30_1 := fσ29_1.tr (cσ30_1.mo (by decide))
                  have nu_σ30_1 : NC nu nuσ30_1 := nu_τ21.tr uσ30_1
                  have uσ30_1_0 := uσ30_1 0 (by decide) (by decide)
                  have uσ30_1_1 := uσ30_1 1 (by decide) (by decide)
                  have uσ30_1_2 := uσ30_1 2 (by decide) (by decide)
                  have uσ30_1_5 := uσ30_1 5 (by decide) (by decide)
                  have uσ30_1_15 := uσ30_1 15 (by decide) (by decide)
                  have uσ30_1_16 := uσ30_1 16 (by decide) (by decide)
                  have kp80 : gI σ30_1 o 7 = gI σ29_1 o 7 := (cσ30_1.O (ko.up (xσ23.trans (xτ21.trans xσ29_1))) (by decide)).1
                  have kp81 : gP σ30_1 th 0 = gP σ29_1 th 0 := (cσ30_1.O (kth.up (xσ23.trans (xτ21.trans xσ29_1))) (by decide)).2.1
                  have kp82 : gP σ30_1 th 7 = gP σ29_1 th 7 := (cσ30_1.O (kth.up (xσ23.trans (xτ21.trans xσ29_1))) (by decide)).2.1
                  have kp83 : gP σ30_1 th 8 = gP σ29_1 th 8 := (cσ30_1.O (kth.up (xσ23.trans (xτ21.trans xσ29_1))) (by decide)).2.1
                  have kp84 : gI σ30_1 th 2 = gI σ29_1 th 2 := (cσ30_1.O (kth.up (xσ23.trans (xτ21.trans xσ29_1))) (by decide)).1
                  have kp85 : gI σ30_1 th 3 = gI σ29_1 th 3 := (cσ30_1.O (kth.up (xσ23.trans (xτ21.trans xσ29_1))) (by decide)).1
                  have kp86 : gI σ30_1 th 5 = gI σ29_1 th 5 := (cσ30_1.O (kth.up (xσ23.trans (xτ21.trans xσ29_1))) (by decide)).1
                  refine ⟨by (first | omega | with_reducible assumption | with_reducible exact rng_toInt _ | with_reducible exact rng_wr _ | (unfold rng; omega) | (unfold rng at *; omega) | assumption), ?_⟩
                  refine ih1 iσ30_1 (kth.up (xσ23.trans (xτ21.trans (xσ29_1.trans xσ30_1)))) (kp81.trans (kp64.trans (kp12.trans hX0))) (kX.up (xσ23.trans (xτ21.trans (xσ29_1.trans xσ30_1)))) (((xσ23.trans (xτ21.trans (xσ29_1.trans xσ30_1))) tx kX.1).2.2.trans gX) (kp82.trans (kp65.trans (kp13.trans h7))) (kJ.up (xσ23.trans (xτ21.trans (xσ29_1.trans xσ30_1)))) (kp83.trans (kp66.trans (kp14.trans h8))) (ko.up (xσ23.trans (xτ21.trans (xσ29_1.trans xσ30_1)))) (by (first | omega | with_reducible assumption | with_reducible exact rng_toInt _ | with_reducible exact rng_wr _ | (unfold rng; omega) | (unfold rng at *; omega) | assumption)) (by (first | omega | with_reducible assumption | with_reducible exact rng_toInt _ | with_reducible exact rng_wr _ | (unfold rng; omega) | (unfold rng at *; omega) | assumption)) (by (first | omega | with_reducible assumption | with_reducible exact rng_toInt _ | with_reducible exact rng_wr _ | (unfold rng; omega) | (unfold rng at *; omega) | assumption)) (by (first | omega | with_reducible assumption | with_reducible exact rng_toInt _ | with_reducible exact rng_wr _ | (unfold rng; omega) | (unfold rng at *; omega) | assumption)) (by (first | omega | with_reducible assumption | with_reducible exact rng_toInt _ | with_reducible exact rng_wr _ | (unfold rng; omega) | (unfold rng at *; omega) | assumption)) (by (first | omega | with_reducible assumption | with_reducible exact rng_toInt _ | with_reducible exact rng_wr _ | (unfold rng; omega) | (unfold rng at *; omega) | assumption)) (by (first | omega | with_reducible assumption | with_reducible exact rng_toInt _ | with_reducible exact rng_wr _ | (unfold rng; omega) | (unfold rng at *; omega) | assumption)) (by (first | omega | with_reducible assumption | with_reducible exact rng_toInt _ | with_reducible exact rng_wr _ | (unfold rng; omega) | (unfold rng at *; omega) | assumption)) (by (first | omega | with_reducible assumption | with_reducible exact rng_toInt _ | with_reducible exact rng_wr _ | (unfold rng; omega) | (unfold rng at *; omega) | assumption)) (fun σ33_1 nuσ33_1 _ iσ33_1 cσ33_1 uσ33_1 pσ33_1 => ?_) (fun σx LLx Nx nux E ix cx ux px => hX σx LLx Nx nux E ix (fσ30_1.tr (cx.mo (by decide))) (nu_σ30_1.x ux) (by first | exact px | exact ⟨by have := px.1; omega, px.2⟩ | (first | omega | with_reducible assumption | with_reducible exact rng_toInt _ | with_reducible exact rng_wr _ | (unfold rng; omega) | (unfold rng at *; omega) | assumption)))
                  intro xσ33_1
                  have fσ33_1 : Fx [261, 262, 263, 386, 387, 388, 389, 390, 6464, 8320] gr σ σ33_1 := fσ30_1.tr (cσ33_1.mo (by decide))
                  have nu_σ33_1 : NC nu nuσ33_1 := nu_σ30_1.tr uσ33_1
                  have uσ33_1_0 := uσ33_1 0 (by decide) (by decide)
                  have uσ33_1_1 := uσ33_1 1 (by decide) (by decide)
                  have uσ33_1_2 := uσ33_1 2 (by decide) (by decide)
                  have uσ33_1_5 := uσ33_1 5 (by decide) (by decide)
                  have uσ33_1_15 := uσ33_1 15 (by decide) (by decide)
                  have uσ33_1_16 := uσ33_1 16 (by decide) (by decide)
                  have kp87 : gI σ33_1 o 7 = gI σ30_1 o 7 := (cσ33_1.O (ko.up (xσ23.trans (xτ21.trans (xσ29_1.trans xσ30_1)))) (by decide)).1
                  have kp88 : gP σ33_1 th 0 = gP σ30_1 th 0 := (cσ33_1.O (kth.up (xσ23.trans (xτ21.trans (xσ29_1.trans xσ30_1)))) (by decide)).2.1
                  have kp89 : gP σ33_1 th 7 = gP σ30_1 th 7 := (cσ33_1.O (kth.up (xσ23.trans (xτ21.trans (xσ29_1.trans xσ30_1)))) (by decide)).2.1
                  have kp90 : gP σ33_1 th 8 = gP σ30_1 th 8 := (cσ33_1.O (kth.up (xσ23.trans (xτ21.trans (xσ29_1.trans xσ30_1)))) (by decide)).2.1
                  have r5σ33_1 := I_6_5 iσ33_1.1 (kth.up (xσ23.trans (xτ21.trans (xσ29_1.trans (xσ30_1.trans xσ33_1)))))
                  refine ⟨J, (kp89.trans (kp82.trans (kp65.trans (kp13.trans h7)))), fun kk_J_6 => ?_⟩
                  refine i_X4_emit iσ33_1 (kJ.up (xσ23.trans (xτ21.trans (xσ29_1.trans (xσ30_1.trans xσ33_1))))) (by (first | omega | with_reducible assumption | with_reducible exact rng_toInt _ | with_reducible exact rng_wr _ | (unfold rng; omega) | (unfold rng at *; omega) | assumption)) (by (first | omega | with_reducible assumption | with_reducible exact rng_toInt _ | with_reducible exact rng_wr _ | (unfold rng; omega) | (unfold rng at *; omega) | assumption)) (by (first | omega | with_reducible assumption | with_reducible exact rng_toInt _ | with_reducible exact rng_wr _ | (unfold rng; omega) | (unfold rng at *; omega) | assumption)) (by (first | omega | with_reducible assumption | with_reducible exact rng_toInt _ | with_reducible exact rng_wr _ | (unfold rng; omega) | (unfold rng at *; omega) | assumption)) (fun σ34_1 nuσ34_1 r35_1 iσ34_1 cσ34_1 uσ34_1 pσ34_1 => ?_)
                  intro xσ34_1
                  have fσ34_1 : Fx [261, 262, 263, 386, 387, 388, 389, 390, 6464, 8320] gr σ σ34_1 := fσ33_1.tr (cσ34_1.mo (by decide))
                  have nu_σ34_1 : NC nu nuσ34_1 := nu_σ33_1.tr uσ34_1
                  have uσ34_1_0 := uσ34_1 0 (by decide) (by decide)
                  have uσ34_1_1 := uσ34_1 1 (by decide) (by decide)
                  have uσ34_1_2 := uσ34_1 2 (by decide) (by decide)
                  have uσ34_1_5 := uσ34_1 5 (by decide) (by decide)
                  have uσ34_1_15 := uσ34_1 15 (by decide) (by decide)
                  have uσ34_1_16 := uσ34_1 16 (by decide) (by decide)
                  have kp91 : gI σ34_1 o 7 = gI σ33_1 o 7 := (cσ34_1.O (ko.up (xσ23.trans (xτ21.trans (xσ29_1.trans (xσ30_1.trans xσ33_1))))) (by decide)).1
                  have kp92 : gP σ34_1 th 0 = gP σ33_1 th 0 := (cσ34_1.O (kth.up (xσ23.trans (xτ21.trans (xσ29_1.trans (xσ30_1.trans xσ33_1))))) (by decide)).2.1
                  have kp93 : gP σ34_1 th 7 = gP σ33_1 th 7 := (cσ34_1.O (kth.up (xσ23.trans (xτ21.trans (xσ29_1.trans (xσ30_1.trans xσ33_1))))) (by decide)).2.1
                  have kp94 : gP σ34_1 th 8 = gP σ33_1 th 8 := (cσ34_1.O (kth.up (xσ23.trans (xτ21.trans (xσ29_1.trans (xσ30_1.trans xσ33_1))))) (by decide)).2.1
                  have kp95 : gI σ34_1 th 2 = gI σ33_1 th 2 := (cσ34_1.O (kth.up (xσ23.trans (xτ21.trans (xσ29_1.trans (xσ30_1.trans xσ33_1))))) (by decide)).1
                  have kp96 : gI σ34_1 th 3 = gI σ33_1 th 3 := (cσ34_1.O (kth.up (xσ23.trans (xτ21.trans (xσ29_1.trans (xσ30_1.trans xσ33_1))))) (by decide)).1
                  have kp97 : gI σ34_1 th 5 = gI σ33_1 th 5 := (cσ34_1.O (kth.up (xσ23.trans (xτ21.trans (xσ29_1.trans (xσ30_1.trans xσ33_1))))) (by decide)).1
                  refine ⟨J, (kp93.trans (kp89.trans (kp82.trans (kp65.trans (kp13.trans h7))))), fun kk_J_7 => ?_⟩
                  refine i_X4_landHere iσ34_1 (kJ.up (xσ23.trans (xτ21.trans (xσ29_1.trans (xσ30_1.trans (xσ33_1.trans xσ34_1)))))) (by (first | omega | with_reducible assumption | with_reducible exact rng_toInt _ | with_reducible exact rng_wr _ | (unfold rng; omega) | (unfold rng at *; omega) | assumption)) (fun σ37_1 _ iσ37_1 cσ37_1 pσ37_1 => ?_)
                  intro xσ37_1
                  have fσ37_1 : Fx [261, 262, 263, 386, 387, 388, 389, 390, 6464, 8320] gr σ σ37_1 := fσ34_1.tr (cσ37_1.mo (by decide))
                  have kp98 : gI σ37_1 o 7 = gI σ34_1 o 7 := (cσ37_1.O (ko.up (xσ23.trans (xτ21.trans (xσ29_1.trans (xσ30_1.trans (xσ33_1.trans xσ34_1)))))) (by decide)).1
                  have kp99 : gP σ37_1 th 0 = gP σ34_1 th 0 := (cσ37_1.O (kth.up (xσ23.trans (xτ21.trans (xσ29_1.trans (xσ30_1.trans (xσ33_1.trans xσ34_1)))))) (by decide)).2.1
                  have kp100 : gP σ37_1 th 7 = gP σ34_1 th 7 := (cσ37_1.O (kth.up (xσ23.trans (xτ21.trans (xσ29_1.trans (xσ30_1.trans (xσ33_1.trans xσ34_1)))))) (by decide)).2.1
                  have kp101 : gP σ37_1 th 8 = gP σ34_1 th 8 := (cσ37_1.O (kth.up (xσ23.trans (xτ21.trans (xσ29_1.trans (xσ30_1.trans (xσ33_1.trans xσ34_1)))))) (by decide)).2.1
                  have kp102 : gI σ37_1 th 2 = gI σ34_1 th 2 := (cσ37_1.O (kth.up (xσ23.trans (xτ21.trans (xσ29_1.trans (xσ30_1.trans (xσ33_1.trans xσ34_1)))))) (by decide)).1
                  have kp103 : gI σ37_1 th 3 = gI σ34_1 th 3 := (cσ37_1.O (kth.up (xσ23.trans (xτ21.trans (xσ29_1.trans (xσ30_1.trans (xσ33_1.trans xσ34_1)))))) (by decide)).1
                  have kp104 : gI σ37_1 th 5 = gI σ34_1 th 5 := (cσ37_1.O (kth.up (xσ23.trans (xτ21.trans (xσ29_1.trans (xσ30_1.trans (xσ33_1.trans xσ34_1)))))) (by decide)).1
                  have kp105 : gI σ37_1 J 7 = gI σ34_1 J 7 := (cσ37_1.O (kJ.up (xσ23.trans (xτ21.trans (xσ29_1.trans (xσ30_1.trans (xσ33_1.trans xσ34_1)))))) (by decide)).1
                  unfold w_X6_binary_125
                  refine ⟨by (first | omega | with_reducible assumption | with_reducible exact rng_toInt _ | with_reducible exact rng_wr _ | (unfold rng; omega) | (unfold rng at *; omega) | assumption), ?_⟩
                  exact ih21 σ37_1 nuσ34_1 (v3 + 1) iσ37_1 fσ37_1 (xτ21.trans (xσ29_1.trans (xσ30_1.trans (xσ33_1.trans (xσ34_1.trans xσ37_1))))) nu_σ34_1 (by (first | omega | with_reducible assumption | with_reducible exact rng_toInt _ | with_reducible exact rng_wr _ | (unfold rng; omega) | (unfold rng at *; omega) | assumption)) (by (first | omega | with_reducible assumption | with_reducible exact rng_toInt _ | with_reducible exact rng_wr _ | (unfold rng; omega) | (unfold rng at *; omega) | assumption))
              · rw [if_neg hc62]
                unfold w_X6_binary_45
                refine i_X6_cannotStand iτ21 (kth.up (xσ23.trans xτ21)) (by (first | omega | with_reducible assumption | with_reducible exact rng_toInt _ | with_reducible exact rng_wr _ | (unfold rng; omega) | (unfold rng at *; omega) | assumption)) (fun σ26 _ iσ26 cσ26 pσ26 => ?_) (fun σx LLx Nx nux E ix cx ux px => hX σx LLx Nx nux E ix (fτ21.tr (cx.mo (by decide))) (nu_τ21.x ux) (by first | exact px | exact ⟨by have := px.1; omega, px.2⟩ | (first | omega | with_reducible assumption | with_reducible exact rng_toInt _ | with_reducible exact rng_wr _ | (unfold rng; omega) | (unfold rng at *; omega) | assumption)))
                intro xσ26
                exact pσ26.elim
    exact ⟨_, Lp21 _ σ23 nuσ23 _ iσ23 fσ23 (Ext.rfl' _) nu_σ23 (by (first | omega | with_reducible assumption | with_reducible exact rng_toInt _ | with_reducible exact rng_wr _ | (unfold rng; omega) | (unfold rng at *; omega) | assumption)) (Nat.lt_succ_self _)⟩
  · rw [if_neg hc6]
    unfold w_X6_binary_5
    refine ih2 iσ kth hX0 kX (((Ext.rfl' _) tx kX.1).2.2.trans gX) h7 kJ h8 ko (by (first | omega | with_reducible assumption | with_reducible exact rng_toInt _ | with_reducible exact rng_wr _ | (unfold rng; omega) | (unfold rng at *; omega) | assumption)) (by (first | omega | with_reducible assumption | with_reducible exact rng_toInt _ | with_reducible exact rng_wr _ | (unfold rng; omega) | (unfold rng at *; omega) | assumption)) (by (first | omega | with_reducible assumption | with_reducible exact rng_toInt _ | with_reducible exact rng_wr _ | (unfold rng; omega) | (unfold rng at *; omega) | assumption)) (by (first | omega | with_reducible assumption | with_reducible exact rng_toInt _ | with_reducible exact rng_wr _ | (unfold rng; omega) | (unfold rng at *; omega) | assumption)) (by (first | omega | with_reducible assumption | with_reducible exact rng_toInt _ | with_reducible exact rng_wr _ | (unfold rng; omega) | (unfold rng at *; omega) | assumption)) (by (first | omega | with_reducible assumption | with_reducible exact rng_toInt _ | with_reducible exact rng_wr _ | (unfold rng; omega) | (unfold rng at *; omega) | assumption)) (by (first | omega | with_reducible assumption | with_reducible exact rng_toInt _ | with_reducible exact rng_wr _ | (unfold rng; omega) | (unfold rng at *; omega) | assumption)) (by (first | omega | with_reducible assumption | with_reducible exact rng_toInt _ | with_reducible exact rng_wr _ | (unfold rng; omega) | (unfold rng at *; omega) | assumption)) (by (first | omega | with_reducible assumption | with_reducible exact rng_toInt _ | with_reducible exact rng_wr _ | (unfold rng; omega) | (unfold rng at *; omega) | assumption)) (fun σ22 nuσ22 _ iσ22 cσ22 uσ22 pσ22 => ?_) (fun σx LLx Nx nux E ix cx ux px => hX σx LLx Nx nux E ix (fσ.tr (cx.mo (by decide))) (ux) (by first | exact px | exact ⟨by have := px.1; omega, px.2⟩ | (first | omega | with_reducible assumption | with_reducible exact rng_toInt _ | with_reducible exact rng_wr _ | (unfold rng; omega) | (unfold rng at *; omega) | assumption)))
    intro xσ22
    have fσ22 : Fx [261, 262, 263, 386, 387, 388, 389, 390, 6464, 8320] gr σ σ22 := fσ.tr (cσ22.mo (by decide))
    have nu_σ22 : NC nu nuσ22 := uσ22
    have uσ22_0 := uσ22 0 (by decide) (by decide)
    have uσ22_1 := uσ22 1 (by decide) (by decide)
    have uσ22_2 := uσ22 2 (by decide) (by decide)
    have uσ22_5 := uσ22 5 (by decide) (by decide)
    have uσ22_15 := uσ22 15 (by decide) (by decide)
    have uσ22_16 := uσ22 16 (by decide) (by decide)
    have kp106 : gI σ22 o 7 = gI σ o 7 := (cσ22.O ko (by decide)).1
    have kp107 : gP σ22 th 0 = gP σ th 0 := (cσ22.O kth (by decide)).2.1
    have kp108 : gP σ22 th 7 = gP σ th 7 := (cσ22.O kth (by decide)).2.1
    have kp109 : gP σ22 th 8 = gP σ th 8 := (cσ22.O kth (by decide)).2.1
    have r5σ22 := I_6_5 iσ22.1 (kth.up xσ22)
    exact hQ σ22 nuσ22 () iσ22 fσ22 (nu_σ22) (by (first | omega | with_reducible assumption | with_reducible exact rng_toInt _ | with_reducible exact rng_wr _ | (unfold rng; omega) | (unfold rng at *; omega) | assumption))
set_option maxHeartbeats 1000000 in
theorem s_X6_prefixed {pl : Nat} {gq ci gr nc : Nat → Nat} {ot : Nat → Nat → Int} {LL : Nat → List Nat} {N : Nat → Nat} {th tx J o q c n : Nat} (ih0 : RC0 pl gq ci gr nc ot LL N th tx J o q c n) (ih1 : RC1 pl gq ci gr nc ot LL N th tx J o q c n) (ih2 : RC2 pl gq ci gr nc ot LL N th tx J o q c n) (ih3 : RC3 pl gq ci gr nc ot LL N th tx J o q c n) : RC2 pl gq ci gr nc ot LL N th tx J o q c (n + 1) := by
  intro σ nu v1 v2 iσ kth hX0 kX gX h7 kJ h8 ko hJq hq go hc tf h5 lp ho7 nd Q X hQ hX
  have fσ : Fx [261, 262, 263, 386, 387, 388, 389, 390, 6464, 8320] gr σ σ := Fx.rf
  have q1 := I_6_5 iσ.1 kth
  have q2 := I_6_2 iσ.1 kth
  have q3 := iσ.rg th 3; unfold rng at q3
  have q4 := I_4_7 iσ.1 kJ
  have q5 := I_5_7 iσ.1 ko
  have ncb := iσ.ncb
  have r50 := I_6_5 iσ.1 kth
  have r70 := I_4_7 iσ.1 kJ
  show w_X6_prefixed_0 th (wrecC th n) Q X σ v1
  unfold w_X6_prefixed_0
  refine i_X6_isSign iσ kth (fun r15 pσ14 => ?_)
  intro xσ14
  by_cases hc6 : r15 ≠ 0
  · rw [if_pos hc6]
    unfold w_X6_prefixed_24
    refine i_X6_goDeeper iσ kth (by (first | omega | with_reducible assumption | with_reducible exact rng_toInt _ | with_reducible exact rng_wr _ | (unfold rng; omega) | (unfold rng at *; omega) | assumption)) (fun σ19 _ iσ19 cσ19 pσ19 => ?_) (fun σx LLx Nx nux E ix cx ux px => hX σx LLx Nx nux E ix (fσ.tr (cx.mo (by decide))) (ux) (by first | exact px | exact ⟨by have := px.1; omega, px.2⟩ | (first | omega | with_reducible assumption | with_reducible exact rng_toInt _ | with_reducible exact rng_wr _ | (unfold rng; omega) | (unfold rng at *; omega) | assumption)))
    intro xσ19
    have fσ19 : Fx [261, 262, 263, 386, 387, 388, 389, 390, 6464, 8320] gr σ σ19 := fσ.tr (cσ19.mo (by decide))
    have kp7 : gI σ19 J 7 = gI σ J 7 := (cσ19.O kJ (by decide)).1
    have kp8 : gI σ19 o 7 = gI σ o 7 := (cσ19.O ko (by decide)).1
    have kp9 : gI σ19 th 2 = gI σ th 2 := (cσ19.O kth (by decide)).1
    have kp10 : gI σ19 th 3 = gI σ th 3 := (cσ19.O kth (by decide)).1
    have kp11 : gI σ19 th 5 = gI σ th 5 := (cσ19.O kth (by decide)).1
    have kp12 : gP σ19 th 0 = gP σ th 0 := (cσ19.O kth (by decide)).2.1
    have kp13 : gP σ19 th 7 = gP σ th 7 := (cσ19.O kth (by decide)).2.1
    have kp14 : gP σ19 th 8 = gP σ th 8 := (cσ19.O kth (by decide)).2.1
    refine i_X6_isSign iσ19 (kth.up xσ19) (fun r21 pσ20 => ?_)
    intro xσ20
    by_cases hc15 : r21 = 0
    · rw [if_pos hc15]
      unfold w_X6_prefixed_42
      unfold w_X6_prefixed_43
      refine i_X6_next iσ19 (kth.up xσ19) (kp12.trans hX0) (kX.up xσ19) (((xσ19) tx kX.1).2.2.trans gX) (by (first | omega | with_reducible assumption | with_reducible exact rng_toInt _ | with_reducible exact rng_wr _ | (unfold rng; omega) | (unfold rng at *; omega) | assumption)) (by (first | omega | with_reducible assumption | with_reducible exact rng_toInt _ | with_reducible exact rng_wr _ | (unfold rng; omega) | (unfold rng at *; omega) | assumption)) (fun σ22 _ iσ22 cσ22 pσ22 => ?_) (fun σx LLx Nx nux E ix cx ux px => hX σx LLx Nx nux E ix (fσ19.tr (cx.mo (by decide))) (ux) (by first | exact px | exact ⟨by have := px.1; omega, px.2⟩ | (first | omega | with_reducible assumption | with_reducible exact rng_toInt _ | with_reducible exact rng_wr _ | (unfold rng; omega) | (unfold rng at *; omega) | assumption)))
      intro xσ22
      have fσ22 : Fx [261, 262, 263, 386, 387, 388, 389, 390, 6464, 8320] gr σ σ22 := fσ19.tr (cσ22.mo (by decide))
      have kp16 : gI σ22 J 7 = gI σ19 J 7 := (cσ22.O (kJ.up xσ19) (by decide)).1
      have kp17 : gI σ22 o 7 = gI σ19 o 7 := (cσ22.O (ko.up xσ19) (by decide)).1
      have kp18 : gP σ22 th 0 = gP σ19 th 0 := (cσ22.O (kth.up xσ19) (by decide)).2.1
      have kp19 : gP σ22 th 7 = gP σ19 th 7 := (cσ22.O (kth.up xσ19) (by decide)).2.1
      have kp20 : gP σ22 th 8 = gP σ19 th 8 := (cσ22.O (kth.up xσ19) (by decide)).2.1
      have r5σ22 := I_6_5 iσ22.1 (kth.up (xσ19.trans xσ22))
      refine ⟨by (first | omega | with_reducible assumption | with_reducible exact rng_toInt _ | with_reducible exact rng_wr _ | (unfold rng; omega) | (unfold rng at *; omega) | assumption), ?_⟩
      refine ih2 iσ22 (kth.up (xσ19.trans xσ22)) (kp18.trans (kp12.trans hX0)) (kX.up (xσ19.trans xσ22)) (((xσ19.trans xσ22) tx kX.1).2.2.trans gX) (kp19.trans (kp13.trans h7)) (kJ.up (xσ19.trans xσ22)) (kp20.trans (kp14.trans h8)) (ko.up (xσ19.trans xσ22)) (by (first | omega | with_reducible assumption | with_reducible exact rng_toInt _ | with_reducible exact rng_wr _ | (unfold rng; omega) | (unfold rng at *; omega) | assumption)) (by (first | omega | with_reducible assumption | with_reducible exact rng_toInt _ | with_reducible exact rng_wr _ | (unfold rng; omega) | (unfold rng at *; omega) | assumption)) (by (first | omega | with_reducible assumption | with_reducible exact rng_toInt _ | with_reducible exact rng_wr _ | (unfold rng; omega) | (unfold rng at *; omega) | assumption)) (by (first | omega | with_reducible assumption | with_reducible exact rng_toInt _ | with_reducible exact rng_wr _ | (unfold rng; omega) | (unfold rng at *; omega) | assumption)) (by (first | omega | with_reducible assumption | with_reducible exact rng_toInt _ | with_reducible exact rng_wr _ | (unfold rng; omega) | (unfold rng at *; omega) | assumption)) (by (first | omega | with_reducible assumption | with_reducible exact rng_toInt _ | with_reducible exact rng_wr _ | (unfold rng; omega) | (unfold rng at *; omega) | assumption)) (by (first | omega | with_reducible assumption | with_reducible exact rng_toInt _ | with_reducible exact rng_wr _ | (unfold rng; omega) | (unfold rng at *; omega) | assumption)) (by (first | omega | with_reducible assumption | with_reducible exact rng_toInt _ | with_reducible exact rng_wr _ | (unfold rng; omega) | (unfold rng at *; omega) | assumption)) (by (first | omega | with_reducible assumption | with_reducible exact rng_toInt _ | with_reducible exact rng_wr _ | (unfold rng; omega) | (unfold rng at *; omega) | assumption)) (fun σ23 nuσ23 _ iσ23 cσ23 uσ23 pσ23 => ?_) (fun σx LLx Nx nux E ix cx ux px => hX σx LLx Nx nux E ix (fσ22.tr (cx.mo (by decide))) (ux) (by first | exact px | exact ⟨by have := px.1; omega, px.2⟩ | (first | omega | with_reducible assumption | with_reducible exact rng_toInt _ | with_reducible exact rng_wr _ | (unfold rng; omega) | (unfold rng at *; omega) | assumption)))
      intro xσ23
      have fσ23 : Fx [261, 262, 263, 386, 387, 388, 389, 390, 6464, 8320] gr σ σ23 := fσ22.tr (cσ23.mo (by decide))
      have nu_σ23 : NC nu nuσ23 := uσ23
      have uσ23_0 := uσ23 0 (by decide) (by decide)
      have uσ23_1 := uσ23 1 (by decide) (by decide)
      have uσ23_2 := uσ23 2 (by decide) (by decide)
      have uσ23_5 := uσ23 5 (by decide) (by decide)
      have uσ23_15 := uσ23 15 (by decide) (by decide)
      have uσ23_16 := uσ23 16 (by decide) (by decide)
      have kp21 : gI σ23 o 7 = gI σ22 o 7 := (cσ23.O (ko.up (xσ19.trans xσ22)) (by decide)).1
      have kp22 : gP σ23 th 0 = gP σ22 th 0 := (cσ23.O (kth.up (xσ19.trans xσ22)) (by decide)).2.1
      have kp23 : gP σ23 th 7 = gP σ22 th 7 := (cσ23.O (kth.up (xσ19.trans xσ22)) (by decide)).2.1
      have kp24 : gP σ23 th 8 = gP σ22 th 8 := (cσ23.O (kth.up (xσ19.trans xσ22)) (by decide)).2.1
      have r5σ23 := I_6_5 iσ23.1 (kth.up (xσ19.trans (xσ22.trans xσ23)))
      refine ⟨J, (kp23.trans (kp19.trans (kp13.trans h7))), fun kk_J => ?_⟩
      refine i_X4_emit iσ23 (kJ.up (xσ19.trans (xσ22.trans xσ23))) (by (first | omega | with_reducible assumption | with_reducible exact rng_toInt _ | with_reducible exact rng_wr _ | (unfold rng; omega) | (unfold rng at *; omega) | assumption)) (by (first | omega | with_reducible assumption | with_reducible exact rng_toInt _ | with_reducible exact rng_wr _ | (unfold rng; omega) | (unfold rng at *; omega) | assumption)) (by (first | omega | with_reducible assumption | with_reducible exact rng_toInt _ | with_reducible exact rng_wr _ | (unfold rng; omega) | (unfold rng at *; omega) | assumption)) (by (first | omega | with_reducible assumption | with_reducible exact rng_toInt _ | with_reducible exact rng_wr _ | (unfold rng; omega) | (unfold rng at *; omega) | assumption)) (fun σ24 nuσ24 r25 iσ24 cσ24 uσ24 pσ24 => ?_)
      intro xσ24
      have fσ24 : Fx [261, 262, 263, 386, 387, 388, 389, 390, 6464, 8320] gr σ σ24 := fσ23.tr (cσ24.mo (by decide))
      have nu_σ24 : NC nu nuσ24 := nu_σ23.tr uσ24
      have uσ24_0 := uσ24 0 (by decide) (by decide)
      have uσ24_1 := uσ24 1 (by decide) (by decide)
      have uσ24_2 := uσ24 2 (by decide) (by decide)
      have uσ24_5 := uσ24 5 (by decide) (by decide)
      have uσ24_15 := uσ24 15 (by decide) (by decide)
      have uσ24_16 := uσ24 16 (by decide) (by decide)
      have kp25 : gI σ24 o 7 = gI σ23 o 7 := (cσ24.O (ko.up (xσ19.trans (xσ22.trans xσ23))) (by decide)).1
      have kp26 : gP σ24 th 0 = gP σ23 th 0 := (cσ24.O (kth.up (xσ19.trans (xσ22.trans xσ23))) (by decide)).2.1
      have kp27 : gP σ24 th 7 = gP σ23 th 7 := (cσ24.O (kth.up (xσ19.trans (xσ22.trans xσ23))) (by decide)).2.1
      have kp28 : gP σ24 th 8 = gP σ23 th 8 := (cσ24.O (kth.up (xσ19.trans (xσ22.trans xσ23))) (by decide)).2.1
      have kp29 : gI σ24 th 2 = gI σ23 th 2 := (cσ24.O (kth.up (xσ19.trans (xσ22.trans xσ23))) (by decide)).1
      have kp30 : gI σ24 th 3 = gI σ23 th 3 := (cσ24.O (kth.up (xσ19.trans (xσ22.trans xσ23))) (by decide)).1
      have kp31 : gI σ24 th 5 = gI σ23 th 5 := (cσ24.O (kth.up (xσ19.trans (xσ22.trans xσ23))) (by decide)).1
      exact hQ σ24 nuσ24 () iσ24 fσ24 (nu_σ24) (by (first | omega | with_reducible assumption | with_reducible exact rng_toInt _ | with_reducible exact rng_wr _ | (unfold rng; omega) | (unfold rng at *; omega) | assumption))
    · rw [if_neg hc15]
      unfold w_X6_prefixed_38
      unfold w_X6_prefixed_43
      refine i_X6_next iσ19 (kth.up xσ19) (kp12.trans hX0) (kX.up xσ19) (((xσ19) tx kX.1).2.2.trans gX) (by (first | omega | with_reducible assumption | with_reducible exact rng_toInt _ | with_reducible exact rng_wr _ | (unfold rng; omega) | (unfold rng at *; omega) | assumption)) (by (first | omega | with_reducible assumption | with_reducible exact rng_toInt _ | with_reducible exact rng_wr _ | (unfold rng; omega) | (unfold rng at *; omega) | assumption)) (fun σ22_1 _ iσ22_1 cσ22_1 pσ22_1 => ?_) (fun σx LLx Nx nux E ix cx ux px => hX σx LLx Nx nux E ix (fσ19.tr (cx.mo (by decide))) (ux) (by first | exact px | exact ⟨by have := px.1; omega, px.2⟩ | (first | omega | with_reducible assumption | with_reducible exact rng_toInt _ | with_reducible exact rng_wr _ | (unfold rng; omega) | (unfold rng at *; omega) | assumption)))
      intro xσ22_1
      have fσ22_1 : Fx [261, 262, 263, 386, 387, 388, 389, 390, 6464, 8320] gr σ σ22_1 := fσ19.tr (cσ22_1.mo (by decide))
      have kp32 : gI σ22_1 J 7 = gI σ19 J 7 := (cσ22_1.O (kJ.up xσ19) (by decide)).1
      have kp33 : gI σ22_1 o 7 = gI σ19 o 7 := (cσ22_1.O (ko.up xσ19) (by decide)).1
      have kp34 : gP σ22_1 th 0 = gP σ19 th 0 := (cσ22_1.O (kth.up xσ19) (by decide)).2.1
      have kp35 : gP σ22_1 th 7 = gP σ19 th 7 := (cσ22_1.O (kth.up xσ19) (by decide)).2.1
      have kp36 : gP σ22_1 th 8 = gP σ19 th 8 := (cσ22_1.O (kth.up xσ19) (by decide)).2.1
      have r5σ22_1 := I_6_5 iσ22_1.1 (kth.up (xσ19.trans xσ22_1))
      refine ⟨by (first | omega | with_reducible assumption | with_reducible exact rng_toInt _ | with_reducible exact rng_wr _ | (unfold rng; omega) | (unfold rng at *; omega) | assumption), ?_⟩
      refine ih2 iσ22_1 (kth.up (xσ19.trans xσ22_1)) (kp34.trans (kp12.trans hX0)) (kX.up (xσ19.trans xσ22_1)) (((xσ19.trans xσ22_1) tx kX.1).2.2.trans gX) (kp35.trans (kp13.trans h7)) (kJ.up (xσ19.trans xσ22_1)) (kp36.trans (kp14.trans h8)) (ko.up (xσ19.trans xσ22_1)) (by (first | omega | with_reducible assumption | with_reducible exact rng_toInt _ | with_reducible exact rng_wr _ | (unfold rng; omega) | (unfold rng at *; omega) | assumption)) (by (first | omega | with_reducible assumption | with_reducible exact rng_toInt _ | with_reducible exact rng_wr _ | (unfold rng; omega) | (unfold rng at *; omega) | assumption)) (by (first | omega | with_reducible assumption | with_reducible exact rng_toInt _ | with_reducible exact rng_wr _ | (unfold rng; omega) | (unfold rng at *; omega) | assumption)) (by (first | omega | with_reducible assumption | with_reducible exact rng_toInt _ | with_reducible exact rng_wr _ | (unfold rng; omega) | (unfold rng at *; omega) | assumption)) (by (first | omega | with_reducible assumption | with_reducible exact rng_toInt _ | with_reducible exact rng_wr _ | (unfold rng; omega) | (unfold rng at *; omega) | assumption)) (by (first | omega | with_reducible assumption | with_reducible exact rng_toInt _ | with_reducible exact rng_wr _ | (unfold rng; omega) | (unfold rng at *; omega) | assumption)) (by (first | omega | with_reducible assumption | with_reducible exact rng_toInt _ | with_reducible exact rng_wr _ | (unfold rng; omega) | (unfold rng at *; omega) | assumption)) (by (first | omega | with_reducible assumption | with_reducible exact rng_toInt _ | with_reducible exact rng_wr _ | (unfold rng; omega) | (unfold rng at *; omega) | assumption)) (by (first | omega | with_reducible assumption | with_reducible exact rng_toInt _ | with_reducible exact rng_wr _ | (unfold rng; omega) | (unfold rng at *; omega) | assumption)) (fun σ23_1 nuσ23_1 _ iσ23_1 cσ23_1 uσ23_1 pσ23_1 => ?_) (fun σx LLx Nx nux E ix cx ux px => hX σx LLx Nx nux E ix (fσ22_1.tr (cx.mo (by decide))) (ux) (by first | exact px | exact ⟨by have := px.1; omega, px.2⟩ | (first | omega | with_reducible assumption | with_reducible exact rng_toInt _ | with_reducible exact rng_wr _ | (unfold rng; omega) | (unfold rng at *; omega) | assumption)))
      intro xσ23_1
      have fσ23_1 : Fx [261, 262, 263, 386, 387, 388, 389, 390, 6464, 8320] gr σ σ23_1 := fσ22_1.tr (cσ23_1.mo (by decide))
      have nu_σ23_1 : NC nu nuσ23_1 := uσ23_1
      have uσ23_1_0 := uσ23_1 0 (by decide) (by decide)
      have uσ23_1_1 := uσ23_1 1 (by decide) (by decide)
      have uσ23_1_2 := uσ23_1 2 (by decide) (by decide)
      have uσ23_1_5 := uσ23_1 5 (by decide) (by decide)
      have uσ23_1_15 := uσ23_1 15 (by decide) (by decide)
      have uσ23_1_16 := uσ23_1 16 (by decide) (by decide)
      have kp37 : gI σ23_1 o 7 = gI σ22_1 o 7 := (cσ23_1.O (ko.up (xσ19.trans xσ22_1)) (by decide)).1
      have kp38 : gP σ23_1 th 0 = gP σ22_1 th 0 := (cσ23_1.O (kth.up (xσ19.trans xσ22_1)) (by decide)).2.1
      have kp39 : gP σ23_1 th 7 = gP σ22_1 th 7 := (cσ23_1.O (kth.up (xσ19.trans xσ22_1)) (by decide)).2.1
      have kp40 : gP σ23_1 th 8 = gP σ22_1 th 8 := (cσ23_1.O (kth.up (xσ19.trans xσ22_1)) (by decide)).2.1
      have r5σ23_1 := I_6_5 iσ23_1.1 (kth.up (xσ19.trans (xσ22_1.trans xσ23_1)))
      refine ⟨J, (kp39.trans (kp35.trans (kp13.trans h7))), fun kk_J_1 => ?_⟩
      refine i_X4_emit iσ23_1 (kJ.up (xσ19.trans (xσ22_1.trans xσ23_1))) (by (first | omega | with_reducible assumption | with_reducible exact rng_toInt _ | with_reducible exact rng_wr _ | (unfold rng; omega) | (unfold rng at *; omega) | assumption)) (by (first | omega | with_reducible assumption | with_reducible exact rng_toInt _ | with_reducible exact rng_wr _ | (unfold rng; omega) | (unfold rng at *; omega) | assumption)) (by (first | omega | with_reducible assumption | with_reducible exact rng_toInt _ | with_reducible exact rng_wr _ | (unfold rng; omega) | (unfold rng at *; omega) | assumption)) (by (first | omega | with_reducible assumption | with_reducible exact rng_toInt _ | with_reducible exact rng_wr _ | (unfold rng; omega) | (unfold rng at *; omega) | assumption)) (fun σ24_1 nuσ24_1 r25_1 iσ24_1 cσ24_1 uσ24_1 pσ24_1 => ?_)
      intro xσ24_1
      have fσ24_1 : Fx [261, 262, 263, 386, 387, 388, 389, 390, 6464, 8320] gr σ σ24_1 := fσ23_1.tr (cσ24_1.mo (by decide))
      have nu_σ24_1 : NC nu nuσ24_1 := nu_σ23_1.tr uσ24_1
      have uσ24_1_0 := uσ24_1 0 (by decide) (by decide)
      have uσ24_1_1 := uσ24_1 1 (by decide) (by decide)
      have uσ24_1_2 := uσ24_1 2 (by decide) (by decide)
      have uσ24_1_5 := uσ24_1 5 (by decide) (by decide)
      have uσ24_1_15 := uσ24_1 15 (by decide) (by decide)
      have uσ24_1_16 := uσ24_1 16 (by decide) (by decide)
      have kp41 : gI σ24_1 o 7 = gI σ23_1 o 7 := (cσ24_1.O (ko.up (xσ19.trans (xσ22_1.trans xσ23_1))) (by decide)).1
      have kp42 : gP σ24_1 th 0 = gP σ23_1 th 0 := (cσ24_1.O (kth.up (xσ19.trans (xσ22_1.trans xσ23_1))) (by decide)).2.1
      have kp43 : gP σ24_1 th 7 = gP σ23_1 th 7 := (cσ24_1.O (kth.up (xσ19.trans (xσ22_1.trans xσ23_1))) (by decide)).2.1
      have kp44 : gP σ24_1 th 8 = gP σ23_1 th 8 := (cσ24_1.O (kth.up (xσ19.trans (xσ22_1.trans xσ23_1))) (by decide)).2.1
      have kp45 : gI σ24_1 th 2 = gI σ23_1 th 2 := (cσ24_1.O (kth.up (xσ19.trans (xσ22_1.trans xσ23_1))) (by decide)).1
      have kp46 : gI σ24_1 th 3 = gI σ23_1 th 3 := (cσ24_1.O (kth.up (xσ19.trans (xσ22_1.trans xσ23_1))) (by decide)).1
      have kp47 : gI σ24_1 th 5 = gI σ23_1 th 5 := (cσ24_1.O (kth.up (xσ19.trans (xσ22_1.trans xσ23_1))) (by decide)).1
      exact hQ σ24_1 nuσ24_1 () iσ24_1 fσ24_1 (nu_σ24_1) (by (first | omega | with_reducible assumption | with_reducible exact rng_toInt _ | with_reducible exact rng_wr _ | (unfold rng; omega) | (unfold rng at *; omega) | assumption))
  · rw [if_neg hc6]
    have hc6q := Classical.not_not.mp hc6
    unfold w_X6_prefixed_9
    refine i_X6_isSign iσ kth (fun r17 pσ16 => ?_)
    intro xσ16
    by_cases hc48 : r17 ≠ 0
    · rw [if_pos hc48]
      unfold w_X6_prefixed_24
      refine i_X6_goDeeper iσ kth (by (first | omega | with_reducible assumption | with_reducible exact rng_toInt _ | with_reducible exact rng_wr _ | (unfold rng; omega) | (unfold rng at *; omega) | assumption)) (fun σ19_1 _ iσ19_1 cσ19_1 pσ19_1 => ?_) (fun σx LLx Nx nux E ix cx ux px => hX σx LLx Nx nux E ix (fσ.tr (cx.mo (by decide))) (ux) (by first | exact px | exact ⟨by have := px.1; omega, px.2⟩ | (first | omega | with_reducible assumption | with_reducible exact rng_toInt _ | with_reducible exact rng_wr _ | (unfold rng; omega) | (unfold rng at *; omega) | assumption)))
      intro xσ19_1
      have fσ19_1 : Fx [261, 262, 263, 386, 387, 388, 389, 390, 6464, 8320] gr σ σ19_1 := fσ.tr (cσ19_1.mo (by decide))
      have kp49 : gI σ19_1 J 7 = gI σ J 7 := (cσ19_1.O kJ (by decide)).1
      have kp50 : gI σ19_1 o 7 = gI σ o 7 := (cσ19_1.O ko (by decide)).1
      have kp51 : gI σ19_1 th 2 = gI σ th 2 := (cσ19_1.O kth (by decide)).1
      have kp52 : gI σ19_1 th 3 = gI σ th 3 := (cσ19_1.O kth (by decide)).1
      have kp53 : gI σ19_1 th 5 = gI σ th 5 := (cσ19_1.O kth (by decide)).1
      have kp54 : gP σ19_1 th 0 = gP σ th 0 := (cσ19_1.O kth (by decide)).2.1
      have kp55 : gP σ19_1 th 7 = gP σ th 7 := (cσ19_1.O kth (by decide)).2.1
      have kp56 : gP σ19_1 th 8 = gP σ th 8 := (cσ19_1.O kth (by decide)).2.1
      refine i_X6_isSign iσ19_1 (kth.up xσ19_1) (fun r21_1 pσ20_1 => ?_)
      intro xσ20_1
      by_cases hc57 : r21_1 = 0
      · rw [if_pos hc57]
        unfold w_X6_prefixed_42
        unfold w_X6_prefixed_43
        refine i_X6_next iσ19_1 (kth.up xσ19_1) (kp54.trans hX0) (kX.up xσ19_1) (((xσ19_1) tx kX.1).2.2.trans gX) (by (first | omega | with_reducible assumption | with_reducible exact rng_toInt _ | with_reducible exact rng_wr _ | (unfold rng; omega) | (unfold rng at *; omega) | assumption)) (by (first | omega | with_reducible assumption | with_reducible exact rng_toInt _ | with_reducible exact rng_wr _ | (unfold rng; omega) | (unfold rng at *; omega) | assumption)) (fun σ22_2 _ iσ22_2 cσ22_2 pσ22_2 => ?_) (fun σx LLx Nx nux E ix cx ux px => hX σx LLx Nx nux E ix (fσ19_1.tr (cx.mo (by decide))) (ux) (by first | exact px | exact ⟨by have := px.1; omega, px.2⟩ | (first | omega | with_reducible assumption | with_reducible exact rng_toInt _ | with_reducible exact rng_wr _ | (unfold rng; omega) | (unfold rng at *; omega) | assumption)))
        intro xσ22_2
        have fσ22_2 : Fx [261, 262, 263, 386, 387, 388, 389, 390, 6464, 8320] gr σ σ22_2 := fσ19_1.tr (cσ22_2.mo (by decide))
        have kp58 : gI σ22_2 J 7 = gI σ19_1 J 7 := (cσ22_2.O (kJ.up xσ19_1) (by decide)).1
        have kp59 : gI σ22_2 o 7 = gI σ19_1 o 7 := (cσ22_2.O (ko.up xσ19_1) (by decide)).1
        have kp60 : gP σ22_2 th 0 = gP σ19_1 th 0 := (cσ22_2.O (kth.up xσ19_1) (by decide)).2.1
        have kp61 : gP σ22_2 th 7 = gP σ19_1 th 7 := (cσ22_2.O (kth.up xσ19_1) (by decide)).2.1
        have kp62 : gP σ22_2 th 8 = gP σ19_1 th 8 := (cσ22_2.O (kth.up xσ19_1) (by decide)).2.1
        have r5σ22_2 := I_6_5 iσ22_2.1 (kth.up (xσ19_1.trans xσ22_2))
        refine ⟨by (first | omega | with_reducible assumption | with_reducible exact rng_toInt _ | with_reducible exact rng_wr _ | (unfold rng; omega) | (unfold rng at *; omega) | assumption), ?_⟩
        refine ih2 iσ22_2 (kth.up (xσ19_1.trans xσ22_2)) (kp60.trans (kp54.trans hX0)) (kX.up (xσ19_1.trans xσ22_2)) (((xσ19_1.trans xσ22_2) tx kX.1).2.2.trans gX) (kp61.trans (kp55.trans h7)) (kJ.up (xσ19_1.trans xσ22_2)) (kp62.trans (kp56.trans h8)) (ko.up (xσ19_1.trans xσ22_2)) (by (first | omega | with_reducible assumption | with_reducible exact rng_toInt _ | with_reducible exact rng_wr _ | (unfold rng; omega) | (unfold rng at *; omega) | assumption)) (by (first | omega | with_reducible assumption | with_reducible exact rng_toInt _ | with_reducible exact rng_wr _ | (unfold rng; omega) | (unfold rng at *; omega) | assumption)) (by (first | omega | with_reducible assumption | with_reducible exact rng_toInt _ | with_reducible exact rng_wr _ | (unfold rng; omega) | (unfold rng at *; omega) | assumption)) (by (first | omega | with_reducible assumption | with_reducible exact rng_toInt _ | with_reducible exact rng_wr _ | (unfold rng; omega) | (unfold rng at *; omega) | assumption)) (by (first | omega | with_reducible assumption | with_reducible exact rng_toInt _ | with_reducible exact rng_wr _ | (unfold rng; omega) | (unfold rng at *; omega) | assumption)) (by (first | omega | with_reducible assumption | with_reducible exact rng_toInt _ | with_reducible exact rng_wr _ | (unfold rng; omega) | (unfold rng at *; omega) | assumption)) (by (first | omega | with_reducible assumption | with_reducible exact rng_toInt _ | with_reducible exact rng_wr _ | (unfold rng; omega) | (unfold rng at *; omega) | assumption)) (by (first | omega | with_reducible assumption | with_reducible exact rng_toInt _ | with_reducible exact rng_wr _ | (unfold rng; omega) | (unfold rng at *; omega) | assumption)) (by (first | omega | with_reducible assumption | with_reducible exact rng_toInt _ | with_reducible exact rng_wr _ | (unfold rng; omega) | (unfold rng at *; omega) | assumption)) (fun σ23_2 nuσ23_2 _ iσ23_2 cσ23_2 uσ23_2 pσ23_2 => ?_) (fun σx LLx Nx nux E ix cx ux px => hX σx LLx Nx nux E ix (fσ22_2.tr (cx.mo (by decide))) (ux) (by first | exact px | exact ⟨by have := px.1; omega, px.2⟩ | (first | omega | with_reducible assumption | with_reducible exact rng_toInt _ | with_reducible exact rng_wr _ | (unfold rng; omega) | (unfold rng at *; omega) | assumption)))
        intro xσ23_2
        have fσ23_2 : Fx [261, 262, 263, 386, 387, 388, 389, 390, 6464, 8320] gr σ σ23_2 := fσ22_2.tr (cσ23_2.mo (by decide))
        have nu_σ23_2 : NC nu nuσ23_2 := uσ23_2
        have uσ23_2_0 := uσ23_2 0 (by decide) (by decide)
        have uσ23_2_1 := uσ23_2 1 (by decide) (by decide)
        have uσ23_2_2 := uσ23_2 2 (by decide) (by decide)
        have uσ23_2_5 := uσ23_2 5 (by decide) (by decide)
        have uσ23_2_15 := uσ23_2 15 (by decide) (by decide)
        have uσ23_2_16 := uσ23_2 16 (by decide) (by decide)
        have kp63 : gI σ23_2 o 7 = gI σ22_2 o 7 := (cσ23_2.O (ko.up (xσ19_1.trans xσ22_2)) (by decide)).1
        have kp64 : gP σ23_2 th 0 = gP σ22_2 th 0 := (cσ23_2.O (kth.up (xσ19_1.trans xσ22_2)) (by decide)).2.1
        have kp65 : gP σ23_2 th 7 = gP σ22_2 th 7 := (cσ23_2.O (kth.up (xσ19_1.trans xσ22_2)) (by decide)).2.1
        have kp66 : gP σ23_2 th 8 = gP σ22_2 th 8 := (cσ23_2.O (kth.up (xσ19_1.trans xσ22_2)) (by decide)).2.1
        have r5σ23_2 := I_6_5 iσ23_2.1 (kth.up (xσ19_1.trans (xσ22_2.trans xσ23_2)))
        refine ⟨J, (kp65.trans (kp61.trans (kp55.trans h7))), fun kk_J_2 => ?_⟩
        refine i_X4_emit iσ23_2 (kJ.up (xσ19_1.trans (xσ22_2.trans xσ23_2))) (by (first | omega | with_reducible assumption | with_reducible exact rng_toInt _ | with_reducible exact rng_wr _ | (unfold rng; omega) | (unfold rng at *; omega) | assumption)) (by (first | omega | with_reducible assumption | with_reducible exact rng_toInt _ | with_reducible exact rng_wr _ | (unfold rng; omega) | (unfold rng at *; omega) | assumption)) (by (first | omega | with_reducible assumption | with_reducible exact rng_toInt _ | with_reducible exact rng_wr _ | (unfold rng; omega) | (unfold rng at *; omega) | assumption)) (by (first | omega | with_reducible assumption | with_reducible exact rng_toInt _ | with_reducible exact rng_wr _ | (unfold rng; omega) | (unfold rng at *; omega) | assumption)) (fun σ24_2 nuσ24_2 r25_2 iσ24_2 cσ24_2 uσ24_2 pσ24_2 => ?_)
        intro xσ24_2
        have fσ24_2 : Fx [261, 262, 263, 386, 387, 388, 389, 390, 6464, 8320] gr σ σ24_2 := fσ23_2.tr (cσ24_2.mo (by decide))
        have nu_σ24_2 : NC nu nuσ24_2 := nu_σ23_2.tr uσ24_2
        have uσ24_2_0 := uσ24_2 0 (by decide) (by decide)
        have uσ24_2_1 := uσ24_2 1 (by decide) (by decide)
        have uσ24_2_2 := uσ24_2 2 (by decide) (by decide)
        have uσ24_2_5 := uσ24_2 5 (by decide) (by decide)
        have uσ24_2_15 := uσ24_2 15 (by decide) (by decide)
        have uσ24_2_16 := uσ24_2 16 (by decide) (by decide)
        have kp67 : gI σ24_2 o 7 = gI σ23_2 o 7 := (cσ24_2.O (ko.up (xσ19_1.trans (xσ22_2.trans xσ23_2))) (by decide)).1
        have kp68 : gP σ24_2 th 0 = gP σ23_2 th 0 := (cσ24_2.O (kth.up (xσ19_1.trans (xσ22_2.trans xσ23_2))) (by decide)).2.1
        have kp69 : gP σ24_2 th 7 = gP σ23_2 th 7 := (cσ24_2.O (kth.up (xσ19_1.trans (xσ22_2.trans xσ23_2))) (by decide)).2.1
        have kp70 : gP σ24_2 th 8 = gP σ23_2 th 8 := (cσ24_2.O (kth.up (xσ19_1.trans (xσ22_2.trans xσ23_2))) (by decide)).2.1
        have kp71 : gI σ24_2 th 2 = gI σ23_2 th 2 := (cσ24_2.O (kth.up (xσ19_1.trans (xσ22_2.trans xσ23_2))) (by decide)).1
        have kp72 : gI σ24_2 th 3 = gI σ23_2 th 3 := (cσ24_2.O (kth.up (xσ19_1.trans (xσ22_2.trans xσ23_2))) (by decide)).1
        have kp73 : gI σ24_2 th 5 = gI σ23_2 th 5 := (cσ24_2.O (kth.up (xσ19_1.trans (xσ22_2.trans xσ23_2))) (by decide)).1
        exact hQ σ24_2 nuσ24_2 () iσ24_2 fσ24_2 (nu_σ24_2) (by (first | omega | with_reducible assumption | with_reducible exact rng_toInt _ | with_reducible exact rng_wr _ | (unfold rng; omega) | (unfold rng at *; omega) | assumption))
      · rw [if_neg hc57]
        unfold w_X6_prefixed_38
        unfold w_X6_prefixed_43
        refine i_X6_next iσ19_1 (kth.up xσ19_1) (kp54.trans hX0) (kX.up xσ19_1) (((xσ19_1) tx kX.1).2.2.trans gX) (by (first | omega | with_reducible assumption | with_reducible exact rng_toInt _ | with_reducible exact rng_wr _ | (unfold rng; omega) | (unfold rng at *; omega) | assumption)) (by (first | omega | with_reducible assumption | with_reducible exact rng_toInt _ | with_reducible exact rng_wr _ | (unfold rng; omega) | (unfold rng at *; omega) | assumption)) (fun σ22_3 _ iσ22_3 cσ22_3 pσ22_3 => ?_) (fun σx LLx Nx nux E ix cx ux px => hX σx LLx Nx nux E ix (fσ19_1.tr (cx.mo (by decide))) (ux) (by first | exact px | exact ⟨by have := px.1; omega, px.2⟩ | (first | omega | with_reducible assumption | with_reducible exact rng_toInt _ | with_reducible exact rng_wr _ | (unfold rng; omega) | (unfold rng at *; omega) | assumption)))
        intro xσ22_3
        have fσ22_3 : Fx [261, 262, 263, 386, 387, 388, 389, 390, 6464, 8320] gr σ σ22_3 := fσ19_1.tr (cσ22_3.mo (by decide))
        have kp74 : gI σ22_3 J 7 = gI σ19_1 J 7 := (cσ22_3.O (kJ.up xσ19_1) (by decide)).1
        have kp75 : gI σ22_3 o 7 = gI σ19_1 o 7 := (cσ22_3.O (ko.up xσ19_1) (by decide)).1
        have kp76 : gP σ22_3 th 0 = gP σ19_1 th 0 := (cσ22_3.O (kth.up xσ19_1) (by decide)).2.1
        have kp77 : gP σ22_3 th 7 = gP σ19_1 th 7 := (cσ22_3.O (kth.up xσ19_1) (by decide)).2.1
        have kp78 : gP σ22_3 th 8 = gP σ19_1 th 8 := (cσ22_3.O (kth.up xσ19_1) (by decide)).2.1
        have r5σ22_3 := I_6_5 iσ22_3.1 (kth.up (xσ19_1.trans xσ22_3))
        refine ⟨by (first | omega | with_reducible assumption | with_reducible exact rng_toInt _ | with_reducible exact rng_wr _ | (unfold rng; omega) | (unfold rng at *; omega) | assumption), ?_⟩
        refine ih2 iσ22_3 (kth.up (xσ19_1.trans xσ22_3)) (kp76.trans (kp54.trans hX0)) (kX.up (xσ19_1.trans xσ22_3)) (((xσ19_1.trans xσ22_3) tx kX.1).2.2.trans gX) (kp77.trans (kp55.trans h7)) (kJ.up (xσ19_1.trans xσ22_3)) (kp78.trans (kp56.trans h8)) (ko.up (xσ19_1.trans xσ22_3)) (by (first | omega | with_reducible assumption | with_reducible exact rng_toInt _ | with_reducible exact rng_wr _ | (unfold rng; omega) | (unfold rng at *; omega) | assumption)) (by (first | omega | with_reducible assumption | with_reducible exact rng_toInt _ | with_reducible exact rng_wr _ | (unfold rng; omega) | (unfold rng at *; omega) | assumption)) (by (first | omega | with_reducible assumption | with_reducible exact rng_toInt _ | with_reducible exact rng_wr _ | (unfold rng; omega) | (unfold rng at *; omega) | assumption)) (by (first | omega | with_reducible assumption | with_reducible exact rng_toInt _ | with_reducible exact rng_wr _ | (unfold rng; omega) | (unfold rng at *; omega) | assumption)) (by (first | omega | with_reducible assumption | with_reducible exact rng_toInt _ | with_reducible exact rng_wr _ | (unfold rng; omega) | (unfold rng at *; omega) | assumption)) (by (first | omega | with_reducible assumption | with_reducible exact rng_toInt _ | with_reducible exact rng_wr _ | (unfold rng; omega) | (unfold rng at *; omega) | assumption)) (by (first | omega | with_reducible assumption | with_reducible exact rng_toInt _ | with_reducible exact rng_wr _ | (unfold rng; omega) | (unfold rng at *; omega) | assumption)) (by (first | omega | with_reducible assumption | with_reducible exact rng_toInt _ | with_reducible exact rng_wr _ | (unfold rng; omega) | (unfold rng at *; omega) | assumption)) (by (first | omega | with_reducible assumption | with_reducible exact rng_toInt _ | with_reducible exact rng_wr _ | (unfold rng; omega) | (unfold rng at *; omega) | assumption)) (fun σ23_3 nuσ23_3 _ iσ23_3 cσ23_3 uσ23_3 pσ23_3 => ?_) (fun σx LLx Nx nux E ix cx ux px => hX σx LLx Nx nux E ix (fσ22_3.tr (cx.mo (by decide))) (ux) (by first | exact px | exact ⟨by have := px.1; omega, px.2⟩ | (first | omega | with_reducible assumption | with_reducible exact rng_toInt _ | with_reducible exact rng_wr _ | (unfold rng; omega) | (unfold rng at *; omega) | assumption)))
        intro xσ23_3
        have fσ23_3 : Fx [261, 262, 263, 386, 387, 388, 389, 390, 6464, 8320] gr σ σ23_3 := fσ22_3.tr (cσ23_3.mo (by decide))
        have nu_σ23_3 : NC nu nuσ23_3 := uσ23_3
        have uσ23_3_0 := uσ23_3 0 (by decide) (by decide)
        have uσ23_3_1 := uσ23_3 1 (by decide) (by decide)
        have uσ23_3_2 := uσ23_3 2 (by decide) (by decide)
        have uσ23_3_5 := uσ23_3 5 (by decide) (by decide)
        have uσ23_3_15 := uσ23_3 15 (by decide) (by decide)
        have uσ23_3_16 := uσ23_3 16 (by decide) (by decide)
        have kp79 : gI σ23_3 o 7 = gI σ22_3 o 7 := (cσ23_3.O (ko.up (xσ19_1.trans xσ22_3)) (by decide)).1
        have kp80 : gP σ23_3 th 0 = gP σ22_3 th 0 := (cσ23_3.O (kth.up (xσ19_1.trans xσ22_3)) (by decide)).2.1
        have kp81 : gP σ23_3 th 7 = gP σ22_3 th 7 := (cσ23_3.O (kth.up (xσ19_1.trans xσ22_3)) (by decide)).2.1
        have kp82 : gP σ23_3 th 8 = gP σ22_3 th 8 := (cσ23_3.O (kth.up (xσ19_1.trans xσ22_3)) (by decide)).2.1
        have r5σ23_3 := I_6_5 iσ23_3.1 (kth.up (xσ19_1.trans (xσ22_3.trans xσ23_3)))
        refine ⟨J, (kp81.trans (kp77.trans (kp55.trans h7))), fun kk_J_3 => ?_⟩
        refine i_X4_emit iσ23_3 (kJ.up (xσ19_1.trans (xσ22_3.trans xσ23_3))) (by (first | omega | with_reducible assumption | with_reducible exact rng_toInt _ | with_reducible exact rng_wr _ | (unfold rng; omega) | (unfold rng at *; omega) | assumption)) (by (first | omega | with_reducible assumption | with_reducible exact rng_toInt _ | with_reducible exact rng_wr _ | (unfold rng; omega) | (unfold rng at *; omega) | assumption)) (by (first | omega | with_reducible assumption | with_reducible exact rng_toInt _ | with_reducible exact rng_wr _ | (unfold rng; omega) | (unfold rng at *; omega) | assumption)) (by (first | omega | with_reducible assumption | with_reducible exact rng_toInt _ | with_reducible exact rng_wr _ | (unfold rng; omega) | (unfold rng at *; omega) | assumption)) (fun σ24_3 nuσ24_3 r25_3 iσ24_3 cσ24_3 uσ24_3 pσ24_3 => ?_)
        intro xσ24_3
        have fσ24_3 : Fx [261, 262, 263, 386, 387, 388, 389, 390, 6464, 8320] gr σ σ24_3 := fσ23_3.tr (cσ24_3.mo (by decide))
        have nu_σ24_3 : NC nu nuσ24_3 := nu_σ23_3.tr uσ24_3
        have uσ24_3_0 := uσ24_3 0 (by decide) (by decide)
        have uσ24_3_1 := uσ24_3 1 (by decide) (by decide)
        have uσ24_3_2 := uσ24_3 2 (by decide) (by decide)
        have uσ24_3_5 := uσ24_3 5 (by decide) (by decide)
        have uσ24_3_15 := uσ24_3 15 (by decide) (by decide)
        have uσ24_3_16 := uσ24_3 16 (by decide) (by decide)
        have kp83 : gI σ24_3 o 7 = gI σ23_3 o 7 := (cσ24_3.O (ko.up (xσ19_1.trans (xσ22_3.trans xσ23_3))) (by decide)).1
        have kp84 : gP σ24_3 th 0 = gP σ23_3 th 0 := (cσ24_3.O (kth.up (xσ19_1.trans (xσ22_3.trans xσ23_3))) (by decide)).2.1
        have kp85 : gP σ24_3 th 7 = gP σ23_3 th 7 := (cσ24_3.O (kth.up (xσ19_1.trans (xσ22_3.trans xσ23_3))) (by decide)).2.1
        have kp86 : gP σ24_3 th 8 = gP σ23_3 th 8 := (cσ24_3.O (kth.up (xσ19_1.trans (xσ22_3.trans xσ23_3))) (by decide)).2.1
        have kp87 : gI σ24_3 th 2 = gI σ23_3 th 2 := (cσ24_3.O (kth.up (xσ19_1.trans (xσ22_3.trans xσ23_3))) (by decide)).1
        have kp88 : gI σ24_3 th 3 = gI σ23_3 th 3 := (cσ24_3.O (kth.up (xσ19_1.trans (xσ22_3.trans xσ23_3))) (by decide)).1
        have kp89 : gI σ24_3 th 5 = gI σ23_3 th 5 := (cσ24_3.O (kth.up (xσ19_1.trans (xσ22_3.trans xσ23_3))) (by decide)).1
        exact hQ σ24_3 nuσ24_3 () iσ24_3 fσ24_3 (nu_σ24_3) (by (first | omega | with_reducible assumption | with_reducible exact rng_toInt _ | with_reducible exact rng_wr _ | (unfold rng; omega) | (unfold rng at *; omega) | assumption))
    · rw [if_neg hc48]
      have hc48q := Classical.not_not.mp hc48
      unfold w_X6_prefixed_18
      refine ih3 iσ kth hX0 kX (((Ext.rfl' _) tx kX.1).2.2.trans gX) h7 kJ h8 ko (by (first | omega | with_reducible assumption | with_reducible exact rng_toInt _ | with_reducible exact rng_wr _ | (unfold rng; omega) | (unfold rng at *; omega) | assumption)) (by (first | omega | with_reducible assumption | with_reducible exact rng_toInt _ | with_reducible exact rng_wr _ | (unfold rng; omega) | (unfold rng at *; omega) | assumption)) (by (first | omega | with_reducible assumption | with_reducible exact rng_toInt _ | with_reducible exact rng_wr _ | (unfold rng; omega) | (unfold rng at *; omega) | assumption)) (by (first | omega | with_reducible assumption | with_reducible exact rng_toInt _ | with_reducible exact rng_wr _ | (unfold rng; omega) | (unfold rng at *; omega) | assumption)) (by (first | omega | with_reducible assumption | with_reducible exact rng_toInt _ | with_reducible exact rng_wr _ | (unfold rng; omega) | (unfold rng at *; omega) | assumption)) (by (first | omega | with_reducible assumption | with_reducible exact rng_toInt _ | with_reducible exact rng_wr _ | (unfold rng; omega) | (unfold rng at *; omega) | assumption)) (by (first | omega | with_reducible assumption | with_reducible exact rng_toInt _ | with_reducible exact rng_wr _ | (unfold rng; omega) | (unfold rng at *; omega) | assumption)) (by (first | omega | with_reducible assumption | with_reducible exact rng_toInt _ | with_reducible exact rng_wr _ | (unfold rng; omega) | (unfold rng at *; omega) | assumption)) (by (first | omega | with_reducible assumption | with_reducible exact rng_toInt _ | with_reducible exact rng_wr _ | (unfold rng; omega) | (unfold rng at *; omega) | assumption)) (fun σ18 nuσ18 _ iσ18 cσ18 uσ18 pσ18 => ?_) (fun σx LLx Nx nux E ix cx ux px => hX σx LLx Nx nux E ix (fσ.tr (cx.mo (by decide))) (ux) (by first | exact px | exact ⟨by have := px.1; omega, px.2⟩ | (first | omega | with_reducible assumption | with_reducible exact rng_toInt _ | with_reducible exact rng_wr _ | (unfold rng; omega) | (unfold rng at *; omega) | assumption)))
      intro xσ18
      have fσ18 : Fx [261, 262, 263, 386, 387, 388, 389, 390, 6464, 8320] gr σ σ18 := fσ.tr (cσ18.mo (by decide))
      have nu_σ18 : NC nu nuσ18 := uσ18
      have uσ18_0 := uσ18 0 (by decide) (by decide)
      have uσ18_1 := uσ18 1 (by decide) (by decide)
      have uσ18_2 := uσ18 2 (by decide) (by decide)
      have uσ18_5 := uσ18 5 (by decide) (by decide)
      have uσ18_15 := uσ18 15 (by decide) (by decide)
      have uσ18_16 := uσ18 16 (by decide) (by decide)
      have kp90 : gI σ18 o 7 = gI σ o 7 := (cσ18.O ko (by decide)).1
      have kp91 : gP σ18 th 0 = gP σ th 0 := (cσ18.O kth (by decide)).2.1
      have kp92 : gP σ18 th 7 = gP σ th 7 := (cσ18.O kth (by decide)).2.1
      have kp93 : gP σ18 th 8 = gP σ th 8 := (cσ18.O kth (by decide)).2.1
      have r5σ18 := I_6_5 iσ18.1 (kth.up xσ18)
      exact hQ σ18 nuσ18 () iσ18 fσ18 (nu_σ18) (by (first | omega | with_reducible assumption | with_reducible exact rng_toInt _ | with_reducible exact rng_wr _ | (unfold rng; omega) | (unfold rng at *; omega) | assumption))
set_option maxHeartbeats 1000000 in
theorem s_X6_atom {pl : Nat} {gq ci gr nc : Nat → Nat} {ot : Nat → Nat → Int} {LL : Nat → List Nat} {N : Nat → Nat} {th tx J o q c n : Nat} (ih0 : RC0 pl gq ci gr nc ot LL N th tx J o q c n) (ih1 : RC1 pl gq ci gr nc ot LL N th tx J o q c n) (ih2 : RC2 pl gq ci gr nc ot LL N th tx J o q c n) (ih3 : RC3 pl gq ci gr nc ot LL N th tx J o q c n) : RC3 pl gq ci gr nc ot LL N th tx J o q c (n + 1) := by
  intro σ nu v1 v2 iσ kth hX0 kX gX h7 kJ h8 ko hJq hq go hc tf h5 lp ho7 nd Q X hQ hX
  have fσ : Fx [261, 262, 263, 386, 387, 388, 389, 390, 6464, 8320] gr σ σ := Fx.rf
  have q1 := I_6_5 iσ.1 kth
  have q2 := I_6_2 iσ.1 kth
  have q3 := iσ.rg th 3; unfold rng at q3
  have q4 := I_4_7 iσ.1 kJ
  have q5 := I_5_7 iσ.1 ko
  have ncb := iσ.ncb
  have r50 := I_6_5 iσ.1 kth
  have r70 := I_4_7 iσ.1 kJ
  show w_X6_atom_0 th (wrecC th n) Q X σ v1
  unfold w_X6_atom_0
  refine i_X6_isSign iσ kth (fun r24 pσ23 => ?_)
  intro xσ23
  by_cases hc6 : r24 = 0
  · rw [if_pos hc6]
    unfold w_X6_atom_32
    by_cases hc7 : gI σ th 3 ≠ 4
    · rw [if_pos hc7]
      unfold w_X6_atom_56
      refine i_X6_isWord iσ kth (fun r34 pσ33 => ?_)
      intro xσ33
      by_cases hc8 : r34 = 0
      · rw [if_pos hc8]
        unfold w_X6_atom_78
        refine ⟨J, h7, fun kk_J => ?_⟩
        refine ⟨o, h8, fun kk_o => ?_⟩
        obtain ⟨b, eb, fb⟩ := P_4_0 iσ.1 kJ
        have mb : kO σ b 115 := iσ.1.kd kJ rfl eb rfl
        refine ⟨b, eb, fun kk_b => ?_⟩
        refine ⟨⟨by (first | omega | with_reducible assumption | with_reducible exact rng_toInt _ | with_reducible exact rng_wr _ | (unfold rng; omega) | (unfold rng at *; omega) | assumption), by (first | omega | with_reducible assumption | with_reducible exact rng_toInt _ | with_reducible exact rng_wr _ | (unfold rng; omega) | (unfold rng at *; omega) | assumption)⟩, ?_⟩
        obtain ⟨b_1, eb_1⟩ := P_115 iσ.1 mb (k := (gI σ o 7).toNat) (by (first | omega | with_reducible assumption | with_reducible exact rng_toInt _ | with_reducible exact rng_wr _ | (unfold rng; omega) | (unfold rng at *; omega) | assumption))
        have fb_1 := T_115 iσ.1 mb eb_1
        have mb_1 : kO σ b_1 5 := iσ.1.kd mb rfl eb_1 rfl
        refine i_X6_column iσ kth eb_1 mb_1 (by (first | omega | with_reducible assumption | with_reducible exact rng_toInt _ | with_reducible exact rng_wr _ | (unfold rng; omega) | (unfold rng at *; omega) | assumption)) (fun σ41 r42 iσ41 cσ41 pσ41 => ?_) (fun σx LLx Nx nux E ix cx ux px => hX σx LLx Nx nux E ix (fσ.tr (cx.mo (by decide))) (ux) (by first | exact px | exact ⟨by have := px.1; omega, px.2⟩ | (first | omega | with_reducible assumption | with_reducible exact rng_toInt _ | with_reducible exact rng_wr _ | (unfold rng; omega) | (unfold rng at *; omega) | assumption)))
        intro xσ41
        have fσ41 : Fx [261, 262, 263, 386, 387, 388, 389, 390, 6464, 8320] gr σ σ41 := fσ.tr (cσ41.mo (by decide))
        have kp9 : gI σ41 J 7 = gI σ J 7 := (cσ41.O kJ (by decide)).1
        have kp10 : gI σ41 o 7 = gI σ o 7 := (cσ41.O ko (by decide)).1
        have kp11 : gI σ41 th 2 = gI σ th 2 := (cσ41.O kth (by decide)).1
        have kp12 : gI σ41 th 3 = gI σ th 3 := (cσ41.O kth (by decide)).1
        have kp13 : gI σ41 th 5 = gI σ th 5 := (cσ41.O kth (by decide)).1
        have kp14 : gP σ41 J 0 = gP σ J 0 := (cσ41.O kJ (by decide)).2.1
        have kp15 : gP σ41 b (gI σ o 7).toNat = gP σ b (gI σ o 7).toNat := (cσ41.A mb (by decide)).2.1
        have kp16 : gP σ41 th 0 = gP σ th 0 := (cσ41.O kth (by decide)).2.1
        have kp17 : gP σ41 th 7 = gP σ th 7 := (cσ41.O kth (by decide)).2.1
        have kp18 : gP σ41 th 8 = gP σ th 8 := (cσ41.O kth (by decide)).2.1
        refine i_X4_emit iσ41 (kJ.up xσ41) (by (first | omega | with_reducible assumption | with_reducible exact rng_toInt _ | with_reducible exact rng_wr _ | (unfold rng; omega) | (unfold rng at *; omega) | assumption)) (by (first | omega | with_reducible assumption | with_reducible exact rng_toInt _ | with_reducible exact rng_wr _ | (unfold rng; omega) | (unfold rng at *; omega) | assumption)) (by (first | omega | with_reducible assumption | with_reducible exact rng_toInt _ | with_reducible exact rng_wr _ | (unfold rng; omega) | (unfold rng at *; omega) | assumption)) (by (first | omega | with_reducible assumption | with_reducible exact rng_toInt _ | with_reducible exact rng_wr _ | (unfold rng; omega) | (unfold rng at *; omega) | assumption)) (fun σ43 nuσ43 r44 iσ43 cσ43 uσ43 pσ43 => ?_)
        intro xσ43
        have fσ43 : Fx [261, 262, 263, 386, 387, 388, 389, 390, 6464, 8320] gr σ σ43 := fσ41.tr (cσ43.mo (by decide))
        have nu_σ43 : NC nu nuσ43 := uσ43
        have uσ43_0 := uσ43 0 (by decide) (by decide)
        have uσ43_1 := uσ43 1 (by decide) (by decide)
        have uσ43_2 := uσ43 2 (by decide) (by decide)
        have uσ43_5 := uσ43 5 (by decide) (by decide)
        have uσ43_15 := uσ43 15 (by decide) (by decide)
        have uσ43_16 := uσ43 16 (by decide) (by decide)
        have kp19 : gI σ43 o 7 = gI σ41 o 7 := (cσ43.O (ko.up xσ41) (by decide)).1
        have kp20 : gI σ43 th 2 = gI σ41 th 2 := (cσ43.O (kth.up xσ41) (by decide)).1
        have kp21 : gI σ43 th 3 = gI σ41 th 3 := (cσ43.O (kth.up xσ41) (by decide)).1
        have kp22 : gI σ43 th 5 = gI σ41 th 5 := (cσ43.O (kth.up xσ41) (by decide)).1
        have kp23 : gP σ43 J 0 = gP σ41 J 0 := (cσ43.O (kJ.up xσ41) (by decide)).2.1
        have kp24 : gP σ43 b (gI σ o 7).toNat = gP σ41 b (gI σ o 7).toNat := (cσ43.A (mb.up xσ41) (by decide)).2.1
        have kp25 : gP σ43 th 0 = gP σ41 th 0 := (cσ43.O (kth.up xσ41) (by decide)).2.1
        have kp26 : gP σ43 th 7 = gP σ41 th 7 := (cσ43.O (kth.up xσ41) (by decide)).2.1
        have kp27 : gP σ43 th 8 = gP σ41 th 8 := (cσ43.O (kth.up xσ41) (by decide)).2.1
        unfold w_X6_atom_107
        refine i_X6_next iσ43 (kth.up (xσ41.trans xσ43)) (kp25.trans (kp16.trans hX0)) (kX.up (xσ41.trans xσ43)) (((xσ41.trans xσ43) tx kX.1).2.2.trans gX) (by (first | omega | with_reducible assumption | with_reducible exact rng_toInt _ | with_reducible exact rng_wr _ | (unfold rng; omega) | (unfold rng at *; omega) | assumption)) (by (first | omega | with_reducible assumption | with_reducible exact rng_toInt _ | with_reducible exact rng_wr _ | (unfold rng; omega) | (unfold rng at *; omega) | assumption)) (fun σ32 _ iσ32 cσ32 pσ32 => ?_) (fun σx LLx Nx nux E ix cx ux px => hX σx LLx Nx nux E ix (fσ43.tr (cx.mo (by decide))) (nu_σ43.x ux) (by first | exact px | exact ⟨by have := px.1; omega, px.2⟩ | (first | omega | with_reducible assumption | with_reducible exact rng_toInt _ | with_reducible exact rng_wr _ | (unfold rng; omega) | (unfold rng at *; omega) | assumption)))
        intro xσ32
        have fσ32 : Fx [261, 262, 263, 386, 387, 388, 389, 390, 6464, 8320] gr σ σ32 := fσ43.tr (cσ32.mo (by decide))
        have kp28 : gI σ32 o 7 = gI σ43 o 7 := (cσ32.O (ko.up (xσ41.trans xσ43)) (by decide)).1
        have kp29 : gP σ32 J 0 = gP σ43 J 0 := (cσ32.O (kJ.up (xσ41.trans xσ43)) (by decide)).2.1
        have kp30 : gP σ32 b (gI σ o 7).toNat = gP σ43 b (gI σ o 7).toNat := (cσ32.A (mb.up (xσ41.trans xσ43)) (by decide)).2.1
        have kp31 : gP σ32 th 0 = gP σ43 th 0 := (cσ32.O (kth.up (xσ41.trans xσ43)) (by decide)).2.1
        have kp32 : gP σ32 th 7 = gP σ43 th 7 := (cσ32.O (kth.up (xσ41.trans xσ43)) (by decide)).2.1
        have kp33 : gP σ32 th 8 = gP σ43 th 8 := (cσ32.O (kth.up (xσ41.trans xσ43)) (by decide)).2.1
        have kp34 : gI σ32 J 7 = gI σ43 J 7 := (cσ32.O (kJ.up (xσ41.trans xσ43)) (by decide)).1
        have r5σ32 := I_6_5 iσ32.1 (kth.up (xσ41.trans (xσ43.trans xσ32)))
        exact hQ σ32 nuσ43 () iσ32 fσ32 (nu_σ43) (by (first | omega | with_reducible assumption | with_reducible exact rng_toInt _ | with_reducible exact rng_wr _ | (unfold rng; omega) | (unfold rng at *; omega) | assumption))
      · rw [if_neg hc8]
        unfold w_X6_atom_65
        refine ⟨J, h7, fun kk_J_1 => ?_⟩
        refine i_X4_emit iσ kJ (by (first | omega | with_reducible assumption | with_reducible exact rng_toInt _ | with_reducible exact rng_wr _ | (unfold rng; omega) | (unfold rng at *; omega) | assumption)) (by (first | omega | with_reducible assumption | with_reducible exact rng_toInt _ | with_reducible exact rng_wr _ | (unfold rng; omega) | (unfold rng at *; omega) | assumption)) (by (first | omega | with_reducible assumption | with_reducible exact rng_toInt _ | with_reducible exact rng_wr _ | (unfold rng; omega) | (unfold rng at *; omega) | assumption)) (by (first | omega | with_reducible assumption | with_reducible exact rng_toInt _ | with_reducible exact rng_wr _ | (unfold rng; omega) | (unfold rng at *; omega) | assumption)) (fun σ35 nuσ35 r36 iσ35 cσ35 uσ35 pσ35 => ?_)
        intro xσ35
        have fσ35 : Fx [261, 262, 263, 386, 387, 388, 389, 390, 6464, 8320] gr σ σ35 := fσ.tr (cσ35.mo (by decide))
        have nu_σ35 : NC nu nuσ35 := uσ35
        have uσ35_0 := uσ35 0 (by decide) (by decide)
        have uσ35_1 := uσ35 1 (by decide) (by decide)
        have uσ35_2 := uσ35 2 (by decide) (by decide)
        have uσ35_5 := uσ35 5 (by decide) (by decide)
        have uσ35_15 := uσ35 15 (by decide) (by decide)
        have uσ35_16 := uσ35 16 (by decide) (by decide)
        have kp35 : gI σ35 o 7 = gI σ o 7 := (cσ35.O ko (by decide)).1
        have kp36 : gI σ35 th 2 = gI σ th 2 := (cσ35.O kth (by decide)).1
        have kp37 : gI σ35 th 3 = gI σ th 3 := (cσ35.O kth (by decide)).1
        have kp38 : gI σ35 th 5 = gI σ th 5 := (cσ35.O kth (by decide)).1
        have kp39 : gP σ35 th 0 = gP σ th 0 := (cσ35.O kth (by decide)).2.1
        have kp40 : gP σ35 th 7 = gP σ th 7 := (cσ35.O kth (by decide)).2.1
        have kp41 : gP σ35 th 8 = gP σ th 8 := (cσ35.O kth (by decide)).2.1
        unfold w_X6_atom_107
        refine i_X6_next iσ35 (kth.up xσ35) (kp39.trans hX0) (kX.up xσ35) (((xσ35) tx kX.1).2.2.trans gX) (by (first | omega | with_reducible assumption | with_reducible exact rng_toInt _ | with_reducible exact rng_wr _ | (unfold rng; omega) | (unfold rng at *; omega) | assumption)) (by (first | omega | with_reducible assumption | with_reducible exact rng_toInt _ | with_reducible exact rng_wr _ | (unfold rng; omega) | (unfold rng at *; omega) | assumption)) (fun σ32_1 _ iσ32_1 cσ32_1 pσ32_1 => ?_) (fun σx LLx Nx nux E ix cx ux px => hX σx LLx Nx nux E ix (fσ35.tr (cx.mo (by decide))) (nu_σ35.x ux) (by first | exact px | exact ⟨by have := px.1; omega, px.2⟩ | (first | omega | with_reducible assumption | with_reducible exact rng_toInt _ | with_reducible exact rng_wr _ | (unfold rng; omega) | (unfold rng at *; omega) | assumption)))
        intro xσ32_1
        have fσ32_1 : Fx [261, 262, 263, 386, 387, 388, 389, 390, 6464, 8320] gr σ σ32_1 := fσ35.tr (cσ32_1.mo (by decide))
        have kp42 : gI σ32_1 o 7 = gI σ35 o 7 := (cσ32_1.O (ko.up xσ35) (by decide)).1
        have kp43 : gP σ32_1 th 0 = gP σ35 th 0 := (cσ32_1.O (kth.up xσ35) (by decide)).2.1
        have kp44 : gP σ32_1 th 7 = gP σ35 th 7 := (cσ32_1.O (kth.up xσ35) (by decide)).2.1
        have kp45 : gP σ32_1 th 8 = gP σ35 th 8 := (cσ32_1.O (kth.up xσ35) (by decide)).2.1
        have kp46 : gI σ32_1 J 7 = gI σ35 J 7 := (cσ32_1.O (kJ.up xσ35) (by decide)).1
        have r5σ32_1 := I_6_5 iσ32_1.1 (kth.up (xσ35.trans xσ32_1))
        exact hQ σ32_1 nuσ35 () iσ32_1 fσ32_1 (nu_σ35) (by (first | omega | with_reducible assumption | with_reducible exact rng_toInt _ | with_reducible exact rng_wr _ | (unfold rng; omega) | (unfold rng at *; omega) | assumption))
    · rw [if_neg hc7]
      have hc7q := Classical.not_not.mp hc7
      unfold w_X6_atom_40
      refine ⟨J, h7, fun kk_J_2 => ?_⟩
      refine i_X4_emit iσ kJ (by (first | omega | with_reducible assumption | with_reducible exact rng_toInt _ | with_reducible exact rng_wr _ | (unfold rng; omega) | (unfold rng at *; omega) | assumption)) (by (first | omega | with_reducible assumption | with_reducible exact rng_toInt _ | with_reducible exact rng_wr _ | (unfold rng; omega) | (unfold rng at *; omega) | assumption)) (by (first | omega | with_reducible assumption | with_reducible exact rng_toInt _ | with_reducible exact rng_wr _ | (unfold rng; omega) | (unfold rng at *; omega) | assumption)) (by (first | omega | with_reducible assumption | with_reducible exact rng_toInt _ | with_reducible exact rng_wr _ | (unfold rng; omega) | (unfold rng at *; omega) | assumption)) (fun σ29 nuσ29 r30 iσ29 cσ29 uσ29 pσ29 => ?_)
      intro xσ29
      have fσ29 : Fx [261, 262, 263, 386, 387, 388, 389, 390, 6464, 8320] gr σ σ29 := fσ.tr (cσ29.mo (by decide))
      have nu_σ29 : NC nu nuσ29 := uσ29
      have uσ29_0 := uσ29 0 (by decide) (by decide)
      have uσ29_1 := uσ29 1 (by decide) (by decide)
      have uσ29_2 := uσ29 2 (by decide) (by decide)
      have uσ29_5 := uσ29 5 (by decide) (by decide)
      have uσ29_15 := uσ29 15 (by decide) (by decide)
      have uσ29_16 := uσ29 16 (by decide) (by decide)
      have kp47 : gI σ29 o 7 = gI σ o 7 := (cσ29.O ko (by decide)).1
      have kp48 : gI σ29 th 2 = gI σ th 2 := (cσ29.O kth (by decide)).1
      have kp49 : gI σ29 th 3 = gI σ th 3 := (cσ29.O kth (by decide)).1
      have kp50 : gI σ29 th 5 = gI σ th 5 := (cσ29.O kth (by decide)).1
      have kp51 : gP σ29 th 0 = gP σ th 0 := (cσ29.O kth (by decide)).2.1
      have kp52 : gP σ29 th 7 = gP σ th 7 := (cσ29.O kth (by decide)).2.1
      have kp53 : gP σ29 th 8 = gP σ th 8 := (cσ29.O kth (by decide)).2.1
      unfold w_X6_atom_107
      refine i_X6_next iσ29 (kth.up xσ29) (kp51.trans hX0) (kX.up xσ29) (((xσ29) tx kX.1).2.2.trans gX) (by (first | omega | with_reducible assumption | with_reducible exact rng_toInt _ | with_reducible exact rng_wr _ | (unfold rng; omega) | (unfold rng at *; omega) | assumption)) (by (first | omega | with_reducible assumption | with_reducible exact rng_toInt _ | with_reducible exact rng_wr _ | (unfold rng; omega) | (unfold rng at *; omega) | assumption)) (fun σ32_2 _ iσ32_2 cσ32_2 pσ32_2 => ?_) (fun σx LLx Nx nux E ix cx ux px => hX σx LLx Nx nux E ix (fσ29.tr (cx.mo (by decide))) (nu_σ29.x ux) (by first | exact px | exact ⟨by have := px.1; omega, px.2⟩ | (first | omega | with_reducible assumption | with_reducible exact rng_toInt _ | with_reducible exact rng_wr _ | (unfold rng; omega) | (unfold rng at *; omega) | assumption)))
      intro xσ32_2
      have fσ32_2 : Fx [261, 262, 263, 386, 387, 388, 389, 390, 6464, 8320] gr σ σ32_2 := fσ29.tr (cσ32_2.mo (by decide))
      have kp54 : gI σ32_2 o 7 = gI σ29 o 7 := (cσ32_2.O (ko.up xσ29) (by decide)).1
      have kp55 : gP σ32_2 th 0 = gP σ29 th 0 := (cσ32_2.O (kth.up xσ29) (by decide)).2.1
      have kp56 : gP σ32_2 th 7 = gP σ29 th 7 := (cσ32_2.O (kth.up xσ29) (by decide)).2.1
      have kp57 : gP σ32_2 th 8 = gP σ29 th 8 := (cσ32_2.O (kth.up xσ29) (by decide)).2.1
      have kp58 : gI σ32_2 J 7 = gI σ29 J 7 := (cσ32_2.O (kJ.up xσ29) (by decide)).1
      have r5σ32_2 := I_6_5 iσ32_2.1 (kth.up (xσ29.trans xσ32_2))
      exact hQ σ32_2 nuσ29 () iσ32_2 fσ32_2 (nu_σ29) (by (first | omega | with_reducible assumption | with_reducible exact rng_toInt _ | with_reducible exact rng_wr _ | (unfold rng; omega) | (unfold rng at *; omega) | assumption))
  · rw [if_neg hc6]
    unfold w_X6_atom_9
    refine i_X6_goDeeper iσ kth (by (first | omega | with_reducible assumption | with_reducible exact rng_toInt _ | with_reducible exact rng_wr _ | (unfold rng; omega) | (unfold rng at *; omega) | assumption)) (fun σ25 _ iσ25 cσ25 pσ25 => ?_) (fun σx LLx Nx nux E ix cx ux px => hX σx LLx Nx nux E ix (fσ.tr (cx.mo (by decide))) (ux) (by first | exact px | exact ⟨by have := px.1; omega, px.2⟩ | (first | omega | with_reducible assumption | with_reducible exact rng_toInt _ | with_reducible exact rng_wr _ | (unfold rng; omega) | (unfold rng at *; omega) | assumption)))
    intro xσ25
    have fσ25 : Fx [261, 262, 263, 386, 387, 388, 389, 390, 6464, 8320] gr σ σ25 := fσ.tr (cσ25.mo (by decide))
    have kp59 : gI σ25 J 7 = gI σ J 7 := (cσ25.O kJ (by decide)).1
    have kp60 : gI σ25 o 7 = gI σ o 7 := (cσ25.O ko (by decide)).1
    have kp61 : gI σ25 th 2 = gI σ th 2 := (cσ25.O kth (by decide)).1
    have kp62 : gI σ25 th 3 = gI σ th 3 := (cσ25.O kth (by decide)).1
    have kp63 : gI σ25 th 5 = gI σ th 5 := (cσ25.O kth (by decide)).1
    have kp64 : gP σ25 th 0 = gP σ th 0 := (cσ25.O kth (by decide)).2.1
    have kp65 : gP σ25 th 7 = gP σ th 7 := (cσ25.O kth (by decide)).2.1
    have kp66 : gP σ25 th 8 = gP σ th 8 := (cσ25.O kth (by decide)).2.1
    refine i_X6_next iσ25 (kth.up xσ25) (kp64.trans hX0) (kX.up xσ25) (((xσ25) tx kX.1).2.2.trans gX) (by (first | omega | with_reducible assumption | with_reducible exact rng_toInt _ | with_reducible exact rng_wr _ | (unfold rng; omega) | (unfold rng at *; omega) | assumption)) (by (first | omega | with_reducible assumption | with_reducible exact rng_toInt _ | with_reducible exact rng_wr _ | (unfold rng; omega) | (unfold rng at *; omega) | assumption)) (fun σ26 _ iσ26 cσ26 pσ26 => ?_) (fun σx LLx Nx nux E ix cx ux px => hX σx LLx Nx nux E ix (fσ25.tr (cx.mo (by decide))) (ux) (by first | exact px | exact ⟨by have := px.1; omega, px.2⟩ | (first | omega | with_reducible assumption | with_reducible exact rng_toInt _ | with_reducible exact rng_wr _ | (unfold rng; omega) | (unfold rng at *; omega) | assumption)))
    intro xσ26
    have fσ26 : Fx [261, 262, 263, 386, 387, 388, 389, 390, 6464, 8320] gr σ σ26 := fσ25.tr (cσ26.mo (by decide))
    have kp67 : gI σ26 J 7 = gI σ25 J 7 := (cσ26.O (kJ.up xσ25) (by decide)).1
    have kp68 : gI σ26 o 7 = gI σ25 o 7 := (cσ26.O (ko.up xσ25) (by decide)).1
    have kp69 : gP σ26 th 0 = gP σ25 th 0 := (cσ26.O (kth.up xσ25) (by decide)).2.1
    have kp70 : gP σ26 th 7 = gP σ25 th 7 := (cσ26.O (kth.up xσ25) (by decide)).2.1
    have kp71 : gP σ26 th 8 = gP σ25 th 8 := (cσ26.O (kth.up xσ25) (by decide)).2.1
    have r5σ26 := I_6_5 iσ26.1 (kth.up (xσ25.trans xσ26))
    refine ⟨by (first | omega | with_reducible assumption | with_reducible exact rng_toInt _ | with_reducible exact rng_wr _ | (unfold rng; omega) | (unfold rng at *; omega) | assumption), ?_⟩
    refine ih0 iσ26 (kth.up (xσ25.trans xσ26)) (kp69.trans (kp64.trans hX0)) (kX.up (xσ25.trans xσ26)) (((xσ25.trans xσ26) tx kX.1).2.2.trans gX) (kp70.trans (kp65.trans h7)) (kJ.up (xσ25.trans xσ26)) (kp71.trans (kp66.trans h8)) (ko.up (xσ25.trans xσ26)) (by (first | omega | with_reducible assumption | with_reducible exact rng_toInt _ | with_reducible exact rng_wr _ | (unfold rng; omega) | (unfold rng at *; omega) | assumption)) (by (first | omega | with_reducible assumption | with_reducible exact rng_toInt _ | with_reducible exact rng_wr _ | (unfold rng; omega) | (unfold rng at *; omega) | assumption)) (by (first | omega | with_reducible assumption | with_reducible exact rng_toInt _ | with_reducible exact rng_wr _ | (unfold rng; omega) | (unfold rng at *; omega) | assumption)) (by (first | omega | with_reducible assumption | with_reducible exact rng_toInt _ | with_reducible exact rng_wr _ | (unfold rng; omega) | (unfold rng at *; omega) | assumption)) (by (first | omega | with_reducible assumption | with_reducible exact rng_toInt _ | with_reducible exact rng_wr _ | (unfold rng; omega) | (unfold rng at *; omega) | assumption)) (by (first | omega | with_reducible assumption | with_reducible exact rng_toInt _ | with_reducible exact rng_wr _ | (unfold rng; omega) | (unfold rng at *; omega) | assumption)) (by (first | omega | with_reducible assumption | with_reducible exact rng_toInt _ | with_reducible exact rng_wr _ | (unfold rng; omega) | (unfold rng at *; omega) | assumption)) (by (first | omega | with_reducible assumption | with_reducible exact rng_toInt _ | with_reducible exact rng_wr _ | (unfold rng; omega) | (unfold rng at *; omega) | assumption)) (by (first | omega | with_reducible assumption | with_reducible exact rng_toInt _ | with_reducible exact rng_wr _ | (unfold rng; omega) | (unfold rng at *; omega) | assumption)) (fun σ27 nuσ27 _ iσ27 cσ27 uσ27 pσ27 => ?_) (fun σx LLx Nx nux E ix cx ux px => hX σx LLx Nx nux E ix (fσ26.tr (cx.mo (by decide))) (ux) (by first | exact px | exact ⟨by have := px.1; omega, px.2⟩ | (first | omega | with_reducible assumption | with_reducible exact rng_toInt _ | with_reducible exact rng_wr _ | (unfold rng; omega) | (unfold rng at *; omega) | assumption)))
    intro xσ27
    have fσ27 : Fx [261, 262, 263, 386, 387, 388, 389, 390, 6464, 8320] gr σ σ27 := fσ26.tr (cσ27.mo (by decide))
    have nu_σ27 : NC nu nuσ27 := uσ27
    have uσ27_0 := uσ27 0 (by decide) (by decide)
    have uσ27_1 := uσ27 1 (by decide) (by decide)
    have uσ27_2 := uσ27 2 (by decide) (by decide)
    have uσ27_5 := uσ27 5 (by decide) (by decide)
    have uσ27_15 := uσ27 15 (by decide) (by decide)
    have uσ27_16 := uσ27 16 (by decide) (by decide)
    have kp72 : gI σ27 o 7 = gI σ26 o 7 := (cσ27.O (ko.up (xσ25.trans xσ26)) (by decide)).1
    have kp73 : gP σ27 th 0 = gP σ26 th 0 := (cσ27.O (kth.up (xσ25.trans xσ26)) (by decide)).2.1
    have kp74 : gP σ27 th 7 = gP σ26 th 7 := (cσ27.O (kth.up (xσ25.trans xσ26)) (by decide)).2.1
    have kp75 : gP σ27 th 8 = gP σ26 th 8 := (cσ27.O (kth.up (xσ25.trans xσ26)) (by decide)).2.1
    have r5σ27 := I_6_5 iσ27.1 (kth.up (xσ25.trans (xσ26.trans xσ27)))
    refine i_X6_wantSign iσ27 (kth.up (xσ25.trans (xσ26.trans xσ27))) (kp73.trans (kp69.trans (kp64.trans hX0))) (kX.up (xσ25.trans (xσ26.trans xσ27))) (((xσ25.trans (xσ26.trans xσ27)) tx kX.1).2.2.trans gX) (by (first | omega | with_reducible assumption | with_reducible exact rng_toInt _ | with_reducible exact rng_wr _ | (unfold rng; omega) | (unfold rng at *; omega) | assumption)) (by (first | omega | with_reducible assumption | with_reducible exact rng_toInt _ | with_reducible exact rng_wr _ | (unfold rng; omega) | (unfold rng at *; omega) | assumption)) (fun σ28 _ iσ28 cσ28 pσ28 => ?_) (fun σx LLx Nx nux E ix cx ux px => hX σx LLx Nx nux E ix (fσ27.tr (cx.mo (by decide))) (nu_σ27.x ux) (by first | exact px | exact ⟨by have := px.1; omega, px.2⟩ | (first | omega | with_reducible assumption | with_reducible exact rng_toInt _ | with_reducible exact rng_wr _ | (unfold rng; omega) | (unfold rng at *; omega) | assumption)))
    intro xσ28
    have fσ28 : Fx [261, 262, 263, 386, 387, 388, 389, 390, 6464, 8320] gr σ σ28 := fσ27.tr (cσ28.mo (by decide))
    have kp76 : gI σ28 o 7 = gI σ27 o 7 := (cσ28.O (ko.up (xσ25.trans (xσ26.trans xσ27))) (by decide)).1
    have kp77 : gP σ28 th 0 = gP σ27 th 0 := (cσ28.O (kth.up (xσ25.trans (xσ26.trans xσ27))) (by decide)).2.1
    have kp78 : gP σ28 th 7 = gP σ27 th 7 := (cσ28.O (kth.up (xσ25.trans (xσ26.trans xσ27))) (by decide)).2.1
    have kp79 : gP σ28 th 8 = gP σ27 th 8 := (cσ28.O (kth.up (xσ25.trans (xσ26.trans xσ27))) (by decide)).2.1
    have kp80 : gI σ28 J 7 = gI σ27 J 7 := (cσ28.O (kJ.up (xσ25.trans (xσ26.trans xσ27))) (by decide)).1
    have r5σ28 := I_6_5 iσ28.1 (kth.up (xσ25.trans (xσ26.trans (xσ27.trans xσ28))))
    exact hQ σ28 nuσ27 () iσ28 fσ28 (nu_σ27) (by (first | omega | with_reducible assumption | with_reducible exact rng_toInt _ | with_reducible exact rng_wr _ | (unfold rng; omega) | (unfold rng at *; omega) | assumption))
theorem rec_all {pl : Nat} {gq ci gr nc : Nat → Nat} {ot : Nat → Nat → Int} {LL : Nat → List Nat} {N : Nat → Nat} {th tx J o q c n : Nat} : RC0 pl gq ci gr nc ot LL N th tx J o q c n ∧ RC1 pl gq ci gr nc ot LL N th tx J o q c n ∧ RC2 pl gq ci gr nc ot LL N th tx J o q c n ∧ RC3 pl gq ci gr nc ot LL N th tx J o q c n := by
  induction n with
  | zero =>
    exact ⟨by intro σ nu v1 v2 _ _ _ _ _ _ _ _ _ _ _ _ _ _ _ _ _ nd Q X _ _; omega, by intro σ nu v1 v2 _ _ _ _ _ _ _ _ _ _ _ _ _ _ _ _ _ nd Q X _ _; omega, by intro σ nu v1 v2 _ _ _ _ _ _ _ _ _ _ _ _ _ _ _ _ _ nd Q X _ _; omega, by intro σ nu v1 v2 _ _ _ _ _ _ _ _ _ _ _ _ _ _ _ _ _ nd Q X _ _; omega⟩
  | succ n ih =>
    exact ⟨s_X6_value ih.1 ih.2.1 ih.2.2.1 ih.2.2.2, s_X6_binary ih.1 ih.2.1 ih.2.2.1 ih.2.2.2, s_X6_prefixed ih.1 ih.2.1 ih.2.2.1 ih.2.2.2, s_X6_atom ih.1 ih.2.1 ih.2.2.1 ih.2.2.2⟩
theorem i_X6_value {σ : Sg} {pl : Nat} {gq ci gr nc : Nat → Nat} {ot : Nat → Nat → Int} {LL : Nat → List Nat} {N nu : Nat → Nat} {th : Nat} {v1 : Int} {tx J o q c : Nat} (iσ : IV σ pl gq ci gr nc ot LL N nu) (kth : kO σ th 6) (hX0 : gP σ th 0 = some tx) (kX : kO σ tx 102) (gX : gn σ tx = 1500) (h7 : gP σ th 7 = some J) (kJ : kO σ J 4) (h8 : gP σ th 8 = some o) (ko : kO σ o 5) (hJq : gq J = q) (hq : q ≠ nc 0 ∧ q ≤ 1) (go : gq o = 16 * q + c) (hc : c < 16) (tf : gI σ th 5 ≤ gI σ th 2 ∧ (gI σ th 3 ≠ 0 → gI σ th 5 + 1 ≤ gI σ th 2)) (h5 : nu 5 < 24000) (lp : gI σ J 7 ≤ 2 * gI σ th 5) (ho7 : 0 ≤ gI σ o 7) (nd : (0 ≤ v1 ∧ v1 ≤ 10) ∧ 8 * (11 - v1) ≤ 120) {Q : Sg → Unit → Prop} {X : Sg → String → Prop} (hQ : ∀ (σ' : Sg) (nu' : Nat → Nat) (r : Unit), IV σ' pl gq ci gr nc ot LL N nu' → Fx [261, 262, 263, 386, 387, 388, 389, 390, 6464, 8320] gr σ σ' → NC nu nu' → ((gI σ' th 5 ≤ gI σ' th 2 ∧ (gI σ' th 3 ≠ 0 → gI σ' th 5 + 1 ≤ gI σ' th 2)) ∧ gI σ J 7 ≤ gI σ' J 7 ∧ gI σ' J 7 + 1 + 2 * gI σ th 5 ≤ gI σ J 7 + 2 * gI σ' th 5) → Q σ' r) (hX : ∀ (σ' : Sg) (LL' : Nat → List Nat) (N' nu' : Nat → Nat) (E : String), IV σ' pl gq ci gr nc ot LL' N' nu' → Fx [261, 262, 263, 386, 387, 388, 389, 390, 6464, 8320] gr σ σ' → NCX nu nu' → (LL' = LL ∧ N' = N ∧ E = "java/lang/IllegalArgumentException" ∧ gI σ' th 6 ≠ 0) → X σ' E) : wp_X6_value th v1 σ Q X := by
  unfold wp_X6_value
  exact (rec_all (n := 120)).1 iσ kth hX0 kX gX h7 kJ h8 ko hJq hq go hc tf h5 lp ho7 nd hQ hX

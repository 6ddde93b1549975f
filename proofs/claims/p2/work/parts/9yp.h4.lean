set_option maxHeartbeats 1000000 in
theorem i_X12_onePass {σ : Sg} {pl : Nat} {gq ci gr nc : Nat → Nat} {ot : Nat → Nat → Int} {LL : Nat → List Nat} {N nu : Nat → Nat} {th : Nat} {J R D W : Nat} (iσ : IV σ pl gq ci gr nc ot LL N nu) (kth : kO σ th 12) (h4 : gP σ th 4 = some J) (kJ : kO σ J 4) (hJ : gq J = nc 0) (hR : gP σ th 7 = some R) (kR : kO σ R 9) (hD : gP σ R 2 = some D) (kD : kO σ D 3) (hW : gP σ R 1 = some W) (kW : kO σ W 11) (hu : HU σ nc nu J R W D) (h5 : nu 5 < 24000) (hb : N 14 + N 44 + N 74 + N 1 ≤ 10000) (h3 : N 3 + 4000000000 ≤ 1152921504606846976) (n44 : N 44 = 0) (z80 : ∀ g, 80 ≤ g → g ≤ 95 → N g = 0) {Q : Sg → Int → Prop} {X : Sg → String → Prop} (hQ : ∀ (σ' : Sg) (gq' ci' : Nat → Nat) (LL' : Nat → List Nat) (N' nu' : Nat → Nat) (r : Int), IV σ' pl gq' ci' gr nc ot LL' N' nu' → GE (gD σ) gq ci gq' ci' → Fx [1, 2, 3, 4, 5, 6, 7, 64, 265, 266, 453, 454, 512, 513, 514, 645, 708, 709, 6464] gr σ σ' → NX nu nu' → (N' 1 ≤ N 1 + 3 ∧ (N' 5 = N 5 ∧ N' 14 = N 14 ∧ N' 44 = 0 ∧ N' 74 = 0) ∧ N' 3 ≤ N 3 + 2000000000 ∧ (∀ g, 80 ≤ g → g ≤ 95 → N' g = 0) ∧ HU σ' nc nu' J R W D) → Q σ' r) (hX : ∀ (σ' : Sg) (gq' ci' : Nat → Nat) (LL' : Nat → List Nat) (N' nu' : Nat → Nat) (E : String), IV σ' pl gq' ci' gr nc ot LL' N' nu' → GE (gD σ) gq ci gq' ci' → Fx [1, 2, 3, 4, 5, 6, 7, 64, 265, 266, 453, 454, 512, 513, 514, 645, 708, 709, 6464] gr σ σ' → NX nu nu' → (LL' = LL ∧ N' = N ∧ (E = "java/lang/IllegalStateException") ∧ HU σ' nc nu' J R W D) → X σ' E) : wp_X12_onePass th σ Q X := by
  have jc := iσ.jc kJ hJ
  unfold wp_X12_onePass w_X12_onePass_0
  refine ⟨J, h4, fun _ => ?_⟩
  by_cases c0 : ¬ gI σ J 1 ≠ 0
  · rw [if_neg c0]; unfold w_X12_onePass_10
    exact ⟨iσ.room, hX _ _ _ _ _ _ _ (iσ.bump (by omega)) GE.rf Fx.bump NX.bump ⟨rfl, rfl, rfl, hu.fx (Fx.bump (L := []) (gr := gr)) kR kW kD (by decide) rfl rfl⟩⟩
  have c1 : gI σ J 1 ≠ 0 := Classical.not_not.mp c0
  rw [if_pos c1]; unfold w_X12_onePass_18
  obtain ⟨vr, evr, fvr⟩ := P_9_8 iσ.1 kR
  have kvr : kO σ vr 111 := iσ.1.kd kR rfl evr rfl
  obtain ⟨pa, epa⟩ := P_12_8 iσ.1 kth
  refine ⟨R, hR, fun _ => ⟨pa, epa, fun kpa => ?_⟩⟩
  obtain ⟨W7, ew7, fw7⟩ := P_7_1 iσ.1 kpa
  have kw7 : kO σ W7 11 := iσ.1.kd kpa rfl ew7 rfl
  have fW := T_9_1 iσ.1 kR hW
  have nW : W ≠ W7 := fun e => by rw [e] at fW; omega
  have fin : ∀ (σ' : Sg) (gq' ci' : Nat → Nat) (LL' : Nat → List Nat) (N' nu' : Nat → Nat) (r : Int), IV σ' pl gq' ci' gr nc ot LL' N' nu' → GE (gD σ) gq ci gq' ci' → Fx [1, 2, 3, 4, 5, 6, 7, 64, 265, 266, 453, 454, 512, 513, 514, 645, 708, 709, 6464] gr σ σ' → NX nu nu' → ((r = 0 ∨ r = 1) ∧ N' 1 ≤ N 1 + 3 ∧ N' 5 = N 5 ∧ N' 3 ≤ N 3 + 2000000000 ∧ N' 14 = N 14) → (∀ x, gP σ W 5 = some x → gP σ' W 5 = some x) → Ext σ σ' →
      ∃ a14, (gP σ' th 8) = some a14 ∧ ∀ _ : kO σ' a14 7, (wp_X7_forget a14 σ' (fun σ13 (_ : Unit) => ∀ _ : Ext σ' σ13, ((r = 0 ∨ r = 1) ∧ Q σ13 r)) X) := by
    intro σ' gq' ci' LL' N' nu' r i' g' f' u' p' hw' x'
    refine ⟨pa, (f'.O kth (by decide)).2.1.trans epa, fun kpa' => ?_⟩
    refine i_X7_forget i' kpa' (fun σ2 LL2 N2 nu2 r2 i2 f2 u2 h2 p2 => ?_)
    intro x2
    have m5 := h2.2.2 5 (by decide) (by decide) (by decide) (by decide)
    have m3 := h2.2.2 3 (by decide) (by decide) (by decide) (by decide)
    have m14 := h2.2.2 14 (by decide) (by decide) (by decide) (by decide)
    have kR' := kR.up f'.1
    have kW' := kW.up f'.1
    have n15 : nu2 15 = nu 15 := (u2.1 15 (by decide)).trans (u'.1 15 (by decide))
    have n17 : nu2 17 = nu 17 := (u2.1 17 (by decide)).trans (u'.1 17 (by decide))
    have n5 := u2.1 5 (by decide)
    have d9 : gI σ2 D 9 = gI σ D 9 := (f2.O (kD.up f'.1) (by decide)).1.trans (f'.O kD (by decide)).1
    have hu2 : HU σ2 nc nu2 J R W D := by
      refine ⟨fun z => ?_, fun z => by rw [n15]; exact hu.2 (by rw [← d9]; exact z)⟩
      obtain ⟨u1, u2', u3, u4, u5⟩ := hu.1 (by rw [← n15]; exact z)
      have e12 : gI σ2 R 12 = gI σ R 12 := (f2.O kR' (by decide)).1.trans (f'.O kR (by decide)).1
      exact ⟨((f2.O kR' (by decide)).2.1.trans (f'.O kR (by decide)).2.1).trans u1, (f2.O kW' (by decide)).2.1.trans (hw' J u2'), by omega, by omega, u5⟩
    refine ⟨p'.1, hQ σ2 gq' ci' LL2 N2 nu2 r i2 g' ((f'.mo (by decide)).tr (f2.mo (by decide))) ⟨fun k hk => (u2.1 k (fun w => hk (by simp only [List.mem_cons, List.mem_nil_iff, or_false] at w ⊢; omega))).trans (u'.1 k hk), Nat.le_trans u'.2.1 u2.2, by have := u'.2.2; omega⟩ ⟨by omega, ⟨by omega, by omega, by omega, by omega⟩, by omega, p2.2.2.2, hu2⟩⟩
  have go : ∀ x0, gP σ W 5 = some x0 → wp_X7_isRight pa (gP σ th 4) (gP σ R 8) σ (fun σ10 r11 => ∀ _ : Ext σ σ10, ∃ a14, (gP σ10 th 8) = some a14 ∧ ∀ _ : kO σ10 a14 7, (wp_X7_forget a14 σ10 (fun σ13 (_ : Unit) => ∀ _ : Ext σ10 σ13, ((r11 = 0 ∨ r11 = 1) ∧ Q σ13 r11)) X)) X := fun x0 ex0 =>
    i2_X7_isRight iσ kpa h4 kJ evr kvr ew7 kw7 hJ (by omega) h5 hb h3 n44 z80 kW ex0 nW (fun σ' gq' ci' LL' N' nu' r i' g' f' u' p' => fin σ' gq' ci' LL' N' nu' r i' g' f' u' ⟨p'.1, p'.2.1, p'.2.2.1, p'.2.2.2.1, p'.2.2.2.2.1⟩ (fun x ex => by rw [ex0] at ex; cases ex; exact p'.2.2.2.2.2))
  cases ex : gP σ W 5 with
  | some x0 => exact go x0 ex
  | none => exact i_X7_isRight iσ kpa h4 kJ evr kvr ew7 kw7 hJ (by omega) h5 hb h3 n44 z80 (fun σ' gq' ci' LL' N' nu' r i' g' f' u' p' => fin σ' gq' ci' LL' N' nu' r i' g' f' u' p' (fun x e => by rw [ex] at e; cases e))

set_option maxHeartbeats 1000000 in
theorem i_X9_takeThing {σ : Sg} {pl : Nat} {gq ci gr nc : Nat → Nat} {ot : Nat → Nat → Int} {LL : Nat → List Nat} {N nu : Nat → Nat} {th : Nat} {v1 : Option Nat} {v2 : Option Nat} {J W i : Nat} (iσ : IV σ pl gq ci gr nc ot LL N nu) (kth : kO σ th 9) {t : Nat} (hv1 : v1 = some t) (kt : kO σ t 10) {o : Nat} (hv2 : v2 = some o) (ko : kO σ o 5) (ht : gq t = 1) (hl : ci t < nu 15) (hj : gP σ th 9 = some J) (kJ : kO σ J 4) (hJ : gq J = nc 0) (hw : gP σ th 1 = some W) (kW : kO σ W 11) (hWJ : gP σ W 5 = some J) (ho : gq o = 16 * nc 0 + i) (hi : i < nc 1) (hto : gI σ t 0 = (i : Int)) (hk1 : 1 ≤ ot i 6) (hp : 1 ≤ gI σ th 12) (h5 : nu 5 < 24000) (hb : N 14 + N 44 + N 74 + N 1 ≤ 20000) (h3 : N 3 ≤ 1152921504606846976) (n5 : N 5 = 0) (n14 : N 14 = 0) {Q : Sg → Int → Prop} {X : Sg → String → Prop} (hQ : ∀ (σ' : Sg) (gq' ci' : Nat → Nat) (LL' : Nat → List Nat) (N' nu' : Nat → Nat) (r : Int), IV σ' pl gq' ci' gr nc ot LL' N' nu' → GE (gD σ) gq ci gq' ci' → Fx [1, 2, 3, 4, 5, 6, 7, 64, 132, 133, 192, 193, 195, 196, 197, 198, 199, 200, 201, 265, 266, 512, 513, 514, 590, 640, 641, 645, 646, 647, 648, 649, 650, 651, 652, 653, 654, 655, 708, 6464, 7680] gr σ σ' → NU nu nu' → Hn (gD σ) [3, 5, 11, 12, 13, 14, 50, 60, 61, 62, 63, 64, 65, 66, 67, 68, 69, 70, 71, 21, 22, 31, 32] [] gq LL LL' N N' → ((r = 0 ∨ r = 1) ∧ N' 1 = N 1 ∧ N' 14 = 0 ∧ N' 5 = 0 ∧ N' 3 ≤ N 3 + 40010000) → Q σ' r) (hX : ∀ (σ' : Sg) (gq' ci' : Nat → Nat) (LL' : Nat → List Nat) (N' nu' : Nat → Nat) (E : String), IV σ' pl gq' ci' gr nc ot LL' N' nu' → GE (gD σ) gq ci gq' ci' → Fx [1, 2, 3, 4, 5, 6, 7, 64, 132, 133, 192, 193, 195, 196, 197, 198, 199, 200, 201, 265, 266, 512, 513, 514, 590, 640, 641, 645, 646, 647, 648, 649, 650, 651, 652, 653, 654, 655, 708, 6464, 7680] gr σ σ' → NX nu nu' → ((N' 1 ≤ N 1 + 4 ∧ N' 5 = N 5 ∧ N' 3 ≤ N 3 + 40010000 ∧ N' 44 = N 44 ∧ N' 74 = N 74) ∧ NZ N N' ∧ E = "java/lang/IllegalStateException") → X σ' E) : wp_X9_takeThing th v1 v2 σ Q X := by
  have fσ : Fx [1, 2, 3, 4, 5, 6, 7, 64, 132, 133, 192, 193, 195, 196, 197, 198, 199, 200, 201, 265, 266, 512, 513, 514, 590, 640, 641, 645, 646, 647, 648, 649, 650, 651, 652, 653, 654, 655, 708, 6464, 7680] gr σ σ := Fx.rf
  have geσ : GE (gD σ) gq ci gq ci := GE.rf
  have hnσ : Hn (gD σ) [3, 5, 11, 12, 13, 14, 50, 60, 61, 62, 63, 64, 65, 66, 67, 68, 69, 70, 71, 21, 22, 31, 32] [] gq LL LL N N := Hn.rf
  have q1 := I_10_0 iσ.1 kt
  have q2 := I_9_12 iσ.1 kth
  have fW := T_9_1 iσ.1 kth hw
  have q6 := iσ.op ko ho hi 6 (by decide)
  have n16 := iσ.n16
  unfold wp_X9_takeThing
  unfold w_X9_takeThing_0
  refine i_X9_nextChannel iσ kth hv1 kt (by (first | omega | with_reducible assumption | with_reducible exact rng_toInt _ | with_reducible exact rng_wr _ | (unfold rng; omega) | (unfold rng at *; omega) | assumption)) (by (first | omega | with_reducible assumption | with_reducible exact rng_toInt _ | with_reducible exact rng_wr _ | (unfold rng; omega) | (unfold rng at *; omega) | assumption)) (fun σ71 r72 iσ71 cσ71 pσ71 => ?_)
  intro xσ71
  have fσ71 : Fx [1, 2, 3, 4, 5, 6, 7, 64, 132, 133, 192, 193, 195, 196, 197, 198, 199, 200, 201, 265, 266, 512, 513, 514, 590, 640, 641, 645, 646, 647, 648, 649, 650, 651, 652, 653, 654, 655, 708, 6464, 7680] gr σ σ71 := fσ.tr (cσ71.mo (by decide))
  have kp3 : gI σ71 t 0 = gI σ t 0 := (cσ71.O kt (by decide)).1
  have kp4 : gI σ71 th 12 = gI σ th 12 := (cσ71.O kth (by decide)).1
  have kp5 : gP σ71 W 5 = gP σ W 5 := (cσ71.O kW (by decide)).2.1
  have kp6 : gP σ71 th 1 = gP σ th 1 := (cσ71.O kth (by decide)).2.1
  have kp7 : gP σ71 th 9 = gP σ th 9 := (cσ71.O kth (by decide)).2.1
  have kp8 : gI σ71 o 6 = gI σ o 6 := (cσ71.O ko (by decide)).1
  intro tyt
  by_cases hc9 : r72 ≠ none
  · rw [if_pos hc9]
    unfold w_X9_takeThing_14
    obtain ⟨b, eb⟩ := Option.ne_none_iff_exists'.mp hc9
    have knb : kO σ71 b 2 := (pσ71 _ eb).1.up xσ71
    have z72 := pσ71 _ eb
    refine ⟨b, eb, fun kk_b => ?_⟩
    obtain ⟨b_1, eb_1, fb_1⟩ := P_2_0 iσ71.1 knb
    have mb_1 : kO σ71 b_1 1 := iσ71.1.kd knb rfl eb_1 rfl
    refine ⟨b_1, eb_1, fun kk_b_1 => ?_⟩
    refine i_X1_takeFirst (G0 := 50) iσ71 mb_1 (by omega) (fun σ106 LLσ106 Nσ106 nuσ106 r107 iσ106 cσ106 uσ106 hσ106 pσ106 => ?_)
    intro xσ106
    have fσ106 : Fx [1, 2, 3, 4, 5, 6, 7, 64, 132, 133, 192, 193, 195, 196, 197, 198, 199, 200, 201, 265, 266, 512, 513, 514, 590, 640, 641, 645, 646, 647, 648, 649, 650, 651, 652, 653, 654, 655, 708, 6464, 7680] gr σ σ106 := fσ71.tr (cσ106.mo (by decide))
    have hnσ106 : Hn (gD σ) [3, 5, 11, 12, 13, 14, 50, 60, 61, 62, 63, 64, 65, 66, 67, 68, 69, 70, 71, 21, 22, 31, 32] [] gq LL LLσ106 N Nσ106 := hnσ.go (hσ106.ge (fun a ha => (geσ a ha).1) (fun d hd => (fσ71.1 d hd).1)) (fun _ hd => hd) (by first | decide | exact fun _ h => h | (simp; done) | (intro x hx; simp only [List.mem_cons, List.mem_nil_iff, or_false] at hx ⊢; omega)) (fun d hd => absurd hd (by simp))
    have nσ106_3 := hσ106.2.2 3 (by first | decide | (simp; done) | (simp only [List.mem_cons, List.mem_nil_iff, or_false, not_or]; omega)) (by first | decide | omega) (by first | decide | omega) (by first | decide | omega)
    have nσ106_5 := hσ106.2.2 5 (by first | decide | (simp; done) | (simp only [List.mem_cons, List.mem_nil_iff, or_false, not_or]; omega)) (by first | decide | omega) (by first | decide | omega) (by first | decide | omega)
    have nσ106_14 := hσ106.2.2 14 (by first | decide | (simp; done) | (simp only [List.mem_cons, List.mem_nil_iff, or_false, not_or]; omega)) (by first | decide | omega) (by first | decide | omega) (by first | decide | omega)
    have nσ106_44 := hσ106.2.2 44 (by first | decide | (simp; done) | (simp only [List.mem_cons, List.mem_nil_iff, or_false, not_or]; omega)) (by first | decide | omega) (by first | decide | omega) (by first | decide | omega)
    have nσ106_74 := hσ106.2.2 74 (by first | decide | (simp; done) | (simp only [List.mem_cons, List.mem_nil_iff, or_false, not_or]; omega)) (by first | decide | omega) (by first | decide | omega) (by first | decide | omega)
    have nσ106_11 := hσ106.2.2 11 (by first | decide | (simp; done) | (simp only [List.mem_cons, List.mem_nil_iff, or_false, not_or]; omega)) (by first | decide | omega) (by first | decide | omega) (by first | decide | omega)
    have nσ106_12 := hσ106.2.2 12 (by first | decide | (simp; done) | (simp only [List.mem_cons, List.mem_nil_iff, or_false, not_or]; omega)) (by first | decide | omega) (by first | decide | omega) (by first | decide | omega)
    have nσ106_41 := hσ106.2.2 41 (by first | decide | (simp; done) | (simp only [List.mem_cons, List.mem_nil_iff, or_false, not_or]; omega)) (by first | decide | omega) (by first | decide | omega) (by first | decide | omega)
    have nσ106_42 := hσ106.2.2 42 (by first | decide | (simp; done) | (simp only [List.mem_cons, List.mem_nil_iff, or_false, not_or]; omega)) (by first | decide | omega) (by first | decide | omega) (by first | decide | omega)
    have nσ106_13 := hσ106.2.2 13 (by first | decide | (simp; done) | (simp only [List.mem_cons, List.mem_nil_iff, or_false, not_or]; omega)) (by first | decide | omega) (by first | decide | omega) (by first | decide | omega)
    have nu_σ106 : NU nu nuσ106 := uσ106
    have uσ106_0 := uσ106.1 0 (by decide)
    have uσ106_1 := uσ106.1 1 (by decide)
    have uσ106_2 := uσ106.2
    have uσ106_5 := uσ106.1 5 (by decide)
    have uσ106_15 := uσ106.1 15 (by decide)
    have uσ106_16 := uσ106.1 16 (by decide)
    have kp10 : gI σ106 t 0 = gI σ71 t 0 := (cσ106.O (kt.up xσ71) (by decide)).1
    have kp11 : gI σ106 th 12 = gI σ71 th 12 := (cσ106.O (kth.up xσ71) (by decide)).1
    have kp12 : gP σ106 W 5 = gP σ71 W 5 := (cσ106.O (kW.up xσ71) (by decide)).2.1
    have kp13 : gP σ106 b 0 = gP σ71 b 0 := (cσ106.O knb (by decide)).2.1
    have kp14 : gP σ106 th 1 = gP σ71 th 1 := (cσ106.O (kth.up xσ71) (by decide)).2.1
    have kp15 : gP σ106 th 9 = gP σ71 th 9 := (cσ106.O (kth.up xσ71) (by decide)).2.1
    have kp16 : gI σ106 o 6 = gI σ71 o 6 := (cσ106.O (ko.up xσ71) (by decide)).1
    intro tyt_1
    unfold w_X9_takeThing_21
    by_cases hc17 : r107 ≠ none
    · rw [if_pos hc17]
      unfold w_X9_takeThing_30
      obtain ⟨b_2, eb_2⟩ := Option.ne_none_iff_exists'.mp hc17
      obtain ⟨c9, T9, y1, y2, y3, kc9, hc9, n9a, n9b, n9c, n9d⟩ := (pσ106).resolve_left (fun q => absurd q.2.1 (by rw [eb_2]; simp))
      have ec9 : c9 = b_2 := Option.some.inj (y2.symm.trans eb_2)
      rw [ec9] at kc9 hc9 y1
      have kb9 : kO σ106 b_2 0 := kc9.up xσ106
      have lo_b_2 : Lo [] (gD σ) LL b_2 := hnσ.loc (fun d hd => (fσ71.1 d hd).1) (Or.inr ⟨_, by rw [y1]; exact List.mem_cons_self⟩)
      refine ⟨t, hv1, fun kk_t => ?_⟩
      intro σ74 eσ74
      have xσ74 : Ext σ106 σ74 := by rw [eσ74]; exact fun _ h => ⟨h, rfl, rfl⟩
      have q18 := iσ106.rg t 8; unfold rng at q18
      have iσ74 : IV σ74 pl gq ci gr nc ot LLσ106 Nσ106 nuσ106 := by rw [eσ74]; exact iσ106.wO (kt.up (xσ71.trans xσ106)) (by decide) (rngb (by first | exact rng_wr _ | (first | omega | with_reducible assumption | with_reducible exact rng_toInt _ | with_reducible exact rng_wr _ | (unfold rng; omega) | (unfold rng at *; omega) | assumption)))
      have fσ74 : Fx [1, 2, 3, 4, 5, 6, 7, 64, 132, 133, 192, 193, 195, 196, 197, 198, 199, 200, 201, 265, 266, 512, 513, 514, 590, 640, 641, 645, 646, 647, 648, 649, 650, 651, 652, 653, 654, 655, 708, 6464, 7680] gr σ σ74 := fσ106.tr (Sk.fx (by rw [eσ74]; exact Sk.pI (by rw [fcdO (kt.up (xσ71.trans xσ106)) (by decide)]; decide)))
      have wσ74 : gI σ74 t 8 = (wr (gI σ106 t 8 + 1)) := by rw [eσ74]; exact up2_s _ _ _ _
      have kp19 : gI σ74 t 0 = gI σ106 t 0 := by rw [eσ74]; exact up2_n _ _ (fun q => absurd q.2 (by decide))
      have kp20 : gI σ74 th 12 = gI σ106 th 12 := by rw [eσ74]; exact up2_n _ _ (fun q => absurd q.2 (by decide))
      have kp21 : gP σ74 W 5 = gP σ106 W 5 := by rw [eσ74]
      have kp22 : gP σ74 b 0 = gP σ106 b 0 := by rw [eσ74]
      have kp23 : gP σ74 th 1 = gP σ106 th 1 := by rw [eσ74]
      have kp24 : gP σ74 th 9 = gP σ106 th 9 := by rw [eσ74]
      have kp25 : gI σ74 o 6 = gI σ106 o 6 := by rw [eσ74]; exact up2_n _ _ (fun q => absurd q.2 (by decide))
      refine ⟨b_2, eb_2, fun kk_b_2 => ?_⟩
      have q27 := iσ74.rg b_2 2; unfold rng at q27
      by_cases hc26 : gI σ74 b_2 2 ≠ 2
      · rw [if_pos hc26]
        unfold w_X9_takeThing_95
        refine ⟨b_2, eb_2, fun kk_b_2_1 => ?_⟩
        by_cases hc28 : gI σ74 b_2 2 ≠ 1
        · rw [if_pos hc28]
          unfold w_X9_takeThing_161
          refine ⟨o, hv2, fun kk_o => ?_⟩
          have q30 := I_5_6 iσ74.1 (ko.up (xσ71.trans (xσ106.trans xσ74)))
          by_cases hc29 : gI σ74 o 6 ≠ 11
          · rw [if_pos hc29]
            unfold w_X9_takeThing_180
            have q58 := iσ74.t5 (kb9.up xσ74)
            unfold tb at q58
            obtain ⟨N9, iσ74, hN9, hN93⟩ := iσ74.raise 6000 (by omega)
            have hn9 := hnσ106.n3 hN9 (by decide)
            have e9_1 := hN9 1 (by decide)
            have e9_5 := hN9 5 (by decide)
            have e9_14 := hN9 14 (by decide)
            have e9_44 := hN9 44 (by decide)
            have e9_74 := hN9 74 (by decide)
            have e9_11 := hN9 11 (by decide)
            have e9_12 := hN9 12 (by decide)
            have e9_41 := hN9 41 (by decide)
            have e9_42 := hN9 42 (by decide)
            have e9_13 := hN9 13 (by decide)
            have e9_50 := hN9 50 (by decide)
            refine ⟨b, eb, fun kk_b_3 => ?_⟩
            refine ⟨W, (kp23.trans (kp14.trans (kp6.trans hw))), fun kk_W => ?_⟩
            have q31 := iσ74.rg b 3; unfold rng at q31
            refine i1_X11_accept iσ74 (kW.up (xσ71.trans (xσ106.trans xσ74))) hv2 (ko.up (xσ71.trans (xσ106.trans xσ74))) hv1 (kt.up (xσ71.trans (xσ106.trans xσ74))) eb_2 (kb9.up xσ74) (by (first | omega | with_reducible assumption | with_reducible exact rng_toInt _ | with_reducible exact rng_wr _ | (unfold rng; omega) | (unfold rng at *; omega) | assumption)) (by (first | omega | with_reducible assumption | with_reducible exact rng_toInt _ | with_reducible exact rng_wr _ | (unfold rng; omega) | (unfold rng at *; omega) | assumption)) (by (first | omega | with_reducible assumption | with_reducible exact rng_toInt _ | with_reducible exact rng_wr _ | (unfold rng; omega) | (unfold rng at *; omega) | assumption)) (kp21.trans (kp12.trans (kp5.trans hWJ))) (kJ.up (xσ71.trans (xσ106.trans xσ74))) (by (first | omega | with_reducible assumption | with_reducible exact rng_toInt _ | with_reducible exact rng_wr _ | (unfold rng; omega) | (unfold rng at *; omega) | assumption)) (by (first | omega | with_reducible assumption | with_reducible exact rng_toInt _ | with_reducible exact rng_wr _ | (unfold rng; omega) | (unfold rng at *; omega) | assumption)) (by (first | omega | with_reducible assumption | with_reducible exact rng_toInt _ | with_reducible exact rng_wr _ | (unfold rng; omega) | (unfold rng at *; omega) | assumption)) (by (first | omega | with_reducible assumption | with_reducible exact rng_toInt _ | with_reducible exact rng_wr _ | (unfold rng; omega) | (unfold rng at *; omega) | assumption)) (by (first | omega | with_reducible assumption | with_reducible exact rng_toInt _ | with_reducible exact rng_wr _ | (unfold rng; omega) | (unfold rng at *; omega) | assumption)) (by (first | omega | with_reducible assumption | with_reducible exact rng_toInt _ | with_reducible exact rng_wr _ | (unfold rng; omega) | (unfold rng at *; omega) | assumption)) (by (first | omega | with_reducible assumption | with_reducible exact rng_toInt _ | with_reducible exact rng_wr _ | (unfold rng; omega) | (unfold rng at *; omega) | assumption)) (by (first | omega | with_reducible assumption | with_reducible exact rng_toInt _ | with_reducible exact rng_wr _ | (unfold rng; omega) | (unfold rng at *; omega) | assumption)) (by (first | omega | with_reducible assumption | with_reducible exact rng_toInt _ | with_reducible exact rng_wr _ | (unfold rng; omega) | (unfold rng at *; omega) | assumption)) (by omega) (fun σ102 LLσ102 Nσ102 nuσ102 _ iσ102 cσ102 uσ102 hσ102 pσ102 => ?_) (fun σx LLx Nx nux E ix cx ux px => hX σx gq ci LLx Nx nux E ix geσ (fσ74.tr (cx.mo (by decide))) (nu_σ106.x ux) (by first | exact px | exact ⟨by have := px.1; omega, (Hn.nz hn9 (by first | decide | (intro x hx; simp only [List.mem_cons, List.mem_nil_iff, or_false] at hx; omega))).tr px.2.1, px.2.2⟩ | (first | omega | with_reducible assumption | with_reducible exact rng_toInt _ | with_reducible exact rng_wr _ | (unfold rng; omega) | (unfold rng at *; omega) | assumption)))
            intro xσ102
            have fσ102 : Fx [1, 2, 3, 4, 5, 6, 7, 64, 132, 133, 192, 193, 195, 196, 197, 198, 199, 200, 201, 265, 266, 512, 513, 514, 590, 640, 641, 645, 646, 647, 648, 649, 650, 651, 652, 653, 654, 655, 708, 6464, 7680] gr σ σ102 := fσ74.tr (cσ102.mo (by decide))
            have hnσ102 : Hn (gD σ) [3, 5, 11, 12, 13, 14, 50, 60, 61, 62, 63, 64, 65, 66, 67, 68, 69, 70, 71, 21, 22, 31, 32] [] gq LL LLσ102 N Nσ102 := hn9.go (hσ102.ge (fun a ha => (geσ a ha).1) (fun d hd => (fσ74.1 d hd).1)) (fun _ hd => hd) (by first | decide | exact fun _ h => h | (simp; done) | (intro x hx; simp only [List.mem_cons, List.mem_nil_iff, or_false] at hx ⊢; omega)) (fun d hd => by rw [List.mem_singleton.mp hd]; exact lo_b_2)
            have nσ102_3 := hσ102.2.2 3 (by first | decide | (simp; done) | (simp only [List.mem_cons, List.mem_nil_iff, or_false, not_or]; omega)) (by first | decide | omega) (by first | decide | omega) (by first | decide | omega)
            have nσ102_5 := hσ102.2.2 5 (by first | decide | (simp; done) | (simp only [List.mem_cons, List.mem_nil_iff, or_false, not_or]; omega)) (by first | decide | omega) (by first | decide | omega) (by first | decide | omega)
            have nσ102_44 := hσ102.2.2 44 (by first | decide | (simp; done) | (simp only [List.mem_cons, List.mem_nil_iff, or_false, not_or]; omega)) (by first | decide | omega) (by first | decide | omega) (by first | decide | omega)
            have nσ102_74 := hσ102.2.2 74 (by first | decide | (simp; done) | (simp only [List.mem_cons, List.mem_nil_iff, or_false, not_or]; omega)) (by first | decide | omega) (by first | decide | omega) (by first | decide | omega)
            have nσ102_41 := hσ102.2.2 41 (by first | decide | (simp; done) | (simp only [List.mem_cons, List.mem_nil_iff, or_false, not_or]; omega)) (by first | decide | omega) (by first | decide | omega) (by first | decide | omega)
            have nσ102_42 := hσ102.2.2 42 (by first | decide | (simp; done) | (simp only [List.mem_cons, List.mem_nil_iff, or_false, not_or]; omega)) (by first | decide | omega) (by first | decide | omega) (by first | decide | omega)
            have nσ102_13 := hσ102.2.2 13 (by first | decide | (simp; done) | (simp only [List.mem_cons, List.mem_nil_iff, or_false, not_or]; omega)) (by first | decide | omega) (by first | decide | omega) (by first | decide | omega)
            have nσ102_50 := hσ102.2.2 50 (by first | decide | (simp; done) | (simp only [List.mem_cons, List.mem_nil_iff, or_false, not_or]; omega)) (by first | decide | omega) (by first | decide | omega) (by first | decide | omega)
            have nu_σ102 : NU nu nuσ102 := nu_σ106.tr uσ102
            have uσ102_0 := uσ102.1 0 (by decide)
            have uσ102_1 := uσ102.1 1 (by decide)
            have uσ102_2 := uσ102.2
            have uσ102_5 := uσ102.1 5 (by decide)
            have uσ102_15 := uσ102.1 15 (by decide)
            have uσ102_16 := uσ102.1 16 (by decide)
            have kp32 : gI σ102 b 3 = gI σ74 b 3 := (cσ102.O (knb.up (xσ106.trans xσ74)) (by decide)).1
            have kp33 : gI σ102 o 6 = gI σ74 o 6 := (cσ102.O (ko.up (xσ71.trans (xσ106.trans xσ74))) (by decide)).1
            have kp34 : gI σ102 t 0 = gI σ74 t 0 := (cσ102.O (kt.up (xσ71.trans (xσ106.trans xσ74))) (by decide)).1
            have kp35 : gI σ102 t 8 = gI σ74 t 8 := (cσ102.O (kt.up (xσ71.trans (xσ106.trans xσ74))) (by decide)).1
            have kp36 : gI σ102 th 12 = gI σ74 th 12 := (cσ102.O (kth.up (xσ71.trans (xσ106.trans xσ74))) (by decide)).1
            have kp37 : gP σ102 W 5 = gP σ74 W 5 := (cσ102.O (kW.up (xσ71.trans (xσ106.trans xσ74))) (by decide)).2.1
            have kp38 : gP σ102 b 0 = gP σ74 b 0 := (cσ102.O (knb.up (xσ106.trans xσ74)) (by decide)).2.1
            have kp39 : gP σ102 th 1 = gP σ74 th 1 := (cσ102.O (kth.up (xσ71.trans (xσ106.trans xσ74))) (by decide)).2.1
            have kp40 : gP σ102 th 9 = gP σ74 th 9 := (cσ102.O (kth.up (xσ71.trans (xσ106.trans xσ74))) (by decide)).2.1
            refine i_X9_sendMade iσ102 (kth.up (xσ71.trans (xσ106.trans (xσ74.trans xσ102)))) hv1 (kt.up (xσ71.trans (xσ106.trans (xσ74.trans xσ102)))) (by (first | omega | with_reducible assumption | with_reducible exact rng_toInt _ | with_reducible exact rng_wr _ | (unfold rng; omega) | (unfold rng at *; omega) | assumption)) (by (first | omega | with_reducible assumption | with_reducible exact rng_toInt _ | with_reducible exact rng_wr _ | (unfold rng; omega) | (unfold rng at *; omega) | assumption)) (kp40.trans (kp24.trans (kp15.trans (kp7.trans hj)))) (kJ.up (xσ71.trans (xσ106.trans (xσ74.trans xσ102)))) (by (first | omega | with_reducible assumption | with_reducible exact rng_toInt _ | with_reducible exact rng_wr _ | (unfold rng; omega) | (unfold rng at *; omega) | assumption)) (by (first | omega | with_reducible assumption | with_reducible exact rng_toInt _ | with_reducible exact rng_wr _ | (unfold rng; omega) | (unfold rng at *; omega) | assumption)) (by (first | omega | with_reducible assumption | with_reducible exact rng_toInt _ | with_reducible exact rng_wr _ | (unfold rng; omega) | (unfold rng at *; omega) | assumption)) (by (first | omega | with_reducible assumption | with_reducible exact rng_toInt _ | with_reducible exact rng_wr _ | (unfold rng; omega) | (unfold rng at *; omega) | assumption)) (fun σ104 LLσ104 Nσ104 nuσ104 _ iσ104 cσ104 uσ104 hσ104 pσ104 => ?_) (fun σx LLx Nx nux E ix cx ux px => hX σx gq ci LLx Nx nux E ix geσ (fσ102.tr (cx.mo (by decide))) (nu_σ102.x ux) (by first | exact px | exact ⟨by have := px.1; omega, (Hn.nz hnσ102 (by first | decide | (intro x hx; simp only [List.mem_cons, List.mem_nil_iff, or_false] at hx; omega))).tr px.2.1, px.2.2⟩ | (first | omega | with_reducible assumption | with_reducible exact rng_toInt _ | with_reducible exact rng_wr _ | (unfold rng; omega) | (unfold rng at *; omega) | assumption)))
            intro xσ104
            have fσ104 : Fx [1, 2, 3, 4, 5, 6, 7, 64, 132, 133, 192, 193, 195, 196, 197, 198, 199, 200, 201, 265, 266, 512, 513, 514, 590, 640, 641, 645, 646, 647, 648, 649, 650, 651, 652, 653, 654, 655, 708, 6464, 7680] gr σ σ104 := fσ102.tr (cσ104.mo (by decide))
            have hnσ104 : Hn (gD σ) [3, 5, 11, 12, 13, 14, 50, 60, 61, 62, 63, 64, 65, 66, 67, 68, 69, 70, 71, 21, 22, 31, 32] [] gq LL LLσ104 N Nσ104 := hnσ102.go (hσ104.ge (fun a ha => (geσ a ha).1) (fun d hd => (fσ102.1 d hd).1)) (fun _ hd => hd) (by first | decide | exact fun _ h => h | (simp; done) | (intro x hx; simp only [List.mem_cons, List.mem_nil_iff, or_false] at hx ⊢; omega)) (fun d hd => absurd hd (by simp))
            have nσ104_3 := hσ104.2.2 3 (by first | decide | (simp; done) | (simp only [List.mem_cons, List.mem_nil_iff, or_false, not_or]; omega)) (by first | decide | omega) (by first | decide | omega) (by first | decide | omega)
            have nσ104_5 := hσ104.2.2 5 (by first | decide | (simp; done) | (simp only [List.mem_cons, List.mem_nil_iff, or_false, not_or]; omega)) (by first | decide | omega) (by first | decide | omega) (by first | decide | omega)
            have nσ104_44 := hσ104.2.2 44 (by first | decide | (simp; done) | (simp only [List.mem_cons, List.mem_nil_iff, or_false, not_or]; omega)) (by first | decide | omega) (by first | decide | omega) (by first | decide | omega)
            have nσ104_74 := hσ104.2.2 74 (by first | decide | (simp; done) | (simp only [List.mem_cons, List.mem_nil_iff, or_false, not_or]; omega)) (by first | decide | omega) (by first | decide | omega) (by first | decide | omega)
            have nσ104_11 := hσ104.2.2 11 (by first | decide | (simp; done) | (simp only [List.mem_cons, List.mem_nil_iff, or_false, not_or]; omega)) (by first | decide | omega) (by first | decide | omega) (by first | decide | omega)
            have nσ104_12 := hσ104.2.2 12 (by first | decide | (simp; done) | (simp only [List.mem_cons, List.mem_nil_iff, or_false, not_or]; omega)) (by first | decide | omega) (by first | decide | omega) (by first | decide | omega)
            have nσ104_41 := hσ104.2.2 41 (by first | decide | (simp; done) | (simp only [List.mem_cons, List.mem_nil_iff, or_false, not_or]; omega)) (by first | decide | omega) (by first | decide | omega) (by first | decide | omega)
            have nσ104_42 := hσ104.2.2 42 (by first | decide | (simp; done) | (simp only [List.mem_cons, List.mem_nil_iff, or_false, not_or]; omega)) (by first | decide | omega) (by first | decide | omega) (by first | decide | omega)
            have nσ104_50 := hσ104.2.2 50 (by first | decide | (simp; done) | (simp only [List.mem_cons, List.mem_nil_iff, or_false, not_or]; omega)) (by first | decide | omega) (by first | decide | omega) (by first | decide | omega)
            have nu_σ104 : NU nu nuσ104 := nu_σ102.tr uσ104
            have uσ104_0 := uσ104.1 0 (by decide)
            have uσ104_1 := uσ104.1 1 (by decide)
            have uσ104_2 := uσ104.2
            have uσ104_5 := uσ104.1 5 (by decide)
            have uσ104_15 := uσ104.1 15 (by decide)
            have uσ104_16 := uσ104.1 16 (by decide)
            have kp41 : gI σ104 b 3 = gI σ102 b 3 := (cσ104.O (knb.up (xσ106.trans (xσ74.trans xσ102))) (by decide)).1
            have kp42 : gI σ104 o 6 = gI σ102 o 6 := (cσ104.O (ko.up (xσ71.trans (xσ106.trans (xσ74.trans xσ102)))) (by decide)).1
            have kp43 : gI σ104 t 0 = gI σ102 t 0 := (cσ104.O (kt.up (xσ71.trans (xσ106.trans (xσ74.trans xσ102)))) (by decide)).1
            have kp44 : gI σ104 t 8 = gI σ102 t 8 := (cσ104.O (kt.up (xσ71.trans (xσ106.trans (xσ74.trans xσ102)))) (by decide)).1
            have kp45 : gI σ104 th 12 = gI σ102 th 12 := (cσ104.O (kth.up (xσ71.trans (xσ106.trans (xσ74.trans xσ102)))) (by decide)).1
            have kp46 : gP σ104 W 5 = gP σ102 W 5 := (cσ104.O (kW.up (xσ71.trans (xσ106.trans (xσ74.trans xσ102)))) (by decide)).2.1
            have kp47 : gP σ104 b 0 = gP σ102 b 0 := (cσ104.O (knb.up (xσ106.trans (xσ74.trans xσ102))) (by decide)).2.1
            have kp48 : gP σ104 th 1 = gP σ102 th 1 := (cσ104.O (kth.up (xσ71.trans (xσ106.trans (xσ74.trans xσ102)))) (by decide)).2.1
            have kp49 : gP σ104 th 9 = gP σ102 th 9 := (cσ104.O (kth.up (xσ71.trans (xσ106.trans (xσ74.trans xσ102)))) (by decide)).2.1
            unfold w_X9_takeThing_200
            exact hQ σ104 gq ci LLσ104 Nσ104 nuσ104 1 iσ104 geσ fσ104 (nu_σ104) hnσ104 (by (first | omega | with_reducible assumption | with_reducible exact rng_toInt _ | with_reducible exact rng_wr _ | (unfold rng; omega) | (unfold rng at *; omega) | assumption))
          · rw [if_neg hc29]
            have hc29q := Classical.not_not.mp hc29
            unfold w_X9_takeThing_170
            refine i_X9_putOut iσ74 (kth.up (xσ71.trans (xσ106.trans xσ74))) hv2 (ko.up (xσ71.trans (xσ106.trans xσ74))) eb_2 (kb9.up xσ74) (by (first | omega | with_reducible assumption | with_reducible exact rng_toInt _ | with_reducible exact rng_wr _ | (unfold rng; omega) | (unfold rng at *; omega) | assumption)) (by (first | omega | with_reducible assumption | with_reducible exact rng_toInt _ | with_reducible exact rng_wr _ | (unfold rng; omega) | (unfold rng at *; omega) | assumption)) (by (first | omega | with_reducible assumption | with_reducible exact rng_toInt _ | with_reducible exact rng_wr _ | (unfold rng; omega) | (unfold rng at *; omega) | assumption)) (by (first | omega | with_reducible assumption | with_reducible exact rng_toInt _ | with_reducible exact rng_wr _ | (unfold rng; omega) | (unfold rng at *; omega) | assumption)) (by omega) (by (first | omega | with_reducible assumption | with_reducible exact rng_toInt _ | with_reducible exact rng_wr _ | (unfold rng; omega) | (unfold rng at *; omega) | assumption)) (fun σ100 LLσ100 Nσ100 nuσ100 _ iσ100 cσ100 uσ100 hσ100 pσ100 => ?_) (fun σx LLx Nx nux E ix cx ux px => hX σx gq ci LLx Nx nux E ix geσ (fσ74.tr (cx.mo (by decide))) (nu_σ106.x ux) (by first | exact px | exact ⟨by have := px.1; omega, (Hn.nz hnσ106 (by first | decide | (intro x hx; simp only [List.mem_cons, List.mem_nil_iff, or_false] at hx; omega))).tr px.2.1, px.2.2⟩ | (first | omega | with_reducible assumption | with_reducible exact rng_toInt _ | with_reducible exact rng_wr _ | (unfold rng; omega) | (unfold rng at *; omega) | assumption)))
            intro xσ100
            have fσ100 : Fx [1, 2, 3, 4, 5, 6, 7, 64, 132, 133, 192, 193, 195, 196, 197, 198, 199, 200, 201, 265, 266, 512, 513, 514, 590, 640, 641, 645, 646, 647, 648, 649, 650, 651, 652, 653, 654, 655, 708, 6464, 7680] gr σ σ100 := fσ74.tr (cσ100.mo (by decide))
            have hnσ100 : Hn (gD σ) [3, 5, 11, 12, 13, 14, 50, 60, 61, 62, 63, 64, 65, 66, 67, 68, 69, 70, 71, 21, 22, 31, 32] [] gq LL LLσ100 N Nσ100 := hnσ106.go (hσ100.ge (fun a ha => (geσ a ha).1) (fun d hd => (fσ74.1 d hd).1)) (fun _ hd => hd) (by first | decide | exact fun _ h => h | (simp; done) | (intro x hx; simp only [List.mem_cons, List.mem_nil_iff, or_false] at hx ⊢; omega)) (fun d hd => by rw [List.mem_singleton.mp hd]; exact lo_b_2)
            have nσ100_3 := hσ100.2.2 3 (by first | decide | (simp; done) | (simp only [List.mem_cons, List.mem_nil_iff, or_false, not_or]; omega)) (by first | decide | omega) (by first | decide | omega) (by first | decide | omega)
            have nσ100_5 := hσ100.2.2 5 (by first | decide | (simp; done) | (simp only [List.mem_cons, List.mem_nil_iff, or_false, not_or]; omega)) (by first | decide | omega) (by first | decide | omega) (by first | decide | omega)
            have nσ100_14 := hσ100.2.2 14 (by first | decide | (simp; done) | (simp only [List.mem_cons, List.mem_nil_iff, or_false, not_or]; omega)) (by first | decide | omega) (by first | decide | omega) (by first | decide | omega)
            have nσ100_44 := hσ100.2.2 44 (by first | decide | (simp; done) | (simp only [List.mem_cons, List.mem_nil_iff, or_false, not_or]; omega)) (by first | decide | omega) (by first | decide | omega) (by first | decide | omega)
            have nσ100_74 := hσ100.2.2 74 (by first | decide | (simp; done) | (simp only [List.mem_cons, List.mem_nil_iff, or_false, not_or]; omega)) (by first | decide | omega) (by first | decide | omega) (by first | decide | omega)
            have nσ100_11 := hσ100.2.2 11 (by first | decide | (simp; done) | (simp only [List.mem_cons, List.mem_nil_iff, or_false, not_or]; omega)) (by first | decide | omega) (by first | decide | omega) (by first | decide | omega)
            have nσ100_12 := hσ100.2.2 12 (by first | decide | (simp; done) | (simp only [List.mem_cons, List.mem_nil_iff, or_false, not_or]; omega)) (by first | decide | omega) (by first | decide | omega) (by first | decide | omega)
            have nσ100_41 := hσ100.2.2 41 (by first | decide | (simp; done) | (simp only [List.mem_cons, List.mem_nil_iff, or_false, not_or]; omega)) (by first | decide | omega) (by first | decide | omega) (by first | decide | omega)
            have nσ100_42 := hσ100.2.2 42 (by first | decide | (simp; done) | (simp only [List.mem_cons, List.mem_nil_iff, or_false, not_or]; omega)) (by first | decide | omega) (by first | decide | omega) (by first | decide | omega)
            have nσ100_13 := hσ100.2.2 13 (by first | decide | (simp; done) | (simp only [List.mem_cons, List.mem_nil_iff, or_false, not_or]; omega)) (by first | decide | omega) (by first | decide | omega) (by first | decide | omega)
            have nσ100_50 := hσ100.2.2 50 (by first | decide | (simp; done) | (simp only [List.mem_cons, List.mem_nil_iff, or_false, not_or]; omega)) (by first | decide | omega) (by first | decide | omega) (by first | decide | omega)
            have nu_σ100 : NU nu nuσ100 := nu_σ106.tr uσ100
            have uσ100_0 := uσ100.1 0 (by decide)
            have uσ100_1 := uσ100.1 1 (by decide)
            have uσ100_2 := uσ100.2
            have uσ100_5 := uσ100.1 5 (by decide)
            have uσ100_15 := uσ100.1 15 (by decide)
            have uσ100_16 := uσ100.1 16 (by decide)
            have kp50 : gI σ100 b_2 2 = gI σ74 b_2 2 := (cσ100.O (kb9.up xσ74) (by decide)).1
            have kp51 : gI σ100 o 6 = gI σ74 o 6 := (cσ100.O (ko.up (xσ71.trans (xσ106.trans xσ74))) (by decide)).1
            have kp52 : gI σ100 t 0 = gI σ74 t 0 := (cσ100.O (kt.up (xσ71.trans (xσ106.trans xσ74))) (by decide)).1
            have kp53 : gI σ100 t 8 = gI σ74 t 8 := (cσ100.O (kt.up (xσ71.trans (xσ106.trans xσ74))) (by decide)).1
            have kp54 : gI σ100 th 12 = gI σ74 th 12 := (cσ100.O (kth.up (xσ71.trans (xσ106.trans xσ74))) (by decide)).1
            have kp55 : gP σ100 W 5 = gP σ74 W 5 := (cσ100.O (kW.up (xσ71.trans (xσ106.trans xσ74))) (by decide)).2.1
            have kp56 : gP σ100 b 0 = gP σ74 b 0 := (cσ100.O (knb.up (xσ106.trans xσ74)) (by decide)).2.1
            have kp57 : gP σ100 th 1 = gP σ74 th 1 := (cσ100.O (kth.up (xσ71.trans (xσ106.trans xσ74))) (by decide)).2.1
            have kp58 : gP σ100 th 9 = gP σ74 th 9 := (cσ100.O (kth.up (xσ71.trans (xσ106.trans xσ74))) (by decide)).2.1
            unfold w_X9_takeThing_200
            exact hQ σ100 gq ci LLσ100 Nσ100 nuσ100 1 iσ100 geσ fσ100 (nu_σ100) hnσ100 (by (first | omega | with_reducible assumption | with_reducible exact rng_toInt _ | with_reducible exact rng_wr _ | (unfold rng; omega) | (unfold rng at *; omega) | assumption))
        · rw [if_neg hc28]
          have hc28q := Classical.not_not.mp hc28
          unfold w_X9_takeThing_104
          refine ⟨b_2, eb_2, fun kk_b_2_2 => ?_⟩
          refine ⟨b, eb, fun kk_b_4 => ?_⟩
          intro σ89 eσ89
          have xσ89 : Ext σ74 σ89 := by rw [eσ89]; exact fun _ h => ⟨h, rfl, rfl⟩
          have iσ89 : IV σ89 pl gq ci gr nc ot LLσ106 Nσ106 nuσ106 := by rw [eσ89]; exact iσ74.wT (knb.up (xσ106.trans xσ74)) (by decide) (iσ74.t5 (kb9.up xσ74))
          have fσ89 : Fx [1, 2, 3, 4, 5, 6, 7, 64, 132, 133, 192, 193, 195, 196, 197, 198, 199, 200, 201, 265, 266, 512, 513, 514, 590, 640, 641, 645, 646, 647, 648, 649, 650, 651, 652, 653, 654, 655, 708, 6464, 7680] gr σ σ89 := fσ74.tr (Sk.fx (by rw [eσ89]; exact Sk.pJ (by rw [fcdO (knb.up (xσ106.trans xσ74)) (by decide)]; decide)))
          have kp59 : gI σ89 b_2 2 = gI σ74 b_2 2 := by rw [eσ89]
          have kp60 : gI σ89 t 0 = gI σ74 t 0 := by rw [eσ89]
          have kp61 : gI σ89 t 8 = gI σ74 t 8 := by rw [eσ89]
          have kp62 : gI σ89 th 12 = gI σ74 th 12 := by rw [eσ89]
          have kp63 : gP σ89 W 5 = gP σ74 W 5 := by rw [eσ89]
          have kp64 : gP σ89 b 0 = gP σ74 b 0 := by rw [eσ89]
          have kp65 : gP σ89 th 1 = gP σ74 th 1 := by rw [eσ89]
          have kp66 : gP σ89 th 9 = gP σ74 th 9 := by rw [eσ89]
          have kp67 : gI σ89 o 6 = gI σ74 o 6 := by rw [eσ89]
          obtain ⟨b_3, eb_3⟩ := P_9_0 iσ89.1 (kth.up (xσ71.trans (xσ106.trans (xσ74.trans xσ89))))
          refine ⟨b_3, eb_3, fun kk_b_3_1 => ?_⟩
          refine i_X8_release iσ89 kk_b_3_1 eb_2 (kb9.up (xσ74.trans xσ89)) (by (first | omega | with_reducible assumption | with_reducible exact rng_toInt _ | with_reducible exact rng_wr _ | (unfold rng; omega) | (unfold rng at *; omega) | assumption)) (by (first | omega | with_reducible assumption | with_reducible exact rng_toInt _ | with_reducible exact rng_wr _ | (unfold rng; omega) | (unfold rng at *; omega) | assumption)) (fun σ90 LLσ90 Nσ90 nuσ90 _ iσ90 cσ90 uσ90 hσ90 pσ90 => ?_)
          intro xσ90
          have fσ90 : Fx [1, 2, 3, 4, 5, 6, 7, 64, 132, 133, 192, 193, 195, 196, 197, 198, 199, 200, 201, 265, 266, 512, 513, 514, 590, 640, 641, 645, 646, 647, 648, 649, 650, 651, 652, 653, 654, 655, 708, 6464, 7680] gr σ σ90 := fσ89.tr (cσ90.mo (by decide))
          have hnσ90 : Hn (gD σ) [3, 5, 11, 12, 13, 14, 50, 60, 61, 62, 63, 64, 65, 66, 67, 68, 69, 70, 71, 21, 22, 31, 32] [] gq LL LLσ90 N Nσ90 := hnσ106.go (hσ90.ge (fun a ha => (geσ a ha).1) (fun d hd => (fσ89.1 d hd).1)) (fun _ hd => hd) (by first | decide | exact fun _ h => h | (simp; done) | (intro x hx; simp only [List.mem_cons, List.mem_nil_iff, or_false] at hx ⊢; omega)) (fun d hd => by rw [List.mem_singleton.mp hd]; exact lo_b_2)
          have nσ90_3 := hσ90.2.2 3 (by first | decide | (simp; done) | (simp only [List.mem_cons, List.mem_nil_iff, or_false, not_or]; omega)) (by first | decide | omega) (by first | decide | omega) (by first | decide | omega)
          have nσ90_5 := hσ90.2.2 5 (by first | decide | (simp; done) | (simp only [List.mem_cons, List.mem_nil_iff, or_false, not_or]; omega)) (by first | decide | omega) (by first | decide | omega) (by first | decide | omega)
          have nσ90_14 := hσ90.2.2 14 (by first | decide | (simp; done) | (simp only [List.mem_cons, List.mem_nil_iff, or_false, not_or]; omega)) (by first | decide | omega) (by first | decide | omega) (by first | decide | omega)
          have nσ90_44 := hσ90.2.2 44 (by first | decide | (simp; done) | (simp only [List.mem_cons, List.mem_nil_iff, or_false, not_or]; omega)) (by first | decide | omega) (by first | decide | omega) (by first | decide | omega)
          have nσ90_74 := hσ90.2.2 74 (by first | decide | (simp; done) | (simp only [List.mem_cons, List.mem_nil_iff, or_false, not_or]; omega)) (by first | decide | omega) (by first | decide | omega) (by first | decide | omega)
          have nσ90_11 := hσ90.2.2 11 (by first | decide | (simp; done) | (simp only [List.mem_cons, List.mem_nil_iff, or_false, not_or]; omega)) (by first | decide | omega) (by first | decide | omega) (by first | decide | omega)
          have nσ90_12 := hσ90.2.2 12 (by first | decide | (simp; done) | (simp only [List.mem_cons, List.mem_nil_iff, or_false, not_or]; omega)) (by first | decide | omega) (by first | decide | omega) (by first | decide | omega)
          have nσ90_41 := hσ90.2.2 41 (by first | decide | (simp; done) | (simp only [List.mem_cons, List.mem_nil_iff, or_false, not_or]; omega)) (by first | decide | omega) (by first | decide | omega) (by first | decide | omega)
          have nσ90_42 := hσ90.2.2 42 (by first | decide | (simp; done) | (simp only [List.mem_cons, List.mem_nil_iff, or_false, not_or]; omega)) (by first | decide | omega) (by first | decide | omega) (by first | decide | omega)
          have nσ90_13 := hσ90.2.2 13 (by first | decide | (simp; done) | (simp only [List.mem_cons, List.mem_nil_iff, or_false, not_or]; omega)) (by first | decide | omega) (by first | decide | omega) (by first | decide | omega)
          have nσ90_50 := hσ90.2.2 50 (by first | decide | (simp; done) | (simp only [List.mem_cons, List.mem_nil_iff, or_false, not_or]; omega)) (by first | decide | omega) (by first | decide | omega) (by first | decide | omega)
          have nu_σ90 : NU nu nuσ90 := nu_σ106.tr uσ90
          have uσ90_0 := uσ90.1 0 (by decide)
          have uσ90_1 := uσ90.1 1 (by decide)
          have uσ90_2 := uσ90.2
          have uσ90_5 := uσ90.1 5 (by decide)
          have uσ90_15 := uσ90.1 15 (by decide)
          have uσ90_16 := uσ90.1 16 (by decide)
          have kp68 : gI σ90 b_2 2 = gI σ89 b_2 2 := (cσ90.O (kb9.up (xσ74.trans xσ89)) (by decide)).1
          have kp69 : gI σ90 t 0 = gI σ89 t 0 := (cσ90.O (kt.up (xσ71.trans (xσ106.trans (xσ74.trans xσ89)))) (by decide)).1
          have kp70 : gI σ90 t 8 = gI σ89 t 8 := (cσ90.O (kt.up (xσ71.trans (xσ106.trans (xσ74.trans xσ89)))) (by decide)).1
          have kp71 : gI σ90 th 12 = gI σ89 th 12 := (cσ90.O (kth.up (xσ71.trans (xσ106.trans (xσ74.trans xσ89)))) (by decide)).1
          have kp72 : gP σ90 W 5 = gP σ89 W 5 := (cσ90.O (kW.up (xσ71.trans (xσ106.trans (xσ74.trans xσ89)))) (by decide)).2.1
          have kp73 : gP σ90 b 0 = gP σ89 b 0 := (cσ90.O (knb.up (xσ106.trans (xσ74.trans xσ89))) (by decide)).2.1
          have kp74 : gP σ90 th 0 = gP σ89 th 0 := (cσ90.O (kth.up (xσ71.trans (xσ106.trans (xσ74.trans xσ89)))) (by decide)).2.1
          have kp75 : gP σ90 th 1 = gP σ89 th 1 := (cσ90.O (kth.up (xσ71.trans (xσ106.trans (xσ74.trans xσ89)))) (by decide)).2.1
          have kp76 : gP σ90 th 9 = gP σ89 th 9 := (cσ90.O (kth.up (xσ71.trans (xσ106.trans (xσ74.trans xσ89)))) (by decide)).2.1
          have kp77 : gI σ90 o 6 = gI σ89 o 6 := (cσ90.O (ko.up (xσ71.trans (xσ106.trans (xσ74.trans xσ89)))) (by decide)).1
          refine i_X9_hasGrown iσ90 (kth.up (xσ71.trans (xσ106.trans (xσ74.trans (xσ89.trans xσ90))))) hv1 (kt.up (xσ71.trans (xσ106.trans (xσ74.trans (xσ89.trans xσ90))))) (by (first | omega | with_reducible assumption | with_reducible exact rng_toInt _ | with_reducible exact rng_wr _ | (unfold rng; omega) | (unfold rng at *; omega) | assumption)) (by (first | omega | with_reducible assumption | with_reducible exact rng_toInt _ | with_reducible exact rng_wr _ | (unfold rng; omega) | (unfold rng at *; omega) | assumption)) (fun σ92 r93 iσ92 cσ92 pσ92 => ?_)
          intro xσ92
          have fσ92 : Fx [1, 2, 3, 4, 5, 6, 7, 64, 132, 133, 192, 193, 195, 196, 197, 198, 199, 200, 201, 265, 266, 512, 513, 514, 590, 640, 641, 645, 646, 647, 648, 649, 650, 651, 652, 653, 654, 655, 708, 6464, 7680] gr σ σ92 := fσ90.tr (cσ92.mo (by decide))
          have kp78 : gI σ92 b_2 2 = gI σ90 b_2 2 := (cσ92.O (kb9.up (xσ74.trans (xσ89.trans xσ90))) (by decide)).1
          have kp79 : gI σ92 t 0 = gI σ90 t 0 := (cσ92.O (kt.up (xσ71.trans (xσ106.trans (xσ74.trans (xσ89.trans xσ90))))) (by decide)).1
          have kp80 : gI σ92 t 8 = gI σ90 t 8 := (cσ92.O (kt.up (xσ71.trans (xσ106.trans (xσ74.trans (xσ89.trans xσ90))))) (by decide)).1
          have kp81 : gI σ92 th 12 = gI σ90 th 12 := (cσ92.O (kth.up (xσ71.trans (xσ106.trans (xσ74.trans (xσ89.trans xσ90))))) (by decide)).1
          have kp82 : gP σ92 W 5 = gP σ90 W 5 := (cσ92.O (kW.up (xσ71.trans (xσ106.trans (xσ74.trans (xσ89.trans xσ90))))) (by decide)).2.1
          have kp83 : gP σ92 b 0 = gP σ90 b 0 := (cσ92.O (knb.up (xσ106.trans (xσ74.trans (xσ89.trans xσ90)))) (by decide)).2.1
          have kp84 : gP σ92 th 0 = gP σ90 th 0 := (cσ92.O (kth.up (xσ71.trans (xσ106.trans (xσ74.trans (xσ89.trans xσ90))))) (by decide)).2.1
          have kp85 : gP σ92 th 1 = gP σ90 th 1 := (cσ92.O (kth.up (xσ71.trans (xσ106.trans (xσ74.trans (xσ89.trans xσ90))))) (by decide)).2.1
          have kp86 : gP σ92 th 9 = gP σ90 th 9 := (cσ92.O (kth.up (xσ71.trans (xσ106.trans (xσ74.trans (xσ89.trans xσ90))))) (by decide)).2.1
          have kp87 : gI σ92 o 6 = gI σ90 o 6 := (cσ92.O (ko.up (xσ71.trans (xσ106.trans (xσ74.trans (xσ89.trans xσ90))))) (by decide)).1
          by_cases hc88 : r93 = 0
          · rw [if_pos hc88]
            unfold w_X9_takeThing_200
            exact hQ σ92 gq ci LLσ90 Nσ90 nuσ90 1 iσ92 geσ fσ92 (nu_σ90) hnσ90 (by (first | omega | with_reducible assumption | with_reducible exact rng_toInt _ | with_reducible exact rng_wr _ | (unfold rng; omega) | (unfold rng at *; omega) | assumption))
          · rw [if_neg hc88]
            unfold w_X9_takeThing_130
            refine ⟨t, hv1, fun kk_t_1 => ?_⟩
            refine ⟨W, (kp85.trans (kp75.trans (kp65.trans (kp23.trans (kp14.trans (kp6.trans hw)))))), fun kk_W_1 => ?_⟩
            refine i1_X11_advance iσ92 (kW.up (xσ71.trans (xσ106.trans (xσ74.trans (xσ89.trans (xσ90.trans xσ92)))))) hv2 (ko.up (xσ71.trans (xσ106.trans (xσ74.trans (xσ89.trans (xσ90.trans xσ92)))))) hv1 (kt.up (xσ71.trans (xσ106.trans (xσ74.trans (xσ89.trans (xσ90.trans xσ92)))))) (by (first | omega | with_reducible assumption | with_reducible exact rng_toInt _ | with_reducible exact rng_wr _ | (unfold rng; omega) | (unfold rng at *; omega) | assumption)) (kp82.trans (kp72.trans (kp63.trans (kp21.trans (kp12.trans (kp5.trans hWJ)))))) (kJ.up (xσ71.trans (xσ106.trans (xσ74.trans (xσ89.trans (xσ90.trans xσ92)))))) (by (first | omega | with_reducible assumption | with_reducible exact rng_toInt _ | with_reducible exact rng_wr _ | (unfold rng; omega) | (unfold rng at *; omega) | assumption)) (by (first | omega | with_reducible assumption | with_reducible exact rng_toInt _ | with_reducible exact rng_wr _ | (unfold rng; omega) | (unfold rng at *; omega) | assumption)) (by (first | omega | with_reducible assumption | with_reducible exact rng_toInt _ | with_reducible exact rng_wr _ | (unfold rng; omega) | (unfold rng at *; omega) | assumption)) (by (first | omega | with_reducible assumption | with_reducible exact rng_toInt _ | with_reducible exact rng_wr _ | (unfold rng; omega) | (unfold rng at *; omega) | assumption)) (by (first | omega | with_reducible assumption | with_reducible exact rng_toInt _ | with_reducible exact rng_wr _ | (unfold rng; omega) | (unfold rng at *; omega) | assumption)) (by (first | omega | with_reducible assumption | with_reducible exact rng_toInt _ | with_reducible exact rng_wr _ | (unfold rng; omega) | (unfold rng at *; omega) | assumption)) (by (first | omega | with_reducible assumption | with_reducible exact rng_toInt _ | with_reducible exact rng_wr _ | (unfold rng; omega) | (unfold rng at *; omega) | assumption)) (by (first | omega | with_reducible assumption | with_reducible exact rng_toInt _ | with_reducible exact rng_wr _ | (unfold rng; omega) | (unfold rng at *; omega) | assumption)) (by (first | omega | with_reducible assumption | with_reducible exact rng_toInt _ | with_reducible exact rng_wr _ | (unfold rng; omega) | (unfold rng at *; omega) | assumption)) (by (first | omega | with_reducible assumption | with_reducible exact rng_toInt _ | with_reducible exact rng_wr _ | (unfold rng; omega) | (unfold rng at *; omega) | assumption)) (fun σ95 LLσ95 Nσ95 nuσ95 _ iσ95 cσ95 uσ95 hσ95 pσ95 => ?_) (fun σx LLx Nx nux E ix cx ux px => hX σx gq ci LLx Nx nux E ix geσ (fσ92.tr (cx.mo (by decide))) (nu_σ90.x ux) (by first | exact px | exact ⟨by have := px.1; omega, (Hn.nz hnσ90 (by first | decide | (intro x hx; simp only [List.mem_cons, List.mem_nil_iff, or_false] at hx; omega))).tr px.2.1, px.2.2⟩ | (first | omega | with_reducible assumption | with_reducible exact rng_toInt _ | with_reducible exact rng_wr _ | (unfold rng; omega) | (unfold rng at *; omega) | assumption)))
            intro xσ95
            have fσ95 : Fx [1, 2, 3, 4, 5, 6, 7, 64, 132, 133, 192, 193, 195, 196, 197, 198, 199, 200, 201, 265, 266, 512, 513, 514, 590, 640, 641, 645, 646, 647, 648, 649, 650, 651, 652, 653, 654, 655, 708, 6464, 7680] gr σ σ95 := fσ92.tr (cσ95.mo (by decide))
            have hnσ95 : Hn (gD σ) [3, 5, 11, 12, 13, 14, 50, 60, 61, 62, 63, 64, 65, 66, 67, 68, 69, 70, 71, 21, 22, 31, 32] [] gq LL LLσ95 N Nσ95 := hnσ90.go (hσ95.ge (fun a ha => (geσ a ha).1) (fun d hd => (fσ92.1 d hd).1)) (fun _ hd => hd) (by first | decide | exact fun _ h => h | (simp; done) | (intro x hx; simp only [List.mem_cons, List.mem_nil_iff, or_false] at hx ⊢; omega)) (fun d hd => absurd hd (by simp))
            have nσ95_5 := hσ95.2.2 5 (by first | decide | (simp; done) | (simp only [List.mem_cons, List.mem_nil_iff, or_false, not_or]; omega)) (by first | decide | omega) (by first | decide | omega) (by first | decide | omega)
            have nσ95_44 := hσ95.2.2 44 (by first | decide | (simp; done) | (simp only [List.mem_cons, List.mem_nil_iff, or_false, not_or]; omega)) (by first | decide | omega) (by first | decide | omega) (by first | decide | omega)
            have nσ95_74 := hσ95.2.2 74 (by first | decide | (simp; done) | (simp only [List.mem_cons, List.mem_nil_iff, or_false, not_or]; omega)) (by first | decide | omega) (by first | decide | omega) (by first | decide | omega)
            have nσ95_41 := hσ95.2.2 41 (by first | decide | (simp; done) | (simp only [List.mem_cons, List.mem_nil_iff, or_false, not_or]; omega)) (by first | decide | omega) (by first | decide | omega) (by first | decide | omega)
            have nσ95_42 := hσ95.2.2 42 (by first | decide | (simp; done) | (simp only [List.mem_cons, List.mem_nil_iff, or_false, not_or]; omega)) (by first | decide | omega) (by first | decide | omega) (by first | decide | omega)
            have nσ95_13 := hσ95.2.2 13 (by first | decide | (simp; done) | (simp only [List.mem_cons, List.mem_nil_iff, or_false, not_or]; omega)) (by first | decide | omega) (by first | decide | omega) (by first | decide | omega)
            have nσ95_50 := hσ95.2.2 50 (by first | decide | (simp; done) | (simp only [List.mem_cons, List.mem_nil_iff, or_false, not_or]; omega)) (by first | decide | omega) (by first | decide | omega) (by first | decide | omega)
            have nu_σ95 : NU nu nuσ95 := nu_σ90.tr uσ95
            have uσ95_0 := uσ95.1 0 (by decide)
            have uσ95_1 := uσ95.1 1 (by decide)
            have uσ95_2 := uσ95.2
            have uσ95_5 := uσ95.1 5 (by decide)
            have uσ95_15 := uσ95.1 15 (by decide)
            have uσ95_16 := uσ95.1 16 (by decide)
            have kp89 : gI σ95 t 0 = gI σ92 t 0 := (cσ95.O (kt.up (xσ71.trans (xσ106.trans (xσ74.trans (xσ89.trans (xσ90.trans xσ92)))))) (by decide)).1
            have kp90 : gI σ95 t 8 = gI σ92 t 8 := (cσ95.O (kt.up (xσ71.trans (xσ106.trans (xσ74.trans (xσ89.trans (xσ90.trans xσ92)))))) (by decide)).1
            have kp91 : gI σ95 th 12 = gI σ92 th 12 := (cσ95.O (kth.up (xσ71.trans (xσ106.trans (xσ74.trans (xσ89.trans (xσ90.trans xσ92)))))) (by decide)).1
            have kp92 : gP σ95 W 5 = gP σ92 W 5 := (cσ95.O (kW.up (xσ71.trans (xσ106.trans (xσ74.trans (xσ89.trans (xσ90.trans xσ92)))))) (by decide)).2.1
            have kp93 : gP σ95 b 0 = gP σ92 b 0 := (cσ95.O (knb.up (xσ106.trans (xσ74.trans (xσ89.trans (xσ90.trans xσ92))))) (by decide)).2.1
            have kp94 : gP σ95 th 0 = gP σ92 th 0 := (cσ95.O (kth.up (xσ71.trans (xσ106.trans (xσ74.trans (xσ89.trans (xσ90.trans xσ92)))))) (by decide)).2.1
            have kp95 : gP σ95 th 1 = gP σ92 th 1 := (cσ95.O (kth.up (xσ71.trans (xσ106.trans (xσ74.trans (xσ89.trans (xσ90.trans xσ92)))))) (by decide)).2.1
            have kp96 : gP σ95 th 9 = gP σ92 th 9 := (cσ95.O (kth.up (xσ71.trans (xσ106.trans (xσ74.trans (xσ89.trans (xσ90.trans xσ92)))))) (by decide)).2.1
            have kp97 : gI σ95 o 6 = gI σ92 o 6 := (cσ95.O (ko.up (xσ71.trans (xσ106.trans (xσ74.trans (xσ89.trans (xσ90.trans xσ92)))))) (by decide)).1
            refine i_X9_sendMade iσ95 (kth.up (xσ71.trans (xσ106.trans (xσ74.trans (xσ89.trans (xσ90.trans (xσ92.trans xσ95))))))) hv1 (kt.up (xσ71.trans (xσ106.trans (xσ74.trans (xσ89.trans (xσ90.trans (xσ92.trans xσ95))))))) (by (first | omega | with_reducible assumption | with_reducible exact rng_toInt _ | with_reducible exact rng_wr _ | (unfold rng; omega) | (unfold rng at *; omega) | assumption)) (by (first | omega | with_reducible assumption | with_reducible exact rng_toInt _ | with_reducible exact rng_wr _ | (unfold rng; omega) | (unfold rng at *; omega) | assumption)) (kp96.trans (kp86.trans (kp76.trans (kp66.trans (kp24.trans (kp15.trans (kp7.trans hj))))))) (kJ.up (xσ71.trans (xσ106.trans (xσ74.trans (xσ89.trans (xσ90.trans (xσ92.trans xσ95))))))) (by (first | omega | with_reducible assumption | with_reducible exact rng_toInt _ | with_reducible exact rng_wr _ | (unfold rng; omega) | (unfold rng at *; omega) | assumption)) (by (first | omega | with_reducible assumption | with_reducible exact rng_toInt _ | with_reducible exact rng_wr _ | (unfold rng; omega) | (unfold rng at *; omega) | assumption)) (by (first | omega | with_reducible assumption | with_reducible exact rng_toInt _ | with_reducible exact rng_wr _ | (unfold rng; omega) | (unfold rng at *; omega) | assumption)) (by (first | omega | with_reducible assumption | with_reducible exact rng_toInt _ | with_reducible exact rng_wr _ | (unfold rng; omega) | (unfold rng at *; omega) | assumption)) (fun σ97 LLσ97 Nσ97 nuσ97 _ iσ97 cσ97 uσ97 hσ97 pσ97 => ?_) (fun σx LLx Nx nux E ix cx ux px => hX σx gq ci LLx Nx nux E ix geσ (fσ95.tr (cx.mo (by decide))) (nu_σ95.x ux) (by first | exact px | exact ⟨by have := px.1; omega, (Hn.nz hnσ95 (by first | decide | (intro x hx; simp only [List.mem_cons, List.mem_nil_iff, or_false] at hx; omega))).tr px.2.1, px.2.2⟩ | (first | omega | with_reducible assumption | with_reducible exact rng_toInt _ | with_reducible exact rng_wr _ | (unfold rng; omega) | (unfold rng at *; omega) | assumption)))
            intro xσ97
            have fσ97 : Fx [1, 2, 3, 4, 5, 6, 7, 64, 132, 133, 192, 193, 195, 196, 197, 198, 199, 200, 201, 265, 266, 512, 513, 514, 590, 640, 641, 645, 646, 647, 648, 649, 650, 651, 652, 653, 654, 655, 708, 6464, 7680] gr σ σ97 := fσ95.tr (cσ97.mo (by decide))
            have hnσ97 : Hn (gD σ) [3, 5, 11, 12, 13, 14, 50, 60, 61, 62, 63, 64, 65, 66, 67, 68, 69, 70, 71, 21, 22, 31, 32] [] gq LL LLσ97 N Nσ97 := hnσ95.go (hσ97.ge (fun a ha => (geσ a ha).1) (fun d hd => (fσ95.1 d hd).1)) (fun _ hd => hd) (by first | decide | exact fun _ h => h | (simp; done) | (intro x hx; simp only [List.mem_cons, List.mem_nil_iff, or_false] at hx ⊢; omega)) (fun d hd => absurd hd (by simp))
            have nσ97_3 := hσ97.2.2 3 (by first | decide | (simp; done) | (simp only [List.mem_cons, List.mem_nil_iff, or_false, not_or]; omega)) (by first | decide | omega) (by first | decide | omega) (by first | decide | omega)
            have nσ97_5 := hσ97.2.2 5 (by first | decide | (simp; done) | (simp only [List.mem_cons, List.mem_nil_iff, or_false, not_or]; omega)) (by first | decide | omega) (by first | decide | omega) (by first | decide | omega)
            have nσ97_44 := hσ97.2.2 44 (by first | decide | (simp; done) | (simp only [List.mem_cons, List.mem_nil_iff, or_false, not_or]; omega)) (by first | decide | omega) (by first | decide | omega) (by first | decide | omega)
            have nσ97_74 := hσ97.2.2 74 (by first | decide | (simp; done) | (simp only [List.mem_cons, List.mem_nil_iff, or_false, not_or]; omega)) (by first | decide | omega) (by first | decide | omega) (by first | decide | omega)
            have nσ97_11 := hσ97.2.2 11 (by first | decide | (simp; done) | (simp only [List.mem_cons, List.mem_nil_iff, or_false, not_or]; omega)) (by first | decide | omega) (by first | decide | omega) (by first | decide | omega)
            have nσ97_12 := hσ97.2.2 12 (by first | decide | (simp; done) | (simp only [List.mem_cons, List.mem_nil_iff, or_false, not_or]; omega)) (by first | decide | omega) (by first | decide | omega) (by first | decide | omega)
            have nσ97_41 := hσ97.2.2 41 (by first | decide | (simp; done) | (simp only [List.mem_cons, List.mem_nil_iff, or_false, not_or]; omega)) (by first | decide | omega) (by first | decide | omega) (by first | decide | omega)
            have nσ97_42 := hσ97.2.2 42 (by first | decide | (simp; done) | (simp only [List.mem_cons, List.mem_nil_iff, or_false, not_or]; omega)) (by first | decide | omega) (by first | decide | omega) (by first | decide | omega)
            have nσ97_50 := hσ97.2.2 50 (by first | decide | (simp; done) | (simp only [List.mem_cons, List.mem_nil_iff, or_false, not_or]; omega)) (by first | decide | omega) (by first | decide | omega) (by first | decide | omega)
            have nu_σ97 : NU nu nuσ97 := nu_σ95.tr uσ97
            have uσ97_0 := uσ97.1 0 (by decide)
            have uσ97_1 := uσ97.1 1 (by decide)
            have uσ97_2 := uσ97.2
            have uσ97_5 := uσ97.1 5 (by decide)
            have uσ97_15 := uσ97.1 15 (by decide)
            have uσ97_16 := uσ97.1 16 (by decide)
            have kp98 : gI σ97 t 0 = gI σ95 t 0 := (cσ97.O (kt.up (xσ71.trans (xσ106.trans (xσ74.trans (xσ89.trans (xσ90.trans (xσ92.trans xσ95))))))) (by decide)).1
            have kp99 : gI σ97 t 8 = gI σ95 t 8 := (cσ97.O (kt.up (xσ71.trans (xσ106.trans (xσ74.trans (xσ89.trans (xσ90.trans (xσ92.trans xσ95))))))) (by decide)).1
            have kp100 : gI σ97 th 12 = gI σ95 th 12 := (cσ97.O (kth.up (xσ71.trans (xσ106.trans (xσ74.trans (xσ89.trans (xσ90.trans (xσ92.trans xσ95))))))) (by decide)).1
            have kp101 : gP σ97 W 5 = gP σ95 W 5 := (cσ97.O (kW.up (xσ71.trans (xσ106.trans (xσ74.trans (xσ89.trans (xσ90.trans (xσ92.trans xσ95))))))) (by decide)).2.1
            have kp102 : gP σ97 b 0 = gP σ95 b 0 := (cσ97.O (knb.up (xσ106.trans (xσ74.trans (xσ89.trans (xσ90.trans (xσ92.trans xσ95)))))) (by decide)).2.1
            have kp103 : gP σ97 th 0 = gP σ95 th 0 := (cσ97.O (kth.up (xσ71.trans (xσ106.trans (xσ74.trans (xσ89.trans (xσ90.trans (xσ92.trans xσ95))))))) (by decide)).2.1
            have kp104 : gP σ97 th 1 = gP σ95 th 1 := (cσ97.O (kth.up (xσ71.trans (xσ106.trans (xσ74.trans (xσ89.trans (xσ90.trans (xσ92.trans xσ95))))))) (by decide)).2.1
            have kp105 : gP σ97 th 9 = gP σ95 th 9 := (cσ97.O (kth.up (xσ71.trans (xσ106.trans (xσ74.trans (xσ89.trans (xσ90.trans (xσ92.trans xσ95))))))) (by decide)).2.1
            have kp106 : gI σ97 o 6 = gI σ95 o 6 := (cσ97.O (ko.up (xσ71.trans (xσ106.trans (xσ74.trans (xσ89.trans (xσ90.trans (xσ92.trans xσ95))))))) (by decide)).1
            refine i_X9_sendToAll iσ97 (kth.up (xσ71.trans (xσ106.trans (xσ74.trans (xσ89.trans (xσ90.trans (xσ92.trans (xσ95.trans xσ97)))))))) hv1 (kt.up (xσ71.trans (xσ106.trans (xσ74.trans (xσ89.trans (xσ90.trans (xσ92.trans (xσ95.trans xσ97)))))))) (by (first | omega | with_reducible assumption | with_reducible exact rng_toInt _ | with_reducible exact rng_wr _ | (unfold rng; omega) | (unfold rng at *; omega) | assumption)) (by (first | omega | with_reducible assumption | with_reducible exact rng_toInt _ | with_reducible exact rng_wr _ | (unfold rng; omega) | (unfold rng at *; omega) | assumption)) (by (first | omega | with_reducible assumption | with_reducible exact rng_toInt _ | with_reducible exact rng_wr _ | (unfold rng; omega) | (unfold rng at *; omega) | assumption)) (by (first | omega | with_reducible assumption | with_reducible exact rng_toInt _ | with_reducible exact rng_wr _ | (unfold rng; omega) | (unfold rng at *; omega) | assumption)) (by unfold rng; omega) (iσ97.t7 (kt.up (xσ71.trans (xσ106.trans (xσ74.trans (xσ89.trans (xσ90.trans (xσ92.trans (xσ95.trans xσ97))))))))) (fun σ98 LLσ98 Nσ98 nuσ98 _ iσ98 cσ98 uσ98 hσ98 pσ98 => ?_) (fun σx LLx Nx nux E ix cx ux px => hX σx gq ci LLx Nx nux E ix geσ (fσ97.tr (cx.mo (by decide))) (nu_σ97.x ux) (by first | exact px | exact ⟨by have := px.1; omega, (Hn.nz hnσ97 (by first | decide | (intro x hx; simp only [List.mem_cons, List.mem_nil_iff, or_false] at hx; omega))).tr px.2.1, px.2.2⟩ | (first | omega | with_reducible assumption | with_reducible exact rng_toInt _ | with_reducible exact rng_wr _ | (unfold rng; omega) | (unfold rng at *; omega) | assumption)))
            intro xσ98
            have fσ98 : Fx [1, 2, 3, 4, 5, 6, 7, 64, 132, 133, 192, 193, 195, 196, 197, 198, 199, 200, 201, 265, 266, 512, 513, 514, 590, 640, 641, 645, 646, 647, 648, 649, 650, 651, 652, 653, 654, 655, 708, 6464, 7680] gr σ σ98 := fσ97.tr (cσ98.mo (by decide))
            have hnσ98 : Hn (gD σ) [3, 5, 11, 12, 13, 14, 50, 60, 61, 62, 63, 64, 65, 66, 67, 68, 69, 70, 71, 21, 22, 31, 32] [] gq LL LLσ98 N Nσ98 := hnσ97.go (hσ98.ge (fun a ha => (geσ a ha).1) (fun d hd => (fσ97.1 d hd).1)) (fun _ hd => hd) (by first | decide | exact fun _ h => h | (simp; done) | (intro x hx; simp only [List.mem_cons, List.mem_nil_iff, or_false] at hx ⊢; omega)) (fun d hd => absurd hd (by simp))
            have nσ98_3 := hσ98.2.2 3 (by first | decide | (simp; done) | (simp only [List.mem_cons, List.mem_nil_iff, or_false, not_or]; omega)) (by first | decide | omega) (by first | decide | omega) (by first | decide | omega)
            have nσ98_5 := hσ98.2.2 5 (by first | decide | (simp; done) | (simp only [List.mem_cons, List.mem_nil_iff, or_false, not_or]; omega)) (by first | decide | omega) (by first | decide | omega) (by first | decide | omega)
            have nσ98_14 := hσ98.2.2 14 (by first | decide | (simp; done) | (simp only [List.mem_cons, List.mem_nil_iff, or_false, not_or]; omega)) (by first | decide | omega) (by first | decide | omega) (by first | decide | omega)
            have nσ98_44 := hσ98.2.2 44 (by first | decide | (simp; done) | (simp only [List.mem_cons, List.mem_nil_iff, or_false, not_or]; omega)) (by first | decide | omega) (by first | decide | omega) (by first | decide | omega)
            have nσ98_74 := hσ98.2.2 74 (by first | decide | (simp; done) | (simp only [List.mem_cons, List.mem_nil_iff, or_false, not_or]; omega)) (by first | decide | omega) (by first | decide | omega) (by first | decide | omega)
            have nσ98_11 := hσ98.2.2 11 (by first | decide | (simp; done) | (simp only [List.mem_cons, List.mem_nil_iff, or_false, not_or]; omega)) (by first | decide | omega) (by first | decide | omega) (by first | decide | omega)
            have nσ98_12 := hσ98.2.2 12 (by first | decide | (simp; done) | (simp only [List.mem_cons, List.mem_nil_iff, or_false, not_or]; omega)) (by first | decide | omega) (by first | decide | omega) (by first | decide | omega)
            have nσ98_41 := hσ98.2.2 41 (by first | decide | (simp; done) | (simp only [List.mem_cons, List.mem_nil_iff, or_false, not_or]; omega)) (by first | decide | omega) (by first | decide | omega) (by first | decide | omega)
            have nσ98_42 := hσ98.2.2 42 (by first | decide | (simp; done) | (simp only [List.mem_cons, List.mem_nil_iff, or_false, not_or]; omega)) (by first | decide | omega) (by first | decide | omega) (by first | decide | omega)
            have nσ98_50 := hσ98.2.2 50 (by first | decide | (simp; done) | (simp only [List.mem_cons, List.mem_nil_iff, or_false, not_or]; omega)) (by first | decide | omega) (by first | decide | omega) (by first | decide | omega)
            have nu_σ98 : NU nu nuσ98 := nu_σ97.tr uσ98
            have uσ98_0 := uσ98.1 0 (by decide)
            have uσ98_1 := uσ98.1 1 (by decide)
            have uσ98_2 := uσ98.2
            have uσ98_5 := uσ98.1 5 (by decide)
            have uσ98_15 := uσ98.1 15 (by decide)
            have uσ98_16 := uσ98.1 16 (by decide)
            have kp107 : gI σ98 t 0 = gI σ97 t 0 := (cσ98.O (kt.up (xσ71.trans (xσ106.trans (xσ74.trans (xσ89.trans (xσ90.trans (xσ92.trans (xσ95.trans xσ97)))))))) (by decide)).1
            have kp108 : gI σ98 t 8 = gI σ97 t 8 := (cσ98.O (kt.up (xσ71.trans (xσ106.trans (xσ74.trans (xσ89.trans (xσ90.trans (xσ92.trans (xσ95.trans xσ97)))))))) (by decide)).1
            have kp109 : gI σ98 th 12 = gI σ97 th 12 := (cσ98.O (kth.up (xσ71.trans (xσ106.trans (xσ74.trans (xσ89.trans (xσ90.trans (xσ92.trans (xσ95.trans xσ97)))))))) (by decide)).1
            have kp110 : gP σ98 W 5 = gP σ97 W 5 := (cσ98.O (kW.up (xσ71.trans (xσ106.trans (xσ74.trans (xσ89.trans (xσ90.trans (xσ92.trans (xσ95.trans xσ97)))))))) (by decide)).2.1
            have kp111 : gP σ98 b 0 = gP σ97 b 0 := (cσ98.O (knb.up (xσ106.trans (xσ74.trans (xσ89.trans (xσ90.trans (xσ92.trans (xσ95.trans xσ97))))))) (by decide)).2.1
            have kp112 : gP σ98 th 0 = gP σ97 th 0 := (cσ98.O (kth.up (xσ71.trans (xσ106.trans (xσ74.trans (xσ89.trans (xσ90.trans (xσ92.trans (xσ95.trans xσ97)))))))) (by decide)).2.1
            have kp113 : gP σ98 th 1 = gP σ97 th 1 := (cσ98.O (kth.up (xσ71.trans (xσ106.trans (xσ74.trans (xσ89.trans (xσ90.trans (xσ92.trans (xσ95.trans xσ97)))))))) (by decide)).2.1
            have kp114 : gP σ98 th 9 = gP σ97 th 9 := (cσ98.O (kth.up (xσ71.trans (xσ106.trans (xσ74.trans (xσ89.trans (xσ90.trans (xσ92.trans (xσ95.trans xσ97)))))))) (by decide)).2.1
            have kp115 : gI σ98 o 6 = gI σ97 o 6 := (cσ98.O (ko.up (xσ71.trans (xσ106.trans (xσ74.trans (xσ89.trans (xσ90.trans (xσ92.trans (xσ95.trans xσ97)))))))) (by decide)).1
            unfold w_X9_takeThing_200
            exact hQ σ98 gq ci LLσ98 Nσ98 nuσ98 1 iσ98 geσ fσ98 (nu_σ98) hnσ98 (by (first | omega | with_reducible assumption | with_reducible exact rng_toInt _ | with_reducible exact rng_wr _ | (unfold rng; omega) | (unfold rng at *; omega) | assumption))
      · rw [if_neg hc26]
        have hc26q := Classical.not_not.mp hc26
        unfold w_X9_takeThing_49
        obtain ⟨b_4, eb_4⟩ := P_9_0 iσ74.1 (kth.up (xσ71.trans (xσ106.trans xσ74)))
        refine ⟨b_4, eb_4, fun kk_b_4_1 => ?_⟩
        refine i_X8_release iσ74 kk_b_4_1 eb_2 (kb9.up xσ74) (by (first | omega | with_reducible assumption | with_reducible exact rng_toInt _ | with_reducible exact rng_wr _ | (unfold rng; omega) | (unfold rng at *; omega) | assumption)) (by (first | omega | with_reducible assumption | with_reducible exact rng_toInt _ | with_reducible exact rng_wr _ | (unfold rng; omega) | (unfold rng at *; omega) | assumption)) (fun σ76 LLσ76 Nσ76 nuσ76 _ iσ76 cσ76 uσ76 hσ76 pσ76 => ?_)
        intro xσ76
        have fσ76 : Fx [1, 2, 3, 4, 5, 6, 7, 64, 132, 133, 192, 193, 195, 196, 197, 198, 199, 200, 201, 265, 266, 512, 513, 514, 590, 640, 641, 645, 646, 647, 648, 649, 650, 651, 652, 653, 654, 655, 708, 6464, 7680] gr σ σ76 := fσ74.tr (cσ76.mo (by decide))
        have hnσ76 : Hn (gD σ) [3, 5, 11, 12, 13, 14, 50, 60, 61, 62, 63, 64, 65, 66, 67, 68, 69, 70, 71, 21, 22, 31, 32] [] gq LL LLσ76 N Nσ76 := hnσ106.go (hσ76.ge (fun a ha => (geσ a ha).1) (fun d hd => (fσ74.1 d hd).1)) (fun _ hd => hd) (by first | decide | exact fun _ h => h | (simp; done) | (intro x hx; simp only [List.mem_cons, List.mem_nil_iff, or_false] at hx ⊢; omega)) (fun d hd => by rw [List.mem_singleton.mp hd]; exact lo_b_2)
        have nσ76_3 := hσ76.2.2 3 (by first | decide | (simp; done) | (simp only [List.mem_cons, List.mem_nil_iff, or_false, not_or]; omega)) (by first | decide | omega) (by first | decide | omega) (by first | decide | omega)
        have nσ76_5 := hσ76.2.2 5 (by first | decide | (simp; done) | (simp only [List.mem_cons, List.mem_nil_iff, or_false, not_or]; omega)) (by first | decide | omega) (by first | decide | omega) (by first | decide | omega)
        have nσ76_14 := hσ76.2.2 14 (by first | decide | (simp; done) | (simp only [List.mem_cons, List.mem_nil_iff, or_false, not_or]; omega)) (by first | decide | omega) (by first | decide | omega) (by first | decide | omega)
        have nσ76_44 := hσ76.2.2 44 (by first | decide | (simp; done) | (simp only [List.mem_cons, List.mem_nil_iff, or_false, not_or]; omega)) (by first | decide | omega) (by first | decide | omega) (by first | decide | omega)
        have nσ76_74 := hσ76.2.2 74 (by first | decide | (simp; done) | (simp only [List.mem_cons, List.mem_nil_iff, or_false, not_or]; omega)) (by first | decide | omega) (by first | decide | omega) (by first | decide | omega)
        have nσ76_11 := hσ76.2.2 11 (by first | decide | (simp; done) | (simp only [List.mem_cons, List.mem_nil_iff, or_false, not_or]; omega)) (by first | decide | omega) (by first | decide | omega) (by first | decide | omega)
        have nσ76_12 := hσ76.2.2 12 (by first | decide | (simp; done) | (simp only [List.mem_cons, List.mem_nil_iff, or_false, not_or]; omega)) (by first | decide | omega) (by first | decide | omega) (by first | decide | omega)
        have nσ76_41 := hσ76.2.2 41 (by first | decide | (simp; done) | (simp only [List.mem_cons, List.mem_nil_iff, or_false, not_or]; omega)) (by first | decide | omega) (by first | decide | omega) (by first | decide | omega)
        have nσ76_42 := hσ76.2.2 42 (by first | decide | (simp; done) | (simp only [List.mem_cons, List.mem_nil_iff, or_false, not_or]; omega)) (by first | decide | omega) (by first | decide | omega) (by first | decide | omega)
        have nσ76_13 := hσ76.2.2 13 (by first | decide | (simp; done) | (simp only [List.mem_cons, List.mem_nil_iff, or_false, not_or]; omega)) (by first | decide | omega) (by first | decide | omega) (by first | decide | omega)
        have nσ76_50 := hσ76.2.2 50 (by first | decide | (simp; done) | (simp only [List.mem_cons, List.mem_nil_iff, or_false, not_or]; omega)) (by first | decide | omega) (by first | decide | omega) (by first | decide | omega)
        have nu_σ76 : NU nu nuσ76 := nu_σ106.tr uσ76
        have uσ76_0 := uσ76.1 0 (by decide)
        have uσ76_1 := uσ76.1 1 (by decide)
        have uσ76_2 := uσ76.2
        have uσ76_5 := uσ76.1 5 (by decide)
        have uσ76_15 := uσ76.1 15 (by decide)
        have uσ76_16 := uσ76.1 16 (by decide)
        have kp116 : gI σ76 b_2 2 = gI σ74 b_2 2 := (cσ76.O (kb9.up xσ74) (by decide)).1
        have kp117 : gI σ76 t 0 = gI σ74 t 0 := (cσ76.O (kt.up (xσ71.trans (xσ106.trans xσ74))) (by decide)).1
        have kp118 : gI σ76 t 8 = gI σ74 t 8 := (cσ76.O (kt.up (xσ71.trans (xσ106.trans xσ74))) (by decide)).1
        have kp119 : gI σ76 th 12 = gI σ74 th 12 := (cσ76.O (kth.up (xσ71.trans (xσ106.trans xσ74))) (by decide)).1
        have kp120 : gP σ76 W 5 = gP σ74 W 5 := (cσ76.O (kW.up (xσ71.trans (xσ106.trans xσ74))) (by decide)).2.1
        have kp121 : gP σ76 b 0 = gP σ74 b 0 := (cσ76.O (knb.up (xσ106.trans xσ74)) (by decide)).2.1
        have kp122 : gP σ76 th 0 = gP σ74 th 0 := (cσ76.O (kth.up (xσ71.trans (xσ106.trans xσ74))) (by decide)).2.1
        have kp123 : gP σ76 th 1 = gP σ74 th 1 := (cσ76.O (kth.up (xσ71.trans (xσ106.trans xσ74))) (by decide)).2.1
        have kp124 : gP σ76 th 9 = gP σ74 th 9 := (cσ76.O (kth.up (xσ71.trans (xσ106.trans xσ74))) (by decide)).2.1
        have kp125 : gI σ76 o 6 = gI σ74 o 6 := (cσ76.O (ko.up (xσ71.trans (xσ106.trans xσ74))) (by decide)).1
        refine ⟨b, eb, fun kk_b_5 => ?_⟩
        intro σ79 eσ79
        have xσ79 : Ext σ76 σ79 := by rw [eσ79]; exact fun _ h => ⟨h, rfl, rfl⟩
        have iσ79 : IV σ79 pl gq ci gr nc ot LLσ76 Nσ76 nuσ76 := by rw [eσ79]; exact iσ76.wO (knb.up (xσ106.trans (xσ74.trans xσ76))) (by decide) (show (0 : Int) ≤ 1 ∧ 1 ≤ 1 from ⟨by (first | omega | with_reducible assumption | with_reducible exact rng_toInt _ | with_reducible exact rng_wr _ | (unfold rng; omega) | (unfold rng at *; omega) | assumption), by (first | omega | with_reducible assumption | with_reducible exact rng_toInt _ | with_reducible exact rng_wr _ | (unfold rng; omega) | (unfold rng at *; omega) | assumption)⟩)
        have fσ79 : Fx [1, 2, 3, 4, 5, 6, 7, 64, 132, 133, 192, 193, 195, 196, 197, 198, 199, 200, 201, 265, 266, 512, 513, 514, 590, 640, 641, 645, 646, 647, 648, 649, 650, 651, 652, 653, 654, 655, 708, 6464, 7680] gr σ σ79 := fσ76.tr (Sk.fx (by rw [eσ79]; exact Sk.pI (by rw [fcdO (knb.up (xσ106.trans (xσ74.trans xσ76))) (by decide)]; decide)))
        have wσ79 : gI σ79 b 5 = 1 := by rw [eσ79]; exact up2_s _ _ _ _
        have kp126 : gI σ79 b_2 2 = gI σ76 b_2 2 := by rw [eσ79]; exact up2_n _ _ (fun q => absurd q.2 (by decide))
        have kp127 : gI σ79 t 0 = gI σ76 t 0 := by rw [eσ79]; exact up2_n _ _ (fun q => absurd q.2 (by decide))
        have kp128 : gI σ79 t 8 = gI σ76 t 8 := by rw [eσ79]; exact up2_n _ _ (fun q => absurd q.2 (by decide))
        have kp129 : gI σ79 th 12 = gI σ76 th 12 := by rw [eσ79]; exact up2_n _ _ (fun q => absurd q.2 (by decide))
        have kp130 : gP σ79 W 5 = gP σ76 W 5 := by rw [eσ79]
        have kp131 : gP σ79 b 0 = gP σ76 b 0 := by rw [eσ79]
        have kp132 : gP σ79 th 0 = gP σ76 th 0 := by rw [eσ79]
        have kp133 : gP σ79 th 1 = gP σ76 th 1 := by rw [eσ79]
        have kp134 : gP σ79 th 9 = gP σ76 th 9 := by rw [eσ79]
        have kp135 : gI σ79 o 6 = gI σ76 o 6 := by rw [eσ79]; exact up2_n _ _ (fun q => absurd q.2 (by decide))
        refine i_X9_isBlocked iσ79 (kth.up (xσ71.trans (xσ106.trans (xσ74.trans (xσ76.trans xσ79))))) hv1 (kt.up (xσ71.trans (xσ106.trans (xσ74.trans (xσ76.trans xσ79))))) (by (first | omega | with_reducible assumption | with_reducible exact rng_toInt _ | with_reducible exact rng_wr _ | (unfold rng; omega) | (unfold rng at *; omega) | assumption)) (by (first | omega | with_reducible assumption | with_reducible exact rng_toInt _ | with_reducible exact rng_wr _ | (unfold rng; omega) | (unfold rng at *; omega) | assumption)) (fun r81 pσ80 => ?_)
        intro xσ80
        by_cases hc136 : r81 = 0
        · rw [if_pos hc136]
          unfold w_X9_takeThing_200
          exact hQ σ79 gq ci LLσ76 Nσ76 nuσ76 1 iσ79 geσ fσ79 (nu_σ76) hnσ76 (by (first | omega | with_reducible assumption | with_reducible exact rng_toInt _ | with_reducible exact rng_wr _ | (unfold rng; omega) | (unfold rng at *; omega) | assumption))
        · rw [if_neg hc136]
          unfold w_X9_takeThing_71
          refine i_X9_takePart iσ79 (kth.up (xσ71.trans (xσ106.trans (xσ74.trans (xσ76.trans xσ79))))) hv1 (kt.up (xσ71.trans (xσ106.trans (xσ74.trans (xσ76.trans xσ79))))) hv2 (ko.up (xσ71.trans (xσ106.trans (xσ74.trans (xσ76.trans xσ79))))) (by (first | omega | with_reducible assumption | with_reducible exact rng_toInt _ | with_reducible exact rng_wr _ | (unfold rng; omega) | (unfold rng at *; omega) | assumption)) (by (first | omega | with_reducible assumption | with_reducible exact rng_toInt _ | with_reducible exact rng_wr _ | (unfold rng; omega) | (unfold rng at *; omega) | assumption)) (kp134.trans (kp124.trans (kp24.trans (kp15.trans (kp7.trans hj))))) (kJ.up (xσ71.trans (xσ106.trans (xσ74.trans (xσ76.trans xσ79))))) (by (first | omega | with_reducible assumption | with_reducible exact rng_toInt _ | with_reducible exact rng_wr _ | (unfold rng; omega) | (unfold rng at *; omega) | assumption)) (by (first | omega | with_reducible assumption | with_reducible exact rng_toInt _ | with_reducible exact rng_wr _ | (unfold rng; omega) | (unfold rng at *; omega) | assumption)) (by (first | omega | with_reducible assumption | with_reducible exact rng_toInt _ | with_reducible exact rng_wr _ | (unfold rng; omega) | (unfold rng at *; omega) | assumption)) (by (first | omega | with_reducible assumption | with_reducible exact rng_toInt _ | with_reducible exact rng_wr _ | (unfold rng; omega) | (unfold rng at *; omega) | assumption)) (by (first | omega | with_reducible assumption | with_reducible exact rng_toInt _ | with_reducible exact rng_wr _ | (unfold rng; omega) | (unfold rng at *; omega) | assumption)) (by (first | omega | with_reducible assumption | with_reducible exact rng_toInt _ | with_reducible exact rng_wr _ | (unfold rng; omega) | (unfold rng at *; omega) | assumption)) (by (first | omega | with_reducible assumption | with_reducible exact rng_toInt _ | with_reducible exact rng_wr _ | (unfold rng; omega) | (unfold rng at *; omega) | assumption)) (by (first | omega | with_reducible assumption | with_reducible exact rng_toInt _ | with_reducible exact rng_wr _ | (unfold rng; omega) | (unfold rng at *; omega) | assumption)) (fun σ82 gqσ82 ciσ82 LLσ82 Nσ82 nuσ82 r83 iσ82 gσ82 cσ82 uσ82 hσ82 pσ82 => ?_) (fun σx gqx cix LLx Nx nux E ix gx cx ux px => hX σx gqx cix LLx Nx nux E ix (geσ.tr gx (fun d hd => (fσ79.1 d hd).1)) (fσ79.tr (cx.mo (by decide))) (nu_σ76.x ux) (by first | exact px | exact ⟨by have := px.1; omega, (Hn.nz hnσ76 (by first | decide | (intro x hx; simp only [List.mem_cons, List.mem_nil_iff, or_false] at hx; omega))).tr px.2.1, px.2.2⟩ | (first | omega | with_reducible assumption | with_reducible exact rng_toInt _ | with_reducible exact rng_wr _ | (unfold rng; omega) | (unfold rng at *; omega) | assumption)))
          intro xσ82
          have fσ82 : Fx [1, 2, 3, 4, 5, 6, 7, 64, 132, 133, 192, 193, 195, 196, 197, 198, 199, 200, 201, 265, 266, 512, 513, 514, 590, 640, 641, 645, 646, 647, 648, 649, 650, 651, 652, 653, 654, 655, 708, 6464, 7680] gr σ σ82 := fσ79.tr (cσ82.mo (by decide))
          have geσ82 : GE (gD σ) gq ci gqσ82 ciσ82 := geσ.tr gσ82 (fun d hd => (fσ79.1 d hd).1)
          have gl137 := gσ82 t (kt.up (xσ71.trans (xσ106.trans (xσ74.trans (xσ76.trans xσ79))))).1
          have gl138 := gσ82 o (ko.up (xσ71.trans (xσ106.trans (xσ74.trans (xσ76.trans xσ79))))).1
          have gl139 := gσ82 J (kJ.up (xσ71.trans (xσ106.trans (xσ74.trans (xσ76.trans xσ79))))).1
          have gl140 := gσ82 W (kW.up (xσ71.trans (xσ106.trans (xσ74.trans (xσ76.trans xσ79))))).1
          have gl141 := gσ82 b (knb.up (xσ106.trans (xσ74.trans (xσ76.trans xσ79)))).1
          have gl142 := gσ82 b_1 (mb_1.up (xσ106.trans (xσ74.trans (xσ76.trans xσ79)))).1
          have hnσ82 : Hn (gD σ) [3, 5, 11, 12, 13, 14, 50, 60, 61, 62, 63, 64, 65, 66, 67, 68, 69, 70, 71, 21, 22, 31, 32] [] gq LL LLσ82 N Nσ82 := hnσ76.go (hσ82.ge (fun a ha => (geσ a ha).1) (fun d hd => (fσ79.1 d hd).1)) (fun _ hd => hd) (by first | decide | exact fun _ h => h | (simp; done) | (intro x hx; simp only [List.mem_cons, List.mem_nil_iff, or_false] at hx ⊢; omega)) (fun d hd => absurd hd (by simp))
          have nσ82_3 := hσ82.2.2 3 (by first | decide | (simp; done) | (simp only [List.mem_cons, List.mem_nil_iff, or_false, not_or]; omega)) (by first | decide | omega) (by first | decide | omega) (by first | decide | omega)
          have nσ82_44 := hσ82.2.2 44 (by first | decide | (simp; done) | (simp only [List.mem_cons, List.mem_nil_iff, or_false, not_or]; omega)) (by first | decide | omega) (by first | decide | omega) (by first | decide | omega)
          have nσ82_74 := hσ82.2.2 74 (by first | decide | (simp; done) | (simp only [List.mem_cons, List.mem_nil_iff, or_false, not_or]; omega)) (by first | decide | omega) (by first | decide | omega) (by first | decide | omega)
          have nσ82_11 := hσ82.2.2 11 (by first | decide | (simp; done) | (simp only [List.mem_cons, List.mem_nil_iff, or_false, not_or]; omega)) (by first | decide | omega) (by first | decide | omega) (by first | decide | omega)
          have nσ82_12 := hσ82.2.2 12 (by first | decide | (simp; done) | (simp only [List.mem_cons, List.mem_nil_iff, or_false, not_or]; omega)) (by first | decide | omega) (by first | decide | omega) (by first | decide | omega)
          have nσ82_41 := hσ82.2.2 41 (by first | decide | (simp; done) | (simp only [List.mem_cons, List.mem_nil_iff, or_false, not_or]; omega)) (by first | decide | omega) (by first | decide | omega) (by first | decide | omega)
          have nσ82_42 := hσ82.2.2 42 (by first | decide | (simp; done) | (simp only [List.mem_cons, List.mem_nil_iff, or_false, not_or]; omega)) (by first | decide | omega) (by first | decide | omega) (by first | decide | omega)
          have nσ82_13 := hσ82.2.2 13 (by first | decide | (simp; done) | (simp only [List.mem_cons, List.mem_nil_iff, or_false, not_or]; omega)) (by first | decide | omega) (by first | decide | omega) (by first | decide | omega)
          have nσ82_50 := hσ82.2.2 50 (by first | decide | (simp; done) | (simp only [List.mem_cons, List.mem_nil_iff, or_false, not_or]; omega)) (by first | decide | omega) (by first | decide | omega) (by first | decide | omega)
          have nu_σ82 : NU nu nuσ82 := nu_σ76.tr uσ82
          have uσ82_0 := uσ82.1 0 (by decide)
          have uσ82_1 := uσ82.1 1 (by decide)
          have uσ82_2 := uσ82.2
          have uσ82_5 := uσ82.1 5 (by decide)
          have uσ82_15 := uσ82.1 15 (by decide)
          have uσ82_16 := uσ82.1 16 (by decide)
          have kp143 : gI σ82 b 5 = gI σ79 b 5 := (cσ82.O (knb.up (xσ106.trans (xσ74.trans (xσ76.trans xσ79)))) (by decide)).1
          have kp144 : gI σ82 th 12 = gI σ79 th 12 := (cσ82.O (kth.up (xσ71.trans (xσ106.trans (xσ74.trans (xσ76.trans xσ79))))) (by decide)).1
          have kp145 : gP σ82 W 5 = gP σ79 W 5 := (cσ82.O (kW.up (xσ71.trans (xσ106.trans (xσ74.trans (xσ76.trans xσ79))))) (by decide)).2.1
          have kp146 : gP σ82 b 0 = gP σ79 b 0 := (cσ82.O (knb.up (xσ106.trans (xσ74.trans (xσ76.trans xσ79)))) (by decide)).2.1
          have kp147 : gP σ82 th 0 = gP σ79 th 0 := (cσ82.O (kth.up (xσ71.trans (xσ106.trans (xσ74.trans (xσ76.trans xσ79))))) (by decide)).2.1
          have kp148 : gP σ82 th 1 = gP σ79 th 1 := (cσ82.O (kth.up (xσ71.trans (xσ106.trans (xσ74.trans (xσ76.trans xσ79))))) (by decide)).2.1
          have kp149 : gP σ82 th 9 = gP σ79 th 9 := (cσ82.O (kth.up (xσ71.trans (xσ106.trans (xσ74.trans (xσ76.trans xσ79))))) (by decide)).2.1
          have kp150 : gI σ82 o 6 = gI σ79 o 6 := (cσ82.O (ko.up (xσ71.trans (xσ106.trans (xσ74.trans (xσ76.trans xσ79))))) (by decide)).1
          by_cases hc151 : r83 = 0
          · rw [if_pos hc151]
            unfold w_X9_takeThing_200
            exact hQ σ82 gqσ82 ciσ82 LLσ82 Nσ82 nuσ82 1 iσ82 geσ82 fσ82 (nu_σ82) hnσ82 (by (first | omega | with_reducible assumption | with_reducible exact rng_toInt _ | with_reducible exact rng_wr _ | (unfold rng; omega) | (unfold rng at *; omega) | assumption))
          · rw [if_neg hc151]
            unfold w_X9_takeThing_80
            refine i_X9_unblock iσ82 (kth.up (xσ71.trans (xσ106.trans (xσ74.trans (xσ76.trans (xσ79.trans xσ82)))))) hv1 (kt.up (xσ71.trans (xσ106.trans (xσ74.trans (xσ76.trans (xσ79.trans xσ82)))))) (by (first | omega | with_reducible assumption | with_reducible exact rng_toInt _ | with_reducible exact rng_wr _ | (unfold rng; omega) | (unfold rng at *; omega) | assumption)) (by (first | omega | with_reducible assumption | with_reducible exact rng_toInt _ | with_reducible exact rng_wr _ | (unfold rng; omega) | (unfold rng at *; omega) | assumption)) (fun σ84 _ iσ84 cσ84 pσ84 => ?_)
            intro xσ84
            have fσ84 : Fx [1, 2, 3, 4, 5, 6, 7, 64, 132, 133, 192, 193, 195, 196, 197, 198, 199, 200, 201, 265, 266, 512, 513, 514, 590, 640, 641, 645, 646, 647, 648, 649, 650, 651, 652, 653, 654, 655, 708, 6464, 7680] gr σ σ84 := fσ82.tr (cσ84.mo (by decide))
            have kp152 : gI σ84 th 12 = gI σ82 th 12 := (cσ84.O (kth.up (xσ71.trans (xσ106.trans (xσ74.trans (xσ76.trans (xσ79.trans xσ82)))))) (by decide)).1
            have kp153 : gP σ84 W 5 = gP σ82 W 5 := (cσ84.O (kW.up (xσ71.trans (xσ106.trans (xσ74.trans (xσ76.trans (xσ79.trans xσ82)))))) (by decide)).2.1
            have kp154 : gP σ84 b 0 = gP σ82 b 0 := (cσ84.O (knb.up (xσ106.trans (xσ74.trans (xσ76.trans (xσ79.trans xσ82))))) (by decide)).2.1
            have kp155 : gP σ84 th 0 = gP σ82 th 0 := (cσ84.O (kth.up (xσ71.trans (xσ106.trans (xσ74.trans (xσ76.trans (xσ79.trans xσ82)))))) (by decide)).2.1
            have kp156 : gP σ84 th 1 = gP σ82 th 1 := (cσ84.O (kth.up (xσ71.trans (xσ106.trans (xσ74.trans (xσ76.trans (xσ79.trans xσ82)))))) (by decide)).2.1
            have kp157 : gP σ84 th 9 = gP σ82 th 9 := (cσ84.O (kth.up (xσ71.trans (xσ106.trans (xσ74.trans (xσ76.trans (xσ79.trans xσ82)))))) (by decide)).2.1
            have kp158 : gI σ84 o 6 = gI σ82 o 6 := (cσ84.O (ko.up (xσ71.trans (xσ106.trans (xσ74.trans (xσ76.trans (xσ79.trans xσ82)))))) (by decide)).1
            have kp159 : gI σ84 t 0 = gI σ82 t 0 := (cσ84.O (kt.up (xσ71.trans (xσ106.trans (xσ74.trans (xσ76.trans (xσ79.trans xσ82)))))) (by decide)).1
            refine i_X9_sendToAll iσ84 (kth.up (xσ71.trans (xσ106.trans (xσ74.trans (xσ76.trans (xσ79.trans (xσ82.trans xσ84))))))) hv1 (kt.up (xσ71.trans (xσ106.trans (xσ74.trans (xσ76.trans (xσ79.trans (xσ82.trans xσ84))))))) (by (first | omega | with_reducible assumption | with_reducible exact rng_toInt _ | with_reducible exact rng_wr _ | (unfold rng; omega) | (unfold rng at *; omega) | assumption)) (by (first | omega | with_reducible assumption | with_reducible exact rng_toInt _ | with_reducible exact rng_wr _ | (unfold rng; omega) | (unfold rng at *; omega) | assumption)) (by (first | omega | with_reducible assumption | with_reducible exact rng_toInt _ | with_reducible exact rng_wr _ | (unfold rng; omega) | (unfold rng at *; omega) | assumption)) (by (first | omega | with_reducible assumption | with_reducible exact rng_toInt _ | with_reducible exact rng_wr _ | (unfold rng; omega) | (unfold rng at *; omega) | assumption)) (by unfold rng; omega) (tb0 iσ84) (fun σ85 LLσ85 Nσ85 nuσ85 _ iσ85 cσ85 uσ85 hσ85 pσ85 => ?_) (fun σx LLx Nx nux E ix cx ux px => hX σx gqσ82 ciσ82 LLx Nx nux E ix geσ82 (fσ84.tr (cx.mo (by decide))) (nu_σ82.x ux) (by first | exact px | exact ⟨by have := px.1; omega, (Hn.nz hnσ82 (by first | decide | (intro x hx; simp only [List.mem_cons, List.mem_nil_iff, or_false] at hx; omega))).tr px.2.1, px.2.2⟩ | (first | omega | with_reducible assumption | with_reducible exact rng_toInt _ | with_reducible exact rng_wr _ | (unfold rng; omega) | (unfold rng at *; omega) | assumption)))
            intro xσ85
            have fσ85 : Fx [1, 2, 3, 4, 5, 6, 7, 64, 132, 133, 192, 193, 195, 196, 197, 198, 199, 200, 201, 265, 266, 512, 513, 514, 590, 640, 641, 645, 646, 647, 648, 649, 650, 651, 652, 653, 654, 655, 708, 6464, 7680] gr σ σ85 := fσ84.tr (cσ85.mo (by decide))
            have hnσ85 : Hn (gD σ) [3, 5, 11, 12, 13, 14, 50, 60, 61, 62, 63, 64, 65, 66, 67, 68, 69, 70, 71, 21, 22, 31, 32] [] gq LL LLσ85 N Nσ85 := hnσ82.go (hσ85.ge (fun a ha => (geσ82 a ha).1) (fun d hd => (fσ84.1 d hd).1)) (fun _ hd => hd) (by first | decide | exact fun _ h => h | (simp; done) | (intro x hx; simp only [List.mem_cons, List.mem_nil_iff, or_false] at hx ⊢; omega)) (fun d hd => absurd hd (by simp))
            have nσ85_3 := hσ85.2.2 3 (by first | decide | (simp; done) | (simp only [List.mem_cons, List.mem_nil_iff, or_false, not_or]; omega)) (by first | decide | omega) (by first | decide | omega) (by first | decide | omega)
            have nσ85_5 := hσ85.2.2 5 (by first | decide | (simp; done) | (simp only [List.mem_cons, List.mem_nil_iff, or_false, not_or]; omega)) (by first | decide | omega) (by first | decide | omega) (by first | decide | omega)
            have nσ85_14 := hσ85.2.2 14 (by first | decide | (simp; done) | (simp only [List.mem_cons, List.mem_nil_iff, or_false, not_or]; omega)) (by first | decide | omega) (by first | decide | omega) (by first | decide | omega)
            have nσ85_44 := hσ85.2.2 44 (by first | decide | (simp; done) | (simp only [List.mem_cons, List.mem_nil_iff, or_false, not_or]; omega)) (by first | decide | omega) (by first | decide | omega) (by first | decide | omega)
            have nσ85_74 := hσ85.2.2 74 (by first | decide | (simp; done) | (simp only [List.mem_cons, List.mem_nil_iff, or_false, not_or]; omega)) (by first | decide | omega) (by first | decide | omega) (by first | decide | omega)
            have nσ85_11 := hσ85.2.2 11 (by first | decide | (simp; done) | (simp only [List.mem_cons, List.mem_nil_iff, or_false, not_or]; omega)) (by first | decide | omega) (by first | decide | omega) (by first | decide | omega)
            have nσ85_12 := hσ85.2.2 12 (by first | decide | (simp; done) | (simp only [List.mem_cons, List.mem_nil_iff, or_false, not_or]; omega)) (by first | decide | omega) (by first | decide | omega) (by first | decide | omega)
            have nσ85_41 := hσ85.2.2 41 (by first | decide | (simp; done) | (simp only [List.mem_cons, List.mem_nil_iff, or_false, not_or]; omega)) (by first | decide | omega) (by first | decide | omega) (by first | decide | omega)
            have nσ85_42 := hσ85.2.2 42 (by first | decide | (simp; done) | (simp only [List.mem_cons, List.mem_nil_iff, or_false, not_or]; omega)) (by first | decide | omega) (by first | decide | omega) (by first | decide | omega)
            have nσ85_50 := hσ85.2.2 50 (by first | decide | (simp; done) | (simp only [List.mem_cons, List.mem_nil_iff, or_false, not_or]; omega)) (by first | decide | omega) (by first | decide | omega) (by first | decide | omega)
            have nu_σ85 : NU nu nuσ85 := nu_σ82.tr uσ85
            have uσ85_0 := uσ85.1 0 (by decide)
            have uσ85_1 := uσ85.1 1 (by decide)
            have uσ85_2 := uσ85.2
            have uσ85_5 := uσ85.1 5 (by decide)
            have uσ85_15 := uσ85.1 15 (by decide)
            have uσ85_16 := uσ85.1 16 (by decide)
            have kp160 : gI σ85 th 12 = gI σ84 th 12 := (cσ85.O (kth.up (xσ71.trans (xσ106.trans (xσ74.trans (xσ76.trans (xσ79.trans (xσ82.trans xσ84))))))) (by decide)).1
            have kp161 : gP σ85 W 5 = gP σ84 W 5 := (cσ85.O (kW.up (xσ71.trans (xσ106.trans (xσ74.trans (xσ76.trans (xσ79.trans (xσ82.trans xσ84))))))) (by decide)).2.1
            have kp162 : gP σ85 b 0 = gP σ84 b 0 := (cσ85.O (knb.up (xσ106.trans (xσ74.trans (xσ76.trans (xσ79.trans (xσ82.trans xσ84)))))) (by decide)).2.1
            have kp163 : gP σ85 th 0 = gP σ84 th 0 := (cσ85.O (kth.up (xσ71.trans (xσ106.trans (xσ74.trans (xσ76.trans (xσ79.trans (xσ82.trans xσ84))))))) (by decide)).2.1
            have kp164 : gP σ85 th 1 = gP σ84 th 1 := (cσ85.O (kth.up (xσ71.trans (xσ106.trans (xσ74.trans (xσ76.trans (xσ79.trans (xσ82.trans xσ84))))))) (by decide)).2.1
            have kp165 : gP σ85 th 9 = gP σ84 th 9 := (cσ85.O (kth.up (xσ71.trans (xσ106.trans (xσ74.trans (xσ76.trans (xσ79.trans (xσ82.trans xσ84))))))) (by decide)).2.1
            have kp166 : gI σ85 o 6 = gI σ84 o 6 := (cσ85.O (ko.up (xσ71.trans (xσ106.trans (xσ74.trans (xσ76.trans (xσ79.trans (xσ82.trans xσ84))))))) (by decide)).1
            have kp167 : gI σ85 t 0 = gI σ84 t 0 := (cσ85.O (kt.up (xσ71.trans (xσ106.trans (xσ74.trans (xσ76.trans (xσ79.trans (xσ82.trans xσ84))))))) (by decide)).1
            unfold w_X9_takeThing_200
            exact hQ σ85 gqσ82 ciσ82 LLσ85 Nσ85 nuσ85 1 iσ85 geσ82 fσ85 (nu_σ85) hnσ85 (by (first | omega | with_reducible assumption | with_reducible exact rng_toInt _ | with_reducible exact rng_wr _ | (unfold rng; omega) | (unfold rng at *; omega) | assumption))
    · rw [if_neg hc17]
      have hc17q := Classical.not_not.mp hc17
      unfold w_X9_takeThing_28
      exact hQ σ106 gq ci LLσ106 Nσ106 nuσ106 0 iσ106 geσ fσ106 (nu_σ106) hnσ106 (by first | omega | (rcases pσ106 with q | ⟨c9, T9, y1, y2, _⟩; (rw [q.2.2.2]; omega); cases (y2.symm.trans (show r107 = none by assumption))))
  · rw [if_neg hc9]
    have hc9q := Classical.not_not.mp hc9
    unfold w_X9_takeThing_10
    unfold w_X9_takeThing_21
    rw [if_neg (by simp)]
    unfold w_X9_takeThing_28
    exact hQ σ71 gq ci LL N nu 0 iσ71 geσ fσ71 (NU.rf) hnσ (by first | omega | (rcases pσ106 with q | ⟨c9, T9, y1, y2, _⟩; (rw [q.2.2.2]; omega); cases (y2.symm.trans (show r107 = none by assumption))))
set_option maxHeartbeats 1000000 in
theorem i_X9_actAsSource {σ : Sg} {pl : Nat} {gq ci gr nc : Nat → Nat} {ot : Nat → Nat → Int} {LL : Nat → List Nat} {N nu : Nat → Nat} {th : Nat} {v1 : Option Nat} {v2 : Option Nat} {J i : Nat} (iσ : IV σ pl gq ci gr nc ot LL N nu) (kth : kO σ th 9) {t : Nat} (hv1 : v1 = some t) (kt : kO σ t 10) {o : Nat} (hv2 : v2 = some o) (ko : kO σ o 5) (ht : gq t = 1) (hl : ci t < nu 15) (hj : gP σ th 9 = some J) (kJ : kO σ J 4) (hJ : gq J = nc 0) (ho : gq o = 16 * nc 0 + i) (hi : i < nc 1) (hto : gI σ t 0 = (i : Int)) (hk : ot i 6 = 0) (hp : 1 ≤ gI σ th 12) (h5 : nu 5 < 24000) (hb : N 14 + N 44 + N 74 + N 1 ≤ 20000) (n5 : N 5 = 0) (n14 : N 14 = 0) {Q : Sg → Int → Prop} {X : Sg → String → Prop} (hQ : ∀ (σ' : Sg) (gq' ci' : Nat → Nat) (LL' : Nat → List Nat) (N' nu' : Nat → Nat) (r : Int), IV σ' pl gq' ci' gr nc ot LL' N' nu' → GE (gD σ) gq ci gq' ci' → Fx [1, 2, 3, 4, 5, 6, 7, 64, 192, 193, 195, 196, 197, 198, 199, 200, 201, 512, 513, 514, 590, 640, 641, 645, 646, 647, 648, 649, 650, 651, 652, 653, 654, 655, 6464, 7680] gr σ σ' → NU nu nu' → Hn (gD σ) [3, 5, 11, 12, 13, 14, 50, 60, 61, 62, 63, 64, 65, 66, 67, 68, 69, 70, 71, 21, 22, 31, 32] [] gq LL LL' N N' → ((r = 0 ∨ r = 1) ∧ N' 1 = N 1 ∧ N' 14 = 0 ∧ N' 5 = 0 ∧ N' 3 ≤ N 3 + 40010000) → Q σ' r) (hX : ∀ (σ' : Sg) (gq' ci' : Nat → Nat) (LL' : Nat → List Nat) (N' nu' : Nat → Nat) (E : String), IV σ' pl gq' ci' gr nc ot LL' N' nu' → GE (gD σ) gq ci gq' ci' → Fx [1, 2, 3, 4, 5, 6, 7, 64, 192, 193, 195, 196, 197, 198, 199, 200, 201, 512, 513, 514, 590, 640, 641, 645, 646, 647, 648, 649, 650, 651, 652, 653, 654, 655, 6464, 7680] gr σ σ' → NX nu nu' → ((N' 1 ≤ N 1 + 4 ∧ N' 5 = N 5 ∧ N' 3 ≤ N 3 + 40010000 ∧ N' 44 = N 44 ∧ N' 74 = N 74) ∧ NZ N N' ∧ E = "java/lang/IllegalStateException") → X σ' E) : wp_X9_actAsSource th v1 v2 σ Q X := by
  have fσ : Fx [1, 2, 3, 4, 5, 6, 7, 64, 192, 193, 195, 196, 197, 198, 199, 200, 201, 512, 513, 514, 590, 640, 641, 645, 646, 647, 648, 649, 650, 651, 652, 653, 654, 655, 6464, 7680] gr σ σ := Fx.rf
  have geσ : GE (gD σ) gq ci gq ci := GE.rf
  have hnσ : Hn (gD σ) [3, 5, 11, 12, 13, 14, 50, 60, 61, 62, 63, 64, 65, 66, 67, 68, 69, 70, 71, 21, 22, 31, 32] [] gq LL LL N N := Hn.rf
  have q1 := I_10_0 iσ.1 kt
  have q2 := I_9_12 iσ.1 kth
  have q6 := iσ.op ko ho hi 6 (by decide)
  have n16 := iσ.n16
  have ok := iσ.opok hi
  have h9 := ok.2.2.2.2.2.2.2.2.1 (by omega)
  have h90 := ok.2.2.2.2.2.2.2.2.2.2.2
  have q9b := iσ.op ko ho hi 9 (by decide)
  unfold wp_X9_actAsSource
  unfold w_X9_actAsSource_0
  obtain ⟨b, eb⟩ := P_9_2 iσ.1 kth
  refine ⟨b, eb, fun kk_b => ?_⟩
  have q4 := iσ.rg b 3; unfold rng at q4
  by_cases hc3 : gI σ b 3 = 0
  · rw [if_pos hc3]
    unfold w_X9_actAsSource_35
    refine ⟨t, hv1, fun kk_t => ?_⟩
    refine ⟨J, hj, fun kk_J => ?_⟩
    refine ⟨o, hv2, fun kk_o => ?_⟩
    obtain ⟨b_1, eb_1, fb_1⟩ := P_4_12 iσ.1 kJ
    have mb_1 : kO σ b_1 100 := iσ.1.kd kJ rfl eb_1 rfl
    refine ⟨b_1, eb_1, fun kk_b_1 => ?_⟩
    have q5 := I_5_9 iσ.1 ko
    refine ⟨⟨by (first | omega | with_reducible assumption | with_reducible exact rng_toInt _ | with_reducible exact rng_wr _ | (unfold rng; omega) | (unfold rng at *; omega) | assumption), by (first | omega | with_reducible assumption | with_reducible exact rng_toInt _ | with_reducible exact rng_wr _ | (unfold rng; omega) | (unfold rng at *; omega) | assumption)⟩, ?_⟩
    have q7 := I_10_6 iσ.1 kt
    have q8 := I_132 iσ.1 mb_1 (by omega) (gI σ o 9).toNat
    by_cases hc6 : gI σ t 6 ≥ (gI σ b_1 (gI σ o 9).toNat)
    · rw [if_pos hc6]
      unfold w_X9_actAsSource_62
      refine ⟨J, hj, fun kk_J_1 => ?_⟩
      refine ⟨o, hv2, fun kk_o_1 => ?_⟩
      obtain ⟨b_2, eb_2, fb_2⟩ := P_4_13 iσ.1 kJ
      have mb_2 : kO σ b_2 103 := iσ.1.kd kJ rfl eb_2 rfl
      refine ⟨b_2, eb_2, fun kk_b_2 => ?_⟩
      refine ⟨⟨by (first | omega | with_reducible assumption | with_reducible exact rng_toInt _ | with_reducible exact rng_wr _ | (unfold rng; omega) | (unfold rng at *; omega) | assumption), by (first | omega | with_reducible assumption | with_reducible exact rng_toInt _ | with_reducible exact rng_wr _ | (unfold rng; omega) | (unfold rng at *; omega) | assumption)⟩, ?_⟩
      have q10 := iσ.rg b_2 (gI σ o 9).toNat; unfold rng at q10
      by_cases hc9 : (gI σ b_2 (gI σ o 9).toNat) = 0
      · rw [if_pos hc9]
        unfold w_X9_actAsSource_106
        exact hQ σ gq ci LL N nu 0 iσ geσ fσ (NU.rf) hnσ (by (first | omega | with_reducible assumption | with_reducible exact rng_toInt _ | with_reducible exact rng_wr _ | (unfold rng; omega) | (unfold rng at *; omega) | assumption))
      · rw [if_neg hc9]
        unfold w_X9_actAsSource_77
        refine ⟨t, hv1, fun kk_t_1 => ?_⟩
        by_cases hc11 : gJ σ t 7 = 1099511627776
        · rw [if_pos hc11]
          unfold w_X9_actAsSource_106
          exact hQ σ gq ci LL N nu 0 iσ geσ fσ (NU.rf) hnσ (by (first | omega | with_reducible assumption | with_reducible exact rng_toInt _ | with_reducible exact rng_wr _ | (unfold rng; omega) | (unfold rng at *; omega) | assumption))
        · rw [if_neg hc11]
          unfold w_X9_actAsSource_88
          refine ⟨t, hv1, fun kk_t_2 => ?_⟩
          intro σ33 eσ33
          have xσ33 : Ext σ σ33 := by rw [eσ33]; exact fun _ h => ⟨h, rfl, rfl⟩
          have iσ33 : IV σ33 pl gq ci gr nc ot LL N nu := by rw [eσ33]; exact iσ.wT kt (by decide) (tbE iσ)
          have fσ33 : Fx [1, 2, 3, 4, 5, 6, 7, 64, 192, 193, 195, 196, 197, 198, 199, 200, 201, 512, 513, 514, 590, 640, 641, 645, 646, 647, 648, 649, 650, 651, 652, 653, 654, 655, 6464, 7680] gr σ σ33 := fσ.tr (Sk.fx (by rw [eσ33]; exact Sk.pJ (by rw [fcdO kt (by decide)]; decide)))
          have kp12 : gI σ33 b 3 = gI σ b 3 := by rw [eσ33]
          have kp13 : gI σ33 b_2 (gI σ o 9).toNat = gI σ b_2 (gI σ o 9).toNat := by rw [eσ33]
          have kp14 : gI σ33 o 9 = gI σ o 9 := by rw [eσ33]
          have kp15 : gI σ33 t 0 = gI σ t 0 := by rw [eσ33]
          have kp16 : gI σ33 t 6 = gI σ t 6 := by rw [eσ33]
          have kp17 : gI σ33 th 12 = gI σ th 12 := by rw [eσ33]
          have kp18 : gP σ33 J 12 = gP σ J 12 := by rw [eσ33]
          have kp19 : gP σ33 J 13 = gP σ J 13 := by rw [eσ33]
          have kp20 : gP σ33 th 2 = gP σ th 2 := by rw [eσ33]
          have kp21 : gP σ33 th 9 = gP σ th 9 := by rw [eσ33]
          have kp22 : gI σ33 o 6 = gI σ o 6 := by rw [eσ33]
          refine i_X9_sendToAll iσ33 (kth.up xσ33) hv1 (kt.up xσ33) (by (first | omega | with_reducible assumption | with_reducible exact rng_toInt _ | with_reducible exact rng_wr _ | (unfold rng; omega) | (unfold rng at *; omega) | assumption)) (by (first | omega | with_reducible assumption | with_reducible exact rng_toInt _ | with_reducible exact rng_wr _ | (unfold rng; omega) | (unfold rng at *; omega) | assumption)) (by (first | omega | with_reducible assumption | with_reducible exact rng_toInt _ | with_reducible exact rng_wr _ | (unfold rng; omega) | (unfold rng at *; omega) | assumption)) (by (first | omega | with_reducible assumption | with_reducible exact rng_toInt _ | with_reducible exact rng_wr _ | (unfold rng; omega) | (unfold rng at *; omega) | assumption)) (by unfold rng; omega) (tbE iσ33) (fun σ34 LLσ34 Nσ34 nuσ34 _ iσ34 cσ34 uσ34 hσ34 pσ34 => ?_) (fun σx LLx Nx nux E ix cx ux px => hX σx gq ci LLx Nx nux E ix geσ (fσ33.tr (cx.mo (by decide))) (ux) (by first | exact px | exact ⟨by have := px.1; omega, px.2.1, px.2.2⟩ | (first | omega | with_reducible assumption | with_reducible exact rng_toInt _ | with_reducible exact rng_wr _ | (unfold rng; omega) | (unfold rng at *; omega) | assumption)))
          intro xσ34
          have fσ34 : Fx [1, 2, 3, 4, 5, 6, 7, 64, 192, 193, 195, 196, 197, 198, 199, 200, 201, 512, 513, 514, 590, 640, 641, 645, 646, 647, 648, 649, 650, 651, 652, 653, 654, 655, 6464, 7680] gr σ σ34 := fσ33.tr (cσ34.mo (by decide))
          have hnσ34 : Hn (gD σ) [3, 5, 11, 12, 13, 14, 50, 60, 61, 62, 63, 64, 65, 66, 67, 68, 69, 70, 71, 21, 22, 31, 32] [] gq LL LLσ34 N Nσ34 := hnσ.go (hσ34.ge (fun a ha => (geσ a ha).1) (fun d hd => (fσ33.1 d hd).1)) (fun _ hd => hd) (by first | decide | exact fun _ h => h | (simp; done) | (intro x hx; simp only [List.mem_cons, List.mem_nil_iff, or_false] at hx ⊢; omega)) (fun d hd => absurd hd (by simp))
          have nσ34_3 := hσ34.2.2 3 (by first | decide | (simp; done) | (simp only [List.mem_cons, List.mem_nil_iff, or_false, not_or]; omega)) (by first | decide | omega) (by first | decide | omega) (by first | decide | omega)
          have nσ34_5 := hσ34.2.2 5 (by first | decide | (simp; done) | (simp only [List.mem_cons, List.mem_nil_iff, or_false, not_or]; omega)) (by first | decide | omega) (by first | decide | omega) (by first | decide | omega)
          have nσ34_14 := hσ34.2.2 14 (by first | decide | (simp; done) | (simp only [List.mem_cons, List.mem_nil_iff, or_false, not_or]; omega)) (by first | decide | omega) (by first | decide | omega) (by first | decide | omega)
          have nσ34_44 := hσ34.2.2 44 (by first | decide | (simp; done) | (simp only [List.mem_cons, List.mem_nil_iff, or_false, not_or]; omega)) (by first | decide | omega) (by first | decide | omega) (by first | decide | omega)
          have nσ34_74 := hσ34.2.2 74 (by first | decide | (simp; done) | (simp only [List.mem_cons, List.mem_nil_iff, or_false, not_or]; omega)) (by first | decide | omega) (by first | decide | omega) (by first | decide | omega)
          have nσ34_11 := hσ34.2.2 11 (by first | decide | (simp; done) | (simp only [List.mem_cons, List.mem_nil_iff, or_false, not_or]; omega)) (by first | decide | omega) (by first | decide | omega) (by first | decide | omega)
          have nσ34_12 := hσ34.2.2 12 (by first | decide | (simp; done) | (simp only [List.mem_cons, List.mem_nil_iff, or_false, not_or]; omega)) (by first | decide | omega) (by first | decide | omega) (by first | decide | omega)
          have nσ34_41 := hσ34.2.2 41 (by first | decide | (simp; done) | (simp only [List.mem_cons, List.mem_nil_iff, or_false, not_or]; omega)) (by first | decide | omega) (by first | decide | omega) (by first | decide | omega)
          have nσ34_42 := hσ34.2.2 42 (by first | decide | (simp; done) | (simp only [List.mem_cons, List.mem_nil_iff, or_false, not_or]; omega)) (by first | decide | omega) (by first | decide | omega) (by first | decide | omega)
          have nσ34_50 := hσ34.2.2 50 (by first | decide | (simp; done) | (simp only [List.mem_cons, List.mem_nil_iff, or_false, not_or]; omega)) (by first | decide | omega) (by first | decide | omega) (by first | decide | omega)
          have nu_σ34 : NU nu nuσ34 := uσ34
          have uσ34_0 := uσ34.1 0 (by decide)
          have uσ34_1 := uσ34.1 1 (by decide)
          have uσ34_2 := uσ34.2
          have uσ34_5 := uσ34.1 5 (by decide)
          have uσ34_15 := uσ34.1 15 (by decide)
          have uσ34_16 := uσ34.1 16 (by decide)
          have kp23 : gI σ34 b 3 = gI σ33 b 3 := (cσ34.O (kk_b.up xσ33) (by decide)).1
          have kp24 : gI σ34 b_2 (gI σ o 9).toNat = gI σ33 b_2 (gI σ o 9).toNat := (cσ34.A (mb_2.up xσ33) (by decide)).1
          have kp25 : gI σ34 o 9 = gI σ33 o 9 := (cσ34.O (ko.up xσ33) (by decide)).1
          have kp26 : gI σ34 t 0 = gI σ33 t 0 := (cσ34.O (kt.up xσ33) (by decide)).1
          have kp27 : gI σ34 t 6 = gI σ33 t 6 := (cσ34.O (kt.up xσ33) (by decide)).1
          have kp28 : gI σ34 th 12 = gI σ33 th 12 := (cσ34.O (kth.up xσ33) (by decide)).1
          have kp29 : gP σ34 J 12 = gP σ33 J 12 := (cσ34.O (kJ.up xσ33) (by decide)).2.1
          have kp30 : gP σ34 J 13 = gP σ33 J 13 := (cσ34.O (kJ.up xσ33) (by decide)).2.1
          have kp31 : gP σ34 th 2 = gP σ33 th 2 := (cσ34.O (kth.up xσ33) (by decide)).2.1
          have kp32 : gP σ34 th 9 = gP σ33 th 9 := (cσ34.O (kth.up xσ33) (by decide)).2.1
          have kp33 : gI σ34 o 6 = gI σ33 o 6 := (cσ34.O (ko.up xσ33) (by decide)).1
          exact hQ σ34 gq ci LLσ34 Nσ34 nuσ34 1 iσ34 geσ fσ34 (nu_σ34) hnσ34 (by (first | omega | with_reducible assumption | with_reducible exact rng_toInt _ | with_reducible exact rng_wr _ | (unfold rng; omega) | (unfold rng at *; omega) | assumption))
    · rw [if_neg hc6]
      unfold w_X9_actAsSource_54
      refine i_X9_readRow iσ kth hv1 kt hv2 ko (by (first | omega | with_reducible assumption | with_reducible exact rng_toInt _ | with_reducible exact rng_wr _ | (unfold rng; omega) | (unfold rng at *; omega) | assumption)) (by (first | omega | with_reducible assumption | with_reducible exact rng_toInt _ | with_reducible exact rng_wr _ | (unfold rng; omega) | (unfold rng at *; omega) | assumption)) hj kJ (by (first | omega | with_reducible assumption | with_reducible exact rng_toInt _ | with_reducible exact rng_wr _ | (unfold rng; omega) | (unfold rng at *; omega) | assumption)) (by (first | omega | with_reducible assumption | with_reducible exact rng_toInt _ | with_reducible exact rng_wr _ | (unfold rng; omega) | (unfold rng at *; omega) | assumption)) (by (first | omega | with_reducible assumption | with_reducible exact rng_toInt _ | with_reducible exact rng_wr _ | (unfold rng; omega) | (unfold rng at *; omega) | assumption)) hk (by (first | omega | with_reducible assumption | with_reducible exact rng_toInt _ | with_reducible exact rng_wr _ | (unfold rng; omega) | (unfold rng at *; omega) | assumption)) (by (first | omega | with_reducible assumption | with_reducible exact rng_toInt _ | with_reducible exact rng_wr _ | (unfold rng; omega) | (unfold rng at *; omega) | assumption)) (by (first | omega | with_reducible assumption | with_reducible exact rng_toInt _ | with_reducible exact rng_wr _ | (unfold rng; omega) | (unfold rng at *; omega) | assumption)) (by omega) (fun σ27 LLσ27 Nσ27 nuσ27 _ iσ27 cσ27 uσ27 hσ27 pσ27 => ?_) (fun σx LLx Nx nux E ix cx ux px => hX σx gq ci LLx Nx nux E ix geσ (fσ.tr (cx.mo (by decide))) (ux) (by first | exact px | exact ⟨by have := px.1; omega, px.2.1, px.2.2⟩ | (first | omega | with_reducible assumption | with_reducible exact rng_toInt _ | with_reducible exact rng_wr _ | (unfold rng; omega) | (unfold rng at *; omega) | assumption)))
      intro xσ27
      have fσ27 : Fx [1, 2, 3, 4, 5, 6, 7, 64, 192, 193, 195, 196, 197, 198, 199, 200, 201, 512, 513, 514, 590, 640, 641, 645, 646, 647, 648, 649, 650, 651, 652, 653, 654, 655, 6464, 7680] gr σ σ27 := fσ.tr (cσ27.mo (by decide))
      have hnσ27 : Hn (gD σ) [3, 5, 11, 12, 13, 14, 50, 60, 61, 62, 63, 64, 65, 66, 67, 68, 69, 70, 71, 21, 22, 31, 32] [] gq LL LLσ27 N Nσ27 := hnσ.go (hσ27.ge (fun a ha => (geσ a ha).1) (fun d hd => (fσ.1 d hd).1)) (fun _ hd => hd) (by first | decide | exact fun _ h => h | (simp; done) | (intro x hx; simp only [List.mem_cons, List.mem_nil_iff, or_false] at hx ⊢; omega)) (fun d hd => absurd hd (by simp))
      have nσ27_3 := hσ27.2.2 3 (by first | decide | (simp; done) | (simp only [List.mem_cons, List.mem_nil_iff, or_false, not_or]; omega)) (by first | decide | omega) (by first | decide | omega) (by first | decide | omega)
      have nσ27_5 := hσ27.2.2 5 (by first | decide | (simp; done) | (simp only [List.mem_cons, List.mem_nil_iff, or_false, not_or]; omega)) (by first | decide | omega) (by first | decide | omega) (by first | decide | omega)
      have nσ27_14 := hσ27.2.2 14 (by first | decide | (simp; done) | (simp only [List.mem_cons, List.mem_nil_iff, or_false, not_or]; omega)) (by first | decide | omega) (by first | decide | omega) (by first | decide | omega)
      have nσ27_44 := hσ27.2.2 44 (by first | decide | (simp; done) | (simp only [List.mem_cons, List.mem_nil_iff, or_false, not_or]; omega)) (by first | decide | omega) (by first | decide | omega) (by first | decide | omega)
      have nσ27_74 := hσ27.2.2 74 (by first | decide | (simp; done) | (simp only [List.mem_cons, List.mem_nil_iff, or_false, not_or]; omega)) (by first | decide | omega) (by first | decide | omega) (by first | decide | omega)
      have nσ27_11 := hσ27.2.2 11 (by first | decide | (simp; done) | (simp only [List.mem_cons, List.mem_nil_iff, or_false, not_or]; omega)) (by first | decide | omega) (by first | decide | omega) (by first | decide | omega)
      have nσ27_12 := hσ27.2.2 12 (by first | decide | (simp; done) | (simp only [List.mem_cons, List.mem_nil_iff, or_false, not_or]; omega)) (by first | decide | omega) (by first | decide | omega) (by first | decide | omega)
      have nσ27_41 := hσ27.2.2 41 (by first | decide | (simp; done) | (simp only [List.mem_cons, List.mem_nil_iff, or_false, not_or]; omega)) (by first | decide | omega) (by first | decide | omega) (by first | decide | omega)
      have nσ27_42 := hσ27.2.2 42 (by first | decide | (simp; done) | (simp only [List.mem_cons, List.mem_nil_iff, or_false, not_or]; omega)) (by first | decide | omega) (by first | decide | omega) (by first | decide | omega)
      have nσ27_50 := hσ27.2.2 50 (by first | decide | (simp; done) | (simp only [List.mem_cons, List.mem_nil_iff, or_false, not_or]; omega)) (by first | decide | omega) (by first | decide | omega) (by first | decide | omega)
      have nu_σ27 : NU nu nuσ27 := uσ27
      have uσ27_0 := uσ27.1 0 (by decide)
      have uσ27_1 := uσ27.1 1 (by decide)
      have uσ27_2 := uσ27.2
      have uσ27_5 := uσ27.1 5 (by decide)
      have uσ27_15 := uσ27.1 15 (by decide)
      have uσ27_16 := uσ27.1 16 (by decide)
      have kp34 : gI σ27 b 3 = gI σ b 3 := (cσ27.O kk_b (by decide)).1
      have kp35 : gI σ27 o 9 = gI σ o 9 := (cσ27.O ko (by decide)).1
      have kp36 : gI σ27 t 0 = gI σ t 0 := (cσ27.O kt (by decide)).1
      have kp37 : gI σ27 th 12 = gI σ th 12 := (cσ27.O kth (by decide)).1
      have kp38 : gP σ27 J 12 = gP σ J 12 := (cσ27.O kJ (by decide)).2.1
      have kp39 : gP σ27 th 2 = gP σ th 2 := (cσ27.O kth (by decide)).2.1
      have kp40 : gP σ27 th 9 = gP σ th 9 := (cσ27.O kth (by decide)).2.1
      have kp41 : gI σ27 o 6 = gI σ o 6 := (cσ27.O ko (by decide)).1
      exact hQ σ27 gq ci LLσ27 Nσ27 nuσ27 1 iσ27 geσ fσ27 (nu_σ27) hnσ27 (by (first | omega | with_reducible assumption | with_reducible exact rng_toInt _ | with_reducible exact rng_wr _ | (unfold rng; omega) | (unfold rng at *; omega) | assumption))
  · rw [if_neg hc3]
    unfold w_X9_actAsSource_10
    refine ⟨t, hv1, fun kk_t_3 => ?_⟩
    have q43 := I_10_10 iσ.1 kt
    by_cases hc42 : gI σ t 10 ≠ 0
    · rw [if_pos hc42]
      unfold w_X9_actAsSource_35
      refine ⟨t, hv1, fun kk_t_4 => ?_⟩
      refine ⟨J, hj, fun kk_J_2 => ?_⟩
      refine ⟨o, hv2, fun kk_o_2 => ?_⟩
      obtain ⟨b_3, eb_3, fb_3⟩ := P_4_12 iσ.1 kJ
      have mb_3 : kO σ b_3 100 := iσ.1.kd kJ rfl eb_3 rfl
      refine ⟨b_3, eb_3, fun kk_b_3 => ?_⟩
      have q44 := I_5_9 iσ.1 ko
      refine ⟨⟨by (first | omega | with_reducible assumption | with_reducible exact rng_toInt _ | with_reducible exact rng_wr _ | (unfold rng; omega) | (unfold rng at *; omega) | assumption), by (first | omega | with_reducible assumption | with_reducible exact rng_toInt _ | with_reducible exact rng_wr _ | (unfold rng; omega) | (unfold rng at *; omega) | assumption)⟩, ?_⟩
      have q46 := I_10_6 iσ.1 kt
      have q47 := I_132 iσ.1 mb_3 (by omega) (gI σ o 9).toNat
      by_cases hc45 : gI σ t 6 ≥ (gI σ b_3 (gI σ o 9).toNat)
      · rw [if_pos hc45]
        unfold w_X9_actAsSource_62
        refine ⟨J, hj, fun kk_J_3 => ?_⟩
        refine ⟨o, hv2, fun kk_o_3 => ?_⟩
        obtain ⟨b_4, eb_4, fb_4⟩ := P_4_13 iσ.1 kJ
        have mb_4 : kO σ b_4 103 := iσ.1.kd kJ rfl eb_4 rfl
        refine ⟨b_4, eb_4, fun kk_b_4 => ?_⟩
        refine ⟨⟨by (first | omega | with_reducible assumption | with_reducible exact rng_toInt _ | with_reducible exact rng_wr _ | (unfold rng; omega) | (unfold rng at *; omega) | assumption), by (first | omega | with_reducible assumption | with_reducible exact rng_toInt _ | with_reducible exact rng_wr _ | (unfold rng; omega) | (unfold rng at *; omega) | assumption)⟩, ?_⟩
        have q49 := iσ.rg b_4 (gI σ o 9).toNat; unfold rng at q49
        by_cases hc48 : (gI σ b_4 (gI σ o 9).toNat) = 0
        · rw [if_pos hc48]
          unfold w_X9_actAsSource_106
          exact hQ σ gq ci LL N nu 0 iσ geσ fσ (NU.rf) hnσ (by (first | omega | with_reducible assumption | with_reducible exact rng_toInt _ | with_reducible exact rng_wr _ | (unfold rng; omega) | (unfold rng at *; omega) | assumption))
        · rw [if_neg hc48]
          unfold w_X9_actAsSource_77
          refine ⟨t, hv1, fun kk_t_5 => ?_⟩
          by_cases hc50 : gJ σ t 7 = 1099511627776
          · rw [if_pos hc50]
            unfold w_X9_actAsSource_106
            exact hQ σ gq ci LL N nu 0 iσ geσ fσ (NU.rf) hnσ (by (first | omega | with_reducible assumption | with_reducible exact rng_toInt _ | with_reducible exact rng_wr _ | (unfold rng; omega) | (unfold rng at *; omega) | assumption))
          · rw [if_neg hc50]
            unfold w_X9_actAsSource_88
            refine ⟨t, hv1, fun kk_t_6 => ?_⟩
            intro σ33_1 eσ33_1
            have xσ33_1 : Ext σ σ33_1 := by rw [eσ33_1]; exact fun _ h => ⟨h, rfl, rfl⟩
            have iσ33_1 : IV σ33_1 pl gq ci gr nc ot LL N nu := by rw [eσ33_1]; exact iσ.wT kt (by decide) (tbE iσ)
            have fσ33_1 : Fx [1, 2, 3, 4, 5, 6, 7, 64, 192, 193, 195, 196, 197, 198, 199, 200, 201, 512, 513, 514, 590, 640, 641, 645, 646, 647, 648, 649, 650, 651, 652, 653, 654, 655, 6464, 7680] gr σ σ33_1 := fσ.tr (Sk.fx (by rw [eσ33_1]; exact Sk.pJ (by rw [fcdO kt (by decide)]; decide)))
            have kp51 : gI σ33_1 b 3 = gI σ b 3 := by rw [eσ33_1]
            have kp52 : gI σ33_1 b_4 (gI σ o 9).toNat = gI σ b_4 (gI σ o 9).toNat := by rw [eσ33_1]
            have kp53 : gI σ33_1 o 9 = gI σ o 9 := by rw [eσ33_1]
            have kp54 : gI σ33_1 t 0 = gI σ t 0 := by rw [eσ33_1]
            have kp55 : gI σ33_1 t 10 = gI σ t 10 := by rw [eσ33_1]
            have kp56 : gI σ33_1 t 6 = gI σ t 6 := by rw [eσ33_1]
            have kp57 : gI σ33_1 th 12 = gI σ th 12 := by rw [eσ33_1]
            have kp58 : gP σ33_1 J 12 = gP σ J 12 := by rw [eσ33_1]
            have kp59 : gP σ33_1 J 13 = gP σ J 13 := by rw [eσ33_1]
            have kp60 : gP σ33_1 th 2 = gP σ th 2 := by rw [eσ33_1]
            have kp61 : gP σ33_1 th 9 = gP σ th 9 := by rw [eσ33_1]
            have kp62 : gI σ33_1 o 6 = gI σ o 6 := by rw [eσ33_1]
            refine i_X9_sendToAll iσ33_1 (kth.up xσ33_1) hv1 (kt.up xσ33_1) (by (first | omega | with_reducible assumption | with_reducible exact rng_toInt _ | with_reducible exact rng_wr _ | (unfold rng; omega) | (unfold rng at *; omega) | assumption)) (by (first | omega | with_reducible assumption | with_reducible exact rng_toInt _ | with_reducible exact rng_wr _ | (unfold rng; omega) | (unfold rng at *; omega) | assumption)) (by (first | omega | with_reducible assumption | with_reducible exact rng_toInt _ | with_reducible exact rng_wr _ | (unfold rng; omega) | (unfold rng at *; omega) | assumption)) (by (first | omega | with_reducible assumption | with_reducible exact rng_toInt _ | with_reducible exact rng_wr _ | (unfold rng; omega) | (unfold rng at *; omega) | assumption)) (by unfold rng; omega) (tbE iσ33_1) (fun σ34_1 LLσ34_1 Nσ34_1 nuσ34_1 _ iσ34_1 cσ34_1 uσ34_1 hσ34_1 pσ34_1 => ?_) (fun σx LLx Nx nux E ix cx ux px => hX σx gq ci LLx Nx nux E ix geσ (fσ33_1.tr (cx.mo (by decide))) (ux) (by first | exact px | exact ⟨by have := px.1; omega, px.2.1, px.2.2⟩ | (first | omega | with_reducible assumption | with_reducible exact rng_toInt _ | with_reducible exact rng_wr _ | (unfold rng; omega) | (unfold rng at *; omega) | assumption)))
            intro xσ34_1
            have fσ34_1 : Fx [1, 2, 3, 4, 5, 6, 7, 64, 192, 193, 195, 196, 197, 198, 199, 200, 201, 512, 513, 514, 590, 640, 641, 645, 646, 647, 648, 649, 650, 651, 652, 653, 654, 655, 6464, 7680] gr σ σ34_1 := fσ33_1.tr (cσ34_1.mo (by decide))
            have hnσ34_1 : Hn (gD σ) [3, 5, 11, 12, 13, 14, 50, 60, 61, 62, 63, 64, 65, 66, 67, 68, 69, 70, 71, 21, 22, 31, 32] [] gq LL LLσ34_1 N Nσ34_1 := hnσ.go (hσ34_1.ge (fun a ha => (geσ a ha).1) (fun d hd => (fσ33_1.1 d hd).1)) (fun _ hd => hd) (by first | decide | exact fun _ h => h | (simp; done) | (intro x hx; simp only [List.mem_cons, List.mem_nil_iff, or_false] at hx ⊢; omega)) (fun d hd => absurd hd (by simp))
            have nσ34_1_3 := hσ34_1.2.2 3 (by first | decide | (simp; done) | (simp only [List.mem_cons, List.mem_nil_iff, or_false, not_or]; omega)) (by first | decide | omega) (by first | decide | omega) (by first | decide | omega)
            have nσ34_1_5 := hσ34_1.2.2 5 (by first | decide | (simp; done) | (simp only [List.mem_cons, List.mem_nil_iff, or_false, not_or]; omega)) (by first | decide | omega) (by first | decide | omega) (by first | decide | omega)
            have nσ34_1_14 := hσ34_1.2.2 14 (by first | decide | (simp; done) | (simp only [List.mem_cons, List.mem_nil_iff, or_false, not_or]; omega)) (by first | decide | omega) (by first | decide | omega) (by first | decide | omega)
            have nσ34_1_44 := hσ34_1.2.2 44 (by first | decide | (simp; done) | (simp only [List.mem_cons, List.mem_nil_iff, or_false, not_or]; omega)) (by first | decide | omega) (by first | decide | omega) (by first | decide | omega)
            have nσ34_1_74 := hσ34_1.2.2 74 (by first | decide | (simp; done) | (simp only [List.mem_cons, List.mem_nil_iff, or_false, not_or]; omega)) (by first | decide | omega) (by first | decide | omega) (by first | decide | omega)
            have nσ34_1_11 := hσ34_1.2.2 11 (by first | decide | (simp; done) | (simp only [List.mem_cons, List.mem_nil_iff, or_false, not_or]; omega)) (by first | decide | omega) (by first | decide | omega) (by first | decide | omega)
            have nσ34_1_12 := hσ34_1.2.2 12 (by first | decide | (simp; done) | (simp only [List.mem_cons, List.mem_nil_iff, or_false, not_or]; omega)) (by first | decide | omega) (by first | decide | omega) (by first | decide | omega)
            have nσ34_1_41 := hσ34_1.2.2 41 (by first | decide | (simp; done) | (simp only [List.mem_cons, List.mem_nil_iff, or_false, not_or]; omega)) (by first | decide | omega) (by first | decide | omega) (by first | decide | omega)
            have nσ34_1_42 := hσ34_1.2.2 42 (by first | decide | (simp; done) | (simp only [List.mem_cons, List.mem_nil_iff, or_false, not_or]; omega)) (by first | decide | omega) (by first | decide | omega) (by first | decide | omega)
            have nσ34_1_50 := hσ34_1.2.2 50 (by first | decide | (simp; done) | (simp only [List.mem_cons, List.mem_nil_iff, or_false, not_or]; omega)) (by first | decide | omega) (by first | decide | omega) (by first | decide | omega)
            have nu_σ34_1 : NU nu nuσ34_1 := uσ34_1
            have uσ34_1_0 := uσ34_1.1 0 (by decide)
            have uσ34_1_1 := uσ34_1.1 1 (by decide)
            have uσ34_1_2 := uσ34_1.2
            have uσ34_1_5 := uσ34_1.1 5 (by decide)
            have uσ34_1_15 := uσ34_1.1 15 (by decide)
            have uσ34_1_16 := uσ34_1.1 16 (by decide)
            have kp63 : gI σ34_1 b 3 = gI σ33_1 b 3 := (cσ34_1.O (kk_b.up xσ33_1) (by decide)).1
            have kp64 : gI σ34_1 b_4 (gI σ o 9).toNat = gI σ33_1 b_4 (gI σ o 9).toNat := (cσ34_1.A (mb_4.up xσ33_1) (by decide)).1
            have kp65 : gI σ34_1 o 9 = gI σ33_1 o 9 := (cσ34_1.O (ko.up xσ33_1) (by decide)).1
            have kp66 : gI σ34_1 t 0 = gI σ33_1 t 0 := (cσ34_1.O (kt.up xσ33_1) (by decide)).1
            have kp67 : gI σ34_1 t 10 = gI σ33_1 t 10 := (cσ34_1.O (kt.up xσ33_1) (by decide)).1
            have kp68 : gI σ34_1 t 6 = gI σ33_1 t 6 := (cσ34_1.O (kt.up xσ33_1) (by decide)).1
            have kp69 : gI σ34_1 th 12 = gI σ33_1 th 12 := (cσ34_1.O (kth.up xσ33_1) (by decide)).1
            have kp70 : gP σ34_1 J 12 = gP σ33_1 J 12 := (cσ34_1.O (kJ.up xσ33_1) (by decide)).2.1
            have kp71 : gP σ34_1 J 13 = gP σ33_1 J 13 := (cσ34_1.O (kJ.up xσ33_1) (by decide)).2.1
            have kp72 : gP σ34_1 th 2 = gP σ33_1 th 2 := (cσ34_1.O (kth.up xσ33_1) (by decide)).2.1
            have kp73 : gP σ34_1 th 9 = gP σ33_1 th 9 := (cσ34_1.O (kth.up xσ33_1) (by decide)).2.1
            have kp74 : gI σ34_1 o 6 = gI σ33_1 o 6 := (cσ34_1.O (ko.up xσ33_1) (by decide)).1
            exact hQ σ34_1 gq ci LLσ34_1 Nσ34_1 nuσ34_1 1 iσ34_1 geσ fσ34_1 (nu_σ34_1) hnσ34_1 (by (first | omega | with_reducible assumption | with_reducible exact rng_toInt _ | with_reducible exact rng_wr _ | (unfold rng; omega) | (unfold rng at *; omega) | assumption))
      · rw [if_neg hc45]
        unfold w_X9_actAsSource_54
        refine i_X9_readRow iσ kth hv1 kt hv2 ko (by (first | omega | with_reducible assumption | with_reducible exact rng_toInt _ | with_reducible exact rng_wr _ | (unfold rng; omega) | (unfold rng at *; omega) | assumption)) (by (first | omega | with_reducible assumption | with_reducible exact rng_toInt _ | with_reducible exact rng_wr _ | (unfold rng; omega) | (unfold rng at *; omega) | assumption)) hj kJ (by (first | omega | with_reducible assumption | with_reducible exact rng_toInt _ | with_reducible exact rng_wr _ | (unfold rng; omega) | (unfold rng at *; omega) | assumption)) (by (first | omega | with_reducible assumption | with_reducible exact rng_toInt _ | with_reducible exact rng_wr _ | (unfold rng; omega) | (unfold rng at *; omega) | assumption)) (by (first | omega | with_reducible assumption | with_reducible exact rng_toInt _ | with_reducible exact rng_wr _ | (unfold rng; omega) | (unfold rng at *; omega) | assumption)) hk (by (first | omega | with_reducible assumption | with_reducible exact rng_toInt _ | with_reducible exact rng_wr _ | (unfold rng; omega) | (unfold rng at *; omega) | assumption)) (by (first | omega | with_reducible assumption | with_reducible exact rng_toInt _ | with_reducible exact rng_wr _ | (unfold rng; omega) | (unfold rng at *; omega) | assumption)) (by (first | omega | with_reducible assumption | with_reducible exact rng_toInt _ | with_reducible exact rng_wr _ | (unfold rng; omega) | (unfold rng at *; omega) | assumption)) (by omega) (fun σ27_1 LLσ27_1 Nσ27_1 nuσ27_1 _ iσ27_1 cσ27_1 uσ27_1 hσ27_1 pσ27_1 => ?_) (fun σx LLx Nx nux E ix cx ux px => hX σx gq ci LLx Nx nux E ix geσ (fσ.tr (cx.mo (by decide))) (ux) (by first | exact px | exact ⟨by have := px.1; omega, px.2.1, px.2.2⟩ | (first | omega | with_reducible assumption | with_reducible exact rng_toInt _ | with_reducible exact rng_wr _ | (unfold rng; omega) | (unfold rng at *; omega) | assumption)))
        intro xσ27_1
        have fσ27_1 : Fx [1, 2, 3, 4, 5, 6, 7, 64, 192, 193, 195, 196, 197, 198, 199, 200, 201, 512, 513, 514, 590, 640, 641, 645, 646, 647, 648, 649, 650, 651, 652, 653, 654, 655, 6464, 7680] gr σ σ27_1 := fσ.tr (cσ27_1.mo (by decide))
        have hnσ27_1 : Hn (gD σ) [3, 5, 11, 12, 13, 14, 50, 60, 61, 62, 63, 64, 65, 66, 67, 68, 69, 70, 71, 21, 22, 31, 32] [] gq LL LLσ27_1 N Nσ27_1 := hnσ.go (hσ27_1.ge (fun a ha => (geσ a ha).1) (fun d hd => (fσ.1 d hd).1)) (fun _ hd => hd) (by first | decide | exact fun _ h => h | (simp; done) | (intro x hx; simp only [List.mem_cons, List.mem_nil_iff, or_false] at hx ⊢; omega)) (fun d hd => absurd hd (by simp))
        have nσ27_1_3 := hσ27_1.2.2 3 (by first | decide | (simp; done) | (simp only [List.mem_cons, List.mem_nil_iff, or_false, not_or]; omega)) (by first | decide | omega) (by first | decide | omega) (by first | decide | omega)
        have nσ27_1_5 := hσ27_1.2.2 5 (by first | decide | (simp; done) | (simp only [List.mem_cons, List.mem_nil_iff, or_false, not_or]; omega)) (by first | decide | omega) (by first | decide | omega) (by first | decide | omega)
        have nσ27_1_14 := hσ27_1.2.2 14 (by first | decide | (simp; done) | (simp only [List.mem_cons, List.mem_nil_iff, or_false, not_or]; omega)) (by first | decide | omega) (by first | decide | omega) (by first | decide | omega)
        have nσ27_1_44 := hσ27_1.2.2 44 (by first | decide | (simp; done) | (simp only [List.mem_cons, List.mem_nil_iff, or_false, not_or]; omega)) (by first | decide | omega) (by first | decide | omega) (by first | decide | omega)
        have nσ27_1_74 := hσ27_1.2.2 74 (by first | decide | (simp; done) | (simp only [List.mem_cons, List.mem_nil_iff, or_false, not_or]; omega)) (by first | decide | omega) (by first | decide | omega) (by first | decide | omega)
        have nσ27_1_11 := hσ27_1.2.2 11 (by first | decide | (simp; done) | (simp only [List.mem_cons, List.mem_nil_iff, or_false, not_or]; omega)) (by first | decide | omega) (by first | decide | omega) (by first | decide | omega)
        have nσ27_1_12 := hσ27_1.2.2 12 (by first | decide | (simp; done) | (simp only [List.mem_cons, List.mem_nil_iff, or_false, not_or]; omega)) (by first | decide | omega) (by first | decide | omega) (by first | decide | omega)
        have nσ27_1_41 := hσ27_1.2.2 41 (by first | decide | (simp; done) | (simp only [List.mem_cons, List.mem_nil_iff, or_false, not_or]; omega)) (by first | decide | omega) (by first | decide | omega) (by first | decide | omega)
        have nσ27_1_42 := hσ27_1.2.2 42 (by first | decide | (simp; done) | (simp only [List.mem_cons, List.mem_nil_iff, or_false, not_or]; omega)) (by first | decide | omega) (by first | decide | omega) (by first | decide | omega)
        have nσ27_1_50 := hσ27_1.2.2 50 (by first | decide | (simp; done) | (simp only [List.mem_cons, List.mem_nil_iff, or_false, not_or]; omega)) (by first | decide | omega) (by first | decide | omega) (by first | decide | omega)
        have nu_σ27_1 : NU nu nuσ27_1 := uσ27_1
        have uσ27_1_0 := uσ27_1.1 0 (by decide)
        have uσ27_1_1 := uσ27_1.1 1 (by decide)
        have uσ27_1_2 := uσ27_1.2
        have uσ27_1_5 := uσ27_1.1 5 (by decide)
        have uσ27_1_15 := uσ27_1.1 15 (by decide)
        have uσ27_1_16 := uσ27_1.1 16 (by decide)
        have kp75 : gI σ27_1 b 3 = gI σ b 3 := (cσ27_1.O kk_b (by decide)).1
        have kp76 : gI σ27_1 o 9 = gI σ o 9 := (cσ27_1.O ko (by decide)).1
        have kp77 : gI σ27_1 t 0 = gI σ t 0 := (cσ27_1.O kt (by decide)).1
        have kp78 : gI σ27_1 t 10 = gI σ t 10 := (cσ27_1.O kt (by decide)).1
        have kp79 : gI σ27_1 th 12 = gI σ th 12 := (cσ27_1.O kth (by decide)).1
        have kp80 : gP σ27_1 J 12 = gP σ J 12 := (cσ27_1.O kJ (by decide)).2.1
        have kp81 : gP σ27_1 th 2 = gP σ th 2 := (cσ27_1.O kth (by decide)).2.1
        have kp82 : gP σ27_1 th 9 = gP σ th 9 := (cσ27_1.O kth (by decide)).2.1
        have kp83 : gI σ27_1 o 6 = gI σ o 6 := (cσ27_1.O ko (by decide)).1
        exact hQ σ27_1 gq ci LLσ27_1 Nσ27_1 nuσ27_1 1 iσ27_1 geσ fσ27_1 (nu_σ27_1) hnσ27_1 (by (first | omega | with_reducible assumption | with_reducible exact rng_toInt _ | with_reducible exact rng_wr _ | (unfold rng; omega) | (unfold rng at *; omega) | assumption))
    · rw [if_neg hc42]
      have hc42q := Classical.not_not.mp hc42
      unfold w_X9_actAsSource_17
      refine i_X9_takePart iσ kth hv1 kt hv2 ko (by (first | omega | with_reducible assumption | with_reducible exact rng_toInt _ | with_reducible exact rng_wr _ | (unfold rng; omega) | (unfold rng at *; omega) | assumption)) (by (first | omega | with_reducible assumption | with_reducible exact rng_toInt _ | with_reducible exact rng_wr _ | (unfold rng; omega) | (unfold rng at *; omega) | assumption)) hj kJ (by (first | omega | with_reducible assumption | with_reducible exact rng_toInt _ | with_reducible exact rng_wr _ | (unfold rng; omega) | (unfold rng at *; omega) | assumption)) (by (first | omega | with_reducible assumption | with_reducible exact rng_toInt _ | with_reducible exact rng_wr _ | (unfold rng; omega) | (unfold rng at *; omega) | assumption)) (by (first | omega | with_reducible assumption | with_reducible exact rng_toInt _ | with_reducible exact rng_wr _ | (unfold rng; omega) | (unfold rng at *; omega) | assumption)) (by (first | omega | with_reducible assumption | with_reducible exact rng_toInt _ | with_reducible exact rng_wr _ | (unfold rng; omega) | (unfold rng at *; omega) | assumption)) (by (first | omega | with_reducible assumption | with_reducible exact rng_toInt _ | with_reducible exact rng_wr _ | (unfold rng; omega) | (unfold rng at *; omega) | assumption)) (by (first | omega | with_reducible assumption | with_reducible exact rng_toInt _ | with_reducible exact rng_wr _ | (unfold rng; omega) | (unfold rng at *; omega) | assumption)) (by (first | omega | with_reducible assumption | with_reducible exact rng_toInt _ | with_reducible exact rng_wr _ | (unfold rng; omega) | (unfold rng at *; omega) | assumption)) (by (first | omega | with_reducible assumption | with_reducible exact rng_toInt _ | with_reducible exact rng_wr _ | (unfold rng; omega) | (unfold rng at *; omega) | assumption)) (fun σ20 gqσ20 ciσ20 LLσ20 Nσ20 nuσ20 r21 iσ20 gσ20 cσ20 uσ20 hσ20 pσ20 => ?_) (fun σx gqx cix LLx Nx nux E ix gx cx ux px => hX σx gqx cix LLx Nx nux E ix (geσ.tr gx (fun d hd => (fσ.1 d hd).1)) (fσ.tr (cx.mo (by decide))) (ux) (by first | exact px | exact ⟨by have := px.1; omega, px.2.1, px.2.2⟩ | (first | omega | with_reducible assumption | with_reducible exact rng_toInt _ | with_reducible exact rng_wr _ | (unfold rng; omega) | (unfold rng at *; omega) | assumption)))
      intro xσ20
      have fσ20 : Fx [1, 2, 3, 4, 5, 6, 7, 64, 192, 193, 195, 196, 197, 198, 199, 200, 201, 512, 513, 514, 590, 640, 641, 645, 646, 647, 648, 649, 650, 651, 652, 653, 654, 655, 6464, 7680] gr σ σ20 := fσ.tr (cσ20.mo (by decide))
      have geσ20 : GE (gD σ) gq ci gqσ20 ciσ20 := geσ.tr gσ20 (fun d hd => (fσ.1 d hd).1)
      have gl84 := gσ20 t kt.1
      have gl85 := gσ20 o ko.1
      have gl86 := gσ20 J kJ.1
      have hnσ20 : Hn (gD σ) [3, 5, 11, 12, 13, 14, 50, 60, 61, 62, 63, 64, 65, 66, 67, 68, 69, 70, 71, 21, 22, 31, 32] [] gq LL LLσ20 N Nσ20 := hnσ.go (hσ20.ge (fun a ha => (geσ a ha).1) (fun d hd => (fσ.1 d hd).1)) (fun _ hd => hd) (by first | decide | exact fun _ h => h | (simp; done) | (intro x hx; simp only [List.mem_cons, List.mem_nil_iff, or_false] at hx ⊢; omega)) (fun d hd => absurd hd (by simp))
      have nσ20_3 := hσ20.2.2 3 (by first | decide | (simp; done) | (simp only [List.mem_cons, List.mem_nil_iff, or_false, not_or]; omega)) (by first | decide | omega) (by first | decide | omega) (by first | decide | omega)
      have nσ20_44 := hσ20.2.2 44 (by first | decide | (simp; done) | (simp only [List.mem_cons, List.mem_nil_iff, or_false, not_or]; omega)) (by first | decide | omega) (by first | decide | omega) (by first | decide | omega)
      have nσ20_74 := hσ20.2.2 74 (by first | decide | (simp; done) | (simp only [List.mem_cons, List.mem_nil_iff, or_false, not_or]; omega)) (by first | decide | omega) (by first | decide | omega) (by first | decide | omega)
      have nσ20_11 := hσ20.2.2 11 (by first | decide | (simp; done) | (simp only [List.mem_cons, List.mem_nil_iff, or_false, not_or]; omega)) (by first | decide | omega) (by first | decide | omega) (by first | decide | omega)
      have nσ20_12 := hσ20.2.2 12 (by first | decide | (simp; done) | (simp only [List.mem_cons, List.mem_nil_iff, or_false, not_or]; omega)) (by first | decide | omega) (by first | decide | omega) (by first | decide | omega)
      have nσ20_41 := hσ20.2.2 41 (by first | decide | (simp; done) | (simp only [List.mem_cons, List.mem_nil_iff, or_false, not_or]; omega)) (by first | decide | omega) (by first | decide | omega) (by first | decide | omega)
      have nσ20_42 := hσ20.2.2 42 (by first | decide | (simp; done) | (simp only [List.mem_cons, List.mem_nil_iff, or_false, not_or]; omega)) (by first | decide | omega) (by first | decide | omega) (by first | decide | omega)
      have nσ20_13 := hσ20.2.2 13 (by first | decide | (simp; done) | (simp only [List.mem_cons, List.mem_nil_iff, or_false, not_or]; omega)) (by first | decide | omega) (by first | decide | omega) (by first | decide | omega)
      have nσ20_50 := hσ20.2.2 50 (by first | decide | (simp; done) | (simp only [List.mem_cons, List.mem_nil_iff, or_false, not_or]; omega)) (by first | decide | omega) (by first | decide | omega) (by first | decide | omega)
      have nu_σ20 : NU nu nuσ20 := uσ20
      have uσ20_0 := uσ20.1 0 (by decide)
      have uσ20_1 := uσ20.1 1 (by decide)
      have uσ20_2 := uσ20.2
      have uσ20_5 := uσ20.1 5 (by decide)
      have uσ20_15 := uσ20.1 15 (by decide)
      have uσ20_16 := uσ20.1 16 (by decide)
      have kp87 : gI σ20 th 12 = gI σ th 12 := (cσ20.O kth (by decide)).1
      have kp88 : gP σ20 th 2 = gP σ th 2 := (cσ20.O kth (by decide)).2.1
      have kp89 : gP σ20 th 9 = gP σ th 9 := (cσ20.O kth (by decide)).2.1
      have kp90 : gI σ20 o 6 = gI σ o 6 := (cσ20.O ko (by decide)).1
      by_cases hc91 : r21 = 0
      · rw [if_pos hc91]
        unfold w_X9_actAsSource_33
        exact hQ σ20 gqσ20 ciσ20 LLσ20 Nσ20 nuσ20 1 iσ20 geσ20 fσ20 (nu_σ20) hnσ20 (by (first | omega | with_reducible assumption | with_reducible exact rng_toInt _ | with_reducible exact rng_wr _ | (unfold rng; omega) | (unfold rng at *; omega) | assumption))
      · rw [if_neg hc91]
        unfold w_X9_actAsSource_26
        refine i_X9_sendToAll iσ20 (kth.up xσ20) hv1 (kt.up xσ20) (by (first | omega | with_reducible assumption | with_reducible exact rng_toInt _ | with_reducible exact rng_wr _ | (unfold rng; omega) | (unfold rng at *; omega) | assumption)) (by (first | omega | with_reducible assumption | with_reducible exact rng_toInt _ | with_reducible exact rng_wr _ | (unfold rng; omega) | (unfold rng at *; omega) | assumption)) (by (first | omega | with_reducible assumption | with_reducible exact rng_toInt _ | with_reducible exact rng_wr _ | (unfold rng; omega) | (unfold rng at *; omega) | assumption)) (by (first | omega | with_reducible assumption | with_reducible exact rng_toInt _ | with_reducible exact rng_wr _ | (unfold rng; omega) | (unfold rng at *; omega) | assumption)) (by unfold rng; omega) (tb0 iσ20) (fun σ22 LLσ22 Nσ22 nuσ22 _ iσ22 cσ22 uσ22 hσ22 pσ22 => ?_) (fun σx LLx Nx nux E ix cx ux px => hX σx gqσ20 ciσ20 LLx Nx nux E ix geσ20 (fσ20.tr (cx.mo (by decide))) (nu_σ20.x ux) (by first | exact px | exact ⟨by have := px.1; omega, (Hn.nz hnσ20 (by first | decide | (intro x hx; simp only [List.mem_cons, List.mem_nil_iff, or_false] at hx; omega))).tr px.2.1, px.2.2⟩ | (first | omega | with_reducible assumption | with_reducible exact rng_toInt _ | with_reducible exact rng_wr _ | (unfold rng; omega) | (unfold rng at *; omega) | assumption)))
        intro xσ22
        have fσ22 : Fx [1, 2, 3, 4, 5, 6, 7, 64, 192, 193, 195, 196, 197, 198, 199, 200, 201, 512, 513, 514, 590, 640, 641, 645, 646, 647, 648, 649, 650, 651, 652, 653, 654, 655, 6464, 7680] gr σ σ22 := fσ20.tr (cσ22.mo (by decide))
        have hnσ22 : Hn (gD σ) [3, 5, 11, 12, 13, 14, 50, 60, 61, 62, 63, 64, 65, 66, 67, 68, 69, 70, 71, 21, 22, 31, 32] [] gq LL LLσ22 N Nσ22 := hnσ20.go (hσ22.ge (fun a ha => (geσ20 a ha).1) (fun d hd => (fσ20.1 d hd).1)) (fun _ hd => hd) (by first | decide | exact fun _ h => h | (simp; done) | (intro x hx; simp only [List.mem_cons, List.mem_nil_iff, or_false] at hx ⊢; omega)) (fun d hd => absurd hd (by simp))
        have nσ22_3 := hσ22.2.2 3 (by first | decide | (simp; done) | (simp only [List.mem_cons, List.mem_nil_iff, or_false, not_or]; omega)) (by first | decide | omega) (by first | decide | omega) (by first | decide | omega)
        have nσ22_5 := hσ22.2.2 5 (by first | decide | (simp; done) | (simp only [List.mem_cons, List.mem_nil_iff, or_false, not_or]; omega)) (by first | decide | omega) (by first | decide | omega) (by first | decide | omega)
        have nσ22_14 := hσ22.2.2 14 (by first | decide | (simp; done) | (simp only [List.mem_cons, List.mem_nil_iff, or_false, not_or]; omega)) (by first | decide | omega) (by first | decide | omega) (by first | decide | omega)
        have nσ22_44 := hσ22.2.2 44 (by first | decide | (simp; done) | (simp only [List.mem_cons, List.mem_nil_iff, or_false, not_or]; omega)) (by first | decide | omega) (by first | decide | omega) (by first | decide | omega)
        have nσ22_74 := hσ22.2.2 74 (by first | decide | (simp; done) | (simp only [List.mem_cons, List.mem_nil_iff, or_false, not_or]; omega)) (by first | decide | omega) (by first | decide | omega) (by first | decide | omega)
        have nσ22_11 := hσ22.2.2 11 (by first | decide | (simp; done) | (simp only [List.mem_cons, List.mem_nil_iff, or_false, not_or]; omega)) (by first | decide | omega) (by first | decide | omega) (by first | decide | omega)
        have nσ22_12 := hσ22.2.2 12 (by first | decide | (simp; done) | (simp only [List.mem_cons, List.mem_nil_iff, or_false, not_or]; omega)) (by first | decide | omega) (by first | decide | omega) (by first | decide | omega)
        have nσ22_41 := hσ22.2.2 41 (by first | decide | (simp; done) | (simp only [List.mem_cons, List.mem_nil_iff, or_false, not_or]; omega)) (by first | decide | omega) (by first | decide | omega) (by first | decide | omega)
        have nσ22_42 := hσ22.2.2 42 (by first | decide | (simp; done) | (simp only [List.mem_cons, List.mem_nil_iff, or_false, not_or]; omega)) (by first | decide | omega) (by first | decide | omega) (by first | decide | omega)
        have nσ22_50 := hσ22.2.2 50 (by first | decide | (simp; done) | (simp only [List.mem_cons, List.mem_nil_iff, or_false, not_or]; omega)) (by first | decide | omega) (by first | decide | omega) (by first | decide | omega)
        have nu_σ22 : NU nu nuσ22 := nu_σ20.tr uσ22
        have uσ22_0 := uσ22.1 0 (by decide)
        have uσ22_1 := uσ22.1 1 (by decide)
        have uσ22_2 := uσ22.2
        have uσ22_5 := uσ22.1 5 (by decide)
        have uσ22_15 := uσ22.1 15 (by decide)
        have uσ22_16 := uσ22.1 16 (by decide)
        have kp92 : gI σ22 th 12 = gI σ20 th 12 := (cσ22.O (kth.up xσ20) (by decide)).1
        have kp93 : gP σ22 th 2 = gP σ20 th 2 := (cσ22.O (kth.up xσ20) (by decide)).2.1
        have kp94 : gP σ22 th 9 = gP σ20 th 9 := (cσ22.O (kth.up xσ20) (by decide)).2.1
        have kp95 : gI σ22 o 6 = gI σ20 o 6 := (cσ22.O (ko.up xσ20) (by decide)).1
        have kp96 : gI σ22 t 0 = gI σ20 t 0 := (cσ22.O (kt.up xσ20) (by decide)).1
        unfold w_X9_actAsSource_33
        exact hQ σ22 gqσ20 ciσ20 LLσ22 Nσ22 nuσ22 1 iσ22 geσ20 fσ22 (nu_σ22) hnσ22 (by (first | omega | with_reducible assumption | with_reducible exact rng_toInt _ | with_reducible exact rng_wr _ | (unfold rng; omega) | (unfold rng at *; omega) | assumption))

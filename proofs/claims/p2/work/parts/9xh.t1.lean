set_option maxHeartbeats 1000000 in
theorem i_X9_takePart {σ : Sg} {pl : Nat} {gq ci gr nc : Nat → Nat} {ot : Nat → Nat → Int} {LL : Nat → List Nat} {N nu : Nat → Nat} {th : Nat} {v1 : Option Nat} {v2 : Option Nat} {J i : Nat} (iσ : IV σ pl gq ci gr nc ot LL N nu) (kth : kO σ th 9) {t : Nat} (hv1 : v1 = some t) (kt : kO σ t 10) {o : Nat} (hv2 : v2 = some o) (ko : kO σ o 5) (ht : gq t = 1) (hl : ci t < nu 15) (hj : gP σ th 9 = some J) (kJ : kO σ J 4) (hJ : gq J = nc 0) (ho : gq o = 16 * nc 0 + i) (hi : i < nc 1) (hto : gI σ t 0 = (i : Int)) (h5 : nu 5 < 24000) (hb : N 14 + N 44 + N 74 + N 1 ≤ 30000) (n5 : N 5 = 0) (n14 : N 14 = 0) {Q : Sg → Int → Prop} {X : Sg → String → Prop} (hQ : ∀ (σ' : Sg) (gq' ci' : Nat → Nat) (LL' : Nat → List Nat) (N' nu' : Nat → Nat) (r : Int), IV σ' pl gq' ci' gr nc ot LL' N' nu' → GE (gD σ) gq ci gq' ci' → Fx [1, 2, 3, 4, 5, 6, 7, 64, 192, 193, 195, 196, 197, 198, 199, 200, 201, 512, 640, 641, 645, 646, 647, 648, 649, 650, 651, 652, 653, 654, 655, 6464, 7680] gr σ σ' → NU nu nu' → Hn (gD σ) [14, 60, 61, 62, 63, 64, 65, 66, 67, 68, 69, 70, 71, 21, 22, 31, 32, 5] [] gq LL LL' N N' → ((r = 0 ∨ r = 1) ∧ N' 1 = N 1 ∧ N' 14 = 0 ∧ N' 5 = 0) → Q σ' r) (hX : ∀ (σ' : Sg) (gq' ci' : Nat → Nat) (LL' : Nat → List Nat) (N' nu' : Nat → Nat) (E : String), IV σ' pl gq' ci' gr nc ot LL' N' nu' → GE (gD σ) gq ci gq' ci' → Fx [1, 2, 3, 4, 5, 6, 7, 64, 192, 193, 195, 196, 197, 198, 199, 200, 201, 512, 640, 641, 645, 646, 647, 648, 649, 650, 651, 652, 653, 654, 655, 6464, 7680] gr σ σ' → NX nu nu' → ((N' 1 ≤ N 1 + 0 ∧ N' 5 = N 5 ∧ N' 3 = N 3 ∧ N' 44 = N 44 ∧ N' 74 = N 74) ∧ NZ N N' ∧ E = "java/lang/IllegalStateException") → X σ' E) : wp_X9_takePart th v1 v2 σ Q X := by
  have fσ : Fx [1, 2, 3, 4, 5, 6, 7, 64, 192, 193, 195, 196, 197, 198, 199, 200, 201, 512, 640, 641, 645, 646, 647, 648, 649, 650, 651, 652, 653, 654, 655, 6464, 7680] gr σ σ := Fx.rf
  have geσ : GE (gD σ) gq ci gq ci := GE.rf
  have hnσ : Hn (gD σ) [14, 60, 61, 62, 63, 64, 65, 66, 67, 68, 69, 70, 71, 21, 22, 31, 32, 5] [] gq LL LL N N := Hn.rf
  have q1 := I_10_0 iσ.1 kt
  obtain ⟨A9, eA9, fA9⟩ := P_10_2 iσ.1 kt
  obtain ⟨B9, eB9, fB9⟩ := P_10_3 iσ.1 kt
  have kA9 : kO σ A9 1 := iσ.1.kd kt rfl eA9 rfl
  have kB9 : kO σ B9 1 := iσ.1.kd kt rfl eB9 rfl
  have ok := iσ.opok hi
  have h9 := ok.2.2.2.2.2.2.2.2.1
  have h90 := ok.2.2.2.2.2.2.2.2.2.2.2
  have q9 := iσ.op ko ho hi 9 (by decide)
  have q6 := iσ.op ko ho hi 6 (by decide)
  have qt1 := I_10_1 iσ.1 kt
  have hR1 : LL A9 ≠ [] → 0 ≤ ot i 7 := fun hL => by have z := (iσ.ss.2.2.2.2.2.1 A9 kA9 hL).2.2.2.2.2.2 (by omega) t kt ht (by omega); rw [show (gI σ t 0).toNat = i by omega] at z; exact z
  have hR2 : LL B9 ≠ [] → 0 ≤ ot i 7 := fun hL => by have z := (iσ.ss.2.2.2.2.2.1 B9 kB9 hL).2.2.2.2.2.2 (by omega) t kt ht (by omega); rw [show (gI σ t 0).toNat = i by omega] at z; exact z
  unfold wp_X9_takePart
  unfold w_X9_takePart_0
  obtain ⟨b, eb⟩ := P_9_2 iσ.1 kth
  refine ⟨b, eb, fun kk_b => ?_⟩
  refine ⟨t, hv1, fun kk_t => ?_⟩
  refine i_X10_held iσ kt (fun r29 pσ28 => ?_)
  intro xσ28
  have r9 := pσ28.2.2 A9 B9 eA9 eB9
  have q2 := I_3_7 iσ.1 kk_b
  refine ⟨by (first | omega | with_reducible assumption | with_reducible exact rng_toInt _ | with_reducible exact rng_wr _ | (unfold rng; omega) | (unfold rng at *; omega) | assumption), ?_⟩
  by_cases hc3 : (gI σ b 7 + r29) ≤ 4000
  · rw [if_pos hc3]
    unfold w_X9_takePart_26
    refine ⟨b, eb, fun kk_b_1 => ?_⟩
    refine i_X3_write iσ kk_b (fun σ31 r32 iσ31 cσ31 pσ31 => ?_)
    intro xσ31
    have fσ31 : Fx [1, 2, 3, 4, 5, 6, 7, 64, 192, 193, 195, 196, 197, 198, 199, 200, 201, 512, 640, 641, 645, 646, 647, 648, 649, 650, 651, 652, 653, 654, 655, 6464, 7680] gr σ σ31 := fσ.tr (cσ31.mo (by decide))
    have kp4 : gI σ31 b 7 = gI σ b 7 := (cσ31.O kk_b (by decide)).1
    have kp5 : gI σ31 t 0 = gI σ t 0 := (cσ31.O kt (by decide)).1
    have kp6 : gP σ31 t 2 = gP σ t 2 := (cσ31.O kt (by decide)).2.1
    have kp7 : gP σ31 t 3 = gP σ t 3 := (cσ31.O kt (by decide)).2.1
    have kp8 : gP σ31 th 2 = gP σ th 2 := (cσ31.O kth (by decide)).2.1
    have kp9 : gP σ31 th 9 = gP σ th 9 := (cσ31.O kth (by decide)).2.1
    have kp10 : gI σ31 t 1 = gI σ t 1 := (cσ31.O kt (by decide)).1
    have kp11 : gI σ31 o 9 = gI σ o 9 := (cσ31.O ko (by decide)).1
    have kp12 : gI σ31 o 6 = gI σ o 6 := (cσ31.O ko (by decide)).1
    have kp13 : gI σ31 b 3 = gI σ b 3 := (cσ31.O kk_b (by decide)).1
    by_cases hc14 : r32 ≠ 0
    · rw [if_pos hc14]
      unfold w_X9_takePart_38
      refine ⟨b, (kp8.trans eb), fun kk_b_2 => ?_⟩
      obtain ⟨P9, eP9, fP9⟩ := P_3_0 iσ31.1 (kk_b.up xσ31)
      obtain ⟨S9, eS9, fS9⟩ := P_3_1 iσ31.1 (kk_b.up xσ31)
      have dk9 := iσ31.dk (kk_b.up xσ31) eP9 eS9
      have kP9 : kO σ31 P9 120 := iσ31.1.kd (kk_b.up xσ31) rfl eP9 rfl
      have kS9 : kO σ31 S9 120 := iσ31.1.kd (kk_b.up xσ31) rfl eS9 rfl
      have dk5 : ((N (10 * gq P9 + 1) : Nat) : Int) + (N (10 * gq P9 + 2) : Nat) ≤ gI σ31 b 7 + (if gI σ31 b 3 = 0 then (0 : Int) else 4000) := by have h9 := dk9.2.1; rw [n5] at h9; exact h9
      have eA31 := (kp6.trans eA9)
      have eB31 := (kp7.trans eB9)
      refine i_X3_keepPart iσ31 (kk_b.up xσ31) hv1 (kt.up xσ31) eP9 kP9 rfl (by omega) (by omega) (fun a9 b9 ha9 hb9 => by have e1 := ha9.symm.trans eA31; have e2 := hb9.symm.trans eB31; cases e1; cases e2; omega) (fun σ34 gqσ34 ciσ34 LLσ34 Nσ34 nuσ34 c_σ34 iσ34 gσ34 cσ34 uσ34 hσ34 pσ34 => ?_)
      intro xσ34
      have fσ34 : Fx [1, 2, 3, 4, 5, 6, 7, 64, 192, 193, 195, 196, 197, 198, 199, 200, 201, 512, 640, 641, 645, 646, 647, 648, 649, 650, 651, 652, 653, 654, 655, 6464, 7680] gr σ σ34 := fσ31.tr (cσ34.mo (by decide))
      have geσ34 : GE (gD σ) gq ci gqσ34 ciσ34 := geσ.tr gσ34 (fun d hd => (fσ31.1 d hd).1)
      have gl15 := gσ34 t (kt.up xσ31).1
      have gl16 := gσ34 o (ko.up xσ31).1
      have gl17 := gσ34 J (kJ.up xσ31).1
      have gl18 := gσ34 A9 (kA9.up xσ31).1
      have gl19 := gσ34 B9 (kB9.up xσ31).1
      have gl20 := gσ34 P9 kP9.1
      have gl21 := gσ34 S9 kS9.1
      have hnσ34 : Hn (gD σ) [14, 60, 61, 62, 63, 64, 65, 66, 67, 68, 69, 70, 71, 21, 22, 31, 32, 5] [] gq LL LLσ34 N Nσ34 := hnσ.go (hσ34.ge (fun a ha => (geσ a ha).1) (fun d hd => (fσ31.1 d hd).1)) (fun _ hd => hd) (by first | decide | exact fun _ h => h | (simp; done) | (intro x hx; simp only [List.mem_cons, List.mem_nil_iff, or_false] at hx ⊢; omega)) (fun d hd => absurd hd (by simp))
      have nσ34_3 := hσ34.2.2 3 (by first | decide | (simp; done) | (simp only [List.mem_cons, List.mem_nil_iff, or_false, not_or]; omega)) (by first | decide | omega) (by first | decide | omega) (by first | decide | omega)
      have nσ34_5 := hσ34.2.2 5 (by first | decide | (simp; done) | (simp only [List.mem_cons, List.mem_nil_iff, or_false, not_or]; omega)) (by first | decide | omega) (by first | decide | omega) (by first | decide | omega)
      have nσ34_14 := hσ34.2.2 14 (by first | decide | (simp; done) | (simp only [List.mem_cons, List.mem_nil_iff, or_false, not_or]; omega)) (by first | decide | omega) (by first | decide | omega) (by first | decide | omega)
      have nσ34_44 := hσ34.2.2 44 (by first | decide | (simp; done) | (simp only [List.mem_cons, List.mem_nil_iff, or_false, not_or]; omega)) (by first | decide | omega) (by first | decide | omega) (by first | decide | omega)
      have nσ34_74 := hσ34.2.2 74 (by first | decide | (simp; done) | (simp only [List.mem_cons, List.mem_nil_iff, or_false, not_or]; omega)) (by first | decide | omega) (by first | decide | omega) (by first | decide | omega)
      have nσ34_11 := hσ34.2.2 11 (by first | decide | (simp; done) | (simp only [List.mem_cons, List.mem_nil_iff, or_false, not_or]; omega)) (by first | decide | omega) (by first | decide | omega) (by first | decide | omega)
      have nσ34_12 := hσ34.2.2 12 (by first | decide | (simp; done) | (simp only [List.mem_cons, List.mem_nil_iff, or_false, not_or]; omega)) (by first | decide | omega) (by first | decide | omega) (by first | decide | omega)
      have nσ34_41 := hσ34.2.2 41 (by first | decide | (simp; done) | (simp only [List.mem_cons, List.mem_nil_iff, or_false, not_or]; omega)) (by first | decide | omega) (by first | decide | omega) (by first | decide | omega)
      have nσ34_42 := hσ34.2.2 42 (by first | decide | (simp; done) | (simp only [List.mem_cons, List.mem_nil_iff, or_false, not_or]; omega)) (by first | decide | omega) (by first | decide | omega) (by first | decide | omega)
      have nσ34_13 := hσ34.2.2 13 (by first | decide | (simp; done) | (simp only [List.mem_cons, List.mem_nil_iff, or_false, not_or]; omega)) (by first | decide | omega) (by first | decide | omega) (by first | decide | omega)
      have nσ34_50 := hσ34.2.2 50 (by first | decide | (simp; done) | (simp only [List.mem_cons, List.mem_nil_iff, or_false, not_or]; omega)) (by first | decide | omega) (by first | decide | omega) (by first | decide | omega)
      have nu_σ34 : NU nu nuσ34 := uσ34
      have uσ34_0 := uσ34.1 0 (by decide)
      have uσ34_1 := uσ34.1 1 (by decide)
      have uσ34_2 := uσ34.2
      have uσ34_5 := uσ34.1 5 (by decide)
      have uσ34_15 := uσ34.1 15 (by decide)
      have uσ34_16 := uσ34.1 16 (by decide)
      have kp22 : gP σ34 b 0 = gP σ31 b 0 := (cσ34.O (kk_b.up xσ31) (by decide)).2.1
      have kp23 : gP σ34 b 1 = gP σ31 b 1 := (cσ34.O (kk_b.up xσ31) (by decide)).2.1
      have kp24 : gP σ34 t 2 = gP σ31 t 2 := (cσ34.O (kt.up xσ31) (by decide)).2.1
      have kp25 : gP σ34 t 3 = gP σ31 t 3 := (cσ34.O (kt.up xσ31) (by decide)).2.1
      have kp26 : gP σ34 th 2 = gP σ31 th 2 := (cσ34.O (kth.up xσ31) (by decide)).2.1
      have kp27 : gP σ34 th 9 = gP σ31 th 9 := (cσ34.O (kth.up xσ31) (by decide)).2.1
      have kp28 : gI σ34 o 9 = gI σ31 o 9 := (cσ34.O (ko.up xσ31) (by decide)).1
      have kp29 : gI σ34 o 6 = gI σ31 o 6 := (cσ34.O (ko.up xσ31) (by decide)).1
      have kp30 : gI σ34 b 3 = gI σ31 b 3 := (cσ34.O (kk_b.up xσ31) (by decide)).1
      obtain ⟨eLL, eN, gpt, hd9⟩ := pσ34
      have hd99 := hd9 A9 B9 eA31 eB31
      have eN1 := congrFun eN 1
      have eN5 := congrFun eN 5
      have eN14 := congrFun eN 14
      have eN44 := congrFun eN 44
      have eN74 := congrFun eN 74
      have eNa : Nσ34 (10 * gqσ34 P9 + 1) = N (10 * gq P9 + 1) := by rw [eN, show gqσ34 P9 = gq P9 by omega]
      have eNb : Nσ34 (10 * gqσ34 P9 + 2) = N (10 * gq P9 + 2) := by rw [eN, show gqσ34 P9 = gq P9 by omega]
      have lA9 : (LLσ34 A9).length = (LL A9).length := by rw [eLL]
      have lB9 : (LLσ34 B9).length = (LL B9).length := by rw [eLL]
      intro tyt
      have krc_σ34 : kO σ34 c_σ34 10 := tyt c_σ34 rfl
      refine ⟨t, hv1, fun kk_t_1 => ?_⟩
      refine ⟨c_σ34, rfl, fun kk_c_σ34 => ?_⟩
      obtain ⟨b_1, eb_1⟩ := P_9_0 iσ34.1 (kth.up (xσ31.trans xσ34))
      refine ⟨b_1, eb_1, fun kk_b_1_1 => ?_⟩
      obtain ⟨b_2, eb_2, fb_2⟩ := P_10_2 iσ34.1 krc_σ34
      have mb_2 : kO σ34 b_2 1 := iσ34.1.kd krc_σ34 rfl eb_2 rfl
      refine i_X8_copyAll (T := (gqσ34 P9)) (G0 := (10 * gqσ34 P9 + 1)) (G1 := (10 * gqσ34 P9 + 2)) iσ34 kk_b_1_1 (kp24.trans (kp6.trans eA9)) (kA9.up (xσ31.trans xσ34)) eb_2 mb_2 (by omega) (Or.inl ⟨rfl, rfl⟩) (by omega) (kk_b.up (xσ31.trans xσ34)) (kp22.trans eP9) (kp23.trans eS9) rfl (⟨by omega, by omega⟩) (by (first | omega | with_reducible assumption | with_reducible exact rng_toInt _ | with_reducible exact rng_wr _ | (unfold rng; omega) | (unfold rng at *; omega) | assumption)) (I_3_7 iσ34.1 (kk_b.up (xσ31.trans xσ34))).2 (fun hL => by rw [show ciσ34 b_2 / 4 = i by omega]; exact hR1 (fun e => hL (by rw [eLL]; exact e))) (by rw [show gI σ34 b 3 = gI σ31 b 3 by omega]; omega) (by (first | omega | with_reducible assumption | with_reducible exact rng_toInt _ | with_reducible exact rng_wr _ | (unfold rng; omega) | (unfold rng at *; omega) | assumption)) (fun σ39 LLσ39 Nσ39 nuσ39 _ iσ39 cσ39 uσ39 hσ39 pσ39 => ?_)
      intro xσ39
      have fσ39 : Fx [1, 2, 3, 4, 5, 6, 7, 64, 192, 193, 195, 196, 197, 198, 199, 200, 201, 512, 640, 641, 645, 646, 647, 648, 649, 650, 651, 652, 653, 654, 655, 6464, 7680] gr σ σ39 := fσ34.tr (cσ39.mo (by decide))
      have hnσ39 : Hn (gD σ) [14, 60, 61, 62, 63, 64, 65, 66, 67, 68, 69, 70, 71, 21, 22, 31, 32, 5] [] gq LL LLσ39 N Nσ39 := hnσ34.go (hσ39.ge (fun a ha => (geσ34 a ha).1) (fun d hd => (fσ34.1 d hd).1)) (fun _ hd => hd) (by first | decide | exact fun _ h => h | (simp; done) | (intro x hx; simp only [List.mem_cons, List.mem_nil_iff, or_false] at hx ⊢; omega)) (fun d hd => absurd hd (by simp))
      have nσ39_3 := hσ39.2.2 3 (by first | decide | (simp; done) | (simp only [List.mem_cons, List.mem_nil_iff, or_false, not_or]; omega)) (by first | decide | omega) (by first | decide | omega) (by first | decide | omega)
      have nσ39_5 := hσ39.2.2 5 (by first | decide | (simp; done) | (simp only [List.mem_cons, List.mem_nil_iff, or_false, not_or]; omega)) (by first | decide | omega) (by first | decide | omega) (by first | decide | omega)
      have nσ39_14 := hσ39.2.2 14 (by first | decide | (simp; done) | (simp only [List.mem_cons, List.mem_nil_iff, or_false, not_or]; omega)) (by first | decide | omega) (by first | decide | omega) (by first | decide | omega)
      have nσ39_44 := hσ39.2.2 44 (by first | decide | (simp; done) | (simp only [List.mem_cons, List.mem_nil_iff, or_false, not_or]; omega)) (by first | decide | omega) (by first | decide | omega) (by first | decide | omega)
      have nσ39_74 := hσ39.2.2 74 (by first | decide | (simp; done) | (simp only [List.mem_cons, List.mem_nil_iff, or_false, not_or]; omega)) (by first | decide | omega) (by first | decide | omega) (by first | decide | omega)
      have nσ39_11 := hσ39.2.2 11 (by first | decide | (simp; done) | (simp only [List.mem_cons, List.mem_nil_iff, or_false, not_or]; omega)) (by first | decide | omega) (by first | decide | omega) (by first | decide | omega)
      have nσ39_12 := hσ39.2.2 12 (by first | decide | (simp; done) | (simp only [List.mem_cons, List.mem_nil_iff, or_false, not_or]; omega)) (by first | decide | omega) (by first | decide | omega) (by first | decide | omega)
      have nσ39_41 := hσ39.2.2 41 (by first | decide | (simp; done) | (simp only [List.mem_cons, List.mem_nil_iff, or_false, not_or]; omega)) (by first | decide | omega) (by first | decide | omega) (by first | decide | omega)
      have nσ39_42 := hσ39.2.2 42 (by first | decide | (simp; done) | (simp only [List.mem_cons, List.mem_nil_iff, or_false, not_or]; omega)) (by first | decide | omega) (by first | decide | omega) (by first | decide | omega)
      have nσ39_13 := hσ39.2.2 13 (by first | decide | (simp; done) | (simp only [List.mem_cons, List.mem_nil_iff, or_false, not_or]; omega)) (by first | decide | omega) (by first | decide | omega) (by first | decide | omega)
      have nσ39_50 := hσ39.2.2 50 (by first | decide | (simp; done) | (simp only [List.mem_cons, List.mem_nil_iff, or_false, not_or]; omega)) (by first | decide | omega) (by first | decide | omega) (by first | decide | omega)
      have nu_σ39 : NU nu nuσ39 := nu_σ34.tr uσ39
      have uσ39_0 := uσ39.1 0 (by decide)
      have uσ39_1 := uσ39.1 1 (by decide)
      have uσ39_2 := uσ39.2
      have uσ39_5 := uσ39.1 5 (by decide)
      have uσ39_15 := uσ39.1 15 (by decide)
      have uσ39_16 := uσ39.1 16 (by decide)
      have kp31 : gP σ39 b 0 = gP σ34 b 0 := (cσ39.O (kk_b.up (xσ31.trans xσ34)) (by decide)).2.1
      have kp32 : gP σ39 b 1 = gP σ34 b 1 := (cσ39.O (kk_b.up (xσ31.trans xσ34)) (by decide)).2.1
      have kp33 : gP σ39 c_σ34 2 = gP σ34 c_σ34 2 := (cσ39.O krc_σ34 (by decide)).2.1
      have kp34 : gP σ39 t 2 = gP σ34 t 2 := (cσ39.O (kt.up (xσ31.trans xσ34)) (by decide)).2.1
      have kp35 : gP σ39 t 3 = gP σ34 t 3 := (cσ39.O (kt.up (xσ31.trans xσ34)) (by decide)).2.1
      have kp36 : gP σ39 th 0 = gP σ34 th 0 := (cσ39.O (kth.up (xσ31.trans xσ34)) (by decide)).2.1
      have kp37 : gP σ39 th 2 = gP σ34 th 2 := (cσ39.O (kth.up (xσ31.trans xσ34)) (by decide)).2.1
      have kp38 : gP σ39 th 9 = gP σ34 th 9 := (cσ39.O (kth.up (xσ31.trans xσ34)) (by decide)).2.1
      have kp39 : gI σ39 t 0 = gI σ34 t 0 := (cσ39.O (kt.up (xσ31.trans xσ34)) (by decide)).1
      have kp40 : gI σ39 t 1 = gI σ34 t 1 := (cσ39.O (kt.up (xσ31.trans xσ34)) (by decide)).1
      have kp41 : gI σ39 o 9 = gI σ34 o 9 := (cσ39.O (ko.up (xσ31.trans xσ34)) (by decide)).1
      have kp42 : gI σ39 o 6 = gI σ34 o 6 := (cσ39.O (ko.up (xσ31.trans xσ34)) (by decide)).1
      have kp43 : gI σ39 b 3 = gI σ34 b 3 := (cσ39.O (kk_b.up (xσ31.trans xσ34)) (by decide)).1
      have kp44 : gI σ39 b 7 = gI σ34 b 7 := (cσ39.O (kk_b.up (xσ31.trans xσ34)) (by decide)).1
      have z9 := hσ39.2.2 (10 * gqσ34 P9 + 2) (by simp only [List.mem_cons, List.mem_nil_iff, or_false, not_or]; omega) (by omega) (by omega) (by omega)
      have lB := hσ39.1 B9 (kB9.up (xσ31.trans xσ34)).1 (by first | (simp; done) | (simp only [List.mem_cons, List.mem_nil_iff, or_false, not_or]; omega)) (by omega)
      have lB8 : (LLσ39 B9).length = (LL B9).length := by rw [lB]; exact lB9
      refine ⟨b_1, (kp36.trans eb_1), fun kk_b_1_2 => ?_⟩
      obtain ⟨b_3, eb_3, fb_3⟩ := P_10_3 iσ39.1 (krc_σ34.up xσ39)
      have mb_3 : kO σ39 b_3 1 := iσ39.1.kd (krc_σ34.up xσ39) rfl eb_3 rfl
      refine i_X8_copyAll (T := (gqσ34 P9)) (G0 := (10 * gqσ34 P9 + 2)) (G1 := (10 * gqσ34 P9 + 1)) iσ39 (kk_b_1_1.up xσ39) (kp35.trans (kp25.trans (kp7.trans eB9))) (kB9.up (xσ31.trans (xσ34.trans xσ39))) eb_3 mb_3 (by omega) (Or.inr ⟨rfl, rfl⟩) (by omega) (kk_b.up (xσ31.trans (xσ34.trans xσ39))) (kp31.trans (kp22.trans eP9)) (kp32.trans (kp23.trans eS9)) rfl (⟨by omega, by omega⟩) (by (first | omega | with_reducible assumption | with_reducible exact rng_toInt _ | with_reducible exact rng_wr _ | (unfold rng; omega) | (unfold rng at *; omega) | assumption)) (I_3_7 iσ39.1 (kk_b.up (xσ31.trans (xσ34.trans xσ39)))).2 (fun hL => by rw [show ciσ34 b_3 / 4 = i by omega]; exact hR2 (fun e => hL (by rw [lB, eLL]; exact e))) (by rw [show gI σ39 b 3 = gI σ31 b 3 by omega]; omega) (by (first | omega | with_reducible assumption | with_reducible exact rng_toInt _ | with_reducible exact rng_wr _ | (unfold rng; omega) | (unfold rng at *; omega) | assumption)) (fun σ41 LLσ41 Nσ41 nuσ41 _ iσ41 cσ41 uσ41 hσ41 pσ41 => ?_)
      intro xσ41
      have fσ41 : Fx [1, 2, 3, 4, 5, 6, 7, 64, 192, 193, 195, 196, 197, 198, 199, 200, 201, 512, 640, 641, 645, 646, 647, 648, 649, 650, 651, 652, 653, 654, 655, 6464, 7680] gr σ σ41 := fσ39.tr (cσ41.mo (by decide))
      have hnσ41 : Hn (gD σ) [14, 60, 61, 62, 63, 64, 65, 66, 67, 68, 69, 70, 71, 21, 22, 31, 32, 5] [] gq LL LLσ41 N Nσ41 := hnσ39.go (hσ41.ge (fun a ha => (geσ34 a ha).1) (fun d hd => (fσ39.1 d hd).1)) (fun _ hd => hd) (by first | decide | exact fun _ h => h | (simp; done) | (intro x hx; simp only [List.mem_cons, List.mem_nil_iff, or_false] at hx ⊢; omega)) (fun d hd => absurd hd (by simp))
      have nσ41_3 := hσ41.2.2 3 (by first | decide | (simp; done) | (simp only [List.mem_cons, List.mem_nil_iff, or_false, not_or]; omega)) (by first | decide | omega) (by first | decide | omega) (by first | decide | omega)
      have nσ41_5 := hσ41.2.2 5 (by first | decide | (simp; done) | (simp only [List.mem_cons, List.mem_nil_iff, or_false, not_or]; omega)) (by first | decide | omega) (by first | decide | omega) (by first | decide | omega)
      have nσ41_14 := hσ41.2.2 14 (by first | decide | (simp; done) | (simp only [List.mem_cons, List.mem_nil_iff, or_false, not_or]; omega)) (by first | decide | omega) (by first | decide | omega) (by first | decide | omega)
      have nσ41_44 := hσ41.2.2 44 (by first | decide | (simp; done) | (simp only [List.mem_cons, List.mem_nil_iff, or_false, not_or]; omega)) (by first | decide | omega) (by first | decide | omega) (by first | decide | omega)
      have nσ41_74 := hσ41.2.2 74 (by first | decide | (simp; done) | (simp only [List.mem_cons, List.mem_nil_iff, or_false, not_or]; omega)) (by first | decide | omega) (by first | decide | omega) (by first | decide | omega)
      have nσ41_11 := hσ41.2.2 11 (by first | decide | (simp; done) | (simp only [List.mem_cons, List.mem_nil_iff, or_false, not_or]; omega)) (by first | decide | omega) (by first | decide | omega) (by first | decide | omega)
      have nσ41_12 := hσ41.2.2 12 (by first | decide | (simp; done) | (simp only [List.mem_cons, List.mem_nil_iff, or_false, not_or]; omega)) (by first | decide | omega) (by first | decide | omega) (by first | decide | omega)
      have nσ41_41 := hσ41.2.2 41 (by first | decide | (simp; done) | (simp only [List.mem_cons, List.mem_nil_iff, or_false, not_or]; omega)) (by first | decide | omega) (by first | decide | omega) (by first | decide | omega)
      have nσ41_42 := hσ41.2.2 42 (by first | decide | (simp; done) | (simp only [List.mem_cons, List.mem_nil_iff, or_false, not_or]; omega)) (by first | decide | omega) (by first | decide | omega) (by first | decide | omega)
      have nσ41_13 := hσ41.2.2 13 (by first | decide | (simp; done) | (simp only [List.mem_cons, List.mem_nil_iff, or_false, not_or]; omega)) (by first | decide | omega) (by first | decide | omega) (by first | decide | omega)
      have nσ41_50 := hσ41.2.2 50 (by first | decide | (simp; done) | (simp only [List.mem_cons, List.mem_nil_iff, or_false, not_or]; omega)) (by first | decide | omega) (by first | decide | omega) (by first | decide | omega)
      have nu_σ41 : NU nu nuσ41 := nu_σ39.tr uσ41
      have uσ41_0 := uσ41.1 0 (by decide)
      have uσ41_1 := uσ41.1 1 (by decide)
      have uσ41_2 := uσ41.2
      have uσ41_5 := uσ41.1 5 (by decide)
      have uσ41_15 := uσ41.1 15 (by decide)
      have uσ41_16 := uσ41.1 16 (by decide)
      have kp45 : gP σ41 b 0 = gP σ39 b 0 := (cσ41.O (kk_b.up (xσ31.trans (xσ34.trans xσ39))) (by decide)).2.1
      have kp46 : gP σ41 b 1 = gP σ39 b 1 := (cσ41.O (kk_b.up (xσ31.trans (xσ34.trans xσ39))) (by decide)).2.1
      have kp47 : gP σ41 c_σ34 2 = gP σ39 c_σ34 2 := (cσ41.O (krc_σ34.up xσ39) (by decide)).2.1
      have kp48 : gP σ41 c_σ34 3 = gP σ39 c_σ34 3 := (cσ41.O (krc_σ34.up xσ39) (by decide)).2.1
      have kp49 : gP σ41 t 2 = gP σ39 t 2 := (cσ41.O (kt.up (xσ31.trans (xσ34.trans xσ39))) (by decide)).2.1
      have kp50 : gP σ41 t 3 = gP σ39 t 3 := (cσ41.O (kt.up (xσ31.trans (xσ34.trans xσ39))) (by decide)).2.1
      have kp51 : gP σ41 th 0 = gP σ39 th 0 := (cσ41.O (kth.up (xσ31.trans (xσ34.trans xσ39))) (by decide)).2.1
      have kp52 : gP σ41 th 2 = gP σ39 th 2 := (cσ41.O (kth.up (xσ31.trans (xσ34.trans xσ39))) (by decide)).2.1
      have kp53 : gP σ41 th 9 = gP σ39 th 9 := (cσ41.O (kth.up (xσ31.trans (xσ34.trans xσ39))) (by decide)).2.1
      have kp54 : gI σ41 t 0 = gI σ39 t 0 := (cσ41.O (kt.up (xσ31.trans (xσ34.trans xσ39))) (by decide)).1
      have kp55 : gI σ41 t 1 = gI σ39 t 1 := (cσ41.O (kt.up (xσ31.trans (xσ34.trans xσ39))) (by decide)).1
      have kp56 : gI σ41 o 9 = gI σ39 o 9 := (cσ41.O (ko.up (xσ31.trans (xσ34.trans xσ39))) (by decide)).1
      have kp57 : gI σ41 o 6 = gI σ39 o 6 := (cσ41.O (ko.up (xσ31.trans (xσ34.trans xσ39))) (by decide)).1
      have kp58 : gI σ41 b 3 = gI σ39 b 3 := (cσ41.O (kk_b.up (xσ31.trans (xσ34.trans xσ39))) (by decide)).1
      have kp59 : gI σ41 b 7 = gI σ39 b 7 := (cσ41.O (kk_b.up (xσ31.trans (xσ34.trans xσ39))) (by decide)).1
      intro σ43 eσ43
      have xσ43 : Ext σ41 σ43 := by rw [eσ43]; exact fun _ h => ⟨h, rfl, rfl⟩
      have iσ43 : IV σ43 pl gqσ34 ciσ34 gr nc ot LLσ41 Nσ41 nuσ41 := by rw [eσ43]; exact iσ41.wO (kt.up (xσ31.trans (xσ34.trans (xσ39.trans xσ41)))) (by decide) (show (0 : Int) ≤ 1 ∧ 1 ≤ 1 from ⟨by (first | omega | with_reducible assumption | with_reducible exact rng_toInt _ | with_reducible exact rng_wr _ | (unfold rng; omega) | (unfold rng at *; omega) | assumption), by (first | omega | with_reducible assumption | with_reducible exact rng_toInt _ | with_reducible exact rng_wr _ | (unfold rng; omega) | (unfold rng at *; omega) | assumption)⟩)
      have fσ43 : Fx [1, 2, 3, 4, 5, 6, 7, 64, 192, 193, 195, 196, 197, 198, 199, 200, 201, 512, 640, 641, 645, 646, 647, 648, 649, 650, 651, 652, 653, 654, 655, 6464, 7680] gr σ σ43 := fσ41.tr (Sk.fx (by rw [eσ43]; exact Sk.pI (by rw [fcdO (kt.up (xσ31.trans (xσ34.trans (xσ39.trans xσ41)))) (by decide)]; decide)))
      have wσ43 : gI σ43 t 10 = 1 := by rw [eσ43]; exact up2_s _ _ _ _
      have kp60 : gP σ43 b 0 = gP σ41 b 0 := by rw [eσ43]
      have kp61 : gP σ43 b 1 = gP σ41 b 1 := by rw [eσ43]
      have kp62 : gP σ43 c_σ34 2 = gP σ41 c_σ34 2 := by rw [eσ43]
      have kp63 : gP σ43 c_σ34 3 = gP σ41 c_σ34 3 := by rw [eσ43]
      have kp64 : gP σ43 t 2 = gP σ41 t 2 := by rw [eσ43]
      have kp65 : gP σ43 t 3 = gP σ41 t 3 := by rw [eσ43]
      have kp66 : gP σ43 th 0 = gP σ41 th 0 := by rw [eσ43]
      have kp67 : gP σ43 th 2 = gP σ41 th 2 := by rw [eσ43]
      have kp68 : gP σ43 th 9 = gP σ41 th 9 := by rw [eσ43]
      have kp69 : gI σ43 t 0 = gI σ41 t 0 := by rw [eσ43]; exact up2_n _ _ (fun q => absurd q.2 (by decide))
      have kp70 : gI σ43 t 1 = gI σ41 t 1 := by rw [eσ43]; exact up2_n _ _ (fun q => absurd q.2 (by decide))
      have kp71 : gI σ43 o 9 = gI σ41 o 9 := by rw [eσ43]; exact up2_n _ _ (fun q => absurd q.2 (by decide))
      have kp72 : gI σ43 o 6 = gI σ41 o 6 := by rw [eσ43]; exact up2_n _ _ (fun q => absurd q.2 (by decide))
      have kp73 : gI σ43 b 3 = gI σ41 b 3 := by rw [eσ43]; exact up2_n _ _ (fun q => absurd q.2 (by decide))
      have kp74 : gI σ43 b 7 = gI σ41 b 7 := by rw [eσ43]; exact up2_n _ _ (fun q => absurd q.2 (by decide))
      refine ⟨o, hv2, fun kk_o => ?_⟩
      have q76 := I_5_6 iσ43.1 (ko.up (xσ31.trans (xσ34.trans (xσ39.trans (xσ41.trans xσ43)))))
      by_cases hc75 : gI σ43 o 6 ≠ 11
      · rw [if_pos hc75]
        unfold w_X9_takePart_112
        refine ⟨b, (kp67.trans (kp52.trans (kp37.trans (kp26.trans (kp8.trans eb))))), fun kk_b_3 => ?_⟩
        have q78 := iσ43.rg b 6; unfold rng at q78
        have q79 := iσ43.tc (kth.up (xσ31.trans (xσ34.trans (xσ39.trans (xσ41.trans xσ43)))))
        have q80 := I_9_10 iσ43.1 (kth.up (xσ31.trans (xσ34.trans (xσ39.trans (xσ41.trans xσ43)))))
        by_cases hc77 : gI σ43 b 6 < gI σ43 th 10
        · rw [if_pos hc77]
          unfold w_X9_takePart_133
          unfold w_X9_takePart_138
          refine ⟨by (first | omega | with_reducible assumption | with_reducible exact rng_toInt _ | with_reducible exact rng_wr _ | (unfold rng; omega) | (unfold rng at *; omega) | assumption), ?_⟩
          exact hQ σ43 gqσ34 ciσ34 LLσ41 Nσ41 nuσ41 1 iσ43 geσ34 fσ43 (nu_σ41) hnσ41 (by (first | omega | with_reducible assumption | with_reducible exact rng_toInt _ | with_reducible exact rng_wr _ | (unfold rng; omega) | (unfold rng at *; omega) | assumption))
        · rw [if_neg hc77]
          unfold w_X9_takePart_126
          refine i_X9_seal iσ43 (kth.up (xσ31.trans (xσ34.trans (xσ39.trans (xσ41.trans xσ43))))) (kp68.trans (kp53.trans (kp38.trans (kp27.trans (kp9.trans hj))))) (kJ.up (xσ31.trans (xσ34.trans (xσ39.trans (xσ41.trans xσ43))))) (by (first | omega | with_reducible assumption | with_reducible exact rng_toInt _ | with_reducible exact rng_wr _ | (unfold rng; omega) | (unfold rng at *; omega) | assumption)) (by (first | omega | with_reducible assumption | with_reducible exact rng_toInt _ | with_reducible exact rng_wr _ | (unfold rng; omega) | (unfold rng at *; omega) | assumption)) (by (first | omega | with_reducible assumption | with_reducible exact rng_toInt _ | with_reducible exact rng_wr _ | (unfold rng; omega) | (unfold rng at *; omega) | assumption)) (fun σ51 LLσ51 Nσ51 nuσ51 r52 iσ51 cσ51 uσ51 hσ51 pσ51 => ?_)
          intro xσ51
          have fσ51 : Fx [1, 2, 3, 4, 5, 6, 7, 64, 192, 193, 195, 196, 197, 198, 199, 200, 201, 512, 640, 641, 645, 646, 647, 648, 649, 650, 651, 652, 653, 654, 655, 6464, 7680] gr σ σ51 := fσ43.tr (cσ51.mo (by decide))
          have hnσ51 : Hn (gD σ) [14, 60, 61, 62, 63, 64, 65, 66, 67, 68, 69, 70, 71, 21, 22, 31, 32, 5] [] gq LL LLσ51 N Nσ51 := hnσ41.go (hσ51.ge (fun a ha => (geσ34 a ha).1) (fun d hd => (fσ43.1 d hd).1)) (fun _ hd => hd) (by first | decide | exact fun _ h => h | (simp; done) | (intro x hx; simp only [List.mem_cons, List.mem_nil_iff, or_false] at hx ⊢; omega)) (fun d hd => absurd hd (by simp))
          have nσ51_3 := hσ51.2.2 3 (by first | decide | (simp; done) | (simp only [List.mem_cons, List.mem_nil_iff, or_false, not_or]; omega)) (by first | decide | omega) (by first | decide | omega) (by first | decide | omega)
          have nσ51_44 := hσ51.2.2 44 (by first | decide | (simp; done) | (simp only [List.mem_cons, List.mem_nil_iff, or_false, not_or]; omega)) (by first | decide | omega) (by first | decide | omega) (by first | decide | omega)
          have nσ51_74 := hσ51.2.2 74 (by first | decide | (simp; done) | (simp only [List.mem_cons, List.mem_nil_iff, or_false, not_or]; omega)) (by first | decide | omega) (by first | decide | omega) (by first | decide | omega)
          have nσ51_11 := hσ51.2.2 11 (by first | decide | (simp; done) | (simp only [List.mem_cons, List.mem_nil_iff, or_false, not_or]; omega)) (by first | decide | omega) (by first | decide | omega) (by first | decide | omega)
          have nσ51_12 := hσ51.2.2 12 (by first | decide | (simp; done) | (simp only [List.mem_cons, List.mem_nil_iff, or_false, not_or]; omega)) (by first | decide | omega) (by first | decide | omega) (by first | decide | omega)
          have nσ51_41 := hσ51.2.2 41 (by first | decide | (simp; done) | (simp only [List.mem_cons, List.mem_nil_iff, or_false, not_or]; omega)) (by first | decide | omega) (by first | decide | omega) (by first | decide | omega)
          have nσ51_42 := hσ51.2.2 42 (by first | decide | (simp; done) | (simp only [List.mem_cons, List.mem_nil_iff, or_false, not_or]; omega)) (by first | decide | omega) (by first | decide | omega) (by first | decide | omega)
          have nσ51_13 := hσ51.2.2 13 (by first | decide | (simp; done) | (simp only [List.mem_cons, List.mem_nil_iff, or_false, not_or]; omega)) (by first | decide | omega) (by first | decide | omega) (by first | decide | omega)
          have nσ51_50 := hσ51.2.2 50 (by first | decide | (simp; done) | (simp only [List.mem_cons, List.mem_nil_iff, or_false, not_or]; omega)) (by first | decide | omega) (by first | decide | omega) (by first | decide | omega)
          have nu_σ51 : NU nu nuσ51 := nu_σ41.tr uσ51
          have uσ51_0 := uσ51.1 0 (by decide)
          have uσ51_1 := uσ51.1 1 (by decide)
          have uσ51_2 := uσ51.2
          have uσ51_5 := uσ51.1 5 (by decide)
          have uσ51_15 := uσ51.1 15 (by decide)
          have uσ51_16 := uσ51.1 16 (by decide)
          have kp81 : gI σ51 b 6 = gI σ43 b 6 := (cσ51.O (kk_b.up (xσ31.trans (xσ34.trans (xσ39.trans (xσ41.trans xσ43))))) (by decide)).1
          have kp82 : gI σ51 o 6 = gI σ43 o 6 := (cσ51.O (ko.up (xσ31.trans (xσ34.trans (xσ39.trans (xσ41.trans xσ43))))) (by decide)).1
          have kp83 : gI σ51 th 10 = gI σ43 th 10 := (cσ51.O (kth.up (xσ31.trans (xσ34.trans (xσ39.trans (xσ41.trans xσ43))))) (by decide)).1
          have kp84 : gP σ51 c_σ34 2 = gP σ43 c_σ34 2 := (cσ51.O (krc_σ34.up (xσ39.trans (xσ41.trans xσ43))) (by decide)).2.1
          have kp85 : gP σ51 c_σ34 3 = gP σ43 c_σ34 3 := (cσ51.O (krc_σ34.up (xσ39.trans (xσ41.trans xσ43))) (by decide)).2.1
          have kp86 : gP σ51 t 2 = gP σ43 t 2 := (cσ51.O (kt.up (xσ31.trans (xσ34.trans (xσ39.trans (xσ41.trans xσ43))))) (by decide)).2.1
          have kp87 : gP σ51 t 3 = gP σ43 t 3 := (cσ51.O (kt.up (xσ31.trans (xσ34.trans (xσ39.trans (xσ41.trans xσ43))))) (by decide)).2.1
          have kp88 : gP σ51 th 0 = gP σ43 th 0 := (cσ51.O (kth.up (xσ31.trans (xσ34.trans (xσ39.trans (xσ41.trans xσ43))))) (by decide)).2.1
          have kp89 : gP σ51 th 2 = gP σ43 th 2 := (cσ51.O (kth.up (xσ31.trans (xσ34.trans (xσ39.trans (xσ41.trans xσ43))))) (by decide)).2.1
          have kp90 : gP σ51 th 9 = gP σ43 th 9 := (cσ51.O (kth.up (xσ31.trans (xσ34.trans (xσ39.trans (xσ41.trans xσ43))))) (by decide)).2.1
          have kp91 : gI σ51 t 0 = gI σ43 t 0 := (cσ51.O (kt.up (xσ31.trans (xσ34.trans (xσ39.trans (xσ41.trans xσ43))))) (by decide)).1
          have kp92 : gI σ51 t 1 = gI σ43 t 1 := (cσ51.O (kt.up (xσ31.trans (xσ34.trans (xσ39.trans (xσ41.trans xσ43))))) (by decide)).1
          have kp93 : gI σ51 o 9 = gI σ43 o 9 := (cσ51.O (ko.up (xσ31.trans (xσ34.trans (xσ39.trans (xσ41.trans xσ43))))) (by decide)).1
          have kp94 : gI σ51 b 7 = gI σ43 b 7 := (cσ51.O (kk_b.up (xσ31.trans (xσ34.trans (xσ39.trans (xσ41.trans xσ43))))) (by decide)).1
          by_cases hc95 : r52 = 0
          · rw [if_pos hc95]
            unfold w_X9_takePart_137
            unfold w_X9_takePart_138
            refine ⟨by (first | omega | with_reducible assumption | with_reducible exact rng_toInt _ | with_reducible exact rng_wr _ | (unfold rng; omega) | (unfold rng at *; omega) | assumption), ?_⟩
            exact hQ σ51 gqσ34 ciσ34 LLσ51 Nσ51 nuσ51 0 iσ51 geσ34 fσ51 (nu_σ51) hnσ51 (by (first | omega | with_reducible assumption | with_reducible exact rng_toInt _ | with_reducible exact rng_wr _ | (unfold rng; omega) | (unfold rng at *; omega) | assumption))
          · rw [if_neg hc95]
            unfold w_X9_takePart_133
            unfold w_X9_takePart_138
            refine ⟨by (first | omega | with_reducible assumption | with_reducible exact rng_toInt _ | with_reducible exact rng_wr _ | (unfold rng; omega) | (unfold rng at *; omega) | assumption), ?_⟩
            exact hQ σ51 gqσ34 ciσ34 LLσ51 Nσ51 nuσ51 1 iσ51 geσ34 fσ51 (nu_σ51) hnσ51 (by (first | omega | with_reducible assumption | with_reducible exact rng_toInt _ | with_reducible exact rng_wr _ | (unfold rng; omega) | (unfold rng at *; omega) | assumption))
      · rw [if_neg hc75]
        have hc75q := Classical.not_not.mp hc75
        unfold w_X9_takePart_91
        have h99 := h9 (by omega)
        refine ⟨o, hv2, fun kk_o_1 => ?_⟩
        obtain ⟨b_4, eb_4, fb_4⟩ := P_9_6 iσ43.1 (kth.up (xσ31.trans (xσ34.trans (xσ39.trans (xσ41.trans xσ43)))))
        have mb_4 : kO σ43 b_4 111 := iσ43.1.kd (kth.up (xσ31.trans (xσ34.trans (xσ39.trans (xσ41.trans xσ43))))) rfl eb_4 rfl
        refine ⟨b_4, eb_4, fun kk_b_4 => ?_⟩
        have q96 := I_5_9 iσ43.1 (ko.up (xσ31.trans (xσ34.trans (xσ39.trans (xσ41.trans xσ43)))))
        refine ⟨⟨by (first | omega | with_reducible assumption | with_reducible exact rng_toInt _ | with_reducible exact rng_wr _ | (unfold rng; omega) | (unfold rng at *; omega) | assumption), by (first | omega | with_reducible assumption | with_reducible exact rng_toInt _ | with_reducible exact rng_wr _ | (unfold rng; omega) | (unfold rng at *; omega) | assumption)⟩, ?_⟩
        obtain ⟨b_5, eb_5, fb_5⟩ := P_9_7 iσ43.1 (kth.up (xσ31.trans (xσ34.trans (xσ39.trans (xσ41.trans xσ43)))))
        have mb_5 : kO σ43 b_5 111 := iσ43.1.kd (kth.up (xσ31.trans (xσ34.trans (xσ39.trans (xσ41.trans xσ43))))) rfl eb_5 rfl
        refine ⟨b_5, eb_5, fun kk_b_5 => ?_⟩
        refine ⟨⟨by (first | omega | with_reducible assumption | with_reducible exact rng_toInt _ | with_reducible exact rng_wr _ | (unfold rng; omega) | (unfold rng at *; omega) | assumption), by (first | omega | with_reducible assumption | with_reducible exact rng_toInt _ | with_reducible exact rng_wr _ | (unfold rng; omega) | (unfold rng at *; omega) | assumption)⟩, ?_⟩
        obtain ⟨b_6, eb_6⟩ := P_111 iσ43.1 mb_4 (k := (gI σ43 o 9).toNat) (by (first | omega | with_reducible assumption | with_reducible exact rng_toInt _ | with_reducible exact rng_wr _ | (unfold rng; omega) | (unfold rng at *; omega) | assumption))
        have fb_6 := T_111 iσ43.1 mb_4 eb_6
        have mb_6 : kO σ43 b_6 1 := iσ43.1.kd mb_4 rfl eb_6 rfl
        refine ⟨b_6, eb_6, fun kk_b_6 => ?_⟩
        obtain ⟨b_7, eb_7⟩ := P_111 iσ43.1 mb_5 (k := (gI σ43 o 9).toNat) (by (first | omega | with_reducible assumption | with_reducible exact rng_toInt _ | with_reducible exact rng_wr _ | (unfold rng; omega) | (unfold rng at *; omega) | assumption))
        have fb_7 := T_111 iσ43.1 mb_5 eb_7
        have mb_7 : kO σ43 b_7 1 := iσ43.1.kd mb_5 rfl eb_7 rfl
        refine i_X1_moveAllTo (G0 := (60 + (gI σ43 o 9).toNat)) (G1 := (64 + (gI σ43 o 9).toNat)) iσ43 mb_6 eb_7 mb_7 (by omega) (by omega) (by omega) (by omega) (plc_y (G := 64 + (gI σ43 o 9).toNat) (by omega) (by rcases (show (gI σ43 o 9).toNat = 0 ∨ (gI σ43 o 9).toNat = 1 ∨ (gI σ43 o 9).toNat = 2 ∨ (gI σ43 o 9).toNat = 3 by omega) with e | e | e | e <;> rw [e] <;> decide)) (⟨by omega, by omega⟩) (fun N9 n1 n2 n3 => sc_mv2 iσ43 (by omega) (by omega) (by omega) n1 n2 n3) (fun σ48 LLσ48 Nσ48 nuσ48 _ iσ48 cσ48 uσ48 hσ48 pσ48 => ?_)
        intro xσ48
        have fσ48 : Fx [1, 2, 3, 4, 5, 6, 7, 64, 192, 193, 195, 196, 197, 198, 199, 200, 201, 512, 640, 641, 645, 646, 647, 648, 649, 650, 651, 652, 653, 654, 655, 6464, 7680] gr σ σ48 := fσ43.tr (cσ48.mo (by decide))
        have hnσ48 : Hn (gD σ) [14, 60, 61, 62, 63, 64, 65, 66, 67, 68, 69, 70, 71, 21, 22, 31, 32, 5] [] gq LL LLσ48 N Nσ48 := hnσ41.go (hσ48.ge (fun a ha => (geσ34 a ha).1) (fun d hd => (fσ43.1 d hd).1)) (fun _ hd => hd) (by first | decide | exact fun _ h => h | (simp; done) | (intro x hx; simp only [List.mem_cons, List.mem_nil_iff, or_false] at hx ⊢; omega)) (fun d hd => absurd hd (by simp))
        have nσ48_3 := hσ48.2.2 3 (by first | decide | (simp; done) | (simp only [List.mem_cons, List.mem_nil_iff, or_false, not_or]; omega)) (by first | decide | omega) (by first | decide | omega) (by first | decide | omega)
        have nσ48_5 := hσ48.2.2 5 (by first | decide | (simp; done) | (simp only [List.mem_cons, List.mem_nil_iff, or_false, not_or]; omega)) (by first | decide | omega) (by first | decide | omega) (by first | decide | omega)
        have nσ48_14 := hσ48.2.2 14 (by first | decide | (simp; done) | (simp only [List.mem_cons, List.mem_nil_iff, or_false, not_or]; omega)) (by first | decide | omega) (by first | decide | omega) (by first | decide | omega)
        have nσ48_44 := hσ48.2.2 44 (by first | decide | (simp; done) | (simp only [List.mem_cons, List.mem_nil_iff, or_false, not_or]; omega)) (by first | decide | omega) (by first | decide | omega) (by first | decide | omega)
        have nσ48_74 := hσ48.2.2 74 (by first | decide | (simp; done) | (simp only [List.mem_cons, List.mem_nil_iff, or_false, not_or]; omega)) (by first | decide | omega) (by first | decide | omega) (by first | decide | omega)
        have nσ48_11 := hσ48.2.2 11 (by first | decide | (simp; done) | (simp only [List.mem_cons, List.mem_nil_iff, or_false, not_or]; omega)) (by first | decide | omega) (by first | decide | omega) (by first | decide | omega)
        have nσ48_12 := hσ48.2.2 12 (by first | decide | (simp; done) | (simp only [List.mem_cons, List.mem_nil_iff, or_false, not_or]; omega)) (by first | decide | omega) (by first | decide | omega) (by first | decide | omega)
        have nσ48_41 := hσ48.2.2 41 (by first | decide | (simp; done) | (simp only [List.mem_cons, List.mem_nil_iff, or_false, not_or]; omega)) (by first | decide | omega) (by first | decide | omega) (by first | decide | omega)
        have nσ48_42 := hσ48.2.2 42 (by first | decide | (simp; done) | (simp only [List.mem_cons, List.mem_nil_iff, or_false, not_or]; omega)) (by first | decide | omega) (by first | decide | omega) (by first | decide | omega)
        have nσ48_13 := hσ48.2.2 13 (by first | decide | (simp; done) | (simp only [List.mem_cons, List.mem_nil_iff, or_false, not_or]; omega)) (by first | decide | omega) (by first | decide | omega) (by first | decide | omega)
        have nσ48_50 := hσ48.2.2 50 (by first | decide | (simp; done) | (simp only [List.mem_cons, List.mem_nil_iff, or_false, not_or]; omega)) (by first | decide | omega) (by first | decide | omega) (by first | decide | omega)
        have nu_σ48 : NU nu nuσ48 := nu_σ41.tr uσ48
        have uσ48_0 := uσ48.1 0 (by decide)
        have uσ48_1 := uσ48.1 1 (by decide)
        have uσ48_2 := uσ48.2
        have uσ48_5 := uσ48.1 5 (by decide)
        have uσ48_15 := uσ48.1 15 (by decide)
        have uσ48_16 := uσ48.1 16 (by decide)
        have kp97 : gI σ48 o 6 = gI σ43 o 6 := (cσ48.O (ko.up (xσ31.trans (xσ34.trans (xσ39.trans (xσ41.trans xσ43))))) (by decide)).1
        have kp98 : gI σ48 o 9 = gI σ43 o 9 := (cσ48.O (ko.up (xσ31.trans (xσ34.trans (xσ39.trans (xσ41.trans xσ43))))) (by decide)).1
        have kp99 : gI σ48 t 10 = gI σ43 t 10 := (cσ48.O (kt.up (xσ31.trans (xσ34.trans (xσ39.trans (xσ41.trans xσ43))))) (by decide)).1
        have kp100 : gP σ48 b 0 = gP σ43 b 0 := (cσ48.O (kk_b.up (xσ31.trans (xσ34.trans (xσ39.trans (xσ41.trans xσ43))))) (by decide)).2.1
        have kp101 : gP σ48 b 1 = gP σ43 b 1 := (cσ48.O (kk_b.up (xσ31.trans (xσ34.trans (xσ39.trans (xσ41.trans xσ43))))) (by decide)).2.1
        have kp102 : gP σ48 b_4 (gI σ43 o 9).toNat = gP σ43 b_4 (gI σ43 o 9).toNat := (cσ48.A mb_4 (by decide)).2.1
        have kp103 : gP σ48 b_5 (gI σ43 o 9).toNat = gP σ43 b_5 (gI σ43 o 9).toNat := (cσ48.A mb_5 (by decide)).2.1
        have kp104 : gP σ48 c_σ34 2 = gP σ43 c_σ34 2 := (cσ48.O (krc_σ34.up (xσ39.trans (xσ41.trans xσ43))) (by decide)).2.1
        have kp105 : gP σ48 c_σ34 3 = gP σ43 c_σ34 3 := (cσ48.O (krc_σ34.up (xσ39.trans (xσ41.trans xσ43))) (by decide)).2.1
        have kp106 : gP σ48 t 2 = gP σ43 t 2 := (cσ48.O (kt.up (xσ31.trans (xσ34.trans (xσ39.trans (xσ41.trans xσ43))))) (by decide)).2.1
        have kp107 : gP σ48 t 3 = gP σ43 t 3 := (cσ48.O (kt.up (xσ31.trans (xσ34.trans (xσ39.trans (xσ41.trans xσ43))))) (by decide)).2.1
        have kp108 : gP σ48 th 0 = gP σ43 th 0 := (cσ48.O (kth.up (xσ31.trans (xσ34.trans (xσ39.trans (xσ41.trans xσ43))))) (by decide)).2.1
        have kp109 : gP σ48 th 2 = gP σ43 th 2 := (cσ48.O (kth.up (xσ31.trans (xσ34.trans (xσ39.trans (xσ41.trans xσ43))))) (by decide)).2.1
        have kp110 : gP σ48 th 6 = gP σ43 th 6 := (cσ48.O (kth.up (xσ31.trans (xσ34.trans (xσ39.trans (xσ41.trans xσ43))))) (by decide)).2.1
        have kp111 : gP σ48 th 7 = gP σ43 th 7 := (cσ48.O (kth.up (xσ31.trans (xσ34.trans (xσ39.trans (xσ41.trans xσ43))))) (by decide)).2.1
        have kp112 : gP σ48 th 9 = gP σ43 th 9 := (cσ48.O (kth.up (xσ31.trans (xσ34.trans (xσ39.trans (xσ41.trans xσ43))))) (by decide)).2.1
        have kp113 : gI σ48 t 0 = gI σ43 t 0 := (cσ48.O (kt.up (xσ31.trans (xσ34.trans (xσ39.trans (xσ41.trans xσ43))))) (by decide)).1
        have kp114 : gI σ48 t 1 = gI σ43 t 1 := (cσ48.O (kt.up (xσ31.trans (xσ34.trans (xσ39.trans (xσ41.trans xσ43))))) (by decide)).1
        have kp115 : gI σ48 b 3 = gI σ43 b 3 := (cσ48.O (kk_b.up (xσ31.trans (xσ34.trans (xσ39.trans (xσ41.trans xσ43))))) (by decide)).1
        have kp116 : gI σ48 b 7 = gI σ43 b 7 := (cσ48.O (kk_b.up (xσ31.trans (xσ34.trans (xσ39.trans (xσ41.trans xσ43))))) (by decide)).1
        unfold w_X9_takePart_112
        refine ⟨b, (kp109.trans (kp67.trans (kp52.trans (kp37.trans (kp26.trans (kp8.trans eb)))))), fun kk_b_7 => ?_⟩
        have q118 := iσ48.rg b 6; unfold rng at q118
        have q119 := iσ48.tc (kth.up (xσ31.trans (xσ34.trans (xσ39.trans (xσ41.trans (xσ43.trans xσ48))))))
        have q120 := I_9_10 iσ48.1 (kth.up (xσ31.trans (xσ34.trans (xσ39.trans (xσ41.trans (xσ43.trans xσ48))))))
        by_cases hc117 : gI σ48 b 6 < gI σ48 th 10
        · rw [if_pos hc117]
          unfold w_X9_takePart_133
          unfold w_X9_takePart_138
          refine ⟨by (first | omega | with_reducible assumption | with_reducible exact rng_toInt _ | with_reducible exact rng_wr _ | (unfold rng; omega) | (unfold rng at *; omega) | assumption), ?_⟩
          exact hQ σ48 gqσ34 ciσ34 LLσ48 Nσ48 nuσ48 1 iσ48 geσ34 fσ48 (nu_σ48) hnσ48 (by (first | omega | with_reducible assumption | with_reducible exact rng_toInt _ | with_reducible exact rng_wr _ | (unfold rng; omega) | (unfold rng at *; omega) | assumption))
        · rw [if_neg hc117]
          unfold w_X9_takePart_126
          refine i_X9_seal iσ48 (kth.up (xσ31.trans (xσ34.trans (xσ39.trans (xσ41.trans (xσ43.trans xσ48)))))) (kp112.trans (kp68.trans (kp53.trans (kp38.trans (kp27.trans (kp9.trans hj)))))) (kJ.up (xσ31.trans (xσ34.trans (xσ39.trans (xσ41.trans (xσ43.trans xσ48)))))) (by (first | omega | with_reducible assumption | with_reducible exact rng_toInt _ | with_reducible exact rng_wr _ | (unfold rng; omega) | (unfold rng at *; omega) | assumption)) (by (first | omega | with_reducible assumption | with_reducible exact rng_toInt _ | with_reducible exact rng_wr _ | (unfold rng; omega) | (unfold rng at *; omega) | assumption)) (by (first | omega | with_reducible assumption | with_reducible exact rng_toInt _ | with_reducible exact rng_wr _ | (unfold rng; omega) | (unfold rng at *; omega) | assumption)) (fun σ51_1 LLσ51_1 Nσ51_1 nuσ51_1 r52_1 iσ51_1 cσ51_1 uσ51_1 hσ51_1 pσ51_1 => ?_)
          intro xσ51_1
          have fσ51_1 : Fx [1, 2, 3, 4, 5, 6, 7, 64, 192, 193, 195, 196, 197, 198, 199, 200, 201, 512, 640, 641, 645, 646, 647, 648, 649, 650, 651, 652, 653, 654, 655, 6464, 7680] gr σ σ51_1 := fσ48.tr (cσ51_1.mo (by decide))
          have hnσ51_1 : Hn (gD σ) [14, 60, 61, 62, 63, 64, 65, 66, 67, 68, 69, 70, 71, 21, 22, 31, 32, 5] [] gq LL LLσ51_1 N Nσ51_1 := hnσ48.go (hσ51_1.ge (fun a ha => (geσ34 a ha).1) (fun d hd => (fσ48.1 d hd).1)) (fun _ hd => hd) (by first | decide | exact fun _ h => h | (simp; done) | (intro x hx; simp only [List.mem_cons, List.mem_nil_iff, or_false] at hx ⊢; omega)) (fun d hd => absurd hd (by simp))
          have nσ51_1_3 := hσ51_1.2.2 3 (by first | decide | (simp; done) | (simp only [List.mem_cons, List.mem_nil_iff, or_false, not_or]; omega)) (by first | decide | omega) (by first | decide | omega) (by first | decide | omega)
          have nσ51_1_44 := hσ51_1.2.2 44 (by first | decide | (simp; done) | (simp only [List.mem_cons, List.mem_nil_iff, or_false, not_or]; omega)) (by first | decide | omega) (by first | decide | omega) (by first | decide | omega)
          have nσ51_1_74 := hσ51_1.2.2 74 (by first | decide | (simp; done) | (simp only [List.mem_cons, List.mem_nil_iff, or_false, not_or]; omega)) (by first | decide | omega) (by first | decide | omega) (by first | decide | omega)
          have nσ51_1_11 := hσ51_1.2.2 11 (by first | decide | (simp; done) | (simp only [List.mem_cons, List.mem_nil_iff, or_false, not_or]; omega)) (by first | decide | omega) (by first | decide | omega) (by first | decide | omega)
          have nσ51_1_12 := hσ51_1.2.2 12 (by first | decide | (simp; done) | (simp only [List.mem_cons, List.mem_nil_iff, or_false, not_or]; omega)) (by first | decide | omega) (by first | decide | omega) (by first | decide | omega)
          have nσ51_1_41 := hσ51_1.2.2 41 (by first | decide | (simp; done) | (simp only [List.mem_cons, List.mem_nil_iff, or_false, not_or]; omega)) (by first | decide | omega) (by first | decide | omega) (by first | decide | omega)
          have nσ51_1_42 := hσ51_1.2.2 42 (by first | decide | (simp; done) | (simp only [List.mem_cons, List.mem_nil_iff, or_false, not_or]; omega)) (by first | decide | omega) (by first | decide | omega) (by first | decide | omega)
          have nσ51_1_13 := hσ51_1.2.2 13 (by first | decide | (simp; done) | (simp only [List.mem_cons, List.mem_nil_iff, or_false, not_or]; omega)) (by first | decide | omega) (by first | decide | omega) (by first | decide | omega)
          have nσ51_1_50 := hσ51_1.2.2 50 (by first | decide | (simp; done) | (simp only [List.mem_cons, List.mem_nil_iff, or_false, not_or]; omega)) (by first | decide | omega) (by first | decide | omega) (by first | decide | omega)
          have nu_σ51_1 : NU nu nuσ51_1 := nu_σ48.tr uσ51_1
          have uσ51_1_0 := uσ51_1.1 0 (by decide)
          have uσ51_1_1 := uσ51_1.1 1 (by decide)
          have uσ51_1_2 := uσ51_1.2
          have uσ51_1_5 := uσ51_1.1 5 (by decide)
          have uσ51_1_15 := uσ51_1.1 15 (by decide)
          have uσ51_1_16 := uσ51_1.1 16 (by decide)
          have kp121 : gI σ51_1 b 6 = gI σ48 b 6 := (cσ51_1.O (kk_b.up (xσ31.trans (xσ34.trans (xσ39.trans (xσ41.trans (xσ43.trans xσ48)))))) (by decide)).1
          have kp122 : gI σ51_1 o 6 = gI σ48 o 6 := (cσ51_1.O (ko.up (xσ31.trans (xσ34.trans (xσ39.trans (xσ41.trans (xσ43.trans xσ48)))))) (by decide)).1
          have kp123 : gI σ51_1 o 9 = gI σ48 o 9 := (cσ51_1.O (ko.up (xσ31.trans (xσ34.trans (xσ39.trans (xσ41.trans (xσ43.trans xσ48)))))) (by decide)).1
          have kp124 : gI σ51_1 th 10 = gI σ48 th 10 := (cσ51_1.O (kth.up (xσ31.trans (xσ34.trans (xσ39.trans (xσ41.trans (xσ43.trans xσ48)))))) (by decide)).1
          have kp125 : gP σ51_1 b_4 (gI σ43 o 9).toNat = gP σ48 b_4 (gI σ43 o 9).toNat := (cσ51_1.A (mb_4.up xσ48) (by decide)).2.1
          have kp126 : gP σ51_1 b_5 (gI σ43 o 9).toNat = gP σ48 b_5 (gI σ43 o 9).toNat := (cσ51_1.A (mb_5.up xσ48) (by decide)).2.1
          have kp127 : gP σ51_1 c_σ34 2 = gP σ48 c_σ34 2 := (cσ51_1.O (krc_σ34.up (xσ39.trans (xσ41.trans (xσ43.trans xσ48)))) (by decide)).2.1
          have kp128 : gP σ51_1 c_σ34 3 = gP σ48 c_σ34 3 := (cσ51_1.O (krc_σ34.up (xσ39.trans (xσ41.trans (xσ43.trans xσ48)))) (by decide)).2.1
          have kp129 : gP σ51_1 t 2 = gP σ48 t 2 := (cσ51_1.O (kt.up (xσ31.trans (xσ34.trans (xσ39.trans (xσ41.trans (xσ43.trans xσ48)))))) (by decide)).2.1
          have kp130 : gP σ51_1 t 3 = gP σ48 t 3 := (cσ51_1.O (kt.up (xσ31.trans (xσ34.trans (xσ39.trans (xσ41.trans (xσ43.trans xσ48)))))) (by decide)).2.1
          have kp131 : gP σ51_1 th 0 = gP σ48 th 0 := (cσ51_1.O (kth.up (xσ31.trans (xσ34.trans (xσ39.trans (xσ41.trans (xσ43.trans xσ48)))))) (by decide)).2.1
          have kp132 : gP σ51_1 th 2 = gP σ48 th 2 := (cσ51_1.O (kth.up (xσ31.trans (xσ34.trans (xσ39.trans (xσ41.trans (xσ43.trans xσ48)))))) (by decide)).2.1
          have kp133 : gP σ51_1 th 6 = gP σ48 th 6 := (cσ51_1.O (kth.up (xσ31.trans (xσ34.trans (xσ39.trans (xσ41.trans (xσ43.trans xσ48)))))) (by decide)).2.1
          have kp134 : gP σ51_1 th 7 = gP σ48 th 7 := (cσ51_1.O (kth.up (xσ31.trans (xσ34.trans (xσ39.trans (xσ41.trans (xσ43.trans xσ48)))))) (by decide)).2.1
          have kp135 : gP σ51_1 th 9 = gP σ48 th 9 := (cσ51_1.O (kth.up (xσ31.trans (xσ34.trans (xσ39.trans (xσ41.trans (xσ43.trans xσ48)))))) (by decide)).2.1
          have kp136 : gI σ51_1 t 0 = gI σ48 t 0 := (cσ51_1.O (kt.up (xσ31.trans (xσ34.trans (xσ39.trans (xσ41.trans (xσ43.trans xσ48)))))) (by decide)).1
          have kp137 : gI σ51_1 t 1 = gI σ48 t 1 := (cσ51_1.O (kt.up (xσ31.trans (xσ34.trans (xσ39.trans (xσ41.trans (xσ43.trans xσ48)))))) (by decide)).1
          have kp138 : gI σ51_1 b 7 = gI σ48 b 7 := (cσ51_1.O (kk_b.up (xσ31.trans (xσ34.trans (xσ39.trans (xσ41.trans (xσ43.trans xσ48)))))) (by decide)).1
          by_cases hc139 : r52_1 = 0
          · rw [if_pos hc139]
            unfold w_X9_takePart_137
            unfold w_X9_takePart_138
            refine ⟨by (first | omega | with_reducible assumption | with_reducible exact rng_toInt _ | with_reducible exact rng_wr _ | (unfold rng; omega) | (unfold rng at *; omega) | assumption), ?_⟩
            exact hQ σ51_1 gqσ34 ciσ34 LLσ51_1 Nσ51_1 nuσ51_1 0 iσ51_1 geσ34 fσ51_1 (nu_σ51_1) hnσ51_1 (by (first | omega | with_reducible assumption | with_reducible exact rng_toInt _ | with_reducible exact rng_wr _ | (unfold rng; omega) | (unfold rng at *; omega) | assumption))
          · rw [if_neg hc139]
            unfold w_X9_takePart_133
            unfold w_X9_takePart_138
            refine ⟨by (first | omega | with_reducible assumption | with_reducible exact rng_toInt _ | with_reducible exact rng_wr _ | (unfold rng; omega) | (unfold rng at *; omega) | assumption), ?_⟩
            exact hQ σ51_1 gqσ34 ciσ34 LLσ51_1 Nσ51_1 nuσ51_1 1 iσ51_1 geσ34 fσ51_1 (nu_σ51_1) hnσ51_1 (by (first | omega | with_reducible assumption | with_reducible exact rng_toInt _ | with_reducible exact rng_wr _ | (unfold rng; omega) | (unfold rng at *; omega) | assumption))
    · rw [if_neg hc14]
      have hc14q := Classical.not_not.mp hc14
      unfold w_X9_takePart_36
      exact hQ σ31 gq ci LL N nu 0 iσ31 geσ fσ31 (NU.rf) hnσ (by (first | omega | with_reducible assumption | with_reducible exact rng_toInt _ | with_reducible exact rng_wr _ | (unfold rng; omega) | (unfold rng at *; omega) | assumption))
  · rw [if_neg hc3]
    unfold w_X9_takePart_18
    refine ⟨iσ.room, ?_⟩
    exact hX _ _ _ _ _ _ _ (iσ.bump (by (first | omega | with_reducible assumption | with_reducible exact rng_toInt _ | with_reducible exact rng_wr _ | (unfold rng; omega) | (unfold rng at *; omega) | assumption))) geσ (fσ.tr Fx.bump) (NX.bump) (by first | exact ⟨by omega, NZ.rf, rfl⟩ | (first | omega | with_reducible assumption | with_reducible exact rng_toInt _ | with_reducible exact rng_wr _ | (unfold rng; omega) | (unfold rng at *; omega) | assumption))

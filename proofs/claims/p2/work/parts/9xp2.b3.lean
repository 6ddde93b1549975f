set_option maxHeartbeats 4000000 in
theorem i_X9_restore_32 {σ : Sg} {pl : Nat} {gq ci gr nc : Nat → Nat} {ot : Nat → Nat → Int} {LL : Nat → List Nat} {N nu : Nat → Nat} {th : Nat} {v1 : Int} {J W F P D : Nat} {v2 : Int} (iσ : IV σ pl gq ci gr nc ot LL N nu) (kth : kO σ th 9) (hj : gP σ th 9 = some J) (kJ : kO σ J 4) (hJ : gq J = nc 0) (hw : gP σ th 1 = some W) (kW : kO σ W 11) (hWJ : gP σ W 5 = some J) (hF : gP σ th 5 = some F) (kF : kO σ F 100) (gF : gr F = 3) (hP : 1 ≤ P ∧ P ≤ 4) (hl1 : LT1 σ gq ci nu ot P) (hf1 : FT1 σ F ot P (nc 1 + 1)) (h15 : nu 15 = bsO ot P (nc 1)) (h12 : gI σ th 12 = (P : Int)) (h1 : 0 ≤ v1 ∧ v1 < (nc 1 : Int)) (hD : gP σ th 2 = some D) (hv2 : ((bsO ot P (v1.toNat + 1) : Int) = bsO ot P v1.toNat + 1 ∧ v2 = 1) ∨ ((bsO ot P (v1.toNat + 1) : Int) = bsO ot P v1.toNat + P ∧ kO σ D 3 ∧ v2 = gI σ D 5)) (h5 : nu 5 < 24000) (hb : N 14 + N 44 + N 74 + N 1 ≤ 30000) {Q : Sg → Unit → Prop} {X : Sg → String → Prop} (hQ : ∀ (σ' : Sg) (LL' : Nat → List Nat) (N' nu' : Nat → Nat) (r : Unit), IV σ' pl gq ci gr nc ot LL' N' nu' → Fx [1, 2, 3, 4, 5, 6, 7, 64, 512, 645, 646, 647, 708, 6464] gr σ σ' → NU nu nu' → Hn (gD σ) [11, 12] [] gq LL LL' N N' → (N' 1 = N 1) → Q σ' r) (hX : ∀ (σ' : Sg) (LL' : Nat → List Nat) (N' nu' : Nat → Nat) (E : String), IV σ' pl gq ci gr nc ot LL' N' nu' → Fx [1, 2, 3, 4, 5, 6, 7, 64, 512, 645, 646, 647, 708, 6464] gr σ σ' → NX nu nu' → ((N' 1 ≤ N 1 + 1 ∧ N' 5 = N 5 ∧ N' 3 = N 3 ∧ N' 14 = N 14 ∧ N' 44 = N 44 ∧ N' 74 = N 74) ∧ NZ N N' ∧ E = "java/lang/IllegalStateException") → X σ' E) : ∃ n, wl_X9_restore_32 th Q X n σ v1 v2 0 := by
  have fσ : Fx [1, 2, 3, 4, 5, 6, 7, 64, 512, 645, 646, 647, 708, 6464] gr σ σ := Fx.rf
  have hnσ : Hn (gD σ) [11, 12] [] gq LL LL N N := Hn.rf
  have q1 := I_9_12 iσ.1 kth
  have n16 := iσ.n16
  have ncb := iσ.ncb
  have fW := T_9_1 iσ.1 kth hw
  have b0 := hf1 v1.toNat (by omega)
  have bu := bsO_up (ot := ot) hP v1.toNat
  have bm := bsO_mono (ot := ot) hP (i := v1.toNat + 1) (j := nc 1) (by omega)
  have bl := bsO_le (ot := ot) hP (nc 1)
  have gF8 := (T_9_5 iσ.1 kth hF).1
  have Lp32 : ∀ (fu32 : Nat) (τ32 : Sg) (LLt32 : Nat → List Nat) (Nt32 nut32 : Nat → Nat) (v3 : Int), IV τ32 pl gq ci gr nc ot LLt32 Nt32 nut32 → Fx [1, 2, 3, 4, 5, 6, 7, 64, 512, 645, 646, 647, 708, 6464] gr σ τ32 → Ext σ τ32 → NU nu nut32 → Hn (gD σ) [11, 12] [] gq LL LLt32 N Nt32 → ((0 ≤ v3 ∧ v3 ≤ 4) ∧ Nt32 1 = N 1) → ((4 - v3).toNat) < fu32 → wl_X9_restore_32 th Q X fu32 τ32 v1 v2 v3 := by
    intro fu32
    induction fu32 with
    | zero => intro _ _ _ _ _ _ _ _ _ _ _ h9; omega
    | succ fu32 ih32 =>
      intro τ32 LLt32 Nt32 nut32 v3 iτ32 fτ32 xτ32 nu_τ32 hnτ32 hi32 hm32
      have nτ32_3 := hnτ32.2.2 3 (by first | decide | (simp; done) | (simp only [List.mem_cons, List.mem_nil_iff, or_false, not_or]; omega)) (by first | decide | omega) (by first | decide | omega) (by first | decide | omega)
      have nτ32_5 := hnτ32.2.2 5 (by first | decide | (simp; done) | (simp only [List.mem_cons, List.mem_nil_iff, or_false, not_or]; omega)) (by first | decide | omega) (by first | decide | omega) (by first | decide | omega)
      have nτ32_14 := hnτ32.2.2 14 (by first | decide | (simp; done) | (simp only [List.mem_cons, List.mem_nil_iff, or_false, not_or]; omega)) (by first | decide | omega) (by first | decide | omega) (by first | decide | omega)
      have nτ32_44 := hnτ32.2.2 44 (by first | decide | (simp; done) | (simp only [List.mem_cons, List.mem_nil_iff, or_false, not_or]; omega)) (by first | decide | omega) (by first | decide | omega) (by first | decide | omega)
      have nτ32_74 := hnτ32.2.2 74 (by first | decide | (simp; done) | (simp only [List.mem_cons, List.mem_nil_iff, or_false, not_or]; omega)) (by first | decide | omega) (by first | decide | omega) (by first | decide | omega)
      have nτ32_41 := hnτ32.2.2 41 (by first | decide | (simp; done) | (simp only [List.mem_cons, List.mem_nil_iff, or_false, not_or]; omega)) (by first | decide | omega) (by first | decide | omega) (by first | decide | omega)
      have nτ32_42 := hnτ32.2.2 42 (by first | decide | (simp; done) | (simp only [List.mem_cons, List.mem_nil_iff, or_false, not_or]; omega)) (by first | decide | omega) (by first | decide | omega) (by first | decide | omega)
      have nτ32_13 := hnτ32.2.2 13 (by first | decide | (simp; done) | (simp only [List.mem_cons, List.mem_nil_iff, or_false, not_or]; omega)) (by first | decide | omega) (by first | decide | omega) (by first | decide | omega)
      have nτ32_50 := hnτ32.2.2 50 (by first | decide | (simp; done) | (simp only [List.mem_cons, List.mem_nil_iff, or_false, not_or]; omega)) (by first | decide | omega) (by first | decide | omega) (by first | decide | omega)
      have uτ32_0 := nu_τ32.1 0 (by decide)
      have uτ32_1 := nu_τ32.1 1 (by decide)
      have uτ32_2 := nu_τ32.2
      have uτ32_5 := nu_τ32.1 5 (by decide)
      have uτ32_15 := nu_τ32.1 15 (by decide)
      have uτ32_16 := nu_τ32.1 16 (by decide)
      unfold wl_X9_restore_32
      have kp2 : gI τ32 th 12 = gI σ th 12 := (fτ32.O kth (by decide)).1
      have kp3 : gP τ32 W 5 = gP σ W 5 := (fτ32.O kW (by decide)).2.1
      have kp4 : gP τ32 th 1 = gP σ th 1 := (fτ32.O kth (by decide)).2.1
      have kp5 : gP τ32 th 2 = gP σ th 2 := (fτ32.O kth (by decide)).2.1
      have kp6 : gP τ32 th 5 = gP σ th 5 := (fτ32.O kth (by decide)).2.1
      have kp7 : gP τ32 th 9 = gP σ th 9 := (fτ32.O kth (by decide)).2.1
      have lt32 := hl1.fx iσ iτ32 GE.rf fτ32 (by omega) (by decide)
      have ft32 := hf1.fx kF gF fτ32 (by decide)
      have b32 := ft32 v1.toNat (by omega)
      have n32 := iτ32.n16
      have tc32 := iτ32.tc (kth.up xτ32)
      have hz : ((bsO ot P (v1.toNat + 1) : Int) = bsO ot P v1.toNat + 1 ∧ v2 = 1) ∨ ((bsO ot P (v1.toNat + 1) : Int) = bsO ot P v1.toNat + P ∧ v2 = gI τ32 D 5) := by rcases hv2 with z | z; exact Or.inl z; exact Or.inr ⟨z.1, by rw [(fτ32.O z.2.1 (by decide)).1]; exact z.2.2⟩
      unfold w_X9_restore_32
      by_cases hc8 : v3 ≥ v2
      · rw [if_pos hc8]
        unfold w_X9_restore_169
        exact hQ τ32 LLt32 Nt32 nut32 () iτ32 fτ32 (nu_τ32) hnτ32 (by (first | omega | with_reducible assumption | with_reducible exact rng_toInt _ | with_reducible exact rng_wr _ | (unfold rng; omega) | (unfold rng at *; omega) | assumption))
      · rw [if_neg hc8]
        unfold w_X9_restore_37
        by_cases hc9 : v3 ≥ 4
        · rw [if_pos hc9]
          unfold w_X9_restore_169
          exact hQ τ32 LLt32 Nt32 nut32 () iτ32 fτ32 (nu_τ32) hnτ32 (by (first | omega | with_reducible assumption | with_reducible exact rng_toInt _ | with_reducible exact rng_wr _ | (unfold rng; omega) | (unfold rng at *; omega) | assumption))
        · rw [if_neg hc9]
          unfold w_X9_restore_42
          refine ⟨D, (kp5.trans hD), fun kk_D => ?_⟩
          refine i2_X3_partOfLatest iτ32 kk_D (by (first | omega | with_reducible assumption | with_reducible exact rng_toInt _ | with_reducible exact rng_wr _ | (unfold rng; omega) | (unfold rng at *; omega) | assumption)) (by (first | omega | with_reducible assumption | with_reducible exact rng_toInt _ | with_reducible exact rng_wr _ | (unfold rng; omega) | (unfold rng at *; omega) | assumption)) (fun r32 pσ31 => ?_)
          intro xσ31
          intro tyt
          by_cases hc10 : r32 = none
          · rw [if_pos hc10]
            unfold w_X9_restore_163
            refine ⟨by (first | omega | with_reducible assumption | with_reducible exact rng_toInt _ | with_reducible exact rng_wr _ | (unfold rng; omega) | (unfold rng at *; omega) | assumption), ?_⟩
            exact ih32 τ32 LLt32 Nt32 nut32 (v3 + 1) iτ32 fτ32 xτ32 nu_τ32 hnτ32 (by (first | omega | with_reducible assumption | with_reducible exact rng_toInt _ | with_reducible exact rng_wr _ | (unfold rng; omega) | (unfold rng at *; omega) | assumption)) (by (first | omega | with_reducible assumption | with_reducible exact rng_toInt _ | with_reducible exact rng_wr _ | (unfold rng; omega) | (unfold rng at *; omega) | assumption))
          · rw [if_neg hc10]
            unfold w_X9_restore_58
            obtain ⟨b, eb⟩ := Option.ne_none_iff_exists'.mp hc10
            have knb : kO τ32 b 10 := (pσ31 _ eb).1
            obtain ⟨k9, ⟨s9, es9, gs9⟩, c9⟩ := pσ31 _ eb
            have ts9 := T_3_1 iτ32.1 kk_D es9
            refine ⟨F, (kp6.trans hF), fun kk_F => ?_⟩
            have q11 := (xτ32 F kF.1).2.2
            refine ⟨⟨by (first | omega | with_reducible assumption | with_reducible exact rng_toInt _ | with_reducible exact rng_wr _ | (unfold rng; omega) | (unfold rng at *; omega) | assumption), by (first | omega | with_reducible assumption | with_reducible exact rng_toInt _ | with_reducible exact rng_wr _ | (unfold rng; omega) | (unfold rng at *; omega) | assumption)⟩, ?_⟩
            refine ⟨D, (kp5.trans hD), fun kk_D_1 => ?_⟩
            have q13 := I_3_5 iτ32.1 kk_D
            by_cases hc12 : gI τ32 th 12 ≠ gI τ32 D 5
            · rw [if_pos hc12]
              unfold w_X9_restore_86
              unfold w_X9_restore_87
              have q14 := iτ32.rg F v1.toNat; unfold rng at q14
              refine ⟨by (first | omega | with_reducible assumption | with_reducible exact rng_toInt _ | with_reducible exact rng_wr _ | (unfold rng; omega) | (unfold rng at *; omega) | assumption), ?_⟩
              obtain ⟨b_1, eb_1, fb_1⟩ := P_9_3 iτ32.1 (kth.up xτ32)
              have mb_1 : kO τ32 b_1 120 := iτ32.1.kd (kth.up xτ32) rfl eb_1 rfl
              refine ⟨b_1, eb_1, fun kk_b_1 => ?_⟩
              refine ⟨⟨by (first | omega | with_reducible assumption | with_reducible exact rng_toInt _ | with_reducible exact rng_wr _ | (unfold rng; omega) | (unfold rng at *; omega) | assumption), by (first | omega | with_reducible assumption | with_reducible exact rng_toInt _ | with_reducible exact rng_wr _ | (unfold rng; omega) | (unfold rng at *; omega) | assumption)⟩, ?_⟩
              have n16b_2 := iτ32.n16
              obtain ⟨b_2, eb_2, mb_2, fb_2⟩ := P_120 iτ32 mb_1 (by omega) (k := ((gI τ32 F v1.toNat) + 0).toNat) (by (first | omega | with_reducible assumption | with_reducible exact rng_toInt _ | with_reducible exact rng_wr _ | (unfold rng; omega) | (unfold rng at *; omega) | assumption))
              refine ⟨b_2, eb_2, fun kk_b_2 => ?_⟩
              refine ⟨b, eb, fun kk_b => ?_⟩
              intro σ39 eσ39
              have xσ39 : Ext τ32 σ39 := by rw [eσ39]; exact fun _ h => ⟨h, rfl, rfl⟩
              have q15 := iτ32.rg b_2 5; unfold rng at q15
              have q16 := iτ32.rg b 5; unfold rng at q16
              have iσ39 : IV σ39 pl gq ci gr nc ot LLt32 Nt32 nut32 := by rw [eσ39]; exact iτ32.wO mb_2 (by decide) (rngb (by first | exact rng_wr _ | (first | omega | with_reducible assumption | with_reducible exact rng_toInt _ | with_reducible exact rng_wr _ | (unfold rng; omega) | (unfold rng at *; omega) | assumption)))
              have fσ39 : Fx [1, 2, 3, 4, 5, 6, 7, 64, 512, 645, 646, 647, 708, 6464] gr σ σ39 := fτ32.tr (Sk.fx (by rw [eσ39]; exact Sk.pI (by rw [fcdO mb_2 (by decide)]; decide)))
              have wσ39 : gI σ39 b_2 5 = (wr (gI τ32 b_2 5 + gI τ32 b 5)) := by rw [eσ39]; exact up2_s _ _ _ _
              have kp17 : gI σ39 D 5 = gI τ32 D 5 := by rw [eσ39]; exact up2_n _ _ (fun q => absurd q.1 (kO.ne kk_D mb_2 (by decide)))
              have kp18 : gI σ39 th 12 = gI τ32 th 12 := by rw [eσ39]; exact up2_n _ _ (fun q => absurd q.2 (by decide))
              have kp19 : gP σ39 W 5 = gP τ32 W 5 := by rw [eσ39]
              have kp20 : gP σ39 b_1 ((gI τ32 F v1.toNat) + 0).toNat = gP τ32 b_1 ((gI τ32 F v1.toNat) + 0).toNat := by rw [eσ39]
              have kp21 : gP σ39 th 1 = gP τ32 th 1 := by rw [eσ39]
              have kp22 : gP σ39 th 2 = gP τ32 th 2 := by rw [eσ39]
              have kp23 : gP σ39 th 3 = gP τ32 th 3 := by rw [eσ39]
              have kp24 : gP σ39 th 5 = gP τ32 th 5 := by rw [eσ39]
              have kp25 : gP σ39 th 9 = gP τ32 th 9 := by rw [eσ39]
              refine ⟨J, (kp25.trans (kp7.trans hj)), fun kk_J => ?_⟩
              obtain ⟨b_3, eb_3, fb_3⟩ := P_4_0 iσ39.1 (kJ.up (xτ32.trans xσ39))
              have mb_3 : kO σ39 b_3 115 := iσ39.1.kd (kJ.up (xτ32.trans xσ39)) rfl eb_3 rfl
              refine ⟨b_3, eb_3, fun kk_b_3 => ?_⟩
              refine ⟨⟨by (first | omega | with_reducible assumption | with_reducible exact rng_toInt _ | with_reducible exact rng_wr _ | (unfold rng; omega) | (unfold rng at *; omega) | assumption), by (first | omega | with_reducible assumption | with_reducible exact rng_toInt _ | with_reducible exact rng_wr _ | (unfold rng; omega) | (unfold rng at *; omega) | assumption)⟩, ?_⟩
              obtain ⟨b_4, eb_4⟩ := P_115 iσ39.1 mb_3 (k := v1.toNat) (by (first | omega | with_reducible assumption | with_reducible exact rng_toInt _ | with_reducible exact rng_wr _ | (unfold rng; omega) | (unfold rng at *; omega) | assumption))
              have fb_4 := T_115 iσ39.1 mb_3 eb_4
              have mb_4 : kO σ39 b_4 5 := iσ39.1.kd mb_3 rfl eb_4 rfl
              refine ⟨b_4, eb_4, fun kk_b_4 => ?_⟩
              have q27 := I_5_6 iσ39.1 mb_4
              by_cases hc26 : gI σ39 b_4 6 ≠ 0
              · rw [if_pos hc26]
                unfold w_X9_restore_141
                refine ⟨b, eb, fun kk_b_5 => ?_⟩
                obtain ⟨b_5, eb_5, fb_5⟩ := P_10_2 iσ39.1 (knb.up xσ39)
                have mb_5 : kO σ39 b_5 1 := iσ39.1.kd (knb.up xσ39) rfl eb_5 rfl
                refine i_X9_restoreRecords iσ39 (kth.up (xτ32.trans xσ39)) eb_5 mb_5 (kp25.trans (kp7.trans hj)) (kJ.up (xτ32.trans xσ39)) (by (first | omega | with_reducible assumption | with_reducible exact rng_toInt _ | with_reducible exact rng_wr _ | (unfold rng; omega) | (unfold rng at *; omega) | assumption)) (kp21.trans (kp4.trans hw)) (kW.up (xτ32.trans xσ39)) (kp19.trans (kp3.trans hWJ)) (kp24.trans (kp6.trans hF)) (kF.up (xτ32.trans xσ39)) gF hP (hl1.fx iσ iσ39 GE.rf fσ39 (by omega) (by decide)) (hf1.fx kF gF fσ39 (by decide)) (by (first | omega | with_reducible assumption | with_reducible exact rng_toInt _ | with_reducible exact rng_wr _ | (unfold rng; omega) | (unfold rng at *; omega) | assumption)) (by (first | omega | with_reducible assumption | with_reducible exact rng_toInt _ | with_reducible exact rng_wr _ | (unfold rng; omega) | (unfold rng at *; omega) | assumption)) (by (first | omega | with_reducible assumption | with_reducible exact rng_toInt _ | with_reducible exact rng_wr _ | (unfold rng; omega) | (unfold rng at *; omega) | assumption)) (by (first | omega | with_reducible assumption | with_reducible exact rng_toInt _ | with_reducible exact rng_wr _ | (unfold rng; omega) | (unfold rng at *; omega) | assumption)) (fun hL => by have z9 := (iσ39.ss.2.2.2.2.2.1 b_5 mb_5 hL).2.2.2.2.2.1 (by omega); rw [show ci b_5 / 4 = v1.toNat by omega] at z9; exact z9) (by (first | omega | with_reducible assumption | with_reducible exact rng_toInt _ | with_reducible exact rng_wr _ | (unfold rng; omega) | (unfold rng at *; omega) | assumption)) (by (first | omega | with_reducible assumption | with_reducible exact rng_toInt _ | with_reducible exact rng_wr _ | (unfold rng; omega) | (unfold rng at *; omega) | assumption)) (by (first | omega | with_reducible assumption | with_reducible exact rng_toInt _ | with_reducible exact rng_wr _ | (unfold rng; omega) | (unfold rng at *; omega) | assumption)) (fun σ48 LLσ48 Nσ48 nuσ48 _ iσ48 cσ48 uσ48 hσ48 pσ48 => ?_) (fun σx LLx Nx nux E ix cx ux px => hX σx LLx Nx nux E ix (fσ39.tr (cx.mo (by decide))) (nu_τ32.x ux) (by first | exact px | exact ⟨by have := px.1; omega, (Hn.nz hnτ32 (by first | decide | (intro x hx; simp only [List.mem_cons, List.mem_nil_iff, or_false] at hx; omega))).tr px.2.1, px.2.2⟩ | (first | omega | with_reducible assumption | with_reducible exact rng_toInt _ | with_reducible exact rng_wr _ | (unfold rng; omega) | (unfold rng at *; omega) | assumption)))
                intro xσ48
                have fσ48 : Fx [1, 2, 3, 4, 5, 6, 7, 64, 512, 645, 646, 647, 708, 6464] gr σ σ48 := fσ39.tr (cσ48.mo (by decide))
                have hnσ48 : Hn (gD σ) [11, 12] [] gq LL LLσ48 N Nσ48 := hnτ32.go hσ48 (fun d hd => (fσ39.1 d hd).1) (by first | decide | exact fun _ h => h | (simp; done) | (intro x hx; simp only [List.mem_cons, List.mem_nil_iff, or_false] at hx ⊢; omega)) (fun d hd => absurd hd (by simp))
                have nσ48_3 := hσ48.2.2 3 (by first | decide | (simp; done) | (simp only [List.mem_cons, List.mem_nil_iff, or_false, not_or]; omega)) (by first | decide | omega) (by first | decide | omega) (by first | decide | omega)
                have nσ48_5 := hσ48.2.2 5 (by first | decide | (simp; done) | (simp only [List.mem_cons, List.mem_nil_iff, or_false, not_or]; omega)) (by first | decide | omega) (by first | decide | omega) (by first | decide | omega)
                have nσ48_14 := hσ48.2.2 14 (by first | decide | (simp; done) | (simp only [List.mem_cons, List.mem_nil_iff, or_false, not_or]; omega)) (by first | decide | omega) (by first | decide | omega) (by first | decide | omega)
                have nσ48_44 := hσ48.2.2 44 (by first | decide | (simp; done) | (simp only [List.mem_cons, List.mem_nil_iff, or_false, not_or]; omega)) (by first | decide | omega) (by first | decide | omega) (by first | decide | omega)
                have nσ48_74 := hσ48.2.2 74 (by first | decide | (simp; done) | (simp only [List.mem_cons, List.mem_nil_iff, or_false, not_or]; omega)) (by first | decide | omega) (by first | decide | omega) (by first | decide | omega)
                have nσ48_41 := hσ48.2.2 41 (by first | decide | (simp; done) | (simp only [List.mem_cons, List.mem_nil_iff, or_false, not_or]; omega)) (by first | decide | omega) (by first | decide | omega) (by first | decide | omega)
                have nσ48_42 := hσ48.2.2 42 (by first | decide | (simp; done) | (simp only [List.mem_cons, List.mem_nil_iff, or_false, not_or]; omega)) (by first | decide | omega) (by first | decide | omega) (by first | decide | omega)
                have nσ48_13 := hσ48.2.2 13 (by first | decide | (simp; done) | (simp only [List.mem_cons, List.mem_nil_iff, or_false, not_or]; omega)) (by first | decide | omega) (by first | decide | omega) (by first | decide | omega)
                have nσ48_50 := hσ48.2.2 50 (by first | decide | (simp; done) | (simp only [List.mem_cons, List.mem_nil_iff, or_false, not_or]; omega)) (by first | decide | omega) (by first | decide | omega) (by first | decide | omega)
                have nu_σ48 : NU nu nuσ48 := nu_τ32.tr uσ48
                have uσ48_0 := uσ48.1 0 (by decide)
                have uσ48_1 := uσ48.1 1 (by decide)
                have uσ48_2 := uσ48.2
                have uσ48_5 := uσ48.1 5 (by decide)
                have uσ48_15 := uσ48.1 15 (by decide)
                have uσ48_16 := uσ48.1 16 (by decide)
                have kp28 : gI σ48 D 5 = gI σ39 D 5 := (cσ48.O (kk_D.up xσ39) (by decide)).1
                have kp29 : gI σ48 b_2 5 = gI σ39 b_2 5 := (cσ48.O (mb_2.up xσ39) (by decide)).1
                have kp30 : gI σ48 b_4 6 = gI σ39 b_4 6 := (cσ48.O mb_4 (by decide)).1
                have kp31 : gI σ48 th 12 = gI σ39 th 12 := (cσ48.O (kth.up (xτ32.trans xσ39)) (by decide)).1
                have kp32 : gP σ48 J 0 = gP σ39 J 0 := (cσ48.O (kJ.up (xτ32.trans xσ39)) (by decide)).2.1
                have kp33 : gP σ48 W 5 = gP σ39 W 5 := (cσ48.O (kW.up (xτ32.trans xσ39)) (by decide)).2.1
                have kp34 : gP σ48 b 2 = gP σ39 b 2 := (cσ48.O (knb.up xσ39) (by decide)).2.1
                have kp35 : gP σ48 b_1 ((gI τ32 F v1.toNat) + 0).toNat = gP σ39 b_1 ((gI τ32 F v1.toNat) + 0).toNat := (cσ48.A (mb_1.up xσ39) (by decide)).2.1
                have kp36 : gP σ48 b_3 v1.toNat = gP σ39 b_3 v1.toNat := (cσ48.A mb_3 (by decide)).2.1
                have kp37 : gP σ48 th 1 = gP σ39 th 1 := (cσ48.O (kth.up (xτ32.trans xσ39)) (by decide)).2.1
                have kp38 : gP σ48 th 2 = gP σ39 th 2 := (cσ48.O (kth.up (xτ32.trans xσ39)) (by decide)).2.1
                have kp39 : gP σ48 th 3 = gP σ39 th 3 := (cσ48.O (kth.up (xτ32.trans xσ39)) (by decide)).2.1
                have kp40 : gP σ48 th 5 = gP σ39 th 5 := (cσ48.O (kth.up (xτ32.trans xσ39)) (by decide)).2.1
                have kp41 : gP σ48 th 9 = gP σ39 th 9 := (cσ48.O (kth.up (xτ32.trans xσ39)) (by decide)).2.1
                obtain ⟨b_6, eb_6, fb_6⟩ := P_10_3 iσ48.1 (knb.up (xσ39.trans xσ48))
                have mb_6 : kO σ48 b_6 1 := iσ48.1.kd (knb.up (xσ39.trans xσ48)) rfl eb_6 rfl
                refine i_X9_restoreRecords iσ48 (kth.up (xτ32.trans (xσ39.trans xσ48))) eb_6 mb_6 (kp41.trans (kp25.trans (kp7.trans hj))) (kJ.up (xτ32.trans (xσ39.trans xσ48))) (by (first | omega | with_reducible assumption | with_reducible exact rng_toInt _ | with_reducible exact rng_wr _ | (unfold rng; omega) | (unfold rng at *; omega) | assumption)) (kp37.trans (kp21.trans (kp4.trans hw))) (kW.up (xτ32.trans (xσ39.trans xσ48))) (kp33.trans (kp19.trans (kp3.trans hWJ))) (kp40.trans (kp24.trans (kp6.trans hF))) (kF.up (xτ32.trans (xσ39.trans xσ48))) gF hP (hl1.fx iσ iσ48 GE.rf fσ48 (by omega) (by decide)) (hf1.fx kF gF fσ48 (by decide)) (by (first | omega | with_reducible assumption | with_reducible exact rng_toInt _ | with_reducible exact rng_wr _ | (unfold rng; omega) | (unfold rng at *; omega) | assumption)) (by (first | omega | with_reducible assumption | with_reducible exact rng_toInt _ | with_reducible exact rng_wr _ | (unfold rng; omega) | (unfold rng at *; omega) | assumption)) (by (first | omega | with_reducible assumption | with_reducible exact rng_toInt _ | with_reducible exact rng_wr _ | (unfold rng; omega) | (unfold rng at *; omega) | assumption)) (by (first | omega | with_reducible assumption | with_reducible exact rng_toInt _ | with_reducible exact rng_wr _ | (unfold rng; omega) | (unfold rng at *; omega) | assumption)) (fun hL => by have z9 := (iσ48.ss.2.2.2.2.2.1 b_6 mb_6 hL).2.2.2.2.2.1 (by omega); rw [show ci b_6 / 4 = v1.toNat by omega] at z9; exact z9) (by (first | omega | with_reducible assumption | with_reducible exact rng_toInt _ | with_reducible exact rng_wr _ | (unfold rng; omega) | (unfold rng at *; omega) | assumption)) (by (first | omega | with_reducible assumption | with_reducible exact rng_toInt _ | with_reducible exact rng_wr _ | (unfold rng; omega) | (unfold rng at *; omega) | assumption)) (by (first | omega | with_reducible assumption | with_reducible exact rng_toInt _ | with_reducible exact rng_wr _ | (unfold rng; omega) | (unfold rng at *; omega) | assumption)) (fun σ49 LLσ49 Nσ49 nuσ49 _ iσ49 cσ49 uσ49 hσ49 pσ49 => ?_) (fun σx LLx Nx nux E ix cx ux px => hX σx LLx Nx nux E ix (fσ48.tr (cx.mo (by decide))) (nu_σ48.x ux) (by first | exact px | exact ⟨by have := px.1; omega, (Hn.nz hnσ48 (by first | decide | (intro x hx; simp only [List.mem_cons, List.mem_nil_iff, or_false] at hx; omega))).tr px.2.1, px.2.2⟩ | (first | omega | with_reducible assumption | with_reducible exact rng_toInt _ | with_reducible exact rng_wr _ | (unfold rng; omega) | (unfold rng at *; omega) | assumption)))
                intro xσ49
                have fσ49 : Fx [1, 2, 3, 4, 5, 6, 7, 64, 512, 645, 646, 647, 708, 6464] gr σ σ49 := fσ48.tr (cσ49.mo (by decide))
                have hnσ49 : Hn (gD σ) [11, 12] [] gq LL LLσ49 N Nσ49 := hnσ48.go hσ49 (fun d hd => (fσ48.1 d hd).1) (by first | decide | exact fun _ h => h | (simp; done) | (intro x hx; simp only [List.mem_cons, List.mem_nil_iff, or_false] at hx ⊢; omega)) (fun d hd => absurd hd (by simp))
                have nσ49_3 := hσ49.2.2 3 (by first | decide | (simp; done) | (simp only [List.mem_cons, List.mem_nil_iff, or_false, not_or]; omega)) (by first | decide | omega) (by first | decide | omega) (by first | decide | omega)
                have nσ49_5 := hσ49.2.2 5 (by first | decide | (simp; done) | (simp only [List.mem_cons, List.mem_nil_iff, or_false, not_or]; omega)) (by first | decide | omega) (by first | decide | omega) (by first | decide | omega)
                have nσ49_14 := hσ49.2.2 14 (by first | decide | (simp; done) | (simp only [List.mem_cons, List.mem_nil_iff, or_false, not_or]; omega)) (by first | decide | omega) (by first | decide | omega) (by first | decide | omega)
                have nσ49_44 := hσ49.2.2 44 (by first | decide | (simp; done) | (simp only [List.mem_cons, List.mem_nil_iff, or_false, not_or]; omega)) (by first | decide | omega) (by first | decide | omega) (by first | decide | omega)
                have nσ49_74 := hσ49.2.2 74 (by first | decide | (simp; done) | (simp only [List.mem_cons, List.mem_nil_iff, or_false, not_or]; omega)) (by first | decide | omega) (by first | decide | omega) (by first | decide | omega)
                have nσ49_41 := hσ49.2.2 41 (by first | decide | (simp; done) | (simp only [List.mem_cons, List.mem_nil_iff, or_false, not_or]; omega)) (by first | decide | omega) (by first | decide | omega) (by first | decide | omega)
                have nσ49_42 := hσ49.2.2 42 (by first | decide | (simp; done) | (simp only [List.mem_cons, List.mem_nil_iff, or_false, not_or]; omega)) (by first | decide | omega) (by first | decide | omega) (by first | decide | omega)
                have nσ49_13 := hσ49.2.2 13 (by first | decide | (simp; done) | (simp only [List.mem_cons, List.mem_nil_iff, or_false, not_or]; omega)) (by first | decide | omega) (by first | decide | omega) (by first | decide | omega)
                have nσ49_50 := hσ49.2.2 50 (by first | decide | (simp; done) | (simp only [List.mem_cons, List.mem_nil_iff, or_false, not_or]; omega)) (by first | decide | omega) (by first | decide | omega) (by first | decide | omega)
                have nu_σ49 : NU nu nuσ49 := nu_σ48.tr uσ49
                have uσ49_0 := uσ49.1 0 (by decide)
                have uσ49_1 := uσ49.1 1 (by decide)
                have uσ49_2 := uσ49.2
                have uσ49_5 := uσ49.1 5 (by decide)
                have uσ49_15 := uσ49.1 15 (by decide)
                have uσ49_16 := uσ49.1 16 (by decide)
                have kp42 : gI σ49 D 5 = gI σ48 D 5 := (cσ49.O (kk_D.up (xσ39.trans xσ48)) (by decide)).1
                have kp43 : gI σ49 b_2 5 = gI σ48 b_2 5 := (cσ49.O (mb_2.up (xσ39.trans xσ48)) (by decide)).1
                have kp44 : gI σ49 b_4 6 = gI σ48 b_4 6 := (cσ49.O (mb_4.up xσ48) (by decide)).1
                have kp45 : gI σ49 th 12 = gI σ48 th 12 := (cσ49.O (kth.up (xτ32.trans (xσ39.trans xσ48))) (by decide)).1
                have kp46 : gP σ49 J 0 = gP σ48 J 0 := (cσ49.O (kJ.up (xτ32.trans (xσ39.trans xσ48))) (by decide)).2.1
                have kp47 : gP σ49 W 5 = gP σ48 W 5 := (cσ49.O (kW.up (xτ32.trans (xσ39.trans xσ48))) (by decide)).2.1
                have kp48 : gP σ49 b 2 = gP σ48 b 2 := (cσ49.O (knb.up (xσ39.trans xσ48)) (by decide)).2.1
                have kp49 : gP σ49 b 3 = gP σ48 b 3 := (cσ49.O (knb.up (xσ39.trans xσ48)) (by decide)).2.1
                have kp50 : gP σ49 b_1 ((gI τ32 F v1.toNat) + 0).toNat = gP σ48 b_1 ((gI τ32 F v1.toNat) + 0).toNat := (cσ49.A (mb_1.up (xσ39.trans xσ48)) (by decide)).2.1
                have kp51 : gP σ49 b_3 v1.toNat = gP σ48 b_3 v1.toNat := (cσ49.A (mb_3.up xσ48) (by decide)).2.1
                have kp52 : gP σ49 th 1 = gP σ48 th 1 := (cσ49.O (kth.up (xτ32.trans (xσ39.trans xσ48))) (by decide)).2.1
                have kp53 : gP σ49 th 2 = gP σ48 th 2 := (cσ49.O (kth.up (xτ32.trans (xσ39.trans xσ48))) (by decide)).2.1
                have kp54 : gP σ49 th 3 = gP σ48 th 3 := (cσ49.O (kth.up (xτ32.trans (xσ39.trans xσ48))) (by decide)).2.1
                have kp55 : gP σ49 th 5 = gP σ48 th 5 := (cσ49.O (kth.up (xτ32.trans (xσ39.trans xσ48))) (by decide)).2.1
                have kp56 : gP σ49 th 9 = gP σ48 th 9 := (cσ49.O (kth.up (xτ32.trans (xσ39.trans xσ48))) (by decide)).2.1
                unfold w_X9_restore_163
                refine ⟨by (first | omega | with_reducible assumption | with_reducible exact rng_toInt _ | with_reducible exact rng_wr _ | (unfold rng; omega) | (unfold rng at *; omega) | assumption), ?_⟩
                exact ih32 σ49 LLσ49 Nσ49 nuσ49 (v3 + 1) iσ49 fσ49 (xτ32.trans (xσ39.trans (xσ48.trans xσ49))) nu_σ49 hnσ49 (by (first | omega | with_reducible assumption | with_reducible exact rng_toInt _ | with_reducible exact rng_wr _ | (unfold rng; omega) | (unfold rng at *; omega) | assumption)) (by (first | omega | with_reducible assumption | with_reducible exact rng_toInt _ | with_reducible exact rng_wr _ | (unfold rng; omega) | (unfold rng at *; omega) | assumption))
              · rw [if_neg hc26]
                have hc26q := Classical.not_not.mp hc26
                unfold w_X9_restore_121
                refine ⟨b, eb, fun kk_b_6 => ?_⟩
                refine ⟨b_2, eb_2, fun kk_b_2_1 => ?_⟩
                intro σ45 eσ45
                have xσ45 : Ext σ39 σ45 := by rw [eσ45]; exact fun _ h => ⟨h, rfl, rfl⟩
                have q57 := I_10_6 iσ39.1 (knb.up xσ39)
                have iσ45 : IV σ45 pl gq ci gr nc ot LLt32 Nt32 nut32 := by rw [eσ45]; exact iσ39.wO (mb_2.up xσ39) (by decide) (show (0 : Int) ≤ (gI σ39 b 6) ∧ (gI σ39 b 6) ≤ 64 from ⟨by (first | omega | with_reducible assumption | with_reducible exact rng_toInt _ | with_reducible exact rng_wr _ | (unfold rng; omega) | (unfold rng at *; omega) | assumption), by (first | omega | with_reducible assumption | with_reducible exact rng_toInt _ | with_reducible exact rng_wr _ | (unfold rng; omega) | (unfold rng at *; omega) | assumption)⟩)
                have fσ45 : Fx [1, 2, 3, 4, 5, 6, 7, 64, 512, 645, 646, 647, 708, 6464] gr σ σ45 := fσ39.tr (Sk.fx (by rw [eσ45]; exact Sk.pI (by rw [fcdO (mb_2.up xσ39) (by decide)]; decide)))
                have wσ45 : gI σ45 b_2 6 = (gI σ39 b 6) := by rw [eσ45]; exact up2_s _ _ _ _
                have kp58 : gI σ45 D 5 = gI σ39 D 5 := by rw [eσ45]; exact up2_n _ _ (fun q => absurd q.2 (by decide))
                have kp59 : gI σ45 b_2 5 = gI σ39 b_2 5 := by rw [eσ45]; exact up2_n _ _ (fun q => absurd q.2 (by decide))
                have kp60 : gI σ45 b_4 6 = gI σ39 b_4 6 := by rw [eσ45]; exact up2_n _ _ (fun q => absurd q.1 (kO.ne mb_4 (mb_2.up xσ39) (by decide)))
                have kp61 : gI σ45 th 12 = gI σ39 th 12 := by rw [eσ45]; exact up2_n _ _ (fun q => absurd q.2 (by decide))
                have kp62 : gP σ45 J 0 = gP σ39 J 0 := by rw [eσ45]
                have kp63 : gP σ45 W 5 = gP σ39 W 5 := by rw [eσ45]
                have kp64 : gP σ45 b_1 ((gI τ32 F v1.toNat) + 0).toNat = gP σ39 b_1 ((gI τ32 F v1.toNat) + 0).toNat := by rw [eσ45]
                have kp65 : gP σ45 b_3 v1.toNat = gP σ39 b_3 v1.toNat := by rw [eσ45]
                have kp66 : gP σ45 th 1 = gP σ39 th 1 := by rw [eσ45]
                have kp67 : gP σ45 th 2 = gP σ39 th 2 := by rw [eσ45]
                have kp68 : gP σ45 th 3 = gP σ39 th 3 := by rw [eσ45]
                have kp69 : gP σ45 th 5 = gP σ39 th 5 := by rw [eσ45]
                have kp70 : gP σ45 th 9 = gP σ39 th 9 := by rw [eσ45]
                intro σ46 eσ46
                have xσ46 : Ext σ45 σ46 := by rw [eσ46]; exact fun _ h => ⟨h, rfl, rfl⟩
                have iσ46 : IV σ46 pl gq ci gr nc ot LLt32 Nt32 nut32 := by rw [eσ46]; exact iσ45.wT (mb_2.up (xσ39.trans xσ45)) (by decide) (iσ45.t7 (knb.up (xσ39.trans xσ45)))
                have fσ46 : Fx [1, 2, 3, 4, 5, 6, 7, 64, 512, 645, 646, 647, 708, 6464] gr σ σ46 := fσ45.tr (Sk.fx (by rw [eσ46]; exact Sk.pJ (by rw [fcdO (mb_2.up (xσ39.trans xσ45)) (by decide)]; decide)))
                have kp71 : gI σ46 D 5 = gI σ45 D 5 := by rw [eσ46]
                have kp72 : gI σ46 b_2 5 = gI σ45 b_2 5 := by rw [eσ46]
                have kp73 : gI σ46 b_2 6 = gI σ45 b_2 6 := by rw [eσ46]
                have kp74 : gI σ46 b_4 6 = gI σ45 b_4 6 := by rw [eσ46]
                have kp75 : gI σ46 th 12 = gI σ45 th 12 := by rw [eσ46]
                have kp76 : gP σ46 J 0 = gP σ45 J 0 := by rw [eσ46]
                have kp77 : gP σ46 W 5 = gP σ45 W 5 := by rw [eσ46]
                have kp78 : gP σ46 b_1 ((gI τ32 F v1.toNat) + 0).toNat = gP σ45 b_1 ((gI τ32 F v1.toNat) + 0).toNat := by rw [eσ46]
                have kp79 : gP σ46 b_3 v1.toNat = gP σ45 b_3 v1.toNat := by rw [eσ46]
                have kp80 : gP σ46 th 1 = gP σ45 th 1 := by rw [eσ46]
                have kp81 : gP σ46 th 2 = gP σ45 th 2 := by rw [eσ46]
                have kp82 : gP σ46 th 3 = gP σ45 th 3 := by rw [eσ46]
                have kp83 : gP σ46 th 5 = gP σ45 th 5 := by rw [eσ46]
                have kp84 : gP σ46 th 9 = gP σ45 th 9 := by rw [eσ46]
                unfold w_X9_restore_141
                refine ⟨b, eb, fun kk_b_7 => ?_⟩
                obtain ⟨b_7, eb_7, fb_7⟩ := P_10_2 iσ46.1 (knb.up (xσ39.trans (xσ45.trans xσ46)))
                have mb_7 : kO σ46 b_7 1 := iσ46.1.kd (knb.up (xσ39.trans (xσ45.trans xσ46))) rfl eb_7 rfl
                refine i_X9_restoreRecords iσ46 (kth.up (xτ32.trans (xσ39.trans (xσ45.trans xσ46)))) eb_7 mb_7 (kp84.trans (kp70.trans (kp25.trans (kp7.trans hj)))) (kJ.up (xτ32.trans (xσ39.trans (xσ45.trans xσ46)))) (by (first | omega | with_reducible assumption | with_reducible exact rng_toInt _ | with_reducible exact rng_wr _ | (unfold rng; omega) | (unfold rng at *; omega) | assumption)) (kp80.trans (kp66.trans (kp21.trans (kp4.trans hw)))) (kW.up (xτ32.trans (xσ39.trans (xσ45.trans xσ46)))) (kp77.trans (kp63.trans (kp19.trans (kp3.trans hWJ)))) (kp83.trans (kp69.trans (kp24.trans (kp6.trans hF)))) (kF.up (xτ32.trans (xσ39.trans (xσ45.trans xσ46)))) gF hP (hl1.fx iσ iσ46 GE.rf fσ46 (by omega) (by decide)) (hf1.fx kF gF fσ46 (by decide)) (by (first | omega | with_reducible assumption | with_reducible exact rng_toInt _ | with_reducible exact rng_wr _ | (unfold rng; omega) | (unfold rng at *; omega) | assumption)) (by (first | omega | with_reducible assumption | with_reducible exact rng_toInt _ | with_reducible exact rng_wr _ | (unfold rng; omega) | (unfold rng at *; omega) | assumption)) (by (first | omega | with_reducible assumption | with_reducible exact rng_toInt _ | with_reducible exact rng_wr _ | (unfold rng; omega) | (unfold rng at *; omega) | assumption)) (by (first | omega | with_reducible assumption | with_reducible exact rng_toInt _ | with_reducible exact rng_wr _ | (unfold rng; omega) | (unfold rng at *; omega) | assumption)) (fun hL => by have z9 := (iσ46.ss.2.2.2.2.2.1 b_7 mb_7 hL).2.2.2.2.2.1 (by omega); rw [show ci b_7 / 4 = v1.toNat by omega] at z9; exact z9) (by (first | omega | with_reducible assumption | with_reducible exact rng_toInt _ | with_reducible exact rng_wr _ | (unfold rng; omega) | (unfold rng at *; omega) | assumption)) (by (first | omega | with_reducible assumption | with_reducible exact rng_toInt _ | with_reducible exact rng_wr _ | (unfold rng; omega) | (unfold rng at *; omega) | assumption)) (by (first | omega | with_reducible assumption | with_reducible exact rng_toInt _ | with_reducible exact rng_wr _ | (unfold rng; omega) | (unfold rng at *; omega) | assumption)) (fun σ48_1 LLσ48_1 Nσ48_1 nuσ48_1 _ iσ48_1 cσ48_1 uσ48_1 hσ48_1 pσ48_1 => ?_) (fun σx LLx Nx nux E ix cx ux px => hX σx LLx Nx nux E ix (fσ46.tr (cx.mo (by decide))) (nu_τ32.x ux) (by first | exact px | exact ⟨by have := px.1; omega, (Hn.nz hnτ32 (by first | decide | (intro x hx; simp only [List.mem_cons, List.mem_nil_iff, or_false] at hx; omega))).tr px.2.1, px.2.2⟩ | (first | omega | with_reducible assumption | with_reducible exact rng_toInt _ | with_reducible exact rng_wr _ | (unfold rng; omega) | (unfold rng at *; omega) | assumption)))
                intro xσ48_1
                have fσ48_1 : Fx [1, 2, 3, 4, 5, 6, 7, 64, 512, 645, 646, 647, 708, 6464] gr σ σ48_1 := fσ46.tr (cσ48_1.mo (by decide))
                have hnσ48_1 : Hn (gD σ) [11, 12] [] gq LL LLσ48_1 N Nσ48_1 := hnτ32.go hσ48_1 (fun d hd => (fσ46.1 d hd).1) (by first | decide | exact fun _ h => h | (simp; done) | (intro x hx; simp only [List.mem_cons, List.mem_nil_iff, or_false] at hx ⊢; omega)) (fun d hd => absurd hd (by simp))
                have nσ48_1_3 := hσ48_1.2.2 3 (by first | decide | (simp; done) | (simp only [List.mem_cons, List.mem_nil_iff, or_false, not_or]; omega)) (by first | decide | omega) (by first | decide | omega) (by first | decide | omega)
                have nσ48_1_5 := hσ48_1.2.2 5 (by first | decide | (simp; done) | (simp only [List.mem_cons, List.mem_nil_iff, or_false, not_or]; omega)) (by first | decide | omega) (by first | decide | omega) (by first | decide | omega)
                have nσ48_1_14 := hσ48_1.2.2 14 (by first | decide | (simp; done) | (simp only [List.mem_cons, List.mem_nil_iff, or_false, not_or]; omega)) (by first | decide | omega) (by first | decide | omega) (by first | decide | omega)
                have nσ48_1_44 := hσ48_1.2.2 44 (by first | decide | (simp; done) | (simp only [List.mem_cons, List.mem_nil_iff, or_false, not_or]; omega)) (by first | decide | omega) (by first | decide | omega) (by first | decide | omega)
                have nσ48_1_74 := hσ48_1.2.2 74 (by first | decide | (simp; done) | (simp only [List.mem_cons, List.mem_nil_iff, or_false, not_or]; omega)) (by first | decide | omega) (by first | decide | omega) (by first | decide | omega)
                have nσ48_1_41 := hσ48_1.2.2 41 (by first | decide | (simp; done) | (simp only [List.mem_cons, List.mem_nil_iff, or_false, not_or]; omega)) (by first | decide | omega) (by first | decide | omega) (by first | decide | omega)
                have nσ48_1_42 := hσ48_1.2.2 42 (by first | decide | (simp; done) | (simp only [List.mem_cons, List.mem_nil_iff, or_false, not_or]; omega)) (by first | decide | omega) (by first | decide | omega) (by first | decide | omega)
                have nσ48_1_13 := hσ48_1.2.2 13 (by first | decide | (simp; done) | (simp only [List.mem_cons, List.mem_nil_iff, or_false, not_or]; omega)) (by first | decide | omega) (by first | decide | omega) (by first | decide | omega)
                have nσ48_1_50 := hσ48_1.2.2 50 (by first | decide | (simp; done) | (simp only [List.mem_cons, List.mem_nil_iff, or_false, not_or]; omega)) (by first | decide | omega) (by first | decide | omega) (by first | decide | omega)
                have nu_σ48_1 : NU nu nuσ48_1 := nu_τ32.tr uσ48_1
                have uσ48_1_0 := uσ48_1.1 0 (by decide)
                have uσ48_1_1 := uσ48_1.1 1 (by decide)
                have uσ48_1_2 := uσ48_1.2
                have uσ48_1_5 := uσ48_1.1 5 (by decide)
                have uσ48_1_15 := uσ48_1.1 15 (by decide)
                have uσ48_1_16 := uσ48_1.1 16 (by decide)
                have kp85 : gI σ48_1 D 5 = gI σ46 D 5 := (cσ48_1.O (kk_D.up (xσ39.trans (xσ45.trans xσ46))) (by decide)).1
                have kp86 : gI σ48_1 b_2 5 = gI σ46 b_2 5 := (cσ48_1.O (mb_2.up (xσ39.trans (xσ45.trans xσ46))) (by decide)).1
                have kp87 : gI σ48_1 b_2 6 = gI σ46 b_2 6 := (cσ48_1.O (mb_2.up (xσ39.trans (xσ45.trans xσ46))) (by decide)).1
                have kp88 : gI σ48_1 b_4 6 = gI σ46 b_4 6 := (cσ48_1.O (mb_4.up (xσ45.trans xσ46)) (by decide)).1
                have kp89 : gI σ48_1 th 12 = gI σ46 th 12 := (cσ48_1.O (kth.up (xτ32.trans (xσ39.trans (xσ45.trans xσ46)))) (by decide)).1
                have kp90 : gP σ48_1 J 0 = gP σ46 J 0 := (cσ48_1.O (kJ.up (xτ32.trans (xσ39.trans (xσ45.trans xσ46)))) (by decide)).2.1
                have kp91 : gP σ48_1 W 5 = gP σ46 W 5 := (cσ48_1.O (kW.up (xτ32.trans (xσ39.trans (xσ45.trans xσ46)))) (by decide)).2.1
                have kp92 : gP σ48_1 b 2 = gP σ46 b 2 := (cσ48_1.O (knb.up (xσ39.trans (xσ45.trans xσ46))) (by decide)).2.1
                have kp93 : gP σ48_1 b_1 ((gI τ32 F v1.toNat) + 0).toNat = gP σ46 b_1 ((gI τ32 F v1.toNat) + 0).toNat := (cσ48_1.A (mb_1.up (xσ39.trans (xσ45.trans xσ46))) (by decide)).2.1
                have kp94 : gP σ48_1 b_3 v1.toNat = gP σ46 b_3 v1.toNat := (cσ48_1.A (mb_3.up (xσ45.trans xσ46)) (by decide)).2.1
                have kp95 : gP σ48_1 th 1 = gP σ46 th 1 := (cσ48_1.O (kth.up (xτ32.trans (xσ39.trans (xσ45.trans xσ46)))) (by decide)).2.1
                have kp96 : gP σ48_1 th 2 = gP σ46 th 2 := (cσ48_1.O (kth.up (xτ32.trans (xσ39.trans (xσ45.trans xσ46)))) (by decide)).2.1
                have kp97 : gP σ48_1 th 3 = gP σ46 th 3 := (cσ48_1.O (kth.up (xτ32.trans (xσ39.trans (xσ45.trans xσ46)))) (by decide)).2.1
                have kp98 : gP σ48_1 th 5 = gP σ46 th 5 := (cσ48_1.O (kth.up (xτ32.trans (xσ39.trans (xσ45.trans xσ46)))) (by decide)).2.1
                have kp99 : gP σ48_1 th 9 = gP σ46 th 9 := (cσ48_1.O (kth.up (xτ32.trans (xσ39.trans (xσ45.trans xσ46)))) (by decide)).2.1
                obtain ⟨b_8, eb_8, fb_8⟩ := P_10_3 iσ48_1.1 (knb.up (xσ39.trans (xσ45.trans (xσ46.trans xσ48_1))))
                have mb_8 : kO σ48_1 b_8 1 := iσ48_1.1.kd (knb.up (xσ39.trans (xσ45.trans (xσ46.trans xσ48_1)))) rfl eb_8 rfl
                refine i_X9_restoreRecords iσ48_1 (kth.up (xτ32.trans (xσ39.trans (xσ45.trans (xσ46.trans xσ48_1))))) eb_8 mb_8 (kp99.trans (kp84.trans (kp70.trans (kp25.trans (kp7.trans hj))))) (kJ.up (xτ32.trans (xσ39.trans (xσ45.trans (xσ46.trans xσ48_1))))) (by (first | omega | with_reducible assumption | with_reducible exact rng_toInt _ | with_reducible exact rng_wr _ | (unfold rng; omega) | (unfold rng at *; omega) | assumption)) (kp95.trans (kp80.trans (kp66.trans (kp21.trans (kp4.trans hw))))) (kW.up (xτ32.trans (xσ39.trans (xσ45.trans (xσ46.trans xσ48_1))))) (kp91.trans (kp77.trans (kp63.trans (kp19.trans (kp3.trans hWJ))))) (kp98.trans (kp83.trans (kp69.trans (kp24.trans (kp6.trans hF))))) (kF.up (xτ32.trans (xσ39.trans (xσ45.trans (xσ46.trans xσ48_1))))) gF hP (hl1.fx iσ iσ48_1 GE.rf fσ48_1 (by omega) (by decide)) (hf1.fx kF gF fσ48_1 (by decide)) (by (first | omega | with_reducible assumption | with_reducible exact rng_toInt _ | with_reducible exact rng_wr _ | (unfold rng; omega) | (unfold rng at *; omega) | assumption)) (by (first | omega | with_reducible assumption | with_reducible exact rng_toInt _ | with_reducible exact rng_wr _ | (unfold rng; omega) | (unfold rng at *; omega) | assumption)) (by (first | omega | with_reducible assumption | with_reducible exact rng_toInt _ | with_reducible exact rng_wr _ | (unfold rng; omega) | (unfold rng at *; omega) | assumption)) (by (first | omega | with_reducible assumption | with_reducible exact rng_toInt _ | with_reducible exact rng_wr _ | (unfold rng; omega) | (unfold rng at *; omega) | assumption)) (fun hL => by have z9 := (iσ48_1.ss.2.2.2.2.2.1 b_8 mb_8 hL).2.2.2.2.2.1 (by omega); rw [show ci b_8 / 4 = v1.toNat by omega] at z9; exact z9) (by (first | omega | with_reducible assumption | with_reducible exact rng_toInt _ | with_reducible exact rng_wr _ | (unfold rng; omega) | (unfold rng at *; omega) | assumption)) (by (first | omega | with_reducible assumption | with_reducible exact rng_toInt _ | with_reducible exact rng_wr _ | (unfold rng; omega) | (unfold rng at *; omega) | assumption)) (by (first | omega | with_reducible assumption | with_reducible exact rng_toInt _ | with_reducible exact rng_wr _ | (unfold rng; omega) | (unfold rng at *; omega) | assumption)) (fun σ49_1 LLσ49_1 Nσ49_1 nuσ49_1 _ iσ49_1 cσ49_1 uσ49_1 hσ49_1 pσ49_1 => ?_) (fun σx LLx Nx nux E ix cx ux px => hX σx LLx Nx nux E ix (fσ48_1.tr (cx.mo (by decide))) (nu_σ48_1.x ux) (by first | exact px | exact ⟨by have := px.1; omega, (Hn.nz hnσ48_1 (by first | decide | (intro x hx; simp only [List.mem_cons, List.mem_nil_iff, or_false] at hx; omega))).tr px.2.1, px.2.2⟩ | (first | omega | with_reducible assumption | with_reducible exact rng_toInt _ | with_reducible exact rng_wr _ | (unfold rng; omega) | (unfold rng at *; omega) | assumption)))
                intro xσ49_1
                have fσ49_1 : Fx [1, 2, 3, 4, 5, 6, 7, 64, 512, 645, 646, 647, 708, 6464] gr σ σ49_1 := fσ48_1.tr (cσ49_1.mo (by decide))
                have hnσ49_1 : Hn (gD σ) [11, 12] [] gq LL LLσ49_1 N Nσ49_1 := hnσ48_1.go hσ49_1 (fun d hd => (fσ48_1.1 d hd).1) (by first | decide | exact fun _ h => h | (simp; done) | (intro x hx; simp only [List.mem_cons, List.mem_nil_iff, or_false] at hx ⊢; omega)) (fun d hd => absurd hd (by simp))
                have nσ49_1_3 := hσ49_1.2.2 3 (by first | decide | (simp; done) | (simp only [List.mem_cons, List.mem_nil_iff, or_false, not_or]; omega)) (by first | decide | omega) (by first | decide | omega) (by first | decide | omega)
                have nσ49_1_5 := hσ49_1.2.2 5 (by first | decide | (simp; done) | (simp only [List.mem_cons, List.mem_nil_iff, or_false, not_or]; omega)) (by first | decide | omega) (by first | decide | omega) (by first | decide | omega)
                have nσ49_1_14 := hσ49_1.2.2 14 (by first | decide | (simp; done) | (simp only [List.mem_cons, List.mem_nil_iff, or_false, not_or]; omega)) (by first | decide | omega) (by first | decide | omega) (by first | decide | omega)
                have nσ49_1_44 := hσ49_1.2.2 44 (by first | decide | (simp; done) | (simp only [List.mem_cons, List.mem_nil_iff, or_false, not_or]; omega)) (by first | decide | omega) (by first | decide | omega) (by first | decide | omega)
                have nσ49_1_74 := hσ49_1.2.2 74 (by first | decide | (simp; done) | (simp only [List.mem_cons, List.mem_nil_iff, or_false, not_or]; omega)) (by first | decide | omega) (by first | decide | omega) (by first | decide | omega)
                have nσ49_1_41 := hσ49_1.2.2 41 (by first | decide | (simp; done) | (simp only [List.mem_cons, List.mem_nil_iff, or_false, not_or]; omega)) (by first | decide | omega) (by first | decide | omega) (by first | decide | omega)
                have nσ49_1_42 := hσ49_1.2.2 42 (by first | decide | (simp; done) | (simp only [List.mem_cons, List.mem_nil_iff, or_false, not_or]; omega)) (by first | decide | omega) (by first | decide | omega) (by first | decide | omega)
                have nσ49_1_13 := hσ49_1.2.2 13 (by first | decide | (simp; done) | (simp only [List.mem_cons, List.mem_nil_iff, or_false, not_or]; omega)) (by first | decide | omega) (by first | decide | omega) (by first | decide | omega)
                have nσ49_1_50 := hσ49_1.2.2 50 (by first | decide | (simp; done) | (simp only [List.mem_cons, List.mem_nil_iff, or_false, not_or]; omega)) (by first | decide | omega) (by first | decide | omega) (by first | decide | omega)
                have nu_σ49_1 : NU nu nuσ49_1 := nu_σ48_1.tr uσ49_1
                have uσ49_1_0 := uσ49_1.1 0 (by decide)
                have uσ49_1_1 := uσ49_1.1 1 (by decide)
                have uσ49_1_2 := uσ49_1.2
                have uσ49_1_5 := uσ49_1.1 5 (by decide)
                have uσ49_1_15 := uσ49_1.1 15 (by decide)
                have uσ49_1_16 := uσ49_1.1 16 (by decide)
                have kp100 : gI σ49_1 D 5 = gI σ48_1 D 5 := (cσ49_1.O (kk_D.up (xσ39.trans (xσ45.trans (xσ46.trans xσ48_1)))) (by decide)).1
                have kp101 : gI σ49_1 b_2 5 = gI σ48_1 b_2 5 := (cσ49_1.O (mb_2.up (xσ39.trans (xσ45.trans (xσ46.trans xσ48_1)))) (by decide)).1
                have kp102 : gI σ49_1 b_2 6 = gI σ48_1 b_2 6 := (cσ49_1.O (mb_2.up (xσ39.trans (xσ45.trans (xσ46.trans xσ48_1)))) (by decide)).1
                have kp103 : gI σ49_1 b_4 6 = gI σ48_1 b_4 6 := (cσ49_1.O (mb_4.up (xσ45.trans (xσ46.trans xσ48_1))) (by decide)).1
                have kp104 : gI σ49_1 th 12 = gI σ48_1 th 12 := (cσ49_1.O (kth.up (xτ32.trans (xσ39.trans (xσ45.trans (xσ46.trans xσ48_1))))) (by decide)).1
                have kp105 : gP σ49_1 J 0 = gP σ48_1 J 0 := (cσ49_1.O (kJ.up (xτ32.trans (xσ39.trans (xσ45.trans (xσ46.trans xσ48_1))))) (by decide)).2.1
                have kp106 : gP σ49_1 W 5 = gP σ48_1 W 5 := (cσ49_1.O (kW.up (xτ32.trans (xσ39.trans (xσ45.trans (xσ46.trans xσ48_1))))) (by decide)).2.1
                have kp107 : gP σ49_1 b 2 = gP σ48_1 b 2 := (cσ49_1.O (knb.up (xσ39.trans (xσ45.trans (xσ46.trans xσ48_1)))) (by decide)).2.1
                have kp108 : gP σ49_1 b 3 = gP σ48_1 b 3 := (cσ49_1.O (knb.up (xσ39.trans (xσ45.trans (xσ46.trans xσ48_1)))) (by decide)).2.1
                have kp109 : gP σ49_1 b_1 ((gI τ32 F v1.toNat) + 0).toNat = gP σ48_1 b_1 ((gI τ32 F v1.toNat) + 0).toNat := (cσ49_1.A (mb_1.up (xσ39.trans (xσ45.trans (xσ46.trans xσ48_1)))) (by decide)).2.1
                have kp110 : gP σ49_1 b_3 v1.toNat = gP σ48_1 b_3 v1.toNat := (cσ49_1.A (mb_3.up (xσ45.trans (xσ46.trans xσ48_1))) (by decide)).2.1
                have kp111 : gP σ49_1 th 1 = gP σ48_1 th 1 := (cσ49_1.O (kth.up (xτ32.trans (xσ39.trans (xσ45.trans (xσ46.trans xσ48_1))))) (by decide)).2.1
                have kp112 : gP σ49_1 th 2 = gP σ48_1 th 2 := (cσ49_1.O (kth.up (xτ32.trans (xσ39.trans (xσ45.trans (xσ46.trans xσ48_1))))) (by decide)).2.1
                have kp113 : gP σ49_1 th 3 = gP σ48_1 th 3 := (cσ49_1.O (kth.up (xτ32.trans (xσ39.trans (xσ45.trans (xσ46.trans xσ48_1))))) (by decide)).2.1
                have kp114 : gP σ49_1 th 5 = gP σ48_1 th 5 := (cσ49_1.O (kth.up (xτ32.trans (xσ39.trans (xσ45.trans (xσ46.trans xσ48_1))))) (by decide)).2.1
                have kp115 : gP σ49_1 th 9 = gP σ48_1 th 9 := (cσ49_1.O (kth.up (xτ32.trans (xσ39.trans (xσ45.trans (xσ46.trans xσ48_1))))) (by decide)).2.1
                unfold w_X9_restore_163
                refine ⟨by (first | omega | with_reducible assumption | with_reducible exact rng_toInt _ | with_reducible exact rng_wr _ | (unfold rng; omega) | (unfold rng at *; omega) | assumption), ?_⟩
                exact ih32 σ49_1 LLσ49_1 Nσ49_1 nuσ49_1 (v3 + 1) iσ49_1 fσ49_1 (xτ32.trans (xσ39.trans (xσ45.trans (xσ46.trans (xσ48_1.trans xσ49_1))))) nu_σ49_1 hnσ49_1 (by (first | omega | with_reducible assumption | with_reducible exact rng_toInt _ | with_reducible exact rng_wr _ | (unfold rng; omega) | (unfold rng at *; omega) | assumption)) (by (first | omega | with_reducible assumption | with_reducible exact rng_toInt _ | with_reducible exact rng_wr _ | (unfold rng; omega) | (unfold rng at *; omega) | assumption))
            · rw [if_neg hc12]
              have hc12q := Classical.not_not.mp hc12
              unfold w_X9_restore_82
              unfold w_X9_restore_87
              have q116 := iτ32.rg F v1.toNat; unfold rng at q116
              refine ⟨by (first | omega | with_reducible assumption | with_reducible exact rng_toInt _ | with_reducible exact rng_wr _ | (unfold rng; omega) | (unfold rng at *; omega) | assumption), ?_⟩
              obtain ⟨b_9, eb_9, fb_9⟩ := P_9_3 iτ32.1 (kth.up xτ32)
              have mb_9 : kO τ32 b_9 120 := iτ32.1.kd (kth.up xτ32) rfl eb_9 rfl
              refine ⟨b_9, eb_9, fun kk_b_9 => ?_⟩
              refine ⟨⟨by (first | omega | with_reducible assumption | with_reducible exact rng_toInt _ | with_reducible exact rng_wr _ | (unfold rng; omega) | (unfold rng at *; omega) | assumption), by (first | omega | with_reducible assumption | with_reducible exact rng_toInt _ | with_reducible exact rng_wr _ | (unfold rng; omega) | (unfold rng at *; omega) | assumption)⟩, ?_⟩
              have n16b_10 := iτ32.n16
              obtain ⟨b_10, eb_10, mb_10, fb_10⟩ := P_120 iτ32 mb_9 (by omega) (k := ((gI τ32 F v1.toNat) + v3).toNat) (by (first | omega | with_reducible assumption | with_reducible exact rng_toInt _ | with_reducible exact rng_wr _ | (unfold rng; omega) | (unfold rng at *; omega) | assumption))
              refine ⟨b_10, eb_10, fun kk_b_10 => ?_⟩
              refine ⟨b, eb, fun kk_b_8 => ?_⟩
              intro σ39_1 eσ39_1
              have xσ39_1 : Ext τ32 σ39_1 := by rw [eσ39_1]; exact fun _ h => ⟨h, rfl, rfl⟩
              have q117 := iτ32.rg b_10 5; unfold rng at q117
              have q118 := iτ32.rg b 5; unfold rng at q118
              have iσ39_1 : IV σ39_1 pl gq ci gr nc ot LLt32 Nt32 nut32 := by rw [eσ39_1]; exact iτ32.wO mb_10 (by decide) (rngb (by first | exact rng_wr _ | (first | omega | with_reducible assumption | with_reducible exact rng_toInt _ | with_reducible exact rng_wr _ | (unfold rng; omega) | (unfold rng at *; omega) | assumption)))
              have fσ39_1 : Fx [1, 2, 3, 4, 5, 6, 7, 64, 512, 645, 646, 647, 708, 6464] gr σ σ39_1 := fτ32.tr (Sk.fx (by rw [eσ39_1]; exact Sk.pI (by rw [fcdO mb_10 (by decide)]; decide)))
              have wσ39_1 : gI σ39_1 b_10 5 = (wr (gI τ32 b_10 5 + gI τ32 b 5)) := by rw [eσ39_1]; exact up2_s _ _ _ _
              have kp119 : gI σ39_1 D 5 = gI τ32 D 5 := by rw [eσ39_1]; exact up2_n _ _ (fun q => absurd q.1 (kO.ne kk_D mb_10 (by decide)))
              have kp120 : gI σ39_1 th 12 = gI τ32 th 12 := by rw [eσ39_1]; exact up2_n _ _ (fun q => absurd q.2 (by decide))
              have kp121 : gP σ39_1 W 5 = gP τ32 W 5 := by rw [eσ39_1]
              have kp122 : gP σ39_1 b_9 ((gI τ32 F v1.toNat) + v3).toNat = gP τ32 b_9 ((gI τ32 F v1.toNat) + v3).toNat := by rw [eσ39_1]
              have kp123 : gP σ39_1 th 1 = gP τ32 th 1 := by rw [eσ39_1]
              have kp124 : gP σ39_1 th 2 = gP τ32 th 2 := by rw [eσ39_1]
              have kp125 : gP σ39_1 th 3 = gP τ32 th 3 := by rw [eσ39_1]
              have kp126 : gP σ39_1 th 5 = gP τ32 th 5 := by rw [eσ39_1]
              have kp127 : gP σ39_1 th 9 = gP τ32 th 9 := by rw [eσ39_1]
              refine ⟨J, (kp127.trans (kp7.trans hj)), fun kk_J_1 => ?_⟩
              obtain ⟨b_11, eb_11, fb_11⟩ := P_4_0 iσ39_1.1 (kJ.up (xτ32.trans xσ39_1))
              have mb_11 : kO σ39_1 b_11 115 := iσ39_1.1.kd (kJ.up (xτ32.trans xσ39_1)) rfl eb_11 rfl
              refine ⟨b_11, eb_11, fun kk_b_11 => ?_⟩
              refine ⟨⟨by (first | omega | with_reducible assumption | with_reducible exact rng_toInt _ | with_reducible exact rng_wr _ | (unfold rng; omega) | (unfold rng at *; omega) | assumption), by (first | omega | with_reducible assumption | with_reducible exact rng_toInt _ | with_reducible exact rng_wr _ | (unfold rng; omega) | (unfold rng at *; omega) | assumption)⟩, ?_⟩
              obtain ⟨b_12, eb_12⟩ := P_115 iσ39_1.1 mb_11 (k := v1.toNat) (by (first | omega | with_reducible assumption | with_reducible exact rng_toInt _ | with_reducible exact rng_wr _ | (unfold rng; omega) | (unfold rng at *; omega) | assumption))
              have fb_12 := T_115 iσ39_1.1 mb_11 eb_12
              have mb_12 : kO σ39_1 b_12 5 := iσ39_1.1.kd mb_11 rfl eb_12 rfl
              refine ⟨b_12, eb_12, fun kk_b_12 => ?_⟩
              have q129 := I_5_6 iσ39_1.1 mb_12
              by_cases hc128 : gI σ39_1 b_12 6 ≠ 0
              · rw [if_pos hc128]
                unfold w_X9_restore_141
                refine ⟨b, eb, fun kk_b_13 => ?_⟩
                obtain ⟨b_13, eb_13, fb_13⟩ := P_10_2 iσ39_1.1 (knb.up xσ39_1)
                have mb_13 : kO σ39_1 b_13 1 := iσ39_1.1.kd (knb.up xσ39_1) rfl eb_13 rfl
                refine i_X9_restoreRecords iσ39_1 (kth.up (xτ32.trans xσ39_1)) eb_13 mb_13 (kp127.trans (kp7.trans hj)) (kJ.up (xτ32.trans xσ39_1)) (by (first | omega | with_reducible assumption | with_reducible exact rng_toInt _ | with_reducible exact rng_wr _ | (unfold rng; omega) | (unfold rng at *; omega) | assumption)) (kp123.trans (kp4.trans hw)) (kW.up (xτ32.trans xσ39_1)) (kp121.trans (kp3.trans hWJ)) (kp126.trans (kp6.trans hF)) (kF.up (xτ32.trans xσ39_1)) gF hP (hl1.fx iσ iσ39_1 GE.rf fσ39_1 (by omega) (by decide)) (hf1.fx kF gF fσ39_1 (by decide)) (by (first | omega | with_reducible assumption | with_reducible exact rng_toInt _ | with_reducible exact rng_wr _ | (unfold rng; omega) | (unfold rng at *; omega) | assumption)) (by (first | omega | with_reducible assumption | with_reducible exact rng_toInt _ | with_reducible exact rng_wr _ | (unfold rng; omega) | (unfold rng at *; omega) | assumption)) (by (first | omega | with_reducible assumption | with_reducible exact rng_toInt _ | with_reducible exact rng_wr _ | (unfold rng; omega) | (unfold rng at *; omega) | assumption)) (by (first | omega | with_reducible assumption | with_reducible exact rng_toInt _ | with_reducible exact rng_wr _ | (unfold rng; omega) | (unfold rng at *; omega) | assumption)) (fun hL => by have z9 := (iσ39_1.ss.2.2.2.2.2.1 b_13 mb_13 hL).2.2.2.2.2.1 (by omega); rw [show ci b_13 / 4 = v1.toNat by omega] at z9; exact z9) (by (first | omega | with_reducible assumption | with_reducible exact rng_toInt _ | with_reducible exact rng_wr _ | (unfold rng; omega) | (unfold rng at *; omega) | assumption)) (by (first | omega | with_reducible assumption | with_reducible exact rng_toInt _ | with_reducible exact rng_wr _ | (unfold rng; omega) | (unfold rng at *; omega) | assumption)) (by (first | omega | with_reducible assumption | with_reducible exact rng_toInt _ | with_reducible exact rng_wr _ | (unfold rng; omega) | (unfold rng at *; omega) | assumption)) (fun σ48_2 LLσ48_2 Nσ48_2 nuσ48_2 _ iσ48_2 cσ48_2 uσ48_2 hσ48_2 pσ48_2 => ?_) (fun σx LLx Nx nux E ix cx ux px => hX σx LLx Nx nux E ix (fσ39_1.tr (cx.mo (by decide))) (nu_τ32.x ux) (by first | exact px | exact ⟨by have := px.1; omega, (Hn.nz hnτ32 (by first | decide | (intro x hx; simp only [List.mem_cons, List.mem_nil_iff, or_false] at hx; omega))).tr px.2.1, px.2.2⟩ | (first | omega | with_reducible assumption | with_reducible exact rng_toInt _ | with_reducible exact rng_wr _ | (unfold rng; omega) | (unfold rng at *; omega) | assumption)))
                intro xσ48_2
                have fσ48_2 : Fx [1, 2, 3, 4, 5, 6, 7, 64, 512, 645, 646, 647, 708, 6464] gr σ σ48_2 := fσ39_1.tr (cσ48_2.mo (by decide))
                have hnσ48_2 : Hn (gD σ) [11, 12] [] gq LL LLσ48_2 N Nσ48_2 := hnτ32.go hσ48_2 (fun d hd => (fσ39_1.1 d hd).1) (by first | decide | exact fun _ h => h | (simp; done) | (intro x hx; simp only [List.mem_cons, List.mem_nil_iff, or_false] at hx ⊢; omega)) (fun d hd => absurd hd (by simp))
                have nσ48_2_3 := hσ48_2.2.2 3 (by first | decide | (simp; done) | (simp only [List.mem_cons, List.mem_nil_iff, or_false, not_or]; omega)) (by first | decide | omega) (by first | decide | omega) (by first | decide | omega)
                have nσ48_2_5 := hσ48_2.2.2 5 (by first | decide | (simp; done) | (simp only [List.mem_cons, List.mem_nil_iff, or_false, not_or]; omega)) (by first | decide | omega) (by first | decide | omega) (by first | decide | omega)
                have nσ48_2_14 := hσ48_2.2.2 14 (by first | decide | (simp; done) | (simp only [List.mem_cons, List.mem_nil_iff, or_false, not_or]; omega)) (by first | decide | omega) (by first | decide | omega) (by first | decide | omega)
                have nσ48_2_44 := hσ48_2.2.2 44 (by first | decide | (simp; done) | (simp only [List.mem_cons, List.mem_nil_iff, or_false, not_or]; omega)) (by first | decide | omega) (by first | decide | omega) (by first | decide | omega)
                have nσ48_2_74 := hσ48_2.2.2 74 (by first | decide | (simp; done) | (simp only [List.mem_cons, List.mem_nil_iff, or_false, not_or]; omega)) (by first | decide | omega) (by first | decide | omega) (by first | decide | omega)
                have nσ48_2_41 := hσ48_2.2.2 41 (by first | decide | (simp; done) | (simp only [List.mem_cons, List.mem_nil_iff, or_false, not_or]; omega)) (by first | decide | omega) (by first | decide | omega) (by first | decide | omega)
                have nσ48_2_42 := hσ48_2.2.2 42 (by first | decide | (simp; done) | (simp only [List.mem_cons, List.mem_nil_iff, or_false, not_or]; omega)) (by first | decide | omega) (by first | decide | omega) (by first | decide | omega)
                have nσ48_2_13 := hσ48_2.2.2 13 (by first | decide | (simp; done) | (simp only [List.mem_cons, List.mem_nil_iff, or_false, not_or]; omega)) (by first | decide | omega) (by first | decide | omega) (by first | decide | omega)
                have nσ48_2_50 := hσ48_2.2.2 50 (by first | decide | (simp; done) | (simp only [List.mem_cons, List.mem_nil_iff, or_false, not_or]; omega)) (by first | decide | omega) (by first | decide | omega) (by first | decide | omega)
                have nu_σ48_2 : NU nu nuσ48_2 := nu_τ32.tr uσ48_2
                have uσ48_2_0 := uσ48_2.1 0 (by decide)
                have uσ48_2_1 := uσ48_2.1 1 (by decide)
                have uσ48_2_2 := uσ48_2.2
                have uσ48_2_5 := uσ48_2.1 5 (by decide)
                have uσ48_2_15 := uσ48_2.1 15 (by decide)
                have uσ48_2_16 := uσ48_2.1 16 (by decide)
                have kp130 : gI σ48_2 D 5 = gI σ39_1 D 5 := (cσ48_2.O (kk_D.up xσ39_1) (by decide)).1
                have kp131 : gI σ48_2 b_10 5 = gI σ39_1 b_10 5 := (cσ48_2.O (mb_10.up xσ39_1) (by decide)).1
                have kp132 : gI σ48_2 b_12 6 = gI σ39_1 b_12 6 := (cσ48_2.O mb_12 (by decide)).1
                have kp133 : gI σ48_2 th 12 = gI σ39_1 th 12 := (cσ48_2.O (kth.up (xτ32.trans xσ39_1)) (by decide)).1
                have kp134 : gP σ48_2 J 0 = gP σ39_1 J 0 := (cσ48_2.O (kJ.up (xτ32.trans xσ39_1)) (by decide)).2.1
                have kp135 : gP σ48_2 W 5 = gP σ39_1 W 5 := (cσ48_2.O (kW.up (xτ32.trans xσ39_1)) (by decide)).2.1
                have kp136 : gP σ48_2 b 2 = gP σ39_1 b 2 := (cσ48_2.O (knb.up xσ39_1) (by decide)).2.1
                have kp137 : gP σ48_2 b_11 v1.toNat = gP σ39_1 b_11 v1.toNat := (cσ48_2.A mb_11 (by decide)).2.1
                have kp138 : gP σ48_2 b_9 ((gI τ32 F v1.toNat) + v3).toNat = gP σ39_1 b_9 ((gI τ32 F v1.toNat) + v3).toNat := (cσ48_2.A (mb_9.up xσ39_1) (by decide)).2.1
                have kp139 : gP σ48_2 th 1 = gP σ39_1 th 1 := (cσ48_2.O (kth.up (xτ32.trans xσ39_1)) (by decide)).2.1
                have kp140 : gP σ48_2 th 2 = gP σ39_1 th 2 := (cσ48_2.O (kth.up (xτ32.trans xσ39_1)) (by decide)).2.1
                have kp141 : gP σ48_2 th 3 = gP σ39_1 th 3 := (cσ48_2.O (kth.up (xτ32.trans xσ39_1)) (by decide)).2.1
                have kp142 : gP σ48_2 th 5 = gP σ39_1 th 5 := (cσ48_2.O (kth.up (xτ32.trans xσ39_1)) (by decide)).2.1
                have kp143 : gP σ48_2 th 9 = gP σ39_1 th 9 := (cσ48_2.O (kth.up (xτ32.trans xσ39_1)) (by decide)).2.1
                obtain ⟨b_14, eb_14, fb_14⟩ := P_10_3 iσ48_2.1 (knb.up (xσ39_1.trans xσ48_2))
                have mb_14 : kO σ48_2 b_14 1 := iσ48_2.1.kd (knb.up (xσ39_1.trans xσ48_2)) rfl eb_14 rfl
                refine i_X9_restoreRecords iσ48_2 (kth.up (xτ32.trans (xσ39_1.trans xσ48_2))) eb_14 mb_14 (kp143.trans (kp127.trans (kp7.trans hj))) (kJ.up (xτ32.trans (xσ39_1.trans xσ48_2))) (by (first | omega | with_reducible assumption | with_reducible exact rng_toInt _ | with_reducible exact rng_wr _ | (unfold rng; omega) | (unfold rng at *; omega) | assumption)) (kp139.trans (kp123.trans (kp4.trans hw))) (kW.up (xτ32.trans (xσ39_1.trans xσ48_2))) (kp135.trans (kp121.trans (kp3.trans hWJ))) (kp142.trans (kp126.trans (kp6.trans hF))) (kF.up (xτ32.trans (xσ39_1.trans xσ48_2))) gF hP (hl1.fx iσ iσ48_2 GE.rf fσ48_2 (by omega) (by decide)) (hf1.fx kF gF fσ48_2 (by decide)) (by (first | omega | with_reducible assumption | with_reducible exact rng_toInt _ | with_reducible exact rng_wr _ | (unfold rng; omega) | (unfold rng at *; omega) | assumption)) (by (first | omega | with_reducible assumption | with_reducible exact rng_toInt _ | with_reducible exact rng_wr _ | (unfold rng; omega) | (unfold rng at *; omega) | assumption)) (by (first | omega | with_reducible assumption | with_reducible exact rng_toInt _ | with_reducible exact rng_wr _ | (unfold rng; omega) | (unfold rng at *; omega) | assumption)) (by (first | omega | with_reducible assumption | with_reducible exact rng_toInt _ | with_reducible exact rng_wr _ | (unfold rng; omega) | (unfold rng at *; omega) | assumption)) (fun hL => by have z9 := (iσ48_2.ss.2.2.2.2.2.1 b_14 mb_14 hL).2.2.2.2.2.1 (by omega); rw [show ci b_14 / 4 = v1.toNat by omega] at z9; exact z9) (by (first | omega | with_reducible assumption | with_reducible exact rng_toInt _ | with_reducible exact rng_wr _ | (unfold rng; omega) | (unfold rng at *; omega) | assumption)) (by (first | omega | with_reducible assumption | with_reducible exact rng_toInt _ | with_reducible exact rng_wr _ | (unfold rng; omega) | (unfold rng at *; omega) | assumption)) (by (first | omega | with_reducible assumption | with_reducible exact rng_toInt _ | with_reducible exact rng_wr _ | (unfold rng; omega) | (unfold rng at *; omega) | assumption)) (fun σ49_2 LLσ49_2 Nσ49_2 nuσ49_2 _ iσ49_2 cσ49_2 uσ49_2 hσ49_2 pσ49_2 => ?_) (fun σx LLx Nx nux E ix cx ux px => hX σx LLx Nx nux E ix (fσ48_2.tr (cx.mo (by decide))) (nu_σ48_2.x ux) (by first | exact px | exact ⟨by have := px.1; omega, (Hn.nz hnσ48_2 (by first | decide | (intro x hx; simp only [List.mem_cons, List.mem_nil_iff, or_false] at hx; omega))).tr px.2.1, px.2.2⟩ | (first | omega | with_reducible assumption | with_reducible exact rng_toInt _ | with_reducible exact rng_wr _ | (unfold rng; omega) | (unfold rng at *; omega) | assumption)))
                intro xσ49_2
                have fσ49_2 : Fx [1, 2, 3, 4, 5, 6, 7, 64, 512, 645, 646, 647, 708, 6464] gr σ σ49_2 := fσ48_2.tr (cσ49_2.mo (by decide))
                have hnσ49_2 : Hn (gD σ) [11, 12] [] gq LL LLσ49_2 N Nσ49_2 := hnσ48_2.go hσ49_2 (fun d hd => (fσ48_2.1 d hd).1) (by first | decide | exact fun _ h => h | (simp; done) | (intro x hx; simp only [List.mem_cons, List.mem_nil_iff, or_false] at hx ⊢; omega)) (fun d hd => absurd hd (by simp))
                have nσ49_2_3 := hσ49_2.2.2 3 (by first | decide | (simp; done) | (simp only [List.mem_cons, List.mem_nil_iff, or_false, not_or]; omega)) (by first | decide | omega) (by first | decide | omega) (by first | decide | omega)
                have nσ49_2_5 := hσ49_2.2.2 5 (by first | decide | (simp; done) | (simp only [List.mem_cons, List.mem_nil_iff, or_false, not_or]; omega)) (by first | decide | omega) (by first | decide | omega) (by first | decide | omega)
                have nσ49_2_14 := hσ49_2.2.2 14 (by first | decide | (simp; done) | (simp only [List.mem_cons, List.mem_nil_iff, or_false, not_or]; omega)) (by first | decide | omega) (by first | decide | omega) (by first | decide | omega)
                have nσ49_2_44 := hσ49_2.2.2 44 (by first | decide | (simp; done) | (simp only [List.mem_cons, List.mem_nil_iff, or_false, not_or]; omega)) (by first | decide | omega) (by first | decide | omega) (by first | decide | omega)
                have nσ49_2_74 := hσ49_2.2.2 74 (by first | decide | (simp; done) | (simp only [List.mem_cons, List.mem_nil_iff, or_false, not_or]; omega)) (by first | decide | omega) (by first | decide | omega) (by first | decide | omega)
                have nσ49_2_41 := hσ49_2.2.2 41 (by first | decide | (simp; done) | (simp only [List.mem_cons, List.mem_nil_iff, or_false, not_or]; omega)) (by first | decide | omega) (by first | decide | omega) (by first | decide | omega)
                have nσ49_2_42 := hσ49_2.2.2 42 (by first | decide | (simp; done) | (simp only [List.mem_cons, List.mem_nil_iff, or_false, not_or]; omega)) (by first | decide | omega) (by first | decide | omega) (by first | decide | omega)
                have nσ49_2_13 := hσ49_2.2.2 13 (by first | decide | (simp; done) | (simp only [List.mem_cons, List.mem_nil_iff, or_false, not_or]; omega)) (by first | decide | omega) (by first | decide | omega) (by first | decide | omega)
                have nσ49_2_50 := hσ49_2.2.2 50 (by first | decide | (simp; done) | (simp only [List.mem_cons, List.mem_nil_iff, or_false, not_or]; omega)) (by first | decide | omega) (by first | decide | omega) (by first | decide | omega)
                have nu_σ49_2 : NU nu nuσ49_2 := nu_σ48_2.tr uσ49_2
                have uσ49_2_0 := uσ49_2.1 0 (by decide)
                have uσ49_2_1 := uσ49_2.1 1 (by decide)
                have uσ49_2_2 := uσ49_2.2
                have uσ49_2_5 := uσ49_2.1 5 (by decide)
                have uσ49_2_15 := uσ49_2.1 15 (by decide)
                have uσ49_2_16 := uσ49_2.1 16 (by decide)
                have kp144 : gI σ49_2 D 5 = gI σ48_2 D 5 := (cσ49_2.O (kk_D.up (xσ39_1.trans xσ48_2)) (by decide)).1
                have kp145 : gI σ49_2 b_10 5 = gI σ48_2 b_10 5 := (cσ49_2.O (mb_10.up (xσ39_1.trans xσ48_2)) (by decide)).1
                have kp146 : gI σ49_2 b_12 6 = gI σ48_2 b_12 6 := (cσ49_2.O (mb_12.up xσ48_2) (by decide)).1
                have kp147 : gI σ49_2 th 12 = gI σ48_2 th 12 := (cσ49_2.O (kth.up (xτ32.trans (xσ39_1.trans xσ48_2))) (by decide)).1
                have kp148 : gP σ49_2 J 0 = gP σ48_2 J 0 := (cσ49_2.O (kJ.up (xτ32.trans (xσ39_1.trans xσ48_2))) (by decide)).2.1
                have kp149 : gP σ49_2 W 5 = gP σ48_2 W 5 := (cσ49_2.O (kW.up (xτ32.trans (xσ39_1.trans xσ48_2))) (by decide)).2.1
                have kp150 : gP σ49_2 b 2 = gP σ48_2 b 2 := (cσ49_2.O (knb.up (xσ39_1.trans xσ48_2)) (by decide)).2.1
                have kp151 : gP σ49_2 b 3 = gP σ48_2 b 3 := (cσ49_2.O (knb.up (xσ39_1.trans xσ48_2)) (by decide)).2.1
                have kp152 : gP σ49_2 b_11 v1.toNat = gP σ48_2 b_11 v1.toNat := (cσ49_2.A (mb_11.up xσ48_2) (by decide)).2.1
                have kp153 : gP σ49_2 b_9 ((gI τ32 F v1.toNat) + v3).toNat = gP σ48_2 b_9 ((gI τ32 F v1.toNat) + v3).toNat := (cσ49_2.A (mb_9.up (xσ39_1.trans xσ48_2)) (by decide)).2.1
                have kp154 : gP σ49_2 th 1 = gP σ48_2 th 1 := (cσ49_2.O (kth.up (xτ32.trans (xσ39_1.trans xσ48_2))) (by decide)).2.1
                have kp155 : gP σ49_2 th 2 = gP σ48_2 th 2 := (cσ49_2.O (kth.up (xτ32.trans (xσ39_1.trans xσ48_2))) (by decide)).2.1
                have kp156 : gP σ49_2 th 3 = gP σ48_2 th 3 := (cσ49_2.O (kth.up (xτ32.trans (xσ39_1.trans xσ48_2))) (by decide)).2.1
                have kp157 : gP σ49_2 th 5 = gP σ48_2 th 5 := (cσ49_2.O (kth.up (xτ32.trans (xσ39_1.trans xσ48_2))) (by decide)).2.1
                have kp158 : gP σ49_2 th 9 = gP σ48_2 th 9 := (cσ49_2.O (kth.up (xτ32.trans (xσ39_1.trans xσ48_2))) (by decide)).2.1
                unfold w_X9_restore_163
                refine ⟨by (first | omega | with_reducible assumption | with_reducible exact rng_toInt _ | with_reducible exact rng_wr _ | (unfold rng; omega) | (unfold rng at *; omega) | assumption), ?_⟩
                exact ih32 σ49_2 LLσ49_2 Nσ49_2 nuσ49_2 (v3 + 1) iσ49_2 fσ49_2 (xτ32.trans (xσ39_1.trans (xσ48_2.trans xσ49_2))) nu_σ49_2 hnσ49_2 (by (first | omega | with_reducible assumption | with_reducible exact rng_toInt _ | with_reducible exact rng_wr _ | (unfold rng; omega) | (unfold rng at *; omega) | assumption)) (by (first | omega | with_reducible assumption | with_reducible exact rng_toInt _ | with_reducible exact rng_wr _ | (unfold rng; omega) | (unfold rng at *; omega) | assumption))
              · rw [if_neg hc128]
                have hc128q := Classical.not_not.mp hc128
                unfold w_X9_restore_121
                refine ⟨b, eb, fun kk_b_14 => ?_⟩
                refine ⟨b_10, eb_10, fun kk_b_10_1 => ?_⟩
                intro σ45_1 eσ45_1
                have xσ45_1 : Ext σ39_1 σ45_1 := by rw [eσ45_1]; exact fun _ h => ⟨h, rfl, rfl⟩
                have q159 := I_10_6 iσ39_1.1 (knb.up xσ39_1)
                have iσ45_1 : IV σ45_1 pl gq ci gr nc ot LLt32 Nt32 nut32 := by rw [eσ45_1]; exact iσ39_1.wO (mb_10.up xσ39_1) (by decide) (show (0 : Int) ≤ (gI σ39_1 b 6) ∧ (gI σ39_1 b 6) ≤ 64 from ⟨by (first | omega | with_reducible assumption | with_reducible exact rng_toInt _ | with_reducible exact rng_wr _ | (unfold rng; omega) | (unfold rng at *; omega) | assumption), by (first | omega | with_reducible assumption | with_reducible exact rng_toInt _ | with_reducible exact rng_wr _ | (unfold rng; omega) | (unfold rng at *; omega) | assumption)⟩)
                have fσ45_1 : Fx [1, 2, 3, 4, 5, 6, 7, 64, 512, 645, 646, 647, 708, 6464] gr σ σ45_1 := fσ39_1.tr (Sk.fx (by rw [eσ45_1]; exact Sk.pI (by rw [fcdO (mb_10.up xσ39_1) (by decide)]; decide)))
                have wσ45_1 : gI σ45_1 b_10 6 = (gI σ39_1 b 6) := by rw [eσ45_1]; exact up2_s _ _ _ _
                have kp160 : gI σ45_1 D 5 = gI σ39_1 D 5 := by rw [eσ45_1]; exact up2_n _ _ (fun q => absurd q.2 (by decide))
                have kp161 : gI σ45_1 b_10 5 = gI σ39_1 b_10 5 := by rw [eσ45_1]; exact up2_n _ _ (fun q => absurd q.2 (by decide))
                have kp162 : gI σ45_1 b_12 6 = gI σ39_1 b_12 6 := by rw [eσ45_1]; exact up2_n _ _ (fun q => absurd q.1 (kO.ne mb_12 (mb_10.up xσ39_1) (by decide)))
                have kp163 : gI σ45_1 th 12 = gI σ39_1 th 12 := by rw [eσ45_1]; exact up2_n _ _ (fun q => absurd q.2 (by decide))
                have kp164 : gP σ45_1 J 0 = gP σ39_1 J 0 := by rw [eσ45_1]
                have kp165 : gP σ45_1 W 5 = gP σ39_1 W 5 := by rw [eσ45_1]
                have kp166 : gP σ45_1 b_11 v1.toNat = gP σ39_1 b_11 v1.toNat := by rw [eσ45_1]
                have kp167 : gP σ45_1 b_9 ((gI τ32 F v1.toNat) + v3).toNat = gP σ39_1 b_9 ((gI τ32 F v1.toNat) + v3).toNat := by rw [eσ45_1]
                have kp168 : gP σ45_1 th 1 = gP σ39_1 th 1 := by rw [eσ45_1]
                have kp169 : gP σ45_1 th 2 = gP σ39_1 th 2 := by rw [eσ45_1]
                have kp170 : gP σ45_1 th 3 = gP σ39_1 th 3 := by rw [eσ45_1]
                have kp171 : gP σ45_1 th 5 = gP σ39_1 th 5 := by rw [eσ45_1]
                have kp172 : gP σ45_1 th 9 = gP σ39_1 th 9 := by rw [eσ45_1]
                intro σ46_1 eσ46_1
                have xσ46_1 : Ext σ45_1 σ46_1 := by rw [eσ46_1]; exact fun _ h => ⟨h, rfl, rfl⟩
                have iσ46_1 : IV σ46_1 pl gq ci gr nc ot LLt32 Nt32 nut32 := by rw [eσ46_1]; exact iσ45_1.wT (mb_10.up (xσ39_1.trans xσ45_1)) (by decide) (iσ45_1.t7 (knb.up (xσ39_1.trans xσ45_1)))
                have fσ46_1 : Fx [1, 2, 3, 4, 5, 6, 7, 64, 512, 645, 646, 647, 708, 6464] gr σ σ46_1 := fσ45_1.tr (Sk.fx (by rw [eσ46_1]; exact Sk.pJ (by rw [fcdO (mb_10.up (xσ39_1.trans xσ45_1)) (by decide)]; decide)))
                have kp173 : gI σ46_1 D 5 = gI σ45_1 D 5 := by rw [eσ46_1]
                have kp174 : gI σ46_1 b_10 5 = gI σ45_1 b_10 5 := by rw [eσ46_1]
                have kp175 : gI σ46_1 b_10 6 = gI σ45_1 b_10 6 := by rw [eσ46_1]
                have kp176 : gI σ46_1 b_12 6 = gI σ45_1 b_12 6 := by rw [eσ46_1]
                have kp177 : gI σ46_1 th 12 = gI σ45_1 th 12 := by rw [eσ46_1]
                have kp178 : gP σ46_1 J 0 = gP σ45_1 J 0 := by rw [eσ46_1]
                have kp179 : gP σ46_1 W 5 = gP σ45_1 W 5 := by rw [eσ46_1]
                have kp180 : gP σ46_1 b_11 v1.toNat = gP σ45_1 b_11 v1.toNat := by rw [eσ46_1]
                have kp181 : gP σ46_1 b_9 ((gI τ32 F v1.toNat) + v3).toNat = gP σ45_1 b_9 ((gI τ32 F v1.toNat) + v3).toNat := by rw [eσ46_1]
                have kp182 : gP σ46_1 th 1 = gP σ45_1 th 1 := by rw [eσ46_1]
                have kp183 : gP σ46_1 th 2 = gP σ45_1 th 2 := by rw [eσ46_1]
                have kp184 : gP σ46_1 th 3 = gP σ45_1 th 3 := by rw [eσ46_1]
                have kp185 : gP σ46_1 th 5 = gP σ45_1 th 5 := by rw [eσ46_1]
                have kp186 : gP σ46_1 th 9 = gP σ45_1 th 9 := by rw [eσ46_1]
                unfold w_X9_restore_141
                refine ⟨b, eb, fun kk_b_15 => ?_⟩
                obtain ⟨b_15, eb_15, fb_15⟩ := P_10_2 iσ46_1.1 (knb.up (xσ39_1.trans (xσ45_1.trans xσ46_1)))
                have mb_15 : kO σ46_1 b_15 1 := iσ46_1.1.kd (knb.up (xσ39_1.trans (xσ45_1.trans xσ46_1))) rfl eb_15 rfl
                refine i_X9_restoreRecords iσ46_1 (kth.up (xτ32.trans (xσ39_1.trans (xσ45_1.trans xσ46_1)))) eb_15 mb_15 (kp186.trans (kp172.trans (kp127.trans (kp7.trans hj)))) (kJ.up (xτ32.trans (xσ39_1.trans (xσ45_1.trans xσ46_1)))) (by (first | omega | with_reducible assumption | with_reducible exact rng_toInt _ | with_reducible exact rng_wr _ | (unfold rng; omega) | (unfold rng at *; omega) | assumption)) (kp182.trans (kp168.trans (kp123.trans (kp4.trans hw)))) (kW.up (xτ32.trans (xσ39_1.trans (xσ45_1.trans xσ46_1)))) (kp179.trans (kp165.trans (kp121.trans (kp3.trans hWJ)))) (kp185.trans (kp171.trans (kp126.trans (kp6.trans hF)))) (kF.up (xτ32.trans (xσ39_1.trans (xσ45_1.trans xσ46_1)))) gF hP (hl1.fx iσ iσ46_1 GE.rf fσ46_1 (by omega) (by decide)) (hf1.fx kF gF fσ46_1 (by decide)) (by (first | omega | with_reducible assumption | with_reducible exact rng_toInt _ | with_reducible exact rng_wr _ | (unfold rng; omega) | (unfold rng at *; omega) | assumption)) (by (first | omega | with_reducible assumption | with_reducible exact rng_toInt _ | with_reducible exact rng_wr _ | (unfold rng; omega) | (unfold rng at *; omega) | assumption)) (by (first | omega | with_reducible assumption | with_reducible exact rng_toInt _ | with_reducible exact rng_wr _ | (unfold rng; omega) | (unfold rng at *; omega) | assumption)) (by (first | omega | with_reducible assumption | with_reducible exact rng_toInt _ | with_reducible exact rng_wr _ | (unfold rng; omega) | (unfold rng at *; omega) | assumption)) (fun hL => by have z9 := (iσ46_1.ss.2.2.2.2.2.1 b_15 mb_15 hL).2.2.2.2.2.1 (by omega); rw [show ci b_15 / 4 = v1.toNat by omega] at z9; exact z9) (by (first | omega | with_reducible assumption | with_reducible exact rng_toInt _ | with_reducible exact rng_wr _ | (unfold rng; omega) | (unfold rng at *; omega) | assumption)) (by (first | omega | with_reducible assumption | with_reducible exact rng_toInt _ | with_reducible exact rng_wr _ | (unfold rng; omega) | (unfold rng at *; omega) | assumption)) (by (first | omega | with_reducible assumption | with_reducible exact rng_toInt _ | with_reducible exact rng_wr _ | (unfold rng; omega) | (unfold rng at *; omega) | assumption)) (fun σ48_3 LLσ48_3 Nσ48_3 nuσ48_3 _ iσ48_3 cσ48_3 uσ48_3 hσ48_3 pσ48_3 => ?_) (fun σx LLx Nx nux E ix cx ux px => hX σx LLx Nx nux E ix (fσ46_1.tr (cx.mo (by decide))) (nu_τ32.x ux) (by first | exact px | exact ⟨by have := px.1; omega, (Hn.nz hnτ32 (by first | decide | (intro x hx; simp only [List.mem_cons, List.mem_nil_iff, or_false] at hx; omega))).tr px.2.1, px.2.2⟩ | (first | omega | with_reducible assumption | with_reducible exact rng_toInt _ | with_reducible exact rng_wr _ | (unfold rng; omega) | (unfold rng at *; omega) | assumption)))
                intro xσ48_3
                have fσ48_3 : Fx [1, 2, 3, 4, 5, 6, 7, 64, 512, 645, 646, 647, 708, 6464] gr σ σ48_3 := fσ46_1.tr (cσ48_3.mo (by decide))
                have hnσ48_3 : Hn (gD σ) [11, 12] [] gq LL LLσ48_3 N Nσ48_3 := hnτ32.go hσ48_3 (fun d hd => (fσ46_1.1 d hd).1) (by first | decide | exact fun _ h => h | (simp; done) | (intro x hx; simp only [List.mem_cons, List.mem_nil_iff, or_false] at hx ⊢; omega)) (fun d hd => absurd hd (by simp))
                have nσ48_3_3 := hσ48_3.2.2 3 (by first | decide | (simp; done) | (simp only [List.mem_cons, List.mem_nil_iff, or_false, not_or]; omega)) (by first | decide | omega) (by first | decide | omega) (by first | decide | omega)
                have nσ48_3_5 := hσ48_3.2.2 5 (by first | decide | (simp; done) | (simp only [List.mem_cons, List.mem_nil_iff, or_false, not_or]; omega)) (by first | decide | omega) (by first | decide | omega) (by first | decide | omega)
                have nσ48_3_14 := hσ48_3.2.2 14 (by first | decide | (simp; done) | (simp only [List.mem_cons, List.mem_nil_iff, or_false, not_or]; omega)) (by first | decide | omega) (by first | decide | omega) (by first | decide | omega)
                have nσ48_3_44 := hσ48_3.2.2 44 (by first | decide | (simp; done) | (simp only [List.mem_cons, List.mem_nil_iff, or_false, not_or]; omega)) (by first | decide | omega) (by first | decide | omega) (by first | decide | omega)
                have nσ48_3_74 := hσ48_3.2.2 74 (by first | decide | (simp; done) | (simp only [List.mem_cons, List.mem_nil_iff, or_false, not_or]; omega)) (by first | decide | omega) (by first | decide | omega) (by first | decide | omega)
                have nσ48_3_41 := hσ48_3.2.2 41 (by first | decide | (simp; done) | (simp only [List.mem_cons, List.mem_nil_iff, or_false, not_or]; omega)) (by first | decide | omega) (by first | decide | omega) (by first | decide | omega)
                have nσ48_3_42 := hσ48_3.2.2 42 (by first | decide | (simp; done) | (simp only [List.mem_cons, List.mem_nil_iff, or_false, not_or]; omega)) (by first | decide | omega) (by first | decide | omega) (by first | decide | omega)
                have nσ48_3_13 := hσ48_3.2.2 13 (by first | decide | (simp; done) | (simp only [List.mem_cons, List.mem_nil_iff, or_false, not_or]; omega)) (by first | decide | omega) (by first | decide | omega) (by first | decide | omega)
                have nσ48_3_50 := hσ48_3.2.2 50 (by first | decide | (simp; done) | (simp only [List.mem_cons, List.mem_nil_iff, or_false, not_or]; omega)) (by first | decide | omega) (by first | decide | omega) (by first | decide | omega)
                have nu_σ48_3 : NU nu nuσ48_3 := nu_τ32.tr uσ48_3
                have uσ48_3_0 := uσ48_3.1 0 (by decide)
                have uσ48_3_1 := uσ48_3.1 1 (by decide)
                have uσ48_3_2 := uσ48_3.2
                have uσ48_3_5 := uσ48_3.1 5 (by decide)
                have uσ48_3_15 := uσ48_3.1 15 (by decide)
                have uσ48_3_16 := uσ48_3.1 16 (by decide)
                have kp187 : gI σ48_3 D 5 = gI σ46_1 D 5 := (cσ48_3.O (kk_D.up (xσ39_1.trans (xσ45_1.trans xσ46_1))) (by decide)).1
                have kp188 : gI σ48_3 b_10 5 = gI σ46_1 b_10 5 := (cσ48_3.O (mb_10.up (xσ39_1.trans (xσ45_1.trans xσ46_1))) (by decide)).1
                have kp189 : gI σ48_3 b_10 6 = gI σ46_1 b_10 6 := (cσ48_3.O (mb_10.up (xσ39_1.trans (xσ45_1.trans xσ46_1))) (by decide)).1
                have kp190 : gI σ48_3 b_12 6 = gI σ46_1 b_12 6 := (cσ48_3.O (mb_12.up (xσ45_1.trans xσ46_1)) (by decide)).1
                have kp191 : gI σ48_3 th 12 = gI σ46_1 th 12 := (cσ48_3.O (kth.up (xτ32.trans (xσ39_1.trans (xσ45_1.trans xσ46_1)))) (by decide)).1
                have kp192 : gP σ48_3 J 0 = gP σ46_1 J 0 := (cσ48_3.O (kJ.up (xτ32.trans (xσ39_1.trans (xσ45_1.trans xσ46_1)))) (by decide)).2.1
                have kp193 : gP σ48_3 W 5 = gP σ46_1 W 5 := (cσ48_3.O (kW.up (xτ32.trans (xσ39_1.trans (xσ45_1.trans xσ46_1)))) (by decide)).2.1
                have kp194 : gP σ48_3 b 2 = gP σ46_1 b 2 := (cσ48_3.O (knb.up (xσ39_1.trans (xσ45_1.trans xσ46_1))) (by decide)).2.1
                have kp195 : gP σ48_3 b_11 v1.toNat = gP σ46_1 b_11 v1.toNat := (cσ48_3.A (mb_11.up (xσ45_1.trans xσ46_1)) (by decide)).2.1
                have kp196 : gP σ48_3 b_9 ((gI τ32 F v1.toNat) + v3).toNat = gP σ46_1 b_9 ((gI τ32 F v1.toNat) + v3).toNat := (cσ48_3.A (mb_9.up (xσ39_1.trans (xσ45_1.trans xσ46_1))) (by decide)).2.1
                have kp197 : gP σ48_3 th 1 = gP σ46_1 th 1 := (cσ48_3.O (kth.up (xτ32.trans (xσ39_1.trans (xσ45_1.trans xσ46_1)))) (by decide)).2.1
                have kp198 : gP σ48_3 th 2 = gP σ46_1 th 2 := (cσ48_3.O (kth.up (xτ32.trans (xσ39_1.trans (xσ45_1.trans xσ46_1)))) (by decide)).2.1
                have kp199 : gP σ48_3 th 3 = gP σ46_1 th 3 := (cσ48_3.O (kth.up (xτ32.trans (xσ39_1.trans (xσ45_1.trans xσ46_1)))) (by decide)).2.1
                have kp200 : gP σ48_3 th 5 = gP σ46_1 th 5 := (cσ48_3.O (kth.up (xτ32.trans (xσ39_1.trans (xσ45_1.trans xσ46_1)))) (by decide)).2.1
                have kp201 : gP σ48_3 th 9 = gP σ46_1 th 9 := (cσ48_3.O (kth.up (xτ32.trans (xσ39_1.trans (xσ45_1.trans xσ46_1)))) (by decide)).2.1
                obtain ⟨b_16, eb_16, fb_16⟩ := P_10_3 iσ48_3.1 (knb.up (xσ39_1.trans (xσ45_1.trans (xσ46_1.trans xσ48_3))))
                have mb_16 : kO σ48_3 b_16 1 := iσ48_3.1.kd (knb.up (xσ39_1.trans (xσ45_1.trans (xσ46_1.trans xσ48_3)))) rfl eb_16 rfl
                refine i_X9_restoreRecords iσ48_3 (kth.up (xτ32.trans (xσ39_1.trans (xσ45_1.trans (xσ46_1.trans xσ48_3))))) eb_16 mb_16 (kp201.trans (kp186.trans (kp172.trans (kp127.trans (kp7.trans hj))))) (kJ.up (xτ32.trans (xσ39_1.trans (xσ45_1.trans (xσ46_1.trans xσ48_3))))) (by (first | omega | with_reducible assumption | with_reducible exact rng_toInt _ | with_reducible exact rng_wr _ | (unfold rng; omega) | (unfold rng at *; omega) | assumption)) (kp197.trans (kp182.trans (kp168.trans (kp123.trans (kp4.trans hw))))) (kW.up (xτ32.trans (xσ39_1.trans (xσ45_1.trans (xσ46_1.trans xσ48_3))))) (kp193.trans (kp179.trans (kp165.trans (kp121.trans (kp3.trans hWJ))))) (kp200.trans (kp185.trans (kp171.trans (kp126.trans (kp6.trans hF))))) (kF.up (xτ32.trans (xσ39_1.trans (xσ45_1.trans (xσ46_1.trans xσ48_3))))) gF hP (hl1.fx iσ iσ48_3 GE.rf fσ48_3 (by omega) (by decide)) (hf1.fx kF gF fσ48_3 (by decide)) (by (first | omega | with_reducible assumption | with_reducible exact rng_toInt _ | with_reducible exact rng_wr _ | (unfold rng; omega) | (unfold rng at *; omega) | assumption)) (by (first | omega | with_reducible assumption | with_reducible exact rng_toInt _ | with_reducible exact rng_wr _ | (unfold rng; omega) | (unfold rng at *; omega) | assumption)) (by (first | omega | with_reducible assumption | with_reducible exact rng_toInt _ | with_reducible exact rng_wr _ | (unfold rng; omega) | (unfold rng at *; omega) | assumption)) (by (first | omega | with_reducible assumption | with_reducible exact rng_toInt _ | with_reducible exact rng_wr _ | (unfold rng; omega) | (unfold rng at *; omega) | assumption)) (fun hL => by have z9 := (iσ48_3.ss.2.2.2.2.2.1 b_16 mb_16 hL).2.2.2.2.2.1 (by omega); rw [show ci b_16 / 4 = v1.toNat by omega] at z9; exact z9) (by (first | omega | with_reducible assumption | with_reducible exact rng_toInt _ | with_reducible exact rng_wr _ | (unfold rng; omega) | (unfold rng at *; omega) | assumption)) (by (first | omega | with_reducible assumption | with_reducible exact rng_toInt _ | with_reducible exact rng_wr _ | (unfold rng; omega) | (unfold rng at *; omega) | assumption)) (by (first | omega | with_reducible assumption | with_reducible exact rng_toInt _ | with_reducible exact rng_wr _ | (unfold rng; omega) | (unfold rng at *; omega) | assumption)) (fun σ49_3 LLσ49_3 Nσ49_3 nuσ49_3 _ iσ49_3 cσ49_3 uσ49_3 hσ49_3 pσ49_3 => ?_) (fun σx LLx Nx nux E ix cx ux px => hX σx LLx Nx nux E ix (fσ48_3.tr (cx.mo (by decide))) (nu_σ48_3.x ux) (by first | exact px | exact ⟨by have := px.1; omega, (Hn.nz hnσ48_3 (by first | decide | (intro x hx; simp only [List.mem_cons, List.mem_nil_iff, or_false] at hx; omega))).tr px.2.1, px.2.2⟩ | (first | omega | with_reducible assumption | with_reducible exact rng_toInt _ | with_reducible exact rng_wr _ | (unfold rng; omega) | (unfold rng at *; omega) | assumption)))
                intro xσ49_3
                have fσ49_3 : Fx [1, 2, 3, 4, 5, 6, 7, 64, 512, 645, 646, 647, 708, 6464] gr σ σ49_3 := fσ48_3.tr (cσ49_3.mo (by decide))
                have hnσ49_3 : Hn (gD σ) [11, 12] [] gq LL LLσ49_3 N Nσ49_3 := hnσ48_3.go hσ49_3 (fun d hd => (fσ48_3.1 d hd).1) (by first | decide | exact fun _ h => h | (simp; done) | (intro x hx; simp only [List.mem_cons, List.mem_nil_iff, or_false] at hx ⊢; omega)) (fun d hd => absurd hd (by simp))
                have nσ49_3_3 := hσ49_3.2.2 3 (by first | decide | (simp; done) | (simp only [List.mem_cons, List.mem_nil_iff, or_false, not_or]; omega)) (by first | decide | omega) (by first | decide | omega) (by first | decide | omega)
                have nσ49_3_5 := hσ49_3.2.2 5 (by first | decide | (simp; done) | (simp only [List.mem_cons, List.mem_nil_iff, or_false, not_or]; omega)) (by first | decide | omega) (by first | decide | omega) (by first | decide | omega)
                have nσ49_3_14 := hσ49_3.2.2 14 (by first | decide | (simp; done) | (simp only [List.mem_cons, List.mem_nil_iff, or_false, not_or]; omega)) (by first | decide | omega) (by first | decide | omega) (by first | decide | omega)
                have nσ49_3_44 := hσ49_3.2.2 44 (by first | decide | (simp; done) | (simp only [List.mem_cons, List.mem_nil_iff, or_false, not_or]; omega)) (by first | decide | omega) (by first | decide | omega) (by first | decide | omega)
                have nσ49_3_74 := hσ49_3.2.2 74 (by first | decide | (simp; done) | (simp only [List.mem_cons, List.mem_nil_iff, or_false, not_or]; omega)) (by first | decide | omega) (by first | decide | omega) (by first | decide | omega)
                have nσ49_3_41 := hσ49_3.2.2 41 (by first | decide | (simp; done) | (simp only [List.mem_cons, List.mem_nil_iff, or_false, not_or]; omega)) (by first | decide | omega) (by first | decide | omega) (by first | decide | omega)
                have nσ49_3_42 := hσ49_3.2.2 42 (by first | decide | (simp; done) | (simp only [List.mem_cons, List.mem_nil_iff, or_false, not_or]; omega)) (by first | decide | omega) (by first | decide | omega) (by first | decide | omega)
                have nσ49_3_13 := hσ49_3.2.2 13 (by first | decide | (simp; done) | (simp only [List.mem_cons, List.mem_nil_iff, or_false, not_or]; omega)) (by first | decide | omega) (by first | decide | omega) (by first | decide | omega)
                have nσ49_3_50 := hσ49_3.2.2 50 (by first | decide | (simp; done) | (simp only [List.mem_cons, List.mem_nil_iff, or_false, not_or]; omega)) (by first | decide | omega) (by first | decide | omega) (by first | decide | omega)
                have nu_σ49_3 : NU nu nuσ49_3 := nu_σ48_3.tr uσ49_3
                have uσ49_3_0 := uσ49_3.1 0 (by decide)
                have uσ49_3_1 := uσ49_3.1 1 (by decide)
                have uσ49_3_2 := uσ49_3.2
                have uσ49_3_5 := uσ49_3.1 5 (by decide)
                have uσ49_3_15 := uσ49_3.1 15 (by decide)
                have uσ49_3_16 := uσ49_3.1 16 (by decide)
                have kp202 : gI σ49_3 D 5 = gI σ48_3 D 5 := (cσ49_3.O (kk_D.up (xσ39_1.trans (xσ45_1.trans (xσ46_1.trans xσ48_3)))) (by decide)).1
                have kp203 : gI σ49_3 b_10 5 = gI σ48_3 b_10 5 := (cσ49_3.O (mb_10.up (xσ39_1.trans (xσ45_1.trans (xσ46_1.trans xσ48_3)))) (by decide)).1
                have kp204 : gI σ49_3 b_10 6 = gI σ48_3 b_10 6 := (cσ49_3.O (mb_10.up (xσ39_1.trans (xσ45_1.trans (xσ46_1.trans xσ48_3)))) (by decide)).1
                have kp205 : gI σ49_3 b_12 6 = gI σ48_3 b_12 6 := (cσ49_3.O (mb_12.up (xσ45_1.trans (xσ46_1.trans xσ48_3))) (by decide)).1
                have kp206 : gI σ49_3 th 12 = gI σ48_3 th 12 := (cσ49_3.O (kth.up (xτ32.trans (xσ39_1.trans (xσ45_1.trans (xσ46_1.trans xσ48_3))))) (by decide)).1
                have kp207 : gP σ49_3 J 0 = gP σ48_3 J 0 := (cσ49_3.O (kJ.up (xτ32.trans (xσ39_1.trans (xσ45_1.trans (xσ46_1.trans xσ48_3))))) (by decide)).2.1
                have kp208 : gP σ49_3 W 5 = gP σ48_3 W 5 := (cσ49_3.O (kW.up (xτ32.trans (xσ39_1.trans (xσ45_1.trans (xσ46_1.trans xσ48_3))))) (by decide)).2.1
                have kp209 : gP σ49_3 b 2 = gP σ48_3 b 2 := (cσ49_3.O (knb.up (xσ39_1.trans (xσ45_1.trans (xσ46_1.trans xσ48_3)))) (by decide)).2.1
                have kp210 : gP σ49_3 b 3 = gP σ48_3 b 3 := (cσ49_3.O (knb.up (xσ39_1.trans (xσ45_1.trans (xσ46_1.trans xσ48_3)))) (by decide)).2.1
                have kp211 : gP σ49_3 b_11 v1.toNat = gP σ48_3 b_11 v1.toNat := (cσ49_3.A (mb_11.up (xσ45_1.trans (xσ46_1.trans xσ48_3))) (by decide)).2.1
                have kp212 : gP σ49_3 b_9 ((gI τ32 F v1.toNat) + v3).toNat = gP σ48_3 b_9 ((gI τ32 F v1.toNat) + v3).toNat := (cσ49_3.A (mb_9.up (xσ39_1.trans (xσ45_1.trans (xσ46_1.trans xσ48_3)))) (by decide)).2.1
                have kp213 : gP σ49_3 th 1 = gP σ48_3 th 1 := (cσ49_3.O (kth.up (xτ32.trans (xσ39_1.trans (xσ45_1.trans (xσ46_1.trans xσ48_3))))) (by decide)).2.1
                have kp214 : gP σ49_3 th 2 = gP σ48_3 th 2 := (cσ49_3.O (kth.up (xτ32.trans (xσ39_1.trans (xσ45_1.trans (xσ46_1.trans xσ48_3))))) (by decide)).2.1
                have kp215 : gP σ49_3 th 3 = gP σ48_3 th 3 := (cσ49_3.O (kth.up (xτ32.trans (xσ39_1.trans (xσ45_1.trans (xσ46_1.trans xσ48_3))))) (by decide)).2.1
                have kp216 : gP σ49_3 th 5 = gP σ48_3 th 5 := (cσ49_3.O (kth.up (xτ32.trans (xσ39_1.trans (xσ45_1.trans (xσ46_1.trans xσ48_3))))) (by decide)).2.1
                have kp217 : gP σ49_3 th 9 = gP σ48_3 th 9 := (cσ49_3.O (kth.up (xτ32.trans (xσ39_1.trans (xσ45_1.trans (xσ46_1.trans xσ48_3))))) (by decide)).2.1
                unfold w_X9_restore_163
                refine ⟨by (first | omega | with_reducible assumption | with_reducible exact rng_toInt _ | with_reducible exact rng_wr _ | (unfold rng; omega) | (unfold rng at *; omega) | assumption), ?_⟩
                exact ih32 σ49_3 LLσ49_3 Nσ49_3 nuσ49_3 (v3 + 1) iσ49_3 fσ49_3 (xτ32.trans (xσ39_1.trans (xσ45_1.trans (xσ46_1.trans (xσ48_3.trans xσ49_3))))) nu_σ49_3 hnσ49_3 (by (first | omega | with_reducible assumption | with_reducible exact rng_toInt _ | with_reducible exact rng_wr _ | (unfold rng; omega) | (unfold rng at *; omega) | assumption)) (by (first | omega | with_reducible assumption | with_reducible exact rng_toInt _ | with_reducible exact rng_wr _ | (unfold rng; omega) | (unfold rng at *; omega) | assumption))
  exact ⟨_, Lp32 _ σ LL N nu _ iσ fσ (Ext.rfl' _) NU.rf hnσ (by (first | omega | with_reducible assumption | with_reducible exact rng_toInt _ | with_reducible exact rng_wr _ | (unfold rng; omega) | (unfold rng at *; omega) | assumption)) (Nat.lt_succ_self _)⟩
set_option maxHeartbeats 1000000 in
theorem i_X9_restore {σ : Sg} {pl : Nat} {gq ci gr nc : Nat → Nat} {ot : Nat → Nat → Int} {LL : Nat → List Nat} {N nu : Nat → Nat} {th : Nat} {v1 : Int} {J W F P : Nat} (iσ : IV σ pl gq ci gr nc ot LL N nu) (kth : kO σ th 9) (hj : gP σ th 9 = some J) (kJ : kO σ J 4) (hJ : gq J = nc 0) (hw : gP σ th 1 = some W) (kW : kO σ W 11) (hWJ : gP σ W 5 = some J) (hF : gP σ th 5 = some F) (kF : kO σ F 100) (gF : gr F = 3) (hP : 1 ≤ P ∧ P ≤ 4) (hl1 : LT1 σ gq ci nu ot P) (hf1 : FT1 σ F ot P (nc 1 + 1)) (h15 : nu 15 = bsO ot P (nc 1)) (h12 : gI σ th 12 = (P : Int)) (h1 : 0 ≤ v1 ∧ v1 < (nc 1 : Int)) (h5 : nu 5 < 24000) (hb : N 14 + N 44 + N 74 + N 1 ≤ 30000) {Q : Sg → Unit → Prop} {X : Sg → String → Prop} (hQ : ∀ (σ' : Sg) (LL' : Nat → List Nat) (N' nu' : Nat → Nat) (r : Unit), IV σ' pl gq ci gr nc ot LL' N' nu' → Fx [1, 2, 3, 4, 5, 6, 7, 64, 512, 645, 646, 647, 708, 6464] gr σ σ' → NU nu nu' → Hn (gD σ) [11, 12] [] gq LL LL' N N' → (N' 1 = N 1) → Q σ' r) (hX : ∀ (σ' : Sg) (LL' : Nat → List Nat) (N' nu' : Nat → Nat) (E : String), IV σ' pl gq ci gr nc ot LL' N' nu' → Fx [1, 2, 3, 4, 5, 6, 7, 64, 512, 645, 646, 647, 708, 6464] gr σ σ' → NX nu nu' → ((N' 1 ≤ N 1 + 1 ∧ N' 5 = N 5 ∧ N' 3 = N 3 ∧ N' 14 = N 14 ∧ N' 44 = N 44 ∧ N' 74 = N 74) ∧ NZ N N' ∧ E = "java/lang/IllegalStateException") → X σ' E) : wp_X9_restore th v1 σ Q X := by
  have fσ : Fx [1, 2, 3, 4, 5, 6, 7, 64, 512, 645, 646, 647, 708, 6464] gr σ σ := Fx.rf
  have hnσ : Hn (gD σ) [11, 12] [] gq LL LL N N := Hn.rf
  have q1 := I_9_12 iσ.1 kth
  have n16 := iσ.n16
  have ncb := iσ.ncb
  have fW := T_9_1 iσ.1 kth hw
  have b0 := hf1 v1.toNat (by omega)
  have bu := bsO_up (ot := ot) hP v1.toNat
  have bm := bsO_mono (ot := ot) hP (i := v1.toNat + 1) (j := nc 1) (by omega)
  have bl := bsO_le (ot := ot) hP (nc 1)
  have gF8 := (T_9_5 iσ.1 kth hF).1
  unfold wp_X9_restore
  unfold w_X9_restore_0
  refine ⟨J, hj, fun kk_J => ?_⟩
  obtain ⟨b, eb, fb⟩ := P_4_0 iσ.1 kJ
  have mb : kO σ b 115 := iσ.1.kd kJ rfl eb rfl
  refine ⟨b, eb, fun kk_b => ?_⟩
  refine ⟨⟨by (first | omega | with_reducible assumption | with_reducible exact rng_toInt _ | with_reducible exact rng_wr _ | (unfold rng; omega) | (unfold rng at *; omega) | assumption), by (first | omega | with_reducible assumption | with_reducible exact rng_toInt _ | with_reducible exact rng_wr _ | (unfold rng; omega) | (unfold rng at *; omega) | assumption)⟩, ?_⟩
  obtain ⟨b_1, eb_1⟩ := P_115 iσ.1 mb (k := v1.toNat) (by (first | omega | with_reducible assumption | with_reducible exact rng_toInt _ | with_reducible exact rng_wr _ | (unfold rng; omega) | (unfold rng at *; omega) | assumption))
  have fb_1 := T_115 iσ.1 mb eb_1
  have mb_1 : kO σ b_1 5 := iσ.1.kd mb rfl eb_1 rfl
  refine ⟨b_1, eb_1, fun kk_b_1 => ?_⟩
  have q2 := I_5_6 iσ.1 mb_1
  refine i_X12_hasOneTask iσ (fun r30 pσ29 => ?_)
  intro xσ29
  have o6 := iσ.op mb_1 (i := v1.toNat) (by omega) (by omega) 6 (by decide)
  have bq : (bsO ot P (v1.toNat + 1) : Int) = bsO ot P v1.toNat + 1 ∧ r30 = 1 ∨ (bsO ot P (v1.toNat + 1) : Int) = bsO ot P v1.toNat + P ∧ r30 = 0 := by by_cases w9 : ot v1.toNat 6 = 0 ∨ ot v1.toNat 6 = 10 ∨ ot v1.toNat 6 = 11; (left; have := bsO_one (P := P) w9; omega); (right; have := bsO_P (P := P) w9; omega)
  by_cases hc3 : r30 = 0
  · rw [if_pos hc3]
    unfold w_X9_restore_22
    obtain ⟨b_2, eb_2⟩ := P_9_2 iσ.1 kth
    refine ⟨b_2, eb_2, fun kk_b_2 => ?_⟩
    unfold w_X9_restore_29
    exact i_X9_restore_32 (J := J) (W := W) (F := F) (P := P) (D := b_2) iσ kth hj kJ hJ hw kW hWJ hF kF gF hP hl1 hf1 h15 h12 h1 eb_2 (Or.inr ⟨by omega, kk_b_2, rfl⟩) h5 hb hQ hX
  · rw [if_neg hc3]
    unfold w_X9_restore_18
    unfold w_X9_restore_29
    obtain ⟨D, eD⟩ := P_9_2 iσ.1 kth
    exact i_X9_restore_32 (J := J) (W := W) (F := F) (P := P) (D := D) iσ kth hj kJ hJ hw kW hWJ hF kF gF hP hl1 hf1 h15 h12 h1 eD (Or.inl ⟨by omega, rfl⟩) h5 hb hQ hX

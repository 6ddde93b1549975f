set_option maxHeartbeats 1000000 in
theorem i_X12_partOf {σ : Sg} {pl : Nat} {gq ci gr nc : Nat → Nat} {ot : Nat → Nat → Int} {LL : Nat → List Nat} {N nu : Nat → Nat} {v0 : Int64} {v2 : Int} (iσ : IV σ pl gq ci gr nc ot LL N nu) (h2 : 0 ≤ v2 ∧ v2 ≤ 4) {Q : Sg → Int → Prop} {X : Sg → String → Prop} (hQ : ∀ (r : Int), (0 ≤ r ∧ (1 ≤ v2 → r < v2)) → Q σ r) : wp_X12_partOf v0 v2 σ Q X := by
  unfold wp_X12_partOf
  unfold w_X12_partOf_0
  have g9 := grp_b (v0 * (-7046029254386353131)).toUInt64
  have n9 : 0 ≤ (((v0 * (-7046029254386353131)).toUInt64 >>> ((i32 60).toInt64.toUInt64 &&& Int64.toUInt64 63)).toInt64).toInt32.toInt * v2 ∧ (((v0 * (-7046029254386353131)).toUInt64 >>> ((i32 60).toInt64.toUInt64 &&& Int64.toUInt64 63)).toInt64).toInt32.toInt * v2 ≤ 15 * v2 := ⟨Int.mul_nonneg g9.1 h2.1, Int.mul_le_mul_of_nonneg_right g9.2 h2.1⟩
  refine ⟨by (first | omega | with_reducible assumption | with_reducible exact rng_toInt _ | with_reducible exact rng_wr _ | (unfold rng; omega) | (unfold rng at *; omega) | assumption), ?_⟩
  have q1 := divI_b (x := (((((v0 * (-7046029254386353131))).toUInt64 >>> ((i32 60).toInt64.toUInt64 &&& Int64.toUInt64 63)).toInt64).toInt32.toInt * v2)) (y := 16) (by (first | omega | with_reducible assumption | with_reducible exact rng_toInt _ | with_reducible exact rng_wr _ | (unfold rng; omega) | (unfold rng at *; omega) | assumption)) (by (first | omega | with_reducible assumption | with_reducible exact rng_toInt _ | with_reducible exact rng_wr _ | (unfold rng; omega) | (unfold rng at *; omega) | assumption))
  exact hQ (divI (((((v0 * (-7046029254386353131))).toUInt64 >>> ((i32 60).toInt64.toUInt64 &&& Int64.toUInt64 63)).toInt64).toInt32.toInt * v2) 16) (by (first | omega | with_reducible assumption | with_reducible exact rng_toInt _ | with_reducible exact rng_wr _ | (unfold rng; omega) | (unfold rng at *; omega) | assumption))
set_option maxHeartbeats 1000000 in
theorem i_X9_putInBox {σ : Sg} {pl : Nat} {gq ci gr nc : Nat → Nat} {ot : Nat → Nat → Int} {LL : Nat → List Nat} {N nu : Nat → Nat} {th : Nat} {v1 : Option Nat} {v2 : Int} {v3 : Option Nat} (iσ : IV σ pl gq ci gr nc ot LL N nu) (kth : kO σ th 9) {t : Nat} (hv1 : v1 = some t) (kt : kO σ t 10) {c : Nat} (hv3 : v3 = some c) (kc : kO σ c 0) (hf : ∀ x, c ∉ LL x) (h1 : 1 ≤ N 1) (ht : gq t = 1) (hl : ci t < nu 15) (h5 : nu 5 < 24000) (h2 : 0 ≤ v2 ∧ v2 < (nu 16 : Int)) {Q : Sg → Unit → Prop} {X : Sg → String → Prop} (hQ : ∀ (σ' : Sg) (LL' : Nat → List Nat) (N' nu' : Nat → Nat) (r : Unit), IV σ' pl gq ci gr nc ot LL' N' nu' → Fx [1, 3, 64, 512, 590] gr σ σ' → NU nu nu' → Hn (gD σ) [13] [c] gq LL LL' N N' → (N' 1 + 1 = N 1) → Q σ' r) (hX : ∀ (σ' : Sg) (LL' : Nat → List Nat) (N' nu' : Nat → Nat) (E : String), IV σ' pl gq ci gr nc ot LL' N' nu' → Fx [1, 3, 64, 512, 590] gr σ σ' → NX nu nu' → ((N' 1 ≤ N 1 + 0 ∧ N' 5 = N 5 ∧ N' 3 = N 3 ∧ N' 14 = N 14 ∧ N' 44 = N 44 ∧ N' 74 = N 74) ∧ NZ N N' ∧ E = "java/lang/IllegalStateException") → X σ' E) : wp_X9_putInBox th v1 v2 v3 σ Q X := by
  have fσ : Fx [1, 3, 64, 512, 590] gr σ σ := Fx.rf
  have hnσ : Hn (gD σ) [13] [c] gq LL LL N N := Hn.rf
  have lo_c : Lo [c] (gD σ) LL c := Or.inl (by simp)
  have bx := iσ.bx kth
  have n16 := iσ.n16
  unfold wp_X9_putInBox
  unfold w_X9_putInBox_0
  have q2 := I_9_14 iσ.1 kth
  by_cases hc1 : gI σ th 14 < 4000
  · rw [if_pos hc1]
    unfold w_X9_putInBox_18
    refine ⟨by (first | omega | with_reducible assumption | with_reducible exact rng_toInt _ | with_reducible exact rng_wr _ | (unfold rng; omega) | (unfold rng at *; omega) | assumption), ?_⟩
    intro σ7 eσ7
    have xσ7 : Ext σ σ7 := by rw [eσ7]; exact fun _ h => ⟨h, rfl, rfl⟩
    have iσ7 : IV σ7 pl gq ci gr nc ot LL N nu := by rw [eσ7]; exact iσ.boxd kth (by omega) (by omega)
    have fσ7 : Fx [1, 3, 64, 512, 590] gr σ σ7 := fσ.tr (Sk.fx (by rw [eσ7]; exact Sk.pI (by rw [fcdO kth (by decide)]; decide)))
    have wσ7 : gI σ7 th 14 = (gI σ th 14 + 1) := by rw [eσ7]; exact up2_s _ _ _ _
    have kp3 : gI σ7 c 3 = gI σ c 3 := by rw [eσ7]; exact up2_n _ _ (fun q => absurd q.2 (by decide))
    refine ⟨c, hv3, fun kk_c => ?_⟩
    intro σ9 eσ9
    have xσ9 : Ext σ7 σ9 := by rw [eσ9]; exact fun _ h => ⟨h, rfl, rfl⟩
    have iσ9 : IV σ9 pl gq ci gr nc ot LL N nu := by rw [eσ9]; exact iσ7.goal (kc.up xσ7) hf ⟨by omega, by omega⟩
    have fσ9 : Fx [1, 3, 64, 512, 590] gr σ σ9 := fσ7.tr (Sk.fx (by rw [eσ9]; exact Sk.pI (by rw [fcdO (kc.up xσ7) (by decide)]; decide)))
    have wσ9 : gI σ9 c 3 = v2 := by rw [eσ9]; exact up2_s _ _ _ _
    have kp4 : gI σ9 th 14 = gI σ7 th 14 := by rw [eσ9]; exact up2_n _ _ (fun q => absurd q.2 (by decide))
    refine ⟨t, hv1, fun kk_t => ?_⟩
    obtain ⟨b, eb, fb⟩ := P_10_4 iσ9.1 (kt.up (xσ7.trans xσ9))
    have mb : kO σ9 b 1 := iσ9.1.kd (kt.up (xσ7.trans xσ9)) rfl eb rfl
    refine ⟨b, eb, fun kk_b => ?_⟩
    refine i_X1_add (G0 := 13) iσ9 mb hv3 (kc.up (xσ7.trans xσ9)) (by omega) (by (first | omega | with_reducible assumption | with_reducible exact rng_toInt _ | with_reducible exact rng_wr _ | (unfold rng; omega) | (unfold rng at *; omega) | assumption)) (by (first | omega | with_reducible assumption | with_reducible exact rng_toInt _ | with_reducible exact rng_wr _ | (unfold rng; omega) | (unfold rng at *; omega) | assumption)) (plc_n iσ9 (by omega) (by omega)) (no50 (by decide)) (fun _ => ⟨by omega, by omega⟩) (fun N9 n1 n2 => sc_box iσ9 (kth.up (xσ7.trans xσ9)) n1 n2 (by omega)) (fun σ11 LLσ11 Nσ11 nuσ11 _ iσ11 cσ11 uσ11 hσ11 pσ11 => ?_)
    intro xσ11
    have fσ11 : Fx [1, 3, 64, 512, 590] gr σ σ11 := fσ9.tr (cσ11.mo (by decide))
    have hnσ11 : Hn (gD σ) [13] [c] gq LL LLσ11 N Nσ11 := hnσ.go hσ11 (fun d hd => (fσ9.1 d hd).1) (by first | decide | exact fun _ h => h | (simp; done) | (intro x hx; simp only [List.mem_cons, List.mem_nil_iff, or_false] at hx ⊢; omega)) (fun d hd => by rw [List.mem_singleton.mp hd]; exact lo_c)
    have nσ11_3 := hσ11.2.2 3 (by first | decide | (simp; done) | (simp only [List.mem_cons, List.mem_nil_iff, or_false, not_or]; omega)) (by first | decide | omega) (by first | decide | omega) (by first | decide | omega)
    have nσ11_5 := hσ11.2.2 5 (by first | decide | (simp; done) | (simp only [List.mem_cons, List.mem_nil_iff, or_false, not_or]; omega)) (by first | decide | omega) (by first | decide | omega) (by first | decide | omega)
    have nσ11_14 := hσ11.2.2 14 (by first | decide | (simp; done) | (simp only [List.mem_cons, List.mem_nil_iff, or_false, not_or]; omega)) (by first | decide | omega) (by first | decide | omega) (by first | decide | omega)
    have nσ11_44 := hσ11.2.2 44 (by first | decide | (simp; done) | (simp only [List.mem_cons, List.mem_nil_iff, or_false, not_or]; omega)) (by first | decide | omega) (by first | decide | omega) (by first | decide | omega)
    have nσ11_74 := hσ11.2.2 74 (by first | decide | (simp; done) | (simp only [List.mem_cons, List.mem_nil_iff, or_false, not_or]; omega)) (by first | decide | omega) (by first | decide | omega) (by first | decide | omega)
    have nσ11_11 := hσ11.2.2 11 (by first | decide | (simp; done) | (simp only [List.mem_cons, List.mem_nil_iff, or_false, not_or]; omega)) (by first | decide | omega) (by first | decide | omega) (by first | decide | omega)
    have nσ11_12 := hσ11.2.2 12 (by first | decide | (simp; done) | (simp only [List.mem_cons, List.mem_nil_iff, or_false, not_or]; omega)) (by first | decide | omega) (by first | decide | omega) (by first | decide | omega)
    have nσ11_41 := hσ11.2.2 41 (by first | decide | (simp; done) | (simp only [List.mem_cons, List.mem_nil_iff, or_false, not_or]; omega)) (by first | decide | omega) (by first | decide | omega) (by first | decide | omega)
    have nσ11_42 := hσ11.2.2 42 (by first | decide | (simp; done) | (simp only [List.mem_cons, List.mem_nil_iff, or_false, not_or]; omega)) (by first | decide | omega) (by first | decide | omega) (by first | decide | omega)
    have nσ11_50 := hσ11.2.2 50 (by first | decide | (simp; done) | (simp only [List.mem_cons, List.mem_nil_iff, or_false, not_or]; omega)) (by first | decide | omega) (by first | decide | omega) (by first | decide | omega)
    have nu_σ11 : NU nu nuσ11 := uσ11
    have uσ11_0 := uσ11.1 0 (by decide)
    have uσ11_1 := uσ11.1 1 (by decide)
    have uσ11_2 := uσ11.2
    have uσ11_5 := uσ11.1 5 (by decide)
    have uσ11_15 := uσ11.1 15 (by decide)
    have uσ11_16 := uσ11.1 16 (by decide)
    have kp5 : gI σ11 c 3 = gI σ9 c 3 := (cσ11.O (kc.up (xσ7.trans xσ9)) (by decide)).1
    have kp6 : gI σ11 th 14 = gI σ9 th 14 := (cσ11.O (kth.up (xσ7.trans xσ9)) (by decide)).1
    have kp7 : gP σ11 t 4 = gP σ9 t 4 := (cσ11.O (kt.up (xσ7.trans xσ9)) (by decide)).2.1
    exact hQ σ11 LLσ11 Nσ11 nuσ11 () iσ11 fσ11 (nu_σ11) hnσ11 (by (first | omega | with_reducible assumption | with_reducible exact rng_toInt _ | with_reducible exact rng_wr _ | (unfold rng; omega) | (unfold rng at *; omega) | assumption))
  · rw [if_neg hc1]
    unfold w_X9_putInBox_10
    refine ⟨iσ.room, ?_⟩
    exact hX _ _ _ _ _ (iσ.bump (by (first | omega | with_reducible assumption | with_reducible exact rng_toInt _ | with_reducible exact rng_wr _ | (unfold rng; omega) | (unfold rng at *; omega) | assumption))) (fσ.tr Fx.bump) (NX.bump) (by first | exact ⟨by omega, NZ.rf, rfl⟩ | (first | omega | with_reducible assumption | with_reducible exact rng_toInt _ | with_reducible exact rng_wr _ | (unfold rng; omega) | (unfold rng at *; omega) | assumption))
set_option maxHeartbeats 1000000 in
theorem i_X9_sendToAll {σ : Sg} {pl : Nat} {gq ci gr nc : Nat → Nat} {ot : Nat → Nat → Int} {LL : Nat → List Nat} {N nu : Nat → Nat} {th : Nat} {v1 : Option Nat} {v2 : Int} {v3 : Int64} (iσ : IV σ pl gq ci gr nc ot LL N nu) (kth : kO σ th 9) {t : Nat} (hv1 : v1 = some t) (kt : kO σ t 10) (ht : gq t = 1) (hl : ci t < nu 15) (h5 : nu 5 < 24000) (hb : N 14 + N 44 + N 74 + N 1 ≤ 41000) (hr : rng v2) (hv : tb (N 3) v3) {Q : Sg → Unit → Prop} {X : Sg → String → Prop} (hQ : ∀ (σ' : Sg) (LL' : Nat → List Nat) (N' nu' : Nat → Nat) (r : Unit), IV σ' pl gq ci gr nc ot LL' N' nu' → Fx [1, 2, 3, 4, 5, 6, 7, 64, 512, 590] gr σ σ' → NU nu nu' → Hn (gD σ) [13] [] gq LL LL' N N' → (N' 1 = N 1) → Q σ' r) (hX : ∀ (σ' : Sg) (LL' : Nat → List Nat) (N' nu' : Nat → Nat) (E : String), IV σ' pl gq ci gr nc ot LL' N' nu' → Fx [1, 2, 3, 4, 5, 6, 7, 64, 512, 590] gr σ σ' → NX nu nu' → ((N' 1 ≤ N 1 + 1 ∧ N' 5 = N 5 ∧ N' 3 = N 3 ∧ N' 14 = N 14 ∧ N' 44 = N 44 ∧ N' 74 = N 74) ∧ NZ N N' ∧ E = "java/lang/IllegalStateException") → X σ' E) : wp_X9_sendToAll th v1 v2 v3 σ Q X := by
  have fσ : Fx [1, 2, 3, 4, 5, 6, 7, 64, 512, 590] gr σ σ := Fx.rf
  have hnσ : Hn (gD σ) [13] [] gq LL LL N N := Hn.rf
  have n16 := iσ.n16
  unfold wp_X9_sendToAll
  unfold w_X9_sendToAll_0
  refine ⟨t, hv1, fun kk_t => ?_⟩
  have Lp6 : ∀ (fu6 : Nat) (τ6 : Sg) (LLt6 : Nat → List Nat) (Nt6 nut6 : Nat → Nat) (v5 : Int), IV τ6 pl gq ci gr nc ot LLt6 Nt6 nut6 → Fx [1, 2, 3, 4, 5, 6, 7, 64, 512, 590] gr σ τ6 → Ext σ τ6 → NU nu nut6 → Hn (gD σ) [13] [] gq LL LLt6 N Nt6 → ((v5 = -1 ∨ (0 ≤ v5 ∧ v5 < (nu 16 : Int))) ∧ Nt6 1 = N 1) → ((if v5 < 0 then 0 else (516 - v5).toNat)) < fu6 → wl_X9_sendToAll_6 th Q X fu6 τ6 v1 v2 v3 v5 := by
    intro fu6
    induction fu6 with
    | zero => intro _ _ _ _ _ _ _ _ _ _ _ h9; omega
    | succ fu6 ih6 =>
      intro τ6 LLt6 Nt6 nut6 v5 iτ6 fτ6 xτ6 nu_τ6 hnτ6 hi6 hm6
      have nτ6_3 := hnτ6.2.2 3 (by first | decide | (simp; done) | (simp only [List.mem_cons, List.mem_nil_iff, or_false, not_or]; omega)) (by first | decide | omega) (by first | decide | omega) (by first | decide | omega)
      have nτ6_5 := hnτ6.2.2 5 (by first | decide | (simp; done) | (simp only [List.mem_cons, List.mem_nil_iff, or_false, not_or]; omega)) (by first | decide | omega) (by first | decide | omega) (by first | decide | omega)
      have nτ6_14 := hnτ6.2.2 14 (by first | decide | (simp; done) | (simp only [List.mem_cons, List.mem_nil_iff, or_false, not_or]; omega)) (by first | decide | omega) (by first | decide | omega) (by first | decide | omega)
      have nτ6_44 := hnτ6.2.2 44 (by first | decide | (simp; done) | (simp only [List.mem_cons, List.mem_nil_iff, or_false, not_or]; omega)) (by first | decide | omega) (by first | decide | omega) (by first | decide | omega)
      have nτ6_74 := hnτ6.2.2 74 (by first | decide | (simp; done) | (simp only [List.mem_cons, List.mem_nil_iff, or_false, not_or]; omega)) (by first | decide | omega) (by first | decide | omega) (by first | decide | omega)
      have nτ6_11 := hnτ6.2.2 11 (by first | decide | (simp; done) | (simp only [List.mem_cons, List.mem_nil_iff, or_false, not_or]; omega)) (by first | decide | omega) (by first | decide | omega) (by first | decide | omega)
      have nτ6_12 := hnτ6.2.2 12 (by first | decide | (simp; done) | (simp only [List.mem_cons, List.mem_nil_iff, or_false, not_or]; omega)) (by first | decide | omega) (by first | decide | omega) (by first | decide | omega)
      have nτ6_41 := hnτ6.2.2 41 (by first | decide | (simp; done) | (simp only [List.mem_cons, List.mem_nil_iff, or_false, not_or]; omega)) (by first | decide | omega) (by first | decide | omega) (by first | decide | omega)
      have nτ6_42 := hnτ6.2.2 42 (by first | decide | (simp; done) | (simp only [List.mem_cons, List.mem_nil_iff, or_false, not_or]; omega)) (by first | decide | omega) (by first | decide | omega) (by first | decide | omega)
      have nτ6_50 := hnτ6.2.2 50 (by first | decide | (simp; done) | (simp only [List.mem_cons, List.mem_nil_iff, or_false, not_or]; omega)) (by first | decide | omega) (by first | decide | omega) (by first | decide | omega)
      have uτ6_0 := nu_τ6.1 0 (by decide)
      have uτ6_1 := nu_τ6.1 1 (by decide)
      have uτ6_2 := nu_τ6.2
      have uτ6_5 := nu_τ6.1 5 (by decide)
      have uτ6_15 := nu_τ6.1 15 (by decide)
      have uτ6_16 := nu_τ6.1 16 (by decide)
      unfold wl_X9_sendToAll_6
      unfold w_X9_sendToAll_6
      by_cases hc1 : v5 = (-1)
      · rw [if_pos hc1]
        unfold w_X9_sendToAll_57
        exact hQ τ6 LLt6 Nt6 nut6 () iτ6 fτ6 (nu_τ6) hnτ6 (by (first | omega | with_reducible assumption | with_reducible exact rng_toInt _ | with_reducible exact rng_wr _ | (unfold rng; omega) | (unfold rng at *; omega) | assumption))
      · rw [if_neg hc1]
        unfold w_X9_sendToAll_12
        obtain ⟨b, eb⟩ := P_9_0 iτ6.1 (kth.up xτ6)
        refine ⟨b, eb, fun kk_b => ?_⟩
        refine i_X8_fresh iτ6 kk_b (by (first | omega | with_reducible assumption | with_reducible exact rng_toInt _ | with_reducible exact rng_wr _ | (unfold rng; omega) | (unfold rng at *; omega) | assumption)) (fun σ12 LLσ12 Nσ12 nuσ12 c_σ12 iσ12 cσ12 uσ12 hσ12 pσ12 => ?_)
        intro xσ12
        have fσ12 : Fx [1, 2, 3, 4, 5, 6, 7, 64, 512, 590] gr σ σ12 := fτ6.tr (cσ12.mo (by decide))
        have hnσ12 : Hn (gD σ) [13] [] gq LL LLσ12 N Nσ12 := hnτ6.go hσ12 (fun d hd => (fτ6.1 d hd).1) (by first | decide | exact fun _ h => h | (simp; done) | (intro x hx; simp only [List.mem_cons, List.mem_nil_iff, or_false] at hx ⊢; omega)) (fun d hd => absurd hd (by simp))
        have hf_c_σ12 : ∀ x, c_σ12 ∉ LLσ12 x := pσ12.1
        have lo_c_σ12 : Lo [] (gD σ) LL c_σ12 := hnτ6.loc (fun d hd => (fτ6.1 d hd).1) pσ12.2.2.1
        have nσ12_3 := hσ12.2.2 3 (by first | decide | (simp; done) | (simp only [List.mem_cons, List.mem_nil_iff, or_false, not_or]; omega)) (by first | decide | omega) (by first | decide | omega) (by first | decide | omega)
        have nσ12_5 := hσ12.2.2 5 (by first | decide | (simp; done) | (simp only [List.mem_cons, List.mem_nil_iff, or_false, not_or]; omega)) (by first | decide | omega) (by first | decide | omega) (by first | decide | omega)
        have nσ12_14 := hσ12.2.2 14 (by first | decide | (simp; done) | (simp only [List.mem_cons, List.mem_nil_iff, or_false, not_or]; omega)) (by first | decide | omega) (by first | decide | omega) (by first | decide | omega)
        have nσ12_44 := hσ12.2.2 44 (by first | decide | (simp; done) | (simp only [List.mem_cons, List.mem_nil_iff, or_false, not_or]; omega)) (by first | decide | omega) (by first | decide | omega) (by first | decide | omega)
        have nσ12_74 := hσ12.2.2 74 (by first | decide | (simp; done) | (simp only [List.mem_cons, List.mem_nil_iff, or_false, not_or]; omega)) (by first | decide | omega) (by first | decide | omega) (by first | decide | omega)
        have nσ12_11 := hσ12.2.2 11 (by first | decide | (simp; done) | (simp only [List.mem_cons, List.mem_nil_iff, or_false, not_or]; omega)) (by first | decide | omega) (by first | decide | omega) (by first | decide | omega)
        have nσ12_12 := hσ12.2.2 12 (by first | decide | (simp; done) | (simp only [List.mem_cons, List.mem_nil_iff, or_false, not_or]; omega)) (by first | decide | omega) (by first | decide | omega) (by first | decide | omega)
        have nσ12_41 := hσ12.2.2 41 (by first | decide | (simp; done) | (simp only [List.mem_cons, List.mem_nil_iff, or_false, not_or]; omega)) (by first | decide | omega) (by first | decide | omega) (by first | decide | omega)
        have nσ12_42 := hσ12.2.2 42 (by first | decide | (simp; done) | (simp only [List.mem_cons, List.mem_nil_iff, or_false, not_or]; omega)) (by first | decide | omega) (by first | decide | omega) (by first | decide | omega)
        have nσ12_13 := hσ12.2.2 13 (by first | decide | (simp; done) | (simp only [List.mem_cons, List.mem_nil_iff, or_false, not_or]; omega)) (by first | decide | omega) (by first | decide | omega) (by first | decide | omega)
        have nσ12_50 := hσ12.2.2 50 (by first | decide | (simp; done) | (simp only [List.mem_cons, List.mem_nil_iff, or_false, not_or]; omega)) (by first | decide | omega) (by first | decide | omega) (by first | decide | omega)
        have nu_σ12 : NU nu nuσ12 := nu_τ6.tr uσ12
        have uσ12_0 := uσ12.1 0 (by decide)
        have uσ12_1 := uσ12.1 1 (by decide)
        have uσ12_2 := uσ12.2
        have uσ12_5 := uσ12.1 5 (by decide)
        have uσ12_15 := uσ12.1 15 (by decide)
        have uσ12_16 := uσ12.1 16 (by decide)
        have kp2 : gP σ12 th 0 = gP τ6 th 0 := (cσ12.O (kth.up xτ6) (by decide)).2.1
        intro tyt
        have krc_σ12 : kO σ12 c_σ12 0 := tyt c_σ12 rfl
        refine ⟨c_σ12, rfl, fun kk_c_σ12 => ?_⟩
        intro σ16 eσ16
        have xσ16 : Ext σ12 σ16 := by rw [eσ16]; exact fun _ h => ⟨h, rfl, rfl⟩
        have iσ16 : IV σ16 pl gq ci gr nc ot LLσ12 Nσ12 nuσ12 := by rw [eσ16]; exact iσ12.wO krc_σ12 (by decide) (rngb (by first | exact rng_wr _ | (first | omega | with_reducible assumption | with_reducible exact rng_toInt _ | with_reducible exact rng_wr _ | (unfold rng; omega) | (unfold rng at *; omega) | assumption)))
        have fσ16 : Fx [1, 2, 3, 4, 5, 6, 7, 64, 512, 590] gr σ σ16 := fσ12.tr (Sk.fx (by rw [eσ16]; exact Sk.pI (by rw [fcdO krc_σ12 (by decide)]; decide)))
        have wσ16 : gI σ16 c_σ12 2 = v2 := by rw [eσ16]; exact up2_s _ _ _ _
        have kp3 : gP σ16 th 0 = gP σ12 th 0 := by rw [eσ16]
        intro σ17 eσ17
        have xσ17 : Ext σ16 σ17 := by rw [eσ17]; exact fun _ h => ⟨h, rfl, rfl⟩
        have iσ17 : IV σ17 pl gq ci gr nc ot LLσ12 Nσ12 nuσ12 := by rw [eσ17]; exact iσ16.wT (krc_σ12.up xσ16) (by decide) (by have q9 := hv; unfold tb at q9 ⊢; omega)
        have fσ17 : Fx [1, 2, 3, 4, 5, 6, 7, 64, 512, 590] gr σ σ17 := fσ16.tr (Sk.fx (by rw [eσ17]; exact Sk.pJ (by rw [fcdO (krc_σ12.up xσ16) (by decide)]; decide)))
        have kp4 : gI σ17 c_σ12 2 = gI σ16 c_σ12 2 := by rw [eσ17]
        have kp5 : gP σ17 th 0 = gP σ16 th 0 := by rw [eσ17]
        refine i_X9_putInBox iσ17 (kth.up (xτ6.trans (xσ12.trans (xσ16.trans xσ17)))) hv1 (kt.up (xτ6.trans (xσ12.trans (xσ16.trans xσ17)))) rfl (krc_σ12.up (xσ16.trans xσ17)) (by (first | omega | with_reducible assumption | with_reducible exact rng_toInt _ | with_reducible exact rng_wr _ | (unfold rng; omega) | (unfold rng at *; omega) | assumption)) (by (first | omega | with_reducible assumption | with_reducible exact rng_toInt _ | with_reducible exact rng_wr _ | (unfold rng; omega) | (unfold rng at *; omega) | assumption)) (by (first | omega | with_reducible assumption | with_reducible exact rng_toInt _ | with_reducible exact rng_wr _ | (unfold rng; omega) | (unfold rng at *; omega) | assumption)) (by (first | omega | with_reducible assumption | with_reducible exact rng_toInt _ | with_reducible exact rng_wr _ | (unfold rng; omega) | (unfold rng at *; omega) | assumption)) (by (first | omega | with_reducible assumption | with_reducible exact rng_toInt _ | with_reducible exact rng_wr _ | (unfold rng; omega) | (unfold rng at *; omega) | assumption)) (by (first | omega | with_reducible assumption | with_reducible exact rng_toInt _ | with_reducible exact rng_wr _ | (unfold rng; omega) | (unfold rng at *; omega) | assumption)) (fun σ18 LLσ18 Nσ18 nuσ18 _ iσ18 cσ18 uσ18 hσ18 pσ18 => ?_) (fun σx LLx Nx nux E ix cx ux px => hX σx LLx Nx nux E ix (fσ17.tr (cx.mo (by decide))) (nu_σ12.x ux) (by first | exact px | exact ⟨by have := px.1; omega, (Hn.nz hnσ12 (by first | decide | (intro x hx; simp only [List.mem_cons, List.mem_nil_iff, or_false] at hx; omega))).tr px.2.1, px.2.2⟩ | (first | omega | with_reducible assumption | with_reducible exact rng_toInt _ | with_reducible exact rng_wr _ | (unfold rng; omega) | (unfold rng at *; omega) | assumption)))
        intro xσ18
        have fσ18 : Fx [1, 2, 3, 4, 5, 6, 7, 64, 512, 590] gr σ σ18 := fσ17.tr (cσ18.mo (by decide))
        have hnσ18 : Hn (gD σ) [13] [] gq LL LLσ18 N Nσ18 := hnσ12.go hσ18 (fun d hd => (fσ17.1 d hd).1) (by first | decide | exact fun _ h => h | (simp; done) | (intro x hx; simp only [List.mem_cons, List.mem_nil_iff, or_false] at hx ⊢; omega)) (fun d hd => by rw [List.mem_singleton.mp hd]; exact lo_c_σ12)
        have nσ18_3 := hσ18.2.2 3 (by first | decide | (simp; done) | (simp only [List.mem_cons, List.mem_nil_iff, or_false, not_or]; omega)) (by first | decide | omega) (by first | decide | omega) (by first | decide | omega)
        have nσ18_5 := hσ18.2.2 5 (by first | decide | (simp; done) | (simp only [List.mem_cons, List.mem_nil_iff, or_false, not_or]; omega)) (by first | decide | omega) (by first | decide | omega) (by first | decide | omega)
        have nσ18_14 := hσ18.2.2 14 (by first | decide | (simp; done) | (simp only [List.mem_cons, List.mem_nil_iff, or_false, not_or]; omega)) (by first | decide | omega) (by first | decide | omega) (by first | decide | omega)
        have nσ18_44 := hσ18.2.2 44 (by first | decide | (simp; done) | (simp only [List.mem_cons, List.mem_nil_iff, or_false, not_or]; omega)) (by first | decide | omega) (by first | decide | omega) (by first | decide | omega)
        have nσ18_74 := hσ18.2.2 74 (by first | decide | (simp; done) | (simp only [List.mem_cons, List.mem_nil_iff, or_false, not_or]; omega)) (by first | decide | omega) (by first | decide | omega) (by first | decide | omega)
        have nσ18_11 := hσ18.2.2 11 (by first | decide | (simp; done) | (simp only [List.mem_cons, List.mem_nil_iff, or_false, not_or]; omega)) (by first | decide | omega) (by first | decide | omega) (by first | decide | omega)
        have nσ18_12 := hσ18.2.2 12 (by first | decide | (simp; done) | (simp only [List.mem_cons, List.mem_nil_iff, or_false, not_or]; omega)) (by first | decide | omega) (by first | decide | omega) (by first | decide | omega)
        have nσ18_41 := hσ18.2.2 41 (by first | decide | (simp; done) | (simp only [List.mem_cons, List.mem_nil_iff, or_false, not_or]; omega)) (by first | decide | omega) (by first | decide | omega) (by first | decide | omega)
        have nσ18_42 := hσ18.2.2 42 (by first | decide | (simp; done) | (simp only [List.mem_cons, List.mem_nil_iff, or_false, not_or]; omega)) (by first | decide | omega) (by first | decide | omega) (by first | decide | omega)
        have nσ18_50 := hσ18.2.2 50 (by first | decide | (simp; done) | (simp only [List.mem_cons, List.mem_nil_iff, or_false, not_or]; omega)) (by first | decide | omega) (by first | decide | omega) (by first | decide | omega)
        have nu_σ18 : NU nu nuσ18 := nu_σ12.tr uσ18
        have uσ18_0 := uσ18.1 0 (by decide)
        have uσ18_1 := uσ18.1 1 (by decide)
        have uσ18_2 := uσ18.2
        have uσ18_5 := uσ18.1 5 (by decide)
        have uσ18_15 := uσ18.1 15 (by decide)
        have uσ18_16 := uσ18.1 16 (by decide)
        have kp6 : gI σ18 c_σ12 2 = gI σ17 c_σ12 2 := (cσ18.O (krc_σ12.up (xσ16.trans xσ17)) (by decide)).1
        have kp7 : gP σ18 th 0 = gP σ17 th 0 := (cσ18.O (kth.up (xτ6.trans (xσ12.trans (xσ16.trans xσ17)))) (by decide)).2.1
        obtain ⟨b_1, eb_1, fb_1⟩ := P_9_4 iσ18.1 (kth.up (xτ6.trans (xσ12.trans (xσ16.trans (xσ17.trans xσ18)))))
        have mb_1 : kO σ18 b_1 112 := iσ18.1.kd (kth.up (xτ6.trans (xσ12.trans (xσ16.trans (xσ17.trans xσ18))))) rfl eb_1 rfl
        refine ⟨b_1, eb_1, fun kk_b_1 => ?_⟩
        refine ⟨⟨by (first | omega | with_reducible assumption | with_reducible exact rng_toInt _ | with_reducible exact rng_wr _ | (unfold rng; omega) | (unfold rng at *; omega) | assumption), by (first | omega | with_reducible assumption | with_reducible exact rng_toInt _ | with_reducible exact rng_wr _ | (unfold rng; omega) | (unfold rng at *; omega) | assumption)⟩, ?_⟩
        have n16b_2 := iσ18.n16
        obtain ⟨b_2, eb_2, mb_2, fb_2⟩ := P_112 iσ18 mb_1 (k := v5.toNat) (by (first | omega | with_reducible assumption | with_reducible exact rng_toInt _ | with_reducible exact rng_wr _ | (unfold rng; omega) | (unfold rng at *; omega) | assumption))
        refine ⟨b_2, eb_2, fun kk_b_2 => ?_⟩
        have q8 := iσ18.chr mb_2 (by (first | omega | with_reducible assumption | with_reducible exact rng_toInt _ | with_reducible exact rng_wr _ | (unfold rng; omega) | (unfold rng at *; omega) | assumption))
        exact ih6 σ18 LLσ18 Nσ18 nuσ18 (gI σ18 b_2 7) iσ18 fσ18 (xτ6.trans (xσ12.trans (xσ16.trans (xσ17.trans xσ18)))) nu_σ18 hnσ18 (by (first | omega | with_reducible assumption | with_reducible exact rng_toInt _ | with_reducible exact rng_wr _ | (unfold rng; omega) | (unfold rng at *; omega) | assumption)) (by (repeat' split at hm6) <;> (repeat' split) <;> omega)
  have q9 := iσ.tkr kt (by omega) (by omega)
  have q10 := iσ.rg t 14; unfold rng at q10
  exact ⟨_, Lp6 _ σ LL N nu _ iσ fσ (Ext.rfl' _) NU.rf hnσ (by omega) (Nat.lt_succ_self _)⟩
set_option maxHeartbeats 1000000 in
theorem i_X9_isFor {σ : Sg} {pl : Nat} {gq ci gr nc : Nat → Nat} {ot : Nat → Nat → Int} {LL : Nat → List Nat} {N nu : Nat → Nat} {th : Nat} {v1 : Option Nat} {v2 : Option Nat} {v3 : Option Nat} {J : Nat} (iσ : IV σ pl gq ci gr nc ot LL N nu) (kth : kO σ th 9) {ch : Nat} (hv1 : v1 = some ch) (kch : kO σ ch 2) {t : Nat} (hv2 : v2 = some t) (kt : kO σ t 10) {c : Nat} (hv3 : v3 = some c) (kc : kO σ c 0) (hc : ci ch < nu 16) (hp : 1 ≤ gI σ th 12) (hj : gP σ th 9 = some J) (kJ : kO σ J 4) (hJ : gq J = nc 0) {Q : Sg → Int → Prop} {X : Sg → String → Prop} (hQ : ∀ (r : Int), (r = 0 ∨ r = 1) → Q σ r) : wp_X9_isFor th v1 v2 v3 σ Q X := by
  have q1 := I_9_12 iσ.1 kth
  have n16 := iσ.n16
  unfold wp_X9_isFor
  unfold w_X9_isFor_0
  refine ⟨ch, hv1, fun kk_ch => ?_⟩
  obtain ⟨b, eb, fb⟩ := P_9_3 iσ.1 kth
  have mb : kO σ b 120 := iσ.1.kd kth rfl eb rfl
  refine ⟨b, eb, fun kk_b => ?_⟩
  have q2 := iσ.chr kch (by (first | omega | with_reducible assumption | with_reducible exact rng_toInt _ | with_reducible exact rng_wr _ | (unfold rng; omega) | (unfold rng at *; omega) | assumption))
  refine ⟨⟨by (first | omega | with_reducible assumption | with_reducible exact rng_toInt _ | with_reducible exact rng_wr _ | (unfold rng; omega) | (unfold rng at *; omega) | assumption), by (first | omega | with_reducible assumption | with_reducible exact rng_toInt _ | with_reducible exact rng_wr _ | (unfold rng; omega) | (unfold rng at *; omega) | assumption)⟩, ?_⟩
  refine ⟨J, hj, fun kk_J => ?_⟩
  have n16b_1 := iσ.n16
  obtain ⟨b_1, eb_1, mb_1, fb_1⟩ := P_120 iσ mb (by omega) (k := (gI σ ch 2).toNat) (by (first | omega | with_reducible assumption | with_reducible exact rng_toInt _ | with_reducible exact rng_wr _ | (unfold rng; omega) | (unfold rng at *; omega) | assumption))
  refine ⟨b_1, eb_1, fun kk_b_1 => ?_⟩
  obtain ⟨b_2, eb_2, fb_2⟩ := P_4_0 iσ.1 kJ
  have mb_2 : kO σ b_2 115 := iσ.1.kd kJ rfl eb_2 rfl
  refine ⟨b_2, eb_2, fun kk_b_2 => ?_⟩
  have q3 := I_10_0 iσ.1 mb_1
  refine ⟨⟨by (first | omega | with_reducible assumption | with_reducible exact rng_toInt _ | with_reducible exact rng_wr _ | (unfold rng; omega) | (unfold rng at *; omega) | assumption), by (first | omega | with_reducible assumption | with_reducible exact rng_toInt _ | with_reducible exact rng_wr _ | (unfold rng; omega) | (unfold rng at *; omega) | assumption)⟩, ?_⟩
  obtain ⟨b_3, eb_3⟩ := P_115 iσ.1 mb_2 (k := (gI σ b_1 0).toNat) (by (first | omega | with_reducible assumption | with_reducible exact rng_toInt _ | with_reducible exact rng_wr _ | (unfold rng; omega) | (unfold rng at *; omega) | assumption))
  have fb_3 := T_115 iσ.1 mb_2 eb_3
  have mb_3 : kO σ b_3 5 := iσ.1.kd mb_2 rfl eb_3 rfl
  refine ⟨b_3, eb_3, fun kk_b_3 => ?_⟩
  have q4 := I_5_6 iσ.1 mb_3
  refine i_X12_isKeyed iσ (fun r35 pσ34 => ?_)
  intro xσ34
  by_cases hc5 : r35 = 0
  · rw [if_pos hc5]
    unfold w_X9_isFor_83
    refine ⟨J, hj, fun kk_J_1 => ?_⟩
    refine ⟨t, hv2, fun kk_t => ?_⟩
    refine ⟨b_2, eb_2, fun kk_b_2_1 => ?_⟩
    have q6 := I_10_0 iσ.1 kt
    refine ⟨⟨by (first | omega | with_reducible assumption | with_reducible exact rng_toInt _ | with_reducible exact rng_wr _ | (unfold rng; omega) | (unfold rng at *; omega) | assumption), by (first | omega | with_reducible assumption | with_reducible exact rng_toInt _ | with_reducible exact rng_wr _ | (unfold rng; omega) | (unfold rng at *; omega) | assumption)⟩, ?_⟩
    obtain ⟨b_4, eb_4⟩ := P_115 iσ.1 mb_2 (k := (gI σ t 0).toNat) (by (first | omega | with_reducible assumption | with_reducible exact rng_toInt _ | with_reducible exact rng_wr _ | (unfold rng; omega) | (unfold rng at *; omega) | assumption))
    have fb_4 := T_115 iσ.1 mb_2 eb_4
    have mb_4 : kO σ b_4 5 := iσ.1.kd mb_2 rfl eb_4 rfl
    refine ⟨b_4, eb_4, fun kk_b_4 => ?_⟩
    have q7 := I_5_6 iσ.1 mb_4
    refine i_X12_hasOneTask iσ (fun r49 pσ48 => ?_)
    intro xσ48
    by_cases hc8 : r49 = 0
    · rw [if_pos hc8]
      unfold w_X9_isFor_119
      unfold w_X9_isFor_120
      rw [if_pos (by decide)]
      unfold w_X9_isFor_144
      unfold w_X9_isFor_149
      refine ⟨by (first | omega | with_reducible assumption | with_reducible exact rng_toInt _ | with_reducible exact rng_wr _ | (unfold rng; omega) | (unfold rng at *; omega) | assumption), ?_⟩
      exact hQ 1 (by (first | omega | with_reducible assumption | with_reducible exact rng_toInt _ | with_reducible exact rng_wr _ | (unfold rng; omega) | (unfold rng at *; omega) | assumption))
    · rw [if_neg hc8]
      unfold w_X9_isFor_104
      refine ⟨b_3, eb_3, fun kk_b_3_1 => ?_⟩
      refine i_X12_hasOneTask iσ (fun r52 pσ51 => ?_)
      intro xσ51
      by_cases hc10 : r52 ≠ 0
      · rw [if_pos hc10]
        unfold w_X9_isFor_119
        unfold w_X9_isFor_120
        rw [if_pos (by decide)]
        unfold w_X9_isFor_144
        unfold w_X9_isFor_149
        refine ⟨by (first | omega | with_reducible assumption | with_reducible exact rng_toInt _ | with_reducible exact rng_wr _ | (unfold rng; omega) | (unfold rng at *; omega) | assumption), ?_⟩
        exact hQ 1 (by (first | omega | with_reducible assumption | with_reducible exact rng_toInt _ | with_reducible exact rng_wr _ | (unfold rng; omega) | (unfold rng at *; omega) | assumption))
      · rw [if_neg hc10]
        have hc10q := Classical.not_not.mp hc10
        unfold w_X9_isFor_115
        unfold w_X9_isFor_120
        rw [if_neg (by decide)]
        unfold w_X9_isFor_127
        refine ⟨t, hv2, fun kk_t_1 => ?_⟩
        refine ⟨by (first | omega | with_reducible assumption | with_reducible exact rng_toInt _ | with_reducible exact rng_wr _ | (unfold rng; omega) | (unfold rng at *; omega) | assumption), ?_⟩
        refine ⟨b_1, eb_1, fun kk_b_1_1 => ?_⟩
        have q15 := iσ.rg t 9; unfold rng at q15
        have q16 := I_10_1 iσ.1 mb_1
        by_cases hc13 : (remI (gI σ t 9) (gI σ th 12)) ≠ gI σ b_1 1
        · rw [if_pos hc13]
          unfold w_X9_isFor_148
          unfold w_X9_isFor_149
          refine ⟨by (first | omega | with_reducible assumption | with_reducible exact rng_toInt _ | with_reducible exact rng_wr _ | (unfold rng; omega) | (unfold rng at *; omega) | assumption), ?_⟩
          exact hQ 0 (by (first | omega | with_reducible assumption | with_reducible exact rng_toInt _ | with_reducible exact rng_wr _ | (unfold rng; omega) | (unfold rng at *; omega) | assumption))
        · rw [if_neg hc13]
          have hc13q := Classical.not_not.mp hc13
          unfold w_X9_isFor_144
          unfold w_X9_isFor_149
          refine ⟨by (first | omega | with_reducible assumption | with_reducible exact rng_toInt _ | with_reducible exact rng_wr _ | (unfold rng; omega) | (unfold rng at *; omega) | assumption), ?_⟩
          exact hQ 1 (by (first | omega | with_reducible assumption | with_reducible exact rng_toInt _ | with_reducible exact rng_wr _ | (unfold rng; omega) | (unfold rng at *; omega) | assumption))
  · rw [if_neg hc5]
    unfold w_X9_isFor_37
    refine ⟨c, hv3, fun kk_c => ?_⟩
    refine ⟨ch, hv1, fun kk_ch_1 => ?_⟩
    have q18 := iσ.rg ch 3; unfold rng at q18
    by_cases hc17 : gI σ ch 3 ≠ 0
    · rw [if_pos hc17]
      unfold w_X9_isFor_56
      refine ⟨b_3, eb_3, fun kk_b_3_2 => ?_⟩
      unfold w_X9_isFor_61
      obtain ⟨b_5, eb_5, fb_5⟩ := P_0_0 iσ.1 kc
      have mb_5 : kO σ b_5 101 := iσ.1.kd kc rfl eb_5 rfl
      refine ⟨b_5, eb_5, fun kk_b_5 => ?_⟩
      have q19 := I_5_14 iσ.1 mb_3
      refine ⟨⟨by (first | omega | with_reducible assumption | with_reducible exact rng_toInt _ | with_reducible exact rng_wr _ | (unfold rng; omega) | (unfold rng at *; omega) | assumption), by (first | omega | with_reducible assumption | with_reducible exact rng_toInt _ | with_reducible exact rng_wr _ | (unfold rng; omega) | (unfold rng at *; omega) | assumption)⟩, ?_⟩
      refine i_X12_partOf iσ (by (first | omega | with_reducible assumption | with_reducible exact rng_toInt _ | with_reducible exact rng_wr _ | (unfold rng; omega) | (unfold rng at *; omega) | assumption)) (fun r41 pσ40 => ?_)
      intro xσ40
      refine ⟨b_1, eb_1, fun kk_b_1_2 => ?_⟩
      have q21 := I_10_1 iσ.1 mb_1
      by_cases hc20 : r41 ≠ gI σ b_1 1
      · rw [if_pos hc20]
        unfold w_X9_isFor_81
        unfold w_X9_isFor_82
        refine ⟨by (first | omega | with_reducible assumption | with_reducible exact rng_toInt _ | with_reducible exact rng_wr _ | (unfold rng; omega) | (unfold rng at *; omega) | assumption), ?_⟩
        exact hQ 0 (by (first | omega | with_reducible assumption | with_reducible exact rng_toInt _ | with_reducible exact rng_wr _ | (unfold rng; omega) | (unfold rng at *; omega) | assumption))
      · rw [if_neg hc20]
        have hc20q := Classical.not_not.mp hc20
        unfold w_X9_isFor_77
        unfold w_X9_isFor_82
        refine ⟨by (first | omega | with_reducible assumption | with_reducible exact rng_toInt _ | with_reducible exact rng_wr _ | (unfold rng; omega) | (unfold rng at *; omega) | assumption), ?_⟩
        exact hQ 1 (by (first | omega | with_reducible assumption | with_reducible exact rng_toInt _ | with_reducible exact rng_wr _ | (unfold rng; omega) | (unfold rng at *; omega) | assumption))
    · rw [if_neg hc17]
      have hc17q := Classical.not_not.mp hc17
      unfold w_X9_isFor_48
      refine ⟨b_3, eb_3, fun kk_b_3_3 => ?_⟩
      unfold w_X9_isFor_61
      obtain ⟨b_6, eb_6, fb_6⟩ := P_0_0 iσ.1 kc
      have mb_6 : kO σ b_6 101 := iσ.1.kd kc rfl eb_6 rfl
      refine ⟨b_6, eb_6, fun kk_b_6 => ?_⟩
      have q22 := I_5_13 iσ.1 mb_3
      refine ⟨⟨by (first | omega | with_reducible assumption | with_reducible exact rng_toInt _ | with_reducible exact rng_wr _ | (unfold rng; omega) | (unfold rng at *; omega) | assumption), by (first | omega | with_reducible assumption | with_reducible exact rng_toInt _ | with_reducible exact rng_wr _ | (unfold rng; omega) | (unfold rng at *; omega) | assumption)⟩, ?_⟩
      refine i_X12_partOf iσ (by (first | omega | with_reducible assumption | with_reducible exact rng_toInt _ | with_reducible exact rng_wr _ | (unfold rng; omega) | (unfold rng at *; omega) | assumption)) (fun r41_1 pσ40_1 => ?_)
      intro xσ40_1
      refine ⟨b_1, eb_1, fun kk_b_1_3 => ?_⟩
      have q24 := I_10_1 iσ.1 mb_1
      by_cases hc23 : r41_1 ≠ gI σ b_1 1
      · rw [if_pos hc23]
        unfold w_X9_isFor_81
        unfold w_X9_isFor_82
        refine ⟨by (first | omega | with_reducible assumption | with_reducible exact rng_toInt _ | with_reducible exact rng_wr _ | (unfold rng; omega) | (unfold rng at *; omega) | assumption), ?_⟩
        exact hQ 0 (by (first | omega | with_reducible assumption | with_reducible exact rng_toInt _ | with_reducible exact rng_wr _ | (unfold rng; omega) | (unfold rng at *; omega) | assumption))
      · rw [if_neg hc23]
        have hc23q := Classical.not_not.mp hc23
        unfold w_X9_isFor_77
        unfold w_X9_isFor_82
        refine ⟨by (first | omega | with_reducible assumption | with_reducible exact rng_toInt _ | with_reducible exact rng_wr _ | (unfold rng; omega) | (unfold rng at *; omega) | assumption), ?_⟩
        exact hQ 1 (by (first | omega | with_reducible assumption | with_reducible exact rng_toInt _ | with_reducible exact rng_wr _ | (unfold rng; omega) | (unfold rng at *; omega) | assumption))
set_option maxHeartbeats 1000000 in
theorem i_X9_sendRow {σ : Sg} {pl : Nat} {gq ci gr nc : Nat → Nat} {ot : Nat → Nat → Int} {LL : Nat → List Nat} {N nu : Nat → Nat} {th : Nat} {v1 : Option Nat} {v2 : Option Nat} {J : Nat} (iσ : IV σ pl gq ci gr nc ot LL N nu) (kth : kO σ th 9) {t : Nat} (hv1 : v1 = some t) (kt : kO σ t 10) {c : Nat} (hv2 : v2 = some c) (kc : kO σ c 0) (hf : ∀ x, c ∉ LL x) (h1 : 1 ≤ N 1) (ht : gq t = 1) (hl : ci t < nu 15) (hj : gP σ th 9 = some J) (kJ : kO σ J 4) (hJ : gq J = nc 0) (hp : 1 ≤ gI σ th 12) (h5 : nu 5 < 24000) (hb : N 14 + N 44 + N 74 + N 1 ≤ 40990) {Q : Sg → Unit → Prop} {X : Sg → String → Prop} (hQ : ∀ (σ' : Sg) (LL' : Nat → List Nat) (N' nu' : Nat → Nat) (r : Unit), IV σ' pl gq ci gr nc ot LL' N' nu' → Fx [1, 2, 3, 4, 5, 6, 7, 64, 512, 590, 649, 6464] gr σ σ' → NU nu nu' → Hn (gD σ) [13] [c] gq LL LL' N N' → (N' 1 + 1 = N 1) → Q σ' r) (hX : ∀ (σ' : Sg) (LL' : Nat → List Nat) (N' nu' : Nat → Nat) (E : String), IV σ' pl gq ci gr nc ot LL' N' nu' → Fx [1, 2, 3, 4, 5, 6, 7, 64, 512, 590, 649, 6464] gr σ σ' → NX nu nu' → ((N' 1 ≤ N 1 + 1 ∧ N' 5 = N 5 ∧ N' 3 = N 3 ∧ N' 44 = N 44 ∧ N' 74 = N 74) ∧ NZ N N' ∧ E = "java/lang/IllegalStateException") → X σ' E) : wp_X9_sendRow th v1 v2 σ Q X := by
  have fσ : Fx [1, 2, 3, 4, 5, 6, 7, 64, 512, 590, 649, 6464] gr σ σ := Fx.rf
  have hnσ : Hn (gD σ) [13] [c] gq LL LL N N := Hn.rf
  have lo_c : Lo [c] (gD σ) LL c := Or.inl (by simp)
  have q1 := I_9_12 iσ.1 kth
  have n16 := iσ.n16
  unfold wp_X9_sendRow
  unfold w_X9_sendRow_0
  refine ⟨t, hv1, fun kk_t => ?_⟩
  have Lp5 : ∀ (fu5 : Nat) (τ5 : Sg) (LLt5 : Nat → List Nat) (Nt5 nut5 : Nat → Nat) (v3 : Int), IV τ5 pl gq ci gr nc ot LLt5 Nt5 nut5 → Fx [1, 2, 3, 4, 5, 6, 7, 64, 512, 590, 649, 6464] gr σ τ5 → Ext σ τ5 → NU nu nut5 → Hn (gD σ) [13] [c] gq LL LLt5 N Nt5 → (∀ x, c ∉ LLt5 x) → ((v3 = -1 ∨ (0 ≤ v3 ∧ v3 < (nu 16 : Int))) ∧ Nt5 1 = N 1) → ((if v3 < 0 then 0 else (516 - v3).toNat)) < fu5 → wl_X9_sendRow_5 th Q X fu5 τ5 v1 v2 v3 := by
    intro fu5
    induction fu5 with
    | zero => intro _ _ _ _ _ _ _ _ _ _ _ _ h9; omega
    | succ fu5 ih5 =>
      intro τ5 LLt5 Nt5 nut5 v3 iτ5 fτ5 xτ5 nu_τ5 hnτ5 hg_c_τ5 hi5 hm5
      have nτ5_3 := hnτ5.2.2 3 (by first | decide | (simp; done) | (simp only [List.mem_cons, List.mem_nil_iff, or_false, not_or]; omega)) (by first | decide | omega) (by first | decide | omega) (by first | decide | omega)
      have nτ5_5 := hnτ5.2.2 5 (by first | decide | (simp; done) | (simp only [List.mem_cons, List.mem_nil_iff, or_false, not_or]; omega)) (by first | decide | omega) (by first | decide | omega) (by first | decide | omega)
      have nτ5_14 := hnτ5.2.2 14 (by first | decide | (simp; done) | (simp only [List.mem_cons, List.mem_nil_iff, or_false, not_or]; omega)) (by first | decide | omega) (by first | decide | omega) (by first | decide | omega)
      have nτ5_44 := hnτ5.2.2 44 (by first | decide | (simp; done) | (simp only [List.mem_cons, List.mem_nil_iff, or_false, not_or]; omega)) (by first | decide | omega) (by first | decide | omega) (by first | decide | omega)
      have nτ5_74 := hnτ5.2.2 74 (by first | decide | (simp; done) | (simp only [List.mem_cons, List.mem_nil_iff, or_false, not_or]; omega)) (by first | decide | omega) (by first | decide | omega) (by first | decide | omega)
      have nτ5_11 := hnτ5.2.2 11 (by first | decide | (simp; done) | (simp only [List.mem_cons, List.mem_nil_iff, or_false, not_or]; omega)) (by first | decide | omega) (by first | decide | omega) (by first | decide | omega)
      have nτ5_12 := hnτ5.2.2 12 (by first | decide | (simp; done) | (simp only [List.mem_cons, List.mem_nil_iff, or_false, not_or]; omega)) (by first | decide | omega) (by first | decide | omega) (by first | decide | omega)
      have nτ5_41 := hnτ5.2.2 41 (by first | decide | (simp; done) | (simp only [List.mem_cons, List.mem_nil_iff, or_false, not_or]; omega)) (by first | decide | omega) (by first | decide | omega) (by first | decide | omega)
      have nτ5_42 := hnτ5.2.2 42 (by first | decide | (simp; done) | (simp only [List.mem_cons, List.mem_nil_iff, or_false, not_or]; omega)) (by first | decide | omega) (by first | decide | omega) (by first | decide | omega)
      have nτ5_50 := hnτ5.2.2 50 (by first | decide | (simp; done) | (simp only [List.mem_cons, List.mem_nil_iff, or_false, not_or]; omega)) (by first | decide | omega) (by first | decide | omega) (by first | decide | omega)
      have uτ5_0 := nu_τ5.1 0 (by decide)
      have uτ5_1 := nu_τ5.1 1 (by decide)
      have uτ5_2 := nu_τ5.2
      have uτ5_5 := nu_τ5.1 5 (by decide)
      have uτ5_15 := nu_τ5.1 15 (by decide)
      have uτ5_16 := nu_τ5.1 16 (by decide)
      unfold wl_X9_sendRow_5
      have kp2 : gI τ5 th 12 = gI σ th 12 := (fτ5.O kth (by decide)).1
      have kp3 : gP τ5 th 9 = gP σ th 9 := (fτ5.O kth (by decide)).2.1
      unfold w_X9_sendRow_5
      by_cases hc4 : v3 = (-1)
      · rw [if_pos hc4]
        unfold w_X9_sendRow_62
        refine ⟨t, hv1, fun kk_t_1 => ?_⟩
        intro σ32 eσ32
        have xσ32 : Ext τ5 σ32 := by rw [eσ32]; exact fun _ h => ⟨h, rfl, rfl⟩
        have q5 := iτ5.rg t 9; unfold rng at q5
        have iσ32 : IV σ32 pl gq ci gr nc ot LLt5 Nt5 nut5 := by rw [eσ32]; exact iτ5.wO (kt.up xτ5) (by decide) (rngb (by first | exact rng_wr _ | (first | omega | with_reducible assumption | with_reducible exact rng_toInt _ | with_reducible exact rng_wr _ | (unfold rng; omega) | (unfold rng at *; omega) | assumption)))
        have fσ32 : Fx [1, 2, 3, 4, 5, 6, 7, 64, 512, 590, 649, 6464] gr σ σ32 := fτ5.tr (Sk.fx (by rw [eσ32]; exact Sk.pI (by rw [fcdO (kt.up xτ5) (by decide)]; decide)))
        have wσ32 : gI σ32 t 9 = (wr (gI τ5 t 9 + 1)) := by rw [eσ32]; exact up2_s _ _ _ _
        have kp6 : gI σ32 th 12 = gI τ5 th 12 := by rw [eσ32]; exact up2_n _ _ (fun q => absurd q.2 (by decide))
        have kp7 : gP σ32 th 9 = gP τ5 th 9 := by rw [eσ32]
        obtain ⟨b, eb⟩ := P_9_0 iσ32.1 (kth.up (xτ5.trans xσ32))
        refine ⟨b, eb, fun kk_b => ?_⟩
        refine i_X8_release iσ32 kk_b hv2 (kc.up (xτ5.trans xσ32)) (by (first | omega | with_reducible assumption | with_reducible exact rng_toInt _ | with_reducible exact rng_wr _ | (unfold rng; omega) | (unfold rng at *; omega) | assumption)) (by (first | omega | with_reducible assumption | with_reducible exact rng_toInt _ | with_reducible exact rng_wr _ | (unfold rng; omega) | (unfold rng at *; omega) | assumption)) (fun σ33 LLσ33 Nσ33 nuσ33 _ iσ33 cσ33 uσ33 hσ33 pσ33 => ?_)
        intro xσ33
        have fσ33 : Fx [1, 2, 3, 4, 5, 6, 7, 64, 512, 590, 649, 6464] gr σ σ33 := fσ32.tr (cσ33.mo (by decide))
        have hnσ33 : Hn (gD σ) [13] [c] gq LL LLσ33 N Nσ33 := hnτ5.go hσ33 (fun d hd => (fσ32.1 d hd).1) (by first | decide | exact fun _ h => h | (simp; done) | (intro x hx; simp only [List.mem_cons, List.mem_nil_iff, or_false] at hx ⊢; omega)) (fun d hd => by rw [List.mem_singleton.mp hd]; exact lo_c)
        have nσ33_3 := hσ33.2.2 3 (by first | decide | (simp; done) | (simp only [List.mem_cons, List.mem_nil_iff, or_false, not_or]; omega)) (by first | decide | omega) (by first | decide | omega) (by first | decide | omega)
        have nσ33_5 := hσ33.2.2 5 (by first | decide | (simp; done) | (simp only [List.mem_cons, List.mem_nil_iff, or_false, not_or]; omega)) (by first | decide | omega) (by first | decide | omega) (by first | decide | omega)
        have nσ33_14 := hσ33.2.2 14 (by first | decide | (simp; done) | (simp only [List.mem_cons, List.mem_nil_iff, or_false, not_or]; omega)) (by first | decide | omega) (by first | decide | omega) (by first | decide | omega)
        have nσ33_44 := hσ33.2.2 44 (by first | decide | (simp; done) | (simp only [List.mem_cons, List.mem_nil_iff, or_false, not_or]; omega)) (by first | decide | omega) (by first | decide | omega) (by first | decide | omega)
        have nσ33_74 := hσ33.2.2 74 (by first | decide | (simp; done) | (simp only [List.mem_cons, List.mem_nil_iff, or_false, not_or]; omega)) (by first | decide | omega) (by first | decide | omega) (by first | decide | omega)
        have nσ33_11 := hσ33.2.2 11 (by first | decide | (simp; done) | (simp only [List.mem_cons, List.mem_nil_iff, or_false, not_or]; omega)) (by first | decide | omega) (by first | decide | omega) (by first | decide | omega)
        have nσ33_12 := hσ33.2.2 12 (by first | decide | (simp; done) | (simp only [List.mem_cons, List.mem_nil_iff, or_false, not_or]; omega)) (by first | decide | omega) (by first | decide | omega) (by first | decide | omega)
        have nσ33_41 := hσ33.2.2 41 (by first | decide | (simp; done) | (simp only [List.mem_cons, List.mem_nil_iff, or_false, not_or]; omega)) (by first | decide | omega) (by first | decide | omega) (by first | decide | omega)
        have nσ33_42 := hσ33.2.2 42 (by first | decide | (simp; done) | (simp only [List.mem_cons, List.mem_nil_iff, or_false, not_or]; omega)) (by first | decide | omega) (by first | decide | omega) (by first | decide | omega)
        have nσ33_13 := hσ33.2.2 13 (by first | decide | (simp; done) | (simp only [List.mem_cons, List.mem_nil_iff, or_false, not_or]; omega)) (by first | decide | omega) (by first | decide | omega) (by first | decide | omega)
        have nσ33_50 := hσ33.2.2 50 (by first | decide | (simp; done) | (simp only [List.mem_cons, List.mem_nil_iff, or_false, not_or]; omega)) (by first | decide | omega) (by first | decide | omega) (by first | decide | omega)
        have nu_σ33 : NU nu nuσ33 := nu_τ5.tr uσ33
        have uσ33_0 := uσ33.1 0 (by decide)
        have uσ33_1 := uσ33.1 1 (by decide)
        have uσ33_2 := uσ33.2
        have uσ33_5 := uσ33.1 5 (by decide)
        have uσ33_15 := uσ33.1 15 (by decide)
        have uσ33_16 := uσ33.1 16 (by decide)
        have kp8 : gI σ33 t 9 = gI σ32 t 9 := (cσ33.O (kt.up (xτ5.trans xσ32)) (by decide)).1
        have kp9 : gI σ33 th 12 = gI σ32 th 12 := (cσ33.O (kth.up (xτ5.trans xσ32)) (by decide)).1
        have kp10 : gP σ33 th 0 = gP σ32 th 0 := (cσ33.O (kth.up (xτ5.trans xσ32)) (by decide)).2.1
        have kp11 : gP σ33 th 9 = gP σ32 th 9 := (cσ33.O (kth.up (xτ5.trans xσ32)) (by decide)).2.1
        exact hQ σ33 LLσ33 Nσ33 nuσ33 () iσ33 fσ33 (nu_σ33) hnσ33 (by (first | omega | with_reducible assumption | with_reducible exact rng_toInt _ | with_reducible exact rng_wr _ | (unfold rng; omega) | (unfold rng at *; omega) | assumption))
      · rw [if_neg hc4]
        unfold w_X9_sendRow_10
        obtain ⟨b_1, eb_1, fb_1⟩ := P_9_4 iτ5.1 (kth.up xτ5)
        have mb_1 : kO τ5 b_1 112 := iτ5.1.kd (kth.up xτ5) rfl eb_1 rfl
        refine ⟨b_1, eb_1, fun kk_b_1 => ?_⟩
        refine ⟨⟨by (first | omega | with_reducible assumption | with_reducible exact rng_toInt _ | with_reducible exact rng_wr _ | (unfold rng; omega) | (unfold rng at *; omega) | assumption), by (first | omega | with_reducible assumption | with_reducible exact rng_toInt _ | with_reducible exact rng_wr _ | (unfold rng; omega) | (unfold rng at *; omega) | assumption)⟩, ?_⟩
        have n16b_2 := iτ5.n16
        obtain ⟨b_2, eb_2, mb_2, fb_2⟩ := P_112 iτ5 mb_1 (k := v3.toNat) (by (first | omega | with_reducible assumption | with_reducible exact rng_toInt _ | with_reducible exact rng_wr _ | (unfold rng; omega) | (unfold rng at *; omega) | assumption))
        refine i_X9_isFor iτ5 (kth.up xτ5) eb_2 mb_2 hv1 (kt.up xτ5) hv2 (kc.up xτ5) (by (first | omega | with_reducible assumption | with_reducible exact rng_toInt _ | with_reducible exact rng_wr _ | (unfold rng; omega) | (unfold rng at *; omega) | assumption)) (by (first | omega | with_reducible assumption | with_reducible exact rng_toInt _ | with_reducible exact rng_wr _ | (unfold rng; omega) | (unfold rng at *; omega) | assumption)) (kp3.trans hj) (kJ.up xτ5) (by (first | omega | with_reducible assumption | with_reducible exact rng_toInt _ | with_reducible exact rng_wr _ | (unfold rng; omega) | (unfold rng at *; omega) | assumption)) (fun r22 pσ21 => ?_)
        intro xσ21
        by_cases hc12 : r22 = 0
        · rw [if_pos hc12]
          unfold w_X9_sendRow_49
          refine ⟨b_1, eb_1, fun kk_b_1_1 => ?_⟩
          refine ⟨⟨by (first | omega | with_reducible assumption | with_reducible exact rng_toInt _ | with_reducible exact rng_wr _ | (unfold rng; omega) | (unfold rng at *; omega) | assumption), by (first | omega | with_reducible assumption | with_reducible exact rng_toInt _ | with_reducible exact rng_wr _ | (unfold rng; omega) | (unfold rng at *; omega) | assumption)⟩, ?_⟩
          refine ⟨b_2, eb_2, fun kk_b_2 => ?_⟩
          have q13 := iτ5.chr mb_2 (by (first | omega | with_reducible assumption | with_reducible exact rng_toInt _ | with_reducible exact rng_wr _ | (unfold rng; omega) | (unfold rng at *; omega) | assumption))
          exact ih5 τ5 LLt5 Nt5 nut5 (gI τ5 b_2 7) iτ5 fτ5 xτ5 nu_τ5 hnτ5 hg_c_τ5 (by (first | omega | with_reducible assumption | with_reducible exact rng_toInt _ | with_reducible exact rng_wr _ | (unfold rng; omega) | (unfold rng at *; omega) | assumption)) (by (repeat' split at hm5) <;> (repeat' split) <;> omega)
        · rw [if_neg hc12]
          unfold w_X9_sendRow_25
          obtain ⟨b_3, eb_3⟩ := P_9_0 iτ5.1 (kth.up xτ5)
          refine ⟨b_3, eb_3, fun kk_b_3 => ?_⟩
          refine i_X8_copyOf iτ5 kk_b_3 hv2 (kc.up xτ5) (by (first | omega | with_reducible assumption | with_reducible exact rng_toInt _ | with_reducible exact rng_wr _ | (unfold rng; omega) | (unfold rng at *; omega) | assumption)) (fun σ23 LLσ23 Nσ23 nuσ23 c_σ23 iσ23 cσ23 uσ23 hσ23 pσ23 => ?_)
          intro xσ23
          have fσ23 : Fx [1, 2, 3, 4, 5, 6, 7, 64, 512, 590, 649, 6464] gr σ σ23 := fτ5.tr (cσ23.mo (by decide))
          have hnσ23 : Hn (gD σ) [13] [c] gq LL LLσ23 N Nσ23 := hnτ5.go hσ23 (fun d hd => (fτ5.1 d hd).1) (by first | decide | exact fun _ h => h | (simp; done) | (intro x hx; simp only [List.mem_cons, List.mem_nil_iff, or_false] at hx ⊢; omega)) (fun d hd => absurd hd (by simp))
          have ne_c_c_σ23 : c ≠ c_σ23 := pσ23.2.1 c (kc.up xτ5) hg_c_τ5
          have hg_c_σ23 : ∀ x, c ∉ LLσ23 x := hσ23.2.1 c (kc.up xτ5).1 (by simp) hg_c_τ5
          have hf_c_σ23 : ∀ x, c_σ23 ∉ LLσ23 x := pσ23.1
          have lo_c_σ23 : Lo [c] (gD σ) LL c_σ23 := hnτ5.loc (fun d hd => (fτ5.1 d hd).1) pσ23.2.2.1
          have nσ23_3 := hσ23.2.2 3 (by first | decide | (simp; done) | (simp only [List.mem_cons, List.mem_nil_iff, or_false, not_or]; omega)) (by first | decide | omega) (by first | decide | omega) (by first | decide | omega)
          have nσ23_5 := hσ23.2.2 5 (by first | decide | (simp; done) | (simp only [List.mem_cons, List.mem_nil_iff, or_false, not_or]; omega)) (by first | decide | omega) (by first | decide | omega) (by first | decide | omega)
          have nσ23_14 := hσ23.2.2 14 (by first | decide | (simp; done) | (simp only [List.mem_cons, List.mem_nil_iff, or_false, not_or]; omega)) (by first | decide | omega) (by first | decide | omega) (by first | decide | omega)
          have nσ23_44 := hσ23.2.2 44 (by first | decide | (simp; done) | (simp only [List.mem_cons, List.mem_nil_iff, or_false, not_or]; omega)) (by first | decide | omega) (by first | decide | omega) (by first | decide | omega)
          have nσ23_74 := hσ23.2.2 74 (by first | decide | (simp; done) | (simp only [List.mem_cons, List.mem_nil_iff, or_false, not_or]; omega)) (by first | decide | omega) (by first | decide | omega) (by first | decide | omega)
          have nσ23_11 := hσ23.2.2 11 (by first | decide | (simp; done) | (simp only [List.mem_cons, List.mem_nil_iff, or_false, not_or]; omega)) (by first | decide | omega) (by first | decide | omega) (by first | decide | omega)
          have nσ23_12 := hσ23.2.2 12 (by first | decide | (simp; done) | (simp only [List.mem_cons, List.mem_nil_iff, or_false, not_or]; omega)) (by first | decide | omega) (by first | decide | omega) (by first | decide | omega)
          have nσ23_41 := hσ23.2.2 41 (by first | decide | (simp; done) | (simp only [List.mem_cons, List.mem_nil_iff, or_false, not_or]; omega)) (by first | decide | omega) (by first | decide | omega) (by first | decide | omega)
          have nσ23_42 := hσ23.2.2 42 (by first | decide | (simp; done) | (simp only [List.mem_cons, List.mem_nil_iff, or_false, not_or]; omega)) (by first | decide | omega) (by first | decide | omega) (by first | decide | omega)
          have nσ23_13 := hσ23.2.2 13 (by first | decide | (simp; done) | (simp only [List.mem_cons, List.mem_nil_iff, or_false, not_or]; omega)) (by first | decide | omega) (by first | decide | omega) (by first | decide | omega)
          have nσ23_50 := hσ23.2.2 50 (by first | decide | (simp; done) | (simp only [List.mem_cons, List.mem_nil_iff, or_false, not_or]; omega)) (by first | decide | omega) (by first | decide | omega) (by first | decide | omega)
          have nu_σ23 : NU nu nuσ23 := nu_τ5.tr uσ23
          have uσ23_0 := uσ23.1 0 (by decide)
          have uσ23_1 := uσ23.1 1 (by decide)
          have uσ23_2 := uσ23.2
          have uσ23_5 := uσ23.1 5 (by decide)
          have uσ23_15 := uσ23.1 15 (by decide)
          have uσ23_16 := uσ23.1 16 (by decide)
          have kp14 : gI σ23 th 12 = gI τ5 th 12 := (cσ23.O (kth.up xτ5) (by decide)).1
          have kp15 : gP σ23 b_1 v3.toNat = gP τ5 b_1 v3.toNat := (cσ23.A mb_1 (by decide)).2.1
          have kp16 : gP σ23 th 0 = gP τ5 th 0 := (cσ23.O (kth.up xτ5) (by decide)).2.1
          have kp17 : gP σ23 th 4 = gP τ5 th 4 := (cσ23.O (kth.up xτ5) (by decide)).2.1
          have kp18 : gP σ23 th 9 = gP τ5 th 9 := (cσ23.O (kth.up xτ5) (by decide)).2.1
          intro tyt
          have krc_σ23 : kO σ23 c_σ23 0 := tyt c_σ23 rfl
          refine ⟨c_σ23, rfl, fun kk_c_σ23 => ?_⟩
          intro σ27 eσ27
          have xσ27 : Ext σ23 σ27 := by rw [eσ27]; exact fun _ h => ⟨h, rfl, rfl⟩
          have iσ27 : IV σ27 pl gq ci gr nc ot LLσ23 Nσ23 nuσ23 := by rw [eσ27]; exact iσ23.wO krc_σ23 (by decide) (rngb (by first | exact rng_wr _ | (first | omega | with_reducible assumption | with_reducible exact rng_toInt _ | with_reducible exact rng_wr _ | (unfold rng; omega) | (unfold rng at *; omega) | assumption)))
          have fσ27 : Fx [1, 2, 3, 4, 5, 6, 7, 64, 512, 590, 649, 6464] gr σ σ27 := fσ23.tr (Sk.fx (by rw [eσ27]; exact Sk.pI (by rw [fcdO krc_σ23 (by decide)]; decide)))
          have wσ27 : gI σ27 c_σ23 2 = 0 := by rw [eσ27]; exact up2_s _ _ _ _
          have kp19 : gI σ27 th 12 = gI σ23 th 12 := by rw [eσ27]; exact up2_n _ _ (fun q => absurd q.2 (by decide))
          have kp20 : gP σ27 b_1 v3.toNat = gP σ23 b_1 v3.toNat := by rw [eσ27]
          have kp21 : gP σ27 th 0 = gP σ23 th 0 := by rw [eσ27]
          have kp22 : gP σ27 th 4 = gP σ23 th 4 := by rw [eσ27]
          have kp23 : gP σ27 th 9 = gP σ23 th 9 := by rw [eσ27]
          refine i_X9_putInBox iσ27 (kth.up (xτ5.trans (xσ23.trans xσ27))) hv1 (kt.up (xτ5.trans (xσ23.trans xσ27))) rfl (krc_σ23.up xσ27) (by (first | omega | with_reducible assumption | with_reducible exact rng_toInt _ | with_reducible exact rng_wr _ | (unfold rng; omega) | (unfold rng at *; omega) | assumption)) (by (first | omega | with_reducible assumption | with_reducible exact rng_toInt _ | with_reducible exact rng_wr _ | (unfold rng; omega) | (unfold rng at *; omega) | assumption)) (by (first | omega | with_reducible assumption | with_reducible exact rng_toInt _ | with_reducible exact rng_wr _ | (unfold rng; omega) | (unfold rng at *; omega) | assumption)) (by (first | omega | with_reducible assumption | with_reducible exact rng_toInt _ | with_reducible exact rng_wr _ | (unfold rng; omega) | (unfold rng at *; omega) | assumption)) (by (first | omega | with_reducible assumption | with_reducible exact rng_toInt _ | with_reducible exact rng_wr _ | (unfold rng; omega) | (unfold rng at *; omega) | assumption)) (by (first | omega | with_reducible assumption | with_reducible exact rng_toInt _ | with_reducible exact rng_wr _ | (unfold rng; omega) | (unfold rng at *; omega) | assumption)) (fun σ28 LLσ28 Nσ28 nuσ28 _ iσ28 cσ28 uσ28 hσ28 pσ28 => ?_) (fun σx LLx Nx nux E ix cx ux px => hX σx LLx Nx nux E ix (fσ27.tr (cx.mo (by decide))) (nu_σ23.x ux) (by first | exact px | exact ⟨by have := px.1; omega, (Hn.nz hnσ23 (by first | decide | (intro x hx; simp only [List.mem_cons, List.mem_nil_iff, or_false] at hx; omega))).tr px.2.1, px.2.2⟩ | (first | omega | with_reducible assumption | with_reducible exact rng_toInt _ | with_reducible exact rng_wr _ | (unfold rng; omega) | (unfold rng at *; omega) | assumption)))
          intro xσ28
          have fσ28 : Fx [1, 2, 3, 4, 5, 6, 7, 64, 512, 590, 649, 6464] gr σ σ28 := fσ27.tr (cσ28.mo (by decide))
          have hnσ28 : Hn (gD σ) [13] [c] gq LL LLσ28 N Nσ28 := hnσ23.go hσ28 (fun d hd => (fσ27.1 d hd).1) (by first | decide | exact fun _ h => h | (simp; done) | (intro x hx; simp only [List.mem_cons, List.mem_nil_iff, or_false] at hx ⊢; omega)) (fun d hd => by rw [List.mem_singleton.mp hd]; exact lo_c_σ23)
          have hg_c_σ28 : ∀ x, c ∉ LLσ28 x := hσ28.2.1 c (kc.up (xτ5.trans (xσ23.trans xσ27))).1 (by simp only [List.mem_cons, List.mem_nil_iff, or_false, not_or]; first | omega | (exact fun q => absurd q.symm (by assumption))) hg_c_σ23
          have nσ28_3 := hσ28.2.2 3 (by first | decide | (simp; done) | (simp only [List.mem_cons, List.mem_nil_iff, or_false, not_or]; omega)) (by first | decide | omega) (by first | decide | omega) (by first | decide | omega)
          have nσ28_5 := hσ28.2.2 5 (by first | decide | (simp; done) | (simp only [List.mem_cons, List.mem_nil_iff, or_false, not_or]; omega)) (by first | decide | omega) (by first | decide | omega) (by first | decide | omega)
          have nσ28_14 := hσ28.2.2 14 (by first | decide | (simp; done) | (simp only [List.mem_cons, List.mem_nil_iff, or_false, not_or]; omega)) (by first | decide | omega) (by first | decide | omega) (by first | decide | omega)
          have nσ28_44 := hσ28.2.2 44 (by first | decide | (simp; done) | (simp only [List.mem_cons, List.mem_nil_iff, or_false, not_or]; omega)) (by first | decide | omega) (by first | decide | omega) (by first | decide | omega)
          have nσ28_74 := hσ28.2.2 74 (by first | decide | (simp; done) | (simp only [List.mem_cons, List.mem_nil_iff, or_false, not_or]; omega)) (by first | decide | omega) (by first | decide | omega) (by first | decide | omega)
          have nσ28_11 := hσ28.2.2 11 (by first | decide | (simp; done) | (simp only [List.mem_cons, List.mem_nil_iff, or_false, not_or]; omega)) (by first | decide | omega) (by first | decide | omega) (by first | decide | omega)
          have nσ28_12 := hσ28.2.2 12 (by first | decide | (simp; done) | (simp only [List.mem_cons, List.mem_nil_iff, or_false, not_or]; omega)) (by first | decide | omega) (by first | decide | omega) (by first | decide | omega)
          have nσ28_41 := hσ28.2.2 41 (by first | decide | (simp; done) | (simp only [List.mem_cons, List.mem_nil_iff, or_false, not_or]; omega)) (by first | decide | omega) (by first | decide | omega) (by first | decide | omega)
          have nσ28_42 := hσ28.2.2 42 (by first | decide | (simp; done) | (simp only [List.mem_cons, List.mem_nil_iff, or_false, not_or]; omega)) (by first | decide | omega) (by first | decide | omega) (by first | decide | omega)
          have nσ28_50 := hσ28.2.2 50 (by first | decide | (simp; done) | (simp only [List.mem_cons, List.mem_nil_iff, or_false, not_or]; omega)) (by first | decide | omega) (by first | decide | omega) (by first | decide | omega)
          have nu_σ28 : NU nu nuσ28 := nu_σ23.tr uσ28
          have uσ28_0 := uσ28.1 0 (by decide)
          have uσ28_1 := uσ28.1 1 (by decide)
          have uσ28_2 := uσ28.2
          have uσ28_5 := uσ28.1 5 (by decide)
          have uσ28_15 := uσ28.1 15 (by decide)
          have uσ28_16 := uσ28.1 16 (by decide)
          have kp24 : gI σ28 c_σ23 2 = gI σ27 c_σ23 2 := (cσ28.O (krc_σ23.up xσ27) (by decide)).1
          have kp25 : gI σ28 th 12 = gI σ27 th 12 := (cσ28.O (kth.up (xτ5.trans (xσ23.trans xσ27))) (by decide)).1
          have kp26 : gP σ28 b_1 v3.toNat = gP σ27 b_1 v3.toNat := (cσ28.A (mb_1.up (xσ23.trans xσ27)) (by decide)).2.1
          have kp27 : gP σ28 th 0 = gP σ27 th 0 := (cσ28.O (kth.up (xτ5.trans (xσ23.trans xσ27))) (by decide)).2.1
          have kp28 : gP σ28 th 4 = gP σ27 th 4 := (cσ28.O (kth.up (xτ5.trans (xσ23.trans xσ27))) (by decide)).2.1
          have kp29 : gP σ28 th 9 = gP σ27 th 9 := (cσ28.O (kth.up (xτ5.trans (xσ23.trans xσ27))) (by decide)).2.1
          unfold w_X9_sendRow_49
          refine ⟨b_1, (kp28.trans (kp22.trans (kp17.trans eb_1))), fun kk_b_1_2 => ?_⟩
          have q30 := ((xσ23.trans (xσ27.trans xσ28)) b_1 mb_1.1).2.2
          refine ⟨⟨by (first | omega | with_reducible assumption | with_reducible exact rng_toInt _ | with_reducible exact rng_wr _ | (unfold rng; omega) | (unfold rng at *; omega) | assumption), by (first | omega | with_reducible assumption | with_reducible exact rng_toInt _ | with_reducible exact rng_wr _ | (unfold rng; omega) | (unfold rng at *; omega) | assumption)⟩, ?_⟩
          refine ⟨b_2, (kp26.trans (kp20.trans (kp15.trans eb_2))), fun kk_b_2_1 => ?_⟩
          have q31 := iσ28.chr (mb_2.up (xσ23.trans (xσ27.trans xσ28))) (by (first | omega | with_reducible assumption | with_reducible exact rng_toInt _ | with_reducible exact rng_wr _ | (unfold rng; omega) | (unfold rng at *; omega) | assumption))
          exact ih5 σ28 LLσ28 Nσ28 nuσ28 (gI σ28 b_2 7) iσ28 fσ28 (xτ5.trans (xσ23.trans (xσ27.trans xσ28))) nu_σ28 hnσ28 hg_c_σ28 (by (first | omega | with_reducible assumption | with_reducible exact rng_toInt _ | with_reducible exact rng_wr _ | (unfold rng; omega) | (unfold rng at *; omega) | assumption)) (by (repeat' split at hm5) <;> (repeat' split) <;> omega)
  have q32 := iσ.tkr kt (by omega) (by omega)
  have q33 := iσ.rg t 14; unfold rng at q33
  exact ⟨_, Lp5 _ σ LL N nu _ iσ fσ (Ext.rfl' _) NU.rf hnσ hf (by omega) (Nat.lt_succ_self _)⟩
set_option maxHeartbeats 1000000 in
theorem i_X9_isBlocked {σ : Sg} {pl : Nat} {gq ci gr nc : Nat → Nat} {ot : Nat → Nat → Int} {LL : Nat → List Nat} {N nu : Nat → Nat} {th : Nat} {v1 : Option Nat} (iσ : IV σ pl gq ci gr nc ot LL N nu) (kth : kO σ th 9) {t : Nat} (hv1 : v1 = some t) (kt : kO σ t 10) (ht : gq t = 1) (hl : ci t < nu 15) {Q : Sg → Int → Prop} {X : Sg → String → Prop} (hQ : ∀ (r : Int), (r = 0 ∨ r = 1) → Q σ r) : wp_X9_isBlocked th v1 σ Q X := by
  have n16 := iσ.n16
  unfold wp_X9_isBlocked
  unfold w_X9_isBlocked_0
  have Lp2 : ∀ (fu2 : Nat) (v2 : Int), (0 ≤ v2 ∧ v2 ≤ 512) → ((512 - v2).toNat) < fu2 → wl_X9_isBlocked_2 th Q X fu2 σ v1 v2 := by
    intro fu2
    induction fu2 with
    | zero => intro _ _ h9; omega
    | succ fu2 ih2 =>
      intro v2 hi2 hm2
      unfold wl_X9_isBlocked_2
      unfold w_X9_isBlocked_2
      refine ⟨t, hv1, fun kk_t => ?_⟩
      have q2 := iσ.tkr kt (by omega) (by omega)
      have q3 := I_10_12 iσ.1 kt
      by_cases hc1 : v2 ≥ gI σ t 12
      · rw [if_pos hc1]
        unfold w_X9_isBlocked_35
        exact hQ 1 (by (first | omega | with_reducible assumption | with_reducible exact rng_toInt _ | with_reducible exact rng_wr _ | (unfold rng; omega) | (unfold rng at *; omega) | assumption))
      · rw [if_neg hc1]
        unfold w_X9_isBlocked_10
        refine ⟨t, hv1, fun kk_t_1 => ?_⟩
        have q4 := iσ.tkr kt (by omega) (by omega)
        have q5 := I_10_11 iσ.1 kt
        refine ⟨by (first | omega | with_reducible assumption | with_reducible exact rng_toInt _ | with_reducible exact rng_wr _ | (unfold rng; omega) | (unfold rng at *; omega) | assumption), ?_⟩
        obtain ⟨b, eb, fb⟩ := P_9_4 iσ.1 kth
        have mb : kO σ b 112 := iσ.1.kd kth rfl eb rfl
        refine ⟨b, eb, fun kk_b => ?_⟩
        refine ⟨⟨by (first | omega | with_reducible assumption | with_reducible exact rng_toInt _ | with_reducible exact rng_wr _ | (unfold rng; omega) | (unfold rng at *; omega) | assumption), by (first | omega | with_reducible assumption | with_reducible exact rng_toInt _ | with_reducible exact rng_wr _ | (unfold rng; omega) | (unfold rng at *; omega) | assumption)⟩, ?_⟩
        have n16b_1 := iσ.n16
        obtain ⟨b_1, eb_1, mb_1, fb_1⟩ := P_112 iσ mb (k := (gI σ t 11 + v2).toNat) (by (first | omega | with_reducible assumption | with_reducible exact rng_toInt _ | with_reducible exact rng_wr _ | (unfold rng; omega) | (unfold rng at *; omega) | assumption))
        refine ⟨b_1, eb_1, fun kk_b_1 => ?_⟩
        have q7 := I_2_5 iσ.1 mb_1
        by_cases hc6 : gI σ b_1 5 ≠ 0
        · rw [if_pos hc6]
          unfold w_X9_isBlocked_29
          refine ⟨by (first | omega | with_reducible assumption | with_reducible exact rng_toInt _ | with_reducible exact rng_wr _ | (unfold rng; omega) | (unfold rng at *; omega) | assumption), ?_⟩
          exact ih2 (v2 + 1) (by (first | omega | with_reducible assumption | with_reducible exact rng_toInt _ | with_reducible exact rng_wr _ | (unfold rng; omega) | (unfold rng at *; omega) | assumption)) (by (first | omega | with_reducible assumption | with_reducible exact rng_toInt _ | with_reducible exact rng_wr _ | (unfold rng; omega) | (unfold rng at *; omega) | assumption))
        · rw [if_neg hc6]
          have hc6q := Classical.not_not.mp hc6
          unfold w_X9_isBlocked_27
          exact hQ 0 (by (first | omega | with_reducible assumption | with_reducible exact rng_toInt _ | with_reducible exact rng_wr _ | (unfold rng; omega) | (unfold rng at *; omega) | assumption))
  exact ⟨_, Lp2 _ _ (by (first | omega | with_reducible assumption | with_reducible exact rng_toInt _ | with_reducible exact rng_wr _ | (unfold rng; omega) | (unfold rng at *; omega) | assumption)) (Nat.lt_succ_self _)⟩
set_option maxHeartbeats 1000000 in
theorem i_X9_unblock {σ : Sg} {pl : Nat} {gq ci gr nc : Nat → Nat} {ot : Nat → Nat → Int} {LL : Nat → List Nat} {N nu : Nat → Nat} {th : Nat} {v1 : Option Nat} (iσ : IV σ pl gq ci gr nc ot LL N nu) (kth : kO σ th 9) {t : Nat} (hv1 : v1 = some t) (kt : kO σ t 10) (ht : gq t = 1) (hl : ci t < nu 15) {Q : Sg → Unit → Prop} {X : Sg → String → Prop} (hQ : ∀ (σ' : Sg) (r : Unit), IV σ' pl gq ci gr nc ot LL N nu → Fx [133] gr σ σ' → (True) → Q σ' r) : wp_X9_unblock th v1 σ Q X := by
  have fσ : Fx [133] gr σ σ := Fx.rf
  have n16 := iσ.n16
  unfold wp_X9_unblock
  unfold w_X9_unblock_0
  have Lp2 : ∀ (fu2 : Nat) (τ2 : Sg) (v2 : Int), IV τ2 pl gq ci gr nc ot LL N nu → Fx [133] gr σ τ2 → Ext σ τ2 → (0 ≤ v2 ∧ v2 ≤ 512) → ((512 - v2).toNat) < fu2 → wl_X9_unblock_2 th Q X fu2 τ2 v1 v2 := by
    intro fu2
    induction fu2 with
    | zero => intro _ _ _ _ _ _ h9; omega
    | succ fu2 ih2 =>
      intro τ2 v2 iτ2 fτ2 xτ2 hi2 hm2
      unfold wl_X9_unblock_2
      unfold w_X9_unblock_2
      refine ⟨t, hv1, fun kk_t => ?_⟩
      have q2 := iτ2.tkr (kt.up xτ2) (by omega) (by omega)
      have q3 := I_10_12 iτ2.1 (kt.up xτ2)
      by_cases hc1 : v2 ≥ gI τ2 t 12
      · rw [if_pos hc1]
        unfold w_X9_unblock_31
        exact hQ τ2 () iτ2 fτ2 (trivial)
      · rw [if_neg hc1]
        unfold w_X9_unblock_10
        refine ⟨t, hv1, fun kk_t_1 => ?_⟩
        have q4 := iτ2.tkr (kt.up xτ2) (by omega) (by omega)
        have q5 := I_10_11 iτ2.1 (kt.up xτ2)
        refine ⟨by (first | omega | with_reducible assumption | with_reducible exact rng_toInt _ | with_reducible exact rng_wr _ | (unfold rng; omega) | (unfold rng at *; omega) | assumption), ?_⟩
        obtain ⟨b, eb, fb⟩ := P_9_4 iτ2.1 (kth.up xτ2)
        have mb : kO τ2 b 112 := iτ2.1.kd (kth.up xτ2) rfl eb rfl
        refine ⟨b, eb, fun kk_b => ?_⟩
        refine ⟨⟨by (first | omega | with_reducible assumption | with_reducible exact rng_toInt _ | with_reducible exact rng_wr _ | (unfold rng; omega) | (unfold rng at *; omega) | assumption), by (first | omega | with_reducible assumption | with_reducible exact rng_toInt _ | with_reducible exact rng_wr _ | (unfold rng; omega) | (unfold rng at *; omega) | assumption)⟩, ?_⟩
        have n16b_1 := iτ2.n16
        obtain ⟨b_1, eb_1, mb_1, fb_1⟩ := P_112 iτ2 mb (k := (gI τ2 t 11 + v2).toNat) (by (first | omega | with_reducible assumption | with_reducible exact rng_toInt _ | with_reducible exact rng_wr _ | (unfold rng; omega) | (unfold rng at *; omega) | assumption))
        refine ⟨b_1, eb_1, fun kk_b_1 => ?_⟩
        intro σ10 eσ10
        have xσ10 : Ext τ2 σ10 := by rw [eσ10]; exact fun _ h => ⟨h, rfl, rfl⟩
        have iσ10 : IV σ10 pl gq ci gr nc ot LL N nu := by rw [eσ10]; exact iτ2.wO mb_1 (by decide) (show (0 : Int) ≤ 0 ∧ 0 ≤ 1 from ⟨by (first | omega | with_reducible assumption | with_reducible exact rng_toInt _ | with_reducible exact rng_wr _ | (unfold rng; omega) | (unfold rng at *; omega) | assumption), by (first | omega | with_reducible assumption | with_reducible exact rng_toInt _ | with_reducible exact rng_wr _ | (unfold rng; omega) | (unfold rng at *; omega) | assumption)⟩)
        have fσ10 : Fx [133] gr σ σ10 := fτ2.tr (Sk.fx (by rw [eσ10]; exact Sk.pI (by rw [fcdO mb_1 (by decide)]; decide)))
        have wσ10 : gI σ10 b_1 5 = 0 := by rw [eσ10]; exact up2_s _ _ _ _
        have kp6 : gI σ10 t 11 = gI τ2 t 11 := by rw [eσ10]; exact up2_n _ _ (fun q => absurd q.2 (by decide))
        have kp7 : gI σ10 t 12 = gI τ2 t 12 := by rw [eσ10]; exact up2_n _ _ (fun q => absurd q.2 (by decide))
        have kp8 : gP σ10 b (gI τ2 t 11 + v2).toNat = gP τ2 b (gI τ2 t 11 + v2).toNat := by rw [eσ10]
        have kp9 : gP σ10 th 4 = gP τ2 th 4 := by rw [eσ10]
        refine ⟨by (first | omega | with_reducible assumption | with_reducible exact rng_toInt _ | with_reducible exact rng_wr _ | (unfold rng; omega) | (unfold rng at *; omega) | assumption), ?_⟩
        exact ih2 σ10 (v2 + 1) iσ10 fσ10 (xτ2.trans xσ10) (by (first | omega | with_reducible assumption | with_reducible exact rng_toInt _ | with_reducible exact rng_wr _ | (unfold rng; omega) | (unfold rng at *; omega) | assumption)) (by (first | omega | with_reducible assumption | with_reducible exact rng_toInt _ | with_reducible exact rng_wr _ | (unfold rng; omega) | (unfold rng at *; omega) | assumption))
  exact ⟨_, Lp2 _ σ _ iσ fσ (Ext.rfl' _) (by (first | omega | with_reducible assumption | with_reducible exact rng_toInt _ | with_reducible exact rng_wr _ | (unfold rng; omega) | (unfold rng at *; omega) | assumption)) (Nat.lt_succ_self _)⟩
set_option maxHeartbeats 1000000 in
theorem i_X9_hasGrown {σ : Sg} {pl : Nat} {gq ci gr nc : Nat → Nat} {ot : Nat → Nat → Int} {LL : Nat → List Nat} {N nu : Nat → Nat} {th : Nat} {v1 : Option Nat} (iσ : IV σ pl gq ci gr nc ot LL N nu) (kth : kO σ th 9) {t : Nat} (hv1 : v1 = some t) (kt : kO σ t 10) (ht : gq t = 1) (hl : ci t < nu 15) {Q : Sg → Int → Prop} {X : Sg → String → Prop} (hQ : ∀ (σ' : Sg) (r : Int), IV σ' pl gq ci gr nc ot LL N nu → Fx [647] gr σ σ' → (r = 0 ∨ r = 1) → Q σ' r) : wp_X9_hasGrown th v1 σ Q X := by
  have fσ : Fx [647] gr σ σ := Fx.rf
  have n16 := iσ.n16
  unfold wp_X9_hasGrown
  unfold w_X9_hasGrown_0
  have Lp7 : ∀ (fu7 : Nat) (v2 : Int64) (v4 : Int), ((0 ≤ v4 ∧ v4 ≤ 512) ∧ tb (N 3) v2) → ((512 - v4).toNat) < fu7 → wl_X9_hasGrown_7 th Q X fu7 σ v1 v2 v4 := by
    intro fu7
    induction fu7 with
    | zero => intro _ _ _ h9; omega
    | succ fu7 ih7 =>
      intro v2 v4 hi7 hm7
      unfold wl_X9_hasGrown_7
      unfold w_X9_hasGrown_7
      refine ⟨t, hv1, fun kk_t => ?_⟩
      have q2 := iσ.tkr kt (by omega) (by omega)
      have q3 := I_10_12 iσ.1 kt
      by_cases hc1 : v4 ≥ gI σ t 12
      · rw [if_pos hc1]
        unfold w_X9_hasGrown_42
        refine ⟨t, hv1, fun kk_t_1 => ?_⟩
        by_cases hc4 : v2 ≤ gJ σ t 7
        · rw [if_pos hc4]
          unfold w_X9_hasGrown_55
          unfold w_X9_hasGrown_56
          refine ⟨t, hv1, fun kk_t_2 => ?_⟩
          refine i_J9_max_f86c9 iσ (fun r21 pσ20 => ?_)
          intro xσ20
          intro σ22 eσ22
          have xσ22 : Ext σ σ22 := by rw [eσ22]; exact fun _ h => ⟨h, rfl, rfl⟩
          have iσ22 : IV σ22 pl gq ci gr nc ot LL N nu := by rw [eσ22]; exact iσ.wT kt (by decide) (by rcases pσ20 with e9 | e9; (rw [e9]; exact (by first | with_reducible assumption | exact hi7.2 | (unfold tb at *; omega))); (rw [e9]; exact (iσ.t7 kt)))
          have fσ22 : Fx [647] gr σ σ22 := fσ.tr (Sk.fx (by rw [eσ22]; exact Sk.pJ (by rw [fcdO kt (by decide)]; decide)))
          have kp5 : gI σ22 t 12 = gI σ t 12 := by rw [eσ22]
          refine ⟨by (first | omega | with_reducible assumption | with_reducible exact rng_toInt _ | with_reducible exact rng_wr _ | (unfold rng; omega) | (unfold rng at *; omega) | assumption), ?_⟩
          exact hQ σ22 0 iσ22 fσ22 (by (first | omega | with_reducible assumption | with_reducible exact rng_toInt _ | with_reducible exact rng_wr _ | (unfold rng; omega) | (unfold rng at *; omega) | assumption))
        · rw [if_neg hc4]
          unfold w_X9_hasGrown_51
          unfold w_X9_hasGrown_56
          refine ⟨t, hv1, fun kk_t_3 => ?_⟩
          refine i_J9_max_f86c9 iσ (fun r21_1 pσ20_1 => ?_)
          intro xσ20_1
          intro σ22_1 eσ22_1
          have xσ22_1 : Ext σ σ22_1 := by rw [eσ22_1]; exact fun _ h => ⟨h, rfl, rfl⟩
          have iσ22_1 : IV σ22_1 pl gq ci gr nc ot LL N nu := by rw [eσ22_1]; exact iσ.wT kt (by decide) (by rcases pσ20_1 with e9 | e9; (rw [e9]; exact (by first | with_reducible assumption | exact hi7.2 | (unfold tb at *; omega))); (rw [e9]; exact (iσ.t7 kt)))
          have fσ22_1 : Fx [647] gr σ σ22_1 := fσ.tr (Sk.fx (by rw [eσ22_1]; exact Sk.pJ (by rw [fcdO kt (by decide)]; decide)))
          have kp6 : gI σ22_1 t 12 = gI σ t 12 := by rw [eσ22_1]
          refine ⟨by (first | omega | with_reducible assumption | with_reducible exact rng_toInt _ | with_reducible exact rng_wr _ | (unfold rng; omega) | (unfold rng at *; omega) | assumption), ?_⟩
          exact hQ σ22_1 1 iσ22_1 fσ22_1 (by (first | omega | with_reducible assumption | with_reducible exact rng_toInt _ | with_reducible exact rng_wr _ | (unfold rng; omega) | (unfold rng at *; omega) | assumption))
      · rw [if_neg hc1]
        unfold w_X9_hasGrown_16
        refine ⟨t, hv1, fun kk_t_4 => ?_⟩
        have q7 := iσ.tkr kt (by omega) (by omega)
        have q8 := I_10_11 iσ.1 kt
        refine ⟨by (first | omega | with_reducible assumption | with_reducible exact rng_toInt _ | with_reducible exact rng_wr _ | (unfold rng; omega) | (unfold rng at *; omega) | assumption), ?_⟩
        obtain ⟨b, eb, fb⟩ := P_9_4 iσ.1 kth
        have mb : kO σ b 112 := iσ.1.kd kth rfl eb rfl
        refine ⟨b, eb, fun kk_b => ?_⟩
        refine ⟨⟨by (first | omega | with_reducible assumption | with_reducible exact rng_toInt _ | with_reducible exact rng_wr _ | (unfold rng; omega) | (unfold rng at *; omega) | assumption), by (first | omega | with_reducible assumption | with_reducible exact rng_toInt _ | with_reducible exact rng_wr _ | (unfold rng; omega) | (unfold rng at *; omega) | assumption)⟩, ?_⟩
        have n16b_1 := iσ.n16
        obtain ⟨b_1, eb_1, mb_1, fb_1⟩ := P_112 iσ mb (k := (gI σ t 11 + v4).toNat) (by (first | omega | with_reducible assumption | with_reducible exact rng_toInt _ | with_reducible exact rng_wr _ | (unfold rng; omega) | (unfold rng at *; omega) | assumption))
        refine ⟨b_1, eb_1, fun kk_b_1 => ?_⟩
        refine i_J9_min_f86c9 iσ (fun r17 pσ16 => ?_)
        intro xσ16
        refine ⟨by (first | omega | with_reducible assumption | with_reducible exact rng_toInt _ | with_reducible exact rng_wr _ | (unfold rng; omega) | (unfold rng at *; omega) | assumption), ?_⟩
        exact ih7 r17 (v4 + 1) (⟨by omega, by rcases pσ16 with e9 | e9 <;> rw [e9]; exact hi7.2; exact iσ.t4 mb_1⟩) (by (first | omega | with_reducible assumption | with_reducible exact rng_toInt _ | with_reducible exact rng_wr _ | (unfold rng; omega) | (unfold rng at *; omega) | assumption))
  exact ⟨_, Lp7 _ _ _ (⟨by omega, tbE iσ⟩) (Nat.lt_succ_self _)⟩
set_option maxHeartbeats 1000000 in
theorem i_X9_nextChannel {σ : Sg} {pl : Nat} {gq ci gr nc : Nat → Nat} {ot : Nat → Nat → Int} {LL : Nat → List Nat} {N nu : Nat → Nat} {th : Nat} {v1 : Option Nat} (iσ : IV σ pl gq ci gr nc ot LL N nu) (kth : kO σ th 9) {t : Nat} (hv1 : v1 = some t) (kt : kO σ t 10) (ht : gq t = 1) (hl : ci t < nu 15) {Q : Sg → Option Nat → Prop} {X : Sg → String → Prop} (hQ : ∀ (σ' : Sg) (r : Option Nat), IV σ' pl gq ci gr nc ot LL N nu → Fx [653] gr σ σ' → (∀ c9, r = some c9 → kO σ c9 2 ∧ ci c9 < nu 16 ∧ gP σ c9 0 ≠ none) → Q σ' r) : wp_X9_nextChannel th v1 σ Q X := by
  have fσ : Fx [653] gr σ σ := Fx.rf
  have n16 := iσ.n16
  unfold wp_X9_nextChannel
  unfold w_X9_nextChannel_0
  have Lp2 : ∀ (fu2 : Nat) (v2 : Int), (0 ≤ v2 ∧ v2 ≤ 512) → ((512 - v2).toNat) < fu2 → wl_X9_nextChannel_2 th Q X fu2 σ v1 v2 := by
    intro fu2
    induction fu2 with
    | zero => intro _ _ h9; omega
    | succ fu2 ih2 =>
      intro v2 hi2 hm2
      unfold wl_X9_nextChannel_2
      unfold w_X9_nextChannel_2
      refine ⟨t, hv1, fun kk_t => ?_⟩
      have q2 := iσ.tkr kt (by omega) (by omega)
      have q3 := I_10_12 iσ.1 kt
      by_cases hc1 : v2 ≥ gI σ t 12
      · rw [if_pos hc1]
        unfold w_X9_nextChannel_75
        exact hQ σ none iσ fσ (fun _ q => nomatch q)
      · rw [if_neg hc1]
        unfold w_X9_nextChannel_10
        refine ⟨t, hv1, fun kk_t_1 => ?_⟩
        have q4 := I_10_13 iσ.1 kt
        refine ⟨by (first | omega | with_reducible assumption | with_reducible exact rng_toInt _ | with_reducible exact rng_wr _ | (unfold rng; omega) | (unfold rng at *; omega) | assumption), ?_⟩
        refine ⟨by (first | omega | with_reducible assumption | with_reducible exact rng_toInt _ | with_reducible exact rng_wr _ | (unfold rng; omega) | (unfold rng at *; omega) | assumption), ?_⟩
        have q5 := remI_b (x := (gI σ t 13 + v2)) (y := (gI σ t 12)) (by (first | omega | with_reducible assumption | with_reducible exact rng_toInt _ | with_reducible exact rng_wr _ | (unfold rng; omega) | (unfold rng at *; omega) | assumption)) (by (first | omega | with_reducible assumption | with_reducible exact rng_toInt _ | with_reducible exact rng_wr _ | (unfold rng; omega) | (unfold rng at *; omega) | assumption))
        have q6 := iσ.tkr kt (by omega) (by omega)
        have q7 := I_10_11 iσ.1 kt
        refine ⟨by (first | omega | with_reducible assumption | with_reducible exact rng_toInt _ | with_reducible exact rng_wr _ | (unfold rng; omega) | (unfold rng at *; omega) | assumption), ?_⟩
        obtain ⟨b, eb, fb⟩ := P_9_4 iσ.1 kth
        have mb : kO σ b 112 := iσ.1.kd kth rfl eb rfl
        refine ⟨b, eb, fun kk_b => ?_⟩
        refine ⟨⟨by (first | omega | with_reducible assumption | with_reducible exact rng_toInt _ | with_reducible exact rng_wr _ | (unfold rng; omega) | (unfold rng at *; omega) | assumption), by (first | omega | with_reducible assumption | with_reducible exact rng_toInt _ | with_reducible exact rng_wr _ | (unfold rng; omega) | (unfold rng at *; omega) | assumption)⟩, ?_⟩
        have n16b_1 := iσ.n16
        obtain ⟨b_1, eb_1, mb_1, fb_1⟩ := P_112 iσ mb (k := (gI σ t 11 + (remI (gI σ t 13 + v2) (gI σ t 12))).toNat) (by (first | omega | with_reducible assumption | with_reducible exact rng_toInt _ | with_reducible exact rng_wr _ | (unfold rng; omega) | (unfold rng at *; omega) | assumption))
        refine ⟨b_1, eb_1, fun kk_b_1 => ?_⟩
        obtain ⟨b_2, eb_2, fb_2⟩ := P_2_0 iσ.1 mb_1
        have mb_2 : kO σ b_2 1 := iσ.1.kd mb_1 rfl eb_2 rfl
        refine ⟨b_2, eb_2, fun kk_b_2 => ?_⟩
        have q9 := iσ.size mb_2
        have qz9 := iσ.sz mb_2.1
        by_cases hc8 : gI σ b_2 2 ≤ 0
        · rw [if_pos hc8]
          unfold w_X9_nextChannel_69
          refine ⟨by (first | omega | with_reducible assumption | with_reducible exact rng_toInt _ | with_reducible exact rng_wr _ | (unfold rng; omega) | (unfold rng at *; omega) | assumption), ?_⟩
          exact ih2 (v2 + 1) (by (first | omega | with_reducible assumption | with_reducible exact rng_toInt _ | with_reducible exact rng_wr _ | (unfold rng; omega) | (unfold rng at *; omega) | assumption)) (by (first | omega | with_reducible assumption | with_reducible exact rng_toInt _ | with_reducible exact rng_wr _ | (unfold rng; omega) | (unfold rng at *; omega) | assumption))
        · rw [if_neg hc8]
          unfold w_X9_nextChannel_46
          refine ⟨b_1, eb_1, fun kk_b_1_1 => ?_⟩
          have q11 := I_2_5 iσ.1 mb_1
          by_cases hc10 : gI σ b_1 5 ≠ 0
          · rw [if_pos hc10]
            unfold w_X9_nextChannel_69
            refine ⟨by (first | omega | with_reducible assumption | with_reducible exact rng_toInt _ | with_reducible exact rng_wr _ | (unfold rng; omega) | (unfold rng at *; omega) | assumption), ?_⟩
            exact ih2 (v2 + 1) (by (first | omega | with_reducible assumption | with_reducible exact rng_toInt _ | with_reducible exact rng_wr _ | (unfold rng; omega) | (unfold rng at *; omega) | assumption)) (by (first | omega | with_reducible assumption | with_reducible exact rng_toInt _ | with_reducible exact rng_wr _ | (unfold rng; omega) | (unfold rng at *; omega) | assumption))
          · rw [if_neg hc10]
            have hc10q := Classical.not_not.mp hc10
            unfold w_X9_nextChannel_54
            refine ⟨by (first | omega | with_reducible assumption | with_reducible exact rng_toInt _ | with_reducible exact rng_wr _ | (unfold rng; omega) | (unfold rng at *; omega) | assumption), ?_⟩
            refine ⟨t, hv1, fun kk_t_2 => ?_⟩
            refine ⟨by (first | omega | with_reducible assumption | with_reducible exact rng_toInt _ | with_reducible exact rng_wr _ | (unfold rng; omega) | (unfold rng at *; omega) | assumption), ?_⟩
            intro σ16 eσ16
            have xσ16 : Ext σ σ16 := by rw [eσ16]; exact fun _ h => ⟨h, rfl, rfl⟩
            have q12 := remI_b (x := ((remI (gI σ t 13 + v2) (gI σ t 12)) + 1)) (y := (gI σ t 12)) (by (first | omega | with_reducible assumption | with_reducible exact rng_toInt _ | with_reducible exact rng_wr _ | (unfold rng; omega) | (unfold rng at *; omega) | assumption)) (by (first | omega | with_reducible assumption | with_reducible exact rng_toInt _ | with_reducible exact rng_wr _ | (unfold rng; omega) | (unfold rng at *; omega) | assumption))
            have iσ16 : IV σ16 pl gq ci gr nc ot LL N nu := by rw [eσ16]; exact iσ.wO kt (by decide) (show (0 : Int) ≤ (remI ((remI (gI σ t 13 + v2) (gI σ t 12)) + 1) (gI σ t 12)) ∧ (remI ((remI (gI σ t 13 + v2) (gI σ t 12)) + 1) (gI σ t 12)) ≤ 511 from ⟨by (first | omega | with_reducible assumption | with_reducible exact rng_toInt _ | with_reducible exact rng_wr _ | (unfold rng; omega) | (unfold rng at *; omega) | assumption), by (first | omega | with_reducible assumption | with_reducible exact rng_toInt _ | with_reducible exact rng_wr _ | (unfold rng; omega) | (unfold rng at *; omega) | assumption)⟩)
            have fσ16 : Fx [653] gr σ σ16 := fσ.tr (Sk.fx (by rw [eσ16]; exact Sk.pI (by rw [fcdO kt (by decide)]; decide)))
            have wσ16 : gI σ16 t 13 = (remI ((remI (gI σ t 13 + v2) (gI σ t 12)) + 1) (gI σ t 12)) := by rw [eσ16]; exact up2_s _ _ _ _
            have kp13 : gI σ16 b_1 5 = gI σ b_1 5 := by rw [eσ16]; exact up2_n _ _ (fun q => absurd q.2 (by decide))
            have kp14 : gI σ16 b_2 2 = gI σ b_2 2 := by rw [eσ16]; exact up2_n _ _ (fun q => absurd q.2 (by decide))
            have kp15 : gI σ16 t 11 = gI σ t 11 := by rw [eσ16]; exact up2_n _ _ (fun q => absurd q.2 (by decide))
            have kp16 : gI σ16 t 12 = gI σ t 12 := by rw [eσ16]; exact up2_n _ _ (fun q => absurd q.2 (by decide))
            have kp17 : gP σ16 b (gI σ t 11 + (remI (gI σ t 13 + v2) (gI σ t 12))).toNat = gP σ b (gI σ t 11 + (remI (gI σ t 13 + v2) (gI σ t 12))).toNat := by rw [eσ16]
            have kp18 : gP σ16 b_1 0 = gP σ b_1 0 := by rw [eσ16]
            have kp19 : gP σ16 th 4 = gP σ th 4 := by rw [eσ16]
            exact hQ σ16 (gP σ b (gI σ t 11 + (remI (gI σ t 13 + v2) (gI σ t 12))).toNat) iσ16 fσ16 (fun c9 q => by rw [eb_1] at q; cases q; exact ⟨mb_1, by omega, by obtain ⟨b9, e9, _⟩ := P_2_0 iσ.1 mb_1; rw [e9]; simp⟩)
  exact ⟨_, Lp2 _ _ (by (first | omega | with_reducible assumption | with_reducible exact rng_toInt _ | with_reducible exact rng_wr _ | (unfold rng; omega) | (unfold rng at *; omega) | assumption)) (Nat.lt_succ_self _)⟩

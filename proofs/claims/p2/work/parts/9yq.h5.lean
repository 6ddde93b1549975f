set_option maxHeartbeats 1000000 in
theorem v_X12_fault {σ : Sg} {th n : Nat} {t : Int} {Q : Sg → Int → Prop} {X : Sg → String → Prop} (h : HV σ th n t) (hn : n < 512) (hQ : ∀ σ' r, HV σ' th (n + 1) t → Q σ' r) : wp_X12_fault th σ Q X := by
  obtain ⟨pl, gq, ci, gr, nc, ot, LL, N, nu, J, S, R, D, W, iσ, ha, hu, hN, ht⟩ := h
  obtain ⟨kth, ⟨h4, kJ, hJ⟩, ⟨hS, kS, gS1, gS2, nc1⟩, ⟨hR, kR⟩, ⟨hD, kD⟩, ⟨hW, kW⟩⟩ := id ha
  obtain ⟨⟨n5, n14, n44, n74⟩, z80, ⟨b1, b5, b3⟩, d2⟩ := id hN
  have t3 := T3_le hn
  have t3s := T3_s n
  exact i_X12_fault iσ kth  (fun r _ => hQ σ r (HV.same ha hu hN iσ (Fx.rf (L := [])) (by decide) rfl rfl (Nat.le_succ _) ht))
set_option maxHeartbeats 1000000 in
theorem v_X12_operator {σ : Sg} {th n : Nat} {t : Int} {v1 : Int} {v2 : Int} {Q : Sg → Int64 → Prop} {X : Sg → String → Prop} (h : HV σ th n t) (hn : n < 512) (hQ : ∀ σ' r, HV σ' th (n + 1) t → Q σ' r) (hX : ∀ σ' E, HV σ' th (n + 1) t → (E = "java/lang/IndexOutOfBoundsException" ∨ E = "java/lang/IllegalArgumentException") → X σ' E) : wp_X12_operator th v1 v2 σ Q X := by
  obtain ⟨pl, gq, ci, gr, nc, ot, LL, N, nu, J, S, R, D, W, iσ, ha, hu, hN, ht⟩ := h
  obtain ⟨kth, ⟨h4, kJ, hJ⟩, ⟨hS, kS, gS1, gS2, nc1⟩, ⟨hR, kR⟩, ⟨hD, kD⟩, ⟨hW, kW⟩⟩ := id ha
  obtain ⟨⟨n5, n14, n44, n74⟩, z80, ⟨b1, b5, b3⟩, d2⟩ := id hN
  have t3 := T3_le hn
  have t3s := T3_s n
  exact i_X12_operator iσ kth h4 kJ hJ (by omega) (fun r _ => hQ σ r (HV.same ha hu hN iσ (Fx.rf (L := [])) (by decide) rfl rfl (Nat.le_succ _) ht)) (fun σx LLx Nx nux E ix cx ux px => hX σx E (by obtain ⟨e1, e2, e3⟩ := px; subst e1 e2; exact HV.same ha hu hN ix cx (by decide) (ux.1 15 (by decide)) (ux.1 17 (by decide)) ux.2.2 ((cx.O kth (by decide)).1.trans ht)) px.2.2)
set_option maxHeartbeats 1000000 in
theorem v_X12_visible {σ : Sg} {th n : Nat} {t : Int} {v1 : Int} {Q : Sg → Int → Prop} {X : Sg → String → Prop} (h : HV σ th n t) (hn : n < 512) (hQ : ∀ σ' r, HV σ' th (n + 1) t → Q σ' r) (hX : ∀ σ' E, HV σ' th (n + 1) t → (E = "java/lang/IndexOutOfBoundsException") → X σ' E) : wp_X12_visible th v1 σ Q X := by
  obtain ⟨pl, gq, ci, gr, nc, ot, LL, N, nu, J, S, R, D, W, iσ, ha, hu, hN, ht⟩ := h
  obtain ⟨kth, ⟨h4, kJ, hJ⟩, ⟨hS, kS, gS1, gS2, nc1⟩, ⟨hR, kR⟩, ⟨hD, kD⟩, ⟨hW, kW⟩⟩ := id ha
  obtain ⟨⟨n5, n14, n44, n74⟩, z80, ⟨b1, b5, b3⟩, d2⟩ := id hN
  have t3 := T3_le hn
  have t3s := T3_s n
  exact i_X12_visible iσ kth h4 kJ hJ hR kR (by omega) (fun r _ => hQ σ r (HV.same ha hu hN iσ (Fx.rf (L := [])) (by decide) rfl rfl (Nat.le_succ _) ht)) (fun σx LLx Nx nux E ix cx ux px => hX σx E (by obtain ⟨e1, e2, e3⟩ := px; subst e1 e2; exact HV.same ha hu hN ix cx (by decide) (ux.1 15 (by decide)) (ux.1 17 (by decide)) ux.2.2 ((cx.O kth (by decide)).1.trans ht)) px.2.2)
set_option maxHeartbeats 1000000 in
theorem v_X12_row {σ : Sg} {th n : Nat} {t : Int} {v1 : Int} {v2 : Int} {v3 : Int} {Q : Sg → Int64 → Prop} {X : Sg → String → Prop} (h : HV σ th n t) (hn : n < 512) (h2 : rng v2) (hQ : ∀ σ' r, HV σ' th (n + 1) t → Q σ' r) (hX : ∀ σ' E, HV σ' th (n + 1) t → (E = "java/lang/IndexOutOfBoundsException") → X σ' E) : wp_X12_row th v1 v2 v3 σ Q X := by
  obtain ⟨pl, gq, ci, gr, nc, ot, LL, N, nu, J, S, R, D, W, iσ, ha, hu, hN, ht⟩ := h
  obtain ⟨kth, ⟨h4, kJ, hJ⟩, ⟨hS, kS, gS1, gS2, nc1⟩, ⟨hR, kR⟩, ⟨hD, kD⟩, ⟨hW, kW⟩⟩ := id ha
  obtain ⟨⟨n5, n14, n44, n74⟩, z80, ⟨b1, b5, b3⟩, d2⟩ := id hN
  have t3 := T3_le hn
  have t3s := T3_s n
  exact i_X12_row iσ kth h4 kJ hJ hR kR (by omega) h2 (fun r _ => hQ σ r (HV.same ha hu hN iσ (Fx.rf (L := [])) (by decide) rfl rfl (Nat.le_succ _) ht)) (fun σx LLx Nx nux E ix cx ux px => hX σx E (by obtain ⟨e1, e2, e3⟩ := px; subst e1 e2; exact HV.same ha hu hN ix cx (by decide) (ux.1 15 (by decide)) (ux.1 17 (by decide)) ux.2.2 ((cx.O kth (by decide)).1.trans ht)) px.2.2)
set_option maxHeartbeats 1000000 in
theorem v_X12_lineage {σ : Sg} {th n : Nat} {t : Int} {v1 : Int} {v2 : Int} {v3 : Int} {Q : Sg → Int → Prop} {X : Sg → String → Prop} (h : HV σ th n t) (hn : n < 512) (h2 : rng v2) (hQ : ∀ σ' r, HV σ' th (n + 1) t → Q σ' r) (hX : ∀ σ' E, HV σ' th (n + 1) t → (E = "java/lang/IndexOutOfBoundsException") → X σ' E) : wp_X12_lineage th v1 v2 v3 σ Q X := by
  obtain ⟨pl, gq, ci, gr, nc, ot, LL, N, nu, J, S, R, D, W, iσ, ha, hu, hN, ht⟩ := h
  obtain ⟨kth, ⟨h4, kJ, hJ⟩, ⟨hS, kS, gS1, gS2, nc1⟩, ⟨hR, kR⟩, ⟨hD, kD⟩, ⟨hW, kW⟩⟩ := id ha
  obtain ⟨⟨n5, n14, n44, n74⟩, z80, ⟨b1, b5, b3⟩, d2⟩ := id hN
  have t3 := T3_le hn
  have t3s := T3_s n
  exact i_X12_lineage iσ kth h4 kJ hJ hR kR (by omega) h2 (fun r _ => hQ σ r (HV.same ha hu hN iσ (Fx.rf (L := [])) (by decide) rfl rfl (Nat.le_succ _) ht)) (fun σx LLx Nx nux E ix cx ux px => hX σx E (by obtain ⟨e1, e2, e3⟩ := px; subst e1 e2; exact HV.same ha hu hN ix cx (by decide) (ux.1 15 (by decide)) (ux.1 17 (by decide)) ux.2.2 ((cx.O kth (by decide)).1.trans ht)) px.2.2)
set_option maxHeartbeats 1000000 in
theorem v_X12_task {σ : Sg} {th n : Nat} {t : Int} {v1 : Int} {v2 : Int} {Q : Sg → Int64 → Prop} {X : Sg → String → Prop} (h : HV σ th n t) (hn : n < 512) (hQ : ∀ σ' r, HV σ' th (n + 1) t → Q σ' r) (hX : ∀ σ' E, HV σ' th (n + 1) t → (E = "java/lang/IndexOutOfBoundsException" ∨ E = "java/lang/IllegalStateException" ∨ E = "java/lang/IllegalArgumentException") → X σ' E) : wp_X12_task th v1 v2 σ Q X := by
  obtain ⟨pl, gq, ci, gr, nc, ot, LL, N, nu, J, S, R, D, W, iσ, ha, hu, hN, ht⟩ := h
  obtain ⟨kth, ⟨h4, kJ, hJ⟩, ⟨hS, kS, gS1, gS2, nc1⟩, ⟨hR, kR⟩, ⟨hD, kD⟩, ⟨hW, kW⟩⟩ := id ha
  obtain ⟨⟨n5, n14, n44, n74⟩, z80, ⟨b1, b5, b3⟩, d2⟩ := id hN
  have t3 := T3_le hn
  have t3s := T3_s n
  exact i_X12_task iσ kth h4 kJ hJ hR kR hD kD hW kW hu (by omega) (fun r _ => hQ σ r (HV.same ha hu hN iσ (Fx.rf (L := [])) (by decide) rfl rfl (Nat.le_succ _) ht)) (fun σx LLx Nx nux E ix cx ux px => hX σx E (by obtain ⟨e1, e2, e3⟩ := px; subst e1 e2; exact HV.same ha hu hN ix cx (by decide) (ux.1 15 (by decide)) (ux.1 17 (by decide)) ux.2.2 ((cx.O kth (by decide)).1.trans ht)) px.2.2)
set_option maxHeartbeats 1000000 in
theorem v_X12_channel {σ : Sg} {th n : Nat} {t : Int} {v1 : Int} {v2 : Int} {Q : Sg → Int64 → Prop} {X : Sg → String → Prop} (h : HV σ th n t) (hn : n < 512) (hQ : ∀ σ' r, HV σ' th (n + 1) t → Q σ' r) (hX : ∀ σ' E, HV σ' th (n + 1) t → (E = "java/lang/IndexOutOfBoundsException" ∨ E = "java/lang/IllegalStateException" ∨ E = "java/lang/IllegalArgumentException") → X σ' E) : wp_X12_channel th v1 v2 σ Q X := by
  obtain ⟨pl, gq, ci, gr, nc, ot, LL, N, nu, J, S, R, D, W, iσ, ha, hu, hN, ht⟩ := h
  obtain ⟨kth, ⟨h4, kJ, hJ⟩, ⟨hS, kS, gS1, gS2, nc1⟩, ⟨hR, kR⟩, ⟨hD, kD⟩, ⟨hW, kW⟩⟩ := id ha
  obtain ⟨⟨n5, n14, n44, n74⟩, z80, ⟨b1, b5, b3⟩, d2⟩ := id hN
  have t3 := T3_le hn
  have t3s := T3_s n
  exact i_X12_channel iσ kth hR kR hD kD (by omega) (fun r _ => hQ σ r (HV.same ha hu hN iσ (Fx.rf (L := [])) (by decide) rfl rfl (Nat.le_succ _) ht)) (fun σx LLx Nx nux E ix cx ux px => hX σx E (by obtain ⟨e1, e2, e3⟩ := px; subst e1 e2; exact HV.same ha hu hN ix cx (by decide) (ux.1 15 (by decide)) (ux.1 17 (by decide)) ux.2.2 ((cx.O kth (by decide)).1.trans ht)) px.2.2)
set_option maxHeartbeats 1000000 in
theorem v_X12_records {σ : Sg} {th n : Nat} {t : Int} {v1 : Int} {v2 : Int64} {Q : Sg → Int → Prop} {X : Sg → String → Prop} (h : HV σ th n t) (hn : n < 512) (hQ : ∀ σ' r, HV σ' th (n + 1) t → Q σ' r) (hX : ∀ σ' E, HV σ' th (n + 1) t → (E = "java/lang/IndexOutOfBoundsException" ∨ E = "java/lang/IllegalStateException" ∨ E = "java/lang/IllegalArgumentException") → X σ' E) : wp_X12_records th v1 v2 σ Q X := by
  obtain ⟨pl, gq, ci, gr, nc, ot, LL, N, nu, J, S, R, D, W, iσ, ha, hu, hN, ht⟩ := h
  obtain ⟨kth, ⟨h4, kJ, hJ⟩, ⟨hS, kS, gS1, gS2, nc1⟩, ⟨hR, kR⟩, ⟨hD, kD⟩, ⟨hW, kW⟩⟩ := id ha
  obtain ⟨⟨n5, n14, n44, n74⟩, z80, ⟨b1, b5, b3⟩, d2⟩ := id hN
  have t3 := T3_le hn
  have t3s := T3_s n
  exact i_X12_records iσ kth h4 kJ hJ hR kR hD kD (by omega) (fun r _ => hQ σ r (HV.same ha hu hN iσ (Fx.rf (L := [])) (by decide) rfl rfl (Nat.le_succ _) ht)) (fun σx LLx Nx nux E ix cx ux px => hX σx E (by obtain ⟨e1, e2, e3⟩ := px; subst e1 e2; exact HV.same ha hu hN ix cx (by decide) (ux.1 15 (by decide)) (ux.1 17 (by decide)) ux.2.2 ((cx.O kth (by decide)).1.trans ht)) px.2.2)
set_option maxHeartbeats 1000000 in
theorem v_X12_told {σ : Sg} {th n : Nat} {t : Int} {v1 : Int} {Q : Sg → Int → Prop} {X : Sg → String → Prop} (h : HV σ th n t) (hn : n < 512) (hQ : ∀ σ' r, HV σ' th (n + 1) t → Q σ' r) : wp_X12_told th v1 σ Q X := by
  obtain ⟨pl, gq, ci, gr, nc, ot, LL, N, nu, J, S, R, D, W, iσ, ha, hu, hN, ht⟩ := h
  obtain ⟨kth, ⟨h4, kJ, hJ⟩, ⟨hS, kS, gS1, gS2, nc1⟩, ⟨hR, kR⟩, ⟨hD, kD⟩, ⟨hW, kW⟩⟩ := id ha
  obtain ⟨⟨n5, n14, n44, n74⟩, z80, ⟨b1, b5, b3⟩, d2⟩ := id hN
  have t3 := T3_le hn
  have t3s := T3_s n
  exact i_X12_told iσ kth h4 kJ hJ hR kR hD kD (fun r _ => hQ σ r (HV.same ha hu hN iσ (Fx.rf (L := [])) (by decide) rfl rfl (Nat.le_succ _) ht))
set_option maxHeartbeats 1000000 in
theorem v_X12_close {σ : Sg} {th n : Nat} {t : Int} {v1 : Int} {Q : Sg → Int → Prop} {X : Sg → String → Prop} (h : HV σ th n t) (hn : n < 512) (hQ : ∀ σ' r, HV σ' th (n + 1) t → Q σ' r) (hX : ∀ σ' E, HV σ' th (n + 1) t → (E = "java/lang/IndexOutOfBoundsException" ∨ E = "java/lang/IllegalStateException") → X σ' E) : wp_X12_close th v1 σ Q X := by
  obtain ⟨pl, gq, ci, gr, nc, ot, LL, N, nu, J, S, R, D, W, iσ, ha, hu, hN, ht⟩ := h
  obtain ⟨kth, ⟨h4, kJ, hJ⟩, ⟨hS, kS, gS1, gS2, nc1⟩, ⟨hR, kR⟩, ⟨hD, kD⟩, ⟨hW, kW⟩⟩ := id ha
  obtain ⟨⟨n5, n14, n44, n74⟩, z80, ⟨b1, b5, b3⟩, d2⟩ := id hN
  have t3 := T3_le hn
  have t3s := T3_s n
  exact i_X12_close iσ kth h4 kJ hJ (by omega) (fun σ' r i f _ => hQ σ' r (HV.same ha hu hN i f (by decide) rfl rfl (Nat.le_succ _) ((f.O kth (by decide)).1.trans ht))) (fun σx LLx Nx nux E ix cx ux px => hX σx E (by obtain ⟨e1, e2, e3⟩ := px; subst e1 e2; exact HV.same ha hu hN ix cx (by decide) (ux.1 15 (by decide)) (ux.1 17 (by decide)) ux.2.2 ((cx.O kth (by decide)).1.trans ht)) px.2.2)
set_option maxHeartbeats 1000000 in
theorem v_X12_crash {σ : Sg} {th n : Nat} {t : Int} {v1 : Int} {Q : Sg → Unit → Prop} {X : Sg → String → Prop} (h : HV σ th n t) (hn : n < 512) (h1 : rng v1) (hQ : ∀ σ' r, HV σ' th (n + 1) t → Q σ' r) (hX : ∀ σ' E, HV σ' th (n + 1) t → (E = "java/lang/IllegalStateException" ∨ E = "java/lang/IllegalArgumentException") → X σ' E) : wp_X12_crash th v1 σ Q X := by
  obtain ⟨pl, gq, ci, gr, nc, ot, LL, N, nu, J, S, R, D, W, iσ, ha, hu, hN, ht⟩ := h
  obtain ⟨kth, ⟨h4, kJ, hJ⟩, ⟨hS, kS, gS1, gS2, nc1⟩, ⟨hR, kR⟩, ⟨hD, kD⟩, ⟨hW, kW⟩⟩ := id ha
  obtain ⟨⟨n5, n14, n44, n74⟩, z80, ⟨b1, b5, b3⟩, d2⟩ := id hN
  have t3 := T3_le hn
  have t3s := T3_s n
  exact i_X12_crash iσ kth hR kR hD kD (by omega) h1 (fun σ' r i f _ => hQ σ' r (HV.same ha hu hN i f (by decide) rfl rfl (Nat.le_succ _) ((f.O kth (by decide)).1.trans ht))) (fun σx LLx Nx nux E ix cx ux px => hX σx E (by obtain ⟨e1, e2, e3⟩ := px; subst e1 e2; exact HV.same ha hu hN ix cx (by decide) (ux.1 15 (by decide)) (ux.1 17 (by decide)) ux.2.2 ((cx.O kth (by decide)).1.trans ht)) px.2.2)
set_option maxHeartbeats 1000000 in
theorem v_X12_give {σ : Sg} {th n : Nat} {t : Int} {v1 : Int} {v2 : Int} {v3 : Int64} {v5 : Int64} {v7 : Int64} {v9 : Int64} {Q : Sg → Int → Prop} {X : Sg → String → Prop} (h : HV σ th n t) (hn : n < 512) (hQ : ∀ σ' r, HV σ' th (n + 1) t → Q σ' r) (hX : ∀ σ' E, HV σ' th (n + 1) t → (E = "java/lang/IndexOutOfBoundsException" ∨ E = "java/lang/IllegalStateException" ∨ E = "java/lang/IllegalArgumentException" ∨ E = "java/lang/UnsupportedOperationException") → X σ' E) : wp_X12_give th v1 v2 v3 v5 v7 v9 σ Q X := by
  obtain ⟨pl, gq, ci, gr, nc, ot, LL, N, nu, J, S, R, D, W, iσ, ha, hu, hN, ht⟩ := h
  obtain ⟨kth, ⟨h4, kJ, hJ⟩, ⟨hS, kS, gS1, gS2, nc1⟩, ⟨hR, kR⟩, ⟨hD, kD⟩, ⟨hW, kW⟩⟩ := id ha
  obtain ⟨⟨n5, n14, n44, n74⟩, z80, ⟨b1, b5, b3⟩, d2⟩ := id hN
  have t3 := T3_le hn
  have t3s := T3_s n
  exact i_X12_give iσ kth h4 kJ hJ (by omega) (fun σ' r i f _ => hQ σ' r (HV.same ha hu hN i f (by decide) rfl rfl (Nat.le_succ _) ((f.O kth (by decide)).1.trans ht))) (fun σx LLx Nx nux E ix cx ux px => hX σx E (by obtain ⟨e1, e2, e3⟩ := px; subst e1 e2; exact HV.same ha hu hN ix cx (by decide) (ux.1 15 (by decide)) (ux.1 17 (by decide)) ux.2.2 ((cx.O kth (by decide)).1.trans ht)) px.2.2)
set_option maxHeartbeats 1000000 in
theorem v_X12_feed {σ : Sg} {th n : Nat} {t : Int} {v1 : Int64} {v3 : Int} {Q : Sg → Int → Prop} {X : Sg → String → Prop} (h : HV σ th n t) (hn : n < 512) (hQ : ∀ σ' r, HV σ' th (n + 1) (t + v3) → (r = t + v3 ∧ 1 ≤ v3 ∧ v3 ≤ 8 ∧ t + v3 ≤ 1500) → Q σ' r) (hX : ∀ σ' E, HV σ' th (n + 1) t → ((E = "java/lang/IllegalArgumentException" ∧ (v3 < 1 ∨ 8 < v3)) ∨ (E = "java/lang/UnsupportedOperationException" ∧ 1 ≤ v3 ∧ v3 ≤ 8 ∧ 1500 < t + v3)) → X σ' E) : wp_X12_feed th v1 v3 σ Q X := by
  obtain ⟨pl, gq, ci, gr, nc, ot, LL, N, nu, J, S, R, D, W, iσ, ha, hu, hN, ht⟩ := h
  obtain ⟨kth, ⟨h4, kJ, hJ⟩, ⟨hS, kS, gS1, gS2, nc1⟩, ⟨hR, kR⟩, ⟨hD, kD⟩, ⟨hW, kW⟩⟩ := id ha
  obtain ⟨⟨n5, n14, n44, n74⟩, z80, ⟨b1, b5, b3⟩, d2⟩ := id hN
  have t3 := T3_le hn
  have t3s := T3_s n
  subst ht
  exact i_X12_feed iσ kth (by omega) (fun σ' r i f p => hQ σ' r (HV.same ha hu hN i f (by decide) rfl rfl (Nat.le_succ _) p.1) p.2) (fun σx LLx Nx nux E ix cx ux px => hX σx E (by obtain ⟨e1, e2, e3⟩ := px; subst e1 e2; exact HV.same ha hu hN ix cx (by decide) (ux.1 15 (by decide)) (ux.1 17 (by decide)) ux.2.2 e3.2) px.2.2.1)
set_option maxHeartbeats 1000000 in
theorem v_X12_mark {σ : Sg} {th n : Nat} {t : Int} {Q : Sg → Int → Prop} {X : Sg → String → Prop} (h : HV σ th n t) (hn : n < 512) (hQ : ∀ σ' r, HV σ' th (n + 1) t → Q σ' r) (hX : ∀ σ' E, HV σ' th (n + 1) t → (E = "java/lang/IllegalStateException") → X σ' E) : wp_X12_mark th σ Q X := by
  obtain ⟨pl, gq, ci, gr, nc, ot, LL, N, nu, J, S, R, D, W, iσ, ha, hu, hN, ht⟩ := h
  obtain ⟨kth, ⟨h4, kJ, hJ⟩, ⟨hS, kS, gS1, gS2, nc1⟩, ⟨hR, kR⟩, ⟨hD, kD⟩, ⟨hW, kW⟩⟩ := id ha
  obtain ⟨⟨n5, n14, n44, n74⟩, z80, ⟨b1, b5, b3⟩, d2⟩ := id hN
  have t3 := T3_le hn
  have t3s := T3_s n
  exact i_X12_mark iσ kth hR kR hD kD (by omega) n5 (by omega) (fun σ' r i f p => hQ σ' r (HV.mv i ha f GE.rf (by decide) (hu.fx f kR kW kD (by decide) rfl rfl) hN ⟨⟨n5, n14, n44, n74⟩, z80, by omega, by omega, by omega, by omega⟩ ((f.O kth (by decide)).1.trans ht))) (fun σx LLx Nx nux E ix cx ux px => hX σx E (by obtain ⟨e1, e2, e3⟩ := px; subst e1 e2; exact HV.mv ix ha cx GE.rf (by decide) (hu.fx cx kR kW kD (by decide) (ux.1 15 (by decide)) (ux.1 17 (by decide))) hN ⟨⟨n5, n14, n44, n74⟩, z80, by omega, by have := ux.2.2; omega, by omega, by have := e3.2; omega⟩ ((cx.O kth (by decide)).1.trans ht)) px.2.2.1)
set_option maxHeartbeats 1000000 in
theorem v_X12_start {σ : Sg} {th n : Nat} {t : Int} {v1 : Int} {v2 : Int} {v3 : Int64} {Q : Sg → Int → Prop} {X : Sg → String → Prop} (h : HV σ th n t) (hn : n < 512) (hQ : ∀ σ' r, HV σ' th (n + 1) t → Q σ' r) (hX : ∀ σ' E, HV σ' th (n + 1) t → (E = "java/lang/IllegalStateException" ∨ E = "java/lang/IllegalArgumentException") → X σ' E) : wp_X12_start th v1 v2 v3 σ Q X := by
  obtain ⟨pl, gq, ci, gr, nc, ot, LL, N, nu, J, S, R, D, W, iσ, ha, hu, hN, ht⟩ := h
  obtain ⟨kth, ⟨h4, kJ, hJ⟩, ⟨hS, kS, gS1, gS2, nc1⟩, ⟨hR, kR⟩, ⟨hD, kD⟩, ⟨hW, kW⟩⟩ := id ha
  obtain ⟨⟨n5, n14, n44, n74⟩, z80, ⟨b1, b5, b3⟩, d2⟩ := id hN
  have t3 := T3_le hn
  have t3s := T3_s n
  exact i_X12_start iσ kth h4 kJ hJ hR kR hD kD hW kW hu (by omega) n5 (fun σ' gq' ci' LL' N' nu' r i g f u hn9 p => hQ σ' r (HV.mv i ha f g (by decide) p.2.2.2 hN ⟨⟨p.2.1, (hn9.2.2 14 (by decide) (by decide) (by decide) (by decide)).trans n14, (hn9.2.2 44 (by decide) (by decide) (by decide) (by decide)).trans n44, (hn9.2.2 74 (by decide) (by decide) (by decide) (by decide)).trans n74⟩, fun k a b => (Hn.nz hn9 (by decide) k a b).trans (z80 k a b), by omega, by have := u.1 5 (by decide); omega, by have := hn9.2.2 3 (by decide) (by decide) (by decide) (by decide); omega, by have := p.2.2.1; omega⟩ ((f.O kth (by decide)).1.trans ht))) (fun σx gqx cix LLx Nx nux E ix gx cx ux px => hX σx E (by obtain ⟨e1, e2, e3⟩ := px; subst e1 e2; exact HV.mv ix ha cx gx (by decide) e3.2.1 hN ⟨⟨n5, n14, n44, n74⟩, z80, by omega, by have := ux.2.2; omega, by omega, by have := e3.2.2; omega⟩ ((cx.O kth (by decide)).1.trans ht)) px.2.2.1)
set_option maxHeartbeats 1000000 in
theorem v_X12_fail {σ : Sg} {th n : Nat} {t : Int} {Q : Sg → Int → Prop} {X : Sg → String → Prop} (h : HV σ th n t) (hn : n < 512) (hQ : ∀ σ' r, HV σ' th (n + 1) t → Q σ' r) (hX : ∀ σ' E, HV σ' th (n + 1) t → (E = "java/lang/IllegalStateException") → X σ' E) : wp_X12_fail th σ Q X := by
  obtain ⟨pl, gq, ci, gr, nc, ot, LL, N, nu, J, S, R, D, W, iσ, ha, hu, hN, ht⟩ := h
  obtain ⟨kth, ⟨h4, kJ, hJ⟩, ⟨hS, kS, gS1, gS2, nc1⟩, ⟨hR, kR⟩, ⟨hD, kD⟩, ⟨hW, kW⟩⟩ := id ha
  obtain ⟨⟨n5, n14, n44, n74⟩, z80, ⟨b1, b5, b3⟩, d2⟩ := id hN
  have t3 := T3_le hn
  have t3s := T3_s n
  exact i_X12_fail iσ kth h4 kJ hJ hR kR hD kD hW kW hu (by omega) n5 (by omega) (fun σ' gq' ci' LL' N' nu' r i g f u hn9 p => hQ σ' r (HV.mv i ha f g (by decide) p.2.2.2 hN ⟨⟨p.2.1, (hn9.2.2 14 (by decide) (by decide) (by decide) (by decide)).trans n14, (hn9.2.2 44 (by decide) (by decide) (by decide) (by decide)).trans n44, (hn9.2.2 74 (by decide) (by decide) (by decide) (by decide)).trans n74⟩, fun k a b => (Hn.nz hn9 (by decide) k a b).trans (z80 k a b), by omega, by have := u.1 5 (by decide); omega, by have := hn9.2.2 3 (by decide) (by decide) (by decide) (by decide); omega, by have := p.2.2.1; omega⟩ ((f.O kth (by decide)).1.trans ht))) (fun σx gqx cix LLx Nx nux E ix gx cx ux px => hX σx E (HV.mv ix ha cx gx (by decide) px.2.2.1 hN ⟨⟨by omega, by omega, by omega, by omega⟩, fun k a b => (px.2.1 k a b).trans (z80 k a b), by omega, by have := ux.2.2; omega, by omega, by have := (cx.O kD (k := 2) (by decide)).1; omega⟩ ((cx.O kth (by decide)).1.trans ht)) px.2.2.2)
set_option maxHeartbeats 1000000 in
theorem v_X12_rescale {σ : Sg} {th n : Nat} {t : Int} {v1 : Int} {Q : Sg → Int → Prop} {X : Sg → String → Prop} (h : HV σ th n t) (hn : n < 512) (hQ : ∀ σ' r, HV σ' th (n + 1) t → Q σ' r) (hX : ∀ σ' E, HV σ' th (n + 1) t → (E = "java/lang/IllegalStateException" ∨ E = "java/lang/IllegalArgumentException") → X σ' E) : wp_X12_rescale th v1 σ Q X := by
  obtain ⟨pl, gq, ci, gr, nc, ot, LL, N, nu, J, S, R, D, W, iσ, ha, hu, hN, ht⟩ := h
  obtain ⟨kth, ⟨h4, kJ, hJ⟩, ⟨hS, kS, gS1, gS2, nc1⟩, ⟨hR, kR⟩, ⟨hD, kD⟩, ⟨hW, kW⟩⟩ := id ha
  obtain ⟨⟨n5, n14, n44, n74⟩, z80, ⟨b1, b5, b3⟩, d2⟩ := id hN
  have t3 := T3_le hn
  have t3s := T3_s n
  exact i_X12_rescale iσ kth h4 kJ hJ hR kR hD kD hW kW hu (by omega) n5 (by omega) (fun σ' gq' ci' LL' N' nu' r i g f u hn9 p => hQ σ' r (HV.mv i ha f g (by decide) p.2.2.2 hN ⟨⟨p.2.1, (hn9.2.2 14 (by decide) (by decide) (by decide) (by decide)).trans n14, (hn9.2.2 44 (by decide) (by decide) (by decide) (by decide)).trans n44, (hn9.2.2 74 (by decide) (by decide) (by decide) (by decide)).trans n74⟩, fun k a b => (Hn.nz hn9 (by decide) k a b).trans (z80 k a b), by omega, by have := u.1 5 (by decide); omega, by have := hn9.2.2 3 (by decide) (by decide) (by decide) (by decide); omega, by have := p.2.2.1; omega⟩ ((f.O kth (by decide)).1.trans ht))) (fun σx gqx cix LLx Nx nux E ix gx cx ux px => hX σx E (HV.mv ix ha cx gx (by decide) px.2.2.1 hN ⟨⟨by omega, by omega, by omega, by omega⟩, fun k a b => (px.2.1 k a b).trans (z80 k a b), by omega, by have := ux.2.2; omega, by omega, by have := (cx.O kD (k := 2) (by decide)).1; omega⟩ ((cx.O kth (by decide)).1.trans ht)) px.2.2.2)
set_option maxHeartbeats 1000000 in
theorem v_X12_reopen {σ : Sg} {th n : Nat} {t : Int} {Q : Sg → Int → Prop} {X : Sg → String → Prop} (h : HV σ th n t) (hn : n < 512) (hQ : ∀ σ' r, HV σ' th (n + 1) t → Q σ' r) (hX : ∀ σ' E, HV σ' th (n + 1) t → (E = "java/lang/IllegalStateException") → X σ' E) : wp_X12_reopen th σ Q X := by
  obtain ⟨pl, gq, ci, gr, nc, ot, LL, N, nu, J, S, R, D, W, iσ, ha, hu, hN, ht⟩ := h
  obtain ⟨kth, ⟨h4, kJ, hJ⟩, ⟨hS, kS, gS1, gS2, nc1⟩, ⟨hR, kR⟩, ⟨hD, kD⟩, ⟨hW, kW⟩⟩ := id ha
  obtain ⟨⟨n5, n14, n44, n74⟩, z80, ⟨b1, b5, b3⟩, d2⟩ := id hN
  have t3 := T3_le hn
  have t3s := T3_s n
  exact i_X12_reopen iσ kth h4 kJ hJ hR kR hD kD hW kW hu (by omega) n5 (by omega) (fun σ' gq' ci' LL' N' nu' r i g f u hn9 p => hQ σ' r (HV.mv i ha f g (by decide) p.2.2.2 hN ⟨⟨p.2.1, (hn9.2.2 14 (by decide) (by decide) (by decide) (by decide)).trans n14, (hn9.2.2 44 (by decide) (by decide) (by decide) (by decide)).trans n44, (hn9.2.2 74 (by decide) (by decide) (by decide) (by decide)).trans n74⟩, fun k a b => (Hn.nz hn9 (by decide) k a b).trans (z80 k a b), by omega, by have := u.1 5 (by decide); omega, by have := hn9.2.2 3 (by decide) (by decide) (by decide) (by decide); omega, by have := p.2.2.1; omega⟩ ((f.O kth (by decide)).1.trans ht))) (fun σx gqx cix LLx Nx nux E ix gx cx ux px => hX σx E (HV.mv ix ha cx gx (by decide) px.2.2.1 hN ⟨⟨by omega, by omega, by omega, by omega⟩, fun k a b => (px.2.1 k a b).trans (z80 k a b), by omega, by have := ux.2.2; omega, by omega, by have := (cx.O kD (k := 2) (by decide)).1; omega⟩ ((cx.O kth (by decide)).1.trans ht)) px.2.2.2)
set_option maxHeartbeats 1000000 in
theorem v_X12_turn {σ : Sg} {th n : Nat} {t : Int} {v1 : Int} {Q : Sg → Int → Prop} {X : Sg → String → Prop} (h : HV σ th n t) (hn : n < 512) (hQ : ∀ σ' r, HV σ' th (n + 1) t → Q σ' r) (hX : ∀ σ' E, HV σ' th (n + 1) t → (E = "java/lang/IllegalStateException" ∨ E = "java/lang/IllegalArgumentException") → X σ' E) : wp_X12_turn th v1 σ Q X := by
  obtain ⟨pl, gq, ci, gr, nc, ot, LL, N, nu, J, S, R, D, W, iσ, ha, hu, hN, ht⟩ := h
  obtain ⟨kth, ⟨h4, kJ, hJ⟩, ⟨hS, kS, gS1, gS2, nc1⟩, ⟨hR, kR⟩, ⟨hD, kD⟩, ⟨hW, kW⟩⟩ := id ha
  obtain ⟨⟨n5, n14, n44, n74⟩, z80, ⟨b1, b5, b3⟩, d2⟩ := id hN
  have t3 := T3_le hn
  have t3s := T3_s n
  exact i_X12_turn iσ kth h4 kJ hJ hR kR hD kD hW kW hu (by omega) (by omega) (by omega) n5 n14 (fun σ' gq' ci' LL' N' nu' r i g f u p => hQ σ' r (HV.mv i ha f g (by decide) p.2.2.2.2 hN ⟨⟨by omega, by omega, by omega, by omega⟩, fun k a b => (p.2.2.2.1 k a b).trans (z80 k a b), by omega, by have := u.2.2; omega, by omega, by have := (f.O kD (k := 2) (by decide)).1; omega⟩ ((f.O kth (by decide)).1.trans ht))) (fun σx gqx cix LLx Nx nux E ix gx cx ux px => hX σx E (by obtain ⟨e1, e2, e3⟩ := px; subst e1 e2; exact HV.mv ix ha cx gx (by decide) e3.2 hN ⟨⟨n5, n14, n44, n74⟩, z80, by omega, by have := ux.2.2; omega, by omega, by have := (cx.O kD (k := 2) (by decide)).1; omega⟩ ((cx.O kth (by decide)).1.trans ht)) px.2.2.1)
set_option maxHeartbeats 1000000 in
theorem v_X12_onePass {σ : Sg} {th n : Nat} {t : Int} {Q : Sg → Int → Prop} {X : Sg → String → Prop} (h : HV σ th n t) (hn : n < 512) (hQ : ∀ σ' r, HV σ' th (n + 1) t → Q σ' r) (hX : ∀ σ' E, HV σ' th (n + 1) t → (E = "java/lang/IllegalStateException") → X σ' E) : wp_X12_onePass th σ Q X := by
  obtain ⟨pl, gq, ci, gr, nc, ot, LL, N, nu, J, S, R, D, W, iσ, ha, hu, hN, ht⟩ := h
  obtain ⟨kth, ⟨h4, kJ, hJ⟩, ⟨hS, kS, gS1, gS2, nc1⟩, ⟨hR, kR⟩, ⟨hD, kD⟩, ⟨hW, kW⟩⟩ := id ha
  obtain ⟨⟨n5, n14, n44, n74⟩, z80, ⟨b1, b5, b3⟩, d2⟩ := id hN
  have t3 := T3_le hn
  have t3s := T3_s n
  exact i_X12_onePass iσ kth h4 kJ hJ hR kR hD kD hW kW hu (by omega) (by omega) (by omega) n44 z80 (fun σ' gq' ci' LL' N' nu' r i g f u p => hQ σ' r (HV.mv i ha f g (by decide) p.2.2.2.2 hN ⟨⟨by omega, by omega, by omega, by omega⟩, p.2.2.2.1, by omega, by have := u.2.2; omega, by omega, by have := (f.O kD (k := 2) (by decide)).1; omega⟩ ((f.O kth (by decide)).1.trans ht))) (fun σx gqx cix LLx Nx nux E ix gx cx ux px => hX σx E (by obtain ⟨e1, e2, e3⟩ := px; subst e1 e2; exact HV.mv ix ha cx gx (by decide) e3.2 hN ⟨⟨n5, n14, n44, n74⟩, z80, by omega, by have := ux.2.2; omega, by omega, by have := (cx.O kD (k := 2) (by decide)).1; omega⟩ ((cx.O kth (by decide)).1.trans ht)) px.2.2.1)
set_option maxHeartbeats 1000000 in
theorem v_X12_job {σ : Sg} {th n : Nat} {t : Int} {Q : Sg → Int → Prop} {X : Sg → String → Prop} (h : HV σ th n t) (hn : n < 512) (hQ : ∀ σ' r, HV σ' th (n + 1) 0 → Q σ' r) (hX : ∀ σ' E, HV σ' th (n + 1) 0 → (E = "java/lang/IllegalStateException") → X σ' E) : wp_X12_job th σ Q X := by
  obtain ⟨pl, gq, ci, gr, nc, ot, LL, N, nu, J, S, R, D, W, iσ, ha, hu, hN, ht⟩ := h
  obtain ⟨kth, ⟨h4, kJ, hJ⟩, ⟨hS, kS, gS1, gS2, nc1⟩, ⟨hR, kR⟩, ⟨hD, kD⟩, ⟨hW, kW⟩⟩ := id ha
  obtain ⟨⟨n5, n14, n44, n74⟩, z80, ⟨b1, b5, b3⟩, d2⟩ := id hN
  have t3 := T3_le hn
  have t3s := T3_s n
  have t0 := I_12_1 iσ.1 kth
  unfold wp_X12_job w_X12_job_0
  intro s1 e1
  have i1 : IV s1 pl gq ci gr nc ot LL N nu := by rw [e1]; exact iσ.wO kth (by decide) (show (0 : Int) ≤ 0 ∧ (0 : Int) ≤ 1500 from ⟨by decide, by decide⟩)
  have f1 : Fx [769] gr σ s1 := Sk.fx (by rw [e1]; exact Sk.pI (by rw [fcdO kth (by decide)]; decide))
  have w1 : gI s1 th 1 = 0 := by rw [e1]; exact up2_s _ _ _ _
  have k1 := kth.up f1.1
  refine ⟨R, by rw [e1]; exact hR, fun _ => ⟨D, by rw [e1]; exact hD, fun _ => ?_⟩⟩
  by_cases c0 : ¬ gI s1 D 9 = 0
  · rw [if_neg c0]; unfold w_X12_job_23
    exact ⟨i1.room, hX _ _ (HV.same ha hu hN (i1.bump (by omega)) (f1.tr Fx.bump) (by decide) rfl rfl (Nat.le_refl _) w1) rfl⟩
  have c1 : gI s1 D 9 = 0 := Classical.not_not.mp c0
  rw [if_pos c1]; unfold w_X12_job_31
  obtain ⟨pa, epa⟩ := P_12_3 i1.1 k1
  obtain ⟨tx, etx, ftx⟩ := P_12_0 i1.1 k1
  have ktx : kO s1 tx 102 := i1.1.kd k1 rfl etx rfl
  have eS : gP s1 th 5 = some S := by rw [e1]; exact hS
  refine ⟨pa, epa, fun kpa => ?_⟩
  refine i_X6_read (q := gq S) i1 kpa etx ktx eS (kS.up f1.1) ftx rfl ⟨gS1, gS2⟩ t0.1 (by omega) (fun s2 nu2 r i2 f2 u2 p2 => ?_)
  intro x2 s3 e3
  have k2 := k1.up f2.1
  have i3 : IV s3 pl gq ci gr nc ot LL N nu2 := by rw [e3]; exact i2.wO k2 (by decide) (rngb p2.1)
  have f3 : Fx [770] gr s2 s3 := Sk.fx (by rw [e3]; exact Sk.pI (by rw [fcdO k2 (by decide)]; decide))
  have w3 : gI s3 th 2 = r := by rw [e3]; exact up2_s _ _ _ _
  have k3 := k2.up f3.1
  have f13 : Fx [1, 64, 194, 195, 196, 257, 258, 261, 262, 263, 323, 324, 325, 326, 327, 328, 329, 330, 331, 332, 333, 334, 335, 336, 384, 385, 386, 387, 388, 389, 390, 391, 392, 512, 513, 586, 587, 590, 592, 593, 594, 595, 708, 770, 772, 773, 6464, 6592, 8320, 8384, 8448] gr s1 s3 := (f2.mo (by decide)).tr (f3.mo (by decide))
  have u5 := u2.2
  have u15 := u2.1 15 (by decide) (by decide) (by decide)
  have u17 := u2.1 17 (by decide) (by decide) (by decide)
  by_cases c3 : ¬ gI s3 th 2 = 0
  · rw [if_neg c3]; unfold w_X12_job_58
    refine ⟨pa, (f3.O k2 (by decide)).2.1.trans ((f2.O k1 (by decide)).2.1.trans epa), fun _ => hQ _ _ ?_⟩
    exact HV.same ha hu hN i3 (((f1.mo (by decide)).tr (f2.mo (by decide))).tr (f3.mo (by decide)) : Fx [257, 258, 261, 262, 263, 323, 324, 325, 326, 327, 328, 329, 330, 331, 332, 333, 334, 335, 336, 384, 385, 386, 387, 388, 389, 390, 391, 392, 769, 770, 6464, 6592, 8320, 8384, 8448] gr σ s3) (by decide) u15 u17 u5 (((f3.O k2 (by decide)).1.trans (f2.O k1 (by decide)).1).trans w1)
  have c2 : gI s3 th 2 = 0 := Classical.not_not.mp c3
  rw [if_pos c2]; unfold w_X12_job_68
  have e5' : gP s3 th 5 = some S := (f3.O k2 (by decide)).2.1.trans ((f2.O k1 (by decide)).2.1.trans eS)
  have e4' : gP s3 th 4 = some J := (f3.O k2 (by decide)).2.1.trans ((f2.O k1 (by decide)).2.1.trans (by rw [e1]; exact h4))
  intro s4 e4 s5 e5
  have i4 : IV s4 pl gq ci gr nc ot LL N nu2 := by rw [e4]; exact i3.wP k3 (by decide) (fun _ => by rw [e5']; simp) (by intro _ _; trivial) (by intro q; exact absurd q (by decide))
  have f4 : Fx [772] gr s3 s4 := Sk.fx (by rw [e4]; exact Sk.pP (by rw [fcdO k3 (by decide)]; decide))
  have k4 := k3.up f4.1
  have i5 : IV s5 pl gq ci gr nc ot LL N nu2 := by rw [e5]; exact i4.wP k4 (by decide) (fun _ => by rw [e4']; simp) (by intro _ _; trivial) (by intro q; exact absurd q (by decide))
  have f5 : Fx [773] gr s4 s5 := Sk.fx (by rw [e5]; exact Sk.pP (by rw [fcdO k4 (by decide)]; decide))
  have k5 := k4.up f5.1
  have f15 : Fx [1, 64, 194, 195, 196, 257, 258, 261, 262, 263, 323, 324, 325, 326, 327, 328, 329, 330, 331, 332, 333, 334, 335, 336, 384, 385, 386, 387, 388, 389, 390, 391, 392, 512, 513, 586, 587, 590, 592, 593, 594, 595, 708, 770, 772, 773, 6464, 6592, 8320, 8384, 8448] gr s1 s5 := (f13.tr (f4.mo (by decide))).tr (f5.mo (by decide))
  have p54 : gP s5 th 4 = some S := by rw [e5, gP_pP, up2_n _ _ (fun z => absurd z.2 (by decide)), e4, gP_pP, up2_s]; exact e5'
  have p55 : gP s5 th 5 = some J := by rw [e5, gP_pP, up2_s]; exact e4'
  have kR1 := kR.up f1.1
  have kD1 := kD.up f1.1
  have hR1 : gP s1 th 7 = some R := by rw [e1]; exact hR
  have hD1 : gP s1 R 2 = some D := by rw [e1]; exact hD
  have hW1 : gP s1 R 1 = some W := by rw [e1]; exact hW
  refine ⟨R, (f15.O k1 (by decide)).2.1.trans hR1, fun _ => ?_⟩
  refine i_X9_end i5 (kR1.up f15.1) n5 ((f15.O kR1 (by decide)).2.1.trans hD1) (kD1.up f15.1) (fun s6 LL6 N6 nu6 _ i6 f6 u6 h6 p6 => ?_)
  intro x6
  obtain ⟨⟨a11, a12, a13, a50⟩, _, _, _, ⟨a21, a22, a31, a32⟩, a1, a5, a15, a16, a17, a10, aD2⟩ := p6
  have f16 : Fx [1, 64, 194, 195, 196, 257, 258, 261, 262, 263, 323, 324, 325, 326, 327, 328, 329, 330, 331, 332, 333, 334, 335, 336, 384, 385, 386, 387, 388, 389, 390, 391, 392, 512, 513, 586, 587, 590, 592, 593, 594, 595, 708, 770, 772, 773, 6464, 6592, 8320, 8384, 8448] gr s1 s6 := f15.tr (f6.mo (by decide))
  have kS5 := (kS.up f1.1).up f15.1
  have p64 : gP s6 th 4 = some S := (f6.O k5 (by decide)).2.1.trans p54
  refine ⟨S, p64, fun _ => hQ _ _ ?_⟩
  obtain ⟨ot', c, u, so⟩ := p2.2.resolve_left (by omega)
  have so5 := so.fx i2 i5 ((kS.up f1.1).up f2.1) rfl (((f3.mo (by decide)).tr (f4.mo (by decide))).tr (f5.mo (by decide)) : Fx [770, 772, 773] gr s2 s5) (by decide)
  have i7 := i6.swap (so5.fx i5 i6 kS5 rfl f6 (by decide)) ⟨a11, a12, a21, a22, a31, a32⟩
  have m3 := h6.2.2 3 (by decide) (by decide) (by decide) (by decide)
  have m14 := h6.2.2 14 (by decide) (by decide) (by decide) (by decide)
  have m44 := h6.2.2 44 (by decide) (by decide) (by decide) (by decide)
  have m74 := h6.2.2 74 (by decide) (by decide) (by decide) (by decide)
  have u65 := u6.1 5 (by decide)
  have d9 : gI s6 D 9 = 0 := (f16.O kD1 (by decide)).1.trans c1
  refine ⟨pl, gq, ci, gr, ncq (gq S) c u, ot', LL6, N6, nu6, S, J, R, D, W, i7, ⟨k1.up f16.1, ⟨p64, (kS.up f1.1).up f16.1, rfl⟩, ⟨(f6.O k5 (by decide)).2.1.trans p55, (kJ.up f1.1).up f16.1, ?_, by omega, gS2⟩, ⟨(f16.O k1 (by decide)).2.1.trans hR1, kR1.up f16.1⟩, ⟨(f16.O kR1 (by decide)).2.1.trans hD1, kD1.up f16.1⟩, ⟨(f16.O kR1 (by decide)).2.1.trans hW1, (kW.up f1.1).up f16.1⟩⟩, ⟨fun z => absurd a15 z, fun z => absurd d9 z⟩, ⟨⟨a5, by omega, by omega, by omega⟩, fun k a b => (Hn.nz h6 (by decide) k a b).trans (z80 k a b), ⟨by omega, by omega, by omega⟩, by omega⟩, (f16.O k1 (by decide)).1.trans w1⟩
  show gq J ≠ gq S
  omega
set_option maxHeartbeats 1000000 in
theorem v_X12_clear {σ : Sg} {th n : Nat} {t : Int} {Q : Sg → Unit → Prop} {X : Sg → String → Prop} (h : HV σ th n t) (hn : n < 512) (hQ : ∀ σ' r, HV σ' th (n + 1) 0 → Q σ' r) : wp_X12_clear th σ Q X := by
  obtain ⟨pl, gq, ci, gr, nc, ot, LL, N, nu, J, S, R, D, W, iσ, ha, hu, hN, ht⟩ := h
  obtain ⟨kth, ⟨h4, kJ, hJ⟩, ⟨hS, kS, gS1, gS2, nc1⟩, ⟨hR, kR⟩, ⟨hD, kD⟩, ⟨hW, kW⟩⟩ := id ha
  obtain ⟨⟨n5, n14, n44, n74⟩, z80, ⟨b1, b5, b3⟩, d2⟩ := id hN
  have t3 := T3_le hn
  have t3s := T3_s n
  unfold wp_X12_clear w_X12_clear_0
  intro s1 e1 s2 e2
  have i1 : IV s1 pl gq ci gr nc ot LL N nu := by rw [e1]; exact iσ.wO kth (by decide) (show (0 : Int) ≤ 0 ∧ (0 : Int) ≤ 1500 from ⟨by decide, by decide⟩)
  have f1 : Fx [769] gr σ s1 := Sk.fx (by rw [e1]; exact Sk.pI (by rw [fcdO kth (by decide)]; decide))
  have k1 := kth.up f1.1
  have i2 : IV s2 pl gq ci gr nc ot LL N nu := by rw [e2]; exact i1.wO k1 (by decide) (rngb (by unfold rng; omega))
  have f2 : Fx [770] gr s1 s2 := Sk.fx (by rw [e2]; exact Sk.pI (by rw [fcdO k1 (by decide)]; decide))
  have f02 : Fx [769, 770] gr σ s2 := (f1.mo (by decide)).tr (f2.mo (by decide))
  have w2 : gI s2 th 1 = 0 := by rw [e2, gI_pI, up2_n _ _ (fun z => absurd z.2 (by decide)), e1, gI_pI, up2_s]
  have k2 := kth.up f02.1
  have kJ2 := kJ.up f02.1
  have kR2 := kR.up f02.1
  have kD2 := kD.up f02.1
  have hR2 := (f02.O kth (k := 7) (by decide)).2.1.trans hR
  have hD2 := (f02.O kR (k := 2) (by decide)).2.1.trans hD
  have hW2 := (f02.O kR (k := 1) (by decide)).2.1.trans hW
  have h42 := (f02.O kth (k := 4) (by decide)).2.1.trans h4
  have hS2 := (f02.O kth (k := 5) (by decide)).2.1.trans hS
  obtain ⟨m, hm, j2⟩ := i2.none
  refine ⟨J, h42, fun _ => ?_⟩
  refine i_X4_forget (q := gq J) j2 kJ2 rfl ⟨hm J kJ2.1, by omega⟩ (fun s3 _ i3 f3 p3 => ?_)
  intro x3
  refine ⟨R, (f3.O k2 (by decide)).2.1.trans hR2, fun _ => ?_⟩
  refine i_X9_end i3 (kR2.up f3.1) n5 ((f3.O kR2 (by decide)).2.1.trans hD2) (kD2.up f3.1) (fun s4 LL4 N4 nu4 _ i4 f4 u4 h4' p4 => ?_)
  intro x4
  obtain ⟨⟨a11, a12, a13, a50⟩, _, _, _, ⟨a21, a22, a31, a32⟩, a1, a5, a15, a16, a17, a10, aD2⟩ := p4
  have f24 : Fx [1, 64, 194, 195, 196, 200, 201, 257, 258, 263, 512, 513, 586, 587, 590, 592, 593, 594, 595, 708, 6592, 8320, 8448] gr s2 s4 := (f3.mo (by decide)).tr (f4.mo (by decide))
  refine ⟨R, (f24.O k2 (by decide)).2.1.trans hR2, fun _ => ⟨D, (f24.O kR2 (by decide)).2.1.trans hD2, fun _ => ?_⟩⟩
  have kD4 := kD2.up f24.1
  refine i_X3_powerReturns i4 kD4 (fun s5 _ i5 f5 p5 => ?_)
  intro x5
  have f25 : Fx [1, 64, 194, 195, 196, 200, 201, 257, 258, 263, 512, 513, 586, 587, 590, 592, 593, 594, 595, 708, 6592, 8320, 8448] gr s2 s5 := f24.tr (f5.mo (by decide))
  have kJ3 := kJ2.up f3.1
  have j1 : gI s5 J 1 = 0 := ((f5.O (kJ3.up f4.1) (by decide)).1.trans (f4.O kJ3 (by decide)).1).trans p3.1
  have j2' : gI s5 J 2 = 0 := ((f5.O (kJ3.up f4.1) (by decide)).1.trans (f4.O kJ3 (by decide)).1).trans p3.2.1
  have i6 := i5.swap (SO.nul (ot2 := ot) i5 (kJ2.up f25.1) rfl j1 j2') ⟨a11, a12, a21, a22, a31, a32⟩
  have m3 := h4'.2.2 3 (by decide) (by decide) (by decide) (by decide)
  have m14 := h4'.2.2 14 (by decide) (by decide) (by decide) (by decide)
  have m44 := h4'.2.2 44 (by decide) (by decide) (by decide) (by decide)
  have m74 := h4'.2.2 74 (by decide) (by decide) (by decide) (by decide)
  have u45 := u4.1 5 (by decide)
  have d2' : gI s5 D 2 = 0 := (f5.O kD4 (by decide)).1.trans aD2
  refine hQ _ _ ⟨pl, gq, ci, gr, ncq (gq J) 0 0, ot, LL4, N4, nu4, J, S, R, D, W, i6, ⟨k2.up f25.1, ⟨(f25.O k2 (by decide)).2.1.trans h42, kJ2.up f25.1, rfl⟩, ⟨(f25.O k2 (by decide)).2.1.trans hS2, (kS.up f02.1).up f25.1, ?_, gS2, ?_⟩, ⟨(f25.O k2 (by decide)).2.1.trans hR2, kR2.up f25.1⟩, ⟨(f25.O kR2 (by decide)).2.1.trans hD2, kD2.up f25.1⟩, ⟨(f25.O kR2 (by decide)).2.1.trans hW2, (kW.up f02.1).up f25.1⟩⟩, ⟨fun z => absurd a15 z, fun z => absurd p5 z⟩, ⟨⟨a5, by omega, by omega, by omega⟩, fun k a b => (Hn.nz h4' (by decide) k a b).trans (z80 k a b), ⟨by omega, by omega, by omega⟩, by omega⟩, (f25.O k2 (by decide)).1.trans w2⟩
  · show gq S ≠ gq J
    omega
  · show gq J ≤ 1
    omega

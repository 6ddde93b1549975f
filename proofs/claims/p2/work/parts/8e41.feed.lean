/-! feed of the reference, told whole -/
section FEE
variable {ra : Nat → Nat} {jx : Nat → Nat → Nat} {rm : Nat} {σ : Sg} {Q : Sg → Int → Prop} {X : Sg → String → Prop} {v1 : Int64} {v3 : Int}
theorem wi_within {v0 v2 v4 : Int64} (h1 : v2 ≤ v0 ∧ v0 ≤ v4 → Q σ 1) (h0 : ¬ (v2 ≤ v0 ∧ v0 ≤ v4) → Q σ 0) : wp_X16_within ra jx rm v0 v2 v4 σ Q X := by
  unfold wp_X16_within w_X16_within_0
  split
  · rename_i c
    unfold w_X16_within_17 w_X16_within_18
    refine ⟨Or.inl rfl, h0 (fun w => ?_)⟩
    have w := w.1
    rw [Int64.le_iff_toInt_le] at w
    rw [Int64.lt_iff_toInt_lt] at c
    omega
  · rename_i c
    unfold w_X16_within_6
    split
    · rename_i d
      unfold w_X16_within_17 w_X16_within_18
      refine ⟨Or.inl rfl, h0 (fun w => ?_)⟩
      have w := w.2
      have d : v4 < v0 := d
      rw [Int64.le_iff_toInt_le] at w
      rw [Int64.lt_iff_toInt_lt] at d
      omega
    · rename_i d
      unfold w_X16_within_13 w_X16_within_18
      have d : ¬ v4 < v0 := d
      rw [Int64.lt_iff_toInt_lt] at c d
      refine ⟨Or.inr rfl, h1 ⟨?_, ?_⟩⟩
      · rw [Int64.le_iff_toInt_le]; omega
      · rw [Int64.le_iff_toInt_le]; omega
theorem fd_no {τ : Sg} {v4 : Int} (h : 0 < gI τ rm 0) (hQ : Q τ 0) : wl_X16_feed_42 ra jx rm Q X 1 τ v1 v4 := by
  show w_X16_feed_42 ra jx rm (wl_X16_feed_42 ra jx rm Q X 0) Q X τ v1 v4
  have hq : w_X16_feed_85 ra jx rm Q X τ := by unfold w_X16_feed_85; rw [if_neg (by omega)]; exact hQ
  unfold w_X16_feed_42
  split
  · exact hq
  · unfold w_X16_feed_47; rw [if_pos (by omega)]; exact hq
theorem fd_go (g : Geo ra jx rm) {t : Int} (ht : 0 ≤ t ∧ 1 ≤ v3 ∧ v3 ≤ 8 ∧ t + v3 ≤ 1500) (hQ : ∀ σ', Rg ra jx rm σ' → RI ra jx rm σ' → gI σ' rm 0 = 0 → gI σ' rm 3 = t + v3 → Q σ' (t + v3)) : ∀ (m : Nat) (τ : Sg), Rg ra jx rm τ → RI ra jx rm τ → gI τ rm 0 = 0 → gI τ rm 3 + m = t + v3 → (m : Int) ≤ v3 → wl_X16_feed_42 ra jx rm Q X (m + 1) τ v1 ((m : Int) - 1) := by
  intro m
  induction m with
  | zero =>
    intro τ r h z e _
    show w_X16_feed_42 ra jx rm (wl_X16_feed_42 ra jx rm Q X 0) Q X τ v1 _
    unfold w_X16_feed_42
    rw [if_pos (by omega)]
    unfold w_X16_feed_85
    rw [if_pos (by omega)]
    unfold w_X16_feed_96 w_X16_feed_100
    have e3 : gI τ rm 3 = t + v3 := by omega
    rw [e3]
    exact hQ τ r h z e3
  | succ m ih =>
    intro τ r h z e hm
    show w_X16_feed_42 ra jx rm (wl_X16_feed_42 ra jx rm Q X (m + 1)) Q X τ v1 _
    unfold w_X16_feed_42
    rw [if_neg (by omega)]
    unfold w_X16_feed_47
    rw [if_neg (by omega)]
    unfold w_X16_feed_54
    refine ⟨by unfold rng; omega, fun σ9 e9 => ⟨by unfold rng; omega, ⟨by omega, by omega⟩, fun σ10 e10 => ⟨by unfold rng; omega, ?_⟩⟩⟩
    rw [show (((m + 1 : Nat) : Int) - 1 + -1) = (m : Int) - 1 by omega]
    have r9 : Rg ra jx rm σ9 := by rw [e9]; exact Rg.sI g r (by simp only [rgS]; omega)
    have r10 : Rg ra jx rm σ10 := by
      rw [e10]
      refine Rg.aI g r9 ?_
      have w := rng_nB ((i32 (((v1 >>> ((i32 (8 * (((m + 1 : Nat) : Int) - 1))).toInt64 &&& 63))).toInt32.toInt)).toInt8.toInt32.toInt)
      unfold rng at w
      simp only [rgT]
      omega
    have f10 : Fr ra jx rm [2] [0, 3] τ σ10 := by rw [e10, e9]; exact Fr.aI g (Fr.sI g Fr.rf (by decide)) (by decide)
    have n2 : ¬ rm = ra 2 := g.2.2.1 2
    refine ih σ10 r10 (h.fr f10 (by decide) (by decide)) ?_ ?_ (by omega)
    · rw [e10, rII, if_neg (fun w => n2 w.1), e9, rII, if_neg (fun w => absurd w.2 (by decide))]; exact z
    · rw [e10, rII, if_neg (fun w => n2 w.1), e9, rII, if_pos ⟨rfl, rfl⟩]; omega
theorem pub_feed (g : Geo ra jx rm) (rσ : Rg ra jx rm σ) (h : RI ra jx rm σ) (b1 : -2147483648 ≤ v3 ∧ v3 ≤ 2147483647) : wp_X16_feed ra jx rm v1 v3 σ (fun σ' r => Rg ra jx rm σ' ∧ RI ra jx rm σ' ∧ FeP rm σ σ' v3 r) X := by
  have q3 := rσ.2.1 3
  simp only [rgS] at q3
  have sets : ∀ c : Int, (0 ≤ c ∧ c ≤ 2) → Rg ra jx rm (pI σ rm 0 c) ∧ RI ra jx rm (pI σ rm 0 c) ∧ gI (pI σ rm 0 c) rm 0 = c ∧ gI (pI σ rm 0 c) rm 3 = gI σ rm 3 := fun c hc => by
    refine ⟨Rg.sI g rσ (by simp only [rgS]; omega), h.c g c, by rw [rII, if_pos ⟨rfl, rfl⟩], by rw [rII, if_neg (fun w => absurd w.2 (by decide))]⟩
  unfold wp_X16_feed w_X16_feed_0
  refine wi_within (fun c => ?_) (fun c => ?_)
  · have c := win b1 c
    have c1 : 1 ≤ v3 ∧ v3 ≤ 8 := ⟨c.1, c.2⟩
    rw [if_pos (by decide)]
    unfold w_X16_feed_17
    refine ⟨by unfold rng; omega, ?_⟩
    split
    · rename_i c2
      unfold w_X16_feed_33 w_X16_feed_34
      intro σ8 e8
      obtain ⟨s1, s2, s3, s4⟩ := sets 0 (by omega)
      rw [← e8] at s1 s2 s3 s4
      have ew : wr (v3 - 1) = v3 - 1 := i32_toInt ⟨by omega, by omega⟩
      rw [ew]
      have en : v3 - 1 = ((v3.toNat : Nat) : Int) - 1 := by omega
      rw [en]
      exact ⟨v3.toNat + 1, fd_go g (t := gI σ rm 3) (v3 := v3) ⟨by omega, by omega, by omega, by omega⟩ (fun σ' a b c d => ⟨a, b, Or.inr (Or.inr ⟨c1, c2, c, rfl, d⟩)⟩) v3.toNat σ8 s1 s2 s3 (by omega) (by omega)⟩
    · rename_i c2
      unfold w_X16_feed_29 w_X16_feed_34
      intro σ8 e8
      obtain ⟨s1, s2, s3, s4⟩ := sets 2 (by omega)
      rw [← e8] at s1 s2 s3 s4
      exact ⟨1, fd_no (by omega) ⟨s1, s2, Or.inr (Or.inl ⟨c1, by omega, s3, s4⟩)⟩⟩
  · have c1 : ¬ (1 ≤ v3 ∧ v3 ≤ 8) := fun w => c (by
      rw [Int64.le_iff_toInt_le, Int64.le_iff_toInt_le, Int64.toInt_ofInt_of_le (by omega) (by omega)]
      exact ⟨w.1, w.2⟩)
    rw [if_neg (by decide)]
    unfold w_X16_feed_13 w_X16_feed_34
    intro σ8 e8
    obtain ⟨s1, s2, s3, s4⟩ := sets 1 (by omega)
    rw [← e8] at s1 s2 s3 s4
    exact ⟨1, fd_no (by omega) ⟨s1, s2, Or.inl ⟨c1, s3, s4⟩⟩⟩
theorem pub_thrown (h : Q σ (gI σ rm 0)) : wp_X16_thrown ra jx rm σ Q X := by
  unfold wp_X16_thrown w_X16_thrown_0
  exact h
end FEE

/-! where the operators' tasks begin -/
def bsO (ot : Nat → Nat → Int) (P : Nat) : Nat → Nat
  | 0 => 0
  | j + 1 => bsO ot P j + (if ot j 6 = 0 ∨ ot j 6 = 10 ∨ ot j 6 = 11 then 1 else P)
/-- tasks know their operator and part -/
def LT1 (σ : Sg) (gq ci nu : Nat → Nat) (ot : Nat → Nat → Int) (P : Nat) : Prop := ∀ t, kO σ t 10 → gq t = 1 → ci t < nu 15 → gI σ t 1 < (P : Int) ∧ ∀ j, bsO ot P j ≤ ci t → ci t < bsO ot P (j + 1) → gI σ t 0 = (j : Int)
def FT1 (σ : Sg) (F : Nat) (ot : Nat → Nat → Int) (P n : Nat) : Prop := ∀ j, j < n → gI σ F j = (bsO ot P j : Int)
def Z12 (σ : Sg) (gq ci nu : Nat → Nat) (n : Int) : Prop := ∀ t, kO σ t 10 → gq t = 1 → n ≤ (ci t : Int) → ci t < nu 15 → gI σ t 12 = 0
section LT1S
variable {σ σ' : Sg} {gq ci gr nc N N' nu gq' ci' nu' : Nat → Nat} {ot : Nat → Nat → Int} {LL LL' : Nat → List Nat} {pl r c d t k P F n a : Nat} {L : List Nat} {v : Int}
theorem bsO_up (hP : 1 ≤ P ∧ P ≤ 4) (j : Nat) : bsO ot P j + 1 ≤ bsO ot P (j + 1) ∧ bsO ot P (j + 1) ≤ bsO ot P j + 4 := by
  show bsO ot P j + 1 ≤ bsO ot P j + _ ∧ bsO ot P j + _ ≤ bsO ot P j + 4
  split <;> omega
theorem bsO_le (hP : 1 ≤ P ∧ P ≤ 4) : ∀ j, bsO ot P j ≤ 4 * j
  | 0 => Nat.le_refl _
  | j + 1 => by have := bsO_up (ot := ot) hP j; have := bsO_le hP j; omega
theorem bsO_mono (hP : 1 ≤ P ∧ P ≤ 4) {i : Nat} : ∀ {j : Nat}, i ≤ j → bsO ot P i ≤ bsO ot P j
  | 0, h => by rw [Nat.le_zero.mp h]; exact Nat.le_refl _
  | j + 1, h => by
    by_cases e : i = j + 1
    · rw [e]; exact Nat.le_refl _
    · have := bsO_mono hP (i := i) (j := j) (by omega); have := bsO_up (ot := ot) hP j; omega
theorem bsO_un (hP : 1 ≤ P ∧ P ≤ 4) {i j m : Nat} (h1 : bsO ot P i ≤ m) (h2 : m < bsO ot P (i + 1)) (h3 : bsO ot P j ≤ m) (h4 : m < bsO ot P (j + 1)) : i = j := by
  by_cases a : i < j
  · have := bsO_mono (ot := ot) hP (i := i + 1) (j := j) (by omega); omega
  · by_cases b : j < i
    · have := bsO_mono (ot := ot) hP (i := j + 1) (j := i) (by omega); omega
    · omega
theorem bsO_one {j : Nat} (h : ot j 6 = 0 ∨ ot j 6 = 10 ∨ ot j 6 = 11) : bsO ot P (j + 1) = bsO ot P j + 1 := by
  show bsO ot P j + _ = _; rw [if_pos h]
theorem bsO_P {j : Nat} (h : ¬ (ot j 6 = 0 ∨ ot j 6 = 10 ∨ ot j 6 = 11)) : bsO ot P (j + 1) = bsO ot P j + P := by
  show bsO ot P j + _ = _; rw [if_neg h]
/-- the task at a place is one that was there -/
theorem IV.old (i : IV σ pl gq ci gr nc ot LL N nu) (i' : IV σ' pl gq' ci' gr nc ot LL' N' nu') (ge : GE (gD σ) gq ci gq' ci') (fx : Ext σ σ') (kt : kO σ' t 10) (hq : gq' t = 1) (hc : ci' t < nu 15) : kO σ t 10 ∧ gq t = 1 ∧ ci t = ci' t := by
  have n16 := i.n16
  obtain ⟨r0, x1, z1, z2⟩ := i.2.1.2.2.2.2.2.2.1
  obtain ⟨ar, ear, far⟩ := P_9_3 i.1 x1
  have kar : kO σ ar 120 := i.1.kd x1 rfl ear rfl
  obtain ⟨b, eb, kb, qb, cb⟩ := P_120 i kar far.2 (k := ci' t) (by omega)
  have g := ge b kb.1
  have e2 : t = b := i'.un' kt (kb.up fx) rfl (by omega) (by omega)
  subst e2
  exact ⟨kb, qb, by omega⟩
theorem LT1.fx (h : LT1 σ gq ci nu ot P) (i : IV σ pl gq ci gr nc ot LL N nu) (i' : IV σ' pl gq' ci' gr nc ot LL' N' nu') (ge : GE (gD σ) gq ci gq' ci') (fx : Fx L gr σ σ') (e : nu' 15 = nu 15) (h0 : 640 ∉ L ∧ 641 ∉ L) : LT1 σ' gq' ci' nu' ot P := fun t kt hq hc => by
  obtain ⟨k0, q0, c0⟩ := i.old i' ge fx.1 kt hq (by omega)
  have o := h t k0 q0 (by omega)
  rw [(fx.O k0 ⟨by decide, h0.2⟩).1, (fx.O k0 ⟨by decide, h0.1⟩).1, ← c0]; exact o
theorem Z12.fx (h : Z12 σ gq ci nu v) (i : IV σ pl gq ci gr nc ot LL N nu) (i' : IV σ' pl gq' ci' gr nc ot LL' N' nu') (ge : GE (gD σ) gq ci gq' ci') (fx : Fx L gr σ σ') (e : nu' 15 = nu 15) (h0 : 652 ∉ L) : Z12 σ' gq' ci' nu' v := fun t kt hq hn hc => by
  obtain ⟨k0, q0, c0⟩ := i.old i' ge fx.1 kt hq (by omega)
  rw [(fx.O k0 ⟨by decide, h0⟩).1]; exact h t k0 q0 (by omega) (by omega)
theorem FT1.fx (h : FT1 σ F ot P n) (kF : kO σ F 100) (gF : gr F = 3) (fx : Fx L gr σ σ') (h0 : 133 * 64 ∉ L) : FT1 σ' F ot P n := fun j hj => by
  rw [(fx.2 F kF.1 j (by rw [fcdI kF, gF]; exact h0)).1]; exact h j hj
theorem LT1.nv9 (h : LT1 σ gq ci nu ot P) (e : nu' 15 = nu 15) : LT1 σ gq ci nu' ot P := fun t kt hq hc => h t kt hq (by omega)
theorem Z12.nv9 (h : Z12 σ gq ci nu v) (e : nu' 15 = nu 15) : Z12 σ gq ci nu' v := fun t kt hq hn hc => h t kt hq hn (by omega)
theorem LT1.add (h : LT1 σ gq ci nu ot P) (i : IV σ pl gq ci gr nc ot LL N nu) (i' : IV σ' pl gq ci gr nc ot LL' N' nu') (x : Ext σ σ') (ho : ∀ t9 k9, kO σ t9 10 → t9 ≠ t → gI σ' t9 k9 = gI σ t9 k9) (kt : kO σ' t 10) (hq : gq t = 1) (hc : ci t = nu 15) (e : nu' 15 = nu 15 + 1) (h1 : gI σ' t 1 < (P : Int)) (h0 : ∀ j, bsO ot P j ≤ ci t → ci t < bsO ot P (j + 1) → gI σ' t 0 = (j : Int)) : LT1 σ' gq ci nu' ot P := fun t' kt' hq' hc' => by
  by_cases w : t' = t
  · subst w; exact ⟨h1, h0⟩
  · have z : ci t' ≠ nu 15 := fun z => w (i'.un' kt' kt rfl (by omega) (by omega))
    obtain ⟨k0, q0, c0⟩ := i.old i' GE.rf x kt' hq' (by omega)
    rw [ho t' 1 k0 w, ho t' 0 k0 w]; exact h t' k0 hq' (by omega)
theorem Z12.add (h : Z12 σ gq ci nu v) (i : IV σ pl gq ci gr nc ot LL N nu) (i' : IV σ' pl gq ci gr nc ot LL' N' nu') (x : Ext σ σ') (ho : ∀ t9 k9, kO σ t9 10 → t9 ≠ t → gI σ' t9 k9 = gI σ t9 k9) (kt : kO σ' t 10) (hq : gq t = 1) (hc : ci t = nu 15) (e : nu' 15 = nu 15 + 1) (h1 : gI σ' t 12 = 0) : Z12 σ' gq ci nu' v := fun t' kt' hq' hn' hc' => by
  by_cases w : t' = t
  · subst w; exact h1
  · have z : ci t' ≠ nu 15 := fun z => w (i'.un' kt' kt rfl (by omega) (by omega))
    obtain ⟨k0, q0, c0⟩ := i.old i' GE.rf x kt' hq' (by omega)
    rw [ho t' 12 k0 w]; exact h t' k0 hq' hn' (by omega)
theorem Z12.next (h : Z12 σ gq ci nu v) : Z12 σ gq ci nu (v + 1) := fun t kt hq hn hc => h t kt hq (by omega) hc
/-- a field of a task other than those -/
theorem LT1.pI (h : LT1 σ gq ci nu ot P) (hk : k ≠ 0 ∧ k ≠ 1) : LT1 (pI σ t k v) gq ci nu ot P := fun t' kt' hq' hc' => by
  rw [gI_pI, up2_n _ _ (fun z => hk.2 z.2.symm), up2_n _ _ (fun z => hk.1 z.2.symm)]; exact h t' kt' hq' hc'
theorem Z12.pI {w : Int} (h : Z12 σ gq ci nu w) (hk : k ≠ 12) : Z12 (pI σ t k v) gq ci nu w := fun t' kt' hq' hn' hc' => by
  rw [gI_pI, up2_n _ _ (fun z => hk z.2.symm)]; exact h t' kt' hq' hn' hc'
theorem z12_pI2 {w : Int} (h : Z12 σ gq ci nu w) (i : IV σ pl gq ci gr nc ot LL N nu) (kt : kO σ t 10) (hw : (ci t : Int) < w + 1) : Z12 (pI σ t 12 v) gq ci nu (w + 1) := fun t' kt' hq' hn' hc' => by
  rw [gI_pI, up2_n _ _ (fun z => by rw [z.1] at hn'; omega)]; exact h t' kt' hq' (by omega) hc'
theorem FT1.put (h : FT1 σ F ot P n) (hv : v = (bsO ot P n : Int)) : FT1 (pI σ F n v) F ot P (n + 1) := fun j hj => by
  by_cases w : j = n
  · rw [w, gI_pI, up2_s, hv]
  · rw [gI_pI, up2_n _ _ (fun z => w z.2)]; exact h j (by omega)
theorem FT1.pI (h : FT1 σ F ot P n) {l : Nat} (kt : kO σ t l) (kF : kO σ F 100) (hl : l ≠ 100) : FT1 (pI σ t k v) F ot P n := fun j hj => by
  rw [gI_pI, up2_n _ _ (fun z => absurd z.1 (kF.ne kt (fun w => hl w.symm)))]; exact h j hj
theorem IV.jc {J : Nat} (h : IV σ pl gq ci gr nc ot LL N nu) (kJ : kO σ J 4) (hJ : gq J = nc 0) : gI σ J 1 = (nc 1 : Int) ∧ gI σ J 2 = (nc 2 : Int) := ⟨(h.2.2.2.2.1.2.2.2.2 J kJ hJ).1, (h.2.2.2.2.1.2.2.2.2 J kJ hJ).2.1⟩
theorem IV.ncb (h : IV σ pl gq ci gr nc ot LL N nu) : nc 1 ≤ 16 ∧ nc 1 ≤ 16 ∧ nc 2 ≤ 4 := h.2.2.2.2.1.1
/-- a slot that is taken counts as made -/
theorem IV.mk0 (h : IV σ pl gq ci gr nc ot LL N nu) (ha : kO σ a 120) (hq : gq a = 1) (hj : nu 15 < 64) (hs : gP σ a (nu 15) ≠ none) : ∃ nu', IV σ pl gq ci gr nc ot LL N nu' ∧ nu' 15 < nu' 0 ∧ NW nu nu' ∧ (∀ k, k ≠ 0 → nu' k = nu k) := by
  have n16 := h.n16
  by_cases w : nu 15 < nu 0
  · exact ⟨nu, h, w, NW.rf, fun _ _ => rfl⟩
  · obtain ⟨i1, i2, i3, i4, i5, i6, i7, i8⟩ := id h
    have u : ∀ k, k ≠ 0 → up1 nu 0 (nu 0 + 1) k = nu k := fun k q => up1_n _ _ q
    have u0 : up1 nu 0 (nu 0 + 1) 0 = nu 0 + 1 := up1_s _ _ _
    refine ⟨up1 nu 0 (nu 0 + 1), ⟨?_, ?_, i3, ?_, i5, ?_, i7, i8⟩, by rw [u0, u 15 (by decide)]; omega, ⟨fun k q => u k (fun w => q (by rw [w]; decide)), by rw [u0]; omega, by rw [u 1 (by decide)]; exact Nat.le_refl _, by rw [u 2 (by decide)]; exact Nat.le_refl _⟩, u⟩
    · obtain ⟨a1, a2, a3, a4, a5⟩ := i1
      refine ⟨a1, fun b hb k => ⟨(a2 b hb k).1, Int.le_trans (a2 b hb k).2 ?_⟩, a3, fun b hb k c e => by rw [lbT_nu (u 2 (by decide))]; exact a4 b hb k c e, a5⟩
      unfold lbHi; rw [u0, u 1 (by decide), u 2 (by decide)]
      repeat' (first | exact Int.le_refl _ | omega | split)
    · obtain ⟨a1, a2, a3, a4, a5, a6, ⟨r0, x1, z1, z2⟩, a8⟩ := i2
      refine ⟨by rw [u0, u 1 (by decide)]; omega, fun t ht q j hj => ?_, fun t ht j hj => a3 t ht j (by rw [← u 1 (by decide)]; exact hj), fun c hc hi => ?_, fun r hr t ht q hi => by rw [u 16 (by decide), u 17 (by decide)]; exact a5 r hr t ht q hi, by rw [u 10 (by decide), u 1 (by decide)]; exact a6, ⟨r0, x1, by rw [u 15 (by decide)]; exact z1, by rw [u 16 (by decide)]; exact z2⟩, a8⟩
      · rw [u0] at hj
        by_cases z : j < nu 0
        · exact a2 t ht q j z
        · rw [h.unq ht ha rfl rfl (by omega), show j = nu 15 by omega]; exact hs
      · rw [u 16 (by decide)] at hi ⊢
        have := a4 c hc hi
        rw [u0]; exact ⟨by omega, by omega, this.2.2⟩
    · unfold SS at i4 ⊢; rw [u 10 (by decide), u 16 (by decide)]; exact i4
    · obtain ⟨a1, a2, a3⟩ := i6
      exact ⟨by rw [u0, u 5 (by decide), u 8 (by decide), u 9 (by decide), u 10 (by decide), u 12 (by decide), u 13 (by decide), u 14 (by decide)]; omega, by rw [u0, u 5 (by decide), u 8 (by decide), u 9 (by decide), u 10 (by decide), u 12 (by decide), u 13 (by decide), u 14 (by decide)]; omega, by rw [u 5 (by decide), u 8 (by decide), u 9 (by decide), u 12 (by decide), u 13 (by decide), u 14 (by decide)]; exact a3⟩
theorem IV.mk1 (h : IV σ pl gq ci gr nc ot LL N nu) (ha : kO σ a 112) (hj : nu 16 < 512) (hs : gP σ a (nu 16) ≠ none) : ∃ nu', IV σ pl gq ci gr nc ot LL N nu' ∧ nu' 16 < nu' 1 ∧ NW nu nu' ∧ (∀ k, k ≠ 1 → nu' k = nu k) := by
  have n16 := h.n16
  by_cases w : nu 16 < nu 1
  · exact ⟨nu, h, w, NW.rf, fun _ _ => rfl⟩
  · obtain ⟨i1, i2, i3, i4, i5, i6, i7, i8⟩ := id h
    have u : ∀ k, k ≠ 1 → up1 nu 1 (nu 1 + 1) k = nu k := fun k q => up1_n _ _ q
    have u1 : up1 nu 1 (nu 1 + 1) 1 = nu 1 + 1 := up1_s _ _ _
    refine ⟨up1 nu 1 (nu 1 + 1), ⟨?_, ?_, i3, ?_, i5, ?_, i7, i8⟩, by rw [u1, u 16 (by decide)]; omega, ⟨fun k q => u k (fun w => q (by rw [w]; decide)), by rw [u 0 (by decide)]; exact Nat.le_refl _, by rw [u1]; omega, by rw [u 2 (by decide)]; exact Nat.le_refl _⟩, u⟩
    · obtain ⟨a1, a2, a3, a4, a5⟩ := i1
      refine ⟨a1, fun b hb k => ⟨(a2 b hb k).1, Int.le_trans (a2 b hb k).2 ?_⟩, a3, fun b hb k c e => by rw [lbT_nu (u 2 (by decide))]; exact a4 b hb k c e, a5⟩
      unfold lbHi; rw [u1, u 0 (by decide), u 2 (by decide)]
      repeat' (first | exact Int.le_refl _ | omega | split)
    · obtain ⟨a1, a2, a3, a4, a5, ⟨b1, b2, b3⟩, ⟨r0, x1, z1, z2⟩, a8⟩ := i2
      refine ⟨by rw [u1, u 0 (by decide)]; omega, fun t ht q j hj => a2 t ht q j (by rw [← u 0 (by decide)]; exact hj), fun t ht j hj => ?_, fun c hc hi => by rw [u 16 (by decide)] at hi ⊢; rw [u 0 (by decide)]; exact a4 c hc hi, fun r hr t ht q hi => by rw [u 16 (by decide), u 17 (by decide)]; exact a5 r hr t ht q hi, ⟨by rw [u 10 (by decide), u1]; omega, fun t ht => Or.inl (by rw [u 10 (by decide), u1]; exact b1), b3⟩, ⟨r0, x1, by rw [u 15 (by decide)]; exact z1, by rw [u 16 (by decide)]; exact z2⟩, a8⟩
      rw [u1] at hj
      by_cases z : j < nu 1
      · exact a3 t ht j z
      · rw [h.un ht ha rfl, show j = nu 16 by omega]; exact hs
    · unfold SS at i4 ⊢; rw [u 10 (by decide), u 16 (by decide)]; exact i4
    · unfold SU at i6 ⊢; rw [u 0 (by decide), u 5 (by decide), u 8 (by decide), u 9 (by decide), u 10 (by decide), u 12 (by decide), u 13 (by decide), u 14 (by decide)]; exact i6
theorem IV.slot0 (h : IV σ pl gq ci gr nc ot LL N nu) (ha : kO σ a 120) (hq : gq a = 1) (hn : gP σ a (nu 15) = none) : nu 15 = nu 0 := by
  have n16 := h.n16
  by_cases w : nu 15 < nu 0
  · exact absurd hn (h.2.1.2.1 a ha hq _ w)
  · omega
theorem IV.slot1 (h : IV σ pl gq ci gr nc ot LL N nu) (ha : kO σ a 112) (hn : gP σ a (nu 16) = none) : nu 16 = nu 1 := by
  have n16 := h.n16
  by_cases w : nu 16 < nu 1
  · exact absurd hn (h.2.1.2.2.1 a ha _ w)
  · omega
end LT1S
theorem nw15b {nu : Nat → Nat} {m : Nat} : NW nu (up1 nu 15 m) := ⟨fun k q => by rw [up1_n _ _ (fun w => q (by rw [w]; decide))], by rw [up1_n _ _ (by decide)]; exact Nat.le_refl _, by rw [up1_n _ _ (by decide)]; exact Nat.le_refl _, by rw [up1_n _ _ (by decide)]; exact Nat.le_refl _⟩

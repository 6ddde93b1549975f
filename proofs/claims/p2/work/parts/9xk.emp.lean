/-! a run is emptied -/
def Zr (N : Nat → Nat) (b : Nat) (n : Int) : Prop := ∀ j : Nat, (j : Int) < n → N (b + j) = 0
section ZRS
variable {σ σ' : Sg} {gq ci gr nc N N' nu : Nat → Nat} {ot : Nat → Nat → Int} {LL LL' : Nat → List Nat} {pl r x g b m : Nat} {n : Int}
theorem Zr.z : Zr N b 0 := fun j h => by omega
theorem Zr.up (h : Zr N b n) (hn : 0 ≤ n) (hk : ∀ j : Nat, (j : Int) < n → N' (b + j) = N (b + j)) (h0 : N' (b + n.toNat) = 0) : Zr N' b (n + 1) := fun j hj => by
  by_cases w : (j : Int) < n
  · rw [hk j w]; exact h j w
  · rw [show j = n.toNat by omega]; exact h0
theorem Zr.keep (h : Zr N b n) (hk : ∀ j : Nat, (j : Int) < n → N' (b + j) = N (b + j)) : Zr N' b n := fun j hj => by rw [hk j hj]; exact h j hj
theorem Zr.four (h : Zr N b n) (hn : 4 ≤ n) : N b = 0 ∧ N (b + 1) = 0 ∧ N (b + 2) = 0 ∧ N (b + 3) = 0 := ⟨h 0 (by omega), h 1 (by omega), h 2 (by omega), h 3 (by omega)⟩
theorem IV.nil (h : IV σ pl gq ci gr nc ot LL N nu) (hq : gq x = g) (hg : 11 ≤ g) (hz : N g = 0) : LL x = [] := by
  cases e : LL x with
  | nil => rfl
  | cons c T =>
    have := h.le (h.inD (x := x) (by rw [e]; simp)) (Or.inr (by omega))
    rw [hq, hz, e] at this; simp at this
theorem lbHi_nu {nu nu' : Nat → Nat} (h0 : nu' 0 = nu 0) (h1 : nu' 1 = nu 1) (h2 : nu' 2 = nu 2) (l k : Nat) : lbHi nu' l k = lbHi nu l k := by unfold lbHi; rw [h0, h1, h2]
theorem lbT_nu {nu nu' : Nat → Nat} (h2 : nu' 2 = nu 2) (l qa ca k qb cb nb rb : Nat) : lbT nu' l qa ca k qb cb nb rb = lbT nu l qa ca k qb cb nb rb := by unfold lbT; rw [h2]
theorem SA.nn9 {nu nu' : Nat → Nat} (h : SA σ gq ci gr nu) (h0 : nu' 0 = nu 0) (h1 : nu' 1 = nu 1) (h2 : nu' 2 = nu 2) : SA σ gq ci gr nu' := by
  obtain ⟨a1, a2, a3, a4, a5⟩ := h
  exact ⟨a1, fun a ha k => by rw [lbHi_nu h0 h1 h2]; exact a2 a ha k, a3, fun a ha k b e => by rw [lbT_nu h2]; exact a4 a ha k b e, a5⟩
/-- there are no tasks any more -/
theorem IV.tc0 (h : IV σ pl gq ci gr nc ot LL N nu) (hr : kO σ r 9) (z : N 11 = 0 ∧ N 12 = 0 ∧ N 13 = 0) (m : Nat) : IV (pI σ r 10 0) pl gq ci gr nc ot LL N (up1 (up1 nu 15 0) 17 m) := by
  obtain ⟨i1, i2, i3, i4, i5, i6, i7, own, i8⟩ := id h
  have u : ∀ k, k ≠ 15 → k ≠ 17 → up1 (up1 nu 15 0) 17 m k = nu k := fun k q w => by rw [up1_n _ _ w, up1_n _ _ q]
  have u15 : up1 (up1 nu 15 0) 17 m 15 = 0 := by rw [up1_n _ _ (by decide), up1_s]
  generalize up1 (up1 nu 15 0) 17 m = nu' at u u15 ⊢
  have s : Sk [586] gr σ (pI σ r 10 0) := Sk.pI (by rw [fcdO hr (by decide)]; decide)
  have oo : ∀ a j l, kO σ a l → l ≠ 9 → gI (pI σ r 10 0) a j = gI σ a j := fun a j l ha hl => by rw [gI_pI, up2_n _ _ (fun z => absurd z.1 (ha.ne hr hl))]
  have n10 : gI (pI σ r 10 0) r 10 = 0 := by rw [gI_pI, up2_s]
  have n11 : gI (pI σ r 10 0) r 11 = gI σ r 11 := by rw [gI_pI, up2_n _ _ (fun z => absurd z.2 (by decide))]
  have s1 : SA (pI σ r 10 0) gq ci gr nu := i1.pI (fun _ => by rw [labO hr (by decide)]; exact (show (0 : Int) ≤ 0 ∧ (0 : Int) ≤ (nu 0 : Int) by omega))
  refine ⟨s1.nn9 (u 0 (by decide) (by decide)) (u 1 (by decide) (by decide)) (u 2 (by decide) (by decide)), ?_, i3.sk s (by decide), ?_, i5.sk i1 s (by decide), ?_, ⟨RG.pI i7.1 (by unfold rng; omega), i7.2.sk s (by decide)⟩, own, i8.sk s (by decide)⟩
  · obtain ⟨a1, a2, a3, a4, a5, a6, ⟨r0, x1, z1, z2⟩, a8⟩ := i2
    have := h.un x1 hr rfl; subst this
    refine ⟨by rw [u 0 (by decide) (by decide), u 1 (by decide) (by decide)]; exact a1, fun t ht q j hj => a2 t ht q j (by rw [← u 0 (by decide) (by decide)]; exact hj), fun t ht j hj => a3 t ht j (by rw [← u 1 (by decide) (by decide)]; exact hj), fun c hc hi => ?_, fun r' hr' t ht q hi => ?_, ?_, ⟨r0, x1, by rw [n10, u15]; rfl, by rw [n11, u 16 (by decide) (by decide)]; exact z2⟩, a8⟩
    · rw [u 16 (by decide) (by decide)] at hi ⊢
      rw [oo c _ 2 hc (by decide), oo c _ 2 hc (by decide), oo c _ 2 hc (by decide), u 0 (by decide) (by decide)]; exact a4 c hc hi
    · exfalso
      rw [h.un (show kO σ r' 9 from hr') x1 rfl, n10] at hi; omega
    · rw [u 10 (by decide) (by decide), u 1 (by decide) (by decide)]; exact a6
  · obtain ⟨a1, a2, a3, a4, a5, a6, a7, a8⟩ := i4
    refine ⟨a1, a2, a3, a4, by rw [u 10 (by decide) (by decide)]; exact a5, fun x hx hL => ?_, fun x hx hq d hd => ?_, a8⟩
    · obtain ⟨p1, p2, p3, p4, p5, p6, p7⟩ := a6 x hx hL
      refine ⟨p1, fun w => ?_, fun w r' hr' => by rw [h.un (show kO σ r' 9 from hr') hr rfl, n11]; exact p3 w r hr, p4, p5, p6, fun w t ht q hc => by rw [oo t 0 10 ht (by decide)]; exact p7 w t ht q hc⟩
      exfalso
      rcases w with w | w | w
      · exact hL (h.nil w (by decide) z.1)
      · exact hL (h.nil w (by decide) z.2.1)
      · exact hL (h.nil w (by decide) z.2.2)
    · rw [oo d 3 0 (i8.2.2.1 x d hd).2 (by decide), u 16 (by decide) (by decide)]; exact a7 x hx hq d hd
  · have := i6.sk s rfl rfl (by decide)
    unfold SU at this ⊢; rw [u 0 (by decide) (by decide), u 5 (by decide) (by decide), u 8 (by decide) (by decide), u 9 (by decide) (by decide), u 10 (by decide) (by decide), u 12 (by decide) (by decide), u 13 (by decide) (by decide), u 14 (by decide) (by decide)]; exact this
/-- there are no channels any more -/
theorem IV.cc0 (h : IV σ pl gq ci gr nc ot LL N nu) (hr : kO σ r 9) (h15 : nu 15 = 0) (z : N 13 = 0 ∧ N 50 = 0) : IV (pI σ r 11 0) pl gq ci gr nc ot LL N (up1 nu 16 0) := by
  obtain ⟨i1, i2, i3, i4, i5, i6, i7, own, i8⟩ := id h
  have u : ∀ k, k ≠ 16 → up1 nu 16 0 k = nu k := fun k q => up1_n _ _ q
  have u16 : up1 nu 16 0 16 = 0 := up1_s _ _ _
  generalize up1 nu 16 0 = nu' at u u16 ⊢
  have s : Sk [587] gr σ (pI σ r 11 0) := Sk.pI (by rw [fcdO hr (by decide)]; decide)
  have oo : ∀ a j l, kO σ a l → l ≠ 9 → gI (pI σ r 11 0) a j = gI σ a j := fun a j l ha hl => by rw [gI_pI, up2_n _ _ (fun z => absurd z.1 (ha.ne hr hl))]
  have n11 : gI (pI σ r 11 0) r 11 = 0 := by rw [gI_pI, up2_s]
  have n10 : gI (pI σ r 11 0) r 10 = gI σ r 10 := by rw [gI_pI, up2_n _ _ (fun z => absurd z.2 (by decide))]
  have s1 : SA (pI σ r 11 0) gq ci gr nu := i1.pI (fun _ => by rw [labO hr (by decide)]; exact (show (0 : Int) ≤ 0 ∧ (0 : Int) ≤ (nu 1 : Int) by omega))
  refine ⟨s1.nn9 (u 0 (by decide)) (u 1 (by decide)) (u 2 (by decide)), ?_, i3.sk s (by decide), ?_, i5.sk i1 s (by decide), ?_, ⟨RG.pI i7.1 (by unfold rng; omega), i7.2.sk s (by decide)⟩, own, i8.sk s (by decide)⟩
  · obtain ⟨a1, a2, a3, a4, a5, a6, ⟨r0, x1, z1, z2⟩, a8⟩ := i2
    have := h.un x1 hr rfl; subst this
    refine ⟨by rw [u 0 (by decide), u 1 (by decide)]; exact a1, fun t ht q j hj => a2 t ht q j (by rw [← u 0 (by decide)]; exact hj), fun t ht j hj => a3 t ht j (by rw [← u 1 (by decide)]; exact hj), fun c hc hi => ?_, fun r' hr' t ht q hi => ?_, ?_, ⟨r0, x1, by rw [n10, u 15 (by decide)]; exact z1, by rw [n11, u16]; rfl⟩, a8⟩
    · exfalso; rw [u16] at hi; omega
    · exfalso
      rw [h.un (show kO σ r' 9 from hr') x1 rfl, n10] at hi; omega
    · rw [u 10 (by decide), u 1 (by decide)]; exact a6
  · obtain ⟨a1, a2, a3, a4, a5, a6, a7, a8⟩ := i4
    refine ⟨a1, a2, a3, a4, by rw [u 10 (by decide)]; exact a5, fun x hx hL => ?_, fun x hx hq d hd => ?_, a8⟩
    · obtain ⟨p1, p2, p3, p4, p5, p6, p7⟩ := a6 x hx hL
      exact ⟨p1, fun w r' hr' => by rw [h.un (show kO σ r' 9 from hr') hr rfl, n10]; exact p2 w r hr, fun w => absurd (h.nil w (by decide) z.2) hL, p4, p5, p6, fun w t ht q hc => by rw [oo t 0 10 ht (by decide)]; exact p7 w t ht q hc⟩
    · rw [h.nil hq (by decide) z.1] at hd; cases hd
  · have := i6.sk s rfl rfl (by decide)
    unfold SU at this ⊢; rw [u 0 (by decide), u 5 (by decide), u 8 (by decide), u 9 (by decide), u 10 (by decide), u 12 (by decide), u 13 (by decide), u 14 (by decide)]; exact this
theorem nw15 {nu : Nat → Nat} {m : Nat} : NW nu (up1 (up1 nu 15 0) 17 m) := ⟨fun k q => by rw [up1_n _ _ (fun w => q (by rw [w]; decide)), up1_n _ _ (fun w => q (by rw [w]; decide))], by rw [up1_n _ _ (by decide), up1_n _ _ (by decide)]; exact Nat.le_refl _, by rw [up1_n _ _ (by decide), up1_n _ _ (by decide)]; exact Nat.le_refl _, by rw [up1_n _ _ (by decide), up1_n _ _ (by decide)]; exact Nat.le_refl _⟩
theorem nw16 {nu : Nat → Nat} {m : Nat} : NW nu (up1 nu 16 m) := ⟨fun k q => by rw [up1_n _ _ (fun w => q (by rw [w]; decide))], by rw [up1_n _ _ (by decide)]; exact Nat.le_refl _, by rw [up1_n _ _ (by decide)]; exact Nat.le_refl _, by rw [up1_n _ _ (by decide)]; exact Nat.le_refl _⟩
end ZRS
